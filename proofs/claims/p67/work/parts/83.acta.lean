/-! ===== every act ===== -/
def actA (w x y z : Int) (A : AV) : AV := if w ≤ 1 then a1A A x y z else if w ≤ 4 then (mkS 1 A).2 else if w = 5 then (mkS 60 A).2 else if w = 6 then a6A A x y else if w = 7 then waitA A (1 + z % 90) else if w = 8 then up2 A 0 1 (if z % 5 > 0 then z % 17 - 8 else z % 199 - 99) else a9A A x y z
section ActA
variable {l : LX} {v w x y z : Int} {S : GS} {A : AV}
theorem act_pi {c : Int} (h : AINV A c) (hP : PI A) (x0 : 0 ≤ x) (x1 : x ≤ 99999) (z0 : 0 ≤ z) : PI (actA w x y z A) ∧ A 0 7 ≤ actA w x y z A 0 7 ∧ actA w x y z A 0 7 ≤ A 0 7 + 36000 := by
  have hxm0 := Int.emod_nonneg x (b := A 0 5)
  have hxm1 := Int.emod_lt_of_pos x (b := A 0 5)
  have hms := h.ms
  unfold actA
  split
  · unfold a1A
    split
    · obtain ⟨a1, a2, a3, -⟩ := add_ok (B := ltB y z (1 + x % 10)) (n := 1 + x % 10) h hP (by omega)
      exact ⟨a1, by omega, by omega⟩
    · exact ⟨hP, by omega, by omega⟩
  · split
    · have := mk_ok 1 A _ h hP
      exact ⟨this.1, this.2.1, by omega⟩
    · split
      · have := mk_ok 60 A _ h hP
        exact ⟨this.1, this.2.1, by omega⟩
      · split
        · unfold a6A
          split
          · exact ⟨hP, by omega, by omega⟩
          · rename_i d0
            have hml := h.msg (x % A 0 5) (hxm0 d0) (hxm1 (by omega))
            split
            · split
              · have e7 : (gvA A (x % A 0 5)).2 0 7 = A 0 7 := gvS_k (by decide) 7 _
                exact ⟨pi_gv hP, by omega, by omega⟩
              · exact ⟨hP, by omega, by omega⟩
            · split
              · obtain ⟨a1, a2, a3, -⟩ := add_ok (B := txtA A (x % A 0 5)) (n := A 4 (x % A 0 5)) h hP hml.1
                exact ⟨a1, by omega, by omega⟩
              · exact ⟨hP, by omega, by omega⟩
        · split
          · have e7 := wait_7 (A := A) (t := 1 + z % 90)
            exact ⟨pi_wait (by omega) hP, by omega, by omega⟩
          · split
            · have e7 : up2 A 0 1 (if z % 5 > 0 then z % 17 - 8 else z % 199 - 99) 0 7 = A 0 7 := up2_i (by decide)
              exact ⟨pi_drift hP, by omega, by omega⟩
            · unfold a9A
              split
              · split
                · have e7 : dogA A (2 + x % 300) (1 + z % min (2 + x % 300 - 1) 20) (x % 50) 0 7 = A 0 7 := dogA_o (by decide) (fun _ => by decide)
                  exact ⟨pi_dog hP, by omega, by omega⟩
                · exact ⟨hP, by omega, by omega⟩
              · split
                · have e7 : rmA A (x % 3) 0 7 = A 0 7 := by
                    unfold rmA
                    rw [if_pos rfl, if_neg (by decide)]
                  exact ⟨pi_rm hP, by omega, by omega⟩
                · exact ⟨hP, by omega, by omega⟩
theorem ct_acts (hl : l.1.stackTraces = false) (hS : GOK S) (hL : gL S = 0) (hPi : PI (gA S)) (hc : gA S 0 7 ≤ 600000) {I : Nat → Int → Int} (hI : CREL I S) (x0 : 0 ≤ x) (x1 : x ≤ 99999) (y0 : 0 ≤ y) (y1 : y ≤ 99999) (z0 : 0 ≤ z) (z1 : z ≤ 99999) (w0 : 0 ≤ w) (w1 : w ≤ 9) : CT l 311 [.ref 0, .int (iI w), .int (iI x), .int (iI y), .int (iI z)] (mm 181 I v false) 41 (6 * 41) (oE 181 v false (some (.int (iI 1))) (AC S (actA w x y z (gA S)))) := by
  refine act_0 (B := 40) hl hS hI x0 x1 (fun I hI => ?_)
  have h9 : w = 0 ∨ w = 1 ∨ w = 2 ∨ w = 3 ∨ w = 4 ∨ w = 5 ∨ w = 6 ∨ w = 7 ∨ w = 8 ∨ w = 9 := by omega
  rcases h9 with rfl | rfl | rfl | rfl | rfl | rfl | rfl | rfl | rfl | rfl
  · exact act_n0 hl hS hL hPi hc hI x0 x1 y0 y1 z0 z1
  · exact act_n1 hl hS hL hPi hc hI x0 x1 y0 y1 z0 z1
  · exact ex_le (B' := 30) (by omega) rfl (act_2 hl hS hL hPi hc hI x0 x1 y0 y1 z0 z1)
  · exact ex_le (B' := 30) (by omega) rfl (act_3 hl hS hL hPi hc hI x0 x1 y0 y1 z0 z1)
  · exact ex_le (B' := 30) (by omega) rfl (act_4 hl hS hL hPi hc hI x0 x1 y0 y1 z0 z1)
  · exact ex_le (B' := 30) (by omega) rfl (act_5 hl hS hL hPi hc hI x0 x1 y0 y1 z0 z1)
  · exact ex_le (B' := 30) (by omega) rfl (act_6 hl hS hL hPi hc hI x0 x1 y0 y1 z0 z1)
  · exact ex_le (B' := 30) (by omega) rfl (act_7 hl hS hL hPi hc hI x0 x1 y0 y1 z0 z1)
  · exact ex_le (B' := 30) (by omega) rfl (act_8 hl hS hL hPi hc hI x0 x1 y0 y1 z0 z1)
  · exact ex_le (B' := 30) (by omega) rfl (act_9 hl hS hL hPi hc hI x0 x1 y0 y1 z0 z1)
end ActA
