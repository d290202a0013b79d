theorem inT_ok {p : Nat} {w : Cond} (h : inT p w = true) : w ∈ T0 := by
  simp only [inT, Bool.and_eq_true, decide_eq_true_eq] at h
  exact List.mem_filter.mpr ⟨List.mem_of_getElem? h.1, h.2⟩
theorem T0_good : GoodIn T0 T0 := fun w h => ⟨h, good_of_word (List.mem_filter.mp h).2⟩
set_option maxRecDepth 100000 in
theorem mtOk0 : (List.range 333).all mtC = true := by decide +kernel
set_option maxRecDepth 100000 in
theorem cpA0 : (List.range 24).map (fun k => cdW (0 + k)) = ([109, 109, 109, 109, 109, 109, 109, 109, 109, 231, 352, 581, 170, 572, 356, 885, 538, 191, 577, 375, 529, 533, 783, 800] : List Nat).filterMap (fun i => lw_tbl[i]?) := rfl
set_option maxRecDepth 100000 in
theorem cpA24 : (List.range 24).map (fun k => cdW (24 + k)) = ([1025, 1092, 1096, 1079, 157, 762, 909, 605, 164, 348, 567, 693, 712, 738, 825, 368, 364, 829, 821, 817, 835, 844, 849, 859] : List Nat).filterMap (fun i => lw_tbl[i]?) := rfl
set_option maxRecDepth 100000 in
theorem cpA48 : (List.range 24).map (fun k => cdW (48 + k)) = ([864, 773, 779, 787, 791, 796, 804, 130, 525, 547, 543, 899, 554, 521, 51, 705, 360, 675, 71, 697, 723, 701, 708, 717] : List Nat).filterMap (fun i => lw_tbl[i]?) := rfl
set_option maxRecDepth 100000 in
theorem cpA72 : (List.range 24).map (fun k => cdW (72 + k)) = ([727, 733, 743, 43, 670, 680, 689, 109, 109, 109, 417, 1041, 921, 926, 994, 1029, 1033, 109, 960, 964, 968, 1002, 421, 981] : List Nat).filterMap (fun i => lw_tbl[i]?) := rfl
set_option maxRecDepth 100000 in
theorem cpA96 : (List.range 24).map (fun k => cdW (96 + k)) = ([985, 1016, 973, 977, 1009, 990, 1021, 1046, 1345, 1052, 1058, 1066, 1062, 425, 889, 559, 109, 1070, 917, 1336, 1340, 931, 936, 941] : List Nat).filterMap (fun i => lw_tbl[i]?) := rfl
set_option maxRecDepth 100000 in
theorem cpA120 : (List.range 24).map (fun k => cdW (120 + k)) = ([946, 951, 956, 1087, 1100, 1083, 1075, 755, 768, 808, 840, 854, 869, 874, 880, 904, 563, 585, 109, 109, 429, 812, 500, 381] : List Nat).filterMap (fun i => lw_tbl[i]?) := rfl
set_option maxRecDepth 100000 in
theorem cpA144 : (List.range 24).map (fun k => cdW (144 + k)) = ([894, 550, 1108, 1348, 1280, 1137, 1245, 1206, 1355, 1111, 1351, 1283, 1140, 1248, 1144, 1148, 1174, 1295, 1299, 1220, 1228, 1211, 1214, 622] : List Nat).filterMap (fun i => lw_tbl[i]?) := rfl
set_option maxRecDepth 100000 in
theorem cpA168 : (List.range 24).map (fun k => cdW (168 + k)) = ([632, 1304, 626, 636, 642, 639, 1177, 647, 1254, 1251, 1160, 1232, 1235, 1238, 1151, 1226, 109, 109, 109, 109, 109, 109, 109, 109] : List Nat).filterMap (fun i => lw_tbl[i]?) := rfl
set_option maxRecDepth 100000 in
theorem cpA192 : (List.range 24).map (fun k => cdW (192 + k)) = ([109, 109, 109, 109, 109, 109, 109, 109, 109, 109, 109, 109, 109, 109, 109, 109, 109, 109, 109, 109, 109, 109, 109, 109] : List Nat).filterMap (fun i => lw_tbl[i]?) := rfl
set_option maxRecDepth 100000 in
theorem cpA216 : (List.range 24).map (fun k => cdW (216 + k)) = ([109, 109, 109, 109, 109, 109, 109, 109, 109, 109, 109, 109, 109, 109, 109, 109, 109, 109, 109, 109, 109, 109, 109, 109] : List Nat).filterMap (fun i => lw_tbl[i]?) := rfl
set_option maxRecDepth 100000 in
theorem cpA240 : (List.range 24).map (fun k => cdW (240 + k)) = ([109, 109, 109, 109, 109, 109, 109, 109, 109, 109, 109, 109, 109, 109, 109, 109, 109, 109, 109, 109, 109, 109, 109, 109] : List Nat).filterMap (fun i => lw_tbl[i]?) := rfl
set_option maxRecDepth 100000 in
theorem cpA264 : (List.range 24).map (fun k => cdW (264 + k)) = ([109, 109, 109, 109, 109, 109, 109, 109, 109, 109, 109, 109, 109, 109, 109, 109, 109, 109, 109, 109, 109, 109, 109, 109] : List Nat).filterMap (fun i => lw_tbl[i]?) := rfl
set_option maxRecDepth 100000 in
theorem cpA288 : (List.range 24).map (fun k => cdW (288 + k)) = ([109, 109, 109, 109, 109, 109, 109, 109, 109, 109, 109, 109, 608, 684, 618, 615, 749, 912, 1012, 1005, 1037, 998, 1332, 1103] : List Nat).filterMap (fun i => lw_tbl[i]?) := rfl
set_option maxRecDepth 100000 in
theorem cpA312 : (List.range 20).map (fun k => cdW (312 + k)) = ([109, 109, 109, 109, 109, 109, 109, 109, 109, 109, 109, 109, 109, 109, 109, 109, 109, 109, 109, 109] : List Nat).filterMap (fun i => lw_tbl[i]?) := rfl
theorem cp_of {n a : Nat} {ps : List Nat} (h : (List.range n).map (fun k => cdW (a + k)) = ps.filterMap (fun i => lw_tbl[i]?)) {y : Nat} (h1 : a ≤ y) (h2 : y < a + n) : cdW y ∈ T0 := by
  have hm : cdW y ∈ (List.range n).map (fun k => cdW (a + k)) := List.mem_map.mpr ⟨y - a, List.mem_range.mpr (by omega), by rw [Nat.add_sub_of_le h1]⟩
  rw [h] at hm
  obtain ⟨i, -, hi⟩ := List.mem_filterMap.mp hm
  refine List.mem_filter.mpr ⟨List.mem_of_getElem? hi, ?_⟩
  unfold cdW
  split <;> rfl
theorem cpOk {y : Nat} (h : y < 332) : cdW y ∈ T0 := by
  by_cases h0 : y < 24
  · exact cp_of cpA0 (by omega) (by omega)
  by_cases h24 : y < 48
  · exact cp_of cpA24 (by omega) (by omega)
  by_cases h48 : y < 72
  · exact cp_of cpA48 (by omega) (by omega)
  by_cases h72 : y < 96
  · exact cp_of cpA72 (by omega) (by omega)
  by_cases h96 : y < 120
  · exact cp_of cpA96 (by omega) (by omega)
  by_cases h120 : y < 144
  · exact cp_of cpA120 (by omega) (by omega)
  by_cases h144 : y < 168
  · exact cp_of cpA144 (by omega) (by omega)
  by_cases h168 : y < 192
  · exact cp_of cpA168 (by omega) (by omega)
  by_cases h192 : y < 216
  · exact cp_of cpA192 (by omega) (by omega)
  by_cases h216 : y < 240
  · exact cp_of cpA216 (by omega) (by omega)
  by_cases h240 : y < 264
  · exact cp_of cpA240 (by omega) (by omega)
  by_cases h264 : y < 288
  · exact cp_of cpA264 (by omega) (by omega)
  by_cases h288 : y < 312
  · exact cp_of cpA288 (by omega) (by omega)
  exact cp_of cpA312 (by omega) (by omega)
theorem mtOk {y : Nat} (h : y < 333) : mtC y = true := List.all_eq_true.mp mtOk0 y (List.mem_range.mpr h)
theorem okC_lt {c : Nat} (hc : okC c = true) : c < 16 := by
  simp only [okC, Bool.or_eq_true, decide_eq_true_eq] at hc
  omega
set_option maxRecDepth 100000 in
theorem lyOk0 : (List.range 16).all (fun c => !(okC c) || (List.range (nf c)).all (fun k => inT ((lyL.getD c []).getD k 0) (u_lay (clsN c) (TT c) k))) = true := by decide +kernel
theorem lyOk {c : Nat} (hc : okC c = true) : ∀ w ∈ u_ws (clsN c) (TT c) (nf c), w ∈ T0 := by
  intro w hw
  obtain ⟨k, hk, rfl⟩ := List.mem_map.mp hw
  have h := List.all_eq_true.mp lyOk0 c (List.mem_range.mpr (okC_lt hc))
  rw [hc] at h
  exact inT_ok (List.all_eq_true.mp h k hk)
theorem nmOk0 : (List.range 16).all (fun c => !(okC c) || (List.range (nf c)).all (fun a => (List.range (nf c)).all (fun b => decide (a = b) || decide ((TT c a).2.1 ≠ (TT c b).2.1)))) = true := by decide +kernel
theorem nmOk {c : Nat} (hc : okC c = true) : ∀ a, a < nf c → ∀ b, b < nf c → a ≠ b → (TT c a).2.1 ≠ (TT c b).2.1 := by
  intro a ha b hb hab
  have h0 := List.all_eq_true.mp nmOk0 c (List.mem_range.mpr (okC_lt hc))
  rw [hc] at h0
  have h := List.all_eq_true.mp (List.all_eq_true.mp h0 a (List.mem_range.mpr ha)) b (List.mem_range.mpr hb)
  simp only [Bool.or_eq_true, decide_eq_true_eq] at h
  exact h.resolve_left hab
theorem tyOk0 : (List.range 16).all (fun c => !(okC c) || (List.range (nf c)).all (tyC c)) = true := by decide +kernel
theorem tyOk {c k : Nat} (hc : okC c = true) (hk : k < nf c) : tyC c k = true := by
  have h := List.all_eq_true.mp tyOk0 c (List.mem_range.mpr (okC_lt hc))
  rw [hc] at h
  exact List.all_eq_true.mp h k (List.mem_range.mpr hk)
theorem vwOk0 : (List.range 16).all (fun c => !(okC c) || decide ((vwCl[c]?).map (fun q => (q.1, q.2.2)) = some (clsN c, nf c))) = true := by decide +kernel
theorem vwOk {c : Nat} (hc : okC c = true) : vwCl[c]? = some (clsN c, TT c, nf c) := by
  have : c = 0 ∨ c = 1 ∨ c = 2 ∨ c = 3 ∨ c = 4 ∨ c = 5 ∨ c = 6 ∨ c = 7 ∨ c = 8 ∨ c = 9 ∨ c = 10 ∨ c = 12 ∨ c = 15 := by
    simp only [okC, Bool.or_eq_true, decide_eq_true_eq] at hc
    omega
  rcases this with rfl | rfl | rfl | rfl | rfl | rfl | rfl | rfl | rfl | rfl | rfl | rfl | rfl <;> rfl
theorem neOk : neL = ([379, 162, 168, 189, 229, 548, 555, 107, 128, 344] : List Nat).filterMap (fun i => lw_tbl[i]?) := by decide +kernel
theorem neIn : ∀ w ∈ neL, w ∈ lw_tbl := by
  intro w hw
  rw [neOk] at hw
  obtain ⟨i, -, hi⟩ := List.mem_filterMap.mp hw
  exact List.mem_of_getElem? hi
theorem neTab : neL.all (fun w => w.onTables) = true := by decide +kernel
set_option maxRecDepth 100000 in
theorem ctA0 : ((ctL.drop 0).take 40).map ctW = ((ctL.drop 0).take 40).map (fun e => e.2.2.2.filterMap (fun i => lw_tbl[i]?)) := rfl
set_option maxRecDepth 100000 in
theorem ctA40 : ((ctL.drop 40).take 40).map ctW = ((ctL.drop 40).take 40).map (fun e => e.2.2.2.filterMap (fun i => lw_tbl[i]?)) := rfl
set_option maxRecDepth 100000 in
theorem ctA80 : ((ctL.drop 80).take 40).map ctW = ((ctL.drop 80).take 40).map (fun e => e.2.2.2.filterMap (fun i => lw_tbl[i]?)) := rfl
set_option maxRecDepth 100000 in
theorem ctA120 : ((ctL.drop 120).take 40).map ctW = ((ctL.drop 120).take 40).map (fun e => e.2.2.2.filterMap (fun i => lw_tbl[i]?)) := rfl
set_option maxRecDepth 100000 in
theorem ctA160 : ((ctL.drop 160).take 40).map ctW = ((ctL.drop 160).take 40).map (fun e => e.2.2.2.filterMap (fun i => lw_tbl[i]?)) := rfl
set_option maxRecDepth 100000 in
theorem ctA200 : ((ctL.drop 200).take 40).map ctW = ((ctL.drop 200).take 40).map (fun e => e.2.2.2.filterMap (fun i => lw_tbl[i]?)) := rfl
set_option maxRecDepth 100000 in
theorem ctB0 : ctL.all ctB = true := by decide +kernel
theorem ct_of {a n : Nat} (h : ((ctL.drop a).take n).map ctW = ((ctL.drop a).take n).map (fun e => e.2.2.2.filterMap (fun i => lw_tbl[i]?))) {k : Nat} {e : (Nat × Nat) × Nat × Nat × List Nat} (hk : ctL[k]? = some e) (h1 : a ≤ k) (h2 : k < a + n) : ∀ w ∈ ctW e, w ∈ lw_tbl := by
  have hm : e ∈ (ctL.drop a).take n := by
    refine List.mem_of_getElem? (i := k - a) ?_
    rw [List.getElem?_take, if_pos (by omega), List.getElem?_drop, Nat.add_sub_of_le h1]
    exact hk
  intro w hw
  rw [List.map_inj_left.mp h e hm] at hw
  obtain ⟨i, -, hi⟩ := List.mem_filterMap.mp hw
  exact List.mem_of_getElem? hi
set_option maxRecDepth 100000 in
theorem ctLen : ctL.length = 239 := by decide +kernel
theorem ctIn0 {k : Nat} {e : (Nat × Nat) × Nat × Nat × List Nat} (hk : ctL[k]? = some e) : ∀ w ∈ ctW e, w ∈ lw_tbl := by
  have hl : k < 239 := by rw [← ctLen]; exact (List.getElem?_eq_some_iff.mp hk).1
  by_cases h0 : k < 40
  · exact ct_of ctA0 hk (by omega) (by omega)
  by_cases h40 : k < 80
  · exact ct_of ctA40 hk (by omega) (by omega)
  by_cases h80 : k < 120
  · exact ct_of ctA80 hk (by omega) (by omega)
  by_cases h120 : k < 160
  · exact ct_of ctA120 hk (by omega) (by omega)
  by_cases h160 : k < 200
  · exact ct_of ctA160 hk (by omega) (by omega)
  exact ct_of ctA200 hk (by omega) (by omega)
theorem ctIn {o i : Nat} {e : Nat × Nat × List Nat} (h : ctN o i = some e) : (∀ w ∈ ctW ((o, i), e), w ∈ lw_tbl) ∧ ctB ((o, i), e) = true := by
  unfold ctN at h
  cases hf : ctL.find? (fun e => e.1.1 == o && e.1.2 == i) with
  | none => rw [hf] at h; cases h
  | some f =>
    rw [hf] at h
    have h2 : f.2 = e := Option.some.inj h
    have h3 := List.find?_some hf
    simp only [Bool.and_eq_true, beq_iff_eq] at h3
    have hm := List.mem_of_find?_eq_some hf
    have h4 := List.all_eq_true.mp ctB0 f hm
    obtain ⟨k, hk⟩ := List.getElem?_of_mem hm
    have h5 := ctIn0 hk
    obtain ⟨⟨a, b⟩, g⟩ := f
    obtain ⟨rfl, rfl⟩ := h3
    subst h2
    exact ⟨h5, h4⟩
set_option maxRecDepth 100000 in
theorem ftOk0 : ftL.all ftC = true := by decide +kernel
theorem ftOk {o i : Nat} {e : Nat × Nat × Nat} (h : ftN o i = some e) : ftC ((o, i), e) = true := by
  unfold ftN at h
  cases hf : ftL.find? (fun e => e.1.1 == o && e.1.2 == i) with
  | none => rw [hf] at h; cases h
  | some f =>
    rw [hf] at h
    have h2 : f.2 = e := Option.some.inj h
    have h3 := List.find?_some hf
    simp only [Bool.and_eq_true, beq_iff_eq] at h3
    have h4 := List.all_eq_true.mp ftOk0 f (List.mem_of_find?_eq_some hf)
    obtain ⟨⟨a, b⟩, g⟩ := f
    obtain ⟨rfl, rfl⟩ := h3
    subst h2
    exact h4
theorem clOk0 : clL.all clC = true := by decide +kernel
theorem clOk {o i : Nat} {e : Nat × Nat × Nat × Nat} (h : clN o i = some e) : clC ((o, i), e) = true := by
  unfold clN at h
  cases hf : clL.find? (fun e => e.1.1 == o && e.1.2 == i) with
  | none => rw [hf] at h; cases h
  | some f =>
    rw [hf] at h
    have h2 : f.2 = e := Option.some.inj h
    have h3 := List.find?_some hf
    simp only [Bool.and_eq_true, beq_iff_eq] at h3
    have h4 := List.all_eq_true.mp clOk0 f (List.mem_of_find?_eq_some hf)
    obtain ⟨⟨a, b⟩, g⟩ := f
    obtain ⟨rfl, rfl⟩ := h3
    subst h2
    exact h4
theorem kiOk0 : kiL.all kiC = true := by decide +kernel
theorem kiOk {o i : Nat} {e : Int32 × Nat} (h : kiN o i = some e) : kiC ((o, i), e) = true := by
  unfold kiN at h
  cases hf : kiL.find? (fun e => e.1.1 == o && e.1.2 == i) with
  | none => rw [hf] at h; cases h
  | some f =>
    rw [hf] at h
    have h2 : f.2 = e := Option.some.inj h
    have h3 := List.find?_some hf
    simp only [Bool.and_eq_true, beq_iff_eq] at h3
    have h4 := List.all_eq_true.mp kiOk0 f (List.mem_of_find?_eq_some hf)
    obtain ⟨⟨a, b⟩, g⟩ := f
    obtain ⟨rfl, rfl⟩ := h3
    subst h2
    exact h4
theorem klOk0 : klL.all klC = true := by decide +kernel
theorem klOk {o i : Nat} {e : Int64 × Nat} (h : klN o i = some e) : klC ((o, i), e) = true := by
  unfold klN at h
  cases hf : klL.find? (fun e => e.1.1 == o && e.1.2 == i) with
  | none => rw [hf] at h; cases h
  | some f =>
    rw [hf] at h
    have h2 : f.2 = e := Option.some.inj h
    have h3 := List.find?_some hf
    simp only [Bool.and_eq_true, beq_iff_eq] at h3
    have h4 := List.all_eq_true.mp klOk0 f (List.mem_of_find?_eq_some hf)
    obtain ⟨⟨a, b⟩, g⟩ := f
    obtain ⟨rfl, rfl⟩ := h3
    subst h2
    exact h4
