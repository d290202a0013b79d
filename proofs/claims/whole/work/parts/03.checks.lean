theorem inT_ok {p : Nat} {w : Cond} (h : inT p w = true) : w ∈ T0 := by
  simp only [inT, Bool.and_eq_true, decide_eq_true_eq] at h
  exact List.mem_filter.mpr ⟨List.mem_of_getElem? h.1, h.2⟩
theorem T0_good : GoodIn T0 T0 := fun w h => ⟨h, good_of_word (List.mem_filter.mp h).2⟩
set_option maxRecDepth 100000 in
theorem mtOk0 : (List.range 333).all mtC = true := by decide +kernel
set_option maxRecDepth 100000 in
theorem cpA0 : (List.range 24).map (fun k => cdW (0 + k)) = ([194, 940, 946, 949, 963, 967, 975, 971, 989, 319, 442, 581, 258, 572, 446, 1038, 615, 279, 577, 465, 606, 610, 555, 638] : List Nat).filterMap (fun i => lw_tbl[i]?) := rfl
set_option maxRecDepth 100000 in
theorem cpA24 : (List.range 24).map (fun k => cdW (24 + k)) = ([1175, 681, 685, 701, 245, 983, 1342, 929, 252, 438, 567, 829, 845, 917, 1012, 458, 454, 1016, 1008, 1004, 1000, 1025, 1021, 1033] : List Nat).filterMap (fun i => lw_tbl[i]?) := rfl
set_option maxRecDepth 100000 in
theorem cpA48 : (List.range 24).map (fun k => cdW (48 + k)) = ([1029, 994, 585, 590, 594, 634, 642, 217, 602, 624, 620, 1238, 629, 598, 127, 713, 450, 793, 148, 833, 902, 837, 841, 850] : List Nat).filterMap (fun i => lw_tbl[i]?) := rfl
set_option maxRecDepth 100000 in
theorem cpA72 : (List.range 24).map (fun k => cdW (72 + k)) = ([906, 912, 922, 119, 721, 802, 825, 936, 507, 511, 515, 519, 523, 527, 1045, 1058, 1065, 531, 536, 1074, 1101, 1109, 540, 1116] : List Nat).filterMap (fun i => lw_tbl[i]?) := rfl
set_option maxRecDepth 100000 in
theorem cpA96 : (List.range 24).map (fun k => cdW (96 + k)) = ([1128, 1135, 1143, 1150, 1157, 1164, 1171, 1182, 544, 1190, 1199, 1206, 1213, 1220, 1228, 1246, 1253, 551, 559, 563, 646, 650, 654, 658] : List Nat).filterMap (fun i => lw_tbl[i]?) := rfl
set_option maxRecDepth 100000 in
theorem cpA120 : (List.range 24).map (fun k => cdW (120 + k)) = ([662, 666, 670, 674, 689, 693, 697, 1260, 1270, 1280, 1290, 1300, 1311, 1319, 1328, 1337, 705, 1349, 1357, 709, 1120, 1078, 1048, 471] : List Nat).filterMap (fun i => lw_tbl[i]?) := rfl
set_option maxRecDepth 100000 in
theorem cpA144 : (List.range 24).map (fun k => cdW (144 + k)) = ([1233, 547, 1362, 1547, 1399, 1683, 1438, 1869, 1373, 1917, 1921, 1680, 1459, 1446, 1467, 1455, 1747, 1711, 1816, 1774, 1640, 1676, 1672, 1470] : List Nat).filterMap (fun i => lw_tbl[i]?) := rfl
set_option maxRecDepth 100000 in
theorem cpA168 : (List.range 24).map (fun k => cdW (168 + k)) = ([1463, 1451, 1442, 1723, 1719, 1715, 1664, 1656, 1668, 1660, 1652, 1648, 1687, 1644, 1695, 1691, 1890, 1632, 1699, 1703, 1636, 1628, 1619, 1623] : List Nat).filterMap (fun i => lw_tbl[i]?) := rfl
set_option maxRecDepth 100000 in
theorem cpA192 : (List.range 24).map (fun k => cdW (192 + k)) = ([1707, 1731, 1727, 1735, 1739, 1430, 1743, 1555, 1551, 1559, 1394, 1390, 1403, 1386, 1407, 1421, 1411, 1377, 1434, 1563, 1567, 1381, 1425, 1370] : List Nat).filterMap (fun i => lw_tbl[i]?) := rfl
set_option maxRecDepth 100000 in
theorem cpA216 : (List.range 24).map (fun k => cdW (216 + k)) = ([1588, 1580, 1599, 1603, 1417, 1595, 1576, 1615, 1611, 1607, 1572, 1755, 1751, 1759, 1763, 1767, 1771, 1779, 1783, 1788, 1792, 1796, 1800, 1804] : List Nat).filterMap (fun i => lw_tbl[i]?) := rfl
set_option maxRecDepth 100000 in
theorem cpA240 : (List.range 24).map (fun k => cdW (240 + k)) = ([1808, 1812, 1820, 1828, 1824, 1832, 1836, 1840, 1844, 1848, 1852, 1857, 1865, 1861, 1873, 1877, 1882, 1886, 1902, 1905, 1898, 1894, 1909, 1913] : List Nat).filterMap (fun i => lw_tbl[i]?) := rfl
set_option maxRecDepth 100000 in
theorem cpA264 : (List.range 24).map (fun k => cdW (264 + k)) = ([1925, 1929, 1933, 1937, 1941, 1945, 1949, 1953, 1957, 1961, 1965, 1970, 1974, 1978, 1987, 1991, 1982, 1995, 2000, 2004, 2008, 2014, 2019, 2024] : List Nat).filterMap (fun i => lw_tbl[i]?) := rfl
set_option maxRecDepth 100000 in
theorem cpA288 : (List.range 24).map (fun k => cdW (288 + k)) = ([2028, 2032, 2036, 2044, 2040, 2048, 716, 797, 821, 932, 1041, 1054, 1061, 1069, 1097, 1105, 1112, 1124, 1131, 1139, 1146, 1153, 1160, 1167] : List Nat).filterMap (fun i => lw_tbl[i]?) := rfl
set_option maxRecDepth 100000 in
theorem cpA312 : (List.range 20).map (fun k => cdW (312 + k)) = ([1178, 1186, 1195, 1202, 1209, 1216, 1224, 1242, 1249, 1256, 1266, 1276, 1286, 1296, 1307, 1315, 1324, 1333, 1345, 1353] : List Nat).filterMap (fun i => lw_tbl[i]?) := rfl
theorem cp_of {n a : Nat} {ps : List Nat} (h : (List.range n).map (fun k => cdW (a + k)) = ps.filterMap (fun i => lw_tbl[i]?)) {y : Nat} (h1 : a ≤ y) (h2 : y < a + n) : cdW y ∈ T0 := by
  have hm : cdW y ∈ (List.range n).map (fun k => cdW (a + k)) := List.mem_map.mpr ⟨y - a, List.mem_range.mpr (by omega), by rw [Nat.add_sub_of_le h1]⟩
  rw [h] at hm
  obtain ⟨i, -, hi⟩ := List.mem_filterMap.mp hm
  refine List.mem_filter.mpr ⟨List.mem_of_getElem? hi, ?_⟩
  unfold cdW
  split <;> rfl
theorem cpOk {y : Nat} (h : y < 332) : cdW y ∈ T0 := by
  by_cases h0 : y < 24
  · exact cp_of cpA0 (by omega) (by omega)
  by_cases h24 : y < 48
  · exact cp_of cpA24 (by omega) (by omega)
  by_cases h48 : y < 72
  · exact cp_of cpA48 (by omega) (by omega)
  by_cases h72 : y < 96
  · exact cp_of cpA72 (by omega) (by omega)
  by_cases h96 : y < 120
  · exact cp_of cpA96 (by omega) (by omega)
  by_cases h120 : y < 144
  · exact cp_of cpA120 (by omega) (by omega)
  by_cases h144 : y < 168
  · exact cp_of cpA144 (by omega) (by omega)
  by_cases h168 : y < 192
  · exact cp_of cpA168 (by omega) (by omega)
  by_cases h192 : y < 216
  · exact cp_of cpA192 (by omega) (by omega)
  by_cases h216 : y < 240
  · exact cp_of cpA216 (by omega) (by omega)
  by_cases h240 : y < 264
  · exact cp_of cpA240 (by omega) (by omega)
  by_cases h264 : y < 288
  · exact cp_of cpA264 (by omega) (by omega)
  by_cases h288 : y < 312
  · exact cp_of cpA288 (by omega) (by omega)
  exact cp_of cpA312 (by omega) (by omega)
theorem mtOk {y : Nat} (h : y < 333) : mtC y = true := List.all_eq_true.mp mtOk0 y (List.mem_range.mpr h)
set_option maxRecDepth 100000 in
theorem lyOk0 : (List.range 11).all (fun c => (List.range (nf c)).all (fun k => inT ((lyL.getD c []).getD k 0) (u_lay (clsN c) (TT c) k))) = true := by decide +kernel
theorem lyOk {c : Nat} (hc : c < 11) : ∀ w ∈ u_ws (clsN c) (TT c) (nf c), w ∈ T0 := by
  intro w hw
  obtain ⟨k, hk, rfl⟩ := List.mem_map.mp hw
  exact inT_ok (List.all_eq_true.mp (List.all_eq_true.mp lyOk0 c (List.mem_range.mpr hc)) k hk)
theorem nmOk0 : (List.range 11).all (fun c => (List.range (nf c)).all (fun a => (List.range (nf c)).all (fun b => decide (a = b) || decide ((TT c a).2.1 ≠ (TT c b).2.1)))) = true := by decide +kernel
theorem nmOk {c : Nat} (hc : c < 11) : ∀ a, a < nf c → ∀ b, b < nf c → a ≠ b → (TT c a).2.1 ≠ (TT c b).2.1 := by
  intro a ha b hb hab
  have h := List.all_eq_true.mp (List.all_eq_true.mp (List.all_eq_true.mp nmOk0 c (List.mem_range.mpr hc)) a (List.mem_range.mpr ha)) b (List.mem_range.mpr hb)
  simp only [Bool.or_eq_true, decide_eq_true_eq] at h
  exact h.resolve_left hab
theorem tyOk0 : (List.range 11).all (fun c => (List.range (nf c)).all (tyC c)) = true := by decide +kernel
theorem tyOk {c k : Nat} (hc : c < 11) (hk : k < nf c) : tyC c k = true := List.all_eq_true.mp (List.all_eq_true.mp tyOk0 c (List.mem_range.mpr hc)) k (List.mem_range.mpr hk)
theorem vwOk0 : (List.range 11).all (fun c => decide ((vwCl[c]?).map (fun q => (q.1, q.2.2)) = some (clsN c, nf c))) = true := by decide +kernel
theorem vwOk {c : Nat} (hc : c < 11) : vwCl[c]? = some (clsN c, TT c, nf c) := by
  have : c = 0 ∨ c = 1 ∨ c = 2 ∨ c = 3 ∨ c = 4 ∨ c = 5 ∨ c = 6 ∨ c = 7 ∨ c = 8 ∨ c = 9 ∨ c = 10 := by omega
  rcases this with rfl | rfl | rfl | rfl | rfl | rfl | rfl | rfl | rfl | rfl | rfl <;> rfl
theorem neOk : neL = ([469, 250, 256, 277, 317, 625, 630, 192, 215, 434] : List Nat).filterMap (fun i => lw_tbl[i]?) := by decide +kernel
theorem neIn : ∀ w ∈ neL, w ∈ lw_tbl := by
  intro w hw
  rw [neOk] at hw
  obtain ⟨i, -, hi⟩ := List.mem_filterMap.mp hw
  exact List.mem_of_getElem? hi
theorem neTab : neL.all (fun w => w.onTables) = true := by decide +kernel
set_option maxRecDepth 100000 in
theorem ctA0 : ((ctL.drop 0).take 40).map ctW = ((ctL.drop 0).take 40).map (fun e => e.2.2.2.filterMap (fun i => lw_tbl[i]?)) := rfl
set_option maxRecDepth 100000 in
theorem ctA40 : ((ctL.drop 40).take 40).map ctW = ((ctL.drop 40).take 40).map (fun e => e.2.2.2.filterMap (fun i => lw_tbl[i]?)) := rfl
set_option maxRecDepth 100000 in
theorem ctA80 : ((ctL.drop 80).take 40).map ctW = ((ctL.drop 80).take 40).map (fun e => e.2.2.2.filterMap (fun i => lw_tbl[i]?)) := rfl
set_option maxRecDepth 100000 in
theorem ctA120 : ((ctL.drop 120).take 40).map ctW = ((ctL.drop 120).take 40).map (fun e => e.2.2.2.filterMap (fun i => lw_tbl[i]?)) := rfl
set_option maxRecDepth 100000 in
theorem ctA160 : ((ctL.drop 160).take 40).map ctW = ((ctL.drop 160).take 40).map (fun e => e.2.2.2.filterMap (fun i => lw_tbl[i]?)) := rfl
set_option maxRecDepth 100000 in
theorem ctA200 : ((ctL.drop 200).take 40).map ctW = ((ctL.drop 200).take 40).map (fun e => e.2.2.2.filterMap (fun i => lw_tbl[i]?)) := rfl
set_option maxRecDepth 100000 in
theorem ctA240 : ((ctL.drop 240).take 40).map ctW = ((ctL.drop 240).take 40).map (fun e => e.2.2.2.filterMap (fun i => lw_tbl[i]?)) := rfl
set_option maxRecDepth 100000 in
theorem ctA280 : ((ctL.drop 280).take 40).map ctW = ((ctL.drop 280).take 40).map (fun e => e.2.2.2.filterMap (fun i => lw_tbl[i]?)) := rfl
set_option maxRecDepth 100000 in
theorem ctA320 : ((ctL.drop 320).take 40).map ctW = ((ctL.drop 320).take 40).map (fun e => e.2.2.2.filterMap (fun i => lw_tbl[i]?)) := rfl
set_option maxRecDepth 100000 in
theorem ctA360 : ((ctL.drop 360).take 40).map ctW = ((ctL.drop 360).take 40).map (fun e => e.2.2.2.filterMap (fun i => lw_tbl[i]?)) := rfl
set_option maxRecDepth 100000 in
theorem ctA400 : ((ctL.drop 400).take 40).map ctW = ((ctL.drop 400).take 40).map (fun e => e.2.2.2.filterMap (fun i => lw_tbl[i]?)) := rfl
set_option maxRecDepth 100000 in
theorem ctB0 : ctL.all ctB = true := by decide +kernel
theorem ct_of {a n : Nat} (h : ((ctL.drop a).take n).map ctW = ((ctL.drop a).take n).map (fun e => e.2.2.2.filterMap (fun i => lw_tbl[i]?))) {k : Nat} {e : (Nat × Nat) × Nat × Nat × List Nat} (hk : ctL[k]? = some e) (h1 : a ≤ k) (h2 : k < a + n) : ∀ w ∈ ctW e, w ∈ lw_tbl := by
  have hm : e ∈ (ctL.drop a).take n := by
    refine List.mem_of_getElem? (i := k - a) ?_
    rw [List.getElem?_take, if_pos (by omega), List.getElem?_drop, Nat.add_sub_of_le h1]
    exact hk
  intro w hw
  rw [List.map_inj_left.mp h e hm] at hw
  obtain ⟨i, -, hi⟩ := List.mem_filterMap.mp hw
  exact List.mem_of_getElem? hi
set_option maxRecDepth 100000 in
theorem ctLen : ctL.length = 401 := by decide +kernel
theorem ctIn0 {k : Nat} {e : (Nat × Nat) × Nat × Nat × List Nat} (hk : ctL[k]? = some e) : ∀ w ∈ ctW e, w ∈ lw_tbl := by
  have hl : k < 401 := by rw [← ctLen]; exact (List.getElem?_eq_some_iff.mp hk).1
  by_cases h0 : k < 40
  · exact ct_of ctA0 hk (by omega) (by omega)
  by_cases h40 : k < 80
  · exact ct_of ctA40 hk (by omega) (by omega)
  by_cases h80 : k < 120
  · exact ct_of ctA80 hk (by omega) (by omega)
  by_cases h120 : k < 160
  · exact ct_of ctA120 hk (by omega) (by omega)
  by_cases h160 : k < 200
  · exact ct_of ctA160 hk (by omega) (by omega)
  by_cases h200 : k < 240
  · exact ct_of ctA200 hk (by omega) (by omega)
  by_cases h240 : k < 280
  · exact ct_of ctA240 hk (by omega) (by omega)
  by_cases h280 : k < 320
  · exact ct_of ctA280 hk (by omega) (by omega)
  by_cases h320 : k < 360
  · exact ct_of ctA320 hk (by omega) (by omega)
  by_cases h360 : k < 400
  · exact ct_of ctA360 hk (by omega) (by omega)
  exact ct_of ctA400 hk (by omega) (by omega)
theorem ctIn {o i : Nat} {e : Nat × Nat × List Nat} (h : ctN o i = some e) : (∀ w ∈ ctW ((o, i), e), w ∈ lw_tbl) ∧ ctB ((o, i), e) = true := by
  unfold ctN at h
  cases hf : ctL.find? (fun e => e.1.1 == o && e.1.2 == i) with
  | none => rw [hf] at h; cases h
  | some f =>
    rw [hf] at h
    have h2 : f.2 = e := Option.some.inj h
    have h3 := List.find?_some hf
    simp only [Bool.and_eq_true, beq_iff_eq] at h3
    have hm := List.mem_of_find?_eq_some hf
    have h4 := List.all_eq_true.mp ctB0 f hm
    obtain ⟨k, hk⟩ := List.getElem?_of_mem hm
    have h5 := ctIn0 hk
    obtain ⟨⟨a, b⟩, g⟩ := f
    obtain ⟨rfl, rfl⟩ := h3
    subst h2
    exact ⟨h5, h4⟩
set_option maxRecDepth 100000 in
theorem ftOk0 : ftL.all ftC = true := by decide +kernel
theorem ftOk {o i : Nat} {e : Nat × Nat × Nat} (h : ftN o i = some e) : ftC ((o, i), e) = true := by
  unfold ftN at h
  cases hf : ftL.find? (fun e => e.1.1 == o && e.1.2 == i) with
  | none => rw [hf] at h; cases h
  | some f =>
    rw [hf] at h
    have h2 : f.2 = e := Option.some.inj h
    have h3 := List.find?_some hf
    simp only [Bool.and_eq_true, beq_iff_eq] at h3
    have h4 := List.all_eq_true.mp ftOk0 f (List.mem_of_find?_eq_some hf)
    obtain ⟨⟨a, b⟩, g⟩ := f
    obtain ⟨rfl, rfl⟩ := h3
    subst h2
    exact h4
theorem clOk0 : clL.all clC = true := by decide +kernel
theorem clOk {o i : Nat} {e : Nat × Nat × Nat × Nat} (h : clN o i = some e) : clC ((o, i), e) = true := by
  unfold clN at h
  cases hf : clL.find? (fun e => e.1.1 == o && e.1.2 == i) with
  | none => rw [hf] at h; cases h
  | some f =>
    rw [hf] at h
    have h2 : f.2 = e := Option.some.inj h
    have h3 := List.find?_some hf
    simp only [Bool.and_eq_true, beq_iff_eq] at h3
    have h4 := List.all_eq_true.mp clOk0 f (List.mem_of_find?_eq_some hf)
    obtain ⟨⟨a, b⟩, g⟩ := f
    obtain ⟨rfl, rfl⟩ := h3
    subst h2
    exact h4
theorem kiOk0 : kiL.all kiC = true := by decide +kernel
theorem kiOk {o i : Nat} {e : Int32 × Nat} (h : kiN o i = some e) : kiC ((o, i), e) = true := by
  unfold kiN at h
  cases hf : kiL.find? (fun e => e.1.1 == o && e.1.2 == i) with
  | none => rw [hf] at h; cases h
  | some f =>
    rw [hf] at h
    have h2 : f.2 = e := Option.some.inj h
    have h3 := List.find?_some hf
    simp only [Bool.and_eq_true, beq_iff_eq] at h3
    have h4 := List.all_eq_true.mp kiOk0 f (List.mem_of_find?_eq_some hf)
    obtain ⟨⟨a, b⟩, g⟩ := f
    obtain ⟨rfl, rfl⟩ := h3
    subst h2
    exact h4
theorem klOk0 : klL.all klC = true := by decide +kernel
theorem klOk {o i : Nat} {e : Int64 × Nat} (h : klN o i = some e) : klC ((o, i), e) = true := by
  unfold klN at h
  cases hf : klL.find? (fun e => e.1.1 == o && e.1.2 == i) with
  | none => rw [hf] at h; cases h
  | some f =>
    rw [hf] at h
    have h2 : f.2 = e := Option.some.inj h
    have h3 := List.find?_some hf
    simp only [Bool.and_eq_true, beq_iff_eq] at h3
    have h4 := List.all_eq_true.mp klOk0 f (List.mem_of_find?_eq_some hf)
    obtain ⟨⟨a, b⟩, g⟩ := f
    obtain ⟨rfl, rfl⟩ := h3
    subst h2
    exact h4
