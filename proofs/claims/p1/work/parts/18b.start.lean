/-! the law's entry: the world as it stands then -/
set_option maxHeartbeats 2000000 in
theorem xm_nw {w : Cond} {A : Array Value} {s : State} (h : w.before A s = true) (hk : xm_okx w = true) : va_Nw w s := by
  by_cases ht : w.onTables = true
  · exact va_Nw.of ht h
  · cases w <;> first | exact absurd rfl ht | exact h | (exfalso; simp [xm_okx, xm_okw, goodWord, ht] at hk; done)
def xs_tm (r : String × Nat × String × Nat) : Term := .string r.1 r.2.1
def xs_vt (r : String × Nat × String × Nat) : Term := .field (xs_tm r) "java/lang/String" "value" "[B"
def xs_cs (r : String × Nat × String × Nat) : List Cond := [.exactly (xs_tm r) "java/lang/String", .eq (.field (xs_tm r) "java/lang/String" "coder" "B") (.int 0), .arrayOf (xs_vt r) .byte, .eq (.length (xs_vt r)) (.int (Int32.ofNat (xm_tx r.2.2.2).length))] ++ (List.range (xm_tx r.2.2.2).length).map (fun j => .eq (.elem (xs_vt r) (.int (Int32.ofNat j))) (.int ((xm_tx r.2.2.2).getD j 0)))
def xs_fl : List Cond := flatC (Jvm.Cond.and given_1 narrow_1)
def xs_at (w : Cond) (i : Nat) : Bool := decide (xs_fl[i]? = some w)
def xs_ix : List (List Nat) := [[56, 57, 58, 59, 60, 61, 62, 63, 64, 65, 66, 67, 68, 69, 70, 71, 72, 73, 74, 75, 76, 77], [78, 79, 80, 81, 82, 83], [85, 86, 87, 88, 89], [92, 93, 94, 95, 96, 97, 98, 99, 100], [104, 105, 106, 107, 108, 109, 110, 111], [116, 117, 118, 119, 120, 121, 122, 123, 124], [130, 131, 132, 133, 134, 135], [142, 143, 144, 145, 146, 147, 148, 149, 150, 151, 152, 153, 154, 155, 156, 157, 158, 159, 160, 161, 162], [170, 171, 172, 173, 174, 175, 176, 177, 178, 179, 180, 181, 182, 183, 184, 185, 186, 187, 188, 189], [198, 199, 200, 201, 202, 203, 204, 205, 206, 207, 208, 209, 210, 211, 212, 213, 214, 215, 216, 217, 218, 219, 220, 221, 222, 223, 224, 225, 226, 227, 228], [238, 239, 240, 241, 242, 243, 244, 245, 246, 247, 248, 249, 250, 251, 252, 253, 254, 255, 256, 257, 258, 259, 260, 261], [272, 273, 274, 275, 276, 277, 278, 279, 280, 281, 282, 283, 284, 285, 286, 287, 288, 289, 290], [302, 303, 304, 305, 306, 307, 308, 309, 310, 311, 312, 313, 314, 315, 316, 317, 318, 319, 320, 321, 322, 323], [336, 337, 338, 339, 340, 341, 342, 343, 344, 345, 346, 347, 348, 349, 350, 351, 352, 353, 354, 355, 356], [370, 371, 372, 373, 374, 375, 376, 377, 378, 379, 380, 381, 382, 383, 384, 385, 386, 387, 388, 389, 390, 391, 392, 393], [408, 409, 410, 411, 412, 413, 414, 415, 416, 417, 418, 419, 420, 421, 422, 423, 424, 425, 426, 427, 428, 429, 430, 431, 432, 433, 434, 435]]
set_option maxRecDepth 200000 in
theorem xs_o0 : (((xs_cs (xm_sl.getD 0 ("", 0, "", 0))).zip (xs_ix.getD 0 [])).all (fun q => xs_at q.1 q.2) && decide ((xs_cs (xm_sl.getD 0 ("", 0, "", 0))).length = (xs_ix.getD 0 []).length)) = true := by decide +kernel
set_option maxRecDepth 200000 in
theorem xs_o1 : (((xs_cs (xm_sl.getD 1 ("", 0, "", 0))).zip (xs_ix.getD 1 [])).all (fun q => xs_at q.1 q.2) && decide ((xs_cs (xm_sl.getD 1 ("", 0, "", 0))).length = (xs_ix.getD 1 []).length)) = true := by decide +kernel
set_option maxRecDepth 200000 in
theorem xs_o2 : (((xs_cs (xm_sl.getD 2 ("", 0, "", 0))).zip (xs_ix.getD 2 [])).all (fun q => xs_at q.1 q.2) && decide ((xs_cs (xm_sl.getD 2 ("", 0, "", 0))).length = (xs_ix.getD 2 []).length)) = true := by decide +kernel
set_option maxRecDepth 200000 in
theorem xs_o3 : (((xs_cs (xm_sl.getD 3 ("", 0, "", 0))).zip (xs_ix.getD 3 [])).all (fun q => xs_at q.1 q.2) && decide ((xs_cs (xm_sl.getD 3 ("", 0, "", 0))).length = (xs_ix.getD 3 []).length)) = true := by decide +kernel
set_option maxRecDepth 200000 in
theorem xs_o4 : (((xs_cs (xm_sl.getD 4 ("", 0, "", 0))).zip (xs_ix.getD 4 [])).all (fun q => xs_at q.1 q.2) && decide ((xs_cs (xm_sl.getD 4 ("", 0, "", 0))).length = (xs_ix.getD 4 []).length)) = true := by decide +kernel
set_option maxRecDepth 200000 in
theorem xs_o5 : (((xs_cs (xm_sl.getD 5 ("", 0, "", 0))).zip (xs_ix.getD 5 [])).all (fun q => xs_at q.1 q.2) && decide ((xs_cs (xm_sl.getD 5 ("", 0, "", 0))).length = (xs_ix.getD 5 []).length)) = true := by decide +kernel
set_option maxRecDepth 200000 in
theorem xs_o6 : (((xs_cs (xm_sl.getD 6 ("", 0, "", 0))).zip (xs_ix.getD 6 [])).all (fun q => xs_at q.1 q.2) && decide ((xs_cs (xm_sl.getD 6 ("", 0, "", 0))).length = (xs_ix.getD 6 []).length)) = true := by decide +kernel
set_option maxRecDepth 200000 in
theorem xs_o7 : (((xs_cs (xm_sl.getD 7 ("", 0, "", 0))).zip (xs_ix.getD 7 [])).all (fun q => xs_at q.1 q.2) && decide ((xs_cs (xm_sl.getD 7 ("", 0, "", 0))).length = (xs_ix.getD 7 []).length)) = true := by decide +kernel
set_option maxRecDepth 200000 in
theorem xs_o8 : (((xs_cs (xm_sl.getD 8 ("", 0, "", 0))).zip (xs_ix.getD 8 [])).all (fun q => xs_at q.1 q.2) && decide ((xs_cs (xm_sl.getD 8 ("", 0, "", 0))).length = (xs_ix.getD 8 []).length)) = true := by decide +kernel
set_option maxRecDepth 200000 in
theorem xs_o9 : (((xs_cs (xm_sl.getD 9 ("", 0, "", 0))).zip (xs_ix.getD 9 [])).all (fun q => xs_at q.1 q.2) && decide ((xs_cs (xm_sl.getD 9 ("", 0, "", 0))).length = (xs_ix.getD 9 []).length)) = true := by decide +kernel
set_option maxRecDepth 200000 in
theorem xs_o10 : (((xs_cs (xm_sl.getD 10 ("", 0, "", 0))).zip (xs_ix.getD 10 [])).all (fun q => xs_at q.1 q.2) && decide ((xs_cs (xm_sl.getD 10 ("", 0, "", 0))).length = (xs_ix.getD 10 []).length)) = true := by decide +kernel
set_option maxRecDepth 200000 in
theorem xs_o11 : (((xs_cs (xm_sl.getD 11 ("", 0, "", 0))).zip (xs_ix.getD 11 [])).all (fun q => xs_at q.1 q.2) && decide ((xs_cs (xm_sl.getD 11 ("", 0, "", 0))).length = (xs_ix.getD 11 []).length)) = true := by decide +kernel
set_option maxRecDepth 200000 in
theorem xs_o12 : (((xs_cs (xm_sl.getD 12 ("", 0, "", 0))).zip (xs_ix.getD 12 [])).all (fun q => xs_at q.1 q.2) && decide ((xs_cs (xm_sl.getD 12 ("", 0, "", 0))).length = (xs_ix.getD 12 []).length)) = true := by decide +kernel
set_option maxRecDepth 200000 in
theorem xs_o13 : (((xs_cs (xm_sl.getD 13 ("", 0, "", 0))).zip (xs_ix.getD 13 [])).all (fun q => xs_at q.1 q.2) && decide ((xs_cs (xm_sl.getD 13 ("", 0, "", 0))).length = (xs_ix.getD 13 []).length)) = true := by decide +kernel
set_option maxRecDepth 200000 in
theorem xs_o14 : (((xs_cs (xm_sl.getD 14 ("", 0, "", 0))).zip (xs_ix.getD 14 [])).all (fun q => xs_at q.1 q.2) && decide ((xs_cs (xm_sl.getD 14 ("", 0, "", 0))).length = (xs_ix.getD 14 []).length)) = true := by decide +kernel
set_option maxRecDepth 200000 in
theorem xs_o15 : (((xs_cs (xm_sl.getD 15 ("", 0, "", 0))).zip (xs_ix.getD 15 [])).all (fun q => xs_at q.1 q.2) && decide ((xs_cs (xm_sl.getD 15 ("", 0, "", 0))).length = (xs_ix.getD 15 []).length)) = true := by decide +kernel
theorem xs_ok1 {cs : List Cond} {ix : List Nat} (h : ((cs.zip ix).all (fun q => xs_at q.1 q.2) && decide (cs.length = ix.length)) = true) : ∀ w ∈ cs, w ∈ xs_fl := by
  simp only [Bool.and_eq_true, decide_eq_true_eq] at h
  intro w hw
  obtain ⟨i, hi, rfl⟩ := List.getElem_of_mem hw
  have hi2 : i < ix.length := by omega
  have hz : (cs[i], ix[i]) ∈ cs.zip ix := by
    have h3 : i < (cs.zip ix).length := by rw [List.length_zip]; omega
    have h4 := List.getElem_mem h3
    rwa [List.getElem_zip] at h4
  have h5 := List.all_eq_true.mp h.1 _ hz
  exact List.mem_of_getElem? (of_decide_eq_true h5)
theorem xs_okn (i : Nat) (hi : i < 16) : ∀ w ∈ xs_cs (xm_sl.getD i ("", 0, "", 0)), w ∈ xs_fl := by
  match i, hi with
  | 0, _ => exact xs_ok1 xs_o0
  | 1, _ => exact xs_ok1 xs_o1
  | 2, _ => exact xs_ok1 xs_o2
  | 3, _ => exact xs_ok1 xs_o3
  | 4, _ => exact xs_ok1 xs_o4
  | 5, _ => exact xs_ok1 xs_o5
  | 6, _ => exact xs_ok1 xs_o6
  | 7, _ => exact xs_ok1 xs_o7
  | 8, _ => exact xs_ok1 xs_o8
  | 9, _ => exact xs_ok1 xs_o9
  | 10, _ => exact xs_ok1 xs_o10
  | 11, _ => exact xs_ok1 xs_o11
  | 12, _ => exact xs_ok1 xs_o12
  | 13, _ => exact xs_ok1 xs_o13
  | 14, _ => exact xs_ok1 xs_o14
  | 15, _ => exact xs_ok1 xs_o15
  | n + 16, h => exact absurd h (by omega)
theorem xs_okr {r : String × Nat × String × Nat} (hr : r ∈ xm_sl) : ∀ w ∈ xs_cs r, w ∈ xs_fl := by
  obtain ⟨i, hi, rfl⟩ := List.getElem_of_mem hr
  have hl : xm_sl.length = 16 := by decide +kernel
  have h := xs_okn i (by omega)
  rwa [List.getD_eq_getElem?_getD, List.getElem?_eq_getElem hi] at h
theorem xs_num : ∀ i, i < 16 → (xm_sl[i]?).map (fun r => r.2.2.2) = some (i + 1) := by decide +kernel
theorem xs_len : xm_sl.length = 16 := by decide +kernel
theorem xs_sz : xm_sl.all (fun r => decide ((xm_tx r.2.2.2).length < 2 ^ 31)) = true := by decide +kernel
def xs_rx : List Nat := [470, 766, 819, 959, 974, 975, 976, 989, 1022, 1041, 1067, 1109, 1118, 1129, 1143, 1160]
set_option maxRecDepth 200000 in
theorem xs_ref0 : (List.range 16).all (fun i => decide (tables_1[xs_rx.getD i 0]? = (xm_sl[i]?).map (fun r => Cond.stringRef r.1 r.2.1 r.2.2.1))) = true := by decide +kernel
theorem xs_ref {i : Nat} {r : String × Nat × String × Nat} (hi : i < 16) (h : xm_sl[i]? = some r) : Cond.stringRef r.1 r.2.1 r.2.2.1 ∈ tables_1 := by
  have h1 := of_decide_eq_true (List.all_eq_true.mp xs_ref0 i (List.mem_range.mpr hi))
  rw [h] at h1
  exact List.mem_of_getElem? h1
theorem xs_wok {w : Cond} (hw : w ∈ xm_W) : xm_okx w = true := by
  have h := List.all_eq_true.mp xm_W_ok w hw
  unfold xm_okx
  split
  · rfl
  · exact h
theorem xs_one {args : Array Value} {s : State} {A : Nat → Prop} (hfl : ∀ w ∈ xs_fl, w.before args s = true) (hA : ∀ a : Nat, a < s.heap.size → ¬ A a) {r : String × Nat × String × Nat} (hr : r ∈ xm_sl) : ∃ q : Nat × Nat, (xs_tm r).eval args s none [] s = some (.ref q.1) ∧ va_O "java/lang/String" q.1 A s s.heap ∧ va_OF "java/lang/String" "coder" "B" (.int 0) q.1 A s s.heap ∧ va_OF "java/lang/String" "value" "[B" (.ref q.2) q.1 A s s.heap ∧ va_T .byte q.2 (xm_tx r.2.2.2).length (fun j => .int ((xm_tx r.2.2.2).getD j 0)) A s s.heap := by
  have hc : ∀ w ∈ xs_cs r, w.before args s = true := fun w hw => hfl w (xs_okr hr w hw)
  have hN : (xm_tx r.2.2.2).length < 2 ^ 31 := of_decide_eq_true (List.all_eq_true.mp xs_sz r hr)
  have m1 : (Cond.exactly (xs_tm r) "java/lang/String").before args s = true := hc _ (by simp [xs_cs])
  have m2 : (Cond.eq (.field (xs_tm r) "java/lang/String" "coder" "B") (.int 0)).before args s = true := hc _ (by simp [xs_cs])
  have m3 : (Cond.arrayOf (xs_vt r) .byte).before args s = true := hc _ (by simp [xs_cs])
  have m4 : (Cond.eq (.length (xs_vt r)) (.int (Int32.ofNat (xm_tx r.2.2.2).length))).before args s = true := hc _ (by simp [xs_cs])
  obtain ⟨a, c, cA, kA, q1, q2, q3, q4, q5, q6, -⟩ := Cond.exactly_spec (args := args) (first := s) (o := none) (s := s) (idx := []) (t := xs_tm r) (cls := "java/lang/String") m1
  obtain ⟨t, ht, hT⟩ := va_Tof (f := fun j => .int ((xm_tx r.2.2.2).getD j 0)) (A := A) hN m3 (va_eqt m4) (fun j hj => va_eqt (hc _ (List.mem_append_right _ (List.mem_map.mpr ⟨j, List.mem_range.mpr hj, rfl⟩)))) hA
  exact ⟨(a, t), q1, ⟨cA, q3, q5, by rw [q6]; exact q2, hA a (Array.getElem?_eq_some_iff.mp q3).1⟩, vk_OFof q1 (va_eqt m2) hA, vk_OFof q1 ht hA, hT⟩
/-- where the small numbers stand -/
def xs_rho (sz b : Nat) (ad : Nat → Nat × Nat) (a : Nat) : Nat := if 32 ≤ a then sz + (a - 32) else if 1 ≤ a ∧ a ≤ 16 then (ad (a - 1)).1 else b
theorem xs_rho_s {sz b i : Nat} {ad : Nat → Nat × Nat} (hi : i < 16) : xs_rho sz b ad (i + 1) = (ad i).1 := by
  unfold xs_rho
  rw [if_neg (by omega), if_pos (by omega)]
  rfl
theorem xs_LS {args : Array Value} {s : State} {C n d : String} {A : Nat → Prop} (hl : (Cond.laysStatic C n d).before args s = true) (hA : ∀ a : Nat, a < s.heap.size → ¬ A a) : xm_LS C n d A s s.heap := by
  obtain ⟨c, k, i, f, a, cell, h1, h2, h3, h4, h5, h6, h7, h8, h9⟩ := Cond.laysStatic_spec hl
  exact ⟨c, k, i, f, a, cell, h1, h2, h3, h4, h5, h6, h7, h8, h9, hA a (Array.getElem?_eq_some_iff.mp h5).1⟩
theorem hz_str (L : Nat) (xs : Nat → Int32) (i : Nat) (hi : i < 16) : (hz L xs)[i + 1]? = some (xS (i + 1)) := by
  match i, hi with
  | 0, _ => rfl
  | 1, _ => rfl
  | 2, _ => rfl
  | 3, _ => rfl
  | 4, _ => rfl
  | 5, _ => rfl
  | 6, _ => rfl
  | 7, _ => rfl
  | 8, _ => rfl
  | 9, _ => rfl
  | 10, _ => rfl
  | 11, _ => rfl
  | 12, _ => rfl
  | 13, _ => rfl
  | 14, _ => rfl
  | 15, _ => rfl
  | n + 16, h => exact absurd h (by omega)
theorem hz_gap (L : Nat) (xs : Nat → Int32) (i : Nat) (hi : i < 14) : (hz L xs)[i + 17]? = some none := by
  match i, hi with
  | 0, _ => rfl
  | 1, _ => rfl
  | 2, _ => rfl
  | 3, _ => rfl
  | 4, _ => rfl
  | 5, _ => rfl
  | 6, _ => rfl
  | 7, _ => rfl
  | 8, _ => rfl
  | 9, _ => rfl
  | 10, _ => rfl
  | 11, _ => rfl
  | 12, _ => rfl
  | 13, _ => rfl
set_option maxRecDepth 200000 in
theorem xs_w1 : Cond.laysStatic "java/lang/Throwable" "UNASSIGNED_STACK" "[Ljava/lang/StackTraceElement;" ∈ tables_1 ∧ Cond.laysStatic "java/lang/Throwable" "SUPPRESSED_SENTINEL" "Ljava/util/List;" ∈ tables_1 ∧ Cond.laysStatic "java/lang/String" "COMPACT_STRINGS" "Z" ∈ tables_1 ∧ Cond.laysStatic "jdk/internal/util/Preconditions" "SIOOBE_FORMATTER" "Ljava/util/function/BiFunction;" ∈ tables_1 ∧ Cond.initialized "java/lang/Throwable" ∈ tables_1 ∧ Cond.initialized "java/lang/String" ∈ tables_1 ∧ Cond.initialized "jdk/internal/util/Preconditions" ∈ tables_1 := ⟨List.mem_of_getElem? (i := 456) (by decide +kernel), List.mem_of_getElem? (i := 458) (by decide +kernel), List.mem_of_getElem? (i := 780) (by decide +kernel), List.mem_of_getElem? (i := 796) (by decide +kernel), List.mem_of_getElem? (i := 14) (by decide +kernel), List.mem_of_getElem? (i := 19) (by decide +kernel), List.mem_of_getElem? (i := 21) (by decide +kernel)⟩
theorem xs_w2 : Cond.isRef (.static "java/lang/Throwable" "UNASSIGNED_STACK" "[Ljava/lang/StackTraceElement;") ∈ xs_fl ∧ Cond.isRef (.static "java/lang/Throwable" "SUPPRESSED_SENTINEL" "Ljava/util/List;") ∈ xs_fl ∧ Cond.eq (.static "java/lang/String" "COMPACT_STRINGS" "Z") (.int 1) ∈ xs_fl ∧ Cond.isRef (.static "jdk/internal/util/Preconditions" "SIOOBE_FORMATTER" "Ljava/util/function/BiFunction;") ∈ xs_fl := ⟨List.mem_of_getElem? (i := 4) (by decide +kernel), List.mem_of_getElem? (i := 5) (by decide +kernel), List.mem_of_getElem? (i := 6) (by decide +kernel), List.mem_of_getElem? (i := 7) (by decide +kernel)⟩
theorem xs_arr {s : State} {b : Nat} (hts : ∀ w ∈ lw_tbl, w.before #[Value.ref b] s = true) (t : Nat) : ∃ ca : ClassId, t < xm_nt → s.vm.findClass ("[" ++ (xm_ty t).toString) = some ca ∧ ∃ (kA : Class) (comp : ClassId), s.vm.classes[ca]? = some kA ∧ kA.kind = .array comp (xm_ty t) ∧ ((xm_ty t).isReference = true → s.vm.findClass (xm_cn (xm_ty t)) = some comp) := by
  have ha : ∀ w ∈ xm_xw, w.before #[Value.ref b] s = true := fun w hw => hts w (xm_W_in w (xm_xw_mem hw))
  match t with
  | 0 =>
    obtain ⟨c, k, comp, f1, f2, f3⟩ := Cond.arrayClass_spec (ha (.arrayClass .int) (by simp [xm_xw]))
    exact ⟨c, fun _ => ⟨f1, k, comp, f2, f3, fun h => by cases h⟩⟩
  | 1 =>
    obtain ⟨c, k, comp, f1, f2, f3⟩ := Cond.arrayClass_spec (ha (.arrayClass .long) (by simp [xm_xw]))
    exact ⟨c, fun _ => ⟨f1, k, comp, f2, f3, fun h => by cases h⟩⟩
  | 2 =>
    obtain ⟨c, k, comp, f1, f2, f3⟩ := Cond.arrayClass_spec (ha (.arrayClass .boolean) (by simp [xm_xw]))
    exact ⟨c, fun _ => ⟨f1, k, comp, f2, f3, fun h => by cases h⟩⟩
  | 3 =>
    obtain ⟨comp, c, k, g1, g2, g3, g4, g5⟩ := Cond.arrayOver_spec (ha (.arrayOver (.object "FabLink$Message")) (by simp [xm_xw]))
    exact ⟨c, fun _ => ⟨g5, k, comp, g3, g4, fun _ => g1⟩⟩
  | 4 =>
    obtain ⟨comp, c, k, g1, g3, g4, g5⟩ := Cond.arrayOver_specA (ha (.arrayOver (.array .int)) (by simp [xm_xw]))
    exact ⟨c, fun _ => ⟨g5, k, comp, g3, g4, fun _ => g1⟩⟩
  | t + 5 => exact ⟨0, fun h => absurd h (by unfold xm_nt; omega)⟩
theorem xm_begin {s : State} {b L : Nat} {xs : Nat → Int32} (hts : ∀ w ∈ lw_tbl, w.before #[Value.ref b] s = true) (hX : va_X b L xs s s.heap) (hgv : (Jvm.Cond.and given_1 narrow_1).before #[Value.ref b] s = true) : ∃ G : xm_G, G.1 0 = b ∧ G.2.2.2 = s.heap.size ∧ xm_K G s ∧ xm_R G s (hz L xs) s.heap := by
  have hfl : ∀ w ∈ xs_fl, w.before #[Value.ref b] s = true := flat_of_before _ hgv
  have hA : ∀ a : Nat, a < s.heap.size → ¬ (fun q : Nat => s.heap.size ≤ q) a := fun a h => Nat.not_le.mpr h
  have htb : ∀ w ∈ tables_1, w.before #[Value.ref b] s = true := fun w hw => hts w (List.mem_append_right _ hw)
  have hKW : xm_KW s := fun w hw => xm_nw (hts w (xm_W_in w hw)) (xs_wok hw)
  have h1 : ∀ i : Nat, ∃ q : Nat × Nat, ∀ r, xm_sl[i]? = some r → (xs_tm r).eval #[Value.ref b] s none [] s = some (.ref q.1) ∧ va_O "java/lang/String" q.1 (fun q : Nat => s.heap.size ≤ q) s s.heap ∧ va_OF "java/lang/String" "coder" "B" (.int 0) q.1 (fun q : Nat => s.heap.size ≤ q) s s.heap ∧ va_OF "java/lang/String" "value" "[B" (.ref q.2) q.1 (fun q : Nat => s.heap.size ≤ q) s s.heap ∧ va_T .byte q.2 (xm_tx r.2.2.2).length (fun j => .int ((xm_tx r.2.2.2).getD j 0)) (fun q : Nat => s.heap.size ≤ q) s s.heap := by
    intro i
    cases h : xm_sl[i]? with
    | none => exact ⟨(0, 0), fun r hr => by cases hr⟩
    | some r =>
      obtain ⟨q, hq⟩ := xs_one hfl hA (List.mem_of_getElem? h)
      exact ⟨q, fun r' hr' => by cases hr'; exact hq⟩
  have h2 : ∀ c : Nat, ∃ p : ClassId × (Nat → Nat), ∀ q, xm_cl[c]? = some q → u_Kn s q.1 q.2.1 q.2.2 p.1 p.2 := by
    intro c
    cases h : xm_cl[c]? with
    | none => exact ⟨(0, fun _ => 0), fun q hq => by cases hq⟩
    | some q =>
      obtain ⟨C, T, N⟩ := q
      obtain ⟨cC, iS, hk⟩ := u_known (ws := xm_W) (n := N) (T := T) (N := N) (fun w hw => hts w (xm_W_in w hw)) (fun w hw => xm_cls_mem h (List.mem_append_left _ hw)) (hts _ (xm_W_in _ (xm_cls_mem h (List.mem_append_right _ List.mem_cons_self))))
      exact ⟨(cC, iS), fun q hq => by cases hq; exact hk⟩
  obtain ⟨ad, had⟩ := Classical.axiomOfChoice h1
  obtain ⟨kc, hkc⟩ := Classical.axiomOfChoice h2
  obtain ⟨ka, hka⟩ := Classical.axiomOfChoice (xs_arr hts)
  obtain ⟨scr, x1, x2, x3, x4, x5⟩ := hX
  have hb : b < s.heap.size := (Array.getElem?_eq_some_iff.mp x1).1
  have hget : ∀ i, i < 16 → ∃ r, xm_sl[i]? = some r ∧ r.2.2.2 = i + 1 := by
    intro i hi
    have h := xs_num i hi
    cases hr : xm_sl[i]? with
    | none => rw [hr] at h; cases h
    | some r => rw [hr] at h; exact ⟨r, rfl, Option.some.inj h⟩
  refine ⟨(xs_rho s.heap.size b ad, (fun c => (kc c).1, fun c => (kc c).2), ka, s.heap.size), rfl, rfl, ⟨⟨fun i => ?_, fun i hi => ?_⟩, hKW, fun c q hq => hkc c q hq, fun t ht => hka t ht, fun r hr => ?_, fun w hw hk => xm_nw (htb w hw) hk⟩, ⟨Nat.le_refl 32, rfl, fun a e he => ?_⟩⟩
  · show xs_rho _ _ _ (32 + i) = _
    unfold xs_rho
    rw [if_pos (by omega)]
    show s.heap.size + (32 + i - 32) = s.heap.size + i
    omega
  · show xs_rho _ _ _ i < s.heap.size
    have hi' : i < 32 := hi
    by_cases h : 1 ≤ i ∧ i ≤ 16
    · obtain ⟨j, rfl⟩ : ∃ j, i = j + 1 := ⟨i - 1, by omega⟩
      rw [xs_rho_s (by omega)]
      obtain ⟨r, hr, -⟩ := hget j (by omega)
      obtain ⟨-, ⟨cell, hc, -⟩, -⟩ := had j r hr
      exact (Array.getElem?_eq_some_iff.mp hc).1
    · unfold xs_rho
      rw [if_neg (by omega), if_neg h]
      exact hb
  · obtain ⟨i, hi, rfl⟩ := List.getElem_of_mem hr
    have hi16 : i < 16 := by rw [xs_len] at hi; exact hi
    obtain ⟨r, hr2, hn⟩ := hget i hi16
    have hri : xm_sl[i]? = some xm_sl[i] := List.getElem?_eq_getElem hi
    cases hri.symm.trans hr2
    show vk_R _ _ _ (xs_rho _ _ _ (xm_sl[i]).2.2.2) s
    rw [hn, xs_rho_s hi16]
    exact vk_R.of (htb _ (xs_ref hi16 hri)) (had i _ hri).1
  · have hsh : a = 0 ∨ (∃ i, i < 16 ∧ a = i + 1) ∨ (∃ i, i < 14 ∧ a = i + 17) ∨ a = 31 ∨ 32 ≤ a := by
      rcases Nat.lt_or_ge a 1 with h | h
      · exact Or.inl (by omega)
      · rcases Nat.lt_or_ge a 17 with h' | h'
        · exact Or.inr (Or.inl ⟨a - 1, by omega, by omega⟩)
        · rcases Nat.lt_or_ge a 31 with h2 | h2
          · exact Or.inr (Or.inr (Or.inl ⟨a - 17, by omega, by omega⟩))
          · rcases Nat.lt_or_ge a 32 with h3 | h3
            · exact Or.inr (Or.inr (Or.inr (Or.inl (by omega))))
            · exact Or.inr (Or.inr (Or.inr (Or.inr h3)))
    rcases hsh with rfl | ⟨i, hi, rfl⟩ | ⟨i, hi, rfl⟩ | rfl | h
    · cases he
      exact ⟨scr, x1, x2, x3, x4, x5, fun h => absurd h (by decide)⟩
    · rw [hz_str L xs i hi] at he
      cases he
      obtain ⟨r, hr, hn⟩ := hget i hi
      obtain ⟨-, y1, y2, y3, y4⟩ := had i r hr
      rw [hn] at y4
      refine ⟨by show i + 1 < 32; omega, (ad i).2, ?_⟩
      show va_O _ (xs_rho _ _ _ (i + 1)) _ _ _ ∧ va_OF _ _ _ _ (xs_rho _ _ _ (i + 1)) _ _ _ ∧ va_OF _ _ _ _ (xs_rho _ _ _ (i + 1)) _ _ _ ∧ _
      rw [xs_rho_s hi]
      exact ⟨y1, y2, y3, y4⟩
    · rw [hz_gap L xs i hi] at he
      cases he
    · cases he
      have w1 := xs_w1
      have w2 := xs_w2
      refine ⟨by decide, hb, va_Zof (htb _ w1.2.2.1) (htb _ w1.2.2.2.2.2.1) (va_eqt (hfl _ w2.2.2.1)) hA, va_Zqof (htb _ w1.2.2.2.1) (htb _ w1.2.2.2.2.2.2) (hfl _ w2.2.2.2) hA, va_Zqof (htb _ w1.1) (htb _ w1.2.2.2.2.1) (hfl _ w2.1) hA, va_Zqof (htb _ w1.2.1) (htb _ w1.2.2.2.2.1) (hfl _ w2.2.1) hA, xs_LS (htb _ w1.1) hA, xs_LS (htb _ w1.2.1) hA⟩
    · rw [List.getElem?_eq_none (by show 32 ≤ a; exact h)] at he
      cases he
/-- the whole law, over our worlds: it ends with 1 -/
def XLaw (l : Launch) (L : Nat) (xs : Nat → Int32) : Prop := XG l xm_any 251 1000 600002 7302232 0 [some (.ref 0), none, none, none, none, none, none] [] (hz L xs) (xm_ret (fun v _ => v = some (.int 1)))
theorem xm_fresh {s t : State} {Ls : List Loc} {k n : Nat} (h : s.sameButNew t Ls k n) (hf : ∀ q ∈ Ls, s.heap.size ≤ q.base) : s.sameButNew t [] k n := by
  obtain ⟨h1, h2, h3, h4, h5, h6⟩ := h
  refine ⟨h1, h2, h3, h4, h5, fun a c hc => ?_⟩
  obtain ⟨c', g1, g2, g3, g4⟩ := h6 a c hc
  refine ⟨c', g1, g2, g3, fun i _ => g4 i (fun hm => ?_)⟩
  have h7 := hf _ hm
  have h8 := (Array.getElem?_eq_some_iff.mp hc).1
  have h9 : s.heap.size ≤ a := h7
  omega
