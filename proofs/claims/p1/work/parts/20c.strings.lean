section XSTR
variable {l : Launch} {hp : xm_H}
abbrev xj_len : MethodName := { cls := "java/lang/String", name := "length", desc := "()I" }
abbrev xj_cod : MethodName := { cls := "java/lang/String", name := "coder", desc := "()B" }
abbrev xj_chr : MethodName := { cls := "java/lang/String", name := "charAt", desc := "(I)C" }
abbrev xj_lat : MethodName := { cls := "java/lang/String", name := "isLatin1", desc := "()Z" }
abbrev xj_chl : MethodName := { cls := "java/lang/StringLatin1", name := "charAt", desc := "([BI)C" }
abbrev xj_cki : MethodName := { cls := "java/lang/String", name := "checkIndex", desc := "(II)V" }
abbrev xj_prc : MethodName := { cls := "jdk/internal/util/Preconditions", name := "checkIndex", desc := "(IILjava/util/function/BiFunction;)I" }
abbrev xj_rm (d : Nat) : Room := { frames := d, cells := 0, slots := 0, locals := 60 * d }
abbrev xj_Q (v0 : Option Value) : Array Value → State → Outcome → State → Prop := fun _ st o t => o = .returned v0 ∧ t.heap = st.heap
set_option maxRecDepth 200000 in
theorem xj_w19 : tables_1[19]? = some (.initialized "java/lang/String") := by rfl
set_option maxRecDepth 200000 in
theorem xj_w20 : tables_1[20]? = some (.initialized "java/lang/StringLatin1") := by rfl
set_option maxRecDepth 200000 in
theorem xj_w21 : tables_1[21]? = some (.initialized "jdk/internal/util/Preconditions") := by rfl
set_option maxRecDepth 200000 in
theorem xj_w772 : tables_1[772]? = some (.instanceMethod xj_len) := by rfl
set_option maxRecDepth 200000 in
theorem xj_w773 : tables_1[773]? = some (.selects "java/lang/String" xj_len xj_len) := by rfl
set_option maxRecDepth 200000 in
theorem xj_w774 : tables_1[774]? = some (.code xj_len prog_21_method_54_code 1 (some .int)) := by rfl
set_option maxRecDepth 200000 in
theorem xj_w775 : tables_1[775]? = some (.methodLink "java/lang/String" 335 xj_cod) := by rfl
set_option maxRecDepth 200000 in
theorem xj_w776 : tables_1[776]? = some (.instanceMethod xj_cod) := by rfl
set_option maxRecDepth 200000 in
theorem xj_w777 : tables_1[777]? = some (.selects "java/lang/String" xj_cod xj_cod) := by rfl
set_option maxRecDepth 200000 in
theorem xj_w778 : tables_1[778]? = some (.code xj_cod prog_21_method_152_code 1 (some .byte)) := by rfl
set_option maxRecDepth 200000 in
theorem xj_w779 : tables_1[779]? = some (.fieldLink "java/lang/String" 38 "java/lang/String" "COMPACT_STRINGS" "Z") := by rfl
set_option maxRecDepth 200000 in
theorem xj_w782 : tables_1[782]? = some (.instanceMethod xj_chr) := by rfl
set_option maxRecDepth 200000 in
theorem xj_w783 : tables_1[783]? = some (.selects "java/lang/String" xj_chr xj_chr) := by rfl
set_option maxRecDepth 200000 in
theorem xj_w784 : tables_1[784]? = some (.code xj_chr prog_21_method_56_code 2 (some .char)) := by rfl
set_option maxRecDepth 200000 in
theorem xj_w785 : tables_1[785]? = some (.methodLink "java/lang/String" 492 xj_lat) := by rfl
set_option maxRecDepth 200000 in
theorem xj_w786 : tables_1[786]? = some (.instanceMethod xj_lat) := by rfl
set_option maxRecDepth 200000 in
theorem xj_w787 : tables_1[787]? = some (.selects "java/lang/String" xj_lat xj_lat) := by rfl
set_option maxRecDepth 200000 in
theorem xj_w788 : tables_1[788]? = some (.code xj_lat prog_21_method_154_code 1 (some .boolean)) := by rfl
set_option maxRecDepth 200000 in
theorem xj_w789 : tables_1[789]? = some (.methodLink "java/lang/String" 495 xj_chl) := by rfl
set_option maxRecDepth 200000 in
theorem xj_w790 : tables_1[790]? = some (.static xj_chl) := by rfl
set_option maxRecDepth 200000 in
theorem xj_w791 : tables_1[791]? = some (.code xj_chl prog_22_method_2_code 2 (some .char)) := by rfl
set_option maxRecDepth 200000 in
theorem xj_w792 : tables_1[792]? = some (.methodLink "java/lang/StringLatin1" 9 xj_cki) := by rfl
set_option maxRecDepth 200000 in
theorem xj_w793 : tables_1[793]? = some (.static xj_cki) := by rfl
set_option maxRecDepth 200000 in
theorem xj_w794 : tables_1[794]? = some (.code xj_cki prog_21_method_155_code 2 none) := by rfl
set_option maxRecDepth 200000 in
theorem xj_w795 : tables_1[795]? = some (.fieldLink "java/lang/String" 1053 "jdk/internal/util/Preconditions" "SIOOBE_FORMATTER" "Ljava/util/function/BiFunction;") := by rfl
set_option maxRecDepth 200000 in
theorem xj_w797 : tables_1[797]? = some (.methodLink "java/lang/String" 1059 xj_prc) := by rfl
set_option maxRecDepth 200000 in
theorem xj_w798 : tables_1[798]? = some (.static xj_prc) := by rfl
set_option maxRecDepth 200000 in
theorem xj_w799 : tables_1[799]? = some (.code xj_prc prog_25_method_11_code 3 (some .int)) := by rfl
set_option maxRecDepth 200000 in
theorem xj_w1558 : tables_1[1558]? = some (.fieldLink "java/lang/String" 9 "java/lang/String" "value" "[B") := by rfl
set_option maxRecDepth 200000 in
theorem xj_w1559 : tables_1[1559]? = some (.fieldLink "java/lang/String" 15 "java/lang/String" "coder" "B") := by rfl
theorem xj_S (G : xm_G) (s : State) : va_S (fun q => G.2.2.2 ≤ q) s.heap s.heap [] := ⟨Nat.le_refl _, fun _ _ _ => rfl, fun l h => by cases h⟩
set_option maxRecDepth 200000 in
/-- coder() -/
theorem xj_coder {d a n : Nat} (h : hp[a]? = some (xS (n + 1))) (h31 : hp[31]? = some (xS 0)) (G : xm_G) : Met l xj_cod [.code xj_cod prog_21_method_152_code 1 (some .byte)] (xj_rm d) (xm_Pc G [.ref a] hp) (xj_Q (some (.int 0))) 0 0 (fun _ => False) := by
  refine va_MetF (cc := prog_21_method_152_code) (maxL := 1) (ret := some .byte) (by decide +kernel) rfl ?_
  intro p e s m args below meth c s₁ B hml hv
  obtain ⟨rfl, hK, hR⟩ := hv
  rw [lg_entry_eq]
  obtain ⟨-, v, hO, hc, hv, hT⟩ := hR.2.2 a _ h
  obtain ⟨-, h0, hZ, hrest⟩ := hR.2.2 31 _ h31
  have hX := hK.2.2.2.2.2
  have hown := findClass_of_methodNamed B.named
  refine va_gets B.exec B.bytes hZ (xj_S G s) hown (hX.at (List.mem_of_getElem? xj_w779) _ rfl rfl) (fun x h => h) rfl ?_
  refine lv_if_eq B.exec B.bytes (off := 10) (tgt := 13) rfl rfl (fun h => absurd h (by decide)) (fun _ => ?_)
  refine lv_aload_n B.exec B.bytes (i := 0) (k := 0) rfl rfl rfl ?_
  refine vk_getf B.exec B.bytes hc (xj_S G s) hown (hX.at (List.mem_of_getElem? xj_w1559) _ rfl rfl) (fun x h => h) rfl ?_
  refine lv_goto B.exec B.bytes (off := 4) (tgt := 14) rfl rfl ?_
  exact W.zret B.exec B.bytes B.returns rfl (fun t ht hW => ⟨rfl, ht⟩) (fun q hq => by cases hq) rfl B.notSynchronized
set_option maxRecDepth 200000 in
/-- isLatin1() -/
theorem xj_isLatin1 {d a n : Nat} (h : hp[a]? = some (xS (n + 1))) (h31 : hp[31]? = some (xS 0)) (G : xm_G) : Met l xj_lat [.code xj_lat prog_21_method_154_code 1 (some .boolean)] (xj_rm d) (xm_Pc G [.ref a] hp) (xj_Q (some (.int 1))) 0 0 (fun _ => False) := by
  refine va_MetF (cc := prog_21_method_154_code) (maxL := 1) (ret := some .boolean) (by decide +kernel) rfl ?_
  intro p e s m args below meth c s₁ B hml hv
  obtain ⟨rfl, hK, hR⟩ := hv
  rw [lg_entry_eq]
  obtain ⟨-, v, hO, hc, hv, hT⟩ := hR.2.2 a _ h
  obtain ⟨-, h0, hZ, hrest⟩ := hR.2.2 31 _ h31
  have hX := hK.2.2.2.2.2
  have hown := findClass_of_methodNamed B.named
  refine va_gets B.exec B.bytes hZ (xj_S G s) hown (hX.at (List.mem_of_getElem? xj_w779) _ rfl rfl) (fun x h => h) rfl ?_
  refine lv_if_eq B.exec B.bytes (off := 14) (tgt := 17) rfl rfl (fun h => absurd h (by decide)) (fun _ => ?_)
  refine lv_aload_n B.exec B.bytes (i := 0) (k := 0) rfl rfl rfl ?_
  refine vk_getf B.exec B.bytes hc (xj_S G s) hown (hX.at (List.mem_of_getElem? xj_w1559) _ rfl rfl) (fun x h => h) rfl ?_
  refine lv_if_ne B.exec B.bytes (off := 7) (tgt := 17) rfl rfl (fun h => absurd rfl h) (fun _ => ?_)
  refine lv_iconst B.exec B.bytes (n := 1) (v := 1) rfl rfl ?_
  refine lv_goto B.exec B.bytes (off := 4) (tgt := 18) rfl rfl ?_
  exact W.zret B.exec B.bytes B.returns rfl (fun t ht hW => ⟨rfl, ht⟩) (fun q hq => by cases hq) rfl B.notSynchronized
/-- behind a call that wrote nothing -/
theorem xj_after {p : Program} {e : Env} {R : Room} {s : State} {m : MethodId} {args : Array Value} {below : List Frame} {meth : Method} {c : Code} {H : Heap} {locs : List Loc} {cells slots pc : Nat} {ls : Array Slot} {rest st0 : List Value} {v0 : Option Value} {Q : State → Prop} {Qa : State → Outcome → State → Prop}
    (hr : va_Run p l e R s m args below meth c H locs cells slots 0 0 (F0 m pc ls st0) rest Qa (fun _ => False)) (hQ : ∀ st o t, Qa st o t → o = .returned v0 ∧ t.heap = st.heap)
    (kk : W p l e R s m args below meth c H locs cells slots Q (F0 m (pc + 3) ls (v0.toList ++ rest))) : W p l e R s m args below meth c H locs cells slots Q (F0 m pc ls st0) := by
  intro T hT X
  obtain ⟨v1, st₀, t, T', L, h0, X', hL', e1, e2, hq, go⟩ := hr T hT X
  obtain ⟨hv, hh⟩ := hQ _ _ _ hq
  cases hv
  have hLn : L = [] := by
    cases L with
    | nil => rfl
    | cons q L => exact (hL' q List.mem_cons_self).elim
  subst hLn
  have hTH : T'.heap = H := by rw [e1, hh, h0]
  obtain ⟨t2, a1, b1⟩ := kk T' hTH (by simpa using X')
  exact ⟨t2, go t2 a1, b1⟩
theorem xj_word {s U : State} (hX : xm_KX s) {w : Cond} {i : Nat} (hw : tables_1[i]? = some w) (a' : Array Value) (hW : s.WarmedH U.vm) (hc : (w.onTables && w.keeps) = true) (hk : xm_okx w = true) : w.before a' U = true :=
  word_at (args := #[]) hW (Or.inl hc) (hX.at (List.mem_of_getElem? hw) #[] hk (by revert hc; cases w.onTables <;> simp))
set_option maxRecDepth 200000 in
/-- Preconditions.checkIndex where the place is there -/
theorem xj_pre {d i n : Nat} (hi : i < n) (hn : n < 2 ^ 31) (x : Value) (hx : x = .null ∨ ∃ t, x = .ref t) : Met l xj_prc [.code xj_prc prog_25_method_11_code 3 (some .int)] (xj_rm d) (fun a U => a = ([.int (nI i), .int (nI n), x] : List Value).toArray) (xj_Q (some (.int (nI i)))) 0 0 (fun _ => False) := by
  refine va_MetF (cc := prog_25_method_11_code) (maxL := 3) (ret := some .int) (by decide +kernel) rfl ?_
  intro p e s m args below meth c s₁ B hml hv
  obtain rfl := hv
  rw [lg_entry_eq]
  rcases hx with rfl | ⟨t, rfl⟩
  · refine lv_iload_n B.exec B.bytes (i := 0) (k := 0) (x := nI i) rfl rfl rfl ?_
    refine lv_if_lt B.exec B.bytes (off := 8) (tgt := 9) rfl rfl (fun h => absurd h (nI_pos (by omega))) (fun _ => ?_)
    refine lv_iload_n B.exec B.bytes (i := 0) (k := 0) (x := nI i) rfl rfl rfl ?_
    refine lv_iload_n B.exec B.bytes (i := 1) (k := 1) (x := nI n) rfl rfl rfl ?_
    refine lv_icmp_lt B.exec B.bytes (off := 10) (tgt := 16) rfl rfl (fun _ => ?_) (fun h => absurd (nI_lt hi (by omega)) h)
    refine lv_iload_n B.exec B.bytes (i := 0) (k := 0) (x := nI i) rfl rfl rfl ?_
    exact W.zret B.exec B.bytes B.returns rfl (fun t ht hW => ⟨rfl, ht⟩) (fun q hq => by cases hq) rfl B.notSynchronized
  · refine lv_iload_n B.exec B.bytes (i := 0) (k := 0) (x := nI i) rfl rfl rfl ?_
    refine lv_if_lt B.exec B.bytes (off := 8) (tgt := 9) rfl rfl (fun h => absurd h (nI_pos (by omega))) (fun _ => ?_)
    refine lv_iload_n B.exec B.bytes (i := 0) (k := 0) (x := nI i) rfl rfl rfl ?_
    refine lv_iload_n B.exec B.bytes (i := 1) (k := 1) (x := nI n) rfl rfl rfl ?_
    refine lv_icmp_lt B.exec B.bytes (off := 10) (tgt := 16) rfl rfl (fun _ => ?_) (fun h => absurd (nI_lt hi (by omega)) h)
    refine lv_iload_n B.exec B.bytes (i := 0) (k := 0) (x := nI i) rfl rfl rfl ?_
    exact W.zret B.exec B.bytes B.returns rfl (fun t ht hW => ⟨rfl, ht⟩) (fun q hq => by cases hq) rfl B.notSynchronized
theorem xj_one {y : MethodName} {n : Nat} (h : (parseMethodDescriptor y.desc).map (fun d => d.parameters.length) = some n) : ∀ sig, parseMethodDescriptor y.desc = some sig → n = sig.parameters.length := fun sig hs => by
  rw [hs] at h
  exact (Option.some.inj h).symm
set_option maxRecDepth 200000 in
/-- String.checkIndex where the place is there -/
theorem xj_check {d i n : Nat} (hi : i < n) (hn : n < 2 ^ 31) (h31 : hp[31]? = some (xS 0)) (G : xm_G) : Met l xj_cki [.code xj_cki prog_21_method_155_code 2 none] (xj_rm (d + 1)) (xm_Pc G [.int (nI i), .int (nI n)] hp) (xj_Q none) 0 0 (fun _ => False) := by
  refine va_MetF (cc := prog_21_method_155_code) (maxL := 2) (ret := none) (by decide +kernel) rfl ?_
  intro p e s m args below meth c s₁ B hml hv
  obtain ⟨rfl, hK, hR⟩ := hv
  rw [lg_entry_eq]
  obtain ⟨-, h0, -, hZ, -⟩ := hR.2.2 31 _ h31
  have hX := hK.2.2.2.2.2
  have hown := findClass_of_methodNamed B.named
  refine lv_iload_n B.exec B.bytes (i := 0) (k := 0) (x := nI i) rfl rfl rfl ?_
  refine lv_iload_n B.exec B.bytes (i := 1) (k := 1) (x := nI n) rfl rfl rfl ?_
  have key : ∀ x : Value, (x = .null ∨ ∃ t, x = .ref t) → va_Z "jdk/internal/util/Preconditions" "SIOOBE_FORMATTER" "Ljava/util/function/BiFunction;" x (fun q => G.2.2.2 ≤ q) s s.heap → W p l e (headSpec [.code xj_cki prog_21_method_155_code 2 none] (xj_rm (d + 1))).room s m ([Value.int (nI i), Value.int (nI n)].map (xm_tv G.1)).toArray below meth c s.heap [] 0 0 (MQ below (xj_Q none) ([Value.int (nI i), Value.int (nI n)].map (xm_tv G.1)).toArray s 0 0 (fun _ => False)) (F0 m 2 ((lg_sl ([Value.int (nI i), Value.int (nI n)].map (xm_tv G.1)) ++ List.replicate (2 - (lg_sl ([Value.int (nI i), Value.int (nI n)].map (xm_tv G.1))).length) Slot.unset).toArray) [.int (nI n), .int (nI i)]) := by
    intro x hx hz
    refine va_gets B.exec B.bytes hz (xj_S G s) hown (hX.at (List.mem_of_getElem? xj_w795) _ rfl rfl) (fun x h => h) rfl ?_
    refine xj_after (v0 := some (.int (nI i))) (rest := []) (va_runS (Ts := []) (nL := 2) (own := "java/lang/String") (index := 1059) (As := [.int (nI i), .int (nI n), x]) (n := 3) ⟨B.exec, B.bytes, hml, hown, fun w h => (by cases h)⟩ (xj_pre (d := d) hi hn x hx) ⟨⟨rfl, rfl, Nat.le_refl _, (by show 8 + (3 + 11) + 60 * d ≤ 60 * (d + 1); omega), fun w hw a' U hW => (by rw [List.mem_singleton.mp hw]; exact xj_word hX xj_w799 a' hW rfl rfl), List.mem_singleton.mpr rfl, hX.at (List.mem_of_getElem? xj_w799) _ rfl rfl, hX.at (List.mem_of_getElem? xj_w21) _ rfl rfl, ⟨by decide, by decide⟩, xj_one (by decide +kernel), hX.at (List.mem_of_getElem? xj_w797) _ rfl rfl⟩, hX.at (List.mem_of_getElem? xj_w798) _ rfl rfl⟩ ⟨fun a U g mk h => h, fun U _ _ => rfl⟩ rfl rfl rfl rfl (Nat.le_of_ble_eq_true rfl) rfl ⟨Nat.le_refl _, Nat.le_refl _⟩) (fun st o t h => h) ?_
    refine lv_pop B.exec B.bytes rfl rfl ?_
    exact W.vret B.exec B.bytes B.returns (fun t ht hW => ⟨rfl, ht⟩) (fun q hq => by cases hq) rfl B.notSynchronized
  rcases hZ with hZ | ⟨t, hZ⟩
  · exact key _ (Or.inl rfl) hZ
  · exact key _ (Or.inr ⟨_, rfl⟩) hZ
def xj_c (b : Int32) : Int32 := ((b &&& 255).toUInt32 % 65536).toInt32
set_option maxRecDepth 200000 in
/-- StringLatin1.charAt -/
theorem xj_chL {d i n v : Nat} {f : Nat → Value} {b b' : Int32} (hi : i < n) (hn : n < 2 ^ 31) (hfi : f i = .int b) (hbb : xj_c b = b') (hnb : narrow .char (.int b') = .int b') (h31 : hp[31]? = some (xS 0)) (G : xm_G) : Met l xj_chl [.code xj_chl prog_22_method_2_code 2 (some .char)] (xj_rm (d + 2)) (fun a U => a = ([.ref v, .int (nI i)] : List Value).toArray ∧ xm_K G U ∧ xm_R G U hp U.heap ∧ va_T .byte v n f (fun q => G.2.2.2 ≤ q) U U.heap) (xj_Q (some (.int b'))) 0 0 (fun _ => False) := by
  refine va_MetF (cc := prog_22_method_2_code) (maxL := 2) (ret := some .char) (by decide +kernel) rfl ?_
  intro p e s m args below meth c s₁ B hml hv
  obtain ⟨rfl, hK, hR, hT⟩ := hv
  rw [lg_entry_eq]
  have hX := hK.2.2.2.2.2
  have hown := findClass_of_methodNamed B.named
  refine lv_iload_n B.exec B.bytes (i := 1) (k := 1) (x := nI i) rfl rfl rfl ?_
  refine lv_aload_n B.exec B.bytes (i := 0) (k := 0) (x := v) rfl rfl rfl ?_
  refine va_tlen B.exec B.bytes hT (xj_S G s) (v := nI n) rfl rfl ?_
  refine xj_after (v0 := none) (rest := []) (va_runS (Ts := []) (nL := 2) (own := "java/lang/StringLatin1") (index := 9) (As := [.int (nI i), .int (nI n)]) (n := 2) ⟨B.exec, B.bytes, hml, hown, fun w h => (by cases h)⟩ (xj_check (d := d) hi hn h31 G) ⟨⟨rfl, rfl, Nat.le_refl _, (by show 8 + (2 + 11) + 60 * (d + 1) ≤ 60 * (d + 2); omega), fun w hw a' U hW => (by rw [List.mem_singleton.mp hw]; exact xj_word hX xj_w794 a' hW rfl rfl), List.mem_singleton.mpr rfl, hX.at (List.mem_of_getElem? xj_w794) _ rfl rfl, hX.at (List.mem_of_getElem? xj_w19) _ rfl rfl, ⟨by decide, by decide⟩, xj_one (by decide +kernel), hX.at (List.mem_of_getElem? xj_w792) _ rfl rfl⟩, hX.at (List.mem_of_getElem? xj_w793) _ rfl rfl⟩ ⟨xm_Pc_blind _ _ _, fun U hU hW => ⟨rfl, hK.warm hW, by rw [hU]; exact hR.moved hW.alike⟩⟩ rfl rfl rfl rfl (Nat.le_of_ble_eq_true rfl) rfl ⟨Nat.le_refl _, Nat.le_refl _⟩) (fun st o t h => h) ?_
  refine lv_aload_n B.exec B.bytes (i := 0) (k := 0) (x := v) rfl rfl rfl ?_
  refine lv_iload_n B.exec B.bytes (i := 1) (k := 1) (x := nI i) rfl rfl rfl ?_
  refine va_tb B.exec B.bytes hT (xj_S G s) (vp_in_nI hi (by omega)) (v := .int b) (by rw [nI_clamp (by omega)]; exact hfi) rfl ?_
  refine lv_sipush B.exec B.bytes (n := 255) (v := 255) rfl rfl ?_
  refine lv_iand B.exec B.bytes rfl ?_
  refine lv_i2c B.exec B.bytes (v := b') rfl hbb ?_
  exact W.zret B.exec B.bytes B.returns hnb (fun t ht hW => ⟨rfl, ht⟩) (fun q hq => by cases hq) rfl B.notSynchronized
theorem xj_shr (x : Int32) : x >>> ((0 : Int32) &&& 31) = x := by
  have h : ((0 : Int32) &&& 31) = 0 := by decide
  rw [h]
  exact Int32.shiftRight_zero
set_option maxRecDepth 200000 in
/-- length() -/
theorem xj_length {d a n : Nat} (h : hp[a]? = some (xS (n + 1))) (h31 : hp[31]? = some (xS 0)) (G : xm_G) : Met l xj_len [.code xj_len prog_21_method_54_code 1 (some .int)] (xj_rm (d + 1)) (xm_Pc G [.ref a] hp) (xj_Q (some (.int (nI (xm_tx (n + 1)).length)))) 0 0 (fun _ => False) := by
  refine va_MetF (cc := prog_21_method_54_code) (maxL := 1) (ret := some .int) (by decide +kernel) rfl ?_
  intro p e s m args below meth c s₁ B hml hv
  obtain ⟨rfl, hK, hR⟩ := hv
  rw [lg_entry_eq]
  obtain ⟨-, v, ⟨cell, o1, o2, o3, -⟩, hc, hv, hT⟩ := hR.2.2 a _ h
  have hX := hK.2.2.2.2.2
  have hown := findClass_of_methodNamed B.named
  refine lv_aload_n B.exec B.bytes (i := 0) (k := 0) (x := G.1 a) rfl rfl rfl ?_
  refine vk_getf B.exec B.bytes hv (xj_S G s) hown (hX.at (List.mem_of_getElem? xj_w1558) _ rfl rfl) (fun x h => h) rfl ?_
  refine va_tlen B.exec B.bytes hT (xj_S G s) (v := nI (xm_tx (n + 1)).length) rfl rfl ?_
  refine lv_aload_n B.exec B.bytes (i := 0) (k := 0) (x := G.1 a) rfl rfl rfl ?_
  refine xj_after (v0 := some (.int 0)) (rest := [.int (nI (xm_tx (n + 1)).length)]) (va_runV (Ts := []) (nL := 1) (own := "java/lang/String") (C := "java/lang/String") (index := 335) (b := G.1 a) (As := []) (n := 0) ⟨B.exec, B.bytes, hml, hown, fun w h => (by cases h)⟩ (xj_coder (d := d) h h31 G) ⟨⟨rfl, rfl, Nat.le_refl _, (by show 8 + (1 + 11) + 60 * d ≤ 60 * (d + 1); omega), fun w hw a' U hW => (by rw [List.mem_singleton.mp hw]; exact xj_word hX xj_w778 a' hW rfl rfl), List.mem_singleton.mpr rfl, hX.at (List.mem_of_getElem? xj_w778) _ rfl rfl, hX.at (List.mem_of_getElem? xj_w19) _ rfl rfl, ⟨by decide, by decide⟩, xj_one (by decide +kernel), hX.at (List.mem_of_getElem? xj_w775) _ rfl rfl⟩, hX.at (List.mem_of_getElem? xj_w776) _ rfl rfl, hX.at (List.mem_of_getElem? xj_w777) _ rfl rfl⟩ ⟨xm_Pc_blind _ _ _, ⟨cell, o1, o2, o3⟩, fun U hU hW => ⟨rfl, hK.warm hW, by rw [hU]; exact hR.moved hW.alike⟩⟩ rfl rfl rfl rfl (Nat.le_of_ble_eq_true rfl) rfl ⟨Nat.le_refl _, Nat.le_refl _⟩) (fun st o t h => h) ?_
  refine lv_ishr B.exec B.bytes rfl ?_
  rw [xj_shr]
  exact W.zret B.exec B.bytes B.returns rfl (fun t ht hW => ⟨rfl, ht⟩) (fun q hq => by cases hq) rfl B.notSynchronized
set_option maxRecDepth 200000 in
/-- charAt(i) -/
theorem xj_charAt {d a n i : Nat} {b' : Int32} (h : hp[a]? = some (xS (n + 1))) (h31 : hp[31]? = some (xS 0)) (hi : i < (xm_tx (n + 1)).length) (hn : (xm_tx (n + 1)).length < 2 ^ 31) (hbb : xj_c ((xm_tx (n + 1)).getD i 0) = b') (hnb : narrow .char (.int b') = .int b') (G : xm_G) : Met l xj_chr [.code xj_chr prog_21_method_56_code 2 (some .char)] (xj_rm (d + 3)) (xm_Pc G [.ref a, .int (nI i)] hp) (xj_Q (some (.int b'))) 0 0 (fun _ => False) := by
  refine va_MetF (cc := prog_21_method_56_code) (maxL := 2) (ret := some .char) (by decide +kernel) rfl ?_
  intro p e s m args below meth c s₁ B hml hv
  obtain ⟨rfl, hK, hR⟩ := hv
  rw [lg_entry_eq]
  obtain ⟨-, v, ⟨cell, o1, o2, o3, -⟩, hc, hv, hT⟩ := hR.2.2 a _ h
  have hX := hK.2.2.2.2.2
  have hown := findClass_of_methodNamed B.named
  refine lv_aload_n B.exec B.bytes (i := 0) (k := 0) (x := G.1 a) rfl rfl rfl ?_
  refine xj_after (v0 := some (.int 1)) (rest := []) (va_runV (Ts := []) (nL := 2) (own := "java/lang/String") (C := "java/lang/String") (index := 492) (b := G.1 a) (As := []) (n := 0) ⟨B.exec, B.bytes, hml, hown, fun w h => (by cases h)⟩ (xj_isLatin1 (d := d) h h31 G) ⟨⟨rfl, rfl, (by show d + 1 ≤ d + 3; omega), (by show 8 + (1 + 11) + 60 * d ≤ 60 * (d + 3); omega), fun w hw a' U hW => (by rw [List.mem_singleton.mp hw]; exact xj_word hX xj_w788 a' hW rfl rfl), List.mem_singleton.mpr rfl, hX.at (List.mem_of_getElem? xj_w788) _ rfl rfl, hX.at (List.mem_of_getElem? xj_w19) _ rfl rfl, ⟨by decide, by decide⟩, xj_one (by decide +kernel), hX.at (List.mem_of_getElem? xj_w785) _ rfl rfl⟩, hX.at (List.mem_of_getElem? xj_w786) _ rfl rfl, hX.at (List.mem_of_getElem? xj_w787) _ rfl rfl⟩ ⟨xm_Pc_blind _ _ _, ⟨cell, o1, o2, o3⟩, fun U hU hW => ⟨rfl, hK.warm hW, by rw [hU]; exact hR.moved hW.alike⟩⟩ rfl rfl rfl rfl (Nat.le_of_ble_eq_true rfl) rfl ⟨Nat.le_refl _, Nat.le_refl _⟩) (fun st o t h => h) ?_
  refine lv_if_eq B.exec B.bytes (off := 12) (tgt := 16) rfl rfl (fun h => absurd h (by decide)) (fun _ => ?_)
  refine lv_aload_n B.exec B.bytes (i := 0) (k := 0) (x := G.1 a) rfl rfl rfl ?_
  refine vk_getf B.exec B.bytes hv (xj_S G s) hown (hX.at (List.mem_of_getElem? xj_w1558) _ rfl rfl) (fun x h => h) rfl ?_
  refine lv_iload_n B.exec B.bytes (i := 1) (k := 1) (x := nI i) rfl rfl rfl ?_
  refine xj_after (v0 := some (.int b')) (rest := []) (va_runS (Ts := []) (nL := 2) (own := "java/lang/String") (index := 495) (As := [.ref v, .int (nI i)]) (n := 2) ⟨B.exec, B.bytes, hml, hown, fun w h => (by cases h)⟩ (xj_chL (d := d) hi hn rfl hbb hnb h31 G) ⟨⟨rfl, rfl, Nat.le_refl _, (by show 8 + (2 + 11) + 60 * (d + 2) ≤ 60 * (d + 3); omega), fun w hw a' U hW => (by rw [List.mem_singleton.mp hw]; exact xj_word hX xj_w791 a' hW rfl rfl), List.mem_singleton.mpr rfl, hX.at (List.mem_of_getElem? xj_w791) _ rfl rfl, hX.at (List.mem_of_getElem? xj_w20) _ rfl rfl, ⟨by decide, by decide⟩, xj_one (by decide +kernel), hX.at (List.mem_of_getElem? xj_w789) _ rfl rfl⟩, hX.at (List.mem_of_getElem? xj_w790) _ rfl rfl⟩ ⟨fun a U g mk h => ⟨h.1, xm_K.warm (s := U) (U := U.calling g mk a) (State.WarmedH.refl U) h.2.1, h.2.2.1.moved (Vm.Alike.refl _), va_T.moved (Vm.Alike.refl _) h.2.2.2⟩, fun U hU hW => ⟨rfl, hK.warm hW, by rw [hU]; exact hR.moved hW.alike, by rw [hU]; exact va_T.moved hW.alike hT⟩⟩ rfl rfl rfl rfl (Nat.le_of_ble_eq_true rfl) rfl ⟨Nat.le_refl _, Nat.le_refl _⟩) (fun st o t h => h) ?_
  exact W.zret B.exec B.bytes B.returns hnb (fun t ht hW => ⟨rfl, ht⟩) (fun q hq => by cases hq) rfl B.notSynchronized
end XSTR
section XSTR2
variable {l : Launch} {k d rc rs pc nx r1 r2 : Nat} {pl : List (Option Value)} {st : List Value} {hp : xm_H} {Q : xm_Q} {v : Int32} {P : xm_P}
theorem x_ldcS {idx a0 : Nat} (hf : xm_code k pc = some (.ldc idx, nx, a0, 900, v)) (kk : XG l P k d rc rs nx pl (.ref a0 :: st) hp Q) : XG l P k d rc rs pc pl st hp Q := by
  intro G p e R s m args below meth c H locs cells slots ls hCP hR hL
  have hC := hCP.1
  obtain ⟨hdc, hn, ho⟩ := xm_dec hC hf
  have K := kk G p e R s m args below meth c H locs cells slots ls hCP hR hL
  rw [hn] at K
  obtain ⟨hgd, hexec, hb, hmlk, hown, hret, hlks, hmn, hKK, hfr, hlo, hcel, hsl0, hlocs, hfrm, hsz⟩ := hC
  obtain ⟨r, hr, hr1, hr2, hr3⟩ : ∃ r ∈ xm_sl, r.1 = (xm_nm k).cls ∧ r.2.1 = idx ∧ r.2.2.2 = a0 := by
    have h := List.any_eq_true.mp (show xm_sl.any (fun r => decide (r.1 = (xm_nm k).cls) && decide (r.2.1 = idx) && decide (r.2.2.2 = a0)) = true by simpa [xm_okI] using ho)
    obtain ⟨r, hr, h⟩ := h
    simp only [Bool.and_eq_true, decide_eq_true_eq] at h
    exact ⟨r, hr, h.1.1, h.1.2, h.2⟩
  have hZ := hKK.2.2.2.2.1 r hr
  rw [hr1, hr2, hr3] at hZ
  exact va_ldcS hexec hb hown hZ hdc K
theorem x_strlen {idx a n : Nat} (hf : xm_code k pc = some (.invokevirtual idx, nx, r1, r2, v)) (he : hp[a]? = some (xS (n + 1))) (h31 : hp[31]? = some (xS 0)) (kk : XG l P k d rc rs nx pl (.int (nI (xm_tx (n + 1)).length) :: st) hp Q) (hlk0 : xm_lk (xm_pn k) idx = some (.methodLink (xm_nm k).cls idx xj_len) := by rfl) (hd2 : 2 ≤ d := by omega) (hw8 : Nat.ble (st.map fun v => v.category).sum 8 = true := by rfl) : XG l P k d rc rs pc pl (.ref a :: st) hp Q := by
  intro G p e R s m args below meth c H locs cells slots ls hCP hR hL
  have hC := hCP.1
  obtain ⟨hdc, hn, ho⟩ := xm_dec hC hf
  have K := kk G p e R s m args below meth c H locs cells slots ls hCP hR hL
  rw [hn] at K
  obtain ⟨hgd, hexec, hb, hmlk, hown, hret, hlks, hmn, hKK, hfr, hlo, hcel, hsl0, hlocs, hfrm, hsz⟩ := hC
  have hX := hKK.2.2.2.2.2
  obtain ⟨-, v', ⟨cell, o1, o2, o3, -⟩, -⟩ := hR.2.2 a _ he
  exact xj_after (v0 := some (.int (nI (xm_tx (n + 1)).length))) (rest := st.map (xm_tv G.1)) (va_runV (Ts := []) (cc := xm_by k) (nL := xm_ml k) (own := (xm_nm k).cls) (C := "java/lang/String") (index := idx) (b := G.1 a) (As := []) (n := 0) ⟨hexec, hb, hmlk, hown, fun w h => (by cases h)⟩ (xj_length (d := 0) he h31 G) ⟨⟨rfl, rfl, (by show 0 + 1 + 1 ≤ R.frames; omega), (by show 8 + (1 + 11) + 60 * (0 + 1) ≤ R.locals; omega), fun w hw a' U hW => (by rw [List.mem_singleton.mp hw]; exact xj_word hX xj_w774 a' hW rfl rfl), List.mem_singleton.mpr rfl, hX.at (List.mem_of_getElem? xj_w774) _ rfl rfl, hX.at (List.mem_of_getElem? xj_w19) _ rfl rfl, ⟨by decide, by decide⟩, xj_one (by decide +kernel), hKK.2.1.at (xm_lk_mem hlk0) args rfl⟩, hX.at (List.mem_of_getElem? xj_w772) _ rfl rfl, hX.at (List.mem_of_getElem? xj_w773) _ rfl rfl⟩ ⟨xm_Pc_blind _ _ _, ⟨cell, o1, o2, o3⟩, fun U hU hW => ⟨rfl, hKK.warm hW, by rw [hU]; exact hR.moved hW.alike⟩⟩ rfl rfl hL.1 rfl (xm_rest (Nat.le_of_ble_eq_true hw8)) hdc ⟨by omega, by omega⟩) (fun st o t h => h) K
theorem x_charAt {idx a n i : Nat} {b' : Int32} (hf : xm_code k pc = some (.invokevirtual idx, nx, r1, r2, v)) (he : hp[a]? = some (xS (n + 1))) (h31 : hp[31]? = some (xS 0)) (hi : i < (xm_tx (n + 1)).length) (hbb : xj_c ((xm_tx (n + 1)).getD i 0) = b') (hnb : narrow .char (.int b') = .int b') (kk : XG l P k d rc rs nx pl (.int b' :: st) hp Q) (hn31 : (xm_tx (n + 1)).length < 2 ^ 31 := by decide) (hlk0 : xm_lk (xm_pn k) idx = some (.methodLink (xm_nm k).cls idx xj_chr) := by rfl) (hd2 : 4 ≤ d := by omega) (hw8 : Nat.ble (st.map fun v => v.category).sum 8 = true := by rfl) : XG l P k d rc rs pc pl (.int (nI i) :: .ref a :: st) hp Q := by
  intro G p e R s m args below meth c H locs cells slots ls hCP hR hL
  have hC := hCP.1
  obtain ⟨hdc, hn, ho⟩ := xm_dec hC hf
  have K := kk G p e R s m args below meth c H locs cells slots ls hCP hR hL
  rw [hn] at K
  obtain ⟨hgd, hexec, hb, hmlk, hown, hret, hlks, hmn, hKK, hfr, hlo, hcel, hsl0, hlocs, hfrm, hsz⟩ := hC
  have hX := hKK.2.2.2.2.2
  obtain ⟨-, v', ⟨cell, o1, o2, o3, -⟩, -⟩ := hR.2.2 a _ he
  exact xj_after (v0 := some (.int b')) (rest := st.map (xm_tv G.1)) (va_runV (Ts := []) (cc := xm_by k) (nL := xm_ml k) (own := (xm_nm k).cls) (C := "java/lang/String") (index := idx) (b := G.1 a) (As := [.int (nI i)]) (n := 1) ⟨hexec, hb, hmlk, hown, fun w h => (by cases h)⟩ (xj_charAt (d := 0) he h31 hi hn31 hbb hnb G) ⟨⟨rfl, rfl, (by show 0 + 3 + 1 ≤ R.frames; omega), (by show 8 + (2 + 11) + 60 * (0 + 3) ≤ R.locals; omega), fun w hw a' U hW => (by rw [List.mem_singleton.mp hw]; exact xj_word hX xj_w784 a' hW rfl rfl), List.mem_singleton.mpr rfl, hX.at (List.mem_of_getElem? xj_w784) _ rfl rfl, hX.at (List.mem_of_getElem? xj_w19) _ rfl rfl, ⟨by decide, by decide⟩, xj_one (by decide +kernel), hKK.2.1.at (xm_lk_mem hlk0) args rfl⟩, hX.at (List.mem_of_getElem? xj_w782) _ rfl rfl, hX.at (List.mem_of_getElem? xj_w783) _ rfl rfl⟩ ⟨xm_Pc_blind _ _ _, ⟨cell, o1, o2, o3⟩, fun U hU hW => ⟨rfl, hKK.warm hW, by rw [hU]; exact hR.moved hW.alike⟩⟩ rfl rfl hL.1 rfl (xm_rest (Nat.le_of_ble_eq_true hw8)) hdc ⟨by omega, by omega⟩) (fun st o t h => h) K
end XSTR2
