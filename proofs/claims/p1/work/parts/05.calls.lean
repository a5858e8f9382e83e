section XR3
variable {l : Launch} {k d rc rs pc nx r1 r2 : Nat} {pl : List (Option Value)} {st : List Value} {hp : xm_H} {Q : xm_Q} {v : Int32}
theorem x_iret {Q0 : Option Value → xm_H → Prop} {x : Int32} {ty : FieldType} (hf : xm_code k pc = some (.ireturn, nx, r1, r2, v)) (hr : xm_rt k = some ty) (hx : narrow ty (.int x) = .int x) (hq : Q0 (some (.int x)) hp) : XG l xm_any k d rc rs pc pl [.int x] hp (xm_ret Q0) := by
  intro G p e R s m args below meth c H locs cells slots ls hCP hR hL
  have hC := hCP.1
  obtain ⟨hd, hn, ho⟩ := xm_dec hC hf
  obtain ⟨hgd, hexec, hb, hml, hown, hret, hlk, hmn, hKK, hfr, hlo, hcel, hsl0, hlocs, hfrm, hsz⟩ := hC
  refine W.widen (k := R.cells) (n := R.slots) (by omega) (by omega) ?_
  exact W.zret hexec hb (hret.trans hr) hx (fun t ht hW => ⟨some (.int x), hp, hq, rfl, by rw [ht]; exact hR.moved hW.alike, fun q hq => by rw [ht]; exact hfrm q hq⟩) hlocs hd hlk
theorem x_ret {Q0 : Option Value → xm_H → Prop} (hf : xm_code k pc = some (.return_, nx, r1, r2, v)) (hr : xm_rt k = none) (hq : Q0 none hp) : XG l xm_any k d rc rs pc pl [] hp (xm_ret Q0) := by
  intro G p e R s m args below meth c H locs cells slots ls hCP hR hL
  have hC := hCP.1
  obtain ⟨hd, hn, ho⟩ := xm_dec hC hf
  obtain ⟨hgd, hexec, hb, hml, hown, hret, hlk, hmn, hKK, hfr, hlo, hcel, hsl0, hlocs, hfrm, hsz⟩ := hC
  refine W.widen (k := R.cells) (n := R.slots) (by omega) (by omega) ?_
  exact W.vret hexec hb (hret.trans hr) (fun t ht hW => ⟨none, hp, hq, rfl, by rw [ht]; exact hR.moved hW.alike, fun q hq => by rw [ht]; exact hfrm q hq⟩) hlocs hd hlk
theorem x_aret {Q0 : Option Value → xm_H → Prop} {a : Nat} {ty : FieldType} (hf : xm_code k pc = some (.areturn, nx, r1, r2, v)) (hr : xm_rt k = some ty) (hx : ty.isReference = true) (hq : Q0 (some (.ref a)) hp) : XG l xm_any k d rc rs pc pl [.ref a] hp (xm_ret Q0) := by
  intro G p e R s m args below meth c H locs cells slots ls hCP hR hL
  have hC := hCP.1
  obtain ⟨hd, hn, ho⟩ := xm_dec hC hf
  obtain ⟨hgd, hexec, hb, hml, hown, hret, hlk, hmn, hKK, hfr, hlo, hcel, hsl0, hlocs, hfrm, hsz⟩ := hC
  refine W.widen (k := R.cells) (n := R.slots) (by omega) (by omega) ?_
  have hty : (∃ n, ty = .object n) ∨ ∃ t, ty = .array t := by
    cases ty <;> first | exact Or.inl ⟨_, rfl⟩ | exact Or.inr ⟨_, rfl⟩ | cases hx
  exact W.aret (v := .ref (G.1 a)) hexec hb (hret.trans hr) hty (Or.inr ⟨_, rfl⟩) (fun t ht hW => ⟨some (.ref a), hp, hq, rfl, by rw [ht]; exact hR.moved hW.alike, fun q hq => by rw [ht]; exact hfrm q hq⟩) hlocs hd hlk
theorem xm_sl1 (vs : List Value) (h : ∀ v ∈ vs, v.category = 1) : lg_sl vs = vs.map Slot.val := by
  induction vs with
  | nil => rfl
  | cons a t ih =>
    have ha : ¬ a.category = 2 := by have := h a List.mem_cons_self; omega
    have ht := ih (fun v hv => h v (List.mem_cons_of_mem _ hv))
    show (if a.category = 2 then [Slot.val a, Slot.second] else [Slot.val a]) ++ lg_sl t = _
    rw [if_neg ha, ht]
    rfl
theorem XM_of {Q0 : Option Value → xm_H → Prop} {mc ms : Nat} {as : List Value} (hg : xm_good k) (hpn : plainFor (xm_nm k) = true) (hca : ∀ v ∈ as, v.category = 1) (hle : as.length ≤ xm_ml k) (hpl : as.map some ++ List.replicate (xm_ml k - as.length) none = pl) (h : XG l xm_any k d mc ms 0 pl [] hp (xm_ret Q0)) : XM l k d mc ms as hp Q0 := by
  intro G
  refine va_MetF (cc := xm_by k) (maxL := xm_ml k) (ret := xm_rt k) hpn rfl ?_
  intro p e s m args below meth c s₁ B hml hv
  obtain ⟨rfl, hK, hR⟩ := hv
  rw [lg_entry_eq]
  have hsl : lg_sl (as.map (xm_tv G.1)) = (as.map (xm_tv G.1)).map Slot.val := xm_sl1 _ (fun v hv => by
    obtain ⟨w, hw, rfl⟩ := List.mem_map.mp hv
    rw [xm_tv_cat]
    exact hca w hw)
  have hlen : (lg_sl (as.map (xm_tv G.1))).length ≤ xm_ml k := by rw [hsl]; simpa using hle
  have hent := lv_entry (as.map (xm_tv G.1)) (n := xm_ml k) hlen
  have hsz : G.2.2.2 ≤ s.heap.size := by have h1 := hR.1; have h2 := hR.2.1; omega
  refine h G p e _ s m _ below meth c s.heap [] 0 0 _ ⟨⟨hg, B.exec, B.bytes, hml, findClass_of_methodNamed B.named, B.returns, B.notSynchronized, (name_of_methodNamed B.named B.method).1, hK, Nat.le_refl _, Nat.le_refl _, by simp [headSpec], by simp [headSpec], fun q hq => (by cases hq), fun q _ => rfl, hsz, B.named⟩, trivial⟩ hR ⟨hent.1, hent.2.1, ?_, fun i w hw => ?_⟩
  · rw [← hpl]
    simp
    omega
  · rw [← hpl] at hw
    by_cases hi : i < as.length
    · rw [List.getElem?_append_left (by simpa using hi), List.getElem?_map] at hw
      cases ha : as[i]? with
      | none => rw [ha] at hw; cases hw
      | some u =>
        rw [ha] at hw
        simp at hw
        subst hw
        refine ⟨hca u (List.mem_of_getElem? ha), ?_⟩
        rw [List.getElem?_toArray, hsl, List.getElem?_append_left (by simpa using hi)]
        simp [ha]
    · rw [List.getElem?_append_right (by simpa using hi)] at hw
      have := List.eq_of_mem_replicate (List.mem_of_getElem? hw)
      cases this
/-- behind a call -/
theorem xm_after {G : xm_G} {p : Program} {e : Env} {R : Room} {s : State} {m : MethodId} {args : Array Value} {below : List Frame} {meth : Method} {c : Code} {H : Heap} {locs : List Loc} {cells slots mc ms : Nat} {ls : Array Slot} {a0 : Array Value} {rest st0 : List Value} {Q1 : Option Value → xm_H → Prop}
    (hr : va_Run p l e R s m args below meth c H locs cells slots mc ms (F0 m pc ls st0) (rest.map (xm_tv G.1)) (xm_Qc G Q1 a0) (fun q => G.2.2.2 ≤ q)) (hC : xm_C k d rc rs G p R s m meth c H locs cells slots) (hL : xm_L G.1 ls (xm_ml k) pl) (hmc : mc ≤ rc) (hms : ms ≤ rs)
    (kk : ∀ (x : Option Value) (hp1 : xm_H), Q1 x hp1 → XG l xm_any k d (rc - mc) (rs - ms) (pc + 3) pl (x.toList ++ rest) hp1 Q) : W p l e R s m args below meth c H locs cells slots (Q G below args s R) (F0 m pc ls st0) := by
  intro T hT X
  obtain ⟨v0, st₀, t, T', L, h0, X', hL', e1, e2, ⟨x, hp1, hq, hv, hR1, hfr1⟩, go⟩ := hr T hT X
  obtain ⟨hgd, hexec, hb, hml, hown, hret, hlk, hmn, hKK, hfr, hlo, hcel, hsl0, hlocs, hfrm, hsz⟩ := hC
  cases hv
  have hal : t.vm.Alike s.vm := by rw [← e2]; exact X'.warmed.alike.symm
  have K := kk x hp1 hq G p e R s m args below meth c T'.heap (locs ++ L) (cells + mc) (slots + ms) ls ⟨⟨hgd, hexec, hb, hml, hown, hret, hlk, hmn, hKK, hfr, hlo, by omega, by omega, fun q hq2 => by
      rcases List.mem_append.mp hq2 with h | h
      · exact hlocs q h
      · exact hL' q h, fun q hq2 => by rw [e1, hfr1 q hq2, h0]; exact hfrm q hq2, hsz⟩, trivial⟩ (by rw [e1]; exact hR1.moved hal) hL
  obtain ⟨t2, a1, b1⟩ := K T' rfl X'
  refine ⟨t2, go t2 ?_, b1⟩
  cases x with
  | none => exact a1
  | some y => exact a1
theorem xm_mwV {s : State} (h : xm_KW s) {j : Nat} (hj : j < xm_nM) (hk : xm_kd j = 1) (a : Array Value) : (Cond.code (xm_nm j) (xm_by j) (xm_ml j) (xm_rt j)).before a s = true ∧ (Cond.instanceMethod (xm_nm j)).before a s = true ∧ (Cond.selects (xm_nm j).cls (xm_nm j) (xm_nm j)).before a s = true ∧ (Cond.initialized (xm_nm j).cls).before a s = true := by
  have e : xm_mw j = [.code (xm_nm j) (xm_by j) (xm_ml j) (xm_rt j), .instanceMethod (xm_nm j), .selects (xm_nm j).cls (xm_nm j) (xm_nm j), .initialized (xm_nm j).cls] := by unfold xm_mw; rw [hk]; rfl
  exact ⟨h.at (xm_mw_mem hj (by rw [e]; simp)) a rfl, h.at (xm_mw_mem hj (by rw [e]; simp)) a rfl, h.at (xm_mw_mem hj (by rw [e]; simp)) a rfl, h.at (xm_mw_mem hj (by rw [e]; simp)) a rfl⟩
theorem xm_mwS {s : State} (h : xm_KW s) {j : Nat} (hj : j < xm_nM) (hk : xm_kd j = 0) (a : Array Value) : (Cond.code (xm_nm j) (xm_by j) (xm_ml j) (xm_rt j)).before a s = true ∧ (Cond.static (xm_nm j)).before a s = true ∧ (Cond.initialized (xm_nm j).cls).before a s = true := by
  have e : xm_mw j = [.code (xm_nm j) (xm_by j) (xm_ml j) (xm_rt j), .static (xm_nm j), .initialized (xm_nm j).cls] := by unfold xm_mw; rw [hk]; rfl
  exact ⟨h.at (xm_mw_mem hj (by rw [e]; simp)) a rfl, h.at (xm_mw_mem hj (by rw [e]; simp)) a rfl, h.at (xm_mw_mem hj (by rw [e]; simp)) a rfl⟩
theorem xm_mwI {s : State} (h : xm_KW s) {j : Nat} (hj : j < xm_nM) (hk : xm_kd j = 2) (a : Array Value) : (Cond.code (xm_nm j) (xm_by j) (xm_ml j) (xm_rt j)).before a s = true ∧ (Cond.instanceMethod (xm_nm j)).before a s = true ∧ (Cond.initialized (xm_nm j).cls).before a s = true ∧ (xm_nm j).name = "<init>" ∧ xm_rt j = none := by
  have e : xm_mw j = [.code (xm_nm j) (xm_by j) (xm_ml j) (xm_rt j), .instanceMethod (xm_nm j), .initialized (xm_nm j).cls] := by unfold xm_mw; rw [hk]; rfl
  exact ⟨h.at (xm_mw_mem hj (by rw [e]; simp)) a rfl, h.at (xm_mw_mem hj (by rw [e]; simp)) a rfl, h.at (xm_mw_mem hj (by rw [e]; simp)) a rfl, xm_ini_chk j hj hk⟩
theorem xm_cok_spec {k idx j n kd : Nat} (h : xm_cok k idx j n kd = true) : (xm_lk (xm_pn k) idx = some (.methodLink (xm_nm k).cls idx (xm_nm j)) ∨ ∃ host, xm_lk (xm_pn k) idx = some (.methodLinkNest (xm_nm k).cls idx (xm_nm j) host)) ∧ xm_kd j = kd ∧ ((xm_nm j).cls ≠ "java/lang/invoke/MethodHandle" ∧ (xm_nm j).cls ≠ "java/lang/invoke/VarHandle" ∧ (parseMethodDescriptor (xm_nm j).desc).map (fun d => d.parameters.length) = some n) ∧ xm_ml j ≤ 41 ∧ j < xm_nM := by
  unfold xm_cok at h
  simp only [Bool.and_eq_true, decide_eq_true_eq] at h
  obtain ⟨⟨⟨⟨⟨⟨h1, h2⟩, h3⟩, h4⟩, h5⟩, h6⟩, h7⟩ := h
  refine ⟨?_, h2, ⟨h3, h4, h5⟩, h6, h7⟩
  split at h1
  next o i y hl =>
    simp only [Bool.and_eq_true, decide_eq_true_eq] at h1
    obtain ⟨⟨rfl, rfl⟩, rfl⟩ := h1
    exact Or.inl hl
  next o i y host hl =>
    simp only [Bool.and_eq_true, decide_eq_true_eq] at h1
    obtain ⟨⟨rfl, rfl⟩, rfl⟩ := h1
    exact Or.inr ⟨host, hl⟩
  next => cases h1
theorem xm_rest {G : xm_G} {m : MethodId} {pc : Nat} {ls : Array Slot} {st0 rest : List Value} (h : (rest.map fun v => v.category).sum ≤ 8) : 2 * (F0 m pc ls st0).monitorRoom + ((rest.map (xm_tv G.1)).map fun v => v.category).sum ≤ 8 := by
  refine lv_room ?_
  rw [List.map_map]
  have : ((fun v : Value => v.category) ∘ xm_tv G.1) = fun v => v.category := by funext v; exact xm_tv_cat _ v
  rw [this]
  exact h
theorem x_callv {idx j n dd mc ms a c0 : Nat} {as rest : List Value} {fs : List Value} {Q1 : Option Value → xm_H → Prop} (hf : xm_code k pc = some (.invokevirtual idx, nx, j, n, v)) (hj9 : ¬ 900 ≤ j) (hM : XM l j dd mc ms (.ref a :: as) hp Q1) (hdd : dd < d) (hmc : mc ≤ rc) (hms : ms ≤ rs) (hst : st = as.reverse ++ .ref a :: rest) (hn0 : as.length = n) (hw8 : (rest.map fun v => v.category).sum ≤ 8) (he : hp[a]? = some (xO c0 fs)) (hcn : xm_cl[c0]?.map (fun r => r.1) = some (xm_nm j).cls)
    (kk : ∀ (x : Option Value) (hp1 : xm_H), Q1 x hp1 → XG l xm_any k d (rc - mc) (rs - ms) nx pl (x.toList ++ rest) hp1 Q) : XG l xm_any k d rc rs pc pl st hp Q := by
  intro G p e R s m args below meth c H locs cells slots ls hCP hR hL
  have hC := hCP.1
  obtain ⟨hd, hn, ho⟩ := xm_dec hC hf
  obtain ⟨hlk, hkd, hy, hml, hjm⟩ := xm_cok_spec (k := k) (idx := idx) (j := j) (n := n) (kd := 1) (by simpa [xm_okI, hj9, show ¬ 950 ≤ j by omega] using ho)
  have hC' := hC
  obtain ⟨hgd, hexec, hb, hmlk, hown, hret, hlks, hmn, hKK, hfr, hlo, hcel, hsl0, hlocs, hfrm, hsz⟩ := hC'
  have hKW := hKK.2.1
  obtain ⟨w1, w2, w3, w4⟩ := xm_mwV hKW hjm hkd args
  obtain ⟨r, h1, cell, q1, q2, q3, q4⟩ := hR.2.2 a _ he
  have hcl : s.vm.findClass (xm_nm j).cls = some cell.cls := by
    rw [h1] at hcn
    have hcn2 : r.1 = (xm_nm j).cls := by simpa using hcn
    rw [← hcn2, q2]
    exact (hKK.2.2.1 c0 _ h1).2.1
  have hws : ∀ w ∈ [Cond.code (xm_nm j) (xm_by j) (xm_ml j) (xm_rt j)], ∀ (a' : Array Value) (U : State), s.WarmedH U.vm → w.before a' U = true := fun w hw a' U hW => by
    rw [List.mem_singleton.mp hw]
    exact word_at hW (Or.inl rfl) w1
  have hlen : ∀ sig, parseMethodDescriptor (xm_nm j).desc = some sig → n = sig.parameters.length := fun sig h => by
    have h2 := hy.2.2
    rw [h] at h2
    exact (Option.some.inj h2).symm
  have hpre : PreV s H (xm_nm j).cls (G.1 a) (xm_Pc G (.ref a :: as) hp) (as.map (xm_tv G.1)) := ⟨xm_Pc_blind _ _ _, ⟨cell, q1, by rw [q3]; rfl, hcl⟩, fun U hU hW => ⟨rfl, hKK.warm hW, by rw [hU]; exact hR.moved hW.alike⟩⟩
  have hstk : st.map (xm_tv G.1) = (as.map (xm_tv G.1)).reverse ++ .ref (G.1 a) :: rest.map (xm_tv G.1) := by rw [hst, List.map_append, List.map_reverse]; rfl
  have hrm : dd + 1 ≤ R.frames ∧ 8 + (xm_ml j + 11) + 60 * dd ≤ R.locals := ⟨by omega, by omega⟩
  have hcs : cells + mc ≤ R.cells ∧ slots + ms ≤ R.slots := ⟨by omega, by omega⟩
  have key : va_Run p l e R s m args below meth c H locs cells slots mc ms (F0 m pc ls (st.map (xm_tv G.1))) (rest.map (xm_tv G.1)) (xm_Qc G Q1 (Value.ref (G.1 a) :: as.map (xm_tv G.1)).toArray) (fun q => G.2.2.2 ≤ q) := by
    rcases hlk with hlk | ⟨host, hlk⟩
    · exact va_runV (Ts := []) (cc := xm_by k) (nL := xm_ml k) (own := (xm_nm k).cls) ⟨hexec, hb, hmlk, hown, fun w h => (by cases h)⟩ (hM G) ⟨⟨rfl, rfl, hrm.1, hrm.2, hws, List.mem_singleton.mpr rfl, w1, w4, ⟨hy.1, hy.2.1⟩, hlen, hKW.at (xm_lk_mem hlk) args rfl⟩, w2, w3⟩ hpre rfl (by rw [List.length_map]; exact hn0) hL.1 hstk (xm_rest hw8) hd hcs
    · exact va_runVN (Ts := []) (cc := xm_by k) (nL := xm_ml k) (own := (xm_nm k).cls) ⟨hexec, hb, hmlk, hown, fun w h => (by cases h)⟩ (hM G) ⟨⟨⟨rfl, rfl, hrm.1, hrm.2, hws, List.mem_singleton.mpr rfl⟩, w1, w4, ⟨hy.1, hy.2.1⟩, hlen, va_Nw.use rfl (hKW.nest (xm_lk_mem hlk))⟩, w2, w3⟩ hpre rfl (by rw [List.length_map]; exact hn0) hL.1 hstk (xm_rest hw8) hd hcs
  refine xm_after key hC hL hmc hms ?_
  rw [hn] at kk
  exact kk
theorem x_calls {idx j n dd mc ms : Nat} {as rest : List Value} {Q1 : Option Value → xm_H → Prop} (hf : xm_code k pc = some (.invokestatic idx, nx, j, n, v)) (hj9 : ¬ 900 ≤ j) (hM : XM l j dd mc ms as hp Q1) (hdd : dd < d) (hmc : mc ≤ rc) (hms : ms ≤ rs) (hst : st = as.reverse ++ rest) (hn0 : as.length = n) (hw8 : (rest.map fun v => v.category).sum ≤ 8)
    (kk : ∀ (x : Option Value) (hp1 : xm_H), Q1 x hp1 → XG l xm_any k d (rc - mc) (rs - ms) nx pl (x.toList ++ rest) hp1 Q) : XG l xm_any k d rc rs pc pl st hp Q := by
  intro G p e R s m args below meth c H locs cells slots ls hCP hR hL
  have hC := hCP.1
  obtain ⟨hd, hn, ho⟩ := xm_dec hC hf
  obtain ⟨hlk, hkd, hy, hml, hjm⟩ := xm_cok_spec (k := k) (idx := idx) (j := j) (n := n) (kd := 0) (by simpa [xm_okI, hj9, show ¬ 950 ≤ j by omega] using ho)
  have hC' := hC
  obtain ⟨hgd, hexec, hb, hmlk, hown, hret, hlks, hmn, hKK, hfr, hlo, hcel, hsl0, hlocs, hfrm, hsz⟩ := hC'
  have hKW := hKK.2.1
  obtain ⟨w1, w2, w4⟩ := xm_mwS hKW hjm hkd args
  have hws : ∀ w ∈ [Cond.code (xm_nm j) (xm_by j) (xm_ml j) (xm_rt j)], ∀ (a' : Array Value) (U : State), s.WarmedH U.vm → w.before a' U = true := fun w hw a' U hW => by
    rw [List.mem_singleton.mp hw]
    exact word_at hW (Or.inl rfl) w1
  have hlen : ∀ sig, parseMethodDescriptor (xm_nm j).desc = some sig → n = sig.parameters.length := fun sig h => by
    have h2 := hy.2.2
    rw [h] at h2
    exact (Option.some.inj h2).symm
  have hpre : PreS s H (xm_Pc G as hp) (as.map (xm_tv G.1)) := ⟨xm_Pc_blind _ _ _, fun U hU hW => ⟨rfl, hKK.warm hW, by rw [hU]; exact hR.moved hW.alike⟩⟩
  have hstk : st.map (xm_tv G.1) = (as.map (xm_tv G.1)).reverse ++ rest.map (xm_tv G.1) := by rw [hst, List.map_append, List.map_reverse]
  have hrm : dd + 1 ≤ R.frames ∧ 8 + (xm_ml j + 11) + 60 * dd ≤ R.locals := ⟨by omega, by omega⟩
  have hcs : cells + mc ≤ R.cells ∧ slots + ms ≤ R.slots := ⟨by omega, by omega⟩
  have key : va_Run p l e R s m args below meth c H locs cells slots mc ms (F0 m pc ls (st.map (xm_tv G.1))) (rest.map (xm_tv G.1)) (xm_Qc G Q1 (as.map (xm_tv G.1)).toArray) (fun q => G.2.2.2 ≤ q) := by
    rcases hlk with hlk | ⟨host, hlk⟩
    · exact va_runS (Ts := []) (cc := xm_by k) (nL := xm_ml k) (own := (xm_nm k).cls) ⟨hexec, hb, hmlk, hown, fun w h => (by cases h)⟩ (hM G) ⟨⟨rfl, rfl, hrm.1, hrm.2, hws, List.mem_singleton.mpr rfl, w1, w4, ⟨hy.1, hy.2.1⟩, hlen, hKW.at (xm_lk_mem hlk) args rfl⟩, w2⟩ hpre rfl (by rw [List.length_map]; exact hn0) hL.1 hstk (xm_rest hw8) hd hcs
    · exact va_runSN (Ts := []) (cc := xm_by k) (nL := xm_ml k) (own := (xm_nm k).cls) ⟨hexec, hb, hmlk, hown, fun w h => (by cases h)⟩ (hM G) ⟨⟨⟨rfl, rfl, hrm.1, hrm.2, hws, List.mem_singleton.mpr rfl⟩, w1, w4, ⟨hy.1, hy.2.1⟩, hlen, va_Nw.use rfl (hKW.nest (xm_lk_mem hlk))⟩, w2, trivial⟩ hpre rfl (by rw [List.length_map]; exact hn0) hL.1 hstk (xm_rest hw8) hd hcs
  refine xm_after key hC hL hmc hms ?_
  rw [hn] at kk
  exact kk
theorem x_calli {idx j n dd mc ms a : Nat} {as rest : List Value} {Q1 : Option Value → xm_H → Prop} (hf : xm_code k pc = some (.invokespecial idx, nx, j, n, v)) (hj9 : ¬ 900 ≤ j) (hM : XM l j dd mc ms (.ref a :: as) hp Q1) (hdd : dd < d) (hmc : mc ≤ rc) (hms : ms ≤ rs) (hst : st = as.reverse ++ .ref a :: rest) (hn0 : as.length = n) (hw8 : (rest.map fun v => v.category).sum ≤ 8)
    (kk : ∀ (x : Option Value) (hp1 : xm_H), Q1 x hp1 → XG l xm_any k d (rc - mc) (rs - ms) nx pl (x.toList ++ rest) hp1 Q) : XG l xm_any k d rc rs pc pl st hp Q := by
  intro G p e R s m args below meth c H locs cells slots ls hCP hR hL
  have hC := hCP.1
  obtain ⟨hd, hn, ho⟩ := xm_dec hC hf
  obtain ⟨hlk, hkd, hy, hml, hjm⟩ := xm_cok_spec (k := k) (idx := idx) (j := j) (n := n) (kd := 2) (by simpa [xm_okI, hj9, show ¬ 950 ≤ j by omega] using ho)
  have hC' := hC
  obtain ⟨hgd, hexec, hb, hmlk, hown, hret, hlks, hmn, hKK, hfr, hlo, hcel, hsl0, hlocs, hfrm, hsz⟩ := hC'
  have hKW := hKK.2.1
  obtain ⟨w1, w2, w4, hini, hrt⟩ := xm_mwI hKW hjm hkd args
  have hws : ∀ w ∈ [Cond.code (xm_nm j) (xm_by j) (xm_ml j) (xm_rt j)], ∀ (a' : Array Value) (U : State), s.WarmedH U.vm → w.before a' U = true := fun w hw a' U hW => by
    rw [List.mem_singleton.mp hw]
    exact word_at hW (Or.inl rfl) w1
  have hlen : ∀ sig, parseMethodDescriptor (xm_nm j).desc = some sig → n = sig.parameters.length := fun sig h => by
    have h2 := hy.2.2
    rw [h] at h2
    exact (Option.some.inj h2).symm
  have hpre : PreS s H (xm_Pc G (.ref a :: as) hp) (.ref (G.1 a) :: as.map (xm_tv G.1)) := ⟨xm_Pc_blind _ _ _, fun U hU hW => ⟨rfl, hKK.warm hW, by rw [hU]; exact hR.moved hW.alike⟩⟩
  have hstk : st.map (xm_tv G.1) = (as.map (xm_tv G.1)).reverse ++ .ref (G.1 a) :: rest.map (xm_tv G.1) := by rw [hst, List.map_append, List.map_reverse]; rfl
  have hrm : dd + 1 ≤ R.frames ∧ 8 + (xm_ml j + 11) + 60 * dd ≤ R.locals := ⟨by omega, by omega⟩
  have hcs : cells + mc ≤ R.cells ∧ slots + ms ≤ R.slots := ⟨by omega, by omega⟩
  have hMG := hM G
  rw [hrt] at hMG hws w1
  have key : va_Run p l e R s m args below meth c H locs cells slots mc ms (F0 m pc ls (st.map (xm_tv G.1))) (rest.map (xm_tv G.1)) (xm_Qc G Q1 (Value.ref (G.1 a) :: as.map (xm_tv G.1)).toArray) (fun q => G.2.2.2 ≤ q) := by
    rcases hlk with hlk | ⟨host, hlk⟩
    · exact va_runI (Ts := []) (cc := xm_by k) (nL := xm_ml k) (own := (xm_nm k).cls) ⟨hexec, hb, hmlk, hown, fun w h => (by cases h)⟩ hMG ⟨⟨rfl, rfl, hrm.1, hrm.2, hws, List.mem_singleton.mpr rfl, w1, w4, ⟨hy.1, hy.2.1⟩, hlen, hKW.at (xm_lk_mem hlk) args rfl⟩, hini, w2⟩ hpre rfl (by rw [List.length_map]; exact hn0) hL.1 hstk (xm_rest hw8) hd hcs
    · exact va_runIN (Ts := []) (cc := xm_by k) (nL := xm_ml k) (own := (xm_nm k).cls) ⟨hexec, hb, hmlk, hown, fun w h => (by cases h)⟩ hMG ⟨⟨⟨rfl, rfl, hrm.1, hrm.2, hws, List.mem_singleton.mpr rfl⟩, w1, w4, ⟨hy.1, hy.2.1⟩, hlen, va_Nw.use rfl (hKW.nest (xm_lk_mem hlk))⟩, hini, w2⟩ hpre rfl (by rw [List.length_map]; exact hn0) hL.1 hstk (xm_rest hw8) hd hcs
  refine xm_after key hC hL hmc hms ?_
  rw [hn] at kk
  exact kk
/-- it returns v, and no cell was written -/
def xm_QR (G : xm_G) (v0 : Option Value) : Array Value → State → Outcome → State → Prop := fun _ st o t => o = .returned (v0.map (xm_tv G.1)) ∧ t.heap = st.heap
def xm_retR (v0 : Option Value) : xm_Q := fun G below args s R => MQ below (xm_QR G v0) args s R.cells R.slots (fun _ => False)
def XMR (l : Launch) (k d : Nat) (as : List Value) (hp : xm_H) (v0 : Option Value) : Prop :=
  ∀ G : xm_G, Met l (xm_nm k) [.code (xm_nm k) (xm_by k) (xm_ml k) (xm_rt k)] { frames := d, cells := 0, slots := 0, locals := 60 * d } (xm_Pc G as hp) (xm_QR G v0) 0 0 (fun _ => False)
theorem x_iretR {x : Int32} {ty : FieldType} (hf : xm_code k pc = some (.ireturn, nx, r1, r2, v)) (hr : xm_rt k = some ty) (hx : narrow ty (.int x) = .int x) : XG l xm_clean k d rc rs pc pl [.int x] hp (xm_retR (some (.int x))) := by
  intro G p e R s m args below meth c H locs cells slots ls hCP hR hL
  have hC := hCP.1
  obtain ⟨hH, hlo0, hc0, hs0⟩ := hCP.2
  obtain ⟨hd, hn, ho⟩ := xm_dec hC hf
  obtain ⟨hgd, hexec, hb, hml, hown, hret, hlk, hmn, hKK, hfr, hlo, hcel, hsl0, hlocs, hfrm, hsz⟩ := hC
  refine W.widen (k := R.cells) (n := R.slots) (by omega) (by omega) ?_
  exact W.zret hexec hb (hret.trans hr) hx (fun t ht hW => ⟨rfl, ht.trans hH⟩) (fun q hq => by rw [hlo0] at hq; cases hq) hd hlk
theorem x_aretR {a : Nat} {ty : FieldType} (hf : xm_code k pc = some (.areturn, nx, r1, r2, v)) (hr : xm_rt k = some ty) (hx : ty.isReference = true) : XG l xm_clean k d rc rs pc pl [.ref a] hp (xm_retR (some (.ref a))) := by
  intro G p e R s m args below meth c H locs cells slots ls hCP hR hL
  have hC := hCP.1
  obtain ⟨hH, hlo0, hc0, hs0⟩ := hCP.2
  obtain ⟨hd, hn, ho⟩ := xm_dec hC hf
  obtain ⟨hgd, hexec, hb, hml, hown, hret, hlk, hmn, hKK, hfr, hlo, hcel, hsl0, hlocs, hfrm, hsz⟩ := hC
  refine W.widen (k := R.cells) (n := R.slots) (by omega) (by omega) ?_
  have hty : (∃ n, ty = .object n) ∨ ∃ t, ty = .array t := by
    cases ty <;> first | exact Or.inl ⟨_, rfl⟩ | exact Or.inr ⟨_, rfl⟩ | cases hx
  exact W.aret (v := .ref (G.1 a)) hexec hb (hret.trans hr) hty (Or.inr ⟨_, rfl⟩) (fun t ht hW => ⟨rfl, ht.trans hH⟩) (fun q hq => by rw [hlo0] at hq; cases hq) hd hlk
theorem xm_afterR {G : xm_G} {p : Program} {e : Env} {R : Room} {s : State} {m : MethodId} {args : Array Value} {below : List Frame} {meth : Method} {c : Code} {H : Heap} {locs : List Loc} {cells slots : Nat} {ls : Array Slot} {a0 : Array Value} {rest st0 : List Value} {v0 : Option Value}
    (hr : va_Run p l e R s m args below meth c H locs cells slots 0 0 (F0 m pc ls st0) (rest.map (xm_tv G.1)) (xm_QR G v0 a0) (fun _ => False)) (hCP : xm_C k d rc rs G p R s m meth c H locs cells slots ∧ xm_clean s H locs cells slots) (hR : xm_R G s hp H) (hL : xm_L G.1 ls (xm_ml k) pl)
    (kk : XG l xm_clean k d rc rs (pc + 3) pl (v0.toList ++ rest) hp Q) : W p l e R s m args below meth c H locs cells slots (Q G below args s R) (F0 m pc ls st0) := by
  intro T hT X
  obtain ⟨v1, st₀, t, T', L, h0, X', hL', e1, e2, ⟨hv, hh⟩, go⟩ := hr T hT X
  cases hv
  have hLn : L = [] := by
    cases L with
    | nil => rfl
    | cons q L => exact (hL' q List.mem_cons_self).elim
  subst hLn
  have hTH : T'.heap = H := by rw [e1, hh, h0]
  have K := kk G p e R s m args below meth c H locs cells slots ls hCP hR hL
  obtain ⟨t2, a1, b1⟩ := K T' hTH (by simpa using X')
  refine ⟨t2, go t2 ?_, b1⟩
  cases v0 with
  | none => exact a1
  | some y => exact a1
theorem x_callvR {idx j n dd a c0 : Nat} {as rest : List Value} {fs : List Value} {v0 : Option Value} (hf : xm_code k pc = some (.invokevirtual idx, nx, j, n, v)) (hj9 : ¬ 900 ≤ j) (hM : XMR l j dd (.ref a :: as) hp v0) (hdd : dd < d) (hst : st = as.reverse ++ .ref a :: rest) (hn0 : as.length = n) (hw8 : (rest.map fun v => v.category).sum ≤ 8) (he : hp[a]? = some (xO c0 fs)) (hcn : xm_cl[c0]?.map (fun r => r.1) = some (xm_nm j).cls)
    (kk : XG l xm_clean k d rc rs nx pl (v0.toList ++ rest) hp Q) : XG l xm_clean k d rc rs pc pl st hp Q := by
  intro G p e R s m args below meth c H locs cells slots ls hCP hR hL
  have hC := hCP.1
  obtain ⟨hd, hn, ho⟩ := xm_dec hC hf
  obtain ⟨hlk, hkd, hy, hml, hjm⟩ := xm_cok_spec (k := k) (idx := idx) (j := j) (n := n) (kd := 1) (by simpa [xm_okI, hj9, show ¬ 950 ≤ j by omega] using ho)
  have hC' := hC
  obtain ⟨hgd, hexec, hb, hmlk, hown, hret, hlks, hmn, hKK, hfr, hlo, hcel, hsl0, hlocs, hfrm, hsz⟩ := hC'
  have hKW := hKK.2.1
  obtain ⟨w1, w2, w3, w4⟩ := xm_mwV hKW hjm hkd args
  obtain ⟨r, h1, cell, q1, q2, q3, q4⟩ := hR.2.2 a _ he
  have hcl : s.vm.findClass (xm_nm j).cls = some cell.cls := by
    rw [h1] at hcn
    have hcn2 : r.1 = (xm_nm j).cls := by simpa using hcn
    rw [← hcn2, q2]
    exact (hKK.2.2.1 c0 _ h1).2.1
  have hws : ∀ w ∈ [Cond.code (xm_nm j) (xm_by j) (xm_ml j) (xm_rt j)], ∀ (a' : Array Value) (U : State), s.WarmedH U.vm → w.before a' U = true := fun w hw a' U hW => by
    rw [List.mem_singleton.mp hw]
    exact word_at hW (Or.inl rfl) w1
  have hlen : ∀ sig, parseMethodDescriptor (xm_nm j).desc = some sig → n = sig.parameters.length := fun sig h => by
    have h2 := hy.2.2
    rw [h] at h2
    exact (Option.some.inj h2).symm
  have hpre : PreV s H (xm_nm j).cls (G.1 a) (xm_Pc G (.ref a :: as) hp) (as.map (xm_tv G.1)) := ⟨xm_Pc_blind _ _ _, ⟨cell, q1, by rw [q3]; rfl, hcl⟩, fun U hU hW => ⟨rfl, hKK.warm hW, by rw [hU]; exact hR.moved hW.alike⟩⟩
  have hstk : st.map (xm_tv G.1) = (as.map (xm_tv G.1)).reverse ++ .ref (G.1 a) :: rest.map (xm_tv G.1) := by rw [hst, List.map_append, List.map_reverse]; rfl
  have hrm : dd + 1 ≤ R.frames ∧ 8 + (xm_ml j + 11) + 60 * dd ≤ R.locals := ⟨by omega, by omega⟩
  have hcs : cells + 0 ≤ R.cells ∧ slots + 0 ≤ R.slots := ⟨by omega, by omega⟩
  have key : va_Run p l e R s m args below meth c H locs cells slots 0 0 (F0 m pc ls (st.map (xm_tv G.1))) (rest.map (xm_tv G.1)) (xm_QR G v0 (Value.ref (G.1 a) :: as.map (xm_tv G.1)).toArray) (fun _ => False) := by
    rcases hlk with hlk | ⟨host, hlk⟩
    · exact va_runV (Ts := []) (cc := xm_by k) (nL := xm_ml k) (own := (xm_nm k).cls) ⟨hexec, hb, hmlk, hown, fun w h => (by cases h)⟩ (hM G) ⟨⟨rfl, rfl, hrm.1, hrm.2, hws, List.mem_singleton.mpr rfl, w1, w4, ⟨hy.1, hy.2.1⟩, hlen, hKW.at (xm_lk_mem hlk) args rfl⟩, w2, w3⟩ hpre rfl (by rw [List.length_map]; exact hn0) hL.1 hstk (xm_rest hw8) hd hcs
    · exact va_runVN (Ts := []) (cc := xm_by k) (nL := xm_ml k) (own := (xm_nm k).cls) ⟨hexec, hb, hmlk, hown, fun w h => (by cases h)⟩ (hM G) ⟨⟨⟨rfl, rfl, hrm.1, hrm.2, hws, List.mem_singleton.mpr rfl⟩, w1, w4, ⟨hy.1, hy.2.1⟩, hlen, va_Nw.use rfl (hKW.nest (xm_lk_mem hlk))⟩, w2, w3⟩ hpre rfl (by rw [List.length_map]; exact hn0) hL.1 hstk (xm_rest hw8) hd hcs
  rw [hn] at kk
  exact xm_afterR key hCP hR hL kk
theorem x_callsR {idx j n dd : Nat} {as rest : List Value} {v0 : Option Value} (hf : xm_code k pc = some (.invokestatic idx, nx, j, n, v)) (hj9 : ¬ 900 ≤ j) (hM : XMR l j dd as hp v0) (hdd : dd < d) (hst : st = as.reverse ++ rest) (hn0 : as.length = n) (hw8 : (rest.map fun v => v.category).sum ≤ 8)
    (kk : XG l xm_clean k d rc rs nx pl (v0.toList ++ rest) hp Q) : XG l xm_clean k d rc rs pc pl st hp Q := by
  intro G p e R s m args below meth c H locs cells slots ls hCP hR hL
  have hC := hCP.1
  obtain ⟨hd, hn, ho⟩ := xm_dec hC hf
  obtain ⟨hlk, hkd, hy, hml, hjm⟩ := xm_cok_spec (k := k) (idx := idx) (j := j) (n := n) (kd := 0) (by simpa [xm_okI, hj9, show ¬ 950 ≤ j by omega] using ho)
  have hC' := hC
  obtain ⟨hgd, hexec, hb, hmlk, hown, hret, hlks, hmn, hKK, hfr, hlo, hcel, hsl0, hlocs, hfrm, hsz⟩ := hC'
  have hKW := hKK.2.1
  obtain ⟨w1, w2, w4⟩ := xm_mwS hKW hjm hkd args
  have hws : ∀ w ∈ [Cond.code (xm_nm j) (xm_by j) (xm_ml j) (xm_rt j)], ∀ (a' : Array Value) (U : State), s.WarmedH U.vm → w.before a' U = true := fun w hw a' U hW => by
    rw [List.mem_singleton.mp hw]
    exact word_at hW (Or.inl rfl) w1
  have hlen : ∀ sig, parseMethodDescriptor (xm_nm j).desc = some sig → n = sig.parameters.length := fun sig h => by
    have h2 := hy.2.2
    rw [h] at h2
    exact (Option.some.inj h2).symm
  have hpre : PreS s H (xm_Pc G as hp) (as.map (xm_tv G.1)) := ⟨xm_Pc_blind _ _ _, fun U hU hW => ⟨rfl, hKK.warm hW, by rw [hU]; exact hR.moved hW.alike⟩⟩
  have hstk : st.map (xm_tv G.1) = (as.map (xm_tv G.1)).reverse ++ rest.map (xm_tv G.1) := by rw [hst, List.map_append, List.map_reverse]
  have hrm : dd + 1 ≤ R.frames ∧ 8 + (xm_ml j + 11) + 60 * dd ≤ R.locals := ⟨by omega, by omega⟩
  have hcs : cells + 0 ≤ R.cells ∧ slots + 0 ≤ R.slots := ⟨by omega, by omega⟩
  have key : va_Run p l e R s m args below meth c H locs cells slots 0 0 (F0 m pc ls (st.map (xm_tv G.1))) (rest.map (xm_tv G.1)) (xm_QR G v0 (as.map (xm_tv G.1)).toArray) (fun _ => False) := by
    rcases hlk with hlk | ⟨host, hlk⟩
    · exact va_runS (Ts := []) (cc := xm_by k) (nL := xm_ml k) (own := (xm_nm k).cls) ⟨hexec, hb, hmlk, hown, fun w h => (by cases h)⟩ (hM G) ⟨⟨rfl, rfl, hrm.1, hrm.2, hws, List.mem_singleton.mpr rfl, w1, w4, ⟨hy.1, hy.2.1⟩, hlen, hKW.at (xm_lk_mem hlk) args rfl⟩, w2⟩ hpre rfl (by rw [List.length_map]; exact hn0) hL.1 hstk (xm_rest hw8) hd hcs
    · exact va_runSN (Ts := []) (cc := xm_by k) (nL := xm_ml k) (own := (xm_nm k).cls) ⟨hexec, hb, hmlk, hown, fun w h => (by cases h)⟩ (hM G) ⟨⟨⟨rfl, rfl, hrm.1, hrm.2, hws, List.mem_singleton.mpr rfl⟩, w1, w4, ⟨hy.1, hy.2.1⟩, hlen, va_Nw.use rfl (hKW.nest (xm_lk_mem hlk))⟩, w2, trivial⟩ hpre rfl (by rw [List.length_map]; exact hn0) hL.1 hstk (xm_rest hw8) hd hcs
  rw [hn] at kk
  exact xm_afterR key hCP hR hL kk
/-- a contract that says the very answer and the very world -/
abbrev xm_is (r0 : Option Value) (h0 : xm_H) : Option Value → xm_H → Prop := fun r h => r = r0 ∧ h = h0
theorem x_callvE {idx j n dd mc ms a c0 : Nat} {as rest : List Value} {fs : List Value} {r0 : Option Value} {h0 : xm_H} (hf : xm_code k pc = some (.invokevirtual idx, nx, j, n, v)) (hM : XM l j dd mc ms (.ref a :: as) hp (xm_is r0 h0)) (hst : st = as.reverse ++ .ref a :: rest) (hn0 : as.length = n) (he : hp[a]? = some (xO c0 fs))
    (kk : XG l xm_any k d (rc - mc) (rs - ms) nx pl (r0.toList ++ rest) h0 Q) (hcn : xm_cl[c0]?.map (fun r => r.1) = some (xm_nm j).cls := by rfl) (hj9 : ¬ 900 ≤ j := by decide) (hdd : dd < d := by omega) (hmc : mc ≤ rc := by omega) (hms : ms ≤ rs := by omega) (hw8 : Nat.ble (rest.map fun v => v.category).sum 8 = true := by rfl) : XG l xm_any k d rc rs pc pl st hp Q :=
  x_callv hf hj9 hM hdd hmc hms hst hn0 (Nat.le_of_ble_eq_true hw8) he hcn (fun x hp1 hq => by rw [hq.1, hq.2]; exact kk)
theorem x_callsE {idx j n dd mc ms : Nat} {as rest : List Value} {r0 : Option Value} {h0 : xm_H} (hf : xm_code k pc = some (.invokestatic idx, nx, j, n, v)) (hM : XM l j dd mc ms as hp (xm_is r0 h0)) (hst : st = as.reverse ++ rest) (hn0 : as.length = n)
    (kk : XG l xm_any k d (rc - mc) (rs - ms) nx pl (r0.toList ++ rest) h0 Q) (hj9 : ¬ 900 ≤ j := by decide) (hdd : dd < d := by omega) (hmc : mc ≤ rc := by omega) (hms : ms ≤ rs := by omega) (hw8 : Nat.ble (rest.map fun v => v.category).sum 8 = true := by rfl) : XG l xm_any k d rc rs pc pl st hp Q :=
  x_calls hf hj9 hM hdd hmc hms hst hn0 (Nat.le_of_ble_eq_true hw8) (fun x hp1 hq => by rw [hq.1, hq.2]; exact kk)
theorem x_calliE {idx j n dd mc ms a : Nat} {as rest : List Value} {r0 : Option Value} {h0 : xm_H} (hf : xm_code k pc = some (.invokespecial idx, nx, j, n, v)) (hM : XM l j dd mc ms (.ref a :: as) hp (xm_is r0 h0)) (hst : st = as.reverse ++ .ref a :: rest) (hn0 : as.length = n)
    (kk : XG l xm_any k d (rc - mc) (rs - ms) nx pl (r0.toList ++ rest) h0 Q) (hj9 : ¬ 900 ≤ j := by decide) (hdd : dd < d := by omega) (hmc : mc ≤ rc := by omega) (hms : ms ≤ rs := by omega) (hw8 : Nat.ble (rest.map fun v => v.category).sum 8 = true := by rfl) : XG l xm_any k d rc rs pc pl st hp Q :=
  x_calli hf hj9 hM hdd hmc hms hst hn0 (Nat.le_of_ble_eq_true hw8) (fun x hp1 hq => by rw [hq.1, hq.2]; exact kk)
theorem x_new {idx N a : Nat} {fs : List Value} {C : String} {T : u_T} (hf : xm_code k pc = some (.new idx, nx, r1, r2, v)) (hc : xm_cl[r1]? = some (C, T, N)) (hfs : (List.range N).map (fun j => defaultValue (xm_ft r1 j)) = fs) (ha : hp.length = a) (hrc : 1 ≤ rc) (hrs : N ≤ rs) (kk : XG l xm_any k d (rc - 1) (rs - N) nx pl (.ref a :: st) (hp ++ [xO r1 fs]) Q) : XG l xm_any k d rc rs pc pl st hp Q := by
  intro G p e R s m args below meth c H locs cells slots ls hCP hR hL
  have hC := hCP.1
  obtain ⟨hd, hn, ho⟩ := xm_dec hC hf
  obtain ⟨hgd, hexec, hb, hmlk, hown, hret, hlks, hmn, hKK, hfr, hlo, hcel, hsl0, hlocs, hfrm, hsz⟩ := hC
  have hKW := hKK.2.1
  obtain ⟨C', hcn', hlk⟩ : ∃ C' : String, xm_cl[r1]?.map (fun r => r.1) = some C' ∧ xm_lk (xm_pn k) idx = some (.classLink (xm_nm k).cls idx C') := by
    have h13 : r1 < 13 := (List.getElem?_eq_some_iff.mp hc).1
    simp only [xm_okI, if_neg (show ¬ 950 ≤ r1 by omega), xm_nok] at ho
    split at ho
    next => cases ho
    next C' T' N' hc' =>
      refine ⟨C', by rw [hc']; rfl, ?_⟩
      simpa using ho
  rw [hc] at hcn'
  cases hcn'
  have hKn := hKK.2.2.1 r1 _ hc
  have hl : G.1 hp.length = H.size := by
    have h1 := hKK.1.1 (hp.length - xm_c0)
    have h2 := hR.1
    have h3 := hR.2.1
    rw [Nat.add_sub_cancel' h2] at h1
    omega
  refine W.newcK hexec hb hown (hKW.at (xm_lk_mem hlk) args rfl) (hKW.at (xm_cls_mem hc (List.mem_append_right _ List.mem_cons_self)) args rfl) (hKW.at (xm_cls_mem hc (List.mem_append_right _ (List.mem_cons_of_mem _ List.mem_cons_self))) args rfl) rfl hd (by omega) (by omega) hKn.2.1 rfl fun H1 kC hkC e1 z1 o1 => ?_
  have hob := u_born (xm_ft r1) (xm_hts hKW hc args) (fun w h => h) hKn hkC e1 (xm_cls_ok hc).1
  have hat : xm_at G s H1 hp.length (.inr (.inr (.inl (r1, fs)))) := by
    refine ⟨_, hc, ?_⟩
    rw [hl]
    refine hob.to fun j hj => ?_
    subst hfs
    have hj' : j < N := hj
    simp only [vp_V, List.getD, List.map_map]
    rw [List.getElem?_map, List.getElem?_range hj']
    simp only [Option.map_some, Option.getD_some, Function.comp]
    cases xm_ft r1 j <;> rfl
  have K := kk G p e R s m args below meth c H1 locs (cells + 1) (slots + N) ls ⟨⟨hgd, hexec, hb, hmlk, hown, hret, hlks, hmn, hKK, hfr, hlo, by omega, by omega, hlocs, fun q hq => by rw [o1 q (by have h2 := hR.1; have h3 := hR.2.1; omega)]; exact hfrm q hq, hsz⟩, trivial⟩ (hR.push hKK.1 (fun x hx => by cases hx; exact hat) z1 o1) hL
  rw [hn, ← ha] at K
  simp only [List.map_cons, xm_tv, hl] at K
  exact K
end XR3
