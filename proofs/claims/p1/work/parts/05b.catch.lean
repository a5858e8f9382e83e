/-! a call whose callee throws, caught by the caller's own handler -/
section XC
variable {l : Launch} {k d rc rs pc nx : Nat} {pl : List (Option Value)} {st : List Value} {hp : xm_H} {Q : xm_Q} {v : Int32}
def xm_thrO (G : xm_G) (X : String) (a1 : Nat) (h0 : xm_H) (mc ms : Nat) : Array Value → State → Outcome → State → Prop := fun _ st o t =>
  o = .threw (G.1 a1) ∧ (∃ ce : Cell, t.heap[G.1 a1]? = some ce ∧ ce.vm = .none ∧ st.vm.findClass X = some ce.cls) ∧ xm_R G t h0 t.heap ∧ (∀ q : Nat, q < G.2.2.2 → t.heap[q]? = st.heap[q]?) ∧ st.WarmedH t.vm ∧ st.sameButNew ({ t with vm := st.vm } : State) [] mc ms
/-- method k throws an X at these arguments and this world -/
def XMT (l : Launch) (k d mc ms : Nat) (as : List Value) (hp : xm_H) (X : String) (a1 : Nat) (h0 : xm_H) : Prop :=
  ∀ G : xm_G, MetFree l (xm_nm k) (headSpec [.code (xm_nm k) (xm_by k) (xm_ml k) (xm_rt k)] { frames := d, cells := mc, slots := ms, locals := 60 * d }) (xm_Pc G as hp) (fun _ _ _ _ _ => True) (xm_thrO G X a1 h0 mc ms)
theorem xm_entryL {G : xm_G} {as : List Value} (hca : ∀ v ∈ as, v.category = 1) (hle : as.length ≤ xm_ml k) (hpl : as.map some ++ List.replicate (xm_ml k - as.length) none = pl) : xm_L G.1 ((lg_sl (as.map (xm_tv G.1)) ++ List.replicate (xm_ml k - (lg_sl (as.map (xm_tv G.1))).length) Slot.unset).toArray) (xm_ml k) pl := by
  have hsl : lg_sl (as.map (xm_tv G.1)) = (as.map (xm_tv G.1)).map Slot.val := xm_sl1 _ (fun v hv => by
    obtain ⟨w, hw, rfl⟩ := List.mem_map.mp hv
    rw [xm_tv_cat]
    exact hca w hw)
  have hlen : (lg_sl (as.map (xm_tv G.1))).length ≤ xm_ml k := by rw [hsl]; simpa using hle
  have hent := lv_entry (as.map (xm_tv G.1)) (n := xm_ml k) hlen
  refine ⟨hent.1, hent.2.1, ?_, fun i w hw => ?_⟩
  · rw [← hpl]
    simp
    omega
  · rw [← hpl] at hw
    by_cases hi : i < as.length
    · rw [List.getElem?_append_left (by simpa using hi), List.getElem?_map] at hw
      cases ha : as[i]? with
      | none => rw [ha] at hw; cases hw
      | some u =>
        rw [ha] at hw
        simp at hw
        subst hw
        refine ⟨hca u (List.mem_of_getElem? ha), ?_⟩
        rw [List.getElem?_toArray, hsl, List.getElem?_append_left (by simpa using hi)]
        simp [ha]
    · rw [List.getElem?_append_right (by simpa using hi)] at hw
      have := List.eq_of_mem_replicate (List.mem_of_getElem? hw)
      cases this
theorem XMT_of {mc ms a1 : Nat} {as : List Value} {X : String} {h0 : xm_H} (hg : xm_good k) (hpn : plainFor (xm_nm k) = true) (hca : ∀ v ∈ as, v.category = 1) (hle : as.length ≤ xm_ml k) (hpl : as.map some ++ List.replicate (xm_ml k - as.length) none = pl) (h : XG l xm_clean k d mc ms 0 pl [] hp (xm_thr X a1 h0)) : XMT l k d mc ms as hp X a1 h0 := by
  intro G
  refine MetFree.of_bodySF (code := xm_by k) (maxLocals := xm_ml k) (ret := xm_rt k) hpn ?_ ?_
  · intro args s m h hn
    obtain ⟨meth, c, h1, h2, h3, h4, h5, h6, -, -⟩ := Cond.code_spec hn (atoms_spec (ws := [Cond.code (xm_nm k) (xm_by k) (xm_ml k) (xm_rt k)]) h _ List.mem_cons_self)
    exact ⟨meth, c, h1, h2, h3, h4, h5, h6⟩
  · intro p e s m args below meth c s₁ B hml hP _
    obtain ⟨rfl, hK, hR⟩ := hP
    have hh0 : s₁.heap = s.heap := by rw [B.state]; rfl
    have hsz : G.2.2.2 ≤ s.heap.size := by have h1 := hR.1; have h2 := hR.2.1; omega
    have K := h G p e ({ frames := d, cells := mc, slots := ms, locals := 60 * d } : Room) s m (as.map (xm_tv G.1)).toArray below meth c s.heap [] 0 0 _ ⟨⟨hg, B.exec, B.bytes, hml, findClass_of_methodNamed B.named, B.returns, B.notSynchronized, (name_of_methodNamed B.named B.method).1, hK, Nat.le_refl _, Nat.le_refl _, by simp, by simp, fun q hq => (by cases hq), fun q _ => rfl, hsz, B.named⟩, rfl, rfl, rfl, rfl⟩ hR (xm_entryL hca hle hpl)
    obtain ⟨t, a1', b1, b2, b3, b4, b5, b6, b7⟩ := K s₁ hh0 (Stand.of_body B)
    rw [lg_entry_eq]
    exact ⟨t, .threw (G.1 a1), a1', b1, b2, rfl, b3, b4, b5, b6, b7⟩
/-- what a callee that throws pays -/
def xm_PostT (G : xm_G) (X : String) (a1 : Nat) (h0 : xm_H) (mc ms : Nat) : Pt → Array Value → Addr → Pt → Prop := fun A a x B =>
  ∃ (g : JFrame) (mk : MethodId) (t : State), B.U.heap = t.heap ∧ B.U.vm = t.vm ∧ xm_thrO G X a1 h0 mc ms a (A.U.calling g mk a) (.threw x) t ∧ B.locs = A.locs ∧ B.cells = A.cells + mc ∧ B.slots = A.slots + ms
theorem x_callvT {idx j n dd mc ms a c0 a1 s0 e0 hpc ct : Nat} {as rest : List Value} {fs : List Value} {X : String} {h0 : xm_H} (hf : xm_code k pc = some (.invokevirtual idx, nx, j, n, v)) (hj9 : ¬ 900 ≤ j) (hM : XMT l j dd mc ms (.ref a :: as) hp X a1 h0) (hdd : dd < d) (hmc : mc ≤ rc) (hms : ms ≤ rs) (hst : st = as.reverse ++ .ref a :: rest) (hn0 : as.length = n) (hw8 : (rest.map fun v => v.category).sum ≤ 8) (he : hp[a]? = some (xO c0 fs)) (hcn : xm_cl[c0]?.map (fun r => r.1) = some (xm_nm j).cls)
    (hlk0 : xm_lk (xm_pn k) idx = some (.methodLink (xm_nm k).cls idx (xm_nm j))) (hh : xm_hh k = [(s0, e0, hpc, ct)]) (hcw : Cond.codeWith (xm_nm k) (xm_by k) (xm_ml k) (xm_rt k) (xm_hh k) ∈ tables_1) (hcov : s0 ≤ pc ∧ pc < e0) (hct : ct ≠ 0) (hlc : xm_lk (xm_pn k) ct = some (.classLink (xm_nm k).cls ct X)) (kk : XG l xm_any k d (rc - mc) (rs - ms) hpc pl [.ref a1] h0 Q) : XG l xm_any k d rc rs pc pl st hp Q := by
  intro G p e R s m args below meth c H locs cells slots ls hCP hR hL
  have hC := hCP.1
  obtain ⟨hd, hn, ho⟩ := xm_dec hC hf
  obtain ⟨hlk, hkd, hy, hml, hjm⟩ := xm_cok_spec (k := k) (idx := idx) (j := j) (n := n) (kd := 1) (by simpa [xm_okI, hj9, show ¬ 950 ≤ j by omega] using ho)
  have hC' := hC
  obtain ⟨hgd, hexec, hb, hmlk, hown, hret, hlks, hmn, hKK, hfr, hlo, hcel, hsl0, hlocs, hfrm, hsz⟩ := hC'
  have hKW := hKK.2.1
  have hKX := hKK.2.2.2.2.2
  obtain ⟨w1, w2, w3, w4⟩ := xm_mwV hKW hjm hkd args
  obtain ⟨r, h1, cell, q1, q2, q3, q4⟩ := hR.2.2 a _ he
  have hcl : s.vm.findClass (xm_nm j).cls = some cell.cls := by
    rw [h1] at hcn
    have hcn2 : r.1 = (xm_nm j).cls := by simpa using hcn
    rw [← hcn2, q2]
    exact (hKK.2.2.1 c0 _ h1).2.1
  have hlen : ∀ sig, parseMethodDescriptor (xm_nm j).desc = some sig → n = sig.parameters.length := fun sig h => by
    have h2 := hy.2.2
    rw [h] at h2
    exact (Option.some.inj h2).symm
  have hstk : st.map (xm_tv G.1) = (as.map (xm_tv G.1)).reverse ++ .ref (G.1 a) :: rest.map (xm_tv G.1) := by rw [hst, List.map_append, List.map_reverse]; rfl
  have hK : BackT l R p e below s args (xm_nm j) 3 8 (PreOf R mc ms (xm_Pc G (.ref a :: as) hp)) (xm_PostT G X a1 h0 mc ms) := by
    refine BackT.of_free (bytes := xm_by j) (maxL := xm_ml j) (ret := xm_rt j) (E := fun _ _ _ _ L k n => L = [] ∧ k = mc ∧ n = ms) (hM G) (by show dd + 1 ≤ R.frames; omega) (by show 8 + (xm_ml j + 11) + 60 * dd ≤ R.locals; omega) ?_ ?_ (fun _ _ _ _ _ _ _ _ _ => trivial) ?_ ?_
    · intro m meth c A a X hp
      exact ⟨atoms_intro fun w hw => by rw [List.mem_singleton.mp hw]; exact word_at X.warmed (Or.inl rfl) w1, word_at X.warmed (Or.inl rfl) w1, word_at X.warmed (Or.inl rfl) w4, hp.1, hp.2.1⟩
    · intro m meth c A a g mk X hp
      exact xm_Pc_blind _ _ _ _ _ _ _ hp.2.2
    · intro a first o t hq
      obtain ⟨g1, g2, g3, g4, g5, g6⟩ := hq
      exact ⟨[], mc, ms, ⟨⟨_, g1⟩, g5, g6⟩, rfl, rfl, rfl⟩
    · intro m meth c A a g mk v t L k n X hp hq hF hE
      obtain ⟨rfl, rfl, rfl⟩ := hE
      exact ⟨g, mk, t, rfl, rfl, hq, by simp, rfl, rfl⟩
  intro T hT Xs
  obtain ⟨mk, methM, hnamed, hmethM, hstM, habM⟩ := Cond.instanceMethod_spec w2
  obtain ⟨methM', cM, hmethM', -, -, -, -, -, -, hsigM⟩ := Cond.code_spec hnamed w1
  cases hmethM.symm.trans hmethM'
  obtain ⟨c2, r2, m2, p1, p2, p3, p4, kP, hkP, hkPi⟩ := Cond.selects_spec w3
  cases hcl.symm.trans p1
  cases (State.methodFound?_of_named hnamed ⟨hy.1, hy.2.1⟩).symm.trans p2
  cases hnamed.symm.trans p3
  have hselP : selectMethod e.platform s.vm cell.cls mk = .method mk := by rw [Launch.admits_selectMethod Xs.admits]; exact p4
  have hlink : (Cond.methodLink (xm_nm k).cls idx (xm_nm j)).before args s = true := hKW.at (xm_lk_mem hlk0) args rfl
  obtain ⟨vm₁, X₁, hstep₁⟩ := Xs.invokevirtual hexec hown hlink hnamed hmethM hstM hkP hkPi ⟨hy.1, hy.2.1⟩ (a := G.1 a) (cell := cell) (by rw [hT]; exact q1)
    (fun z h => by rw [q3] at h; cases h) hselP hmethM habM hkP hkPi (g := F0 m pc ls (st.map (xm_tv G.1))) rfl (argsL := as.map (xm_tv G.1)) (rest := rest.map (xm_tv G.1)) (by rw [List.length_map, hn0]; exact hlen _ hsigM) hstk (by rw [hb]; exact hd)
  obtain ⟨x, B, X', ⟨g', mk', t, b1, b2, ⟨o1, ⟨ce, o2, o3, o4⟩, o5, o6, o7, o8⟩, b3, b4, b5⟩, hsteps⟩ := hK m meth c ⟨T.setVm vm₁, locs, cells, slots⟩ { F0 m pc ls (st.map (xm_tv G.1)) with stack := rest.map (xm_tv G.1) } (.invokevirtual idx) mk (Value.ref (G.1 a) :: as.map (xm_tv G.1)).toArray X₁ rfl (by rw [hmlk]; exact hL.1) (by rw [hb]; exact hd) (xm_rest (G := G) (m := m) (pc := pc) (ls := ls) (st0 := []) hw8) (X₁.named hnamed) ⟨by show cells + mc ≤ R.cells; omega, by show slots + ms ≤ R.slots; omega, rfl, hKK.warm X₁.warmed, by show xm_R G (T.setVm vm₁) hp T.heap; rw [hT]; exact hR.moved X₁.warmed.alike⟩
  obtain rfl : x = G.1 a1 := by cases o1; rfl
  have hceB : B.U.heap[G.1 a1]? = some ce := by rw [b1]; exact o2
  have hfX : s.vm.findClass X = some ce.cls := by
    have h : (T.setVm vm₁).vm.findClass X = some ce.cls := o4
    rwa [X₁.warmed.alike.findClass] at h
  obtain ⟨mW, methW, cW, n1, n2, n3, -, -, n6, -, -, -⟩ := Cond.codeWith_spec (hKX.at hcw args rfl rfl)
  cases hsz.2.symm.trans n1
  cases Xs.method.symm.trans n2
  cases Xs.code.symm.trans n3
  rw [hh] at n6
  obtain ⟨x0, hx0, y1, y2, y3, y4⟩ : ∃ x0 : ExceptionTableEntry, c.exceptionTable.toList = [x0] ∧ x0.startPc = s0 ∧ x0.endPc = e0 ∧ x0.handlerPc = hpc ∧ x0.catchType = ct := by
    cases hE : c.exceptionTable.toList with
    | nil => rw [hE] at n6; cases n6
    | cons x0 r =>
      rw [hE] at n6
      cases r with
      | nil =>
        simp only [List.map_cons, List.map_nil, List.cons.injEq, Prod.mk.injEq, and_true] at n6
        exact ⟨x0, rfl, n6.1, n6.2.1, n6.2.2.1, n6.2.2.2⟩
      | cons y r => simp at n6
  have hcovx : covers x0 pc = true := by
    unfold covers
    rw [y1, y2]
    simp [hcov.1, hcov.2]
  obtain ⟨vm', XV, stV⟩ := X'.caughtLink (G.1 a1) (g := { F0 m pc ls (st.map (xm_tv G.1)) with stack := rest.map (xm_tv G.1) }) rfl hown [] x0 [] (by rw [hx0]; rfl) (fun y hy => by cases hy) hcovx (by rw [y4]; exact hct) (by rw [y4]; exact hKW.at (xm_lk_mem hlc) args rfl) hfX hceB (by rw [o3]; rfl) (va_asg _ _)
  have hal : t.vm.Alike s.vm := by rw [← b2]; exact X'.warmed.alike.symm
  have K := kk G p e R s m args below meth c (B.U.setVm vm').heap B.locs B.cells B.slots ls ⟨⟨hgd, hexec, hb, hmlk, hown, hret, hlks, hmn, hKK, hfr, hlo, by rw [b4]; show cells + mc + (rc - mc) ≤ R.cells; omega, by rw [b5]; show slots + ms + (rs - ms) ≤ R.slots; omega, by rw [b3]; exact hlocs, fun q hq => by
      have h1 : (B.U.setVm vm').heap[q]? = t.heap[q]? := by show B.U.heap[q]? = _; rw [b1]
      have h2 : t.heap[q]? = T.heap[q]? := o6 q hq
      rw [h1, h2, hT]; exact hfrm q hq, hsz⟩, trivial⟩ (by show xm_R G s h0 B.U.heap; rw [b1]; exact o5.moved hal) hL
  obtain ⟨t2, c1, c2⟩ := K (B.U.setVm vm') rfl XV
  refine ⟨t2, hstep₁ t2 fun acts => ?_, c2⟩
  rw [doInvoke_state]
  refine hsteps.trans ?_
  rw [X'.pushThrowing_eq]
  refine stV t2 ?_
  rw [y3]
  exact c1
/-- the contract of a helper with a handler -/
def XMW (l : Launch) (k d mc ms : Nat) (as : List Value) (hp : xm_H) (Q : Option Value → xm_H → Prop) : Prop :=
  ∀ G : xm_G, Met l (xm_nm k) [.codeWith (xm_nm k) (xm_by k) (xm_ml k) (xm_rt k) (xm_hh k)] { frames := d, cells := mc, slots := ms, locals := 60 * d } (xm_Pc G as hp) (xm_Qc G Q) mc ms (fun q => G.2.2.2 ≤ q)
theorem XMW_of {Q0 : Option Value → xm_H → Prop} {mc ms : Nat} {as : List Value} (hg : xm_good k) (hpn : plainName (xm_nm k).cls = true) (hca : ∀ v ∈ as, v.category = 1) (hle : as.length ≤ xm_ml k) (hpl : as.map some ++ List.replicate (xm_ml k - as.length) none = pl) (h : XG l xm_any k d mc ms 0 pl [] hp (xm_ret Q0)) : XMW l k d mc ms as hp Q0 := by
  intro G
  refine va_MetW (cc := xm_by k) (maxL := xm_ml k) (ret := xm_rt k) (hh := xm_hh k) hpn rfl ?_
  intro p e s m args below meth c s₁ B hml hv
  obtain ⟨rfl, hK, hR⟩ := hv
  rw [lg_entry_eq]
  have hsz : G.2.2.2 ≤ s.heap.size := by have h1 := hR.1; have h2 := hR.2.1; omega
  exact h G p e _ s m _ below meth c s.heap [] 0 0 _ ⟨⟨hg, B.exec, B.bytes, hml, findClass_of_methodNamed B.named, B.returns, B.notSynchronized, (name_of_methodNamed B.named B.method).1, hK, Nat.le_refl _, Nat.le_refl _, by simp [headSpec], by simp [headSpec], fun q hq => (by cases hq), fun q _ => rfl, hsz, B.named⟩, trivial⟩ hR (xm_entryL hca hle hpl)
theorem x_callsW {idx j n q0 dd mc ms : Nat} {as rest : List Value} {Q1 : Option Value → xm_H → Prop} (hf : xm_code k pc = some (.invokestatic idx, nx, q0, n, v)) (hM : XMW l j dd mc ms as hp Q1) (hdd : dd < d) (hmc : mc ≤ rc) (hms : ms ≤ rs) (hst : st = as.reverse ++ rest) (hw8 : (rest.map fun v => v.category).sum ≤ 8)
    (hlk0 : xm_lk (xm_pn k) idx = some (.methodLink (xm_nm k).cls idx (xm_nm j))) (hcw : Cond.codeWith (xm_nm j) (xm_by j) (xm_ml j) (xm_rt j) (xm_hh j) ∈ tables_1) (hsw : Cond.static (xm_nm j) ∈ tables_1) (hiw : Cond.initialized (xm_nm j).cls ∈ tables_1) (hx : (xm_nm j).cls ≠ "java/lang/invoke/MethodHandle" ∧ (xm_nm j).cls ≠ "java/lang/invoke/VarHandle" ∧ (parseMethodDescriptor (xm_nm j).desc).map (fun d => d.parameters.length) = some as.length) (hml : xm_ml j ≤ 40)
    (kk : ∀ (x : Option Value) (hp1 : xm_H), Q1 x hp1 → XG l xm_any k d (rc - mc) (rs - ms) nx pl (x.toList ++ rest) hp1 Q) : XG l xm_any k d rc rs pc pl st hp Q := by
  intro G p e R s m args below meth c H locs cells slots ls hCP hR hL
  have hC := hCP.1
  obtain ⟨hd, hn, ho⟩ := xm_dec hC hf
  have hd3 : decode (xm_by k) pc = .ok (.invokestatic idx, 3) := hd
  have hC' := hC
  obtain ⟨hgd, hexec, hb, hmlk, hown, hret, hlks, hmn, hKK, hfr, hlo, hcel, hsl0, hlocs, hfrm, hsz⟩ := hC'
  have hKW := hKK.2.1
  have hKX := hKK.2.2.2.2.2
  have wc := hKX.at hcw args rfl rfl
  have wst := hKX.at hsw args rfl rfl
  have wi := hKX.at hiw args rfl rfl
  have hpre : PreS s H (xm_Pc G as hp) (as.map (xm_tv G.1)) := ⟨xm_Pc_blind _ _ _, fun U hU hW => ⟨rfl, hKK.warm hW, by rw [hU]; exact hR.moved hW.alike⟩⟩
  have hstk : st.map (xm_tv G.1) = (as.map (xm_tv G.1)).reverse ++ rest.map (xm_tv G.1) := by rw [hst, List.map_append, List.map_reverse]
  have hrm : dd + 1 ≤ R.frames ∧ 8 + (xm_ml j + 11) + 60 * dd ≤ R.locals := ⟨by omega, by omega⟩
  have hcs : cells + mc ≤ R.cells ∧ slots + ms ≤ R.slots := ⟨by omega, by omega⟩
  have hK : Back l R p e below s args (xm_nm j) 3 8 (PreOf R mc ms (xm_Pc G as hp)) (PostOf (xm_Qc G Q1) mc ms (fun q => G.2.2.2 ≤ q)) := va_backW (hh := xm_hh j) (bytes := xm_by j) (maxL := xm_ml j) (ret := xm_rt j) (hM G) hpre.1 rfl rfl hrm.1 hrm.2 (fun w hw a' U hW => by rw [List.mem_singleton.mp hw]; exact word_at hW (Or.inl rfl) wc) (List.mem_singleton.mpr rfl) (fun a' U hW => word_at hW (Or.inl rfl) wi)
  have key : va_Run p l e R s m args below meth c H locs cells slots mc ms (F0 m pc ls (st.map (xm_tv G.1))) (rest.map (xm_tv G.1)) (xm_Qc G Q1 (as.map (xm_tv G.1)).toArray) (fun q => G.2.2.2 ≤ q) := by
    intro T hT X
    obtain ⟨mk, methM, cM, hnamed, hmethM, -, -, -, -, -, -, hsigM⟩ := Cond.codeWith_spec wc
    have hstatic : methM.isStatic = true := Cond.static_spec hnamed hmethM wst
    obtain ⟨kP, hkP, -⟩ := className_of_methodNamed hnamed
    have hinitP : kP.init = .initialized := Cond.initialized_spec (findClass_of_methodNamed hnamed) hkP wi
    have hlen : (as.map (xm_tv G.1)).length = methM.sig.parameters.length := by
      have h2 := hx.2.2
      rw [hsigM] at h2
      rw [List.length_map]
      exact (Option.some.inj h2).symm
    obtain ⟨vm₁, X₁, hstep₁⟩ := X.invokestatic hexec hown (hKW.at (xm_lk_mem hlk0) args rfl) hnamed hmethM hstatic hkP hinitP ⟨hx.1, hx.2.1⟩ (g := F0 m pc ls (st.map (xm_tv G.1))) rfl (argsL := as.map (xm_tv G.1)) (rest := rest.map (xm_tv G.1)) hlen hstk (by rw [hb]; exact hd3)
    obtain ⟨v0, ⟨U', l2, c2, s2⟩, X', ⟨g', mk', t, L, e1, e2, hq, h1, hL1, h2, h3⟩, hsteps⟩ := hK m meth c ⟨T.setVm vm₁, locs, cells, slots⟩ { F0 m pc ls (st.map (xm_tv G.1)) with stack := rest.map (xm_tv G.1) } (.invokestatic idx) mk (as.map (xm_tv G.1)).toArray X₁ rfl (by rw [hmlk]; exact hL.1) (by rw [hb]; exact hd3) (xm_rest (G := G) (m := m) (pc := pc) (ls := ls) (st0 := []) hw8) (X₁.named hnamed) ⟨hcs.1, hcs.2, hpre.2 (T.setVm vm₁) hT X₁.warmed⟩
    dsimp only [Pt.U, Pt.locs, Pt.cells, Pt.slots] at X' e1 e2 h1 h2 h3 hsteps
    subst h1; subst h2; subst h3
    exact ⟨v0, (T.setVm vm₁).calling g' mk' (as.map (xm_tv G.1)).toArray, t, U', L, hT, X', hL1, e1, e2, hq, fun target h => hstep₁ _ fun acts => by rw [doInvoke_state]; exact hsteps.trans h⟩
  refine xm_after key hC hL hmc hms ?_
  rw [hn] at kk
  exact kk
end XC
