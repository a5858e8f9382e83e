/-! a new exception is thrown out of a method that has written nothing yet -/
def xm_twA (X : String) : List Cond := Bundle.throwableAtoms ++ Bundle.throwableSAtoms ++ Bundle.chainSAtoms X ["java/lang/RuntimeException", "java/lang/Exception"]
def xm_twB (X : String) : List Cond := [.instantiable X 6, .castable X X, .selects X Bundle.tFill0 Bundle.tFill0, .selects X Bundle.tFill Bundle.tFill,
   .lays X Bundle.tN "cause" "Ljava/lang/Throwable;", .lays X Bundle.tN "stackTrace" Bundle.steD, .lays X Bundle.tN "suppressedExceptions" Bundle.listD, .lays X Bundle.tN "detailMessage" "Ljava/lang/String;",
   .fieldLink Bundle.tN 198 Bundle.tN "backtrace" "Ljava/lang/Object;", .lays Bundle.tN Bundle.tN "backtrace" "Ljava/lang/Object;", .lays X Bundle.tN "backtrace" "Ljava/lang/Object;", .initialized X]
def xm_isLS : Cond → Bool
  | .laysStatic _ _ _ => true
  | _ => false
/-- which of them the tables have for good; the two of statics stand in the world -/
def xm_twok (X : String) : Bool := (xm_twA X ++ xm_twB X).all (fun w => (decide (w = .laysStatic Bundle.tN "UNASSIGNED_STACK" Bundle.steD) || decide (w = .laysStatic Bundle.tN "SUPPRESSED_SENTINEL" Bundle.listD)) || (decide (w ∈ tables_1) && xm_okx w))
set_option maxRecDepth 100000 in
theorem xm_tw1 : xm_twok "java/lang/IllegalArgumentException" = true := by decide +kernel
set_option maxRecDepth 100000 in
theorem xm_tw2 : xm_twok "java/lang/IllegalStateException" = true := by decide +kernel
set_option maxRecDepth 100000 in
theorem xm_tw3 : xm_twok "java/lang/IndexOutOfBoundsException" = true := by decide +kernel
/-- it throws an X, the world is h0 -/
def xm_thr (X : String) (a1 : Nat) (h0 : xm_H) : xm_Q := fun G below args s R t => t.status = .running ∧ Ended t below (.threw (G.1 a1)) ∧ (∃ ce : Cell, t.heap[G.1 a1]? = some ce ∧ ce.vm = .none ∧ s.vm.findClass X = some ce.cls) ∧ xm_R G t h0 t.heap ∧ (∀ q : Nat, q < G.2.2.2 → t.heap[q]? = s.heap[q]?) ∧ s.WarmedH t.vm ∧ s.sameButNew ({ t with vm := s.vm } : State) [] R.cells R.slots
section XT
variable {l : Launch} {k d rc rs pc : Nat} {pl : List (Option Value)} {st : List Value} {hp : xm_H}
/-- words that hold at any arguments -/
theorem xm_KX.at {s : State} (h : xm_KX s) {w : Cond} (hw : w ∈ tables_1) (a : Array Value) (hk : xm_okx w = true) (ht : w.onTables = true) : w.before a s = true := va_Nw.use ht (h w hw hk)
set_option maxHeartbeats 2000000 in
theorem x_throw {X : String} {iC iS iI a0 : Nat} {q1 q2 q3 q4 q5 q6 q7 q8 q9 : Nat} {v0 v1 v2 v3 v4 : Int32} (hfl : l.flags = pinnedFlags ++ [noTraceFlag]) (hX : xm_twok X = true) (hXf : Bundle.fit X = true) (hon : (xm_twA X ++ xm_twB X).all (fun w => w.onTables || xm_isLS w) = true)
    (f0 : xm_code k pc = some (.new iC, pc + 3, q1, q2, v0)) (f1 : xm_code k (pc + 3) = some (.dup, pc + 4, q3, q4, v1)) (f2 : xm_code k (pc + 4) = some (.ldc iS, pc + 6, a0, 900, v2)) (f3 : xm_code k (pc + 6) = some (.invokespecial iI, pc + 9, q5, q6, v3)) (f4 : xm_code k (pc + 9) = some (.athrow, q7, q8, q9, v4))
    (hlC : xm_lk (xm_pn k) iC = some (.classLink (xm_nm k).cls iC X)) (hlI : xm_lk (xm_pn k) iI = some (.methodLink (xm_nm k).cls iI (Bundle.initS X)))
    (h31 : hp[31]? = some (xS 0)) (hkd : xm_kd k = 1) (hkM : k < xm_nM) (hd6 : 6 ≤ d) (hw8 : (st.map fun v => v.category).sum ≤ 8) (hrc : 1 ≤ rc) (hrs : 6 ≤ rs) : XG l xm_clean k d rc rs pc pl st hp (xm_thr X hp.length (hp ++ [none])) := by
  intro G p e R s m args below meth c H locs cells slots ls hCP hR hL
  have hC := hCP.1
  obtain ⟨hH, hlo0, hc0, hs0⟩ := hCP.2
  obtain ⟨d0, -, -⟩ := xm_dec hC f0
  obtain ⟨d1, -, -⟩ := xm_dec hC f1
  obtain ⟨d2, -, o2⟩ := xm_dec hC f2
  obtain ⟨d3, -, -⟩ := xm_dec hC f3
  obtain ⟨d4, -, -⟩ := xm_dec hC f4
  obtain ⟨hgd, hexec, hb, hml, hown, hret, hlk, hmn, hKK, hfr, hlo, hcel, hsl0, hlocs, hfrm, hsz⟩ := hC
  have hKW := hKK.2.1
  have hKX := hKK.2.2.2.2.2
  obtain ⟨w1, -, -, -⟩ := xm_mwV hKW hkM hkd args
  obtain ⟨meth', c', hm', hc', -, -, -, -, hex, -⟩ := Cond.code_spec hsz.2 w1
  subst hH hlo0 hc0 hs0
  have hall := List.all_eq_true.mp hX
  have hS0 := hR.2.2 31 _ h31
  obtain ⟨-, -, -, -, hz1, hz2, hz3, hz4⟩ := hS0
  have hword : ∀ w ∈ xm_twA X ++ xm_twB X, w.before args s = true := by
    intro w hw
    have h1 := hall w hw
    have h2 := List.all_eq_true.mp hon w hw
    simp only [Bool.or_eq_true, decide_eq_true_eq, Bool.and_eq_true] at h1
    rcases h1 with (rfl | rfl) | ⟨h1, h3⟩
    · exact hz3.use
    · exact hz4.use
    · simp only [Bool.or_eq_true] at h2
      rcases h2 with h2 | h2
      · exact hKX.at h1 args h3 h2
      · cases w <;> first | (cases h2; done) | (unfold xm_okx xm_okw at h3; cases h3)
  obtain ⟨cX, kX, hfX, hkX, hordX, -, -, hn6⟩ := Cond.instantiable_spec (hword (.instantiable X 6) (List.mem_append_right _ List.mem_cons_self))
  obtain ⟨r, hr, hr1, hr2, hr3⟩ : ∃ r ∈ xm_sl, r.1 = (xm_nm k).cls ∧ r.2.1 = iS ∧ r.2.2.2 = a0 := by
    have h := List.any_eq_true.mp (show xm_sl.any (fun r => decide (r.1 = (xm_nm k).cls) && decide (r.2.1 = iS) && decide (r.2.2.2 = a0)) = true by simpa [xm_okI] using o2)
    obtain ⟨r, hr, h⟩ := h
    simp only [Bool.and_eq_true, decide_eq_true_eq] at h
    exact ⟨r, hr, h.1.1, h.1.2, h.2⟩
  have hZ := hKK.2.2.2.2.1 r hr
  rw [hr1, hr2, hr3] at hZ
  refine W.newcK hexec hb hown (hKW.at (xm_lk_mem hlC) args rfl) (hword (.instantiable X 6) (List.mem_append_right _ List.mem_cons_self)) (hword (.initialized X) (List.mem_append_right _ (by simp [xm_twB]))) rfl d0 (by omega) (by omega) hfX rfl fun H1 kC hkC e1 z1 o1 => ?_
  refine lv_dup hexec hb d1 rfl ?_
  refine va_ldcS hexec hb hown hZ d2 ?_
  intro T hT Xs
  have hkk : kC = kX := Option.some.inj (hkC.symm.trans hkX)
  subst hkk
  have hrest : ((Value.ref s.heap.size :: st.map (xm_tv G.1)).map fun v => v.category).sum ≤ 9 := by
    have h := lv_room (m := m) (pc := pc) (ls := ls) (rest := ([] : List Value)) (st := st) hw8
    have e9 : ((st.map (xm_tv G.1)).map fun v => v.category) = st.map fun v => v.category := by
      rw [List.map_map]
      exact List.map_congr_left (fun v _ => xm_tv_cat _ v)
    rw [List.map_cons, List.sum_cons, e9]
    have h1 : (Value.ref s.heap.size).category = 1 := rfl
    omega
  have hatoms : ∀ w ∈ Bundle.ownAtoms (xm_nm k).cls iI X ["java/lang/RuntimeException", "java/lang/Exception"], w.before args s = true := by
    intro w hw
    unfold Bundle.ownAtoms at hw
    rcases List.mem_append.mp hw with h | h
    · exact hword w (List.mem_append_left _ h)
    · simp only [List.mem_cons, List.not_mem_nil, or_false] at h
      rcases h with rfl | rfl | rfl | rfl | rfl | rfl | rfl | rfl | rfl | rfl | rfl | rfl | rfl | rfl <;> first
        | exact hKW.at (xm_lk_mem hlI) args rfl
        | exact hz1.use
        | exact hz2.use
        | exact hword _ (List.mem_append_right _ (by simp [xm_twB]))
  have hout : ∀ x ∈ c.exceptionTable.toList, covers x (pc + 6 + 3) = false := by
    have hmm : meth = meth' := Option.some.inj (Xs.method.symm.trans hm')
    subst hmm
    have hcc : c = c' := Option.some.inj (Xs.code.symm.trans hc')
    subst hcc
    intro x hx
    have he : c.exceptionTable = #[] := by simpa using hex
    rw [he] at hx
    cases hx
  obtain ⟨U, hsteps, hrun, hend, hWU, hsame, ce, hce, hown2⟩ := Xs.ctorThrowS hexec (Launch.traces_off hfl Xs.admits) (own := (xm_nm k).cls) (cls := X) (names := ["java/lang/RuntimeException", "java/lang/Exception"]) (ic := iI) hown hXf (by decide) hatoms (fun x hx => by cases hx) (a := s.heap.size) hfX hkX (by rw [hT]; exact e1) (Nat.le_refl _) (msg := .ref (G.1 a0)) rfl (g := F0 m (pc + 6) ls (.ref (G.1 a0) :: .ref s.heap.size :: .ref s.heap.size :: st.map (xm_tv G.1))) rfl (by rw [hml]; exact hL.1) rfl rfl (rest := st.map (xm_tv G.1)) rfl (by rw [hb]; exact d3) (by rw [hb]; exact d4) hout (by show 2 + 3 < R.frames; omega) (by show 2 * 0 + _ + (13 * 3 + 42) ≤ R.locals; omega) hlk
  have hold : ∀ q : Nat, q < s.heap.size → U.heap[q]? = s.heap[q]? := by
    intro q hq
    obtain ⟨-, -, -, -, -, h6⟩ := hsame
    obtain ⟨cq, hcq⟩ : ∃ cq, s.heap[q]? = some cq := ⟨_, Array.getElem?_eq_getElem hq⟩
    obtain ⟨c2, g1, g2, g3, g4⟩ := h6 q cq hcq
    have g1' : U.heap[q]? = some c2 := g1
    have hsl : c2.slots = cq.slots := by
      apply Array.ext_getElem?
      intro i
      exact g4 i (by simp)
    rw [g1', hcq, g2, hsl]
  have hsize : U.heap.size = s.heap.size + 1 := by
    obtain ⟨-, -, h3, -⟩ := hsame
    have h4 : U.heap.size ≤ s.heap.size + (0 + 1) := h3
    have h5 := (Array.getElem?_eq_some_iff.mp hce).1
    omega
  have htop : G.1 hp.length = s.heap.size := by
    have h1 := hKK.1.1 (hp.length - xm_c0)
    have h2 := hR.1
    have h3 := hR.2.1
    rw [Nat.add_sub_cancel' h2] at h1
    omega
  refine ⟨U, hsteps, hrun, by rw [htop]; exact hend, ⟨ce, by rw [htop]; exact hce, hown2.vm, hown2.cls⟩, ?_, fun q hq => hold q (by omega), hWU, hsame.mono (by omega) (by omega)⟩
  exact (hR.push hKK.1 (e := none) (fun x hx => by cases hx) hsize hold).moved hWU.alike
end XT
