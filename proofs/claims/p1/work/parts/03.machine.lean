/-! Our own judgement over the kit's W: one world (a list of cells, addressed by small numbers), one context; a rule an instruction. -/
/-- a static field that the tables lay, its cell below what may change -/
def xm_LS (C n d : String) (A : Nat → Prop) (U : State) (H : Heap) : Prop := ∃ (c : ClassId) (k : Class) (i : Nat) (f : Field) (a : Nat) (cell : Cell), U.vm.findClass C = some c ∧ U.fieldFound? C n d = some (c, k, i, f) ∧ f.isStatic = true ∧ k.statics = some a ∧ H[a]? = some cell ∧ cell.vm.isStatics = true ∧ cell.cls = c ∧ f.slot < cell.slots.size ∧ k.staticTypes[f.slot]? = some f.type ∧ ¬ A a
theorem xm_LS.moved {C n d : String} {A : Nat → Prop} {u U : State} {H : Heap} (hvm : u.vm.Alike U.vm) (h : xm_LS C n d A u H) : xm_LS C n d A U H := by
  obtain ⟨c, k, i, f, a, cell, h1, h2, h3, h4, h5, h6, h7, h8, h9, h10⟩ := h
  obtain ⟨k', hi', he⟩ := State.fieldFound?_setVm hvm h2
  exact ⟨c, k', i, f, a, cell, by rw [hvm.findClass]; exact h1, hi', h3, by rw [he]; exact h4, h5, h6, h7, h8, by rw [he]; exact h9, h10⟩
theorem xm_LS.kept {C n d : String} {A : Nat → Prop} {U : State} {H H1 : Heap} (h : xm_LS C n d A U H) (hq : ∀ a : Nat, a < H.size → ¬ A a → H1[a]? = H[a]?) : xm_LS C n d A U H1 := by
  obtain ⟨c, k, i, f, a, cell, h1, h2, h3, h4, h5, h6, h7, h8, h9, h10⟩ := h
  exact ⟨c, k, i, f, a, cell, h1, h2, h3, h4, by rw [hq a (Array.getElem?_eq_some_iff.mp h5).1 h10]; exact h5, h6, h7, h8, h9, h10⟩
theorem xm_LS.use {C n d : String} {A : Nat → Prop} {U : State} {args : Array Value} (h : xm_LS C n d A U U.heap) : (Cond.laysStatic C n d).before args U = true := by
  obtain ⟨c, k, i, f, a, cell, h1, h2, h3, h4, h5, h6, h7, h8, h9, h10⟩ := h
  exact Cond.laysStatic_of h1 h2 h3 h4 h5 h6 h7 h8 h9
theorem va_Zq.use {C n d : String} {A : Nat → Prop} {U : State} {args : Array Value} (h : va_Zq C n d A U U.heap) : (Cond.isRef (.static C n d)).before args U = true := by
  rcases h with h | ⟨t, h⟩
  · obtain ⟨cf, kf, fi, f, a, cell, h1, h2, h3, h4, h5, h6, h7, h8⟩ := h
    simp [Cond.before, Cond.holds, Cond.value, Term.eval, State.fieldNamed?, h1, h2, h4, h5, h6, h7]
  · obtain ⟨cf, kf, fi, f, a, cell, h1, h2, h3, h4, h5, h6, h7, h8⟩ := h
    simp [Cond.before, Cond.holds, Cond.value, Term.eval, State.fieldNamed?, h1, h2, h4, h5, h6, h7]
def xm_at (G : xm_G) (U : State) (H : Heap) (a : Nat) (e : xm_E) : Prop := match e with
  | .inl (t, n, f) => ∃ cell : Cell, H[G.1 a]? = some cell ∧ U.isArrayOf cell (xm_ty t) ∧ cell.vm ≠ .unknown ∧ cell.slots.size = n ∧ (∀ j : Nat, j < n → cell.slots[j]? = some (.int (f j))) ∧ (xm_c0 ≤ a → cell.cls = G.2.2.1 t)
  | .inr (.inl (t, n, f)) => ∃ cell : Cell, H[G.1 a]? = some cell ∧ U.isArrayOf cell (xm_ty t) ∧ cell.vm ≠ .unknown ∧ cell.slots.size = n ∧ (∀ j : Nat, j < n → cell.slots[j]? = some (xm_tv G.1 (f j))) ∧ (xm_c0 ≤ a → cell.cls = G.2.2.1 t)
  | .inr (.inr (.inl (c, fs))) => ∃ r : vw_C, xm_cl[c]? = some r ∧ t_OB (G.1 a) (G.2.1.1 c) r.2.2 (G.2.1.2 c) H (vp_V (fs.map (xm_tv G.1)))
  | .inr (.inr (.inr n)) => a < xm_c0 ∧ match n with
    | 0 => G.1 a < H.size ∧ va_Z "java/lang/String" "COMPACT_STRINGS" "Z" (.int 1) (fun q => G.2.2.2 ≤ q) U H ∧ va_Zq "jdk/internal/util/Preconditions" "SIOOBE_FORMATTER" "Ljava/util/function/BiFunction;" (fun q => G.2.2.2 ≤ q) U H ∧ va_Zq "java/lang/Throwable" "UNASSIGNED_STACK" "[Ljava/lang/StackTraceElement;" (fun q => G.2.2.2 ≤ q) U H ∧ va_Zq "java/lang/Throwable" "SUPPRESSED_SENTINEL" "Ljava/util/List;" (fun q => G.2.2.2 ≤ q) U H ∧ xm_LS "java/lang/Throwable" "UNASSIGNED_STACK" "[Ljava/lang/StackTraceElement;" (fun q => G.2.2.2 ≤ q) U H ∧ xm_LS "java/lang/Throwable" "SUPPRESSED_SENTINEL" "Ljava/util/List;" (fun q => G.2.2.2 ≤ q) U H
    | n + 1 => ∃ v : Nat, va_O "java/lang/String" (G.1 a) (fun q => G.2.2.2 ≤ q) U H ∧ va_OF "java/lang/String" "coder" "B" (.int 0) (G.1 a) (fun q => G.2.2.2 ≤ q) U H ∧ va_OF "java/lang/String" "value" "[B" (.ref v) (G.1 a) (fun q => G.2.2.2 ≤ q) U H ∧ va_T .byte v (xm_tx (n + 1)).length (fun j => .int ((xm_tx (n + 1)).getD j 0)) (fun q => G.2.2.2 ≤ q) U H
/-- the heap H holds the world hp -/
def xm_R (G : xm_G) (U : State) (hp : xm_H) (H : Heap) : Prop := xm_c0 ≤ hp.length ∧ H.size + xm_c0 = G.2.2.2 + hp.length ∧ ∀ (a : Nat) (e : xm_E), hp[a]? = some (some e) → xm_at G U H a e
/-- what the tables say -/
def xm_KA (G : xm_G) (U : State) : Prop := ∀ t : Nat, t < xm_nt → U.vm.findClass ("[" ++ (xm_ty t).toString) = some (G.2.2.1 t) ∧ ∃ (kA : Class) (comp : ClassId), U.vm.classes[G.2.2.1 t]? = some kA ∧ kA.kind = .array comp (xm_ty t) ∧ ((xm_ty t).isReference = true → U.vm.findClass (xm_cn (xm_ty t)) = some comp)
def xm_KC (G : xm_G) (U : State) : Prop := ∀ (c : Nat) (q : vw_C), xm_cl[c]? = some q → u_Kn U q.1 q.2.1 q.2.2 (G.2.1.1 c) (G.2.1.2 c)
def xm_KW (U : State) : Prop := ∀ w ∈ xm_W, va_Nw w U
def xm_KS (G : xm_G) (U : State) : Prop := ∀ r ∈ xm_sl, vk_R r.1 r.2.1 r.2.2.1 (G.1 r.2.2.2) U
def xm_KG (G : xm_G) : Prop := (∀ i : Nat, G.1 (xm_c0 + i) = G.2.2.2 + i) ∧ ∀ i : Nat, i < xm_c0 → G.1 i < G.2.2.2
/-- every word of the Statement's tables that stays -/
def xm_okx (w : Cond) : Bool := match w with
  | .declares _ => true
  | w => xm_okw w
def xm_KX (U : State) : Prop := ∀ w ∈ tables_1, xm_okx w = true → va_Nw w U
def xm_K (G : xm_G) (U : State) : Prop := xm_KG G ∧ xm_KW U ∧ xm_KC G U ∧ xm_KA G U ∧ xm_KS G U ∧ xm_KX U
def xm_L (r : Nat → Nat) (ls : Array Slot) (nL : Nat) (pl : List (Option Value)) : Prop := ls.size = nL ∧ lv_wf ls ∧ pl.length = nL ∧ ∀ (i : Nat) (v : Value), pl[i]? = some (some v) → v.category = 1 ∧ ls[i]? = some (.val (xm_tv r v))
/-- the context of a walk of method k -/
def xm_C (k d rc rs : Nat) (G : xm_G) (p : Program) (R : Room) (s : State) (m : MethodId) (meth : Method) (c : Code) (H : Heap) (locs : List Loc) (cells slots : Nat) : Prop :=
  xm_good k ∧ p.tables.exec = Jvm.exec ∧ c.code = xm_by k ∧ c.maxLocals = xm_ml k ∧ s.vm.findClass (xm_nm k).cls = some m.cls ∧ meth.sig.returnType = xm_rt k ∧ meth.locks = false ∧ meth.name = (xm_nm k).name ∧
  xm_K G s ∧ d ≤ R.frames ∧ 60 * d ≤ R.locals ∧ cells + rc ≤ R.cells ∧ slots + rs ≤ R.slots ∧ (∀ q ∈ locs, G.2.2.2 ≤ q.base) ∧ (∀ q : Nat, q < G.2.2.2 → H[q]? = s.heap[q]?) ∧ G.2.2.2 ≤ s.heap.size ∧ s.methodNamed? (xm_nm k) = some m
def xm_Qc (G : xm_G) (Q : Option Value → xm_H → Prop) : Array Value → State → Outcome → State → Prop := fun _ st o t =>
  ∃ (v : Option Value) (hp : xm_H), Q v hp ∧ o = .returned (v.map (xm_tv G.1)) ∧ xm_R G t hp t.heap ∧ ∀ q : Nat, q < G.2.2.2 → t.heap[q]? = st.heap[q]?
/-- how a walk ends -/
abbrev xm_Q : Type := xm_G → List Frame → Array Value → State → Room → State → Prop
/-- what is asked of the heap beside: nothing; or that nothing was done yet -/
abbrev xm_P : Type := State → Heap → List Loc → Nat → Nat → Prop
def xm_any : xm_P := fun _ _ _ _ _ => True
def xm_clean : xm_P := fun s H locs cells slots => H = s.heap ∧ locs = [] ∧ cells = 0 ∧ slots = 0
/-- from pc, locals pl, stack st, world hp, method k comes to Q; d deep, rc cells and rs slots left -/
def XG (l : Launch) (P : xm_P) (k d rc rs pc : Nat) (pl : List (Option Value)) (st : List Value) (hp : xm_H) (Q : xm_Q) : Prop :=
  ∀ (G : xm_G) (p : Program) (e : Env) (R : Room) (s : State) (m : MethodId) (args : Array Value) (below : List Frame) (meth : Method) (c : Code) (H : Heap) (locs : List Loc) (cells slots : Nat) (ls : Array Slot),
    xm_C k d rc rs G p R s m meth c H locs cells slots ∧ P s H locs cells slots → xm_R G s hp H → xm_L G.1 ls (xm_ml k) pl →
    W p l e R s m args below meth c H locs cells slots (Q G below args s R) (F0 m pc ls (st.map (xm_tv G.1)))
/-- it returns, with Q -/
def xm_ret (Q : Option Value → xm_H → Prop) : xm_Q := fun G below args s R => MQ below (xm_Qc G Q) args s R.cells R.slots (fun q => G.2.2.2 ≤ q)
abbrev XW (l : Launch) (k d rc rs pc : Nat) (pl : List (Option Value)) (st : List Value) (hp : xm_H) (Q : Option Value → xm_H → Prop) : Prop := XG l xm_any k d rc rs pc pl st hp (xm_ret Q)
def xm_Pc (G : xm_G) (as : List Value) (hp : xm_H) : Array Value → State → Prop := fun a U => a = (as.map (xm_tv G.1)).toArray ∧ xm_K G U ∧ xm_R G U hp U.heap
/-- method k's contract at these arguments and this world -/
def XM (l : Launch) (k d mc ms : Nat) (as : List Value) (hp : xm_H) (Q : Option Value → xm_H → Prop) : Prop :=
  ∀ G : xm_G, Met l (xm_nm k) [.code (xm_nm k) (xm_by k) (xm_ml k) (xm_rt k)] { frames := d, cells := mc, slots := ms, locals := 60 * d } (xm_Pc G as hp) (xm_Qc G Q) mc ms (fun q => G.2.2.2 ≤ q)
theorem xm_at.lt {G : xm_G} {U : State} {H : Heap} {a : Nat} {e : xm_E} (h : xm_at G U H a e) : G.1 a < H.size := by
  obtain ⟨t, n, f⟩ | ⟨t, n, f⟩ | ⟨c, fs⟩ | n := e
  · obtain ⟨cell, h1, -⟩ := h
    exact (Array.getElem?_eq_some_iff.mp h1).1
  · obtain ⟨cell, h1, -⟩ := h
    exact (Array.getElem?_eq_some_iff.mp h1).1
  · obtain ⟨r, -, cell, h1, -⟩ := h
    exact (Array.getElem?_eq_some_iff.mp h1).1
  · cases n with
    | zero => exact h.2.1
    | succ n =>
      obtain ⟨-, v, ⟨cell, h1, -⟩, -⟩ := h
      exact (Array.getElem?_eq_some_iff.mp h1).1
theorem xm_at.kept {G : xm_G} {U : State} {H H1 : Heap} {a : Nat} {e : xm_E} (h : xm_at G U H a e) (hq : H1[G.1 a]? = H[G.1 a]?) (hlo : ∀ q : Nat, q < G.2.2.2 → H1[q]? = H[q]?) : xm_at G U H1 a e := by
  obtain ⟨t, n, f⟩ | ⟨t, n, f⟩ | ⟨c, fs⟩ | n := e
  · obtain ⟨cell, h1, h2⟩ := h
    exact ⟨cell, hq.trans h1, h2⟩
  · obtain ⟨cell, h1, h2⟩ := h
    exact ⟨cell, hq.trans h1, h2⟩
  · obtain ⟨r, h1, h2⟩ := h
    exact ⟨r, h1, h2.kept hq⟩
  · have hk : ∀ q : Nat, q < H.size → ¬ (G.2.2.2 ≤ q) → H1[q]? = H[q]? := fun q _ hn => hlo q (by omega)
    cases n with
    | zero =>
      obtain ⟨h0, h1, h2, h3, h4, h5, h6, h7⟩ := h
      refine ⟨h0, ?_, h2.kept hk, h3.kept hk, h4.kept hk, h5.kept hk, h6.kept hk, h7.kept hk⟩
      have e : H1[G.1 a]? = some H[G.1 a] := by rw [hq]; exact Array.getElem?_eq_getElem h1
      exact (Array.getElem?_eq_some_iff.mp e).1
    | succ n =>
      obtain ⟨h0, v, h1, h2, h3, h4⟩ := h
      exact ⟨h0, v, h1.kept hk, h2.kept hk, h3.kept hk, h4.kept hk⟩
theorem xm_at.moved {G : xm_G} {u U : State} {H : Heap} {a : Nat} {e : xm_E} (hvm : u.vm.Alike U.vm) (h : xm_at G u H a e) : xm_at G U H a e := by
  obtain ⟨t, n, f⟩ | ⟨t, n, f⟩ | ⟨c, fs⟩ | n := e
  · obtain ⟨cell, h1, h2, h3⟩ := h
    exact ⟨cell, h1, State.isArrayOf_alike hvm h2, h3⟩
  · obtain ⟨cell, h1, h2, h3⟩ := h
    exact ⟨cell, h1, State.isArrayOf_alike hvm h2, h3⟩
  · exact h
  · cases n with
    | zero =>
      obtain ⟨h0, h1, h2, h3, h4, h5, h6, h7⟩ := h
      exact ⟨h0, h1, h2.moved hvm, h3.moved hvm, h4.moved hvm, h5.moved hvm, h6.moved hvm, h7.moved hvm⟩
    | succ n =>
      obtain ⟨h0, v, h1, h2, h3, h4⟩ := h
      exact ⟨h0, v, h1.moved hvm, h2.moved hvm, h3.moved hvm, h4.moved hvm⟩
theorem xm_R.moved {G : xm_G} {u U : State} {hp : xm_H} {H : Heap} (hvm : u.vm.Alike U.vm) (h : xm_R G u hp H) : xm_R G U hp H := ⟨h.1, h.2.1, fun a e he => (h.2.2 a e he).moved hvm⟩
theorem xm_KW.at {s : State} (h : xm_KW s) {w : Cond} (hw : w ∈ xm_W) (a : Array Value) (hg : goodWord w = true) : w.before a s = true := word_at (State.WarmedH.refl s) (good_of_word hg) (h w hw)
theorem xm_KW.nest {s : State} (h : xm_KW s) {w : Cond} (hw : w ∈ xm_W) : va_Nw w s := h w hw
theorem xm_okw_warm {s U : State} (hW : s.WarmedH U.vm) {w : Cond} (h1 : va_Nw w s) (h2 : xm_okw w = true) : va_Nw w U := by
  unfold xm_okw at h2
  split at h2
  · exact va_Nw.warmM hW h1
  · exact va_Nw.warmF hW h1
  · exact va_Nw.warmC hW h1
  · exact over_moved hW.alike h1
  · exact va_AOw hW h1
  · exact word_at hW (good_of_word h2) h1
theorem xm_KW.warm {s U : State} (hW : s.WarmedH U.vm) (h : xm_KW s) : xm_KW U := fun w hw => xm_okw_warm hW (h w hw) (List.all_eq_true.mp xm_W_ok w hw)
theorem xm_KX.warm {s U : State} (hW : s.WarmedH U.vm) (h : xm_KX s) : xm_KX U := by
  intro w hw hk
  have h1 := h w hw hk
  unfold xm_okx at hk
  split at hk
  · exact va_Nw.warmD hW h1
  · exact xm_okw_warm hW h1 hk
theorem xm_KC.moved {G : xm_G} {u U : State} (hvm : u.vm.Alike U.vm) (h : xm_KC G u) : xm_KC G U := fun c q hq => u_Kn_moved hvm (h c q hq)
theorem xm_KA.moved {G : xm_G} {u U : State} (hvm : u.vm.Alike U.vm) (h : xm_KA G u) : xm_KA G U := by
  intro t ht
  obtain ⟨h1, kA, comp, h2, h3, h4⟩ := h t ht
  obtain ⟨k', hk', he⟩ := hvm.2.2 _ _ h2
  exact ⟨by rw [hvm.findClass]; exact h1, k', comp, hk', by rw [he]; exact h3, fun hr => by rw [hvm.findClass]; exact h4 hr⟩
theorem xm_KS.warm {G : xm_G} {s U : State} (hW : s.WarmedH U.vm) (h : xm_KS G s) : xm_KS G U := fun r hr => (h r hr).warm hW
theorem xm_K.warm {G : xm_G} {s U : State} (hW : s.WarmedH U.vm) (h : xm_K G s) : xm_K G U := ⟨h.1, h.2.1.warm hW, h.2.2.1.moved hW.alike, h.2.2.2.1.moved hW.alike, h.2.2.2.2.1.warm hW, h.2.2.2.2.2.warm hW⟩
theorem xm_Pc_blind (G : xm_G) (as : List Value) (hp : xm_H) : FrameBlind (xm_Pc G as hp) := by
  intro a U g mk h
  exact ⟨h.1, xm_K.warm (s := U) (U := U.calling g mk a) (State.WarmedH.refl U) h.2.1, h.2.2.moved (Vm.Alike.refl _)⟩
theorem xm_rho_ne {G : xm_G} (h : xm_KG G) {a b : Nat} (ha : xm_c0 ≤ a) (hab : b ≠ a) : G.1 b ≠ G.1 a := by
  have h1 := h.1 (a - xm_c0)
  rw [Nat.add_sub_cancel' ha] at h1
  by_cases hb : xm_c0 ≤ b
  · have h2 := h.1 (b - xm_c0)
    rw [Nat.add_sub_cancel' hb] at h2
    omega
  · have h2 := h.2 b (by omega)
    omega
theorem xm_rho_ge {G : xm_G} (h : xm_KG G) {a : Nat} (ha : xm_c0 ≤ a) : G.2.2.2 ≤ G.1 a := by
  have h1 := h.1 (a - xm_c0)
  rw [Nat.add_sub_cancel' ha] at h1
  omega
/-- a cell is written -/
theorem xm_R.set {G : xm_G} {U : State} {hp : xm_H} {H H1 : Heap} {a : Nat} {e : xm_E} (hG : xm_KG G) (h : xm_R G U hp H) (ha : xm_c0 ≤ a) (he : xm_at G U H1 a e) (hz : H1.size = H.size) (oq : ∀ q : Nat, q ≠ G.1 a → H1[q]? = H[q]?) : xm_R G U (hp.set a (some e)) H1 := by
  refine ⟨by rw [List.length_set]; exact h.1, by rw [List.length_set, hz]; exact h.2.1, fun b e' hb => ?_⟩
  by_cases hab : b = a
  · subst hab
    rw [List.getElem?_set] at hb
    simp only [if_true] at hb
    split at hb
    · cases hb
      exact he
    · cases hb
  · rw [List.getElem?_set_ne (Ne.symm hab)] at hb
    exact (h.2.2 b e' hb).kept (oq _ (xm_rho_ne hG ha hab)) (fun q hq => oq q (fun z => by have := xm_rho_ge hG ha; omega))
/-- a cell is made -/
theorem xm_R.push {G : xm_G} {U : State} {hp : xm_H} {H H1 : Heap} {e : Option xm_E} (hG : xm_KG G) (h : xm_R G U hp H) (he : ∀ x, e = some x → xm_at G U H1 hp.length x) (hz : H1.size = H.size + 1) (oq : ∀ q : Nat, q < H.size → H1[q]? = H[q]?) : xm_R G U (hp ++ [e]) H1 := by
  have hlo : G.2.2.2 ≤ H.size := by have h1 := h.1; have h2 := h.2.1; omega
  refine ⟨by rw [List.length_append]; have := h.1; omega, by rw [List.length_append, hz]; have := h.2.1; simp; omega, fun b e' hb => ?_⟩
  by_cases hl : b < hp.length
  · rw [List.getElem?_append_left hl] at hb
    have h3 := h.2.2 b e' hb
    exact h3.kept (oq _ h3.lt) (fun q hq => oq q (by omega))
  · rw [List.getElem?_append_right (by omega)] at hb
    have hb0 : b - hp.length = 0 := by
      have := (List.getElem?_eq_some_iff.mp hb).1
      simp at this
      omega
    rw [hb0] at hb
    have hbl : b = hp.length := by omega
    subst hbl
    simp at hb
    exact he e' hb
theorem xm_dec {k d rc rs : Nat} {G : xm_G} {p : Program} {R : Room} {s : State} {m : MethodId} {meth : Method} {c : Code} {H : Heap} {locs : List Loc} {cells slots : Nat} (hC : xm_C k d rc rs G p R s m meth c H locs cells slots) {pc nx r1 r2 : Nat} {i : Instr} {v : Int32} (hf : xm_code k pc = some (i, nx, r1, r2, v)) :
    decode (xm_by k) pc = .ok (i, xm_len i r2) ∧ nx = pc + xm_len i r2 ∧ xm_okI k pc i r1 r2 v = true := by
  have h := hC.1 pc _ hf
  unfold xm_ok at h
  simp only [Bool.and_eq_true] at h
  obtain ⟨h1, h2⟩ := h
  split at h1
  next j n hd =>
    simp only [Bool.and_eq_true, decide_eq_true_eq] at h1
    obtain ⟨⟨e1, e2⟩, e3⟩ := h1
    exact ⟨by rw [hd, e1, e2], e3, h2⟩
  next => cases h1
theorem xm_store {r : Nat → Nat} {ls : Array Slot} {nL : Nat} {pl : List (Option Value)} {i : Nat} {v : Value} (h : xm_L r ls nL pl) (hi : i < nL) (hc : v.category = 1) :
    ∃ ls', storeLocals ls i (xm_tv r v) = some ls' ∧ xm_L r ls' nL (pl.set i (some v)) := by
  obtain ⟨h1, h2, h3, h4⟩ := h
  let es : List (Nat × Value) := (List.range nL).filterMap (fun j => (pl[j]?.join).map (fun w => (j, xm_tv r w)))
  have hes : ∀ q ∈ es, ∃ w, pl[q.1]? = some (some w) ∧ q.2 = xm_tv r w := by
    intro q hq
    obtain ⟨j, -, hj⟩ := List.mem_filterMap.mp hq
    cases hp : pl[j]? with
    | none => rw [hp] at hj; simp at hj
    | some o =>
      cases o with
      | none => rw [hp] at hj; simp at hj
      | some w =>
        rw [hp] at hj
        simp at hj
        rw [← hj]
        exact ⟨w, hp, rfl⟩
  have hhas : lv_has ls nL es := ⟨h1, h2, fun q hq => by
    obtain ⟨w, hw, e⟩ := hes q hq
    rw [e]
    exact (h4 _ _ hw).2⟩
  obtain ⟨ls', e', hs', hw', hl'⟩ := lv_store1 (v := xm_tv r v) hhas hi (by rw [xm_tv_cat]; exact hc)
  refine ⟨ls', e', hs', hw', by rw [List.length_set]; exact h3, fun j w hj => ?_⟩
  by_cases hji : j = i
  · subst hji
    rw [List.getElem?_set] at hj
    simp only [if_true] at hj
    split at hj
    · cases hj
      exact ⟨hc, hl' (j, xm_tv r v) List.mem_cons_self⟩
    · cases hj
  · rw [List.getElem?_set_ne (Ne.symm hji)] at hj
    refine ⟨(h4 j w hj).1, hl' (j, xm_tv r w) (List.mem_cons_of_mem _ (List.mem_filter.mpr ⟨?_, ?_⟩))⟩
    · refine List.mem_filterMap.mpr ⟨j, List.mem_range.mpr ?_, by rw [hj]; rfl⟩
      rw [← h3]
      exact (List.getElem?_eq_some_iff.mp hj).1
    · have hcw : (xm_tv r w).category = 1 := by rw [xm_tv_cat]; exact (h4 j w hj).1
      simp [hji, hcw]
section XR
variable {l : Launch} {k d rc rs pc nx r1 r2 : Nat} {pl : List (Option Value)} {st : List Value} {hp : xm_H} {Q : xm_Q} {v : Int32} {P : xm_P}

theorem x_iconst {n : Int} (hf : xm_code k pc = some (.iconst n, nx, r1, r2, v)) (kk : XG l P k d rc rs nx pl (.int v :: st) hp Q) : XG l P k d rc rs pc pl (st) hp Q := by
  intro G p e R s m args below meth c H locs cells slots ls hCP hR hL
  have hC := hCP.1
  obtain ⟨hd, hn, ho⟩ := xm_dec hC hf
  have K := kk G p e R s m args below meth c H locs cells slots ls hCP hR hL
  rw [hn] at K
  exact lv_iconst hC.2.1 hC.2.2.1 hd (by simpa [xm_okI] using ho) K
theorem x_bipush {n : Int} (hf : xm_code k pc = some (.bipush n, nx, r1, r2, v)) (kk : XG l P k d rc rs nx pl (.int v :: st) hp Q) : XG l P k d rc rs pc pl (st) hp Q := by
  intro G p e R s m args below meth c H locs cells slots ls hCP hR hL
  have hC := hCP.1
  obtain ⟨hd, hn, ho⟩ := xm_dec hC hf
  have K := kk G p e R s m args below meth c H locs cells slots ls hCP hR hL
  rw [hn] at K
  exact lv_bipush hC.2.1 hC.2.2.1 hd (by simpa [xm_okI] using ho) K
theorem x_sipush {n : Int} (hf : xm_code k pc = some (.sipush n, nx, r1, r2, v)) (kk : XG l P k d rc rs nx pl (.int v :: st) hp Q) : XG l P k d rc rs pc pl (st) hp Q := by
  intro G p e R s m args below meth c H locs cells slots ls hCP hR hL
  have hC := hCP.1
  obtain ⟨hd, hn, ho⟩ := xm_dec hC hf
  have K := kk G p e R s m args below meth c H locs cells slots ls hCP hR hL
  rw [hn] at K
  exact lv_sipush hC.2.1 hC.2.2.1 hd (by simpa [xm_okI] using ho) K
theorem x_iload {i : Nat} {x : Int32} (hf : xm_code k pc = some (.iload i, nx, r1, r2, v)) (hl : pl[i]? = some (some (.int x))) (kk : XG l P k d rc rs nx pl (.int x :: st) hp Q) : XG l P k d rc rs pc pl (st) hp Q := by
  intro G p e R s m args below meth c H locs cells slots ls hCP hR hL
  have hC := hCP.1
  obtain ⟨hd, hn, ho⟩ := xm_dec hC hf
  have K := kk G p e R s m args below meth c H locs cells slots ls hCP hR hL
  rw [hn] at K
  exact lv_iload hC.2.1 hC.2.2.1 hd (hL.2.2.2 _ _ hl).2 K
theorem x_iload_n {i : Fin 4} {x : Int32} (hf : xm_code k pc = some (.iload_n i, nx, r1, r2, v)) (hl : pl[(i : Nat)]? = some (some (.int x))) (kk : XG l P k d rc rs nx pl (.int x :: st) hp Q) : XG l P k d rc rs pc pl (st) hp Q := by
  intro G p e R s m args below meth c H locs cells slots ls hCP hR hL
  have hC := hCP.1
  obtain ⟨hd, hn, ho⟩ := xm_dec hC hf
  have K := kk G p e R s m args below meth c H locs cells slots ls hCP hR hL
  rw [hn] at K
  exact lv_iload_n hC.2.1 hC.2.2.1 hd rfl (hL.2.2.2 _ _ hl).2 K
theorem x_aload {i : Nat} {x : Nat} (hf : xm_code k pc = some (.aload i, nx, r1, r2, v)) (hl : pl[i]? = some (some (.ref x))) (kk : XG l P k d rc rs nx pl (.ref x :: st) hp Q) : XG l P k d rc rs pc pl (st) hp Q := by
  intro G p e R s m args below meth c H locs cells slots ls hCP hR hL
  have hC := hCP.1
  obtain ⟨hd, hn, ho⟩ := xm_dec hC hf
  have K := kk G p e R s m args below meth c H locs cells slots ls hCP hR hL
  rw [hn] at K
  exact lv_aload hC.2.1 hC.2.2.1 hd (hL.2.2.2 _ _ hl).2 K
theorem x_aload_n {i : Fin 4} {x : Nat} (hf : xm_code k pc = some (.aload_n i, nx, r1, r2, v)) (hl : pl[(i : Nat)]? = some (some (.ref x))) (kk : XG l P k d rc rs nx pl (.ref x :: st) hp Q) : XG l P k d rc rs pc pl (st) hp Q := by
  intro G p e R s m args below meth c H locs cells slots ls hCP hR hL
  have hC := hCP.1
  obtain ⟨hd, hn, ho⟩ := xm_dec hC hf
  have K := kk G p e R s m args below meth c H locs cells slots ls hCP hR hL
  rw [hn] at K
  exact lv_aload_n hC.2.1 hC.2.2.1 hd rfl (hL.2.2.2 _ _ hl).2 K
theorem x_iadd {x y : Int32} (hf : xm_code k pc = some (.iadd, nx, r1, r2, v)) (kk : XG l P k d rc rs nx pl (.int (x + y) :: st) hp Q) : XG l P k d rc rs pc pl (.int y :: .int x :: st) hp Q := by
  intro G p e R s m args below meth c H locs cells slots ls hCP hR hL
  have hC := hCP.1
  obtain ⟨hd, hn, ho⟩ := xm_dec hC hf
  have K := kk G p e R s m args below meth c H locs cells slots ls hCP hR hL
  rw [hn] at K
  exact lv_iadd hC.2.1 hC.2.2.1 hd K
theorem x_isub {x y : Int32} (hf : xm_code k pc = some (.isub, nx, r1, r2, v)) (kk : XG l P k d rc rs nx pl (.int (x - y) :: st) hp Q) : XG l P k d rc rs pc pl (.int y :: .int x :: st) hp Q := by
  intro G p e R s m args below meth c H locs cells slots ls hCP hR hL
  have hC := hCP.1
  obtain ⟨hd, hn, ho⟩ := xm_dec hC hf
  have K := kk G p e R s m args below meth c H locs cells slots ls hCP hR hL
  rw [hn] at K
  exact lv_isub hC.2.1 hC.2.2.1 hd K
theorem x_imul {x y : Int32} (hf : xm_code k pc = some (.imul, nx, r1, r2, v)) (kk : XG l P k d rc rs nx pl (.int (x * y) :: st) hp Q) : XG l P k d rc rs pc pl (.int y :: .int x :: st) hp Q := by
  intro G p e R s m args below meth c H locs cells slots ls hCP hR hL
  have hC := hCP.1
  obtain ⟨hd, hn, ho⟩ := xm_dec hC hf
  have K := kk G p e R s m args below meth c H locs cells slots ls hCP hR hL
  rw [hn] at K
  exact lv_imul hC.2.1 hC.2.2.1 hd K
theorem x_iand {x y : Int32} (hf : xm_code k pc = some (.iand, nx, r1, r2, v)) (kk : XG l P k d rc rs nx pl (.int (x &&& y) :: st) hp Q) : XG l P k d rc rs pc pl (.int y :: .int x :: st) hp Q := by
  intro G p e R s m args below meth c H locs cells slots ls hCP hR hL
  have hC := hCP.1
  obtain ⟨hd, hn, ho⟩ := xm_dec hC hf
  have K := kk G p e R s m args below meth c H locs cells slots ls hCP hR hL
  rw [hn] at K
  exact lv_iand hC.2.1 hC.2.2.1 hd K
theorem x_ior {x y : Int32} (hf : xm_code k pc = some (.ior, nx, r1, r2, v)) (kk : XG l P k d rc rs nx pl (.int (x ||| y) :: st) hp Q) : XG l P k d rc rs pc pl (.int y :: .int x :: st) hp Q := by
  intro G p e R s m args below meth c H locs cells slots ls hCP hR hL
  have hC := hCP.1
  obtain ⟨hd, hn, ho⟩ := xm_dec hC hf
  have K := kk G p e R s m args below meth c H locs cells slots ls hCP hR hL
  rw [hn] at K
  exact lv_ior hC.2.1 hC.2.2.1 hd K
theorem x_ixor {x y : Int32} (hf : xm_code k pc = some (.ixor, nx, r1, r2, v)) (kk : XG l P k d rc rs nx pl (.int (x ^^^ y) :: st) hp Q) : XG l P k d rc rs pc pl (.int y :: .int x :: st) hp Q := by
  intro G p e R s m args below meth c H locs cells slots ls hCP hR hL
  have hC := hCP.1
  obtain ⟨hd, hn, ho⟩ := xm_dec hC hf
  have K := kk G p e R s m args below meth c H locs cells slots ls hCP hR hL
  rw [hn] at K
  exact lv_ixor hC.2.1 hC.2.2.1 hd K
theorem x_ishl {x y : Int32} (hf : xm_code k pc = some (.ishl, nx, r1, r2, v)) (kk : XG l P k d rc rs nx pl (.int (x <<< (y &&& 31)) :: st) hp Q) : XG l P k d rc rs pc pl (.int y :: .int x :: st) hp Q := by
  intro G p e R s m args below meth c H locs cells slots ls hCP hR hL
  have hC := hCP.1
  obtain ⟨hd, hn, ho⟩ := xm_dec hC hf
  have K := kk G p e R s m args below meth c H locs cells slots ls hCP hR hL
  rw [hn] at K
  exact lv_ishl hC.2.1 hC.2.2.1 hd K
theorem x_ishr {x y : Int32} (hf : xm_code k pc = some (.ishr, nx, r1, r2, v)) (kk : XG l P k d rc rs nx pl (.int (x >>> (y &&& 31)) :: st) hp Q) : XG l P k d rc rs pc pl (.int y :: .int x :: st) hp Q := by
  intro G p e R s m args below meth c H locs cells slots ls hCP hR hL
  have hC := hCP.1
  obtain ⟨hd, hn, ho⟩ := xm_dec hC hf
  have K := kk G p e R s m args below meth c H locs cells slots ls hCP hR hL
  rw [hn] at K
  exact lv_ishr hC.2.1 hC.2.2.1 hd K
theorem x_iushr {x y : Int32} (hf : xm_code k pc = some (.iushr, nx, r1, r2, v)) (kk : XG l P k d rc rs nx pl (.int ((x.toUInt32 >>> (y.toUInt32 &&& Int32.toUInt32 31)).toInt32) :: st) hp Q) : XG l P k d rc rs pc pl (.int y :: .int x :: st) hp Q := by
  intro G p e R s m args below meth c H locs cells slots ls hCP hR hL
  have hC := hCP.1
  obtain ⟨hd, hn, ho⟩ := xm_dec hC hf
  have K := kk G p e R s m args below meth c H locs cells slots ls hCP hR hL
  rw [hn] at K
  exact lv_iushr hC.2.1 hC.2.2.1 hd rfl K
theorem x_idiv {x y : Int32} (hf : xm_code k pc = some (.idiv, nx, r1, r2, v)) (hne : ¬ y = 0) (kk : XG l P k d rc rs nx pl (.int (x / y) :: st) hp Q) : XG l P k d rc rs pc pl (.int y :: .int x :: st) hp Q := by
  intro G p e R s m args below meth c H locs cells slots ls hCP hR hL
  have hC := hCP.1
  obtain ⟨hd, hn, ho⟩ := xm_dec hC hf
  have K := kk G p e R s m args below meth c H locs cells slots ls hCP hR hL
  rw [hn] at K
  exact lv_idiv hC.2.1 hC.2.2.1 hd hne K
theorem x_irem {x y : Int32} (hf : xm_code k pc = some (.irem, nx, r1, r2, v)) (hne : ¬ y = 0) (kk : XG l P k d rc rs nx pl (.int (x - x / y * y) :: st) hp Q) : XG l P k d rc rs pc pl (.int y :: .int x :: st) hp Q := by
  intro G p e R s m args below meth c H locs cells slots ls hCP hR hL
  have hC := hCP.1
  obtain ⟨hd, hn, ho⟩ := xm_dec hC hf
  have K := kk G p e R s m args below meth c H locs cells slots ls hCP hR hL
  rw [hn] at K
  exact lv_irem hC.2.1 hC.2.2.1 hd hne K
theorem x_ineg {x : Int32} (hf : xm_code k pc = some (.ineg, nx, r1, r2, v)) (kk : XG l P k d rc rs nx pl (.int (-x) :: st) hp Q) : XG l P k d rc rs pc pl (.int x :: st) hp Q := by
  intro G p e R s m args below meth c H locs cells slots ls hCP hR hL
  have hC := hCP.1
  obtain ⟨hd, hn, ho⟩ := xm_dec hC hf
  have K := kk G p e R s m args below meth c H locs cells slots ls hCP hR hL
  rw [hn] at K
  exact lv_ineg hC.2.1 hC.2.2.1 hd K
theorem x_i2l {x : Int32} (hf : xm_code k pc = some (.i2l, nx, r1, r2, v)) (kk : XG l P k d rc rs nx pl (.long (x.toInt64) :: st) hp Q) : XG l P k d rc rs pc pl (.int x :: st) hp Q := by
  intro G p e R s m args below meth c H locs cells slots ls hCP hR hL
  have hC := hCP.1
  obtain ⟨hd, hn, ho⟩ := xm_dec hC hf
  have K := kk G p e R s m args below meth c H locs cells slots ls hCP hR hL
  rw [hn] at K
  exact lv_i2l hC.2.1 hC.2.2.1 hd rfl K
theorem x_l2i {x : Int64} (hf : xm_code k pc = some (.l2i, nx, r1, r2, v)) (kk : XG l P k d rc rs nx pl (.int (x.toInt32) :: st) hp Q) : XG l P k d rc rs pc pl (.long x :: st) hp Q := by
  intro G p e R s m args below meth c H locs cells slots ls hCP hR hL
  have hC := hCP.1
  obtain ⟨hd, hn, ho⟩ := xm_dec hC hf
  have K := kk G p e R s m args below meth c H locs cells slots ls hCP hR hL
  rw [hn] at K
  exact lv_l2i hC.2.1 hC.2.2.1 hd rfl K
theorem x_i2c {x : Int32} (hf : xm_code k pc = some (.i2c, nx, r1, r2, v)) (kk : XG l P k d rc rs nx pl (.int ((x.toUInt32 % 65536).toInt32) :: st) hp Q) : XG l P k d rc rs pc pl (.int x :: st) hp Q := by
  intro G p e R s m args below meth c H locs cells slots ls hCP hR hL
  have hC := hCP.1
  obtain ⟨hd, hn, ho⟩ := xm_dec hC hf
  have K := kk G p e R s m args below meth c H locs cells slots ls hCP hR hL
  rw [hn] at K
  exact lv_i2c hC.2.1 hC.2.2.1 hd rfl K
theorem x_i2b {x : Int32} (hf : xm_code k pc = some (.i2b, nx, r1, r2, v)) (kk : XG l P k d rc rs nx pl (.int (x.toInt8.toInt32) :: st) hp Q) : XG l P k d rc rs pc pl (.int x :: st) hp Q := by
  intro G p e R s m args below meth c H locs cells slots ls hCP hR hL
  have hC := hCP.1
  obtain ⟨hd, hn, ho⟩ := xm_dec hC hf
  have K := kk G p e R s m args below meth c H locs cells slots ls hCP hR hL
  rw [hn] at K
  exact lv_i2b hC.2.1 hC.2.2.1 hd rfl K
theorem x_lcmp {x y : Int64} (hf : xm_code k pc = some (.lcmp, nx, r1, r2, v)) (kk : XG l P k d rc rs nx pl (.int (lg_cmp x y) :: st) hp Q) : XG l P k d rc rs pc pl (.long y :: .long x :: st) hp Q := by
  intro G p e R s m args below meth c H locs cells slots ls hCP hR hL
  have hC := hCP.1
  obtain ⟨hd, hn, ho⟩ := xm_dec hC hf
  have K := kk G p e R s m args below meth c H locs cells slots ls hCP hR hL
  rw [hn] at K
  exact W.lcmp hC.2.1 hC.2.2.1 hd K
theorem x_lconst {i : Fin 2} {x : Int64} (hf : xm_code k pc = some (.lconst i, nx, r1, r2, v)) (hx : Int64.ofNat (i : Nat) = x) (kk : XG l P k d rc rs nx pl (.long x :: st) hp Q) : XG l P k d rc rs pc pl (st) hp Q := by
  intro G p e R s m args below meth c H locs cells slots ls hCP hR hL
  have hC := hCP.1
  obtain ⟨hd, hn, ho⟩ := xm_dec hC hf
  have K := kk G p e R s m args below meth c H locs cells slots ls hCP hR hL
  rw [hn] at K
  exact lv_lconst hC.2.1 hC.2.2.1 hd hx K
theorem x_null  (hf : xm_code k pc = some (.aconst_null, nx, r1, r2, v)) (kk : XG l P k d rc rs nx pl (.null :: st) hp Q) : XG l P k d rc rs pc pl (st) hp Q := by
  intro G p e R s m args below meth c H locs cells slots ls hCP hR hL
  have hC := hCP.1
  obtain ⟨hd, hn, ho⟩ := xm_dec hC hf
  have K := kk G p e R s m args below meth c H locs cells slots ls hCP hR hL
  rw [hn] at K
  exact lv_null hC.2.1 hC.2.2.1 hd K
theorem x_dup {a : Value} (hf : xm_code k pc = some (.dup, nx, r1, r2, v)) (h1 : a.category = 1) (kk : XG l P k d rc rs nx pl (a :: a :: st) hp Q) : XG l P k d rc rs pc pl (a :: st) hp Q := by
  intro G p e R s m args below meth c H locs cells slots ls hCP hR hL
  have hC := hCP.1
  obtain ⟨hd, hn, ho⟩ := xm_dec hC hf
  have K := kk G p e R s m args below meth c H locs cells slots ls hCP hR hL
  rw [hn] at K
  exact lv_dup hC.2.1 hC.2.2.1 hd (by rw [xm_tv_cat]; exact h1) K
theorem x_pop {a : Value} (hf : xm_code k pc = some (.pop, nx, r1, r2, v)) (h1 : a.category = 1) (kk : XG l P k d rc rs nx pl (st) hp Q) : XG l P k d rc rs pc pl (a :: st) hp Q := by
  intro G p e R s m args below meth c H locs cells slots ls hCP hR hL
  have hC := hCP.1
  obtain ⟨hd, hn, ho⟩ := xm_dec hC hf
  have K := kk G p e R s m args below meth c H locs cells slots ls hCP hR hL
  rw [hn] at K
  exact lv_pop hC.2.1 hC.2.2.1 hd (by rw [xm_tv_cat]; exact h1) K
theorem x_dup_x1 {a b : Value} (hf : xm_code k pc = some (.dup_x1, nx, r1, r2, v)) (h1 : a.category = 1) (h2 : b.category = 1) (kk : XG l P k d rc rs nx pl (a :: b :: a :: st) hp Q) : XG l P k d rc rs pc pl (a :: b :: st) hp Q := by
  intro G p e R s m args below meth c H locs cells slots ls hCP hR hL
  have hC := hCP.1
  obtain ⟨hd, hn, ho⟩ := xm_dec hC hf
  have K := kk G p e R s m args below meth c H locs cells slots ls hCP hR hL
  rw [hn] at K
  exact lv_dup_x1 hC.2.1 hC.2.2.1 hd (by rw [xm_tv_cat]; exact h1) (by rw [xm_tv_cat]; exact h2) K
theorem x_dup_x2 {a b f : Value} (hf : xm_code k pc = some (.dup_x2, nx, r1, r2, v)) (h1 : a.category = 1) (h2 : b.category = 1) (h3 : f.category = 1) (kk : XG l P k d rc rs nx pl (a :: b :: f :: a :: st) hp Q) : XG l P k d rc rs pc pl (a :: b :: f :: st) hp Q := by
  intro G p e R s m args below meth c H locs cells slots ls hCP hR hL
  have hC := hCP.1
  obtain ⟨hd, hn, ho⟩ := xm_dec hC hf
  have K := kk G p e R s m args below meth c H locs cells slots ls hCP hR hL
  rw [hn] at K
  exact lv_dup_x2 hC.2.1 hC.2.2.1 hd (by rw [xm_tv_cat]; exact h1) (by rw [xm_tv_cat]; exact h2) (by rw [xm_tv_cat]; exact h3) K
theorem x_dup2 {a b : Value} (hf : xm_code k pc = some (.dup2, nx, r1, r2, v)) (h1 : a.category = 1) (h2 : b.category = 1) (kk : XG l P k d rc rs nx pl (a :: b :: a :: b :: st) hp Q) : XG l P k d rc rs pc pl (a :: b :: st) hp Q := by
  intro G p e R s m args below meth c H locs cells slots ls hCP hR hL
  have hC := hCP.1
  obtain ⟨hd, hn, ho⟩ := xm_dec hC hf
  have K := kk G p e R s m args below meth c H locs cells slots ls hCP hR hL
  rw [hn] at K
  exact lv_dup2_11 hC.2.1 hC.2.2.1 hd (by rw [xm_tv_cat]; exact h1) (by rw [xm_tv_cat]; exact h2) K
theorem x_istore {i : Nat} {x : Int32} (hf : xm_code k pc = some (.istore i, nx, r1, r2, v)) (hi : i < xm_ml k) (kk : XG l P k d rc rs nx (pl.set i (some (.int x))) st hp Q) : XG l P k d rc rs pc pl (.int x :: st) hp Q := by
  intro G p e R s m args below meth c H locs cells slots ls hCP hR hL
  have hC := hCP.1
  obtain ⟨hd, hn, ho⟩ := xm_dec hC hf
  obtain ⟨ls', e', hL'⟩ := xm_store (v := .int x) hL hi rfl
  have K := kk G p e R s m args below meth c H locs cells slots ls' hCP hR hL'
  rw [hn] at K
  intro T hT X
  obtain ⟨t, a, b⟩ := K T hT X
  refine ⟨t, ?_, b⟩
  have hexec := hC.2.1
  have hb := hC.2.2.1
  simp only [xm_tv] at e'
  simp only [List.map_cons, xm_tv]
  jvm_step X.here [X.here.top, ↓top_set X.here.top, hexec, hb, hd, e']
  exact a
theorem x_istore_n {i : Fin 4} {x : Int32} (hf : xm_code k pc = some (.istore_n i, nx, r1, r2, v)) (hi : (i : Nat) < xm_ml k) (kk : XG l P k d rc rs nx (pl.set (i : Nat) (some (.int x))) st hp Q) : XG l P k d rc rs pc pl (.int x :: st) hp Q := by
  intro G p e R s m args below meth c H locs cells slots ls hCP hR hL
  have hC := hCP.1
  obtain ⟨hd, hn, ho⟩ := xm_dec hC hf
  obtain ⟨ls', e', hL'⟩ := xm_store (v := .int x) hL hi rfl
  have K := kk G p e R s m args below meth c H locs cells slots ls' hCP hR hL'
  rw [hn] at K
  intro T hT X
  obtain ⟨t, a, b⟩ := K T hT X
  refine ⟨t, ?_, b⟩
  have hexec := hC.2.1
  have hb := hC.2.2.1
  simp only [xm_tv] at e'
  simp only [List.map_cons, xm_tv]
  jvm_step X.here [X.here.top, ↓top_set X.here.top, hexec, hb, hd, e']
  exact a
theorem x_astore {i : Nat} {x : Nat} (hf : xm_code k pc = some (.astore i, nx, r1, r2, v)) (hi : i < xm_ml k) (kk : XG l P k d rc rs nx (pl.set i (some (.ref x))) st hp Q) : XG l P k d rc rs pc pl (.ref x :: st) hp Q := by
  intro G p e R s m args below meth c H locs cells slots ls hCP hR hL
  have hC := hCP.1
  obtain ⟨hd, hn, ho⟩ := xm_dec hC hf
  obtain ⟨ls', e', hL'⟩ := xm_store (v := .ref x) hL hi rfl
  have K := kk G p e R s m args below meth c H locs cells slots ls' hCP hR hL'
  rw [hn] at K
  intro T hT X
  obtain ⟨t, a, b⟩ := K T hT X
  refine ⟨t, ?_, b⟩
  have hexec := hC.2.1
  have hb := hC.2.2.1
  simp only [xm_tv] at e'
  simp only [List.map_cons, xm_tv]
  jvm_step X.here [X.here.top, ↓top_set X.here.top, hexec, hb, hd, e', Value.isRef]
  exact a
theorem x_astore_n {i : Fin 4} {x : Nat} (hf : xm_code k pc = some (.astore_n i, nx, r1, r2, v)) (hi : (i : Nat) < xm_ml k) (kk : XG l P k d rc rs nx (pl.set (i : Nat) (some (.ref x))) st hp Q) : XG l P k d rc rs pc pl (.ref x :: st) hp Q := by
  intro G p e R s m args below meth c H locs cells slots ls hCP hR hL
  have hC := hCP.1
  obtain ⟨hd, hn, ho⟩ := xm_dec hC hf
  obtain ⟨ls', e', hL'⟩ := xm_store (v := .ref x) hL hi rfl
  have K := kk G p e R s m args below meth c H locs cells slots ls' hCP hR hL'
  rw [hn] at K
  intro T hT X
  obtain ⟨t, a, b⟩ := K T hT X
  refine ⟨t, ?_, b⟩
  have hexec := hC.2.1
  have hb := hC.2.2.1
  simp only [xm_tv] at e'
  simp only [List.map_cons, xm_tv]
  jvm_step X.here [X.here.top, ↓top_set X.here.top, hexec, hb, hd, e', Value.isRef]
  exact a
theorem x_iinc {i : Nat} {x : Int32} {n : Int} (hf : xm_code k pc = some (.iinc i n, nx, r1, r2, v)) (hl : pl[i]? = some (some (.int x))) (hi : i < xm_ml k) (kk : XG l P k d rc rs nx (pl.set i (some (.int (x + v)))) st hp Q) : XG l P k d rc rs pc pl st hp Q := by
  intro G p e R s m args below meth c H locs cells slots ls hCP hR hL
  have hC := hCP.1
  obtain ⟨hd, hn, ho⟩ := xm_dec hC hf
  have hv : Int32.ofInt n = v := by simpa [xm_okI] using ho
  obtain ⟨ls', e', hL'⟩ := xm_store (v := .int (x + v)) hL hi rfl
  have K := kk G p e R s m args below meth c H locs cells slots ls' hCP hR hL'
  rw [hn] at K
  have hl2 := (hL.2.2.2 _ _ hl).2
  intro T hT X
  obtain ⟨t, a, b⟩ := K T hT X
  refine ⟨t, ?_, b⟩
  have hexec := hC.2.1
  have hb := hC.2.2.1
  simp only [xm_tv] at e' hl2
  subst hv
  jvm_step X.here [X.here.top, ↓top_set X.here.top, hexec, hb, hd, hl2, e']
  exact a
theorem x_if_eq {x : Int32} {off : Int} (hf : xm_code k pc = some (.ifCond .eq off, nx, r1, r2, v)) (kt : x = 0 → XG l P k d rc rs r1 pl st hp Q) (kf : ¬ x = 0 → XG l P k d rc rs nx pl st hp Q) : XG l P k d rc rs pc pl (.int x :: st) hp Q := by
  intro G p e R s m args below meth c H locs cells slots ls hCP hR hL
  have hC := hCP.1
  obtain ⟨hd, hn, ho⟩ := xm_dec hC hf
  exact lv_if_eq hC.2.1 hC.2.2.1 hd (by simpa [xm_okI] using ho) (fun h => kt h G p e R s m args below meth c H locs cells slots ls hCP hR hL) (fun h => by have K := kf h G p e R s m args below meth c H locs cells slots ls hCP hR hL; rw [hn] at K; exact K)
theorem x_icmp_eq {x y : Int32} {off : Int} (hf : xm_code k pc = some (.if_icmp .eq off, nx, r1, r2, v)) (kt : x = y → XG l P k d rc rs r1 pl st hp Q) (kf : ¬ x = y → XG l P k d rc rs nx pl st hp Q) : XG l P k d rc rs pc pl (.int y :: .int x :: st) hp Q := by
  intro G p e R s m args below meth c H locs cells slots ls hCP hR hL
  have hC := hCP.1
  obtain ⟨hd, hn, ho⟩ := xm_dec hC hf
  exact lv_icmp_eq hC.2.1 hC.2.2.1 hd (by simpa [xm_okI] using ho) (fun h => kt h G p e R s m args below meth c H locs cells slots ls hCP hR hL) (fun h => by have K := kf h G p e R s m args below meth c H locs cells slots ls hCP hR hL; rw [hn] at K; exact K)
theorem x_if_ne {x : Int32} {off : Int} (hf : xm_code k pc = some (.ifCond .ne off, nx, r1, r2, v)) (kt : ¬ x = 0 → XG l P k d rc rs r1 pl st hp Q) (kf : x = 0 → XG l P k d rc rs nx pl st hp Q) : XG l P k d rc rs pc pl (.int x :: st) hp Q := by
  intro G p e R s m args below meth c H locs cells slots ls hCP hR hL
  have hC := hCP.1
  obtain ⟨hd, hn, ho⟩ := xm_dec hC hf
  exact lv_if_ne hC.2.1 hC.2.2.1 hd (by simpa [xm_okI] using ho) (fun h => kt h G p e R s m args below meth c H locs cells slots ls hCP hR hL) (fun h => by have K := kf h G p e R s m args below meth c H locs cells slots ls hCP hR hL; rw [hn] at K; exact K)
theorem x_icmp_ne {x y : Int32} {off : Int} (hf : xm_code k pc = some (.if_icmp .ne off, nx, r1, r2, v)) (kt : ¬ x = y → XG l P k d rc rs r1 pl st hp Q) (kf : x = y → XG l P k d rc rs nx pl st hp Q) : XG l P k d rc rs pc pl (.int y :: .int x :: st) hp Q := by
  intro G p e R s m args below meth c H locs cells slots ls hCP hR hL
  have hC := hCP.1
  obtain ⟨hd, hn, ho⟩ := xm_dec hC hf
  exact lv_icmp_ne hC.2.1 hC.2.2.1 hd (by simpa [xm_okI] using ho) (fun h => kt h G p e R s m args below meth c H locs cells slots ls hCP hR hL) (fun h => by have K := kf h G p e R s m args below meth c H locs cells slots ls hCP hR hL; rw [hn] at K; exact K)
theorem x_if_lt {x : Int32} {off : Int} (hf : xm_code k pc = some (.ifCond .lt off, nx, r1, r2, v)) (kt : x < 0 → XG l P k d rc rs r1 pl st hp Q) (kf : ¬ x < 0 → XG l P k d rc rs nx pl st hp Q) : XG l P k d rc rs pc pl (.int x :: st) hp Q := by
  intro G p e R s m args below meth c H locs cells slots ls hCP hR hL
  have hC := hCP.1
  obtain ⟨hd, hn, ho⟩ := xm_dec hC hf
  exact lv_if_lt hC.2.1 hC.2.2.1 hd (by simpa [xm_okI] using ho) (fun h => kt h G p e R s m args below meth c H locs cells slots ls hCP hR hL) (fun h => by have K := kf h G p e R s m args below meth c H locs cells slots ls hCP hR hL; rw [hn] at K; exact K)
theorem x_icmp_lt {x y : Int32} {off : Int} (hf : xm_code k pc = some (.if_icmp .lt off, nx, r1, r2, v)) (kt : x < y → XG l P k d rc rs r1 pl st hp Q) (kf : ¬ x < y → XG l P k d rc rs nx pl st hp Q) : XG l P k d rc rs pc pl (.int y :: .int x :: st) hp Q := by
  intro G p e R s m args below meth c H locs cells slots ls hCP hR hL
  have hC := hCP.1
  obtain ⟨hd, hn, ho⟩ := xm_dec hC hf
  exact lv_icmp_lt hC.2.1 hC.2.2.1 hd (by simpa [xm_okI] using ho) (fun h => kt h G p e R s m args below meth c H locs cells slots ls hCP hR hL) (fun h => by have K := kf h G p e R s m args below meth c H locs cells slots ls hCP hR hL; rw [hn] at K; exact K)
theorem x_if_ge {x : Int32} {off : Int} (hf : xm_code k pc = some (.ifCond .ge off, nx, r1, r2, v)) (kt : 0 ≤ x → XG l P k d rc rs r1 pl st hp Q) (kf : ¬ 0 ≤ x → XG l P k d rc rs nx pl st hp Q) : XG l P k d rc rs pc pl (.int x :: st) hp Q := by
  intro G p e R s m args below meth c H locs cells slots ls hCP hR hL
  have hC := hCP.1
  obtain ⟨hd, hn, ho⟩ := xm_dec hC hf
  exact lv_if_ge hC.2.1 hC.2.2.1 hd (by simpa [xm_okI] using ho) (fun h => kt h G p e R s m args below meth c H locs cells slots ls hCP hR hL) (fun h => by have K := kf h G p e R s m args below meth c H locs cells slots ls hCP hR hL; rw [hn] at K; exact K)
theorem x_icmp_ge {x y : Int32} {off : Int} (hf : xm_code k pc = some (.if_icmp .ge off, nx, r1, r2, v)) (kt : y ≤ x → XG l P k d rc rs r1 pl st hp Q) (kf : ¬ y ≤ x → XG l P k d rc rs nx pl st hp Q) : XG l P k d rc rs pc pl (.int y :: .int x :: st) hp Q := by
  intro G p e R s m args below meth c H locs cells slots ls hCP hR hL
  have hC := hCP.1
  obtain ⟨hd, hn, ho⟩ := xm_dec hC hf
  exact lv_icmp_ge hC.2.1 hC.2.2.1 hd (by simpa [xm_okI] using ho) (fun h => kt h G p e R s m args below meth c H locs cells slots ls hCP hR hL) (fun h => by have K := kf h G p e R s m args below meth c H locs cells slots ls hCP hR hL; rw [hn] at K; exact K)
theorem x_if_gt {x : Int32} {off : Int} (hf : xm_code k pc = some (.ifCond .gt off, nx, r1, r2, v)) (kt : 0 < x → XG l P k d rc rs r1 pl st hp Q) (kf : ¬ 0 < x → XG l P k d rc rs nx pl st hp Q) : XG l P k d rc rs pc pl (.int x :: st) hp Q := by
  intro G p e R s m args below meth c H locs cells slots ls hCP hR hL
  have hC := hCP.1
  obtain ⟨hd, hn, ho⟩ := xm_dec hC hf
  exact lv_if_gt hC.2.1 hC.2.2.1 hd (by simpa [xm_okI] using ho) (fun h => kt h G p e R s m args below meth c H locs cells slots ls hCP hR hL) (fun h => by have K := kf h G p e R s m args below meth c H locs cells slots ls hCP hR hL; rw [hn] at K; exact K)
theorem x_icmp_gt {x y : Int32} {off : Int} (hf : xm_code k pc = some (.if_icmp .gt off, nx, r1, r2, v)) (kt : y < x → XG l P k d rc rs r1 pl st hp Q) (kf : ¬ y < x → XG l P k d rc rs nx pl st hp Q) : XG l P k d rc rs pc pl (.int y :: .int x :: st) hp Q := by
  intro G p e R s m args below meth c H locs cells slots ls hCP hR hL
  have hC := hCP.1
  obtain ⟨hd, hn, ho⟩ := xm_dec hC hf
  exact lv_icmp_gt hC.2.1 hC.2.2.1 hd (by simpa [xm_okI] using ho) (fun h => kt h G p e R s m args below meth c H locs cells slots ls hCP hR hL) (fun h => by have K := kf h G p e R s m args below meth c H locs cells slots ls hCP hR hL; rw [hn] at K; exact K)
theorem x_if_le {x : Int32} {off : Int} (hf : xm_code k pc = some (.ifCond .le off, nx, r1, r2, v)) (kt : x ≤ 0 → XG l P k d rc rs r1 pl st hp Q) (kf : ¬ x ≤ 0 → XG l P k d rc rs nx pl st hp Q) : XG l P k d rc rs pc pl (.int x :: st) hp Q := by
  intro G p e R s m args below meth c H locs cells slots ls hCP hR hL
  have hC := hCP.1
  obtain ⟨hd, hn, ho⟩ := xm_dec hC hf
  exact lv_if_le hC.2.1 hC.2.2.1 hd (by simpa [xm_okI] using ho) (fun h => kt h G p e R s m args below meth c H locs cells slots ls hCP hR hL) (fun h => by have K := kf h G p e R s m args below meth c H locs cells slots ls hCP hR hL; rw [hn] at K; exact K)
theorem x_icmp_le {x y : Int32} {off : Int} (hf : xm_code k pc = some (.if_icmp .le off, nx, r1, r2, v)) (kt : x ≤ y → XG l P k d rc rs r1 pl st hp Q) (kf : ¬ x ≤ y → XG l P k d rc rs nx pl st hp Q) : XG l P k d rc rs pc pl (.int y :: .int x :: st) hp Q := by
  intro G p e R s m args below meth c H locs cells slots ls hCP hR hL
  have hC := hCP.1
  obtain ⟨hd, hn, ho⟩ := xm_dec hC hf
  exact lv_icmp_le hC.2.1 hC.2.2.1 hd (by simpa [xm_okI] using ho) (fun h => kt h G p e R s m args below meth c H locs cells slots ls hCP hR hL) (fun h => by have K := kf h G p e R s m args below meth c H locs cells slots ls hCP hR hL; rw [hn] at K; exact K)
theorem x_goto {off : Int} (hf : xm_code k pc = some (.goto off, nx, r1, r2, v)) (kk : XG l P k d rc rs r1 pl st hp Q) : XG l P k d rc rs pc pl st hp Q := by
  intro G p e R s m args below meth c H locs cells slots ls hCP hR hL
  have hC := hCP.1
  obtain ⟨hd, hn, ho⟩ := xm_dec hC hf
  exact lv_goto hC.2.1 hC.2.2.1 hd (by simpa [xm_okI] using ho) (kk G p e R s m args below meth c H locs cells slots ls hCP hR hL)
theorem x_lsw {x : Int32} {dflt : Int} {ps : Array (Int × Int)} (hf : xm_code k pc = some (.lookupswitch dflt ps, nx, r1, r2, v)) {t : Nat} (ht : (pc : Int) + Op.lookupswitch.offset ps.toList dflt x.toInt = (t : Int)) (kk : XG l P k d rc rs t pl st hp Q) : XG l P k d rc rs pc pl (.int x :: st) hp Q := by
  intro G p e R s m args below meth c H locs cells slots ls hCP hR hL
  have hC := hCP.1
  obtain ⟨hd, hn, ho⟩ := xm_dec hC hf
  exact lv_lookup hC.2.1 hC.2.2.1 hd (by simpa [xm_okI] using ho) rfl ht (kk G p e R s m args below meth c H locs cells slots ls hCP hR hL)
theorem x_tswIn {x : Int32} {dflt lo hi off : Int} {os : Array Int} (hf : xm_code k pc = some (.tableswitch dflt lo hi os, nx, r1, r2, v)) (h1 : ¬ x.toInt < lo) (h2 : ¬ hi < x.toInt) (h3 : os[(x.toInt - lo).toNat]? = some off) {t : Nat} (ht : (pc : Int) + off = (t : Int)) (kk : XG l P k d rc rs t pl st hp Q) : XG l P k d rc rs pc pl (.int x :: st) hp Q := by
  intro G p e R s m args below meth c H locs cells slots ls hCP hR hL
  have hC := hCP.1
  obtain ⟨hd, hn, ho⟩ := xm_dec hC hf
  exact lv_tableIn hC.2.1 hC.2.2.1 hd h1 h2 h3 ht (kk G p e R s m args below meth c H locs cells slots ls hCP hR hL)
theorem x_tswOut {x : Int32} {dflt lo hi : Int} {os : Array Int} (hf : xm_code k pc = some (.tableswitch dflt lo hi os, nx, r1, r2, v)) (h : x.toInt < lo ∨ hi < x.toInt) {t : Nat} (ht : (pc : Int) + dflt = (t : Int)) (kk : XG l P k d rc rs t pl st hp Q) : XG l P k d rc rs pc pl (.int x :: st) hp Q := by
  intro G p e R s m args below meth c H locs cells slots ls hCP hR hL
  have hC := hCP.1
  obtain ⟨hd, hn, ho⟩ := xm_dec hC hf
  exact lv_tableOut hC.2.1 hC.2.2.1 hd h ht (kk G p e R s m args below meth c H locs cells slots ls hCP hR hL)
end XR
