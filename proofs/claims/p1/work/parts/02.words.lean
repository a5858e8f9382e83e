def xm_cn (t : FieldType) : String := match t with
  | .object C => C
  | t => t.toString
def xm_lk (c idx : Nat) : Option Cond := (xm_lks.getD c []).lookup idx
def xm_nm (k : Nat) : MethodName := (xm_Ms.getD k xm_M0).1
def xm_by (k : Nat) : ByteArray := (xm_Ms.getD k xm_M0).2.1
def xm_ml (k : Nat) : Nat := (xm_Ms.getD k xm_M0).2.2.1
def xm_rt (k : Nat) : Option FieldType := (xm_Ms.getD k xm_M0).2.2.2.1
def xm_kd (k : Nat) : Nat := (xm_Ms.getD k xm_M0).2.2.2.2.1
def xm_pn (k : Nat) : Nat := (xm_Ms.getD k xm_M0).2.2.2.2.2
def xm_nM : Nat := xm_Ms.length
def xm_code (k pc : Nat) : Option xm_row := (xm_tbs.getD k []).lookup pc
/-- the words of a method: 0 static, 1 instance, 2 constructor -/
def xm_mw (j : Nat) : List Cond := match xm_kd j with
  | 0 => [.code (xm_nm j) (xm_by j) (xm_ml j) (xm_rt j), .static (xm_nm j), .initialized (xm_nm j).cls]
  | 1 => [.code (xm_nm j) (xm_by j) (xm_ml j) (xm_rt j), .instanceMethod (xm_nm j), .selects (xm_nm j).cls (xm_nm j) (xm_nm j), .initialized (xm_nm j).cls]
  | 2 => [.code (xm_nm j) (xm_by j) (xm_ml j) (xm_rt j), .instanceMethod (xm_nm j), .initialized (xm_nm j).cls]
  | _ => []
def xm_cw (c : Nat) : List Cond := match xm_cl[c]? with
  | some (C, T, N) => u_ws C T N ++ [.instantiable C N, .initialized C]
  | none => []
def xm_W : List Cond := xm_lks.flatMap (fun t => t.map (fun q => q.2)) ++ ((List.range xm_nM).flatMap xm_mw ++ ((List.range xm_cl.length).flatMap xm_cw ++ xm_xw))
def xm_okw (w : Cond) : Bool := match w with
  | .methodLinkNest _ _ _ _ => true
  | .fieldLinkNest _ _ _ _ _ _ => true
  | .castable _ _ => true
  | .arrayOver (.array _) => true
  | .arrayOver (.object _) => true
  | w => goodWord w
theorem xm_lookup_mem {α : Type} {l : List (Nat × α)} {i : Nat} {x : α} (h : l.lookup i = some x) : (i, x) ∈ l := by
  induction l with
  | nil => cases h
  | cons a t ih =>
    obtain ⟨b, y⟩ := a
    by_cases hb : i = b
    · subst hb
      rw [List.lookup_cons_self] at h
      cases h
      exact List.mem_cons_self
    · have hb' : (i == b) = false := by simpa using hb
      rw [List.lookup_cons, hb'] at h
      exact List.mem_cons_of_mem _ (ih h)
theorem xm_lk_mem {c idx : Nat} {w : Cond} (h : xm_lk c idx = some w) : w ∈ xm_W := by
  unfold xm_lk at h
  rw [List.getD_eq_getElem?_getD] at h
  cases hq : xm_lks[c]? with
  | none => rw [hq] at h; cases h
  | some t =>
    rw [hq] at h
    exact List.mem_append_left _ (List.mem_flatMap.mpr ⟨t, List.mem_of_getElem? hq, List.mem_map.mpr ⟨_, xm_lookup_mem h, rfl⟩⟩)
theorem xm_mw_mem {j : Nat} (hj : j < xm_nM) {w : Cond} (h : w ∈ xm_mw j) : w ∈ xm_W :=
  List.mem_append_right _ (List.mem_append_left _ (List.mem_flatMap.mpr ⟨j, List.mem_range.mpr hj, h⟩))
theorem xm_cls_mem {c : Nat} {C : String} {T : u_T} {N : Nat} (hc : xm_cl[c]? = some (C, T, N)) {w : Cond} (h : w ∈ u_ws C T N ++ [.instantiable C N, .initialized C]) : w ∈ xm_W := by
  refine List.mem_append_right _ (List.mem_append_right _ (List.mem_append_left _ (List.mem_flatMap.mpr ⟨c, List.mem_range.mpr (List.getElem?_eq_some_iff.mp hc).1, ?_⟩)))
  unfold xm_cw
  rw [hc]
  exact h
theorem xm_xw_mem {w : Cond} (h : w ∈ xm_xw) : w ∈ xm_W := List.mem_append_right _ (List.mem_append_right _ (List.mem_append_right _ h))
theorem va_AOw {s U : State} {C : String} (hW : s.WarmedH U.vm) (h : va_Nw (.arrayOver (.object C)) s) : va_Nw (.arrayOver (.object C)) U := va_AO.moved hW.alike h
def xm_fok (k idx r1 r2 : Nat) : Bool := match xm_cl[r1]? with
  | none => false
  | some (C, T, N) => decide (r2 < N) && decide (xm_lk (xm_pn k) idx = some (.fieldLink (xm_nm k).cls idx C (T r2).2.1 (T r2).2.2.1)) && decide ((T r2).1 = C)
def xm_pok (k _idx r1 r2 : Nat) : Bool := match xm_cl[r1]? with
  | none => false
  | some (C, T, _) => decide ((T r2).2.2.2 = false) || (decide ((xm_nm k).name = "<init>") && decide ((xm_nm k).cls = C))
def xm_nok (k idx r1 : Nat) : Bool := match xm_cl[r1]? with
  | none => false
  | some (C, _, _) => decide (xm_lk (xm_pn k) idx = some (.classLink (xm_nm k).cls idx C))
def xm_cok (k idx j n kd : Nat) : Bool := (match xm_lk (xm_pn k) idx with
    | some (.methodLink o i y) => decide (o = (xm_nm k).cls) && decide (i = idx) && decide (y = xm_nm j)
    | some (.methodLinkNest o i y _) => decide (o = (xm_nm k).cls) && decide (i = idx) && decide (y = xm_nm j)
    | _ => false) && decide (xm_kd j = kd) && decide ((xm_nm j).cls ≠ "java/lang/invoke/MethodHandle") && decide ((xm_nm j).cls ≠ "java/lang/invoke/VarHandle") && decide ((parseMethodDescriptor (xm_nm j).desc).map (fun d => d.parameters.length) = some n) && decide (xm_ml j ≤ 41) && decide (j < xm_nM)
def xm_spok (k idx r1 : Nat) : Bool := decide (xm_lk (xm_pn k) idx = some (.methodLink (xm_nm k).cls idx (xm_sp r1)))
def xm_okI (k pc : Nat) (i : Instr) (r1 r2 : Nat) (v : Int32) : Bool := match i with
  | .iconst n => decide (Int32.ofInt n = v)
  | .bipush n => decide ((Int8.ofInt n).toInt32 = v)
  | .sipush n => decide ((Int16.ofInt n).toInt32 = v)
  | .iinc _ n => decide (Int32.ofInt n = v)
  | .goto off => decide ((pc : Int) + off = (r1 : Int))
  | .ifCond _ off => decide ((pc : Int) + off = (r1 : Int))
  | .if_icmp _ off => decide ((pc : Int) + off = (r1 : Int))
  | .ifnull off => decide ((pc : Int) + off = (r1 : Int))
  | .ifnonnull off => decide ((pc : Int) + off = (r1 : Int))
  | .lookupswitch _ ps => (ps.toList.zip (ps.toList.drop 1)).all (fun (a, next) => a.1 < next.1)
  | .getfield idx => xm_fok k idx r1 r2
  | .putfield idx => xm_fok k idx r1 r2 && xm_pok k idx r1 r2
  | .new idx => if 950 ≤ r1 then true else xm_nok k idx r1
  | .newarray at0 => decide (newarray.typeOf at0 = xm_ty r1) && decide (r1 < xm_nt) && decide (Cond.arrayClass (xm_ty r1) ∈ xm_xw)
  | .anewarray idx => decide (xm_lk (xm_pn k) idx = some (.classLink (xm_nm k).cls idx (xm_cn (xm_ty r1)))) && decide (r1 < xm_nt) && decide (Cond.arrayOver (xm_ty r1) ∈ xm_xw)
  | .invokevirtual idx => if 950 ≤ r1 then true else if 900 ≤ r1 then xm_spok k idx r1 else xm_cok k idx r1 r2 1
  | .invokestatic idx => if 950 ≤ r1 then true else if 900 ≤ r1 then xm_spok k idx r1 else xm_cok k idx r1 r2 0
  | .invokespecial idx => if 950 ≤ r1 then true else if 900 ≤ r1 then xm_spok k idx r1 else xm_cok k idx r1 r2 2
  | .ldc idx => if 900 ≤ r2 then xm_sl.any (fun r => decide (r.1 = (xm_nm k).cls) && decide (r.2.1 = idx) && decide (r.2.2.2 = r1)) else decide (xm_lk (xm_pn k) idx = some (.constant (xm_nm k).cls idx v))
  | _ => true
def xm_ok (k pc : Nat) (r : xm_row) : Bool := (match decode (xm_by k) pc with
    | .ok (j, n) => decide (j = r.1) && decide (n = xm_len r.1 r.2.2.2.1) && decide (r.2.1 = pc + xm_len r.1 r.2.2.2.1)
    | _ => false) && xm_okI k pc r.1 r.2.2.1 r.2.2.2.1 r.2.2.2.2
set_option maxRecDepth 100000 in
theorem xm_W_ok : xm_W.all xm_okw = true := by decide +kernel
def xm_clchk (c : Nat) : Bool := match xm_cl[c]? with
  | some (_, T, N) => (List.range N).all (fun j => decide (parseFieldDescriptor (T j).2.2.1 = some (xm_ft c j)) && (List.range N).all (fun b => decide (j = b) || decide ((T j).2.1 ≠ (T b).2.1)))
  | none => true
set_option maxRecDepth 100000 in
theorem xm_cls_chk : (List.range xm_cl.length).all xm_clchk = true := by decide +kernel
theorem xm_cls_ok {c : Nat} {C : String} {T : u_T} {N : Nat} (hc : xm_cl[c]? = some (C, T, N)) : (∀ j, j < N → parseFieldDescriptor (T j).2.2.1 = some (xm_ft c j)) ∧ ∀ a, a < N → ∀ b, b < N → a ≠ b → (T a).2.1 ≠ (T b).2.1 := by
  have h := List.all_eq_true.mp xm_cls_chk c (List.mem_range.mpr (List.getElem?_eq_some_iff.mp hc).1)
  unfold xm_clchk at h
  rw [hc] at h
  have h1 := List.all_eq_true.mp h
  refine ⟨fun j hj => ?_, fun a ha b hb hab => ?_⟩
  · have h2 := h1 j (List.mem_range.mpr hj)
    simp only [Bool.and_eq_true, decide_eq_true_eq] at h2
    exact h2.1
  · have h2 := h1 a (List.mem_range.mpr ha)
    simp only [Bool.and_eq_true, decide_eq_true_eq] at h2
    have h3 := List.all_eq_true.mp h2.2 b (List.mem_range.mpr hb)
    simp only [Bool.or_eq_true, decide_eq_true_eq] at h3
    exact h3.resolve_left hab
set_option maxRecDepth 100000 in
theorem xm_ini_chk : ∀ j, j < xm_nM → xm_kd j = 2 → (xm_nm j).name = "<init>" ∧ xm_rt j = none := by decide +kernel
theorem xm_xw_oi1 : Cond.instanceMethod Lib.objectInit ∈ xm_xw := List.mem_cons_self
theorem xm_xw_oi2 : Cond.code Lib.objectInit ⟨#[0xb1]⟩ 1 none ∈ xm_xw := List.mem_cons_of_mem _ List.mem_cons_self
def xm_good (k : Nat) : Prop := ∀ (pc : Nat) (r : xm_row), xm_code k pc = some r → xm_ok k pc r = true
theorem xm_good_of {k : Nat} (h : (xm_tbs.getD k []).all (fun q => xm_ok k q.1 q.2) = true) : xm_good k := by
  intro pc r hr
  exact List.all_eq_true.mp h (pc, r) (xm_lookup_mem hr)
