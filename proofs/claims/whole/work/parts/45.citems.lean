section EC5
variable {l : Launch} {d L : Nat} {xs : Nat → Int32} {g : xm_H} {tc : Int32} {tf : (Nat → Int32)} {bl : Int32} {bf : (Nat → Int32)} {of : Int32} {oc : Int32} {ol : Int32} {on : Int32} {ml : (Nat → Int32)} {mx : (Nat → Int32)} {mb : (Nat → Nat → Int32)} {kc : Int32} {kh : (Nat → Nat)} {kr : (Nat → Nat → Int32)} {ka : (Nat → Int32)} {gl : Int32} {gx : Int32} {gb : (Nat → Int32)} {ls : Int32} {lq : Int32} {lk : Int32} {lg : Int32} {lh : Int32} {vf : (Nat → Int32)} {vs : (Nat → Int32)} {vb : (Nat → Nat → Int32)} {nv : (Nat → Int32)} {nw : (Nat → Nat → Int32)} {nr : (Nat → Int32)} {nq : (Nat → Nat → Int32)} {ne : (Nat → Int32)} {io : Int32} {sp : Int32} {ch : Int32} {wt : Int32} {xf : (Nat → Int32)} {xz : (Nat → Int32)} {xt : (Nat → Int32)} {xb : (Nat → Int32)} {xc : Int32}
variable {β : Nat → Nat} {e : Nat}
/-- an item's format, number of length bytes, size, start -/
def itF (β : Nat → Nat) (p : Nat) : Nat := β p / 4
def itK (β : Nat → Nat) (p : Nat) : Nat := β p % 4
def itZ (β : Nat → Nat) (p : Nat) : Nat → Nat
  | 0 => 0
  | k + 1 => itZ β p k * 256 + β (p + 1 + k)
def itS (β : Nat → Nat) (p : Nat) : Nat := itZ β p (itK β p)
def itT (β : Nat → Nat) (p : Nat) : Nat := p + 1 + itK β p
def itW (f : Nat) : Nat := if f = 8 ∨ f = 9 ∨ f = 16 ∨ f = 25 ∨ f = 41 then 1 else if f = 26 ∨ f = 42 then 2 else if f = 28 ∨ f = 36 ∨ f = 44 then 4 else if f = 32 then 8 else 0
abbrev itO : Type := Option (List (Nat × Nat) × Nat)
def itLeaf (β : Nat → Nat) (e p : Nat) : itO := if 0 < itW (itF β p) ∧ itS β p % itW (itF β p) = 0 ∧ itS β p ≤ e - itT β p then some ([(p, 1)], itT β p + itS β p) else none
/-- m items, one behind the other -/
def itI (f : Nat → itO) : Nat → Nat → itO
  | 0, q => some ([], q)
  | m + 1, q => (f q).bind fun r => (itI f m r.2).map fun s => (r.1 ++ s.1, s.2)
/-- the item at p, lists at most D deep: where its items stand, how many are in each, where it ends -/
def itR (β : Nat → Nat) (e : Nat) : Nat → Nat → itO
  | 0, p => if p < e ∧ ¬ itK β p = 0 ∧ itT β p ≤ e then (if itF β p = 0 then none else itLeaf β e p) else none
  | D + 1, p => if p < e ∧ ¬ itK β p = 0 ∧ itT β p ≤ e then (if itF β p = 0 then (itI (itR β e D) (itS β p) (itT β p)).map fun r => ((p, 1 + r.1.length) :: r.1, r.2) else itLeaf β e p) else none
theorem itLeaf_some {p : Nat} {ps : List (Nat × Nat)} {q : Nat} (h : itLeaf β e p = some (ps, q)) : ps = [(p, 1)] ∧ q = itT β p + itS β p ∧ itS β p ≤ e - itT β p := by
  unfold itLeaf at h
  split at h
  next c => cases h; exact ⟨rfl, rfl, c.2.2⟩
  next => cases h
theorem itI_len {f : Nat → itO} (hf : ∀ q ps r, f q = some (ps, r) → q + 2 * ps.length ≤ r ∧ r ≤ e) : ∀ m q ps r, itI f m q = some (ps, r) → q + 2 * ps.length ≤ r ∧ (q ≤ e → r ≤ e) := by
  intro m
  induction m with
  | zero =>
    intro q ps r h
    cases h
    exact ⟨by simp, fun h => h⟩
  | succ m ih =>
    intro q ps r h
    rw [itI] at h
    cases h1 : f q with
    | none => rw [h1] at h; cases h
    | some a =>
      rw [h1] at h
      cases h2 : itI f m a.2 with
      | none => simp [h2] at h
      | some b =>
        simp [h2] at h
        obtain ⟨rfl, rfl⟩ := h
        have g1 := hf q a.1 a.2 h1
        have g2 := ih a.2 b.1 b.2 h2
        rw [List.length_append]
        exact ⟨by omega, fun _ => g2.2 g1.2⟩
theorem itR_len : ∀ D p ps q, itR β e D p = some (ps, q) → p + 2 * ps.length ≤ q ∧ q ≤ e := by
  have leaf : ∀ p ps q, p < e ∧ ¬ itK β p = 0 ∧ itT β p ≤ e → itLeaf β e p = some (ps, q) → p + 2 * ps.length ≤ q ∧ q ≤ e := by
    intro p ps q hc h
    obtain ⟨rfl, rfl, h3⟩ := itLeaf_some h
    have : itT β p = p + 1 + itK β p := rfl
    simp only [List.length_cons, List.length_nil]
    omega
  intro D
  induction D with
  | zero =>
    intro p ps q h
    rw [itR] at h
    split at h
    next hc =>
      split at h
      · cases h
      · exact leaf p ps q hc h
    next => cases h
  | succ D ih =>
    intro p ps q h
    rw [itR] at h
    split at h
    next hc =>
      split at h
      · cases h2 : itI (itR β e D) (itS β p) (itT β p) with
        | none => simp [h2] at h
        | some a =>
          simp [h2] at h
          obtain ⟨rfl, rfl⟩ := h
          have g := itI_len ih (itS β p) (itT β p) a.1 a.2 h2
          have : itT β p = p + 1 + itK β p := rfl
          have g2 := g.2 hc.2.2
          simp only [List.length_cons]
          omega
      · exact leaf p ps q hc h
    next => cases h
theorem itZ_lt (hβ : ∀ i, β i < 256) (p : Nat) : ∀ k, itZ β p k < 256 ^ k := by
  intro k
  induction k with
  | zero => simp [itZ]
  | succ k ih =>
    have := hβ (p + 1 + k)
    rw [itZ, Nat.pow_succ]
    omega
theorem itS_lt (hβ : ∀ i, β i < 256) (p : Nat) : itS β p < 2 ^ 24 := by
  have h := itZ_lt hβ p (itK β p)
  have h3 : itK β p ≤ 3 := by unfold itK; omega
  have : 256 ^ itK β p ≤ 256 ^ 3 := Nat.pow_le_pow_right (by decide) h3
  unfold itS
  omega
/-- the arrays hold the items ps from number c on -/
def itA (β : Nat → Nat) (xf xz xt xb : Nat → Int32) (c : Nat) (ps : List (Nat × Nat)) : Prop := ∀ (i : Nat) (r : Nat × Nat), ps[i]? = some r → xf (c + i) = nI (itF β r.1) ∧ xz (c + i) = nI (itS β r.1) ∧ xt (c + i) = nI (itT β r.1) ∧ xb (c + i) = nI (c + i + r.2)
def itE (c : Nat) (f g : Nat → Int32) : Prop := ∀ j, j < c → f j = g j
theorem itA.keep {xf xz xt xb xf' xz' xt' xb' : Nat → Int32} {c n : Nat} {ps : List (Nat × Nat)} (h : itA β xf xz xt xb c ps) (hn : c + ps.length ≤ n) (h1 : itE n xf' xf) (h2 : itE n xz' xz) (h3 : itE n xt' xt) (h4 : itE n xb' xb) : itA β xf' xz' xt' xb' c ps := by
  intro i r hr
  have hi := (List.getElem?_eq_some_iff.mp hr).1
  rw [h1 _ (by omega), h2 _ (by omega), h3 _ (by omega), h4 _ (by omega)]
  exact h i r hr
theorem itA.app {xf xz xt xb : Nat → Int32} {c : Nat} {ps qs : List (Nat × Nat)} (h1 : itA β xf xz xt xb c ps) (h2 : itA β xf xz xt xb (c + ps.length) qs) : itA β xf xz xt xb c (ps ++ qs) := by
  intro i r hr
  by_cases hi : i < ps.length
  · rw [List.getElem?_append_left hi] at hr
    exact h1 i r hr
  · rw [List.getElem?_append_right (by omega)] at hr
    have h := h2 _ r hr
    have e1 : c + ps.length + (i - ps.length) = c + i := by omega
    rw [e1] at h
    exact h
theorem itE.trans {c c2 : Nat} {f g k : Nat → Int32} (h1 : itE c2 f g) (h2 : itE c g k) (h : c ≤ c2) : itE c f k := fun j hj => (h1 j (by omega)).trans (h2 j hj)
/-- what a reading leaves -/
def itP (β : Nat → Nat) (R : itO) (c : Nat) (xf xz xt xb xf' xz' xt' xb' : Nat → Int32) (xc' : Int32) (v : Option Value) : Prop :=
  (R = none ∧ v = some (.int (-1))) ∨ ∃ ps q, R = some (ps, q) ∧ v = some (.int (nI q)) ∧ xc' = nI (c + ps.length) ∧ itE c xf' xf ∧ itE c xz' xz ∧ itE c xt' xt ∧ itE c xb' xb ∧ itA β xf' xz' xt' xb' c ps
/-- java/lang/Math.min -/
theorem n80 {hp : xm_H} (a b : Nat) (ha : a < 2 ^ 31) (hb : b < 2 ^ 31) : XM l 80 d 0 0 [.int (nI a), .int (nI b)] hp (xm_is (some (.int (nI (min a b)))) hp) := by
  refine XE (pl := [some (.int (nI a)), some (.int (nI b))]) xg80 rfl ?_
  iterate 2 refine x_step rfl ?_
  refine x_icmpN_gt (a) (b) rfl rfl rfl (fun h => ?_) (fun h => ?_)
  · refine x_step rfl ?_
    exact x_iret rfl rfl rfl ⟨by rw [Nat.min_eq_right (by omega)], rfl⟩
  · iterate 2 refine x_step rfl ?_
    exact x_iret rfl rfl rfl ⟨by rw [Nat.min_eq_left (by omega)], rfl⟩
theorem n82i {hp : xm_H} (f : Nat) (h8 : 8 ≤ f) (h44 : f ≤ 44) : XM l 82 d 0 0 [.int (nI f)] hp (xm_is (some (.int (nI (itW f)))) hp) := by
  match f, h8, h44 with
  | 8, _, _ =>
    refine XE (pl := [some (.int (nI 8))]) xg82 rfl ?_
    refine x_step rfl ?_
    refine x_tswIn rfl (by decide) (by decide) rfl (t := 164) (by decide) ?_
    refine x_step rfl ?_
    exact x_iret rfl rfl rfl ⟨rfl, rfl⟩
  | 9, _, _ =>
    refine XE (pl := [some (.int (nI 9))]) xg82 rfl ?_
    refine x_step rfl ?_
    refine x_tswIn rfl (by decide) (by decide) rfl (t := 164) (by decide) ?_
    refine x_step rfl ?_
    exact x_iret rfl rfl rfl ⟨rfl, rfl⟩
  | 10, _, _ =>
    refine XE (pl := [some (.int (nI 10))]) xg82 rfl ?_
    refine x_step rfl ?_
    refine x_tswIn rfl (by decide) (by decide) rfl (t := 173) (by decide) ?_
    refine x_step rfl ?_
    exact x_iret rfl rfl rfl ⟨rfl, rfl⟩
  | 11, _, _ =>
    refine XE (pl := [some (.int (nI 11))]) xg82 rfl ?_
    refine x_step rfl ?_
    refine x_tswIn rfl (by decide) (by decide) rfl (t := 173) (by decide) ?_
    refine x_step rfl ?_
    exact x_iret rfl rfl rfl ⟨rfl, rfl⟩
  | 12, _, _ =>
    refine XE (pl := [some (.int (nI 12))]) xg82 rfl ?_
    refine x_step rfl ?_
    refine x_tswIn rfl (by decide) (by decide) rfl (t := 173) (by decide) ?_
    refine x_step rfl ?_
    exact x_iret rfl rfl rfl ⟨rfl, rfl⟩
  | 13, _, _ =>
    refine XE (pl := [some (.int (nI 13))]) xg82 rfl ?_
    refine x_step rfl ?_
    refine x_tswIn rfl (by decide) (by decide) rfl (t := 173) (by decide) ?_
    refine x_step rfl ?_
    exact x_iret rfl rfl rfl ⟨rfl, rfl⟩
  | 14, _, _ =>
    refine XE (pl := [some (.int (nI 14))]) xg82 rfl ?_
    refine x_step rfl ?_
    refine x_tswIn rfl (by decide) (by decide) rfl (t := 173) (by decide) ?_
    refine x_step rfl ?_
    exact x_iret rfl rfl rfl ⟨rfl, rfl⟩
  | 15, _, _ =>
    refine XE (pl := [some (.int (nI 15))]) xg82 rfl ?_
    refine x_step rfl ?_
    refine x_tswIn rfl (by decide) (by decide) rfl (t := 173) (by decide) ?_
    refine x_step rfl ?_
    exact x_iret rfl rfl rfl ⟨rfl, rfl⟩
  | 16, _, _ =>
    refine XE (pl := [some (.int (nI 16))]) xg82 rfl ?_
    refine x_step rfl ?_
    refine x_tswIn rfl (by decide) (by decide) rfl (t := 164) (by decide) ?_
    refine x_step rfl ?_
    exact x_iret rfl rfl rfl ⟨rfl, rfl⟩
  | 17, _, _ =>
    refine XE (pl := [some (.int (nI 17))]) xg82 rfl ?_
    refine x_step rfl ?_
    refine x_tswIn rfl (by decide) (by decide) rfl (t := 173) (by decide) ?_
    refine x_step rfl ?_
    exact x_iret rfl rfl rfl ⟨rfl, rfl⟩
  | 18, _, _ =>
    refine XE (pl := [some (.int (nI 18))]) xg82 rfl ?_
    refine x_step rfl ?_
    refine x_tswIn rfl (by decide) (by decide) rfl (t := 173) (by decide) ?_
    refine x_step rfl ?_
    exact x_iret rfl rfl rfl ⟨rfl, rfl⟩
  | 19, _, _ =>
    refine XE (pl := [some (.int (nI 19))]) xg82 rfl ?_
    refine x_step rfl ?_
    refine x_tswIn rfl (by decide) (by decide) rfl (t := 173) (by decide) ?_
    refine x_step rfl ?_
    exact x_iret rfl rfl rfl ⟨rfl, rfl⟩
  | 20, _, _ =>
    refine XE (pl := [some (.int (nI 20))]) xg82 rfl ?_
    refine x_step rfl ?_
    refine x_tswIn rfl (by decide) (by decide) rfl (t := 173) (by decide) ?_
    refine x_step rfl ?_
    exact x_iret rfl rfl rfl ⟨rfl, rfl⟩
  | 21, _, _ =>
    refine XE (pl := [some (.int (nI 21))]) xg82 rfl ?_
    refine x_step rfl ?_
    refine x_tswIn rfl (by decide) (by decide) rfl (t := 173) (by decide) ?_
    refine x_step rfl ?_
    exact x_iret rfl rfl rfl ⟨rfl, rfl⟩
  | 22, _, _ =>
    refine XE (pl := [some (.int (nI 22))]) xg82 rfl ?_
    refine x_step rfl ?_
    refine x_tswIn rfl (by decide) (by decide) rfl (t := 173) (by decide) ?_
    refine x_step rfl ?_
    exact x_iret rfl rfl rfl ⟨rfl, rfl⟩
  | 23, _, _ =>
    refine XE (pl := [some (.int (nI 23))]) xg82 rfl ?_
    refine x_step rfl ?_
    refine x_tswIn rfl (by decide) (by decide) rfl (t := 173) (by decide) ?_
    refine x_step rfl ?_
    exact x_iret rfl rfl rfl ⟨rfl, rfl⟩
  | 24, _, _ =>
    refine XE (pl := [some (.int (nI 24))]) xg82 rfl ?_
    refine x_step rfl ?_
    refine x_tswIn rfl (by decide) (by decide) rfl (t := 173) (by decide) ?_
    refine x_step rfl ?_
    exact x_iret rfl rfl rfl ⟨rfl, rfl⟩
  | 25, _, _ =>
    refine XE (pl := [some (.int (nI 25))]) xg82 rfl ?_
    refine x_step rfl ?_
    refine x_tswIn rfl (by decide) (by decide) rfl (t := 164) (by decide) ?_
    refine x_step rfl ?_
    exact x_iret rfl rfl rfl ⟨rfl, rfl⟩
  | 26, _, _ =>
    refine XE (pl := [some (.int (nI 26))]) xg82 rfl ?_
    refine x_step rfl ?_
    refine x_tswIn rfl (by decide) (by decide) rfl (t := 166) (by decide) ?_
    refine x_step rfl ?_
    exact x_iret rfl rfl rfl ⟨rfl, rfl⟩
  | 27, _, _ =>
    refine XE (pl := [some (.int (nI 27))]) xg82 rfl ?_
    refine x_step rfl ?_
    refine x_tswIn rfl (by decide) (by decide) rfl (t := 173) (by decide) ?_
    refine x_step rfl ?_
    exact x_iret rfl rfl rfl ⟨rfl, rfl⟩
  | 28, _, _ =>
    refine XE (pl := [some (.int (nI 28))]) xg82 rfl ?_
    refine x_step rfl ?_
    refine x_tswIn rfl (by decide) (by decide) rfl (t := 168) (by decide) ?_
    refine x_step rfl ?_
    exact x_iret rfl rfl rfl ⟨rfl, rfl⟩
  | 29, _, _ =>
    refine XE (pl := [some (.int (nI 29))]) xg82 rfl ?_
    refine x_step rfl ?_
    refine x_tswIn rfl (by decide) (by decide) rfl (t := 173) (by decide) ?_
    refine x_step rfl ?_
    exact x_iret rfl rfl rfl ⟨rfl, rfl⟩
  | 30, _, _ =>
    refine XE (pl := [some (.int (nI 30))]) xg82 rfl ?_
    refine x_step rfl ?_
    refine x_tswIn rfl (by decide) (by decide) rfl (t := 173) (by decide) ?_
    refine x_step rfl ?_
    exact x_iret rfl rfl rfl ⟨rfl, rfl⟩
  | 31, _, _ =>
    refine XE (pl := [some (.int (nI 31))]) xg82 rfl ?_
    refine x_step rfl ?_
    refine x_tswIn rfl (by decide) (by decide) rfl (t := 173) (by decide) ?_
    refine x_step rfl ?_
    exact x_iret rfl rfl rfl ⟨rfl, rfl⟩
  | 32, _, _ =>
    refine XE (pl := [some (.int (nI 32))]) xg82 rfl ?_
    refine x_step rfl ?_
    refine x_tswIn rfl (by decide) (by decide) rfl (t := 170) (by decide) ?_
    refine x_step rfl ?_
    exact x_iret rfl rfl rfl ⟨rfl, rfl⟩
  | 33, _, _ =>
    refine XE (pl := [some (.int (nI 33))]) xg82 rfl ?_
    refine x_step rfl ?_
    refine x_tswIn rfl (by decide) (by decide) rfl (t := 173) (by decide) ?_
    refine x_step rfl ?_
    exact x_iret rfl rfl rfl ⟨rfl, rfl⟩
  | 34, _, _ =>
    refine XE (pl := [some (.int (nI 34))]) xg82 rfl ?_
    refine x_step rfl ?_
    refine x_tswIn rfl (by decide) (by decide) rfl (t := 173) (by decide) ?_
    refine x_step rfl ?_
    exact x_iret rfl rfl rfl ⟨rfl, rfl⟩
  | 35, _, _ =>
    refine XE (pl := [some (.int (nI 35))]) xg82 rfl ?_
    refine x_step rfl ?_
    refine x_tswIn rfl (by decide) (by decide) rfl (t := 173) (by decide) ?_
    refine x_step rfl ?_
    exact x_iret rfl rfl rfl ⟨rfl, rfl⟩
  | 36, _, _ =>
    refine XE (pl := [some (.int (nI 36))]) xg82 rfl ?_
    refine x_step rfl ?_
    refine x_tswIn rfl (by decide) (by decide) rfl (t := 168) (by decide) ?_
    refine x_step rfl ?_
    exact x_iret rfl rfl rfl ⟨rfl, rfl⟩
  | 37, _, _ =>
    refine XE (pl := [some (.int (nI 37))]) xg82 rfl ?_
    refine x_step rfl ?_
    refine x_tswIn rfl (by decide) (by decide) rfl (t := 173) (by decide) ?_
    refine x_step rfl ?_
    exact x_iret rfl rfl rfl ⟨rfl, rfl⟩
  | 38, _, _ =>
    refine XE (pl := [some (.int (nI 38))]) xg82 rfl ?_
    refine x_step rfl ?_
    refine x_tswIn rfl (by decide) (by decide) rfl (t := 173) (by decide) ?_
    refine x_step rfl ?_
    exact x_iret rfl rfl rfl ⟨rfl, rfl⟩
  | 39, _, _ =>
    refine XE (pl := [some (.int (nI 39))]) xg82 rfl ?_
    refine x_step rfl ?_
    refine x_tswIn rfl (by decide) (by decide) rfl (t := 173) (by decide) ?_
    refine x_step rfl ?_
    exact x_iret rfl rfl rfl ⟨rfl, rfl⟩
  | 40, _, _ =>
    refine XE (pl := [some (.int (nI 40))]) xg82 rfl ?_
    refine x_step rfl ?_
    refine x_tswIn rfl (by decide) (by decide) rfl (t := 173) (by decide) ?_
    refine x_step rfl ?_
    exact x_iret rfl rfl rfl ⟨rfl, rfl⟩
  | 41, _, _ =>
    refine XE (pl := [some (.int (nI 41))]) xg82 rfl ?_
    refine x_step rfl ?_
    refine x_tswIn rfl (by decide) (by decide) rfl (t := 164) (by decide) ?_
    refine x_step rfl ?_
    exact x_iret rfl rfl rfl ⟨rfl, rfl⟩
  | 42, _, _ =>
    refine XE (pl := [some (.int (nI 42))]) xg82 rfl ?_
    refine x_step rfl ?_
    refine x_tswIn rfl (by decide) (by decide) rfl (t := 166) (by decide) ?_
    refine x_step rfl ?_
    exact x_iret rfl rfl rfl ⟨rfl, rfl⟩
  | 43, _, _ =>
    refine XE (pl := [some (.int (nI 43))]) xg82 rfl ?_
    refine x_step rfl ?_
    refine x_tswIn rfl (by decide) (by decide) rfl (t := 173) (by decide) ?_
    refine x_step rfl ?_
    exact x_iret rfl rfl rfl ⟨rfl, rfl⟩
  | 44, _, _ =>
    refine XE (pl := [some (.int (nI 44))]) xg82 rfl ?_
    refine x_step rfl ?_
    refine x_tswIn rfl (by decide) (by decide) rfl (t := 168) (by decide) ?_
    refine x_step rfl ?_
    exact x_iret rfl rfl rfl ⟨rfl, rfl⟩
  | n + 45, _, h => exact absurd h (by omega)
  | 0, h, _ => exact absurd h (by omega)
  | 1, h, _ => exact absurd h (by omega)
  | 2, h, _ => exact absurd h (by omega)
  | 3, h, _ => exact absurd h (by omega)
  | 4, h, _ => exact absurd h (by omega)
  | 5, h, _ => exact absurd h (by omega)
  | 6, h, _ => exact absurd h (by omega)
  | 7, h, _ => exact absurd h (by omega)
theorem n82 {hp : xm_H} (f : Nat) (hf : f < 64) : XM l 82 d 0 0 [.int (nI f)] hp (xm_is (some (.int (nI (itW f)))) hp) := by
  by_cases h8 : 8 ≤ f
  · by_cases h44 : f ≤ 44
    · exact n82i f h8 h44
    · have e : itW f = 0 := by
        unfold itW
        rw [if_neg (by omega), if_neg (by omega), if_neg (by omega), if_neg (by omega)]
      rw [e]
      refine XE (pl := [some (.int (nI f))]) xg82 rfl ?_
      refine x_step rfl ?_
      refine x_tswOut rfl (Or.inr (by rw [nI_toInt (by omega)]; omega)) (t := 173) (by decide) ?_
      refine x_step rfl ?_
      exact x_iret rfl rfl rfl ⟨rfl, rfl⟩
  · have e : itW f = 0 := by
      unfold itW
      rw [if_neg (by omega), if_neg (by omega), if_neg (by omega), if_neg (by omega)]
    rw [e]
    refine XE (pl := [some (.int (nI f))]) xg82 rfl ?_
    refine x_step rfl ?_
    refine x_tswOut rfl (Or.inl (by rw [nI_toInt (by omega)]; omega)) (t := 173) (by decide) ?_
    refine x_step rfl ?_
    exact x_iret rfl rfl rfl ⟨rfl, rfl⟩
/-- Items.endOfBytes -/
theorem n83y {hp : xm_H} (s z w e : Nat) (hw : 0 < w) (hz : z % w = 0) (hle : z ≤ e - s) (hs : s ≤ e) (he : e < 2 ^ 20)  (hw8 : w ≤ 8) : XM l 83 d 0 0 [.int (nI s), .int (nI z), .int (nI w), .int (nI e)] hp (xm_is (some (.int (nI (s + z)))) hp) := by
  refine XE (pl := [some (.int (nI s)), some (.int (nI z)), some (.int (nI w)), some (.int (nI e)), none]) xg83 rfl ?_
  refine x_step rfl ?_
  refine x_ifN_le (w) rfl rfl (fun q => False.elim (by omega)) (fun _ => ?_)
  iterate 2 refine x_step rfl ?_
  refine x_iremN (z) (w) rfl rfl rfl ?_
  refine x_ifN_ne (z % w) rfl rfl (fun q => False.elim (by omega)) (fun _ => ?_)
  iterate 4 refine x_step rfl ?_
  refine x_if_eq rfl (fun q => absurd q (by decide)) (fun _ => ?_)
  iterate 4 refine x_step rfl ?_
  refine x_icmpN_gt (z) (e - s) rfl rfl (pk_sub hs) (fun q => False.elim (by omega)) (fun _ => ?_)
  iterate 4 refine x_step rfl ?_
  exact x_iret rfl rfl rfl ⟨by rw [nI_add], rfl⟩
/-- Items.endOfBytes -/
theorem n83n {hp : xm_H} (s z w e : Nat) (h : ¬ (0 < w ∧ z % w = 0 ∧ z ≤ e - s)) (hs : s ≤ e) (he : e < 2 ^ 20) (hz : z < 2 ^ 30) (hw8 : w ≤ 8) : XM l 83 d 0 0 [.int (nI s), .int (nI z), .int (nI w), .int (nI e)] hp (xm_is (some (.int (-1))) hp) := by
  refine XE (pl := [some (.int (nI s)), some (.int (nI z)), some (.int (nI w)), some (.int (nI e)), none]) xg83 rfl ?_
  refine x_step rfl ?_
  refine x_ifN_le (w) rfl rfl (fun h1 => ?_) (fun h1 => ?_)
  · iterate 3 refine x_step rfl ?_
    refine x_if_eq rfl (fun _ => ?_) (fun q => absurd (by decide) q)
    refine x_step rfl ?_
    exact x_iret rfl rfl rfl ⟨rfl, rfl⟩
  · iterate 2 refine x_step rfl ?_
    refine x_iremN (z) (w) rfl rfl rfl ?_
    have hm : z % w ≤ z := Nat.mod_le _ _
    refine x_ifN_ne (z % w) rfl rfl (fun h2 => ?_) (fun h2 => ?_)
    · iterate 3 refine x_step rfl ?_
      refine x_if_eq rfl (fun _ => ?_) (fun q => absurd (by decide) q)
      refine x_step rfl ?_
      exact x_iret rfl rfl rfl ⟨rfl, rfl⟩
    · iterate 4 refine x_step rfl ?_
      refine x_if_eq rfl (fun q => absurd q (by decide)) (fun _ => ?_)
      iterate 4 refine x_step rfl ?_
      refine x_icmpN_gt (z) (e - s) rfl rfl (pk_sub hs) (fun _ => ?_) (fun q => False.elim (h ⟨by omega, by omega, by omega⟩))
      refine x_step rfl ?_
      exact x_iret rfl rfl rfl ⟨rfl, rfl⟩
end EC5
