section RE11
variable {β : Nat → Nat} {e : Nat} {ps : List (Nat × Nat)} {cv : Nat → Nat} {vp : Nat → Nat → Nat}
def lOk (s : lS) : Prop := ∀ e i, 1 ≤ e → e ≤ 5 → i < s.1 e → 1 ≤ s.2 e i ∧ s.2 e i ≤ 4
theorem ulN_in {P : Nat → Prop} (r : Nat) : ∀ m i k q, k ≤ i → (∀ j, j < k → P (q j)) → (∀ j, i ≤ j → j < i + m → P (q j)) → ∀ j, j < (ulN r m i k q).2 → P ((ulN r m i k q).1 j) := by
  intro m
  induction m with
  | zero => intro i k q _ h1 _ j hj; exact h1 j hj
  | succ m ih =>
    intro i k q hk h1 h2
    rw [ulN]
    split
    · exact ih (i + 1) k q (by omega) h1 (fun j g1 g2 => h2 j (by omega) (by omega))
    · refine ih (i + 1) (k + 1) _ (by omega) (fun j hj => ?_) (fun j g1 g2 => ?_)
      · unfold updn
        split
        · exact h2 i (by omega) (by omega)
        · exact h1 j (by omega)
      · unfold updn
        rw [if_neg (by omega)]
        exact h2 j (by omega) (by omega)
theorem ulE_in {r : Nat} {s : lS} (h : lOk s) (e : Nat) : lOk (ulE r s e) := by
  intro x i h1 h5 hi
  unfold ulE at hi ⊢
  by_cases hx : x = e
  · subst hx
    have a1 : updn s.1 x (ulN r (s.1 x) 0 0 (s.2 x)).2 x = (ulN r (s.1 x) 0 0 (s.2 x)).2 := if_pos rfl
    have a2 : updfn s.2 x (ulN r (s.1 x) 0 0 (s.2 x)).1 x = (ulN r (s.1 x) 0 0 (s.2 x)).1 := if_pos rfl
    have hi2 : i < updn s.1 x (ulN r (s.1 x) 0 0 (s.2 x)).2 x := hi
    rw [a1] at hi2
    show 1 ≤ updfn s.2 x (ulN r (s.1 x) 0 0 (s.2 x)).1 x i ∧ updfn s.2 x (ulN r (s.1 x) 0 0 (s.2 x)).1 x i ≤ 4
    rw [a2]
    exact ulN_in (P := fun y => 1 ≤ y ∧ y ≤ 4) r _ 0 0 _ (Nat.le_refl _) (fun j hj => absurd hj (Nat.not_lt_zero _)) (fun j _ hj => h x j h1 h5 (by omega)) i hi2
  · have a1 : updn s.1 e (ulN r (s.1 e) 0 0 (s.2 e)).2 x = s.1 x := if_neg hx
    have a2 : updfn s.2 e (ulN r (s.1 e) 0 0 (s.2 e)).1 x = s.2 x := if_neg hx
    have hi2 : i < updn s.1 e (ulN r (s.1 e) 0 0 (s.2 e)).2 x := hi
    rw [a1] at hi2
    show 1 ≤ updfn s.2 e (ulN r (s.1 e) 0 0 (s.2 e)).1 x i ∧ updfn s.2 e (ulN r (s.1 e) 0 0 (s.2 e)).1 x i ≤ 4
    rw [a2]
    exact h x i h1 h5 hi2
theorem ulA_in {r : Nat} : ∀ (m e : Nat) {s : lS}, lOk s → lOk (ulA r m e s) := by
  intro m
  induction m with
  | zero => intro e s h; exact h
  | succ m ih => intro e s h; exact ih (e + 1) (ulE_in h e)
theorem ulR_in {r : Nat} {s : lS} (h : lOk s) : lOk (ulR r s) := by
  unfold ulR
  split
  · exact ulA_in 5 1 h
  · exact h
theorem cvZ_le {cv : Nat → Nat} (r x : Nat) : cvZ cv r x ≤ cv x := by
  unfold cvZ
  split
  · unfold updn
    split
    · exact Nat.zero_le _
    · exact Nat.le_refl _
  · exact Nat.le_refl _
theorem kOk_z {s : dS} (h : kOk s) (r : Nat) : kOk (cvZ s.1 r, s.2.1, ulR r s.2.2) := by
  obtain ⟨h1, h2, h3, h4⟩ := h
  refine ⟨fun x => Nat.le_trans (cvZ_le r x) (h1 x), fun x i a b hi => h2 x i a b (Nat.lt_of_lt_of_le hi (cvZ_le r x)), ulR_ok h3.1 h3.2, ulR_in h4⟩
theorem kOk_rm : ∀ (m r : Nat) (cv : Nat → Nat) (vp : Nat → Nat → Nat) (s : lS), kOk (cv, vp, s) → kOk ((rmA m r (cv, s)).1, vp, (rmA m r (cv, s)).2) := by
  intro m
  induction m with
  | zero => intro r cv vp s h; exact h
  | succ m ih => intro r cv vp s h; exact ih (r + 1) _ vp _ (kOk_z h r)
theorem ncp_at (r h : Nat → Nat) : ∀ n j, ncp r h n j = if j < n then h j else r j := by
  intro n
  induction n with
  | zero => intro j; rw [if_neg (by omega)]; rfl
  | succ n ih =>
    intro j
    rw [ncp]
    by_cases e : j = n
    · subst e
      rw [if_pos (by omega)]
      exact if_pos rfl
    · rw [show updn (ncp r h n) n (h n) j = ncp r h n j from if_neg e, ih]
      by_cases h1 : j < n
      · rw [if_pos h1, if_pos (by omega)]
      · rw [if_neg h1, if_neg (by omega)]
theorem kOk_set {s : dS} (h : kOk s) (r n : Nat) (y : Nat → Nat) (hn : n ≤ 3) (hy : ∀ k, k < n → y k < 6) : kOk (updn s.1 r n, updfn s.2.1 r (ncp (s.2.1 r) y n), s.2.2) := by
  obtain ⟨h1, h2, h3, h4⟩ := h
  refine ⟨fun x => ?_, fun x i a b hi => ?_, h3, h4⟩
  · show updn s.1 r n x ≤ 3
    unfold updn
    split
    · exact hn
    · exact h1 x
  · have hi2 : i < updn s.1 r n x := hi
    show updfn s.2.1 r (ncp (s.2.1 r) y n) x i < 6
    unfold updn at hi2
    unfold updfn
    by_cases e : x = r
    · rw [if_pos e] at hi2
      rw [if_pos e, ncp_at, if_pos hi2]
      exact hy i hi2
    · rw [if_neg e] at hi2
      rw [if_neg e]
      exact h2 x i a b hi2
theorem fvN_0 (p : Nat) : ∀ m k, fvN β ps p m k = 0 → ∀ j, k ≤ j → j < k + m → pY β ps (p + 3 + j) 0 < 6 := by
  intro m
  induction m with
  | zero => intro k _ j h1 h2; omega
  | succ m ih =>
    intro k h j h1 h2
    rw [fvN] at h
    split at h
    · cases h
    next hc =>
      by_cases e : j = k
      · subst e; omega
      · exact ih (k + 1) h j (by omega) (by omega)
theorem kOk_one {s : dS} (h : kOk s) (p : Nat) (hf : fR β ps cv p = 0) : kOk (dOne β ps s (pY β ps (p + 1) 0) (p + 2)) := by
  unfold dOne
  split
  · exact kOk_z h _
  · split
    · unfold fR at hf
      split at hf
      · cases hf
      next hc =>
        split at hf
        · cases hf
        · refine kOk_set h _ _ _ (by omega) (fun k hk => ?_)
          have := fvN_0 p _ 0 hf k (by omega) (by omega)
          rw [show p + 2 + 1 + k = p + 3 + k by omega]
          exact this
    · exact h
theorem kOk_all : ∀ m p (s : dS), kOk s → fRs β ps cv m p = 0 → kOk (dAll β ps m p s) := by
  intro m
  induction m with
  | zero => intro p s h _; exact h
  | succ m ih =>
    intro p s h hf
    obtain ⟨f1, f2⟩ := fRs_0 m p hf
    exact ih _ _ (kOk_one h p f1) f2
theorem kOk_fin {s : dS} (h : kOk s) (hf : fRs β ps s.1 (pS β ps 2) 3 = 0) : kOk (dFin β ps s) := by
  unfold dFin
  split
  · exact kOk_rm 4 1 s.1 s.2.1 s.2.2 h
  · exact kOk_all _ _ s h hf
theorem fnN_0 (p : Nat) : ∀ m k, fnN β ps cv p m k = 0 → ∀ j, k ≤ j → j < k + m → 1 ≤ pY β ps (p + 3 + j) 0 ∧ pY β ps (p + 3 + j) 0 ≤ 4 := by
  intro m
  induction m with
  | zero => intro k _ j h1 h2; omega
  | succ m ih =>
    intro k h j h1 h2
    rw [fnN] at h
    split at h
    · cases h
    next hc =>
      by_cases e : j = k
      · subst e
        unfold cvo at hc
        split at hc
        next z => exact z
        next => exact absurd rfl hc
      · exact ih (k + 1) h j (by omega) (by omega)
theorem kOk_lk1 {t : lS} (h : kOk (cv, vp, t)) (p : Nat) (hf : fL β ps cv p = 0) : kOk (cv, vp, lkOne β ps t (pY β ps (p + 1) 0) (p + 2)) := by
  obtain ⟨h1, h2, h3, h4⟩ := h
  unfold lkOne
  split
  · unfold fL at hf
    split at hf
    · cases hf
    next hc =>
      · have hn := fnN_0 p _ 0 hf
        refine ⟨h1, h2, ⟨fun x => ?_, fun x i => ?_⟩, fun x i a b hi => ?_⟩
        · show updn t.1 _ _ x ≤ 2
          unfold updn
          split
          · omega
          · exact h3.1 x
        · show updfn t.2 _ _ x i < 2 ^ 20
          unfold updfn
          split
          · rw [ncp_at]
            split
            next hj =>
              have := hn i (by omega) (by omega)
              show pY β ps (p + 2 + 1 + i) 0 < 2 ^ 20
              rw [show p + 2 + 1 + i = p + 3 + i by omega]
              omega
            next => exact h3.2 _ i
          · exact h3.2 x i
        · have hi2 : i < updn t.1 (pY β ps (p + 1) 0) (min (pS β ps (p + 2)) 2) x := hi
          show 1 ≤ updfn t.2 (pY β ps (p + 1) 0) (ncp (t.2 (pY β ps (p + 1) 0)) (fun k => pY β ps (p + 2 + 1 + k) 0) (min (pS β ps (p + 2)) 2)) x i ∧ updfn t.2 (pY β ps (p + 1) 0) (ncp (t.2 (pY β ps (p + 1) 0)) (fun k => pY β ps (p + 2 + 1 + k) 0) (min (pS β ps (p + 2)) 2)) x i ≤ 4
          unfold updn at hi2
          unfold updfn
          by_cases ex : x = pY β ps (p + 1) 0
          · rw [if_pos ex] at hi2
            rw [if_pos ex, ncp_at, if_pos hi2]
            have := hn i (by omega) (by omega)
            show 1 ≤ pY β ps (p + 2 + 1 + i) 0 ∧ pY β ps (p + 2 + 1 + i) 0 ≤ 4
            rw [show p + 2 + 1 + i = p + 3 + i by omega]
            exact this
          · rw [if_neg ex] at hi2
            rw [if_neg ex]
            exact h4 x i a b hi2
  · exact ⟨h1, h2, h3, h4⟩
theorem kOk_lk : ∀ m p (t : lS), kOk (cv, vp, t) → fLs β ps cv m p = 0 → kOk (cv, vp, lkAll β ps m p t) := by
  intro m
  induction m with
  | zero => intro p t h _; exact h
  | succ m ih =>
    intro p t h hf
    obtain ⟨f1, f2⟩ := fLs_0 m p hf
    exact ih _ _ (kOk_lk1 h p f1) f2
theorem bI_01 (b : Bool) : bI b = 0 ∨ bI b = 1 := by
  cases b
  · exact Or.inl rfl
  · exact Or.inr rfl
theorem upd_01 {f : Nat → Int32} (h : ∀ e, f e = 0 ∨ f e = 1) (j : Nat) (b : Bool) : ∀ e, upd f j (bI b) e = 0 ∨ upd f j (bI b) e = 1 := by
  intro e
  by_cases x : e = j
  · subst x; rw [pk_us]; exact bI_01 b
  · rw [pk_un x]; exact h e
theorem enOne_01 {f : Nat → Int32} (h : ∀ e, f e = 0 ∨ f e = 1) (j : Nat) (b : Bool) : ∀ e, enOne f j b e = 0 ∨ enOne f j b e = 1 := by
  unfold enOne
  split
  · exact upd_01 h j b
  · exact h
theorem enAll_01 (b : Bool) : ∀ m k (f : Nat → Int32), (∀ e, f e = 0 ∨ f e = 1) → ∀ e, enAll β ps b m k f e = 0 ∨ enAll β ps b m k f e = 1 := by
  intro m
  induction m with
  | zero => intro k f h; exact h
  | succ m ih => intro k f h; exact ih (k + 1) _ (enOne_01 h _ b)
theorem enFive_01 (b : Bool) (f : Nat → Int32) (h : ∀ e, f e = 0 ∨ f e = 1) : ∀ e, enFive f b e = 0 ∨ enFive f b e = 1 := upd_01 (upd_01 (upd_01 (upd_01 (upd_01 h 1 b) 2 b) 3 b) 4 b) 5 b
theorem RV.one {vf vs jF jL jO : Nat → Int32} {vb : Nat → Nat → Int32} {jk jw : Int32} (h : RV vf vs vb jF jL jO jk jw) (v i : Nat) (h2 : 2 ≤ v) (h5 : v ≤ 5) (hβ : ∀ i, β i < 256) (hi : i < ps.length) (hF : pF β ps i < 64) (hS : pS β ps i ≤ 8) : RV (vOne β ps (vf, vs, vb) v i).1 (vOne β ps (vf, vs, vb) v i).2.1 (vOne β ps (vf, vs, vb) v i).2.2 (rOne β ps (jF, jL, jO) v i).1 (rOne β ps (jF, jL, jO) v i).2.1 (rOne β ps (jF, jL, jO) v i).2.2 jk jw := by
  obtain ⟨sz, c, w, h1, s0, s1, f0, f1, g1, g2, g3, g4, g5, g6⟩ := h
  have e1 : vOne β ps (vf, vs, vb) v i = (upd vf v (pK β ps i), upd vs v (nI (min (pS β ps i) 8)), updf vb v (xcp (vb v) (fun k => nI (pY β ps i k)) (min (pS β ps i) 8))) := if_pos (by omega)
  have e2 : min (pS β ps i) 8 = pS β ps i := Nat.min_eq_left hS
  have e3 : pK β ps i = nI (pF β ps i) := if_pos hi
  rw [e1, e2, e3]
  have n0 : (0 : Nat) ≠ v := by omega
  have n1 : (1 : Nat) ≠ v := by omega
  have u0 : ∀ x, x ≠ v → updf vb v (xcp (vb v) (fun k => nI (pY β ps i k)) (pS β ps i)) x = vb x := fun x hx => if_neg hx
  refine ⟨updn sz v (pS β ps i), c, w, fun x hx => ?_, (if_neg n0).trans s0, (if_neg n1).trans s1, (pk_un n0).trans f0, (pk_un n1).trans f1, (congrFun (u0 0 n0) 0).trans g1, g2, g3, (congrFun (u0 1 n1) 0).trans g4, g5, g6⟩
  by_cases e : x = v
  · subst e
    have z1 : updn sz x (pS β ps i) x = pS β ps i := if_pos rfl
    show upd vs x (nI (pS β ps i)) x = nI (updn sz x (pS β ps i) x) ∧ upd jL x (nI (pS β ps i)) x = nI (updn sz x (pS β ps i) x) ∧ updn sz x (pS β ps i) x ≤ 8 ∧ upd vf x (nI (pF β ps i)) x = upd jF x (nI (pF β ps i)) x ∧ (∃ f, f < 64 ∧ upd vf x (nI (pF β ps i)) x = nI f) ∧ ∀ k, k < updn sz x (pS β ps i) x → updf vb x (xcp (vb x) (fun k => nI (pY β ps i k)) (pS β ps i)) x k = rvb jk jw (xrcp jO (fun k => nI (pY β ps i k)) (8 * x) (pS β ps i)) x k ∧ isB (updf vb x (xcp (vb x) (fun k => nI (pY β ps i k)) (pS β ps i)) x k)
    rw [z1, pk_us, pk_us, pk_us, pk_us]
    refine ⟨rfl, rfl, hS, rfl, ⟨_, hF, rfl⟩, fun k hk => ?_⟩
    rw [updf_same, xcp_at, if_pos hk]
    refine ⟨?_, isB_n (pY_lt hβ _ _)⟩
    unfold rvb xrcp
    rw [if_neg (by omega), if_neg (by omega), if_pos (by omega), Nat.add_sub_cancel_left]
  · obtain ⟨b1, b2, b3, b4, b5, b6⟩ := h1 x hx
    have z1 : updn sz v (pS β ps i) x = sz x := if_neg e
    show upd vs v (nI (pS β ps i)) x = nI (updn sz v (pS β ps i) x) ∧ upd jL v (nI (pS β ps i)) x = nI (updn sz v (pS β ps i) x) ∧ updn sz v (pS β ps i) x ≤ 8 ∧ upd vf v (nI (pF β ps i)) x = upd jF v (nI (pF β ps i)) x ∧ (∃ f, f < 64 ∧ upd vf v (nI (pF β ps i)) x = nI f) ∧ ∀ k, k < updn sz v (pS β ps i) x → updf vb v (xcp (vb v) (fun k => nI (pY β ps i k)) (pS β ps i)) x k = rvb jk jw (xrcp jO (fun k => nI (pY β ps i k)) (8 * v) (pS β ps i)) x k ∧ isB (updf vb v (xcp (vb v) (fun k => nI (pY β ps i k)) (pS β ps i)) x k)
    rw [z1, pk_un e, pk_un e, pk_un e, pk_un e]
    refine ⟨b1, b2, b3, b4, b5, fun k hk => ?_⟩
    rw [u0 x e]
    obtain ⟨d1, d2⟩ := b6 k hk
    refine ⟨d1.trans ?_, d2⟩
    unfold rvb
    by_cases x0 : x = 0
    · rw [if_pos x0, if_pos x0]
    · rw [if_neg x0, if_neg x0]
      by_cases x1 : x = 1
      · rw [if_pos x1, if_pos x1]
      · rw [if_neg x1, if_neg x1]
        unfold xrcp
        rw [if_neg (by omega)]
theorem RV.all {jk jw : Int32} (hβ : ∀ i, β i < 256) (he : e ≤ 130) (hat : itAt β e ps 6 0 10 e) (hn : pPairs β ps = true) (h1 : aAny (aN β ps) (itS β 10) 0 = false) (h2 : aAny (aI β ps) (itS β 10) 0 = false) : ∀ (m k : Nat) (s : vS) (t : rS), k + m = itS β 10 → RV s.1 s.2.1 s.2.2 t.1 t.2.1 t.2.2 jk jw → RV (vAll β ps m (cI ps 0 k) s).1 (vAll β ps m (cI ps 0 k) s).2.1 (vAll β ps m (cI ps 0 k) s).2.2 (rAll β ps m k t).1 (rAll β ps m k t).2.1 (rAll β ps m k t).2.2 jk jw := by
  intro m
  induction m with
  | zero => intro k s t _ h; exact h
  | succ m ih =>
    intro k s t hk h
    have a1 := aAny_f _ 0 h1 k (by omega) (by omega)
    have a2 := aAny_f _ 0 h2 k (by omega) (by omega)
    obtain ⟨cs, qk, qe, -, -, -, -, cs2, q0, q1, -, hat4⟩ := (pairs_at hat he hn).2 k (by omega)
    obtain ⟨n, b1, b2, -⟩ := hat4.get
    have hlt := (List.getElem?_eq_some_iff.mp b1).1
    have hF : pF β ps (cI ps 0 k + 2) < 64 := by
      rw [b2]
      have := hβ q0
      unfold itF
      omega
    unfold aN at a1
    unfold aI at a2
    simp only [Bool.or_eq_false_iff, decide_eq_false_iff_not, beq_eq_false_iff_ne] at a1 a2
    exact ih (k + 1) _ _ (by omega) (h.one _ _ (by omega) (by omega) hβ hlt hF (by omega))
theorem RV.assign {vf vs jF jL jO : Nat → Int32} {vb : Nat → Nat → Int32} {jk jw : Int32} (h : RV vf vs vb jF jL jO jk jw) (hβ : ∀ i, β i < 256) (he : e ≤ 130) (hat : itAt β e ps 6 0 10 e) (hn : pPairs β ps = true) (hf : pfP β ps (itS β 10) 1 false = 0) : RV (vAll β ps (itS β 10) 1 (vf, vs, vb)).1 (vAll β ps (itS β 10) 1 (vf, vs, vb)).2.1 (vAll β ps (itS β 10) 1 (vf, vs, vb)).2.2 (rAll β ps (itS β 10) 0 (jF, jL, jO)).1 (rAll β ps (itS β 10) 0 (jF, jL, jO)).2.1 (rAll β ps (itS β 10) 0 (jF, jL, jO)).2.2 jk jw := by
  rw [show (1 : Nat) = cI ps 0 0 from rfl, pfP_eq, Bool.false_or] at hf
  have h1 : aAny (aN β ps) (itS β 10) 0 = false := by
    cases hz : aAny (aN β ps) (itS β 10) 0 with
    | false => rfl
    | true => rw [hz] at hf; simp at hf
  rw [h1] at hf
  have h2 : aAny (aI β ps) (itS β 10) 0 = false := by
    cases hz : aAny (aI β ps) (itS β 10) 0 with
    | false => rfl
    | true => rw [hz] at hf; exact absurd hf (by decide)
  exact RV.all hβ he hat hn h1 h2 (itS β 10) 0 (vf, vs, vb) (jF, jL, jO) (by omega) h
end RE11
