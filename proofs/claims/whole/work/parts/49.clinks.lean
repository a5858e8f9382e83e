section EC9
variable {l : Launch} {d L : Nat} {xs : Nat → Int32} {g : xm_H} {tc : Int32} {tf : (Nat → Int32)} {bl : Int32} {bf : (Nat → Int32)} {of : Int32} {oc : Int32} {ol : Int32} {on : Int32} {ml : (Nat → Int32)} {mx : (Nat → Int32)} {mb : (Nat → Nat → Int32)} {kc : Int32} {kh : (Nat → Nat)} {kr : (Nat → Nat → Int32)} {ka : (Nat → Int32)} {gl : Int32} {gx : Int32} {gb : (Nat → Int32)} {ls : Int32} {lq : Int32} {lk : Int32} {lg : Int32} {lh : Int32} {vf : (Nat → Int32)} {vs : (Nat → Int32)} {vb : (Nat → Nat → Int32)} {nv : (Nat → Int32)} {nw : (Nat → Nat → Int32)} {nr : (Nat → Int32)} {nq : (Nat → Nat → Int32)} {ne : (Nat → Int32)} {io : Int32} {sp : Int32} {ch : Int32} {wt : Int32} {xf : (Nat → Int32)} {xz : (Nat → Int32)} {xt : (Nat → Int32)} {xb : (Nat → Int32)} {xc : Int32}
variable {β : Nat → Nat} {e : Nat} {ps : List (Nat × Nat)} {cv cr : Nat → Nat} {vp rp : Nat → Nat → Nat}
def updfn (m : Nat → Nat → Nat) (j : Nat) (f : Nat → Nat) : Nat → Nat → Nat := fun i => if i = j then f else m i
theorem updfn_same (m : Nat → Nat → Nat) (j : Nat) (f : Nat → Nat) : updfn m j f j = f := if_pos rfl
theorem updfn_updfn (m : Nat → Nat → Nat) (j : Nat) (f g : Nat → Nat) : updfn (updfn m j f) j g = updfn m j g := by
  funext i
  unfold updfn
  by_cases h : i = j
  · rw [if_pos h, if_pos h]
  · rw [if_neg h, if_neg h, if_neg h]
theorem updfn_id (m : Nat → Nat → Nat) (j : Nat) : updfn m j (m j) = m := by
  funext i
  unfold updfn
  by_cases h : i = j
  · rw [if_pos h, h]
  · rw [if_neg h]
theorem upd_nI (f : Nat → Nat) (j x : Nat) : upd (fun i => nI (f i)) j (nI x) = fun i => nI (updn f j x i) := by
  funext i
  unfold updn
  by_cases h : i = j
  · subst h
    rw [pk_us, if_pos rfl]
  · rw [pk_un h, if_neg h]
theorem updf_nI (m : Nat → Nat → Nat) (j : Nat) (f : Nat → Nat) : updf (fun r i => nI (m r i)) j (fun i => nI (f i)) = fun r i => nI (updfn m j f r i) := by
  funext r i
  unfold updf updfn
  by_cases h : r = j
  · rw [if_pos h, if_pos h]
  · rw [if_neg h, if_neg h]
theorem updn_same (f : Nat → Nat) (j x : Nat) : updn f j x j = x := if_pos rfl
theorem updn_id (f : Nat → Nat) (j : Nat) : updn f j (f j) = f := by
  funext i
  unfold updn
  by_cases h : i = j
  · rw [if_pos h, h]
  · rw [if_neg h]
/-- the first i entries of h over r -/
def ncp (r h : Nat → Nat) : Nat → Nat → Nat
  | 0 => r
  | i + 1 => updn (ncp r h i) i (h i)
theorem cw_setnw {j : Nat} (hj : j < 5) (f : Nat → Int32) : ((cw L xs g tc tf bl bf of oc ol on ml mx mb kc kh kr ka gl gx gb ls lq lk lg lh vf vs vb nv nw nr nq ne io sp ch wt xf xz xt xb xc)).set (83 + j) (xI 0 3 f) = (cw L xs g tc tf bl bf of oc ol on ml mx mb kc kh kr ka gl gx gb ls lq lk lg lh vf vs vb nv (updf nw j f) nr nq ne io sp ch wt xf xz xt xb xc) := by
  match j, hj with
  | 0, _ => rfl
  | 1, _ => rfl
  | 2, _ => rfl
  | 3, _ => rfl
  | 4, _ => rfl
  | j + 5, h => exact absurd h (by omega)
theorem cw_setnq {j : Nat} (hj : j < 6) (f : Nat → Int32) : ((cw L xs g tc tf bl bf of oc ol on ml mx mb kc kh kr ka gl gx gb ls lq lk lg lh vf vs vb nv nw nr nq ne io sp ch wt xf xz xt xb xc)).set (90 + j) (xI 0 2 f) = (cw L xs g tc tf bl bf of oc ol on ml mx mb kc kh kr ka gl gx gb ls lq lk lg lh vf vs vb nv nw nr (updf nq j f) ne io sp ch wt xf xz xt xb xc) := by
  match j, hj with
  | 0, _ => rfl
  | 1, _ => rfl
  | 2, _ => rfl
  | 3, _ => rfl
  | 4, _ => rfl
  | 5, _ => rfl
  | j + 6, h => exact absurd h (by omega)
/-- Links.variablesOf -/
theorem n25o (r : Nat) (hd : 1 ≤ d) (h : r < 1 ∨ 4 < r) (h2 : r < 2 ^ 30) : XM l 25 d 0 0 [.ref 80, .int (nI r)] (cw L xs g tc tf bl bf of oc ol on ml mx mb kc kh kr ka gl gx gb ls lq lk lg lh vf vs vb nv nw nr nq ne io sp ch wt xf xz xt xb xc) (xm_is (some (.int 0)) (cw L xs g tc tf bl bf of oc ol on ml mx mb kc kh kr ka gl gx gb ls lq lk lg lh vf vs vb nv nw nr nq ne io sp ch wt xf xz xt xb xc)) := by
  refine XE (pl := [some (.ref 80), some (.int (nI r))]) xg25 rfl ?_
  refine x_step rfl ?_
  refine x_callsE rfl ((r26 (d := 0) (nI r)).xm) rfl rfl ?_
  refine x_if_eq rfl (fun _ => ?_) (fun q => absurd (xrp_z h h2) q)
  refine x_step rfl ?_
  exact x_iret rfl rfl rfl ⟨rfl, rfl⟩
/-- variablesOf -/
def cvo (cv : Nat → Nat) (r : Nat) : Nat := if 1 ≤ r ∧ r ≤ 4 then cv r else 0
theorem n25g (r : Nat) (hd : 1 ≤ d) (h2 : r < 2 ^ 30) : XM l 25 d 0 0 [.ref 80, .int (nI r)] (cw L xs g tc tf bl bf of oc ol on ml mx mb kc kh kr ka gl gx gb ls lq lk lg lh vf vs vb ((fun z1 => nI ((cv) z1))) ((fun z1 z2 => nI ((vp) z1 z2))) ((fun z1 => nI ((cr) z1))) ((fun z1 z2 => nI ((rp) z1 z2))) ne io sp ch wt xf xz xt xb (nI ps.length)) (xm_is (some (.int (nI (cvo cv r)))) (cw L xs g tc tf bl bf of oc ol on ml mx mb kc kh kr ka gl gx gb ls lq lk lg lh vf vs vb ((fun z1 => nI ((cv) z1))) ((fun z1 z2 => nI ((vp) z1 z2))) ((fun z1 => nI ((cr) z1))) ((fun z1 z2 => nI ((rp) z1 z2))) ne io sp ch wt xf xz xt xb (nI ps.length))) := by
  by_cases h : 1 ≤ r ∧ r ≤ 4
  · rw [cvo, if_pos h]
    exact n25 r hd h.1 h.2
  · rw [cvo, if_neg h]
    exact n25o r hd (by omega) h2
/-- the entries that are not r, from i on, m of them, to place k on -/
def ulN (r : Nat) : Nat → Nat → Nat → (Nat → Nat) → (Nat → Nat) × Nat
  | 0, _, k, q => (q, k)
  | m + 1, i, k, q => if q i = r then ulN r m (i + 1) k q else ulN r m (i + 1) (k + 1) (updn q k (q i))
theorem ulN_le (r : Nat) : ∀ m i k q, (ulN r m i k q).2 ≤ k + m := by
  intro m
  induction m with
  | zero => intro i k q; exact Nat.le_refl _
  | succ m ih =>
    intro i k q
    unfold ulN
    split
    · have := ih (i + 1) k q; omega
    · have := ih (i + 1) (k + 1) (updn q k (q i)); omega
theorem n130_loop (r : Nat) (he : e < 6) (hc : cr e ≤ 2) (hr : r < 2 ^ 20) (hrp : ∀ e i, rp e i < 2 ^ 20) : ∀ (m i k : Nat) (q : Nat → Nat), i + m = cr e → k ≤ i → (∀ j, q j < 2 ^ 20) → XW l 130 d 0 0 5 [some (.ref 80), some (.int (nI e)), some (.int (nI r)), some (.int (nI k)), some (.int (nI i))] [] (cw L xs g tc tf bl bf of oc ol on ml mx mb kc kh kr ka gl gx gb ls lq lk lg lh vf vs vb ((fun z1 => nI ((cv) z1))) ((fun z1 z2 => nI ((vp) z1 z2))) ((fun z1 => nI ((cr) z1))) ((fun z1 z2 => nI ((updfn rp e q) z1 z2))) ne io sp ch wt xf xz xt xb (nI ps.length)) (xm_is none (cw L xs g tc tf bl bf of oc ol on ml mx mb kc kh kr ka gl gx gb ls lq lk lg lh vf vs vb ((fun z1 => nI ((cv) z1))) ((fun z1 z2 => nI ((vp) z1 z2))) ((fun z1 => nI ((updn cr e (ulN r m i k q).2) z1))) ((fun z1 z2 => nI ((updfn rp e (ulN r m i k q).1) z1 z2))) ne io sp ch wt xf xz xt xb (nI ps.length))) := by
  intro m
  induction m with
  | zero =>
    intro i k q hi hk hq
    iterate 4 refine x_step rfl ?_
    refine x_ialdN (e) rfl rfl rfl (by omega) ?_
    refine x_icmpN_ge (i) (cr e) rfl rfl rfl (fun _ => ?_) (fun q => False.elim (by omega))
    iterate 4 refine x_step rfl ?_
    refine x_iastN (e) rfl rfl rfl (by omega) ?_
    exact x_ret rfl rfl ⟨rfl, by rw [← upd_nI]; rfl⟩
  | succ m ih =>
    intro i k q hi hk hq
    have hqi := hq i
    iterate 4 refine x_step rfl ?_
    refine x_ialdN (e) rfl rfl rfl (by omega) ?_
    refine x_icmpN_ge (i) (cr e) rfl rfl rfl (fun q => False.elim (by omega)) (fun _ => ?_)
    iterate 3 refine x_step rfl ?_
    refine x_aaldN (e) rfl rfl rfl (by omega) rfl ?_
    refine x_step rfl ?_
    refine x_ialdN (i) rfl (cw_nq he) rfl (by omega) ?_
    refine x_step rfl ?_
    refine x_icmpN_eq (q i) (r) rfl (by rw [updfn_same]) rfl (fun h => ?_) (fun h => ?_)
    · rw [ulN, if_pos h]
      iterate 2 refine x_step rfl ?_
      refine xm_ls (pl' := [some (.ref 80), some (.int (nI e)), some (.int (nI r)), some (.int (nI k)), some (.int (nI (i + 1)))]) (by rw [nI_succ] <;> rfl) ?_
      exact ih (i + 1) k q (by omega) (by omega) hq
    · rw [ulN, if_neg h]
      iterate 3 refine x_step rfl ?_
      refine x_aaldN (e) rfl rfl rfl (by omega) rfl ?_
      iterate 4 refine x_step rfl ?_
      refine x_aaldN (e) rfl rfl rfl (by omega) rfl ?_
      refine x_step rfl ?_
      refine x_ialdN (i) rfl (cw_nq he) rfl (by omega) ?_
      refine x_iastN (k) rfl (cw_nq he) rfl (by omega) ?_ (ha := (by show 32 ≤ 90 + e; omega))
      iterate 3 refine x_step rfl ?_
      refine xm_ls (pl' := [some (.ref 80), some (.int (nI e)), some (.int (nI r)), some (.int (nI (k + 1))), some (.int (nI (i + 1)))]) (by rw [nI_succ, nI_succ] <;> rfl) ?_
      refine xm_hs (hp' := (cw L xs g tc tf bl bf of oc ol on ml mx mb kc kh kr ka gl gx gb ls lq lk lg lh vf vs vb ((fun z1 => nI ((cv) z1))) ((fun z1 z2 => nI ((vp) z1 z2))) ((fun z1 => nI ((cr) z1))) ((fun z1 z2 => nI ((updfn rp e (updn q k (q i))) z1 z2))) ne io sp ch wt xf xz xt xb (nI ps.length))) (by rw [cw_setnq he, updfn_same, upd_nI, updf_nI, updfn_updfn]) ?_
      exact ih (i + 1) (k + 1) (updn q k (q i)) (by omega) (by omega) (fun j => by unfold updn; split <;> exact hq _)
/-- Links.unlink -/
theorem n130 (r : Nat) (he : e < 6) (hc : cr e ≤ 2) (hr : r < 2 ^ 20) (hrp : ∀ e i, rp e i < 2 ^ 20) : XM l 130 d 0 0 [.ref 80, .int (nI e), .int (nI r)] (cw L xs g tc tf bl bf of oc ol on ml mx mb kc kh kr ka gl gx gb ls lq lk lg lh vf vs vb ((fun z1 => nI ((cv) z1))) ((fun z1 z2 => nI ((vp) z1 z2))) ((fun z1 => nI ((cr) z1))) ((fun z1 z2 => nI ((rp) z1 z2))) ne io sp ch wt xf xz xt xb (nI ps.length)) (xm_is none (cw L xs g tc tf bl bf of oc ol on ml mx mb kc kh kr ka gl gx gb ls lq lk lg lh vf vs vb ((fun z1 => nI ((cv) z1))) ((fun z1 z2 => nI ((vp) z1 z2))) ((fun z1 => nI ((updn cr e (ulN r (cr e) 0 0 (rp e)).2) z1))) ((fun z1 z2 => nI ((updfn rp e (ulN r (cr e) 0 0 (rp e)).1) z1 z2))) ne io sp ch wt xf xz xt xb (nI ps.length))) := by
  refine XE (pl := [some (.ref 80), some (.int (nI e)), some (.int (nI r)), none, none]) xg130 rfl ?_
  iterate 4 refine x_step rfl ?_
  refine xm_ls (pl' := [some (.ref 80), some (.int (nI e)), some (.int (nI r)), some (.int (nI 0)), some (.int (nI 0))]) rfl ?_
  refine xm_hs (hp' := (cw L xs g tc tf bl bf of oc ol on ml mx mb kc kh kr ka gl gx gb ls lq lk lg lh vf vs vb ((fun z1 => nI ((cv) z1))) ((fun z1 z2 => nI ((vp) z1 z2))) ((fun z1 => nI ((cr) z1))) ((fun z1 z2 => nI ((updfn rp e (rp e)) z1 z2))) ne io sp ch wt xf xz xt xb (nI ps.length))) (by rw [updfn_id] <;> rfl) ?_
  exact n130_loop r he hc hr hrp (cr e) 0 0 (rp e) (by omega) (by omega) (hrp e)
abbrev lS : Type := (Nat → Nat) × (Nat → Nat → Nat)
def ulE (r : Nat) (s : lS) (e : Nat) : lS := (updn s.1 e (ulN r (s.1 e) 0 0 (s.2 e)).2, updfn s.2 e (ulN r (s.1 e) 0 0 (s.2 e)).1)
/-- r is taken out of events e, e + 1 .., m of them -/
def ulA (r : Nat) : Nat → Nat → lS → lS
  | 0, _, s => s
  | m + 1, e, s => ulA r m (e + 1) (ulE r s e)
theorem ulN_lt (r : Nat) : ∀ m i k q, (∀ j, q j < 2 ^ 20) → ∀ j, (ulN r m i k q).1 j < 2 ^ 20 := by
  intro m
  induction m with
  | zero => intro i k q h; exact h
  | succ m ih =>
    intro i k q h
    unfold ulN
    split
    · exact ih (i + 1) k q h
    · exact ih (i + 1) (k + 1) _ (fun j => by unfold updn; split <;> exact h _)
theorem ulE_ok {r : Nat} {s : lS} (h1 : ∀ e, s.1 e ≤ 2) (h2 : ∀ e i, s.2 e i < 2 ^ 20) (e : Nat) : (∀ x, (ulE r s e).1 x ≤ 2) ∧ ∀ x i, (ulE r s e).2 x i < 2 ^ 20 := by
  refine ⟨fun x => ?_, fun x i => ?_⟩
  · show updn s.1 e _ x ≤ 2
    unfold updn
    split
    · have := ulN_le r (s.1 e) 0 0 (s.2 e)
      have := h1 e
      omega
    · exact h1 x
  · show updfn s.2 e _ x i < 2 ^ 20
    unfold updfn
    split
    · exact ulN_lt r _ 0 0 _ (h2 e) i
    · exact h2 x i
theorem ulA_ok {r : Nat} : ∀ (m e : Nat) {s : lS}, (∀ e, s.1 e ≤ 2) → (∀ e i, s.2 e i < 2 ^ 20) → (∀ x, (ulA r m e s).1 x ≤ 2) ∧ ∀ x i, (ulA r m e s).2 x i < 2 ^ 20 := by
  intro m
  induction m with
  | zero => intro e s h1 h2; exact ⟨h1, h2⟩
  | succ m ih =>
    intro e s h1 h2
    have h := ulE_ok (r := r) h1 h2 e
    exact ih (e + 1) h.1 h.2
theorem n129_loop (r : Nat) (hd : 1 ≤ d) (hr : r < 2 ^ 20) : ∀ (m e : Nat) (s : lS), e + m = 6 → (∀ e, s.1 e ≤ 2) → (∀ e i, s.2 e i < 2 ^ 20) → XW l 129 d 0 0 17 [some (.ref 80), some (.int (nI r)), some (.int (nI e))] [] (cw L xs g tc tf bl bf of oc ol on ml mx mb kc kh kr ka gl gx gb ls lq lk lg lh vf vs vb ((fun z1 => nI ((cv) z1))) ((fun z1 z2 => nI ((vp) z1 z2))) ((fun z1 => nI (((s).1) z1))) ((fun z1 z2 => nI (((s).2) z1 z2))) ne io sp ch wt xf xz xt xb (nI ps.length)) (xm_is none (cw L xs g tc tf bl bf of oc ol on ml mx mb kc kh kr ka gl gx gb ls lq lk lg lh vf vs vb ((fun z1 => nI ((cv) z1))) ((fun z1 z2 => nI ((vp) z1 z2))) ((fun z1 => nI (((ulA r m e s).1) z1))) ((fun z1 z2 => nI (((ulA r m e s).2) z1 z2))) ne io sp ch wt xf xz xt xb (nI ps.length))) := by
  intro m
  induction m with
  | zero =>
    intro e s he h1 h2
    iterate 2 refine x_step rfl ?_
    refine x_icmpN_gt (e) (5) rfl rfl rfl (fun _ => ?_) (fun q => False.elim (by omega))
    exact x_ret rfl rfl ⟨rfl, rfl⟩
  | succ m ih =>
    intro e s he h1 h2
    have h9 := ulE_ok (r := r) h1 h2 e
    iterate 2 refine x_step rfl ?_
    refine x_icmpN_gt (e) (5) rfl rfl rfl (fun q => False.elim (by omega)) (fun _ => ?_)
    iterate 3 refine x_step rfl ?_
    refine x_callvE rfl (n130 (d := 0) r (by omega) (h1 e) hr h2) rfl rfl rfl ?_
    iterate 2 refine x_step rfl ?_
    refine xm_ls (pl' := [some (.ref 80), some (.int (nI r)), some (.int (nI (e + 1)))]) (by rw [nI_succ] <;> rfl) ?_
    exact ih (e + 1) (ulE r s e) (by omega) h9.1 h9.2
/-- a report goes -/
def cvZ (cv : Nat → Nat) (r : Nat) : Nat → Nat := if 1 ≤ r ∧ r ≤ 4 then updn cv r 0 else cv
def ulR (r : Nat) (s : lS) : lS := if 1 ≤ r ∧ r ≤ 4 then ulA r 5 1 s else s
theorem ulR_ok {r : Nat} {s : lS} (h1 : ∀ e, s.1 e ≤ 2) (h2 : ∀ e i, s.2 e i < 2 ^ 20) : (∀ x, (ulR r s).1 x ≤ 2) ∧ ∀ x i, (ulR r s).2 x i < 2 ^ 20 := by
  unfold ulR
  split
  · exact ulA_ok 5 1 h1 h2
  · exact ⟨h1, h2⟩
/-- Links.removeReport -/
theorem n129 (r : Nat) (s : lS) (hd : 1 ≤ d) (hr : r < 2 ^ 20) (h1 : ∀ e, s.1 e ≤ 2) (h2 : ∀ e i, s.2 e i < 2 ^ 20) : XM l 129 d 0 0 [.ref 80, .int (nI r)] (cw L xs g tc tf bl bf of oc ol on ml mx mb kc kh kr ka gl gx gb ls lq lk lg lh vf vs vb ((fun z1 => nI ((cv) z1))) ((fun z1 z2 => nI ((vp) z1 z2))) ((fun z1 => nI (((s).1) z1))) ((fun z1 z2 => nI (((s).2) z1 z2))) ne io sp ch wt xf xz xt xb (nI ps.length)) (xm_is none (cw L xs g tc tf bl bf of oc ol on ml mx mb kc kh kr ka gl gx gb ls lq lk lg lh vf vs vb ((fun z1 => nI ((cvZ cv r) z1))) ((fun z1 z2 => nI ((vp) z1 z2))) ((fun z1 => nI (((ulR r s).1) z1))) ((fun z1 z2 => nI (((ulR r s).2) z1 z2))) ne io sp ch wt xf xz xt xb (nI ps.length))) := by
  refine XE (pl := [some (.ref 80), some (.int (nI r)), none]) xg129 rfl ?_
  refine x_step rfl ?_
  refine x_callsE rfl ((r26 (d := 0) (nI r)).xm) rfl rfl ?_
  refine x_if_ne rfl (fun h => ?_) (fun h => ?_)
  · have hr4 : 1 ≤ r ∧ r ≤ 4 := ⟨Nat.not_lt.mp fun z => h (xrp_z (Or.inl z) (by omega)), Nat.not_lt.mp fun z => h (xrp_z (Or.inr z) (by omega))⟩
    rw [ulR, cvZ, if_pos hr4, if_pos hr4]
    iterate 4 refine x_step rfl ?_
    refine x_iastN (r) rfl rfl rfl (by omega) ?_
    iterate 2 refine x_step rfl ?_
    refine xm_ls (pl' := [some (.ref 80), some (.int (nI r)), some (.int (nI 1))]) rfl ?_
    refine xm_hs (hp' := (cw L xs g tc tf bl bf of oc ol on ml mx mb kc kh kr ka gl gx gb ls lq lk lg lh vf vs vb ((fun z1 => nI ((updn cv r 0) z1))) ((fun z1 z2 => nI ((vp) z1 z2))) ((fun z1 => nI (((s).1) z1))) ((fun z1 z2 => nI (((s).2) z1 z2))) ne io sp ch wt xf xz xt xb (nI ps.length))) (by rw [← upd_nI] <;> rfl) ?_
    exact n129_loop (cv := updn cv r 0) r hd hr 5 1 s (by omega) h1 h2
  · have hr4 : ¬ (1 ≤ r ∧ r ≤ 4) := fun z => xrp_ne z.1 z.2 h
    exact x_ret rfl rfl ⟨rfl, by rw [ulR, cvZ, if_neg hr4, if_neg hr4]⟩
def rmA : Nat → Nat → (Nat → Nat) × lS → (Nat → Nat) × lS
  | 0, _, s => s
  | m + 1, r, s => rmA m (r + 1) (cvZ s.1 r, ulR r s.2)
theorem rmA_ok : ∀ (m r : Nat) {s : (Nat → Nat) × lS}, (∀ e, s.2.1 e ≤ 2) → (∀ e i, s.2.2 e i < 2 ^ 20) → (∀ x, (rmA m r s).2.1 x ≤ 2) ∧ ∀ x i, (rmA m r s).2.2 x i < 2 ^ 20 := by
  intro m
  induction m with
  | zero => intro r s h1 h2; exact ⟨h1, h2⟩
  | succ m ih =>
    intro r s h1 h2
    have h := ulR_ok (r := r) h1 h2
    exact ih (r + 1) h.1 h.2
theorem n128_loop (hd : 2 ≤ d) : ∀ (m r : Nat) (s : (Nat → Nat) × lS), r + m = 5 → (∀ e, s.2.1 e ≤ 2) → (∀ e i, s.2.2 e i < 2 ^ 20) → XW l 128 d 0 0 2 [some (.ref 80), some (.int (nI r))] [] (cw L xs g tc tf bl bf of oc ol on ml mx mb kc kh kr ka gl gx gb ls lq lk lg lh vf vs vb ((fun z1 => nI (((s).1) z1))) ((fun z1 z2 => nI ((vp) z1 z2))) ((fun z1 => nI (((s).2.1) z1))) ((fun z1 z2 => nI (((s).2.2) z1 z2))) ne io sp ch wt xf xz xt xb (nI ps.length)) (xm_is none (cw L xs g tc tf bl bf of oc ol on ml mx mb kc kh kr ka gl gx gb ls lq lk lg lh vf vs vb ((fun z1 => nI (((rmA m r s).1) z1))) ((fun z1 z2 => nI ((vp) z1 z2))) ((fun z1 => nI (((rmA m r s).2.1) z1))) ((fun z1 z2 => nI (((rmA m r s).2.2) z1 z2))) ne io sp ch wt xf xz xt xb (nI ps.length))) := by
  intro m
  induction m with
  | zero =>
    intro r s he h1 h2
    iterate 2 refine x_step rfl ?_
    refine x_icmpN_gt (r) (4) rfl rfl rfl (fun _ => ?_) (fun q => False.elim (by omega))
    exact x_ret rfl rfl ⟨rfl, rfl⟩
  | succ m ih =>
    intro r s he h1 h2
    have h9 := ulR_ok (r := r) h1 h2
    iterate 2 refine x_step rfl ?_
    refine x_icmpN_gt (r) (4) rfl rfl rfl (fun q => False.elim (by omega)) (fun _ => ?_)
    iterate 2 refine x_step rfl ?_
    refine x_callvE rfl (n129 (cv := s.1) (d := 1) r s.2 (by omega) (by omega) h1 h2) rfl rfl rfl ?_
    iterate 2 refine x_step rfl ?_
    refine xm_ls (pl' := [some (.ref 80), some (.int (nI (r + 1)))]) (by rw [nI_succ] <;> rfl) ?_
    exact ih (r + 1) (cvZ s.1 r, ulR r s.2) (by omega) h9.1 h9.2
/-- Links.removeAllReports -/
theorem n128 (s : (Nat → Nat) × lS) (hd : 2 ≤ d) (h1 : ∀ e, s.2.1 e ≤ 2) (h2 : ∀ e i, s.2.2 e i < 2 ^ 20) : XM l 128 d 0 0 [.ref 80] (cw L xs g tc tf bl bf of oc ol on ml mx mb kc kh kr ka gl gx gb ls lq lk lg lh vf vs vb ((fun z1 => nI (((s).1) z1))) ((fun z1 z2 => nI ((vp) z1 z2))) ((fun z1 => nI (((s).2.1) z1))) ((fun z1 z2 => nI (((s).2.2) z1 z2))) ne io sp ch wt xf xz xt xb (nI ps.length)) (xm_is none (cw L xs g tc tf bl bf of oc ol on ml mx mb kc kh kr ka gl gx gb ls lq lk lg lh vf vs vb ((fun z1 => nI (((rmA 4 1 s).1) z1))) ((fun z1 z2 => nI ((vp) z1 z2))) ((fun z1 => nI (((rmA 4 1 s).2.1) z1))) ((fun z1 z2 => nI (((rmA 4 1 s).2.2) z1 z2))) ne io sp ch wt xf xz xt xb (nI ps.length))) := by
  refine XE (pl := [some (.ref 80), none]) xg128 rfl ?_
  iterate 2 refine x_step rfl ?_
  refine xm_ls (pl' := [some (.ref 80), some (.int (nI 1))]) rfl ?_
  exact n128_loop hd 4 1 s (by omega) h1 h2
/-- reports and links: counts of variables, variables, links -/
abbrev dS : Type := (Nat → Nat) × (Nat → Nat → Nat) × lS
def dOne (β : Nat → Nat) (ps : List (Nat × Nat)) (s : dS) (r i : Nat) : dS := if pS β ps i = 0 then (cvZ s.1 r, s.2.1, ulR r s.2.2) else if 1 ≤ r ∧ r ≤ 4 then (updn s.1 r (min (pS β ps i) 3), updfn s.2.1 r (ncp (s.2.1 r) (fun k => pY β ps (i + 1 + k) 0) (min (pS β ps i) 3)), s.2.2) else s
def dAll (β : Nat → Nat) (ps : List (Nat × Nat)) : Nat → Nat → dS → dS
  | 0, _, s => s
  | m + 1, p, s => dAll β ps m (pB ps p) (dOne β ps s (pY β ps (p + 1) 0) (p + 2))
def dOk (s : dS) : Prop := (∀ e, s.2.2.1 e ≤ 2) ∧ ∀ e i, s.2.2.2 e i < 2 ^ 20
theorem dOne_ok {s : dS} (h : dOk s) (r i : Nat) : dOk (dOne β ps s r i) := by
  unfold dOne
  split
  · exact ulR_ok h.1 h.2
  · split
    · exact h
    · exact h
theorem n131_loop (hg : ∀ i, i < 130 → gb i = nI (β i)) (hβ : ∀ i, β i < 256) (hA : itA β xf xz xt xb 0 ps) (hV : itV β ps) (r i n : Nat) (hd : 3 ≤ d) (h1 : 1 ≤ r) (h4 : r ≤ 4) (hi : i < 2 ^ 20) (hn : n ≤ 3) : ∀ (m k : Nat), k + m = n → XW l 131 d 0 0 40 [some (.ref 80), some (.ref 98), some (.int (nI r)), some (.int (nI i)), some (.int (nI k))] [] (cw L xs g tc tf bl bf of oc ol on ml mx mb kc kh kr ka gl gx gb ls lq lk lg lh vf vs vb ((fun z1 => nI ((updn cv r n) z1))) ((fun z1 z2 => nI ((updfn vp r (ncp (vp r) (fun k => pY β ps (i + 1 + k) 0) k)) z1 z2))) ((fun z1 => nI ((cr) z1))) ((fun z1 z2 => nI ((rp) z1 z2))) ne io sp ch wt xf xz xt xb (nI ps.length)) (xm_is none (cw L xs g tc tf bl bf of oc ol on ml mx mb kc kh kr ka gl gx gb ls lq lk lg lh vf vs vb ((fun z1 => nI ((updn cv r n) z1))) ((fun z1 z2 => nI ((updfn vp r (ncp (vp r) (fun k => pY β ps (i + 1 + k) 0) n)) z1 z2))) ((fun z1 => nI ((cr) z1))) ((fun z1 z2 => nI ((rp) z1 z2))) ne io sp ch wt xf xz xt xb (nI ps.length))) := by
  intro m
  induction m with
  | zero =>
    intro k hk
    obtain rfl : k = n := by omega
    iterate 4 refine x_step rfl ?_
    refine x_ialdN (r) rfl rfl rfl (by omega) ?_
    refine x_icmpN_ge (k) (k) rfl rfl (by rw [updn_same]) (fun _ => ?_) (fun q => False.elim (by omega))
    exact x_ret rfl rfl ⟨rfl, rfl⟩
  | succ m ih =>
    intro k hk
    iterate 4 refine x_step rfl ?_
    refine x_ialdN (r) rfl rfl rfl (by omega) ?_
    refine x_icmpN_ge (k) (n) rfl rfl (by rw [updn_same]) (fun q => False.elim (by omega)) (fun _ => ?_)
    iterate 3 refine x_step rfl ?_
    refine x_aaldN (r) rfl rfl rfl (by omega) rfl ?_
    iterate 7 refine x_step rfl ?_
    refine xm_ss (st' := [.int (nI (i + 1 + k)), .ref 98, .int (nI k), .ref (83 + r)]) (by rw [nI_1, nI_add] <;> rfl) ?_
    refine x_callvE rfl (n112 (d := 2) hg hβ hA hV (i + 1 + k) (by omega) (by omega)) rfl rfl rfl ?_
    refine x_iastN (k) rfl (cw_nw (by omega)) rfl (by omega) ?_ (ha := (by show 32 ≤ 83 + r; omega))
    iterate 2 refine x_step rfl ?_
    refine xm_ls (pl' := [some (.ref 80), some (.ref 98), some (.int (nI r)), some (.int (nI i)), some (.int (nI (k + 1)))]) (by rw [nI_succ] <;> rfl) ?_
    refine xm_hs (hp' := (cw L xs g tc tf bl bf of oc ol on ml mx mb kc kh kr ka gl gx gb ls lq lk lg lh vf vs vb ((fun z1 => nI ((updn cv r n) z1))) ((fun z1 z2 => nI ((updfn vp r (ncp (vp r) (fun k => pY β ps (i + 1 + k) 0) (k + 1))) z1 z2))) ((fun z1 => nI ((cr) z1))) ((fun z1 z2 => nI ((rp) z1 z2))) ne io sp ch wt xf xz xt xb (nI ps.length))) (by rw [cw_setnw (by omega), updfn_same, upd_nI, updf_nI, updfn_updfn] <;> rfl) ?_
    exact ih (k + 1) (by omega)
/-- Links.defineOne -/
theorem n131 (hg : ∀ i, i < 130 → gb i = nI (β i)) (hβ : ∀ i, β i < 256) (hA : itA β xf xz xt xb 0 ps) (hV : itV β ps) (s : dS) (r i : Nat) (hd : 3 ≤ d) (hr : r < 2 ^ 20) (hi : i < 2 ^ 20) (hs : dOk s) : XM l 131 d 0 0 [.ref 80, .ref 98, .int (nI r), .int (nI i)] (cw L xs g tc tf bl bf of oc ol on ml mx mb kc kh kr ka gl gx gb ls lq lk lg lh vf vs vb ((fun z1 => nI (((s).1) z1))) ((fun z1 z2 => nI (((s).2.1) z1 z2))) ((fun z1 => nI (((s).2.2.1) z1))) ((fun z1 z2 => nI (((s).2.2.2) z1 z2))) ne io sp ch wt xf xz xt xb (nI ps.length)) (xm_is none (cw L xs g tc tf bl bf of oc ol on ml mx mb kc kh kr ka gl gx gb ls lq lk lg lh vf vs vb ((fun z1 => nI (((dOne β ps s r i).1) z1))) ((fun z1 z2 => nI (((dOne β ps s r i).2.1) z1 z2))) ((fun z1 => nI (((dOne β ps s r i).2.2.1) z1))) ((fun z1 z2 => nI (((dOne β ps s r i).2.2.2) z1 z2))) ne io sp ch wt xf xz xt xb (nI ps.length))) := by
  refine XE (pl := [some (.ref 80), some (.ref 98), some (.int (nI r)), some (.int (nI i)), none]) xg131 rfl ?_
  have hs2 := pS_lt (ps := ps) hβ i
  iterate 2 refine x_step rfl ?_
  refine x_callvE rfl (n86 (d := 0) hβ hA hV i (by omega)) rfl rfl rfl ?_
  refine x_ifN_ne (pS β ps i) rfl rfl (fun h => ?_) (fun h => ?_)
  · rw [dOne, if_neg h]
    refine x_step rfl ?_
    refine x_callsE rfl ((r26 (d := 0) (nI r)).xm) rfl rfl ?_
    refine x_if_ne rfl (fun h2 => ?_) (fun h2 => ?_)
    · have hr4 : 1 ≤ r ∧ r ≤ 4 := ⟨Nat.not_lt.mp fun z => h2 (xrp_z (Or.inl z) (by omega)), Nat.not_lt.mp fun z => h2 (xrp_z (Or.inr z) (by omega))⟩
      rw [if_pos hr4]
      iterate 5 refine x_step rfl ?_
      refine x_callvE rfl (n86 (d := 0) hβ hA hV i (by omega)) rfl rfl rfl ?_
      refine x_step rfl ?_
      refine x_callsE rfl (n80 (d := 0) (pS β ps i) 3 (by omega) (by decide)) rfl rfl ?_
      refine x_iastN (r) rfl rfl rfl (by omega) ?_
      iterate 2 refine x_step rfl ?_
      refine xm_ls (pl' := [some (.ref 80), some (.ref 98), some (.int (nI r)), some (.int (nI i)), some (.int (nI 0))]) rfl ?_
      refine xm_hs (hp' := (cw L xs g tc tf bl bf of oc ol on ml mx mb kc kh kr ka gl gx gb ls lq lk lg lh vf vs vb ((fun z1 => nI ((updn s.1 r (min (pS β ps i) 3)) z1))) ((fun z1 z2 => nI ((updfn s.2.1 r (ncp (s.2.1 r) (fun k => pY β ps (i + 1 + k) 0) 0)) z1 z2))) ((fun z1 => nI ((s.2.2.1) z1))) ((fun z1 z2 => nI ((s.2.2.2) z1 z2))) ne io sp ch wt xf xz xt xb (nI ps.length))) (by rw [show ncp (s.2.1 r) (fun k => pY β ps (i + 1 + k) 0) 0 = s.2.1 r from rfl, updfn_id, ← upd_nI] <;> rfl) ?_
      exact n131_loop (cv := s.1) (vp := s.2.1) (cr := s.2.2.1) (rp := s.2.2.2) hg hβ hA hV r i (min (pS β ps i) 3) hd hr4.1 hr4.2 hi (Nat.min_le_right _ _) (min (pS β ps i) 3) 0 (by omega)
    · have hr4 : ¬ (1 ≤ r ∧ r ≤ 4) := fun z => xrp_ne z.1 z.2 h2
      exact x_ret rfl rfl ⟨rfl, by rw [if_neg hr4]⟩
  · rw [dOne, if_pos h]
    iterate 2 refine x_step rfl ?_
    refine x_callvE rfl (n129 (cv := s.1) (vp := s.2.1) (d := 1) r s.2.2 (by omega) hr hs.1 hs.2) rfl rfl rfl ?_
    exact x_ret rfl rfl ⟨rfl, rfl⟩
def fvN (β : Nat → Nat) (ps : List (Nat × Nat)) (p : Nat) : Nat → Nat → Nat
  | 0, _ => 0
  | m + 1, k => if 5 < pY β ps (p + 3 + k) 0 then 4 else fvN β ps p m (k + 1)
def fR (β : Nat → Nat) (ps : List (Nat × Nat)) (cv : Nat → Nat) (p : Nat) : Nat := if ¬ (1 ≤ pY β ps (p + 1) 0 ∧ pY β ps (p + 1) 0 ≤ 4) ∨ 3 < pS β ps (p + 2) then 1 else if 0 < pS β ps (p + 2) ∧ 0 < cv (pY β ps (p + 1) 0) then 3 else fvN β ps p (pS β ps (p + 2)) 0
theorem fvN_le (p : Nat) : ∀ m k, fvN β ps p m k ≤ 4 := by
  intro m
  induction m with
  | zero => intro k; exact Nat.zero_le _
  | succ m ih => intro k; unfold fvN; split; exact Nat.le_refl _; exact ih _
theorem fR_le (p : Nat) : fR β ps cv p ≤ 4 := by
  unfold fR
  split
  · decide
  · split
    · decide
    · exact fvN_le p _ _
theorem n127_loop (hg : ∀ i, i < 130 → gb i = nI (β i)) (hβ : ∀ i, β i < 256) (hA : itA β xf xz xt xb 0 ps) (hV : itV β ps) (p : Nat) (hd : 3 ≤ d) (hp : p ≤ 60) (hs : pS β ps (p + 2) ≤ 3) : ∀ (m k : Nat), k + m = pS β ps (p + 2) → XW l 127 d 0 0 50 [some (.ref 80), some (.ref 98), some (.int (nI p)), some (.int (nI (pY β ps (p + 1) 0))), some (.int (nI (pS β ps (p + 2)))), some (.int (nI k))] [] (cw L xs g tc tf bl bf of oc ol on ml mx mb kc kh kr ka gl gx gb ls lq lk lg lh vf vs vb ((fun z1 => nI ((cv) z1))) ((fun z1 z2 => nI ((vp) z1 z2))) ((fun z1 => nI ((cr) z1))) ((fun z1 z2 => nI ((rp) z1 z2))) ne io sp ch wt xf xz xt xb (nI ps.length)) (xm_is (some (.int (nI (fvN β ps p m k)))) (cw L xs g tc tf bl bf of oc ol on ml mx mb kc kh kr ka gl gx gb ls lq lk lg lh vf vs vb ((fun z1 => nI ((cv) z1))) ((fun z1 z2 => nI ((vp) z1 z2))) ((fun z1 => nI ((cr) z1))) ((fun z1 z2 => nI ((rp) z1 z2))) ne io sp ch wt xf xz xt xb (nI ps.length))) := by
  intro m
  induction m with
  | zero =>
    intro k hk
    iterate 2 refine x_step rfl ?_
    refine x_icmpN_ge (k) (pS β ps (p + 2)) rfl rfl rfl (fun _ => ?_) (fun q => False.elim (by omega))
    refine x_step rfl ?_
    exact x_iret rfl rfl rfl ⟨rfl, rfl⟩
  | succ m ih =>
    intro k hk
    have hy := pY_lt (ps := ps) hβ (p + 3 + k) 0
    iterate 2 refine x_step rfl ?_
    refine x_icmpN_ge (k) (pS β ps (p + 2)) rfl rfl rfl (fun q => False.elim (by omega)) (fun _ => ?_)
    iterate 6 refine x_step rfl ?_
    refine xm_ss (st' := [.int (nI (p + 3 + k)), .ref 98]) (by rw [show nI p + 3 = nI (p + 3) from nI_add p 3, nI_add] <;> rfl) ?_
    refine x_callvE rfl (n112 (d := 2) hg hβ hA hV (p + 3 + k) (by omega) (by omega)) rfl rfl rfl ?_
    refine x_callsE rfl ((r29 (d := 0) (nI (pY β ps (p + 3 + k) 0))).xm) rfl rfl ?_
    refine x_if_ne rfl (fun h => ?_) (fun h => ?_)
    · have h6 : pY β ps (p + 3 + k) 0 < 6 := Nat.not_le.mp fun z => h (xvr_z z (by omega))
      rw [fvN, if_neg (by omega)]
      iterate 2 refine x_step rfl ?_
      refine xm_ls (pl' := [some (.ref 80), some (.ref 98), some (.int (nI p)), some (.int (nI (pY β ps (p + 1) 0))), some (.int (nI (pS β ps (p + 2)))), some (.int (nI (k + 1)))]) (by rw [nI_succ] <;> rfl) ?_
      exact ih (k + 1) (by omega)
    · have h6 : ¬ pY β ps (p + 3 + k) 0 < 6 := fun z => xvr_ne z h
      refine x_step rfl ?_
      exact x_iret rfl rfl rfl ⟨by rw [fvN, if_pos (by omega)]; rfl, rfl⟩
/-- Links.faultOfReport -/
theorem n127 (hg : ∀ i, i < 130 → gb i = nI (β i)) (hβ : ∀ i, β i < 256) (hA : itA β xf xz xt xb 0 ps) (hV : itV β ps) (p : Nat) (hd : 3 ≤ d) (hp : p ≤ 60) (hcv : ∀ r, cv r < 2 ^ 20) : XM l 127 d 0 0 [.ref 80, .ref 98, .int (nI p)] (cw L xs g tc tf bl bf of oc ol on ml mx mb kc kh kr ka gl gx gb ls lq lk lg lh vf vs vb ((fun z1 => nI ((cv) z1))) ((fun z1 z2 => nI ((vp) z1 z2))) ((fun z1 => nI ((cr) z1))) ((fun z1 z2 => nI ((rp) z1 z2))) ne io sp ch wt xf xz xt xb (nI ps.length)) (xm_is (some (.int (nI (fR β ps cv p)))) (cw L xs g tc tf bl bf of oc ol on ml mx mb kc kh kr ka gl gx gb ls lq lk lg lh vf vs vb ((fun z1 => nI ((cv) z1))) ((fun z1 z2 => nI ((vp) z1 z2))) ((fun z1 => nI ((cr) z1))) ((fun z1 z2 => nI ((rp) z1 z2))) ne io sp ch wt xf xz xt xb (nI ps.length))) := by
  refine XE (pl := [some (.ref 80), some (.ref 98), some (.int (nI p)), none, none, none]) xg127 rfl ?_
  have hy := pY_lt (ps := ps) hβ (p + 1) 0
  have hs2 := pS_lt (ps := ps) hβ (p + 2)
  have hcy := hcv (pY β ps (p + 1) 0)
  iterate 4 refine x_step rfl ?_
  refine xm_ss (st' := [.int (nI (p + 1)), .ref 98]) (by rw [nI_1] <;> rfl) ?_
  refine x_callvE rfl (n112 (d := 2) hg hβ hA hV (p + 1) (by omega) (by omega)) rfl rfl rfl ?_
  iterate 5 refine x_step rfl ?_
  refine xm_ss (st' := [.int (nI (p + 2)), .ref 98]) (by rw [show nI p + 2 = nI (p + 2) from nI_add p 2] <;> rfl) ?_
  refine x_callvE rfl (n86 (d := 0) hβ hA hV (p + 2) (by omega)) rfl rfl rfl ?_
  iterate 2 refine x_step rfl ?_
  refine x_callsE rfl ((r26 (d := 0) (nI (pY β ps (p + 1) 0))).xm) rfl rfl ?_
  refine x_if_eq rfl (fun h1 => ?_) (fun h1 => ?_)
  · have hr4 : ¬ (1 ≤ (pY β ps (p + 1) 0) ∧ (pY β ps (p + 1) 0) ≤ 4) := fun z => xrp_ne z.1 z.2 h1
    refine x_step rfl ?_
    exact x_iret rfl rfl rfl ⟨by rw [fR, if_pos (Or.inl hr4)]; rfl, rfl⟩
  · have hr4 : 1 ≤ (pY β ps (p + 1) 0) ∧ (pY β ps (p + 1) 0) ≤ 4 := ⟨Nat.not_lt.mp fun z => h1 (xrp_z (Or.inl z) (by omega)), Nat.not_lt.mp fun z => h1 (xrp_z (Or.inr z) (by omega))⟩
    iterate 2 refine x_step rfl ?_
    refine x_icmpN_le (pS β ps (p + 2)) (3) rfl rfl rfl (fun h3 => ?_) (fun h3 => ?_)
    · rw [fR, if_neg (by omega)]
      refine x_step rfl ?_
      refine x_ifN_le (pS β ps (p + 2)) rfl rfl (fun h0 => ?_) (fun h0 => ?_)
      · rw [if_neg (by omega)]
        iterate 2 refine x_step rfl ?_
        refine xm_ls (pl' := [some (.ref 80), some (.ref 98), some (.int (nI p)), some (.int (nI (pY β ps (p + 1) 0))), some (.int (nI (pS β ps (p + 2)))), some (.int (nI 0))]) rfl ?_
        exact n127_loop hg hβ hA hV p hd hp h3 (pS β ps (p + 2)) 0 (by omega)
      · iterate 2 refine x_step rfl ?_
        refine x_callvE rfl (n25 (d := 1) (pY β ps (p + 1) 0) (by omega) hr4.1 hr4.2) rfl rfl rfl ?_
        refine x_ifN_le (cv (pY β ps (p + 1) 0)) rfl rfl (fun hv => ?_) (fun hv => ?_)
        · rw [if_neg (by omega)]
          iterate 2 refine x_step rfl ?_
          refine xm_ls (pl' := [some (.ref 80), some (.ref 98), some (.int (nI p)), some (.int (nI (pY β ps (p + 1) 0))), some (.int (nI (pS β ps (p + 2)))), some (.int (nI 0))]) rfl ?_
          exact n127_loop hg hβ hA hV p hd hp h3 (pS β ps (p + 2)) 0 (by omega)
        · refine x_step rfl ?_
          exact x_iret rfl rfl rfl ⟨by rw [if_pos (by omega)]; rfl, rfl⟩
    · refine x_step rfl ?_
      exact x_iret rfl rfl rfl ⟨by rw [fR, if_pos (Or.inr h3)]; rfl, rfl⟩
def fRs (β : Nat → Nat) (ps : List (Nat × Nat)) (cv : Nat → Nat) : Nat → Nat → Nat
  | 0, _ => 0
  | m + 1, p => if fR β ps cv p = 0 then fRs β ps cv m (pB ps p) else fR β ps cv p
theorem n126_fault {Q : Option Value → xm_H → Prop} (hg : ∀ i, i < 130 → gb i = nI (β i)) (hβ : ∀ i, β i < 256) (hA : itA β xf xz xt xb 0 ps) (hV : itV β ps) (hcv : ∀ r, cv r < 2 ^ 20) (hd : 4 ≤ d) (hF : fRs β ps cv (pS β ps 2) 3 ≠ 0 → ∀ f, f = fRs β ps cv (pS β ps 2) 3 → Q (some (.int (nI f))) (cw L xs g tc tf bl bf of oc ol on ml mx mb kc kh kr ka gl gx gb ls lq lk lg lh vf vs vb ((fun z1 => nI ((cv) z1))) ((fun z1 z2 => nI ((vp) z1 z2))) ((fun z1 => nI ((cr) z1))) ((fun z1 z2 => nI ((rp) z1 z2))) ne io sp ch wt xf xz xt xb (nI ps.length))) (hK : fRs β ps cv (pS β ps 2) 3 = 0 → ∀ p i o4, XW l 126 d 0 0 41 [some (.ref 80), some (.ref 98), some (.int (nI p)), some (.int (nI i)), o4] [] (cw L xs g tc tf bl bf of oc ol on ml mx mb kc kh kr ka gl gx gb ls lq lk lg lh vf vs vb ((fun z1 => nI ((cv) z1))) ((fun z1 z2 => nI ((vp) z1 z2))) ((fun z1 => nI ((cr) z1))) ((fun z1 z2 => nI ((rp) z1 z2))) ne io sp ch wt xf xz xt xb (nI ps.length)) Q) : ∀ (m i p : Nat) (o4 : Option Value), i + m = pS β ps 2 → p ≤ 60 → fRs β ps cv m p = fRs β ps cv (pS β ps 2) 3 → XW l 126 d 0 0 4 [some (.ref 80), some (.ref 98), some (.int (nI p)), some (.int (nI i)), o4] [] (cw L xs g tc tf bl bf of oc ol on ml mx mb kc kh kr ka gl gx gb ls lq lk lg lh vf vs vb ((fun z1 => nI ((cv) z1))) ((fun z1 z2 => nI ((vp) z1 z2))) ((fun z1 => nI ((cr) z1))) ((fun z1 z2 => nI ((rp) z1 z2))) ne io sp ch wt xf xz xt xb (nI ps.length)) Q := by
  have hs2 := pS_lt (ps := ps) hβ 2
  intro m
  induction m with
  | zero =>
    intro i p o4 hk hp he
    iterate 3 refine x_step rfl ?_
    refine x_callvE rfl (n86 (d := 0) hβ hA hV 2 (by decide)) rfl rfl rfl ?_
    refine x_icmpN_ge (i) (pS β ps 2) rfl rfl rfl (fun _ => ?_) (fun q => False.elim (by omega))
    exact hK he.symm p i o4
  | succ m ih =>
    intro i p o4 hk hp he
    have hb := Nat.le_trans (pB_le hV p) hV.1
    have hfl := fR_le (β := β) (ps := ps) (cv := cv) p
    iterate 3 refine x_step rfl ?_
    refine x_callvE rfl (n86 (d := 0) hβ hA hV 2 (by decide)) rfl rfl rfl ?_
    refine x_icmpN_ge (i) (pS β ps 2) rfl rfl rfl (fun q => False.elim (by omega)) (fun _ => ?_)
    iterate 3 refine x_step rfl ?_
    refine x_callvE rfl (n127 (d := 3) hg hβ hA hV p (by omega) hp hcv) rfl rfl rfl ?_
    iterate 2 refine x_step rfl ?_
    refine x_ifN_eq (fR β ps cv p) rfl rfl (fun h => ?_) (fun h => ?_)
    · have he2 : fRs β ps cv (m + 1) p = fRs β ps cv (m) (pB ps p) := by rw [fRs, if_pos h]
      iterate 2 refine x_step rfl ?_
      refine x_callvE rfl (n103 (d := 0) hβ hA hV p (by omega)) rfl rfl rfl ?_
      iterate 3 refine x_step rfl ?_
      refine xm_ls (pl' := [some (.ref 80), some (.ref 98), some (.int (nI (pB ps p))), some (.int (nI (i + 1))), some (.int (nI (fR β ps cv p)))]) (by rw [nI_succ] <;> rfl) ?_
      exact ih (i + 1) (pB ps p) _ (by omega) hb (he2.symm.trans he)
    · have he2 : fRs β ps cv (m + 1) p = fR β ps cv p := by rw [fRs, if_neg h]
      refine x_step rfl ?_
      exact x_iret rfl rfl rfl (hF (by rw [← he, he2]; exact h) _ (he2.symm.trans he))
theorem n126_loop (hg : ∀ i, i < 130 → gb i = nI (β i)) (hβ : ∀ i, β i < 256) (hA : itA β xf xz xt xb 0 ps) (hV : itV β ps) (hd : 4 ≤ d) : ∀ (m i p : Nat) (o4 : Option Value) (s : dS), i + m = pS β ps 2 → p ≤ 60 → dOk s → XW l 126 d 0 0 57 [some (.ref 80), some (.ref 98), some (.int (nI p)), some (.int (nI i)), o4] [] (cw L xs g tc tf bl bf of oc ol on ml mx mb kc kh kr ka gl gx gb ls lq lk lg lh vf vs vb ((fun z1 => nI (((s).1) z1))) ((fun z1 z2 => nI (((s).2.1) z1 z2))) ((fun z1 => nI (((s).2.2.1) z1))) ((fun z1 z2 => nI (((s).2.2.2) z1 z2))) ne io sp ch wt xf xz xt xb (nI ps.length)) (xm_is (some (.int 0)) (cw L xs g tc tf bl bf of oc ol on ml mx mb kc kh kr ka gl gx gb ls lq lk lg lh vf vs vb ((fun z1 => nI (((dAll β ps m p s).1) z1))) ((fun z1 z2 => nI (((dAll β ps m p s).2.1) z1 z2))) ((fun z1 => nI (((dAll β ps m p s).2.2.1) z1))) ((fun z1 z2 => nI (((dAll β ps m p s).2.2.2) z1 z2))) ne io sp ch wt xf xz xt xb (nI ps.length))) := by
  have hs2 := pS_lt (ps := ps) hβ 2
  intro m
  induction m with
  | zero =>
    intro i p o4 s hk hp hs
    iterate 3 refine x_step rfl ?_
    refine x_callvE rfl (n86 (d := 0) hβ hA hV 2 (by decide)) rfl rfl rfl ?_
    refine x_icmpN_ge (i) (pS β ps 2) rfl rfl rfl (fun _ => ?_) (fun q => False.elim (by omega))
    refine x_step rfl ?_
    exact x_iret rfl rfl rfl ⟨rfl, rfl⟩
  | succ m ih =>
    intro i p o4 s hk hp hs
    have hb := Nat.le_trans (pB_le hV p) hV.1
    have hy := pY_lt (ps := ps) hβ (p + 1) 0
    iterate 3 refine x_step rfl ?_
    refine x_callvE rfl (n86 (d := 0) hβ hA hV 2 (by decide)) rfl rfl rfl ?_
    refine x_icmpN_ge (i) (pS β ps 2) rfl rfl rfl (fun q => False.elim (by omega)) (fun _ => ?_)
    iterate 6 refine x_step rfl ?_
    refine xm_ss (st' := [.int (nI (p + 1)), .ref 98, .ref 98, .ref 80]) (by rw [nI_1] <;> rfl) ?_
    refine x_callvE rfl (n112 (d := 2) hg hβ hA hV (p + 1) (by omega) (by omega)) rfl rfl rfl ?_
    iterate 3 refine x_step rfl ?_
    refine xm_ss (st' := [.int (nI (p + 2)), .int (nI (pY β ps (p + 1) 0)), .ref 98, .ref 80]) (by rw [show nI p + 2 = nI (p + 2) from nI_add p 2] <;> rfl) ?_
    refine x_callvE rfl (n131 (d := 3) hg hβ hA hV s (pY β ps (p + 1) 0) (p + 2) (by omega) (by omega) (by omega) hs) rfl rfl rfl ?_
    iterate 2 refine x_step rfl ?_
    refine x_callvE rfl (n103 (d := 0) hβ hA hV p (by omega)) rfl rfl rfl ?_
    iterate 3 refine x_step rfl ?_
    refine xm_ls (pl' := [some (.ref 80), some (.ref 98), some (.int (nI (pB ps p))), some (.int (nI (i + 1))), o4]) (by rw [nI_succ] <;> rfl) ?_
    exact ih (i + 1) (pB ps p) o4 (dOne β ps s (pY β ps (p + 1) 0) (p + 2)) (by omega) hb (dOne_ok hs _ _)
def dFin (β : Nat → Nat) (ps : List (Nat × Nat)) (s : dS) : dS := if pS β ps 2 = 0 then ((rmA 4 1 (s.1, s.2.2)).1, s.2.1, (rmA 4 1 (s.1, s.2.2)).2) else dAll β ps (pS β ps 2) 3 s
theorem n126 (hg : ∀ i, i < 130 → gb i = nI (β i)) (hβ : ∀ i, β i < 256) (hA : itA β xf xz xt xb 0 ps) (hV : itV β ps) (s : dS) (hd : 5 ≤ d) (hcv : ∀ r, s.1 r < 2 ^ 20) (hs : dOk s) : XM l 126 d 0 0 [.ref 80, .ref 98] (cw L xs g tc tf bl bf of oc ol on ml mx mb kc kh kr ka gl gx gb ls lq lk lg lh vf vs vb ((fun z1 => nI (((s).1) z1))) ((fun z1 z2 => nI (((s).2.1) z1 z2))) ((fun z1 => nI (((s).2.2.1) z1))) ((fun z1 z2 => nI (((s).2.2.2) z1 z2))) ne io sp ch wt xf xz xt xb (nI ps.length)) (fun v h => (fRs β ps s.1 (pS β ps 2) 3 = 0 ∧ v = some (.int 0) ∧ h = (cw L xs g tc tf bl bf of oc ol on ml mx mb kc kh kr ka gl gx gb ls lq lk lg lh vf vs vb ((fun z1 => nI (((dFin β ps s).1) z1))) ((fun z1 z2 => nI (((dFin β ps s).2.1) z1 z2))) ((fun z1 => nI (((dFin β ps s).2.2.1) z1))) ((fun z1 z2 => nI (((dFin β ps s).2.2.2) z1 z2))) ne io sp ch wt xf xz xt xb (nI ps.length))) ∨ (fRs β ps s.1 (pS β ps 2) 3 ≠ 0 ∧ v = some (.int (nI (fRs β ps s.1 (pS β ps 2) 3))) ∧ h = (cw L xs g tc tf bl bf of oc ol on ml mx mb kc kh kr ka gl gx gb ls lq lk lg lh vf vs vb ((fun z1 => nI (((s).1) z1))) ((fun z1 z2 => nI (((s).2.1) z1 z2))) ((fun z1 => nI (((s).2.2.1) z1))) ((fun z1 z2 => nI (((s).2.2.2) z1 z2))) ne io sp ch wt xf xz xt xb (nI ps.length)))) := by
  have hs2 := pS_lt (ps := ps) hβ 2
  refine XEq (pl := [some (.ref 80), some (.ref 98), none, none, none]) xg126 rfl ?_
  iterate 4 refine x_step rfl ?_
  refine xm_ls (pl' := [some (.ref 80), some (.ref 98), some (.int (nI 3)), some (.int (nI 0)), none]) rfl ?_
  refine n126_fault (cv := s.1) (vp := s.2.1) (cr := s.2.2.1) (rp := s.2.2.2) hg hβ hA hV hcv (by omega) (fun h f hf => Or.inr ⟨h, by rw [hf], rfl⟩) (fun h p i o4 => ?_) (pS β ps 2) 0 3 none (by omega) (by decide) rfl
  iterate 2 refine x_step rfl ?_
  refine x_callvE rfl (n86 (d := 0) hβ hA hV 2 (by decide)) rfl rfl rfl ?_
  refine x_ifN_ne (pS β ps 2) rfl rfl (fun h0 => ?_) (fun h0 => ?_)
  · iterate 4 refine x_step rfl ?_
    refine xm_ls (pl' := [some (.ref 80), some (.ref 98), some (.int (nI 3)), some (.int (nI 0)), o4]) rfl ?_
    refine (n126_loop hg hβ hA hV (by omega) (pS β ps 2) 0 3 o4 s (by omega) (by decide) hs).mono ?_
    rintro v k ⟨rfl, rfl⟩
    exact Or.inl ⟨h, rfl, by rw [dFin, if_neg h0]⟩
  · refine x_step rfl ?_
    refine x_callvE rfl (n128 (vp := s.2.1) (d := 4) (s.1, s.2.2) (by omega) hs.1 hs.2) rfl rfl rfl ?_
    iterate 4 refine x_step rfl ?_
    refine xm_ls (pl' := [some (.ref 80), some (.ref 98), some (.int (nI 3)), some (.int (nI 0)), o4]) rfl ?_
    refine (n126_loop hg hβ hA hV (by omega) (pS β ps 2) 0 3 o4 ((rmA 4 1 (s.1, s.2.2)).1, s.2.1, (rmA 4 1 (s.1, s.2.2)).2) (by omega) (by decide) (rmA_ok 4 1 hs.1 hs.2)).mono ?_
    rintro v k ⟨rfl, rfl⟩
    exact Or.inl ⟨h, rfl, by rw [dFin, if_pos h0, h0]; rfl⟩
end EC9
