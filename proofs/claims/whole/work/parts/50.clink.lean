section EC10
variable {l : Launch} {d L : Nat} {xs : Nat → Int32} {g : xm_H} {tc : Int32} {tf : (Nat → Int32)} {bl : Int32} {bf : (Nat → Int32)} {of : Int32} {oc : Int32} {ol : Int32} {on : Int32} {ml : (Nat → Int32)} {mx : (Nat → Int32)} {mb : (Nat → Nat → Int32)} {kc : Int32} {kh : (Nat → Nat)} {kr : (Nat → Nat → Int32)} {ka : (Nat → Int32)} {gl : Int32} {gx : Int32} {gb : (Nat → Int32)} {ls : Int32} {lq : Int32} {lk : Int32} {lg : Int32} {lh : Int32} {vf : (Nat → Int32)} {vs : (Nat → Int32)} {vb : (Nat → Nat → Int32)} {nv : (Nat → Int32)} {nw : (Nat → Nat → Int32)} {nr : (Nat → Int32)} {nq : (Nat → Nat → Int32)} {ne : (Nat → Int32)} {io : Int32} {sp : Int32} {ch : Int32} {wt : Int32} {xf : (Nat → Int32)} {xz : (Nat → Int32)} {xt : (Nat → Int32)} {xb : (Nat → Int32)} {xc : Int32}
variable {β : Nat → Nat} {e : Nat} {ps : List (Nat × Nat)} {cv cr : Nat → Nat} {vp rp : Nat → Nat → Nat}
/-- the events' part of the state -/
def lkOne (β : Nat → Nat) (ps : List (Nat × Nat)) (s : lS) (e i : Nat) : lS := if 1 ≤ e ∧ e ≤ 5 then (updn s.1 e (min (pS β ps i) 2), updfn s.2 e (ncp (s.2 e) (fun k => pY β ps (i + 1 + k) 0) (min (pS β ps i) 2))) else s
def lkAll (β : Nat → Nat) (ps : List (Nat × Nat)) : Nat → Nat → lS → lS
  | 0, _, s => s
  | m + 1, p, s => lkAll β ps m (pB ps p) (lkOne β ps s (pY β ps (p + 1) 0) (p + 2))
def fnN (β : Nat → Nat) (ps : List (Nat × Nat)) (cv : Nat → Nat) (p : Nat) : Nat → Nat → Nat
  | 0, _ => 0
  | m + 1, k => if cvo cv (pY β ps (p + 3 + k) 0) = 0 then 5 else fnN β ps cv p m (k + 1)
def fL (β : Nat → Nat) (ps : List (Nat × Nat)) (cv : Nat → Nat) (p : Nat) : Nat := if 2 < pS β ps (p + 2) then 1 else if ¬ (1 ≤ pY β ps (p + 1) 0 ∧ pY β ps (p + 1) 0 ≤ 5) then 4 else fnN β ps cv p (pS β ps (p + 2)) 0
theorem fnN_le (p : Nat) : ∀ m k, fnN β ps cv p m k ≤ 5 := by
  intro m
  induction m with
  | zero => intro k; exact Nat.zero_le _
  | succ m ih => intro k; unfold fnN; split; exact Nat.le_refl _; exact ih _
theorem fL_le (p : Nat) : fL β ps cv p ≤ 5 := by
  unfold fL
  split
  · decide
  · split
    · decide
    · exact fnN_le p _ _
def fLs (β : Nat → Nat) (ps : List (Nat × Nat)) (cv : Nat → Nat) : Nat → Nat → Nat
  | 0, _ => 0
  | m + 1, p => if fL β ps cv p = 0 then fLs β ps cv m (pB ps p) else fL β ps cv p
theorem n133_loop (hg : ∀ i, i < 130 → gb i = nI (β i)) (hβ : ∀ i, β i < 256) (hA : itA β xf xz xt xb 0 ps) (hV : itV β ps) (p : Nat) (hd : 3 ≤ d) (hp : p ≤ 60) (hs : pS β ps (p + 2) ≤ 2) (hcv : ∀ r, cv r < 2 ^ 20) : ∀ (m k : Nat), k + m = pS β ps (p + 2) → XW l 133 d 0 0 33 [some (.ref 80), some (.ref 98), some (.int (nI p)), some (.int (nI (pS β ps (p + 2)))), some (.int (nI k))] [] (cw L xs g tc tf bl bf of oc ol on ml mx mb kc kh kr ka gl gx gb ls lq lk lg lh vf vs vb ((fun z1 => nI ((cv) z1))) ((fun z1 z2 => nI ((vp) z1 z2))) ((fun z1 => nI ((cr) z1))) ((fun z1 z2 => nI ((rp) z1 z2))) ne io sp ch wt xf xz xt xb (nI ps.length)) (xm_is (some (.int (nI (fnN β ps cv p m k)))) (cw L xs g tc tf bl bf of oc ol on ml mx mb kc kh kr ka gl gx gb ls lq lk lg lh vf vs vb ((fun z1 => nI ((cv) z1))) ((fun z1 z2 => nI ((vp) z1 z2))) ((fun z1 => nI ((cr) z1))) ((fun z1 z2 => nI ((rp) z1 z2))) ne io sp ch wt xf xz xt xb (nI ps.length))) := by
  intro m
  induction m with
  | zero =>
    intro k hk
    iterate 2 refine x_step rfl ?_
    refine x_icmpN_ge (k) (pS β ps (p + 2)) rfl rfl rfl (fun _ => ?_) (fun q => False.elim (by omega))
    refine x_step rfl ?_
    exact x_iret rfl rfl rfl ⟨rfl, rfl⟩
  | succ m ih =>
    intro k hk
    have hy := pY_lt (ps := ps) hβ (p + 3 + k) 0
    have hcy : cvo cv (pY β ps (p + 3 + k) 0) < 2 ^ 20 := by unfold cvo; split; exact hcv _; decide
    iterate 2 refine x_step rfl ?_
    refine x_icmpN_ge (k) (pS β ps (p + 2)) rfl rfl rfl (fun q => False.elim (by omega)) (fun _ => ?_)
    iterate 7 refine x_step rfl ?_
    refine xm_ss (st' := [.int (nI (p + 3 + k)), .ref 98, .ref 80]) (by rw [show nI p + 3 = nI (p + 3) from nI_add p 3, nI_add] <;> rfl) ?_
    refine x_callvE rfl (n112 (d := 2) hg hβ hA hV (p + 3 + k) (by omega) (by omega)) rfl rfl rfl ?_
    refine x_callvE rfl (n25g (d := 1) (pY β ps (p + 3 + k) 0) (by omega) (by omega)) rfl rfl rfl ?_
    refine x_ifN_ne (cvo cv (pY β ps (p + 3 + k) 0)) rfl rfl (fun h => ?_) (fun h => ?_)
    · rw [fnN, if_neg h]
      iterate 2 refine x_step rfl ?_
      refine xm_ls (pl' := [some (.ref 80), some (.ref 98), some (.int (nI p)), some (.int (nI (pS β ps (p + 2)))), some (.int (nI (k + 1)))]) (by rw [nI_succ] <;> rfl) ?_
      exact ih (k + 1) (by omega)
    · refine x_step rfl ?_
      exact x_iret rfl rfl rfl ⟨by rw [fnN, if_pos h]; rfl, rfl⟩
/-- Links.faultOfLink -/
theorem n133 (hg : ∀ i, i < 130 → gb i = nI (β i)) (hβ : ∀ i, β i < 256) (hA : itA β xf xz xt xb 0 ps) (hV : itV β ps) (p : Nat) (hd : 3 ≤ d) (hp : p ≤ 60) (hcv : ∀ r, cv r < 2 ^ 20) : XM l 133 d 0 0 [.ref 80, .ref 98, .int (nI p)] (cw L xs g tc tf bl bf of oc ol on ml mx mb kc kh kr ka gl gx gb ls lq lk lg lh vf vs vb ((fun z1 => nI ((cv) z1))) ((fun z1 z2 => nI ((vp) z1 z2))) ((fun z1 => nI ((cr) z1))) ((fun z1 z2 => nI ((rp) z1 z2))) ne io sp ch wt xf xz xt xb (nI ps.length)) (xm_is (some (.int (nI (fL β ps cv p)))) (cw L xs g tc tf bl bf of oc ol on ml mx mb kc kh kr ka gl gx gb ls lq lk lg lh vf vs vb ((fun z1 => nI ((cv) z1))) ((fun z1 z2 => nI ((vp) z1 z2))) ((fun z1 => nI ((cr) z1))) ((fun z1 z2 => nI ((rp) z1 z2))) ne io sp ch wt xf xz xt xb (nI ps.length))) := by
  refine XE (pl := [some (.ref 80), some (.ref 98), some (.int (nI p)), none, none]) xg133 rfl ?_
  have hy := pY_lt (ps := ps) hβ (p + 1) 0
  have hs2 := pS_lt (ps := ps) hβ (p + 2)
  iterate 4 refine x_step rfl ?_
  refine xm_ss (st' := [.int (nI (p + 2)), .ref 98]) (by rw [show nI p + 2 = nI (p + 2) from nI_add p 2] <;> rfl) ?_
  refine x_callvE rfl (n86 (d := 0) hβ hA hV (p + 2) (by omega)) rfl rfl rfl ?_
  iterate 3 refine x_step rfl ?_
  refine x_icmpN_le (pS β ps (p + 2)) (2) rfl rfl rfl (fun h3 => ?_) (fun h3 => ?_)
  · rw [fL, if_neg (by omega)]
    iterate 4 refine x_step rfl ?_
    refine xm_ss (st' := [.int (nI (p + 1)), .ref 98]) (by rw [nI_1] <;> rfl) ?_
    refine x_callvE rfl (n112 (d := 2) hg hβ hA hV (p + 1) (by omega) (by omega)) rfl rfl rfl ?_
    refine x_callsE rfl ((r16 (d := 0) (nI (pY β ps (p + 1) 0))).xm) rfl rfl ?_
    refine x_if_ne rfl (fun h1 => ?_) (fun h1 => ?_)
    · have hr4 : 1 ≤ (pY β ps (p + 1) 0) ∧ (pY β ps (p + 1) 0) ≤ 5 := ⟨Nat.not_lt.mp fun z => h1 (xev_z (Or.inl z) (by omega)), Nat.not_lt.mp fun z => h1 (xev_z (Or.inr z) (by omega))⟩
      rw [if_neg (fun z => z hr4)]
      iterate 2 refine x_step rfl ?_
      refine xm_ls (pl' := [some (.ref 80), some (.ref 98), some (.int (nI p)), some (.int (nI (pS β ps (p + 2)))), some (.int (nI 0))]) rfl ?_
      exact n133_loop hg hβ hA hV p hd hp h3 hcv (pS β ps (p + 2)) 0 (by omega)
    · have hr4 : ¬ (1 ≤ (pY β ps (p + 1) 0) ∧ (pY β ps (p + 1) 0) ≤ 5) := fun z => xev_ne z.1 z.2 h1
      refine x_step rfl ?_
      exact x_iret rfl rfl rfl ⟨by rw [if_pos hr4]; rfl, rfl⟩
  · refine x_step rfl ?_
    exact x_iret rfl rfl rfl ⟨by rw [fL, if_pos h3]; rfl, rfl⟩
theorem n134_loop (hg : ∀ i, i < 130 → gb i = nI (β i)) (hβ : ∀ i, β i < 256) (hA : itA β xf xz xt xb 0 ps) (hV : itV β ps) (e i n : Nat) (hd : 3 ≤ d) (h1 : 1 ≤ e) (h5 : e ≤ 5) (hi : i < 2 ^ 20) (hn : n ≤ 2) : ∀ (m k : Nat), k + m = n → XW l 134 d 0 0 26 [some (.ref 80), some (.ref 98), some (.int (nI e)), some (.int (nI i)), some (.int (nI k))] [] (cw L xs g tc tf bl bf of oc ol on ml mx mb kc kh kr ka gl gx gb ls lq lk lg lh vf vs vb ((fun z1 => nI ((cv) z1))) ((fun z1 z2 => nI ((vp) z1 z2))) ((fun z1 => nI ((updn cr e n) z1))) ((fun z1 z2 => nI ((updfn rp e (ncp (rp e) (fun k => pY β ps (i + 1 + k) 0) k)) z1 z2))) ne io sp ch wt xf xz xt xb (nI ps.length)) (xm_is none (cw L xs g tc tf bl bf of oc ol on ml mx mb kc kh kr ka gl gx gb ls lq lk lg lh vf vs vb ((fun z1 => nI ((cv) z1))) ((fun z1 z2 => nI ((vp) z1 z2))) ((fun z1 => nI ((updn cr e n) z1))) ((fun z1 z2 => nI ((updfn rp e (ncp (rp e) (fun k => pY β ps (i + 1 + k) 0) n)) z1 z2))) ne io sp ch wt xf xz xt xb (nI ps.length))) := by
  intro m
  induction m with
  | zero =>
    intro k hk
    obtain rfl : k = n := by omega
    iterate 4 refine x_step rfl ?_
    refine x_ialdN (e) rfl rfl rfl (by omega) ?_
    refine x_icmpN_ge (k) (k) rfl rfl (by rw [updn_same]) (fun _ => ?_) (fun q => False.elim (by omega))
    exact x_ret rfl rfl ⟨rfl, rfl⟩
  | succ m ih =>
    intro k hk
    iterate 4 refine x_step rfl ?_
    refine x_ialdN (e) rfl rfl rfl (by omega) ?_
    refine x_icmpN_ge (k) (n) rfl rfl (by rw [updn_same]) (fun q => False.elim (by omega)) (fun _ => ?_)
    iterate 3 refine x_step rfl ?_
    refine x_aaldN (e) rfl rfl rfl (by omega) rfl ?_
    iterate 7 refine x_step rfl ?_
    refine xm_ss (st' := [.int (nI (i + 1 + k)), .ref 98, .int (nI k), .ref (90 + e)]) (by rw [nI_1, nI_add] <;> rfl) ?_
    refine x_callvE rfl (n112 (d := 2) hg hβ hA hV (i + 1 + k) (by omega) (by omega)) rfl rfl rfl ?_
    refine x_iastN (k) rfl (cw_nq (by omega)) rfl (by omega) ?_ (ha := (by show 32 ≤ 90 + e; omega))
    iterate 2 refine x_step rfl ?_
    refine xm_ls (pl' := [some (.ref 80), some (.ref 98), some (.int (nI e)), some (.int (nI i)), some (.int (nI (k + 1)))]) (by rw [nI_succ] <;> rfl) ?_
    refine xm_hs (hp' := (cw L xs g tc tf bl bf of oc ol on ml mx mb kc kh kr ka gl gx gb ls lq lk lg lh vf vs vb ((fun z1 => nI ((cv) z1))) ((fun z1 z2 => nI ((vp) z1 z2))) ((fun z1 => nI ((updn cr e n) z1))) ((fun z1 z2 => nI ((updfn rp e (ncp (rp e) (fun k => pY β ps (i + 1 + k) 0) (k + 1))) z1 z2))) ne io sp ch wt xf xz xt xb (nI ps.length))) (by rw [cw_setnq (by omega), updfn_same, upd_nI, updf_nI, updfn_updfn] <;> rfl) ?_
    exact ih (k + 1) (by omega)
/-- Links.linkOne -/
theorem n134 (hg : ∀ i, i < 130 → gb i = nI (β i)) (hβ : ∀ i, β i < 256) (hA : itA β xf xz xt xb 0 ps) (hV : itV β ps) (s : lS) (e i : Nat) (hd : 3 ≤ d) (he : e < 2 ^ 20) (hi : i < 2 ^ 20) : XM l 134 d 0 0 [.ref 80, .ref 98, .int (nI e), .int (nI i)] (cw L xs g tc tf bl bf of oc ol on ml mx mb kc kh kr ka gl gx gb ls lq lk lg lh vf vs vb ((fun z1 => nI ((cv) z1))) ((fun z1 z2 => nI ((vp) z1 z2))) ((fun z1 => nI (((s).1) z1))) ((fun z1 z2 => nI (((s).2) z1 z2))) ne io sp ch wt xf xz xt xb (nI ps.length)) (xm_is none (cw L xs g tc tf bl bf of oc ol on ml mx mb kc kh kr ka gl gx gb ls lq lk lg lh vf vs vb ((fun z1 => nI ((cv) z1))) ((fun z1 z2 => nI ((vp) z1 z2))) ((fun z1 => nI (((lkOne β ps s e i).1) z1))) ((fun z1 z2 => nI (((lkOne β ps s e i).2) z1 z2))) ne io sp ch wt xf xz xt xb (nI ps.length))) := by
  refine XE (pl := [some (.ref 80), some (.ref 98), some (.int (nI e)), some (.int (nI i)), none]) xg134 rfl ?_
  have hs2 := pS_lt (ps := ps) hβ i
  refine x_step rfl ?_
  refine x_callsE rfl ((r16 (d := 0) (nI e)).xm) rfl rfl ?_
  refine x_if_ne rfl (fun h2 => ?_) (fun h2 => ?_)
  · have hr4 : 1 ≤ e ∧ e ≤ 5 := ⟨Nat.not_lt.mp fun z => h2 (xev_z (Or.inl z) (by omega)), Nat.not_lt.mp fun z => h2 (xev_z (Or.inr z) (by omega))⟩
    rw [lkOne, if_pos hr4]
    iterate 5 refine x_step rfl ?_
    refine x_callvE rfl (n86 (d := 0) hβ hA hV i (by omega)) rfl rfl rfl ?_
    refine x_step rfl ?_
    refine x_callsE rfl (n80 (d := 0) (pS β ps i) 2 (by omega) (by decide)) rfl rfl ?_
    refine x_iastN (e) rfl rfl rfl (by omega) ?_
    iterate 2 refine x_step rfl ?_
    refine xm_ls (pl' := [some (.ref 80), some (.ref 98), some (.int (nI e)), some (.int (nI i)), some (.int (nI 0))]) rfl ?_
    refine xm_hs (hp' := (cw L xs g tc tf bl bf of oc ol on ml mx mb kc kh kr ka gl gx gb ls lq lk lg lh vf vs vb ((fun z1 => nI ((cv) z1))) ((fun z1 z2 => nI ((vp) z1 z2))) ((fun z1 => nI ((updn s.1 e (min (pS β ps i) 2)) z1))) ((fun z1 z2 => nI ((updfn s.2 e (ncp (s.2 e) (fun k => pY β ps (i + 1 + k) 0) 0)) z1 z2))) ne io sp ch wt xf xz xt xb (nI ps.length))) (by rw [show ncp (s.2 e) (fun k => pY β ps (i + 1 + k) 0) 0 = s.2 e from rfl, updfn_id, ← upd_nI] <;> rfl) ?_
    exact n134_loop (cr := s.1) (rp := s.2) hg hβ hA hV e i (min (pS β ps i) 2) hd hr4.1 hr4.2 hi (Nat.min_le_right _ _) (min (pS β ps i) 2) 0 (by omega)
  · have hr4 : ¬ (1 ≤ e ∧ e ≤ 5) := fun z => xev_ne z.1 z.2 h2
    exact x_ret rfl rfl ⟨rfl, by rw [lkOne, if_neg hr4]⟩
theorem n132_fault {Q : Option Value → xm_H → Prop} (hg : ∀ i, i < 130 → gb i = nI (β i)) (hβ : ∀ i, β i < 256) (hA : itA β xf xz xt xb 0 ps) (hV : itV β ps) (hcv : ∀ r, cv r < 2 ^ 20) (hd : 4 ≤ d) (hF : fLs β ps cv (pS β ps 2) 3 ≠ 0 → ∀ f, f = fLs β ps cv (pS β ps 2) 3 → Q (some (.int (nI f))) (cw L xs g tc tf bl bf of oc ol on ml mx mb kc kh kr ka gl gx gb ls lq lk lg lh vf vs vb ((fun z1 => nI ((cv) z1))) ((fun z1 z2 => nI ((vp) z1 z2))) ((fun z1 => nI ((cr) z1))) ((fun z1 z2 => nI ((rp) z1 z2))) ne io sp ch wt xf xz xt xb (nI ps.length))) (hK : fLs β ps cv (pS β ps 2) 3 = 0 → ∀ p i o4, XW l 132 d 0 0 41 [some (.ref 80), some (.ref 98), some (.int (nI p)), some (.int (nI i)), o4] [] (cw L xs g tc tf bl bf of oc ol on ml mx mb kc kh kr ka gl gx gb ls lq lk lg lh vf vs vb ((fun z1 => nI ((cv) z1))) ((fun z1 z2 => nI ((vp) z1 z2))) ((fun z1 => nI ((cr) z1))) ((fun z1 z2 => nI ((rp) z1 z2))) ne io sp ch wt xf xz xt xb (nI ps.length)) Q) : ∀ (m i p : Nat) (o4 : Option Value), i + m = pS β ps 2 → p ≤ 60 → fLs β ps cv m p = fLs β ps cv (pS β ps 2) 3 → XW l 132 d 0 0 4 [some (.ref 80), some (.ref 98), some (.int (nI p)), some (.int (nI i)), o4] [] (cw L xs g tc tf bl bf of oc ol on ml mx mb kc kh kr ka gl gx gb ls lq lk lg lh vf vs vb ((fun z1 => nI ((cv) z1))) ((fun z1 z2 => nI ((vp) z1 z2))) ((fun z1 => nI ((cr) z1))) ((fun z1 z2 => nI ((rp) z1 z2))) ne io sp ch wt xf xz xt xb (nI ps.length)) Q := by
  have hs2 := pS_lt (ps := ps) hβ 2
  intro m
  induction m with
  | zero =>
    intro i p o4 hk hp he
    iterate 3 refine x_step rfl ?_
    refine x_callvE rfl (n86 (d := 0) hβ hA hV 2 (by decide)) rfl rfl rfl ?_
    refine x_icmpN_ge (i) (pS β ps 2) rfl rfl rfl (fun _ => ?_) (fun q => False.elim (by omega))
    exact hK he.symm p i o4
  | succ m ih =>
    intro i p o4 hk hp he
    have hb := Nat.le_trans (pB_le hV p) hV.1
    have hfl := fL_le (β := β) (ps := ps) (cv := cv) p
    iterate 3 refine x_step rfl ?_
    refine x_callvE rfl (n86 (d := 0) hβ hA hV 2 (by decide)) rfl rfl rfl ?_
    refine x_icmpN_ge (i) (pS β ps 2) rfl rfl rfl (fun q => False.elim (by omega)) (fun _ => ?_)
    iterate 3 refine x_step rfl ?_
    refine x_callvE rfl (n133 (d := 3) hg hβ hA hV p (by omega) hp hcv) rfl rfl rfl ?_
    iterate 2 refine x_step rfl ?_
    refine x_ifN_eq (fL β ps cv p) rfl rfl (fun h => ?_) (fun h => ?_)
    · have he2 : fLs β ps cv (m + 1) p = fLs β ps cv (m) (pB ps p) := by rw [fLs, if_pos h]
      iterate 2 refine x_step rfl ?_
      refine x_callvE rfl (n103 (d := 0) hβ hA hV p (by omega)) rfl rfl rfl ?_
      iterate 3 refine x_step rfl ?_
      refine xm_ls (pl' := [some (.ref 80), some (.ref 98), some (.int (nI (pB ps p))), some (.int (nI (i + 1))), some (.int (nI (fL β ps cv p)))]) (by rw [nI_succ] <;> rfl) ?_
      exact ih (i + 1) (pB ps p) _ (by omega) hb (he2.symm.trans he)
    · have he2 : fLs β ps cv (m + 1) p = fL β ps cv p := by rw [fLs, if_neg h]
      refine x_step rfl ?_
      exact x_iret rfl rfl rfl (hF (by rw [← he, he2]; exact h) _ (he2.symm.trans he))
theorem n132_loop (hg : ∀ i, i < 130 → gb i = nI (β i)) (hβ : ∀ i, β i < 256) (hA : itA β xf xz xt xb 0 ps) (hV : itV β ps) (hd : 4 ≤ d) : ∀ (m i p : Nat) (o4 : Option Value) (s : lS), i + m = pS β ps 2 → p ≤ 60 → XW l 132 d 0 0 45 [some (.ref 80), some (.ref 98), some (.int (nI p)), some (.int (nI i)), o4] [] (cw L xs g tc tf bl bf of oc ol on ml mx mb kc kh kr ka gl gx gb ls lq lk lg lh vf vs vb ((fun z1 => nI ((cv) z1))) ((fun z1 z2 => nI ((vp) z1 z2))) ((fun z1 => nI (((s).1) z1))) ((fun z1 z2 => nI (((s).2) z1 z2))) ne io sp ch wt xf xz xt xb (nI ps.length)) (xm_is (some (.int 0)) (cw L xs g tc tf bl bf of oc ol on ml mx mb kc kh kr ka gl gx gb ls lq lk lg lh vf vs vb ((fun z1 => nI ((cv) z1))) ((fun z1 z2 => nI ((vp) z1 z2))) ((fun z1 => nI (((lkAll β ps m p s).1) z1))) ((fun z1 z2 => nI (((lkAll β ps m p s).2) z1 z2))) ne io sp ch wt xf xz xt xb (nI ps.length))) := by
  have hs2 := pS_lt (ps := ps) hβ 2
  intro m
  induction m with
  | zero =>
    intro i p o4 s hk hp
    iterate 3 refine x_step rfl ?_
    refine x_callvE rfl (n86 (d := 0) hβ hA hV 2 (by decide)) rfl rfl rfl ?_
    refine x_icmpN_ge (i) (pS β ps 2) rfl rfl rfl (fun _ => ?_) (fun q => False.elim (by omega))
    refine x_step rfl ?_
    exact x_iret rfl rfl rfl ⟨rfl, rfl⟩
  | succ m ih =>
    intro i p o4 s hk hp
    have hb := Nat.le_trans (pB_le hV p) hV.1
    have hy := pY_lt (ps := ps) hβ (p + 1) 0
    iterate 3 refine x_step rfl ?_
    refine x_callvE rfl (n86 (d := 0) hβ hA hV 2 (by decide)) rfl rfl rfl ?_
    refine x_icmpN_ge (i) (pS β ps 2) rfl rfl rfl (fun q => False.elim (by omega)) (fun _ => ?_)
    iterate 6 refine x_step rfl ?_
    refine xm_ss (st' := [.int (nI (p + 1)), .ref 98, .ref 98, .ref 80]) (by rw [nI_1] <;> rfl) ?_
    refine x_callvE rfl (n112 (d := 2) hg hβ hA hV (p + 1) (by omega) (by omega)) rfl rfl rfl ?_
    iterate 3 refine x_step rfl ?_
    refine xm_ss (st' := [.int (nI (p + 2)), .int (nI (pY β ps (p + 1) 0)), .ref 98, .ref 80]) (by rw [show nI p + 2 = nI (p + 2) from nI_add p 2] <;> rfl) ?_
    refine x_callvE rfl (n134 (d := 3) hg hβ hA hV s (pY β ps (p + 1) 0) (p + 2) (by omega) (by omega) (by omega)) rfl rfl rfl ?_
    iterate 2 refine x_step rfl ?_
    refine x_callvE rfl (n103 (d := 0) hβ hA hV p (by omega)) rfl rfl rfl ?_
    iterate 3 refine x_step rfl ?_
    refine xm_ls (pl' := [some (.ref 80), some (.ref 98), some (.int (nI (pB ps p))), some (.int (nI (i + 1))), o4]) (by rw [nI_succ] <;> rfl) ?_
    exact ih (i + 1) (pB ps p) o4 (lkOne β ps s (pY β ps (p + 1) 0) (p + 2)) (by omega) hb
theorem n132 (hg : ∀ i, i < 130 → gb i = nI (β i)) (hβ : ∀ i, β i < 256) (hA : itA β xf xz xt xb 0 ps) (hV : itV β ps) (s : lS) (hd : 5 ≤ d) (hcv : ∀ r, cv r < 2 ^ 20) : XM l 132 d 0 0 [.ref 80, .ref 98] (cw L xs g tc tf bl bf of oc ol on ml mx mb kc kh kr ka gl gx gb ls lq lk lg lh vf vs vb ((fun z1 => nI ((cv) z1))) ((fun z1 z2 => nI ((vp) z1 z2))) ((fun z1 => nI (((s).1) z1))) ((fun z1 z2 => nI (((s).2) z1 z2))) ne io sp ch wt xf xz xt xb (nI ps.length)) (fun v h => (fLs β ps cv (pS β ps 2) 3 = 0 ∧ v = some (.int 0) ∧ h = (cw L xs g tc tf bl bf of oc ol on ml mx mb kc kh kr ka gl gx gb ls lq lk lg lh vf vs vb ((fun z1 => nI ((cv) z1))) ((fun z1 z2 => nI ((vp) z1 z2))) ((fun z1 => nI (((lkAll β ps (pS β ps 2) 3 s).1) z1))) ((fun z1 z2 => nI (((lkAll β ps (pS β ps 2) 3 s).2) z1 z2))) ne io sp ch wt xf xz xt xb (nI ps.length))) ∨ (fLs β ps cv (pS β ps 2) 3 ≠ 0 ∧ v = some (.int (nI (fLs β ps cv (pS β ps 2) 3))) ∧ h = (cw L xs g tc tf bl bf of oc ol on ml mx mb kc kh kr ka gl gx gb ls lq lk lg lh vf vs vb ((fun z1 => nI ((cv) z1))) ((fun z1 z2 => nI ((vp) z1 z2))) ((fun z1 => nI (((s).1) z1))) ((fun z1 z2 => nI (((s).2) z1 z2))) ne io sp ch wt xf xz xt xb (nI ps.length)))) := by
  have hs2 := pS_lt (ps := ps) hβ 2
  refine XEq (pl := [some (.ref 80), some (.ref 98), none, none, none]) xg132 rfl ?_
  iterate 4 refine x_step rfl ?_
  refine xm_ls (pl' := [some (.ref 80), some (.ref 98), some (.int (nI 3)), some (.int (nI 0)), none]) rfl ?_
  refine n132_fault (cr := s.1) (rp := s.2) hg hβ hA hV hcv (by omega) (fun h f hf => Or.inr ⟨h, by rw [hf], rfl⟩) (fun h p i o4 => ?_) (pS β ps 2) 0 3 none (by omega) (by decide) rfl
  iterate 4 refine x_step rfl ?_
  refine xm_ls (pl' := [some (.ref 80), some (.ref 98), some (.int (nI 3)), some (.int (nI 0)), o4]) rfl ?_
  refine (n132_loop hg hβ hA hV (by omega) (pS β ps 2) 0 3 o4 s (by omega) (by decide)).mono ?_
  rintro v k ⟨rfl, rfl⟩
  exact Or.inl ⟨h, rfl, rfl⟩
def fEs (β : Nat → Nat) (ps : List (Nat × Nat)) : Nat → Nat → Bool
  | 0, _ => true
  | m + 1, k => (decide (1 ≤ pY β ps (3 + k) 0) && decide (pY β ps (3 + k) 0 ≤ 5)) && fEs β ps m (k + 1)
def enOne (ne : Nat → Int32) (e : Nat) (ob : Bool) : Nat → Int32 := if 1 ≤ e ∧ e ≤ 5 then upd ne e (bI ob) else ne
def enAll (β : Nat → Nat) (ps : List (Nat × Nat)) (ob : Bool) : Nat → Nat → (Nat → Int32) → Nat → Int32
  | 0, _, ne => ne
  | m + 1, k, ne => enAll β ps ob m (k + 1) (enOne ne (pY β ps (3 + k) 0) ob)
def enFive (ne : Nat → Int32) (ob : Bool) : Nat → Int32 := upd (upd (upd (upd (upd ne 1 (bI ob)) 2 (bI ob)) 3 (bI ob)) 4 (bI ob)) 5 (bI ob)
theorem bI_and (b : Bool) : bI b &&& 1 = bI b := by cases b <;> decide
/-- Links.enableOne -/
theorem n136 (e : Nat) (ob : Bool) (he : e < 2 ^ 20) (hd : 1 ≤ d) : XM l 136 d 0 0 [.ref 80, .int (nI e), .int (bI ob)] (cw L xs g tc tf bl bf of oc ol on ml mx mb kc kh kr ka gl gx gb ls lq lk lg lh vf vs vb nv nw nr nq ne io sp ch wt xf xz xt xb xc) (xm_is none (cw L xs g tc tf bl bf of oc ol on ml mx mb kc kh kr ka gl gx gb ls lq lk lg lh vf vs vb nv nw nr nq (enOne ne e ob) io sp ch wt xf xz xt xb xc)) := by
  refine XE (pl := [some (.ref 80), some (.int (nI e)), some (.int (bI ob))]) xg136 rfl ?_
  refine x_step rfl ?_
  refine x_callsE rfl ((r16 (d := 0) (nI e)).xm) rfl rfl ?_
  refine x_if_eq rfl (fun h => ?_) (fun h => ?_)
  · have hr4 : ¬ (1 ≤ e ∧ e ≤ 5) := fun z => xev_ne z.1 z.2 h
    exact x_ret rfl rfl ⟨rfl, by rw [enOne, if_neg hr4]⟩
  · have hr4 : 1 ≤ e ∧ e ≤ 5 := ⟨Nat.not_lt.mp fun z => h (xev_z (Or.inl z) (by omega)), Nat.not_lt.mp fun z => h (xev_z (Or.inr z) (by omega))⟩
    iterate 4 refine x_step rfl ?_
    refine x_zastN (e) rfl rfl rfl (by omega) (bI_and ob) ?_
    exact x_ret rfl rfl ⟨rfl, by rw [enOne, if_pos hr4]; rfl⟩
/-- Links.enableAll -/
theorem n137 (ob : Bool) : XM l 137 d 0 0 [.ref 80, .int (bI ob)] (cw L xs g tc tf bl bf of oc ol on ml mx mb kc kh kr ka gl gx gb ls lq lk lg lh vf vs vb nv nw nr nq ne io sp ch wt xf xz xt xb xc) (xm_is none (cw L xs g tc tf bl bf of oc ol on ml mx mb kc kh kr ka gl gx gb ls lq lk lg lh vf vs vb nv nw nr nq (enFive ne ob) io sp ch wt xf xz xt xb xc)) := by
  refine XE (pl := [some (.ref 80), some (.int (bI ob)), none]) xg137 rfl ?_
  iterate 2 refine x_step rfl ?_
  refine xm_ls (pl' := [some (.ref 80), some (.int (bI ob)), some (.int 1)]) rfl ?_
  iterate 2 refine x_step rfl ?_
  refine x_icmp_gt rfl (fun q => absurd q (by decide)) (fun _ => ?_)
  iterate 4 refine x_step rfl ?_
  refine x_zastN (1) rfl rfl rfl (by decide) (bI_and ob) ?_
  iterate 2 refine x_step rfl ?_
  refine xm_ls (pl' := [some (.ref 80), some (.int (bI ob)), some (.int 2)]) rfl ?_
  iterate 2 refine x_step rfl ?_
  refine x_icmp_gt rfl (fun q => absurd q (by decide)) (fun _ => ?_)
  iterate 4 refine x_step rfl ?_
  refine x_zastN (2) rfl rfl rfl (by decide) (bI_and ob) ?_
  iterate 2 refine x_step rfl ?_
  refine xm_ls (pl' := [some (.ref 80), some (.int (bI ob)), some (.int 3)]) rfl ?_
  iterate 2 refine x_step rfl ?_
  refine x_icmp_gt rfl (fun q => absurd q (by decide)) (fun _ => ?_)
  iterate 4 refine x_step rfl ?_
  refine x_zastN (3) rfl rfl rfl (by decide) (bI_and ob) ?_
  iterate 2 refine x_step rfl ?_
  refine xm_ls (pl' := [some (.ref 80), some (.int (bI ob)), some (.int 4)]) rfl ?_
  iterate 2 refine x_step rfl ?_
  refine x_icmp_gt rfl (fun q => absurd q (by decide)) (fun _ => ?_)
  iterate 4 refine x_step rfl ?_
  refine x_zastN (4) rfl rfl rfl (by decide) (bI_and ob) ?_
  iterate 2 refine x_step rfl ?_
  refine xm_ls (pl' := [some (.ref 80), some (.int (bI ob)), some (.int 5)]) rfl ?_
  iterate 2 refine x_step rfl ?_
  refine x_icmp_gt rfl (fun q => absurd q (by decide)) (fun _ => ?_)
  iterate 4 refine x_step rfl ?_
  refine x_zastN (5) rfl rfl rfl (by decide) (bI_and ob) ?_
  iterate 2 refine x_step rfl ?_
  refine xm_ls (pl' := [some (.ref 80), some (.int (bI ob)), some (.int 6)]) rfl ?_
  iterate 2 refine x_step rfl ?_
  refine x_icmp_gt rfl (fun _ => ?_) (fun q => absurd (by decide) q)
  exact x_ret rfl rfl ⟨rfl, rfl⟩
theorem n135_chk {Q : Option Value → xm_H → Prop} (hg : ∀ i, i < 130 → gb i = nI (β i)) (hβ : ∀ i, β i < 256) (hA : itA β xf xz xt xb 0 ps) (hV : itV β ps) (hd : 3 ≤ d) (hF : fEs β ps (pS β ps 2) 0 = false → Q (some (.int 1)) (cw L xs g tc tf bl bf of oc ol on ml mx mb kc kh kr ka gl gx gb ls lq lk lg lh vf vs vb nv nw nr nq ne io sp ch wt xf xz xt xb (nI ps.length))) (hK : fEs β ps (pS β ps 2) 0 = true → ∀ o3, XW l 135 d 0 0 34 [some (.ref 80), some (.ref 98), some (.int (nI (pS β ps 2))), o3, none] [] (cw L xs g tc tf bl bf of oc ol on ml mx mb kc kh kr ka gl gx gb ls lq lk lg lh vf vs vb nv nw nr nq ne io sp ch wt xf xz xt xb (nI ps.length)) Q) : ∀ (m k : Nat), k + m = pS β ps 2 → fEs β ps m k = fEs β ps (pS β ps 2) 0 → XW l 135 d 0 0 8 [some (.ref 80), some (.ref 98), some (.int (nI (pS β ps 2))), some (.int (nI k)), none] [] (cw L xs g tc tf bl bf of oc ol on ml mx mb kc kh kr ka gl gx gb ls lq lk lg lh vf vs vb nv nw nr nq ne io sp ch wt xf xz xt xb (nI ps.length)) Q := by
  have hs2 := pS_lt (ps := ps) hβ 2
  intro m
  induction m with
  | zero =>
    intro k hk he
    iterate 2 refine x_step rfl ?_
    refine x_icmpN_ge (k) (pS β ps 2) rfl rfl rfl (fun _ => ?_) (fun q => False.elim (by omega))
    exact hK he.symm _
  | succ m ih =>
    intro k hk he
    have hy := pY_lt (ps := ps) hβ (3 + k) 0
    iterate 2 refine x_step rfl ?_
    refine x_icmpN_ge (k) (pS β ps 2) rfl rfl rfl (fun q => False.elim (by omega)) (fun _ => ?_)
    iterate 4 refine x_step rfl ?_
    refine xm_ss (st' := [.int (nI (3 + k)), .ref 98]) (by rw [show (3 : Int32) + nI k = nI (3 + k) from nI_add 3 k] <;> rfl) ?_
    refine x_callvE rfl (n112 (d := 2) hg hβ hA hV (3 + k) (by omega) (by omega)) rfl rfl rfl ?_
    refine x_callsE rfl ((r16 (d := 0) (nI (pY β ps (3 + k) 0))).xm) rfl rfl ?_
    refine x_if_ne rfl (fun h => ?_) (fun h => ?_)
    · have hr4 : 1 ≤ (pY β ps (3 + k) 0) ∧ (pY β ps (3 + k) 0) ≤ 5 := ⟨Nat.not_lt.mp fun z => h (xev_z (Or.inl z) (by omega)), Nat.not_lt.mp fun z => h (xev_z (Or.inr z) (by omega))⟩
      have he2 : fEs β ps (m + 1) k = fEs β ps m (k + 1) := by rw [fEs, decide_eq_true hr4.1, decide_eq_true hr4.2]; rfl
      iterate 2 refine x_step rfl ?_
      refine xm_ls (pl' := [some (.ref 80), some (.ref 98), some (.int (nI (pS β ps 2))), some (.int (nI (k + 1))), none]) (by rw [nI_succ] <;> rfl) ?_
      exact ih (k + 1) (by omega) (he2.symm.trans he)
    · have hr4 : ¬ (1 ≤ (pY β ps (3 + k) 0) ∧ (pY β ps (3 + k) 0) ≤ 5) := fun z => xev_ne z.1 z.2 h
      have he2 : fEs β ps (m + 1) k = false := by rw [fEs, show (decide (1 ≤ pY β ps (3 + k) 0) && decide (pY β ps (3 + k) 0 ≤ 5)) = false from by simpa using (by omega : 1 ≤ pY β ps (3 + k) 0 → 5 < pY β ps (3 + k) 0)]; rfl
      refine x_step rfl ?_
      exact x_iret rfl rfl rfl (hF (he.symm.trans he2))
theorem n135_set (hg : ∀ i, i < 130 → gb i = nI (β i)) (hβ : ∀ i, β i < 256) (hA : itA β xf xz xt xb 0 ps) (hV : itV β ps) (ob : Bool) (hd : 3 ≤ d) : ∀ (m k : Nat) (ne : Nat → Int32), k + m = pS β ps 2 → XW l 135 d 0 0 52 [some (.ref 80), some (.ref 98), some (.int (nI (pS β ps 2))), some (.int (bI ob)), some (.int (nI k))] [] (cw L xs g tc tf bl bf of oc ol on ml mx mb kc kh kr ka gl gx gb ls lq lk lg lh vf vs vb nv nw nr nq ne io sp ch wt xf xz xt xb (nI ps.length)) (xm_is (some (.int 0)) (cw L xs g tc tf bl bf of oc ol on ml mx mb kc kh kr ka gl gx gb ls lq lk lg lh vf vs vb nv nw nr nq (if pS β ps 2 = 0 then enFive (enAll β ps ob m k ne) ob else enAll β ps ob m k ne) io sp ch wt xf xz xt xb (nI ps.length))) := by
  have hs2 := pS_lt (ps := ps) hβ 2
  intro m
  induction m with
  | zero =>
    intro k ne hk
    iterate 2 refine x_step rfl ?_
    refine x_icmpN_ge (k) (pS β ps 2) rfl rfl rfl (fun _ => ?_) (fun q => False.elim (by omega))
    refine x_step rfl ?_
    refine x_ifN_ne (pS β ps 2) rfl rfl (fun h => ?_) (fun h => ?_)
    · refine x_step rfl ?_
      exact x_iret rfl rfl rfl ⟨rfl, by rw [if_neg h]; rfl⟩
    · iterate 2 refine x_step rfl ?_
      refine x_callvE rfl (n137 (d := 0) ob) rfl rfl rfl ?_
      refine x_step rfl ?_
      exact x_iret rfl rfl rfl ⟨rfl, by rw [if_pos h]; rfl⟩
  | succ m ih =>
    intro k ne hk
    have hy := pY_lt (ps := ps) hβ (3 + k) 0
    iterate 2 refine x_step rfl ?_
    refine x_icmpN_ge (k) (pS β ps 2) rfl rfl rfl (fun q => False.elim (by omega)) (fun _ => ?_)
    iterate 5 refine x_step rfl ?_
    refine xm_ss (st' := [.int (nI (3 + k)), .ref 98, .ref 80]) (by rw [show (3 : Int32) + nI k = nI (3 + k) from nI_add 3 k] <;> rfl) ?_
    refine x_callvE rfl (n112 (d := 2) hg hβ hA hV (3 + k) (by omega) (by omega)) rfl rfl rfl ?_
    refine x_step rfl ?_
    refine x_callvE rfl (n136 (d := 1) (pY β ps (3 + k) 0) ob (by omega) (by omega)) rfl rfl rfl ?_
    iterate 2 refine x_step rfl ?_
    refine xm_ls (pl' := [some (.ref 80), some (.ref 98), some (.int (nI (pS β ps 2))), some (.int (bI ob)), some (.int (nI (k + 1)))]) (by rw [nI_succ] <;> rfl) ?_
    exact ih (k + 1) (enOne ne (pY β ps (3 + k) 0) ob) (by omega)
theorem n135 (hg : ∀ i, i < 130 → gb i = nI (β i)) (hβ : ∀ i, β i < 256) (hA : itA β xf xz xt xb 0 ps) (hV : itV β ps) (hd : 4 ≤ d) : XM l 135 d 0 0 [.ref 80, .ref 98] (cw L xs g tc tf bl bf of oc ol on ml mx mb kc kh kr ka gl gx gb ls lq lk lg lh vf vs vb nv nw nr nq ne io sp ch wt xf xz xt xb (nI ps.length)) (fun v h => (fEs β ps (pS β ps 2) 0 = true ∧ v = some (.int 0) ∧ h = (cw L xs g tc tf bl bf of oc ol on ml mx mb kc kh kr ka gl gx gb ls lq lk lg lh vf vs vb nv nw nr nq (if pS β ps 2 = 0 then enFive ne (!(pY β ps 1 0 == 0)) else enAll β ps (!(pY β ps 1 0 == 0)) (pS β ps 2) 0 ne) io sp ch wt xf xz xt xb (nI ps.length))) ∨ (fEs β ps (pS β ps 2) 0 = false ∧ v = some (.int 1) ∧ h = (cw L xs g tc tf bl bf of oc ol on ml mx mb kc kh kr ka gl gx gb ls lq lk lg lh vf vs vb nv nw nr nq ne io sp ch wt xf xz xt xb (nI ps.length)))) := by
  have hs2 := pS_lt (ps := ps) hβ 2
  have hy1 := pY_lt (ps := ps) hβ 1 0
  refine XEq (pl := [some (.ref 80), some (.ref 98), none, none, none]) xg135 rfl ?_
  iterate 2 refine x_step rfl ?_
  refine x_callvE rfl (n86 (d := 0) hβ hA hV 2 (by decide)) rfl rfl rfl ?_
  iterate 3 refine x_step rfl ?_
  refine xm_ls (pl' := [some (.ref 80), some (.ref 98), some (.int (nI (pS β ps 2))), some (.int (nI 0)), none]) rfl ?_
  refine n135_chk hg hβ hA hV (by omega) (fun h => Or.inr ⟨h, rfl, rfl⟩) (fun h o3 => ?_) (pS β ps 2) 0 (by omega) rfl
  iterate 3 refine x_step rfl ?_
  refine x_callvE rfl (n88 (d := 1) hg hβ hA hV 1 (by decide) 0 (by decide) (by omega)) rfl rfl rfl ?_
  refine x_ifN_eq (pY β ps 1 0) rfl rfl (fun h0 => ?_) (fun h0 => ?_)
  · iterate 4 refine x_step rfl ?_
    refine xm_ls (pl' := [some (.ref 80), some (.ref 98), some (.int (nI (pS β ps 2))), some (.int (bI false)), some (.int (nI 0))]) rfl ?_
    refine (n135_set hg hβ hA hV false (by omega) (pS β ps 2) 0 ne (by omega)).mono ?_
    rintro v k ⟨rfl, rfl⟩
    refine Or.inl ⟨h, rfl, ?_⟩
    rw [show (!(pY β ps 1 0 == 0)) = false from by rw [h0]; rfl]
    by_cases hz : pS β ps 2 = 0
    · rw [if_pos hz, if_pos hz, hz]; rfl
    exact (by rw [if_neg hz, if_neg hz])
  · iterate 5 refine x_step rfl ?_
    refine xm_ls (pl' := [some (.ref 80), some (.ref 98), some (.int (nI (pS β ps 2))), some (.int (bI true)), some (.int (nI 0))]) rfl ?_
    refine (n135_set hg hβ hA hV true (by omega) (pS β ps 2) 0 ne (by omega)).mono ?_
    rintro v k ⟨rfl, rfl⟩
    refine Or.inl ⟨h, rfl, ?_⟩
    rw [show (!(pY β ps 1 0 == 0)) = true from by simpa using h0]
    by_cases hz : pS β ps 2 = 0
    · rw [if_pos hz, if_pos hz, hz]; rfl
    exact (by rw [if_neg hz, if_neg hz])
/-- Machine.obey -/
theorem n138u (hg : ∀ i, i < 130 → gb i = nI (β i)) (hβ : ∀ i, β i < 256) (hA : itA β xf xz xt xb 0 ps) (hV : itV β ps) (hd : 6 ≤ d) (ha : pTx β ps 1 [83, 84, 65, 82, 84] = false) (hb : pTx β ps 1 [83, 84, 79, 80] = false) (hc : pTx β ps 1 [80, 65, 85, 83, 69] = false) (hd : pTx β ps 1 [71, 79] = false) : XM l 138 d 0 0 [.ref 69, .ref 98] (cw L xs g tc tf bl bf of oc ol on ml mx mb kc kh kr ka gl gx gb ls lq lk lg lh vf vs vb nv nw nr nq ne io sp ch wt xf xz xt xb (nI ps.length)) (xm_is (some (.int 1)) (cw L xs g tc tf bl bf of oc ol on ml mx mb kc kh kr ka gl gx gb ls lq lk lg lh vf vs vb nv nw nr nq ne io sp ch wt xf xz xt xb (nI ps.length))) := by
  refine XE (pl := [some (.ref 69), some (.ref 98), none]) xg138 rfl ?_
  refine x_step rfl ?_
  refine x_callvE rfl ((r139 (d := 1) (by omega)).xm) rfl rfl rfl ?_
  iterate 3 refine x_step rfl ?_
  refine x_ldcS rfl ?_
  refine x_callvE rfl (n141a (d := 5) hg hβ hA hV (by omega)) rfl rfl rfl ?_
  refine x_if_eq rfl (fun _ => ?_) (fun q => absurd (by rw [ha]; rfl) q)
  iterate 2 refine x_step rfl ?_
  refine x_ldcS rfl ?_
  refine x_callvE rfl (n141b (d := 5) hg hβ hA hV (by omega)) rfl rfl rfl ?_
  refine x_if_eq rfl (fun _ => ?_) (fun q => absurd (by rw [hb]; rfl) q)
  iterate 2 refine x_step rfl ?_
  refine x_ldcS rfl ?_
  refine x_callvE rfl (n141c (d := 5) hg hβ hA hV (by omega)) rfl rfl rfl ?_
  refine x_if_eq rfl (fun _ => ?_) (fun q => absurd (by rw [hc]; rfl) q)
  iterate 2 refine x_step rfl ?_
  refine x_ldcS rfl ?_
  refine x_callvE rfl (n141d (d := 5) hg hβ hA hV (by omega)) rfl rfl rfl ?_
  refine x_if_eq rfl (fun _ => ?_) (fun q => absurd (by rw [hd]; rfl) q)
  refine x_step rfl ?_
  exact x_iret rfl rfl rfl ⟨rfl, rfl⟩
/-- Machine.obey -/
theorem n138ay (hg : ∀ i, i < 130 → gb i = nI (β i)) (hβ : ∀ i, β i < 256) (hA : itA β xf xz xt xb 0 ps) (hV : itV β ps) {h9 : xm_H} {dd : Nat} {r : Int32} (hd : 6 ≤ d)  (ha : pTx β ps 1 [83, 84, 65, 82, 84] = true) (hw : vb 1 0 = 0) (hdd : dd < d) (hM : XM l 142 dd 0 0 [.ref 69, .int 1, .int 1, .int 2] (cw L xs g tc tf bl bf of oc ol on ml mx mb kc kh kr ka gl gx gb ls lq lk lg lh vf vs vb nv nw nr nq ne io sp ch wt xf xz xt xb (nI ps.length)) (xm_is (some (.int r)) h9)) : XM l 138 d 0 0 [.ref 69, .ref 98] (cw L xs g tc tf bl bf of oc ol on ml mx mb kc kh kr ka gl gx gb ls lq lk lg lh vf vs vb nv nw nr nq ne io sp ch wt xf xz xt xb (nI ps.length)) (xm_is (some (.int r)) h9) := by
  refine XE (pl := [some (.ref 69), some (.ref 98), none]) xg138 rfl ?_
  refine x_step rfl ?_
  refine x_callvE rfl ((r139 (d := 1) (by omega)).xm) rfl rfl rfl ?_
  iterate 3 refine x_step rfl ?_
  refine x_ldcS rfl ?_
  refine x_callvE rfl (n141a (d := 5) hg hβ hA hV (by omega)) rfl rfl rfl ?_
  refine x_if_eq rfl (fun q => absurd q (by rw [ha]; decide)) (fun _ => ?_)
  iterate 2 refine x_step rfl ?_
  refine x_if_ne rfl (fun q => absurd hw q) (fun _ => ?_)
  iterate 4 refine x_step rfl ?_
  refine x_callvE rfl (hM) rfl rfl rfl ?_
  exact x_iret rfl rfl rfl ⟨rfl, rfl⟩
/-- Machine.obey -/
theorem n138an (hg : ∀ i, i < 130 → gb i = nI (β i)) (hβ : ∀ i, β i < 256) (hA : itA β xf xz xt xb 0 ps) (hV : itV β ps) {h9 : xm_H} {dd : Nat} {r : Int32} (hd : 6 ≤ d)  (ha : pTx β ps 1 [83, 84, 65, 82, 84] = true) (hw : ¬ vb 1 0 = 0) (hdd : dd < d) (hM : XM l 142 dd 0 0 [.ref 69, .int 0, .int 1, .int 2] (cw L xs g tc tf bl bf of oc ol on ml mx mb kc kh kr ka gl gx gb ls lq lk lg lh vf vs vb nv nw nr nq ne io sp ch wt xf xz xt xb (nI ps.length)) (xm_is (some (.int r)) h9)) : XM l 138 d 0 0 [.ref 69, .ref 98] (cw L xs g tc tf bl bf of oc ol on ml mx mb kc kh kr ka gl gx gb ls lq lk lg lh vf vs vb nv nw nr nq ne io sp ch wt xf xz xt xb (nI ps.length)) (xm_is (some (.int r)) h9) := by
  refine XE (pl := [some (.ref 69), some (.ref 98), none]) xg138 rfl ?_
  refine x_step rfl ?_
  refine x_callvE rfl ((r139 (d := 1) (by omega)).xm) rfl rfl rfl ?_
  iterate 3 refine x_step rfl ?_
  refine x_ldcS rfl ?_
  refine x_callvE rfl (n141a (d := 5) hg hβ hA hV (by omega)) rfl rfl rfl ?_
  refine x_if_eq rfl (fun q => absurd q (by rw [ha]; decide)) (fun _ => ?_)
  iterate 2 refine x_step rfl ?_
  refine x_if_ne rfl (fun _ => ?_) (fun q => absurd q hw)
  iterate 3 refine x_step rfl ?_
  refine x_callvE rfl (hM) rfl rfl rfl ?_
  exact x_iret rfl rfl rfl ⟨rfl, rfl⟩
/-- Machine.obey -/
theorem n138by (hg : ∀ i, i < 130 → gb i = nI (β i)) (hβ : ∀ i, β i < 256) (hA : itA β xf xz xt xb 0 ps) (hV : itV β ps) {h9 : xm_H} {dd : Nat} {r : Int32} (hd : 6 ≤ d) (ha : pTx β ps 1 [83, 84, 65, 82, 84] = false) (hb : pTx β ps 1 [83, 84, 79, 80] = true) (hw : ¬ vb 1 0 = 0) (hdd : dd < d) (hM : XM l 142 dd 0 0 [.ref 69, .int 1, .int 0, .int 3] (cw L xs g tc tf bl bf of oc ol on ml mx mb kc kh kr ka gl gx gb ls lq lk lg lh vf vs vb nv nw nr nq ne io sp ch wt xf xz xt xb (nI ps.length)) (xm_is (some (.int r)) h9)) : XM l 138 d 0 0 [.ref 69, .ref 98] (cw L xs g tc tf bl bf of oc ol on ml mx mb kc kh kr ka gl gx gb ls lq lk lg lh vf vs vb nv nw nr nq ne io sp ch wt xf xz xt xb (nI ps.length)) (xm_is (some (.int r)) h9) := by
  refine XE (pl := [some (.ref 69), some (.ref 98), none]) xg138 rfl ?_
  refine x_step rfl ?_
  refine x_callvE rfl ((r139 (d := 1) (by omega)).xm) rfl rfl rfl ?_
  iterate 3 refine x_step rfl ?_
  refine x_ldcS rfl ?_
  refine x_callvE rfl (n141a (d := 5) hg hβ hA hV (by omega)) rfl rfl rfl ?_
  refine x_if_eq rfl (fun _ => ?_) (fun q => absurd (by rw [ha]; rfl) q)
  iterate 2 refine x_step rfl ?_
  refine x_ldcS rfl ?_
  refine x_callvE rfl (n141b (d := 5) hg hβ hA hV (by omega)) rfl rfl rfl ?_
  refine x_if_eq rfl (fun q => absurd q (by rw [hb]; decide)) (fun _ => ?_)
  iterate 2 refine x_step rfl ?_
  refine x_if_eq rfl (fun q => absurd q hw) (fun _ => ?_)
  iterate 4 refine x_step rfl ?_
  refine x_callvE rfl (hM) rfl rfl rfl ?_
  exact x_iret rfl rfl rfl ⟨rfl, rfl⟩
/-- Machine.obey -/
theorem n138bn (hg : ∀ i, i < 130 → gb i = nI (β i)) (hβ : ∀ i, β i < 256) (hA : itA β xf xz xt xb 0 ps) (hV : itV β ps) {h9 : xm_H} {dd : Nat} {r : Int32} (hd : 6 ≤ d) (ha : pTx β ps 1 [83, 84, 65, 82, 84] = false) (hb : pTx β ps 1 [83, 84, 79, 80] = true) (hw : vb 1 0 = 0) (hdd : dd < d) (hM : XM l 142 dd 0 0 [.ref 69, .int 0, .int 0, .int 3] (cw L xs g tc tf bl bf of oc ol on ml mx mb kc kh kr ka gl gx gb ls lq lk lg lh vf vs vb nv nw nr nq ne io sp ch wt xf xz xt xb (nI ps.length)) (xm_is (some (.int r)) h9)) : XM l 138 d 0 0 [.ref 69, .ref 98] (cw L xs g tc tf bl bf of oc ol on ml mx mb kc kh kr ka gl gx gb ls lq lk lg lh vf vs vb nv nw nr nq ne io sp ch wt xf xz xt xb (nI ps.length)) (xm_is (some (.int r)) h9) := by
  refine XE (pl := [some (.ref 69), some (.ref 98), none]) xg138 rfl ?_
  refine x_step rfl ?_
  refine x_callvE rfl ((r139 (d := 1) (by omega)).xm) rfl rfl rfl ?_
  iterate 3 refine x_step rfl ?_
  refine x_ldcS rfl ?_
  refine x_callvE rfl (n141a (d := 5) hg hβ hA hV (by omega)) rfl rfl rfl ?_
  refine x_if_eq rfl (fun _ => ?_) (fun q => absurd (by rw [ha]; rfl) q)
  iterate 2 refine x_step rfl ?_
  refine x_ldcS rfl ?_
  refine x_callvE rfl (n141b (d := 5) hg hβ hA hV (by omega)) rfl rfl rfl ?_
  refine x_if_eq rfl (fun q => absurd q (by rw [hb]; decide)) (fun _ => ?_)
  iterate 2 refine x_step rfl ?_
  refine x_if_eq rfl (fun _ => ?_) (fun q => absurd hw q)
  iterate 3 refine x_step rfl ?_
  refine x_callvE rfl (hM) rfl rfl rfl ?_
  exact x_iret rfl rfl rfl ⟨rfl, rfl⟩
/-- Machine.obey -/
theorem n138cy (hg : ∀ i, i < 130 → gb i = nI (β i)) (hβ : ∀ i, β i < 256) (hA : itA β xf xz xt xb 0 ps) (hV : itV β ps) {h9 : xm_H} {dd : Nat} {r : Int32} (hd : 6 ≤ d) (ha : pTx β ps 1 [83, 84, 65, 82, 84] = false) (hb : pTx β ps 1 [83, 84, 79, 80] = false) (hc : pTx β ps 1 [80, 65, 85, 83, 69] = true) (hw : vb 1 0 = 1) (hdd : dd < d) (hM : XM l 142 dd 0 0 [.ref 69, .int 1, .int 2, .int 4] (cw L xs g tc tf bl bf of oc ol on ml mx mb kc kh kr ka gl gx gb ls lq lk lg lh vf vs vb nv nw nr nq ne io sp ch wt xf xz xt xb (nI ps.length)) (xm_is (some (.int r)) h9)) : XM l 138 d 0 0 [.ref 69, .ref 98] (cw L xs g tc tf bl bf of oc ol on ml mx mb kc kh kr ka gl gx gb ls lq lk lg lh vf vs vb nv nw nr nq ne io sp ch wt xf xz xt xb (nI ps.length)) (xm_is (some (.int r)) h9) := by
  refine XE (pl := [some (.ref 69), some (.ref 98), none]) xg138 rfl ?_
  refine x_step rfl ?_
  refine x_callvE rfl ((r139 (d := 1) (by omega)).xm) rfl rfl rfl ?_
  iterate 3 refine x_step rfl ?_
  refine x_ldcS rfl ?_
  refine x_callvE rfl (n141a (d := 5) hg hβ hA hV (by omega)) rfl rfl rfl ?_
  refine x_if_eq rfl (fun _ => ?_) (fun q => absurd (by rw [ha]; rfl) q)
  iterate 2 refine x_step rfl ?_
  refine x_ldcS rfl ?_
  refine x_callvE rfl (n141b (d := 5) hg hβ hA hV (by omega)) rfl rfl rfl ?_
  refine x_if_eq rfl (fun _ => ?_) (fun q => absurd (by rw [hb]; rfl) q)
  iterate 2 refine x_step rfl ?_
  refine x_ldcS rfl ?_
  refine x_callvE rfl (n141c (d := 5) hg hβ hA hV (by omega)) rfl rfl rfl ?_
  refine x_if_eq rfl (fun q => absurd q (by rw [hc]; decide)) (fun _ => ?_)
  iterate 3 refine x_step rfl ?_
  refine x_icmp_ne rfl (fun q => absurd hw q) (fun _ => ?_)
  iterate 4 refine x_step rfl ?_
  refine x_callvE rfl (hM) rfl rfl rfl ?_
  exact x_iret rfl rfl rfl ⟨rfl, rfl⟩
/-- Machine.obey -/
theorem n138cn (hg : ∀ i, i < 130 → gb i = nI (β i)) (hβ : ∀ i, β i < 256) (hA : itA β xf xz xt xb 0 ps) (hV : itV β ps) {h9 : xm_H} {dd : Nat} {r : Int32} (hd : 6 ≤ d) (ha : pTx β ps 1 [83, 84, 65, 82, 84] = false) (hb : pTx β ps 1 [83, 84, 79, 80] = false) (hc : pTx β ps 1 [80, 65, 85, 83, 69] = true) (hw : ¬ vb 1 0 = 1) (hdd : dd < d) (hM : XM l 142 dd 0 0 [.ref 69, .int 0, .int 2, .int 4] (cw L xs g tc tf bl bf of oc ol on ml mx mb kc kh kr ka gl gx gb ls lq lk lg lh vf vs vb nv nw nr nq ne io sp ch wt xf xz xt xb (nI ps.length)) (xm_is (some (.int r)) h9)) : XM l 138 d 0 0 [.ref 69, .ref 98] (cw L xs g tc tf bl bf of oc ol on ml mx mb kc kh kr ka gl gx gb ls lq lk lg lh vf vs vb nv nw nr nq ne io sp ch wt xf xz xt xb (nI ps.length)) (xm_is (some (.int r)) h9) := by
  refine XE (pl := [some (.ref 69), some (.ref 98), none]) xg138 rfl ?_
  refine x_step rfl ?_
  refine x_callvE rfl ((r139 (d := 1) (by omega)).xm) rfl rfl rfl ?_
  iterate 3 refine x_step rfl ?_
  refine x_ldcS rfl ?_
  refine x_callvE rfl (n141a (d := 5) hg hβ hA hV (by omega)) rfl rfl rfl ?_
  refine x_if_eq rfl (fun _ => ?_) (fun q => absurd (by rw [ha]; rfl) q)
  iterate 2 refine x_step rfl ?_
  refine x_ldcS rfl ?_
  refine x_callvE rfl (n141b (d := 5) hg hβ hA hV (by omega)) rfl rfl rfl ?_
  refine x_if_eq rfl (fun _ => ?_) (fun q => absurd (by rw [hb]; rfl) q)
  iterate 2 refine x_step rfl ?_
  refine x_ldcS rfl ?_
  refine x_callvE rfl (n141c (d := 5) hg hβ hA hV (by omega)) rfl rfl rfl ?_
  refine x_if_eq rfl (fun q => absurd q (by rw [hc]; decide)) (fun _ => ?_)
  iterate 3 refine x_step rfl ?_
  refine x_icmp_ne rfl (fun _ => ?_) (fun q => absurd q hw)
  iterate 3 refine x_step rfl ?_
  refine x_callvE rfl (hM) rfl rfl rfl ?_
  exact x_iret rfl rfl rfl ⟨rfl, rfl⟩
/-- Machine.obey -/
theorem n138dy (hg : ∀ i, i < 130 → gb i = nI (β i)) (hβ : ∀ i, β i < 256) (hA : itA β xf xz xt xb 0 ps) (hV : itV β ps) {h9 : xm_H} {dd : Nat} {r : Int32} (hd : 6 ≤ d) (ha : pTx β ps 1 [83, 84, 65, 82, 84] = false) (hb : pTx β ps 1 [83, 84, 79, 80] = false) (hc : pTx β ps 1 [80, 65, 85, 83, 69] = false) (hd : pTx β ps 1 [71, 79] = true) (hw : vb 1 0 = 2) (hdd : dd < d) (hM : XM l 142 dd 0 0 [.ref 69, .int 1, .int 1, .int 0] (cw L xs g tc tf bl bf of oc ol on ml mx mb kc kh kr ka gl gx gb ls lq lk lg lh vf vs vb nv nw nr nq ne io sp ch wt xf xz xt xb (nI ps.length)) (xm_is (some (.int r)) h9)) : XM l 138 d 0 0 [.ref 69, .ref 98] (cw L xs g tc tf bl bf of oc ol on ml mx mb kc kh kr ka gl gx gb ls lq lk lg lh vf vs vb nv nw nr nq ne io sp ch wt xf xz xt xb (nI ps.length)) (xm_is (some (.int r)) h9) := by
  refine XE (pl := [some (.ref 69), some (.ref 98), none]) xg138 rfl ?_
  refine x_step rfl ?_
  refine x_callvE rfl ((r139 (d := 1) (by omega)).xm) rfl rfl rfl ?_
  iterate 3 refine x_step rfl ?_
  refine x_ldcS rfl ?_
  refine x_callvE rfl (n141a (d := 5) hg hβ hA hV (by omega)) rfl rfl rfl ?_
  refine x_if_eq rfl (fun _ => ?_) (fun q => absurd (by rw [ha]; rfl) q)
  iterate 2 refine x_step rfl ?_
  refine x_ldcS rfl ?_
  refine x_callvE rfl (n141b (d := 5) hg hβ hA hV (by omega)) rfl rfl rfl ?_
  refine x_if_eq rfl (fun _ => ?_) (fun q => absurd (by rw [hb]; rfl) q)
  iterate 2 refine x_step rfl ?_
  refine x_ldcS rfl ?_
  refine x_callvE rfl (n141c (d := 5) hg hβ hA hV (by omega)) rfl rfl rfl ?_
  refine x_if_eq rfl (fun _ => ?_) (fun q => absurd (by rw [hc]; rfl) q)
  iterate 2 refine x_step rfl ?_
  refine x_ldcS rfl ?_
  refine x_callvE rfl (n141d (d := 5) hg hβ hA hV (by omega)) rfl rfl rfl ?_
  refine x_if_eq rfl (fun q => absurd q (by rw [hd]; decide)) (fun _ => ?_)
  iterate 3 refine x_step rfl ?_
  refine x_icmp_ne rfl (fun q => absurd hw q) (fun _ => ?_)
  iterate 4 refine x_step rfl ?_
  refine x_callvE rfl (hM) rfl rfl rfl ?_
  exact x_iret rfl rfl rfl ⟨rfl, rfl⟩
/-- Machine.obey -/
theorem n138dn (hg : ∀ i, i < 130 → gb i = nI (β i)) (hβ : ∀ i, β i < 256) (hA : itA β xf xz xt xb 0 ps) (hV : itV β ps) {h9 : xm_H} {dd : Nat} {r : Int32} (hd : 6 ≤ d) (ha : pTx β ps 1 [83, 84, 65, 82, 84] = false) (hb : pTx β ps 1 [83, 84, 79, 80] = false) (hc : pTx β ps 1 [80, 65, 85, 83, 69] = false) (hd : pTx β ps 1 [71, 79] = true) (hw : ¬ vb 1 0 = 2) (hdd : dd < d) (hM : XM l 142 dd 0 0 [.ref 69, .int 0, .int 1, .int 0] (cw L xs g tc tf bl bf of oc ol on ml mx mb kc kh kr ka gl gx gb ls lq lk lg lh vf vs vb nv nw nr nq ne io sp ch wt xf xz xt xb (nI ps.length)) (xm_is (some (.int r)) h9)) : XM l 138 d 0 0 [.ref 69, .ref 98] (cw L xs g tc tf bl bf of oc ol on ml mx mb kc kh kr ka gl gx gb ls lq lk lg lh vf vs vb nv nw nr nq ne io sp ch wt xf xz xt xb (nI ps.length)) (xm_is (some (.int r)) h9) := by
  refine XE (pl := [some (.ref 69), some (.ref 98), none]) xg138 rfl ?_
  refine x_step rfl ?_
  refine x_callvE rfl ((r139 (d := 1) (by omega)).xm) rfl rfl rfl ?_
  iterate 3 refine x_step rfl ?_
  refine x_ldcS rfl ?_
  refine x_callvE rfl (n141a (d := 5) hg hβ hA hV (by omega)) rfl rfl rfl ?_
  refine x_if_eq rfl (fun _ => ?_) (fun q => absurd (by rw [ha]; rfl) q)
  iterate 2 refine x_step rfl ?_
  refine x_ldcS rfl ?_
  refine x_callvE rfl (n141b (d := 5) hg hβ hA hV (by omega)) rfl rfl rfl ?_
  refine x_if_eq rfl (fun _ => ?_) (fun q => absurd (by rw [hb]; rfl) q)
  iterate 2 refine x_step rfl ?_
  refine x_ldcS rfl ?_
  refine x_callvE rfl (n141c (d := 5) hg hβ hA hV (by omega)) rfl rfl rfl ?_
  refine x_if_eq rfl (fun _ => ?_) (fun q => absurd (by rw [hc]; rfl) q)
  iterate 2 refine x_step rfl ?_
  refine x_ldcS rfl ?_
  refine x_callvE rfl (n141d (d := 5) hg hβ hA hV (by omega)) rfl rfl rfl ?_
  refine x_if_eq rfl (fun q => absurd q (by rw [hd]; decide)) (fun _ => ?_)
  iterate 3 refine x_step rfl ?_
  refine x_icmp_ne rfl (fun _ => ?_) (fun q => absurd q hw)
  iterate 3 refine x_step rfl ?_
  refine x_callvE rfl (hM) rfl rfl rfl ?_
  exact x_iret rfl rfl rfl ⟨rfl, rfl⟩
end EC10
