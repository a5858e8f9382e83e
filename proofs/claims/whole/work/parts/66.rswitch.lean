section ER13
variable {l : Launch} {d L : Nat} {xs : Nat → Int32} {tc : Int32} {tf : (Nat → Int32)} {bl : Int32} {bf : (Nat → Int32)} {of : Int32} {oc : Int32} {ol : Int32} {on : Int32} {ml : (Nat → Int32)} {mx : (Nat → Int32)} {mb : (Nat → Nat → Int32)} {kc : Int32} {kh : (Nat → Nat)} {kr : (Nat → Nat → Int32)} {ka : (Nat → Int32)} {gl : Int32} {gx : Int32} {gb : (Nat → Int32)} {ls : Int32} {lq : Int32} {lk : Int32} {lg : Int32} {lh : Int32} {vf : (Nat → Int32)} {vs : (Nat → Int32)} {vb : (Nat → Nat → Int32)} {nv : (Nat → Int32)} {nw : (Nat → Nat → Int32)} {nr : (Nat → Int32)} {nq : (Nat → Nat → Int32)} {ne : (Nat → Int32)} {io : Int32} {sp : Int32} {ch : Int32} {wt : Int32} {xf : (Nat → Int32)} {xz : (Nat → Int32)} {xt : (Nat → Int32)} {xb : (Nat → Int32)} {xc : Int32} {th : Int32} {jl : Int32} {js : Int32} {jh : Int32} {jb : (Nat → Int32)} {jc : Int32} {jr : (Nat → Int32)} {jq : Int32} {jQ : (Nat → Int32)} {jz : (Nat → Int32)} {jf : (Nat → Int32)} {jo : Int32} {jn : Int32} {jt : Int32} {jH : (Nat → Int32)} {jA : (Nat → Int32)} {jm : Int32} {jy : (Nat → Int32)} {je : Int32} {jp : Int32} {jk : Int32} {jx : Int32} {jw : Int32} {ju : Int32} {jF : (Nat → Int32)} {jL : (Nat → Int32)} {jO : (Nat → Int32)} {jS : (Nat → Int32)} {jT : (Nat → Int32)} {jU : (Nat → Int32)} {jV : (Nat → Int32)} {jW : (Nat → Int32)} {ja : Int32} {jG : (Nat → Int32)} {ov : (Nat → Value)} {g2 : xm_H}
variable {β : Nat → Nat} {e : Nat} {ps : List (Nat × Nat)}
theorem switch_at (hat : itAt β e ps 6 0 10 e) (he : e ≤ 130) (hn : pSwitch β ps = true) : ∃ cs1 q1 qe1 cs2 p2 qe2, itI (itR β e 5) 0 (itT β 10) = some (cs1, q1) ∧ itAt β e ps 5 1 q1 qe1 ∧ pY β ps 1 0 = β (itT β q1) ∧ itT β q1 < 130 ∧ itI (itR β e 5) 1 (itT β 10) = some (cs2, p2) ∧ itAt β e ps 5 2 p2 qe2 ∧ pNums β ps 2 = true ∧ pS β ps 2 = itS β p2 := by
  rw [pSwitch, Bool.and_eq_true, Bool.and_eq_true] at hn
  obtain ⟨h1, h2, h3⟩ := hn
  rw [pLst_at hat] at h1
  simp at h1
  obtain ⟨D2, cs2, q2, qe2, hD2, hI2, hat2⟩ := hat.nth h1.1 0 (by omega)
  obtain rfl : D2 = 5 := by omega
  obtain ⟨D3, cs3, q3, qe3, hD3, hI3, hat3⟩ := hat.nth h1.1 1 (by omega)
  obtain rfl : D3 = 5 := by omega
  have hc : cI ps 0 1 = 2 := pOne_next (i := 1) hat2 (by decide) h2
  rw [hc] at hat3
  obtain ⟨_, -, -, b2, -⟩ := hat3.get
  have ho := one_at (i := 1) hat2 he (by decide) h2
  exact ⟨cs2, q2, qe2, cs3, q3, qe3, hI2, hat2, ho.2.2.1, ho.2.2.2, hI3, hat3, h3, b2⟩
theorem q221_a {Q : xm_Q} (hb : ∀ i, i < 130 → jb (i + 1) = nI (β i)) (hβ : ∀ i, β i < 256) (he : e ≤ 130) (ob : Bool) (p2 qe : Nat) (hat : itAt β e ps 5 2 p2 qe) (hn : pNums β ps 2 = true) (hd : 3 ≤ d) : ∀ (m k w : Nat), k + m = itS β p2 → w ≤ 1 → XG l xm_any 221 d 0 0 78 [some (.ref 103), some (.int (bI ob)), some (.int (nI (p2 + 1))), some (.int (nI (itS β p2))), some (.int (nI (if fEs β ps m k then w else 1))), some (.int (nI (itS β p2)))] [] (cw L xs (rw th jl js jh jb jc jr jq jQ jz jf jo jn jt jH jA jm jy je jp jk jx jw ju jF jL jO jS jT jU jV jW ja jG ov g2) tc tf bl bf of oc ol on ml mx mb kc kh kr ka gl gx gb ls lq lk lg lh vf vs vb nv nw nr nq ne io sp ch wt xf xz xt xb xc) Q → XG l xm_any 221 d 0 0 40 [some (.ref 103), some (.int (bI ob)), some (.int (nI (p2 + 1))), some (.int (nI (itS β p2))), some (.int (nI (w))), some (.int (nI k))] [] (cw L xs (rw th jl js jh jb jc jr jq jQ jz jf jo jn jt jH jA jm jy je jp jk jx jw ju jF jL jO jS jT jU jV jW ja jG ov g2) tc tf bl bf of oc ol on ml mx mb kc kh kr ka gl gx gb ls lq lk lg lh vf vs vb nv nw nr nq ne io sp ch wt xf xz xt xb xc) Q := by
  obtain ⟨_, -, -, -, -, -, hpe, hTe⟩ := hat.get
  obtain ⟨hF, hN⟩ := nums_at hat he hn
  have hS := itS_lt hβ p2
  intro m
  induction m with
  | zero =>
    intro k w hk hw hK
    obtain rfl : k = itS β p2 := by omega
    iterate 2 refine x_step rfl ?_
    refine x_icmpN_ge (itS β p2) (itS β p2) rfl rfl rfl (fun _ => ?_) (fun q => False.elim (by omega))
    exact hK
  | succ m ih =>
    intro k w hk hw hK
    obtain ⟨D', cs, qi, qi2, hDD, hI, hat2, hy, hT2⟩ := hN k (by omega)
    obtain ⟨_, -, -, -, -, -, hqi, -⟩ := hat2.get
    have hyb := hβ (itT β qi)
    rw [show 2 + 1 + k = 3 + k by omega] at hy
    iterate 2 refine x_step rfl ?_
    refine x_icmpN_ge (k) (itS β p2) rfl rfl rfl (fun q => False.elim (by omega)) (fun _ => ?_)
    iterate 5 refine x_step rfl ?_
    refine x_callvE rfl (q198 (d := 2) hb hβ he D' p2 k qi cs (by omega) (by omega) (by omega) (by omega) hI) rfl rfl rfl ?_
    refine x_callvE rfl (q192 (d := 1) hb hβ qi (by omega) hT2) rfl rfl rfl ?_
    refine x_callvE rfl (m219 (d := 0) (nI (β (itT β qi)))) rfl rfl rfl ?_
    refine x_if_eq rfl (fun h1 => ?_) (fun h1 => ?_)
    · have hr4 : 1 ≤ β (itT β qi) ∧ β (itT β qi) ≤ 5 := by by_cases hz : xev (nI (β (itT β qi))) = 0; rw [if_pos hz] at h1; exact absurd h1 (by decide); exact ⟨Nat.not_lt.mp fun z => hz (xev_z (Or.inl z) (by omega)), Nat.not_lt.mp fun z => hz (xev_z (Or.inr z) (by omega))⟩
      have he2 : fEs β ps (m + 1) k = fEs β ps m (k + 1) := by rw [fEs, hy, decide_eq_true hr4.1, decide_eq_true hr4.2]; rfl
      rw [he2] at hK
      iterate 4 refine x_step rfl ?_
      refine xm_ls (pl' := [some (.ref 103), some (.int (bI ob)), some (.int (nI (p2 + 1))), some (.int (nI (itS β p2))), some (.int (nI (w))), some (.int (nI (k + 1)))]) (by rw [nI_succ k] <;> rfl) ?_
      exact ih (k + 1) w (by omega) hw hK
    · have hr4 : ¬ (1 ≤ β (itT β qi) ∧ β (itT β qi) ≤ 5) := fun z => h1 (by rw [if_neg (xev_ne z.1 z.2)])
      have he2 : fEs β ps (m + 1) k = false := by rw [fEs, hy, show (decide (1 ≤ β (itT β qi)) && decide (β (itT β qi) ≤ 5)) = false from by simpa using (by omega : 1 ≤ β (itT β qi) → 5 < β (itT β qi))]; rfl
      rw [he2] at hK
      iterate 5 refine x_step rfl ?_
      refine xm_ls (pl' := [some (.ref 103), some (.int (bI ob)), some (.int (nI (p2 + 1))), some (.int (nI (itS β p2))), some (.int (nI (1))), some (.int (nI (k + 1)))]) (by rw [nI_succ k] <;> rfl) ?_
      refine ih (k + 1) 1 (by omega) (by decide) ?_
      rw [show (if fEs β ps m (k + 1) = true then 1 else 1) = 1 from ite_self _]
      exact hK
theorem fEs_s {m k : Nat} (h : fEs β ps (m + 1) k = true) : (1 ≤ pY β ps (3 + k) 0 ∧ pY β ps (3 + k) 0 ≤ 5) ∧ fEs β ps m (k + 1) = true := by
  rw [fEs, Bool.and_eq_true, Bool.and_eq_true] at h
  exact ⟨⟨by simpa using h.1.1, by simpa using h.1.2⟩, h.2⟩
theorem q221_b {Q : xm_Q} (hb : ∀ i, i < 130 → jb (i + 1) = nI (β i)) (hβ : ∀ i, β i < 256) (he : e ≤ 130) (ob : Bool) (p2 qe : Nat) (hat : itAt β e ps 5 2 p2 qe) (hn : pNums β ps 2 = true) (hd : 3 ≤ d) : ∀ (m k : Nat) (jW : Nat → Int32), k + m = itS β p2 → fEs β ps m k = true → XG l xm_any 221 d 0 0 115 [some (.ref 103), some (.int (bI ob)), some (.int (nI (p2 + 1))), some (.int (nI (itS β p2))), some (.int (nI (0))), some (.int (nI (itS β p2)))] [] (cw L xs (rw th jl js jh jb jc jr jq jQ jz jf jo jn jt jH jA jm jy je jp jk jx jw ju jF jL jO jS jT jU jV (enAll β ps ob m k jW) ja jG ov g2) tc tf bl bf of oc ol on ml mx mb kc kh kr ka gl gx gb ls lq lk lg lh vf vs vb nv nw nr nq ne io sp ch wt xf xz xt xb xc) Q → XG l xm_any 221 d 0 0 81 [some (.ref 103), some (.int (bI ob)), some (.int (nI (p2 + 1))), some (.int (nI (itS β p2))), some (.int (nI (0))), some (.int (nI k))] [] (cw L xs (rw th jl js jh jb jc jr jq jQ jz jf jo jn jt jH jA jm jy je jp jk jx jw ju jF jL jO jS jT jU jV jW ja jG ov g2) tc tf bl bf of oc ol on ml mx mb kc kh kr ka gl gx gb ls lq lk lg lh vf vs vb nv nw nr nq ne io sp ch wt xf xz xt xb xc) Q := by
  obtain ⟨_, -, -, -, -, -, hpe, hTe⟩ := hat.get
  obtain ⟨hF, hN⟩ := nums_at hat he hn
  have hS := itS_lt hβ p2
  intro m
  induction m with
  | zero =>
    intro k jW hk hw hK
    obtain rfl : k = itS β p2 := by omega
    iterate 2 refine x_step rfl ?_
    refine x_icmpN_ge (itS β p2) (itS β p2) rfl rfl rfl (fun _ => ?_) (fun q => False.elim (by omega))
    exact hK
  | succ m ih =>
    intro k jW hk hw hK
    obtain ⟨hr4, hw2⟩ := fEs_s hw
    obtain ⟨D', cs, qi, qi2, hDD, hI, hat2, hy, hT2⟩ := hN k (by omega)
    obtain ⟨_, -, -, -, -, -, hqi, -⟩ := hat2.get
    rw [show 2 + 1 + k = 3 + k by omega] at hy
    rw [enAll, enOne, if_pos hr4, hy] at hK
    rw [hy] at hr4
    iterate 2 refine x_step rfl ?_
    refine x_icmpN_ge (k) (itS β p2) rfl rfl rfl (fun q => False.elim (by omega)) (fun _ => ?_)
    refine x_step rfl ?_
    refine x_if_ne rfl (fun q => absurd (by decide) q) (fun _ => ?_)
    iterate 6 refine x_step rfl ?_
    refine x_callvE rfl (q198 (d := 2) hb hβ he D' p2 k qi cs (by omega) (by omega) (by omega) (by omega) hI) rfl rfl rfl ?_
    refine x_callvE rfl (q192 (d := 1) hb hβ qi (by omega) hT2) rfl rfl rfl ?_
    refine x_step rfl ?_
    refine x_zastN (β (itT β qi)) rfl rfl rfl (by omega) (bI_and ob) ?_
    iterate 2 refine x_step rfl ?_
    refine xm_ls (pl' := [some (.ref 103), some (.int (bI ob)), some (.int (nI (p2 + 1))), some (.int (nI (itS β p2))), some (.int (nI (0))), some (.int (nI (k + 1)))]) (by rw [nI_succ k] <;> rfl) ?_
    refine xm_hs (hp' := (cw L xs (rw th jl js jh jb jc jr jq jQ jz jf jo jn jt jH jA jm jy je jp jk jx jw ju jF jL jO jS jT jU jV (upd jW (β (itT β qi)) (bI ob)) ja jG ov g2) tc tf bl bf of oc ol on ml mx mb kc kh kr ka gl gx gb ls lq lk lg lh vf vs vb nv nw nr nq ne io sp ch wt xf xz xt xb xc)) rfl ?_
    exact ih (k + 1) _ (by omega) hw2 hK
theorem q221_c {Q : xm_Q} (ob : Bool) (p2 n w : Nat) (hn : n < 2 ^ 24) (hK : ∀ o5, XG l xm_any 221 d 0 0 142 [some (.ref 103), some (.int (bI ob)), some (.int (nI (p2 + 1))), some (.int (nI n)), some (.int (nI w)), o5] [] (cw L xs (rw th jl js jh jb jc jr jq jQ jz jf jo jn jt jH jA jm jy je jp jk jx jw ju jF jL jO jS jT jU jV (if n = 0 then enFive jW ob else jW) ja jG ov g2) tc tf bl bf of oc ol on ml mx mb kc kh kr ka gl gx gb ls lq lk lg lh vf vs vb nv nw nr nq ne io sp ch wt xf xz xt xb xc) Q) : XG l xm_any 221 d 0 0 118 [some (.ref 103), some (.int (bI ob)), some (.int (nI (p2 + 1))), some (.int (nI n)), some (.int (nI w)), some (.int (nI 1))] [] (cw L xs (rw th jl js jh jb jc jr jq jQ jz jf jo jn jt jH jA jm jy je jp jk jx jw ju jF jL jO jS jT jU jV jW ja jG ov g2) tc tf bl bf of oc ol on ml mx mb kc kh kr ka gl gx gb ls lq lk lg lh vf vs vb nv nw nr nq ne io sp ch wt xf xz xt xb xc) Q := by
  by_cases hz : n = 0
  · subst hz
    rw [if_pos rfl] at hK
    refine xm_ls (pl' := [some (.ref 103), some (.int (bI ob)), some (.int (nI (p2 + 1))), some (.int (nI 0)), some (.int (nI w)), some (.int (nI 1))]) rfl ?_
    iterate 2 refine x_step rfl ?_
    refine x_icmpN_gt (1) (5) rfl rfl rfl (fun q => False.elim (by omega)) (fun _ => ?_)
    refine x_step rfl ?_
    refine x_if_ne rfl (fun q => absurd (by decide) q) (fun _ => ?_)
    iterate 4 refine x_step rfl ?_
    refine x_zastN (1) rfl rfl rfl (by decide) (bI_and ob) ?_
    iterate 2 refine x_step rfl ?_
    refine xm_ls (pl' := [some (.ref 103), some (.int (bI ob)), some (.int (nI (p2 + 1))), some (.int (nI 0)), some (.int (nI w)), some (.int (nI 2))]) rfl ?_
    iterate 2 refine x_step rfl ?_
    refine x_icmpN_gt (2) (5) rfl rfl rfl (fun q => False.elim (by omega)) (fun _ => ?_)
    refine x_step rfl ?_
    refine x_if_ne rfl (fun q => absurd (by decide) q) (fun _ => ?_)
    iterate 4 refine x_step rfl ?_
    refine x_zastN (2) rfl rfl rfl (by decide) (bI_and ob) ?_
    iterate 2 refine x_step rfl ?_
    refine xm_ls (pl' := [some (.ref 103), some (.int (bI ob)), some (.int (nI (p2 + 1))), some (.int (nI 0)), some (.int (nI w)), some (.int (nI 3))]) rfl ?_
    iterate 2 refine x_step rfl ?_
    refine x_icmpN_gt (3) (5) rfl rfl rfl (fun q => False.elim (by omega)) (fun _ => ?_)
    refine x_step rfl ?_
    refine x_if_ne rfl (fun q => absurd (by decide) q) (fun _ => ?_)
    iterate 4 refine x_step rfl ?_
    refine x_zastN (3) rfl rfl rfl (by decide) (bI_and ob) ?_
    iterate 2 refine x_step rfl ?_
    refine xm_ls (pl' := [some (.ref 103), some (.int (bI ob)), some (.int (nI (p2 + 1))), some (.int (nI 0)), some (.int (nI w)), some (.int (nI 4))]) rfl ?_
    iterate 2 refine x_step rfl ?_
    refine x_icmpN_gt (4) (5) rfl rfl rfl (fun q => False.elim (by omega)) (fun _ => ?_)
    refine x_step rfl ?_
    refine x_if_ne rfl (fun q => absurd (by decide) q) (fun _ => ?_)
    iterate 4 refine x_step rfl ?_
    refine x_zastN (4) rfl rfl rfl (by decide) (bI_and ob) ?_
    iterate 2 refine x_step rfl ?_
    refine xm_ls (pl' := [some (.ref 103), some (.int (bI ob)), some (.int (nI (p2 + 1))), some (.int (nI 0)), some (.int (nI w)), some (.int (nI 5))]) rfl ?_
    iterate 2 refine x_step rfl ?_
    refine x_icmpN_gt (5) (5) rfl rfl rfl (fun q => False.elim (by omega)) (fun _ => ?_)
    refine x_step rfl ?_
    refine x_if_ne rfl (fun q => absurd (by decide) q) (fun _ => ?_)
    iterate 4 refine x_step rfl ?_
    refine x_zastN (5) rfl rfl rfl (by decide) (bI_and ob) ?_
    iterate 2 refine x_step rfl ?_
    refine xm_ls (pl' := [some (.ref 103), some (.int (bI ob)), some (.int (nI (p2 + 1))), some (.int (nI 0)), some (.int (nI w)), some (.int (nI 6))]) rfl ?_
    refine xm_hs (hp' := (cw L xs (rw th jl js jh jb jc jr jq jQ jz jf jo jn jt jH jA jm jy je jp jk jx jw ju jF jL jO jS jT jU jV (enFive jW ob) ja jG ov g2) tc tf bl bf of oc ol on ml mx mb kc kh kr ka gl gx gb ls lq lk lg lh vf vs vb nv nw nr nq ne io sp ch wt xf xz xt xb xc)) rfl ?_
    iterate 2 refine x_step rfl ?_
    refine x_icmpN_gt (6) (5) rfl rfl rfl (fun _ => ?_) (fun q => False.elim (by omega))
    exact hK _
  · rw [if_neg hz] at hK
    iterate 2 refine x_step rfl ?_
    refine x_icmpN_gt (1) (5) rfl rfl rfl (fun q => False.elim (by omega)) (fun _ => ?_)
    refine x_step rfl ?_
    refine x_ifN_ne (n) rfl rfl (fun _ => ?_) (fun q => False.elim (by omega))
    exact hK _
/-- switchEvents: it is done -/
theorem q221 {h9 : xm_H} {dd : Nat} (hb : ∀ i, i < 130 → jb (i + 1) = nI (β i)) (hβ : ∀ i, β i < 256) (he : e ≤ 130) (hat : itAt β e ps 6 0 10 e) (hn : pSwitch β ps = true) (hf : fEs β ps (pS β ps 2) 0 = true) (hd : 3 ≤ d) (hdd : dd < d) (hR : XM l 213 dd 0 0 [.ref 103, .int 0] (cw L xs (rw th jl js jh jb jc jr jq jQ jz jf jo jn jt jH jA jm jy je jp jk jx jw ju jF jL jO jS jT jU jV (if pS β ps 2 = 0 then enFive (enAll β ps (!(pY β ps 1 0 == 0)) (pS β ps 2) 0 jW) (!(pY β ps 1 0 == 0)) else enAll β ps (!(pY β ps 1 0 == 0)) (pS β ps 2) 0 jW) ja jG ov g2) tc tf bl bf of oc ol on ml mx mb kc kh kr ka gl gx gb ls lq lk lg lh vf vs vb nv nw nr nq ne io sp ch wt xf xz xt xb xc) (xm_is none h9)) : XM l 221 d 0 0 [.ref 103] (cw L xs (rw th jl js jh jb jc jr jq jQ jz jf jo jn jt jH jA jm jy je jp jk jx jw ju jF jL jO jS jT jU jV jW ja jG ov g2) tc tf bl bf of oc ol on ml mx mb kc kh kr ka gl gx gb ls lq lk lg lh vf vs vb nv nw nr nq ne io sp ch wt xf xz xt xb xc) (xm_is none h9) := by
  obtain ⟨_, -, -, -, -, -, hpe, hTe⟩ := hat.get
  obtain ⟨cs1, q1, qe1, cs2, p2, qe2, hI1, hat1, hy, hT1, hI2, hat2, hn2, hS2⟩ := switch_at hat he hn
  obtain ⟨_, -, -, -, -, -, hq1, -⟩ := hat1.get
  obtain ⟨_, -, -, -, -, -, hq2, hT2⟩ := hat2.get
  have hSl := itS_lt hβ p2
  have hyb := hβ (itT β q1)
  rw [hS2] at hf hR
  refine XE (pl := [some (.ref 103), none, none, none, none, none]) xg221 rfl ?_
  iterate 4 refine x_step rfl ?_
  refine x_callvE rfl (q198 (d := 2) hb hβ he 5 10 0 q1 cs1 (by omega) (by decide) (by decide) (by omega) hI1) rfl rfl rfl ?_
  refine x_callvE rfl (q192 (d := 1) hb hβ q1 (by omega) hT1) rfl rfl rfl ?_
  refine x_ifN_eq (β (itT β q1)) rfl rfl (fun hz => ?_) (fun hz => ?_)
  · have hob : (!(pY β ps 1 0 == 0)) = false := by rw [hy]; simp [hz]
    iterate 5 refine x_step rfl ?_
    refine x_callvE rfl (q198 (d := 2) hb hβ he 5 10 1 p2 cs2 (by omega) (by decide) (by decide) (by omega) hI2) rfl rfl rfl ?_
    iterate 3 refine x_step rfl ?_
    refine x_callvE rfl (q188 (d := 0) hb hβ p2 (by omega)) rfl rfl rfl ?_
    iterate 5 refine x_step rfl ?_
    refine xm_ls (pl' := [some (.ref 103), some (.int (bI false)), some (.int (nI (p2 + 1))), some (.int (nI (itS β p2))), some (.int (nI 0)), some (.int (nI 0))]) rfl ?_
    refine q221_a hb hβ he false p2 qe2 hat2 hn2 hd (itS β p2) 0 0 (by omega) (by decide) ?_
    rw [show fEs β ps (itS β p2) 0 = true from hf]
    iterate 2 refine x_step rfl ?_
    refine xm_ls (pl' := [some (.ref 103), some (.int (bI false)), some (.int (nI (p2 + 1))), some (.int (nI (itS β p2))), some (.int (nI 0)), some (.int (nI 0))]) rfl ?_
    refine q221_b hb hβ he false p2 qe2 hat2 hn2 hd (itS β p2) 0 jW (by omega) hf ?_
    iterate 2 refine x_step rfl ?_
    refine xm_ls (pl' := [some (.ref 103), some (.int (bI false)), some (.int (nI (p2 + 1))), some (.int (nI (itS β p2))), some (.int (nI 0)), some (.int (nI 1))]) rfl ?_
    refine q221_c false p2 (itS β p2) 0 (by omega) (fun o5 => ?_)
    rw [hob] at hR
    iterate 2 refine x_step rfl ?_
    refine x_callvE rfl (hR) rfl rfl rfl ?_
    exact x_ret rfl rfl ⟨rfl, rfl⟩
  · have hob : (!(pY β ps 1 0 == 0)) = true := by rw [hy]; simpa using hz
    iterate 6 refine x_step rfl ?_
    refine x_callvE rfl (q198 (d := 2) hb hβ he 5 10 1 p2 cs2 (by omega) (by decide) (by decide) (by omega) hI2) rfl rfl rfl ?_
    iterate 3 refine x_step rfl ?_
    refine x_callvE rfl (q188 (d := 0) hb hβ p2 (by omega)) rfl rfl rfl ?_
    iterate 5 refine x_step rfl ?_
    refine xm_ls (pl' := [some (.ref 103), some (.int (bI true)), some (.int (nI (p2 + 1))), some (.int (nI (itS β p2))), some (.int (nI 0)), some (.int (nI 0))]) rfl ?_
    refine q221_a hb hβ he true p2 qe2 hat2 hn2 hd (itS β p2) 0 0 (by omega) (by decide) ?_
    rw [show fEs β ps (itS β p2) 0 = true from hf]
    iterate 2 refine x_step rfl ?_
    refine xm_ls (pl' := [some (.ref 103), some (.int (bI true)), some (.int (nI (p2 + 1))), some (.int (nI (itS β p2))), some (.int (nI 0)), some (.int (nI 0))]) rfl ?_
    refine q221_b hb hβ he true p2 qe2 hat2 hn2 hd (itS β p2) 0 jW (by omega) hf ?_
    iterate 2 refine x_step rfl ?_
    refine xm_ls (pl' := [some (.ref 103), some (.int (bI true)), some (.int (nI (p2 + 1))), some (.int (nI (itS β p2))), some (.int (nI 0)), some (.int (nI 1))]) rfl ?_
    refine q221_c true p2 (itS β p2) 0 (by omega) (fun o5 => ?_)
    rw [hob] at hR
    iterate 2 refine x_step rfl ?_
    refine x_callvE rfl (hR) rfl rfl rfl ?_
    exact x_ret rfl rfl ⟨rfl, rfl⟩
/-- switchEvents: a fault -/
theorem q221f {h9 : xm_H} {dd : Nat} (hb : ∀ i, i < 130 → jb (i + 1) = nI (β i)) (hβ : ∀ i, β i < 256) (he : e ≤ 130) (hat : itAt β e ps 6 0 10 e) (hn : pSwitch β ps = true) (hf : fEs β ps (pS β ps 2) 0 = false) (hd : 3 ≤ d) (hdd : dd < d) (hR : XM l 213 dd 0 0 [.ref 103, .int 1] (cw L xs (rw th jl js jh jb jc jr jq jQ jz jf jo jn jt jH jA jm jy je jp jk jx jw ju jF jL jO jS jT jU jV jW ja jG ov g2) tc tf bl bf of oc ol on ml mx mb kc kh kr ka gl gx gb ls lq lk lg lh vf vs vb nv nw nr nq ne io sp ch wt xf xz xt xb xc) (xm_is none h9)) : XM l 221 d 0 0 [.ref 103] (cw L xs (rw th jl js jh jb jc jr jq jQ jz jf jo jn jt jH jA jm jy je jp jk jx jw ju jF jL jO jS jT jU jV jW ja jG ov g2) tc tf bl bf of oc ol on ml mx mb kc kh kr ka gl gx gb ls lq lk lg lh vf vs vb nv nw nr nq ne io sp ch wt xf xz xt xb xc) (xm_is none h9) := by
  obtain ⟨_, -, -, -, -, -, hpe, hTe⟩ := hat.get
  obtain ⟨cs1, q1, qe1, cs2, p2, qe2, hI1, hat1, hy, hT1, hI2, hat2, hn2, hS2⟩ := switch_at hat he hn
  obtain ⟨_, -, -, -, -, -, hq1, -⟩ := hat1.get
  obtain ⟨_, -, -, -, -, -, hq2, hT2⟩ := hat2.get
  have hSl := itS_lt hβ p2
  have hyb := hβ (itT β q1)
  rw [hS2] at hf
  have hnz : ¬ itS β p2 = 0 := fun z => by rw [z] at hf; simp [fEs] at hf
  refine XE (pl := [some (.ref 103), none, none, none, none, none]) xg221 rfl ?_
  iterate 4 refine x_step rfl ?_
  refine x_callvE rfl (q198 (d := 2) hb hβ he 5 10 0 q1 cs1 (by omega) (by decide) (by decide) (by omega) hI1) rfl rfl rfl ?_
  refine x_callvE rfl (q192 (d := 1) hb hβ q1 (by omega) hT1) rfl rfl rfl ?_
  refine x_ifN_eq (β (itT β q1)) rfl rfl (fun hz => ?_) (fun hz => ?_)
  · have hob : (!(pY β ps 1 0 == 0)) = false := by rw [hy]; simp [hz]
    iterate 5 refine x_step rfl ?_
    refine x_callvE rfl (q198 (d := 2) hb hβ he 5 10 1 p2 cs2 (by omega) (by decide) (by decide) (by omega) hI2) rfl rfl rfl ?_
    iterate 3 refine x_step rfl ?_
    refine x_callvE rfl (q188 (d := 0) hb hβ p2 (by omega)) rfl rfl rfl ?_
    iterate 5 refine x_step rfl ?_
    refine xm_ls (pl' := [some (.ref 103), some (.int (bI false)), some (.int (nI (p2 + 1))), some (.int (nI (itS β p2))), some (.int (nI 0)), some (.int (nI 0))]) rfl ?_
    refine q221_a hb hβ he false p2 qe2 hat2 hn2 hd (itS β p2) 0 0 (by omega) (by decide) ?_
    rw [show fEs β ps (itS β p2) 0 = false from hf]
    iterate 2 refine x_step rfl ?_
    refine xm_ls (pl' := [some (.ref 103), some (.int (bI false)), some (.int (nI (p2 + 1))), some (.int (nI (itS β p2))), some (.int (nI 1)), some (.int (nI 0))]) rfl ?_
    iterate 2 refine x_step rfl ?_
    refine x_icmpN_ge (0) (itS β p2) rfl rfl rfl (fun q => False.elim (by omega)) (fun _ => ?_)
    refine x_step rfl ?_
    refine x_if_ne rfl (fun _ => ?_) (fun q => absurd q (by decide))
    iterate 2 refine x_step rfl ?_
    refine xm_ls (pl' := [some (.ref 103), some (.int (bI false)), some (.int (nI (p2 + 1))), some (.int (nI (itS β p2))), some (.int (nI 1)), some (.int (nI 1))]) rfl ?_
    refine q221_c false p2 (itS β p2) 1 (by omega) (fun o5 => ?_)
    rw [if_neg hnz]
    iterate 2 refine x_step rfl ?_
    refine x_callvE rfl (hR) rfl rfl rfl ?_
    exact x_ret rfl rfl ⟨rfl, rfl⟩
  · have hob : (!(pY β ps 1 0 == 0)) = true := by rw [hy]; simpa using hz
    iterate 6 refine x_step rfl ?_
    refine x_callvE rfl (q198 (d := 2) hb hβ he 5 10 1 p2 cs2 (by omega) (by decide) (by decide) (by omega) hI2) rfl rfl rfl ?_
    iterate 3 refine x_step rfl ?_
    refine x_callvE rfl (q188 (d := 0) hb hβ p2 (by omega)) rfl rfl rfl ?_
    iterate 5 refine x_step rfl ?_
    refine xm_ls (pl' := [some (.ref 103), some (.int (bI true)), some (.int (nI (p2 + 1))), some (.int (nI (itS β p2))), some (.int (nI 0)), some (.int (nI 0))]) rfl ?_
    refine q221_a hb hβ he true p2 qe2 hat2 hn2 hd (itS β p2) 0 0 (by omega) (by decide) ?_
    rw [show fEs β ps (itS β p2) 0 = false from hf]
    iterate 2 refine x_step rfl ?_
    refine xm_ls (pl' := [some (.ref 103), some (.int (bI true)), some (.int (nI (p2 + 1))), some (.int (nI (itS β p2))), some (.int (nI 1)), some (.int (nI 0))]) rfl ?_
    iterate 2 refine x_step rfl ?_
    refine x_icmpN_ge (0) (itS β p2) rfl rfl rfl (fun q => False.elim (by omega)) (fun _ => ?_)
    refine x_step rfl ?_
    refine x_if_ne rfl (fun _ => ?_) (fun q => absurd q (by decide))
    iterate 2 refine x_step rfl ?_
    refine xm_ls (pl' := [some (.ref 103), some (.int (bI true)), some (.int (nI (p2 + 1))), some (.int (nI (itS β p2))), some (.int (nI 1)), some (.int (nI 1))]) rfl ?_
    refine q221_c true p2 (itS β p2) 1 (by omega) (fun o5 => ?_)
    rw [if_neg hnz]
    iterate 2 refine x_step rfl ?_
    refine x_callvE rfl (hR) rfl rfl rfl ?_
    exact x_ret rfl rfl ⟨rfl, rfl⟩
/-- START 1, STOP 2, PAUSE 3, GO 4 -/
def cmdN (β : Nat → Nat) (ps : List (Nat × Nat)) : Nat := if pTx β ps 1 [83, 84, 65, 82, 84] then 1 else if pTx β ps 1 [83, 84, 79, 80] then 2 else if pTx β ps 1 [80, 65, 85, 83, 69] then 3 else if pTx β ps 1 [71, 79] then 4 else 0
theorem q223_p (hb : ∀ i, i < 130 → jb (i + 1) = nI (β i)) (hβ : ∀ i, β i < 256) (he : e ≤ 130) (D p q : Nat) (hat : itAt β e ps D 1 p q) (hF : itF β p = 16) (h5 : itS β p = 5) (hns : pTx β ps 1 [83, 84, 65, 82, 84] = false) : XW l 223 d 0 0 160 [some (.ref 103), some (.int (nI (p + 1))), some (.int (nI (itS β p))), some (.int (nI (itT β p + 1))), some (.int (nI (pY β ps 1 0))), some (.int (nI (pY β ps 1 1))), some (.int (nI (pY β ps 1 2))), some (.int (nI (pY β ps 1 3))), some (.int (nI (pY β ps 1 4))), some (.int 0)] [] (cw L xs (rw th jl js jh jb jc jr jq jQ jz jf jo jn jt jH jA jm jy je jp jk jx jw ju jF jL jO jS jT jU jV jW ja jG ov g2) tc tf bl bf of oc ol on ml mx mb kc kh kr ka gl gx gb ls lq lk lg lh vf vs vb nv nw nr nq ne io sp ch wt xf xz xt xb xc) (xm_is (some (.int (nI (cmdN β ps)))) (cw L xs (rw th jl js jh jb jc jr jq jQ jz jf jo jn jt jH jA jm jy je jp jk jx jw ju jF jL jO jS jT jU jV jW ja jG ov g2) tc tf bl bf of oc ol on ml mx mb kc kh kr ka gl gx gb ls lq lk lg lh vf vs vb nv nw nr nq ne io sp ch wt xf xz xt xb xc)) := by
  obtain ⟨_, -, a1, a2, -, -, hpe, hTe⟩ := hat.get
  have hS := itS_lt hβ p
  have hy0 := pY_lt (ps := ps) hβ 1 0
  have hy1 := pY_lt (ps := ps) hβ 1 1
  have hy2 := pY_lt (ps := ps) hβ 1 2
  have hy3 := pY_lt (ps := ps) hβ 1 3
  have hy4 := pY_lt (ps := ps) hβ 1 4
  iterate 2 refine x_step rfl ?_
  refine x_icmpN_ne (pY β ps 1 0) (80) rfl rfl rfl (fun c0 => ?_) (fun c0 => ?_)
  · refine x_step rfl ?_
    exact x_iret rfl rfl rfl ⟨by rw [show cmdN β ps = 0 from by unfold cmdN; rw [hns]; simp [pTx, pEq, a1, a2, hF, h5, c0]]; rfl, rfl⟩
  · iterate 2 refine x_step rfl ?_
    refine x_icmpN_ne (pY β ps 1 1) (65) rfl rfl rfl (fun c1 => ?_) (fun c1 => ?_)
    · refine x_step rfl ?_
      exact x_iret rfl rfl rfl ⟨by rw [show cmdN β ps = 0 from by unfold cmdN; rw [hns]; simp [pTx, pEq, a1, a2, hF, h5, c1]]; rfl, rfl⟩
    · iterate 2 refine x_step rfl ?_
      refine x_icmpN_ne (pY β ps 1 2) (85) rfl rfl rfl (fun c2 => ?_) (fun c2 => ?_)
      · refine x_step rfl ?_
        exact x_iret rfl rfl rfl ⟨by rw [show cmdN β ps = 0 from by unfold cmdN; rw [hns]; simp [pTx, pEq, a1, a2, hF, h5, c2]]; rfl, rfl⟩
      · iterate 2 refine x_step rfl ?_
        refine x_icmpN_ne (pY β ps 1 3) (83) rfl rfl rfl (fun c3 => ?_) (fun c3 => ?_)
        · refine x_step rfl ?_
          exact x_iret rfl rfl rfl ⟨by rw [show cmdN β ps = 0 from by unfold cmdN; rw [hns]; simp [pTx, pEq, a1, a2, hF, h5, c3]]; rfl, rfl⟩
        · iterate 2 refine x_step rfl ?_
          refine x_icmpN_ne (pY β ps 1 4) (69) rfl rfl rfl (fun c4 => ?_) (fun c4 => ?_)
          · refine x_step rfl ?_
            exact x_iret rfl rfl rfl ⟨by rw [show cmdN β ps = 0 from by unfold cmdN; rw [hns]; simp [pTx, pEq, a1, a2, hF, h5, c4]]; rfl, rfl⟩
          · iterate 2 refine x_step rfl ?_
            exact x_iret rfl rfl rfl ⟨by rw [show cmdN β ps = 3 from by unfold cmdN; rw [hns]; simp [pTx, pEq, a1, a2, hF, h5, c0, c1, c2, c3, c4]]; rfl, rfl⟩
theorem q223_5 (hb : ∀ i, i < 130 → jb (i + 1) = nI (β i)) (hβ : ∀ i, β i < 256) (he : e ≤ 130) (D p q : Nat) (hat : itAt β e ps D 1 p q) (hF : itF β p = 16) (h5 : itS β p = 5) : XW l 223 d 0 0 109 [some (.ref 103), some (.int (nI (p + 1))), some (.int (nI (itS β p))), some (.int (nI (itT β p + 1))), some (.int (nI (pY β ps 1 0))), some (.int (nI (pY β ps 1 1))), some (.int (nI (pY β ps 1 2))), some (.int (nI (pY β ps 1 3))), some (.int (nI (pY β ps 1 4))), none] [] (cw L xs (rw th jl js jh jb jc jr jq jQ jz jf jo jn jt jH jA jm jy je jp jk jx jw ju jF jL jO jS jT jU jV jW ja jG ov g2) tc tf bl bf of oc ol on ml mx mb kc kh kr ka gl gx gb ls lq lk lg lh vf vs vb nv nw nr nq ne io sp ch wt xf xz xt xb xc) (xm_is (some (.int (nI (cmdN β ps)))) (cw L xs (rw th jl js jh jb jc jr jq jQ jz jf jo jn jt jH jA jm jy je jp jk jx jw ju jF jL jO jS jT jU jV jW ja jG ov g2) tc tf bl bf of oc ol on ml mx mb kc kh kr ka gl gx gb ls lq lk lg lh vf vs vb nv nw nr nq ne io sp ch wt xf xz xt xb xc)) := by
  obtain ⟨_, -, a1, a2, -, -, hpe, hTe⟩ := hat.get
  have hS := itS_lt hβ p
  have hy0 := pY_lt (ps := ps) hβ 1 0
  have hy1 := pY_lt (ps := ps) hβ 1 1
  have hy2 := pY_lt (ps := ps) hβ 1 2
  have hy3 := pY_lt (ps := ps) hβ 1 3
  have hy4 := pY_lt (ps := ps) hβ 1 4
  iterate 2 refine x_step rfl ?_
  refine x_icmpN_ne (pY β ps 1 0) (83) rfl rfl rfl (fun c0 => ?_) (fun c0 => ?_)
  · iterate 3 refine x_step rfl ?_
    refine x_if_eq rfl (fun _ => ?_) (fun q => absurd (by decide) q)
    exact q223_p hb hβ he D p q hat hF h5 (by simp [pTx, pEq, c0])
  · iterate 2 refine x_step rfl ?_
    refine x_icmpN_ne (pY β ps 1 1) (84) rfl rfl rfl (fun c1 => ?_) (fun c1 => ?_)
    · iterate 3 refine x_step rfl ?_
      refine x_if_eq rfl (fun _ => ?_) (fun q => absurd (by decide) q)
      exact q223_p hb hβ he D p q hat hF h5 (by simp [pTx, pEq, c1])
    · iterate 2 refine x_step rfl ?_
      refine x_icmpN_ne (pY β ps 1 2) (65) rfl rfl rfl (fun c2 => ?_) (fun c2 => ?_)
      · iterate 3 refine x_step rfl ?_
        refine x_if_eq rfl (fun _ => ?_) (fun q => absurd (by decide) q)
        exact q223_p hb hβ he D p q hat hF h5 (by simp [pTx, pEq, c2])
      · iterate 2 refine x_step rfl ?_
        refine x_icmpN_ne (pY β ps 1 3) (82) rfl rfl rfl (fun c3 => ?_) (fun c3 => ?_)
        · iterate 3 refine x_step rfl ?_
          refine x_if_eq rfl (fun _ => ?_) (fun q => absurd (by decide) q)
          exact q223_p hb hβ he D p q hat hF h5 (by simp [pTx, pEq, c3])
        · iterate 2 refine x_step rfl ?_
          refine x_icmpN_ne (pY β ps 1 4) (84) rfl rfl rfl (fun c4 => ?_) (fun c4 => ?_)
          · iterate 3 refine x_step rfl ?_
            refine x_if_eq rfl (fun _ => ?_) (fun q => absurd (by decide) q)
            exact q223_p hb hβ he D p q hat hF h5 (by simp [pTx, pEq, c4])
          · iterate 4 refine x_step rfl ?_
            refine x_if_eq rfl (fun q => absurd q (by decide)) (fun _ => ?_)
            iterate 2 refine x_step rfl ?_
            exact x_iret rfl rfl rfl ⟨by rw [show cmdN β ps = 1 from by simp [cmdN, pTx, pEq, a1, a2, hF, h5, c0, c1, c2, c3, c4]]; rfl, rfl⟩
theorem q223_g (hb : ∀ i, i < 130 → jb (i + 1) = nI (β i)) (hβ : ∀ i, β i < 256) (he : e ≤ 130) (D p q : Nat) (hat : itAt β e ps D 1 p q) (hF : itF β p = 16) (h5 : itS β p ≠ 5) (hns : pTx β ps 1 [83, 84, 79, 80] = false) : XW l 223 d 0 0 238 [some (.ref 103), some (.int (nI (p + 1))), some (.int (nI (itS β p))), some (.int (nI (itT β p + 1))), some (.int (nI (pY β ps 1 0))), some (.int (nI (pY β ps 1 1))), some (.int (nI (pY β ps 1 2))), some (.int (nI (pY β ps 1 3))), some (.int (nI (pY β ps 1 4))), none] [] (cw L xs (rw th jl js jh jb jc jr jq jQ jz jf jo jn jt jH jA jm jy je jp jk jx jw ju jF jL jO jS jT jU jV jW ja jG ov g2) tc tf bl bf of oc ol on ml mx mb kc kh kr ka gl gx gb ls lq lk lg lh vf vs vb nv nw nr nq ne io sp ch wt xf xz xt xb xc) (xm_is (some (.int (nI (cmdN β ps)))) (cw L xs (rw th jl js jh jb jc jr jq jQ jz jf jo jn jt jH jA jm jy je jp jk jx jw ju jF jL jO jS jT jU jV jW ja jG ov g2) tc tf bl bf of oc ol on ml mx mb kc kh kr ka gl gx gb ls lq lk lg lh vf vs vb nv nw nr nq ne io sp ch wt xf xz xt xb xc)) := by
  obtain ⟨_, -, a1, a2, -, -, hpe, hTe⟩ := hat.get
  have hS := itS_lt hβ p
  have hy0 := pY_lt (ps := ps) hβ 1 0
  have hy1 := pY_lt (ps := ps) hβ 1 1
  have hy2 := pY_lt (ps := ps) hβ 1 2
  have hy3 := pY_lt (ps := ps) hβ 1 3
  have hy4 := pY_lt (ps := ps) hβ 1 4
  iterate 2 refine x_step rfl ?_
  refine x_icmpN_ne (itS β p) (2) rfl rfl rfl (fun h2 => ?_) (fun h2 => ?_)
  · refine x_step rfl ?_
    exact x_iret rfl rfl rfl ⟨by rw [show cmdN β ps = 0 from by unfold cmdN; rw [hns]; simp [pTx, pEq, a1, a2, hF, h5, h2]]; rfl, rfl⟩
  · iterate 2 refine x_step rfl ?_
    refine x_icmpN_ne (pY β ps 1 0) (71) rfl rfl rfl (fun c0 => ?_) (fun c0 => ?_)
    · refine x_step rfl ?_
      exact x_iret rfl rfl rfl ⟨by rw [show cmdN β ps = 0 from by simp [cmdN, pTx, pEq, a1, a2, hF, h5, h2, c0]]; rfl, rfl⟩
    · iterate 2 refine x_step rfl ?_
      refine x_icmpN_ne (pY β ps 1 1) (79) rfl rfl rfl (fun c1 => ?_) (fun c1 => ?_)
      · refine x_step rfl ?_
        exact x_iret rfl rfl rfl ⟨by rw [show cmdN β ps = 0 from by simp [cmdN, pTx, pEq, a1, a2, hF, h5, h2, c1]]; rfl, rfl⟩
      · iterate 2 refine x_step rfl ?_
        exact x_iret rfl rfl rfl ⟨by rw [show cmdN β ps = 4 from by simp [cmdN, pTx, pEq, a1, a2, hF, h2, c0, c1]]; rfl, rfl⟩
theorem q223_4 (hb : ∀ i, i < 130 → jb (i + 1) = nI (β i)) (hβ : ∀ i, β i < 256) (he : e ≤ 130) (D p q : Nat) (hat : itAt β e ps D 1 p q) (hF : itF β p = 16) (h5 : itS β p ≠ 5) : XW l 223 d 0 0 201 [some (.ref 103), some (.int (nI (p + 1))), some (.int (nI (itS β p))), some (.int (nI (itT β p + 1))), some (.int (nI (pY β ps 1 0))), some (.int (nI (pY β ps 1 1))), some (.int (nI (pY β ps 1 2))), some (.int (nI (pY β ps 1 3))), some (.int (nI (pY β ps 1 4))), none] [] (cw L xs (rw th jl js jh jb jc jr jq jQ jz jf jo jn jt jH jA jm jy je jp jk jx jw ju jF jL jO jS jT jU jV jW ja jG ov g2) tc tf bl bf of oc ol on ml mx mb kc kh kr ka gl gx gb ls lq lk lg lh vf vs vb nv nw nr nq ne io sp ch wt xf xz xt xb xc) (xm_is (some (.int (nI (cmdN β ps)))) (cw L xs (rw th jl js jh jb jc jr jq jQ jz jf jo jn jt jH jA jm jy je jp jk jx jw ju jF jL jO jS jT jU jV jW ja jG ov g2) tc tf bl bf of oc ol on ml mx mb kc kh kr ka gl gx gb ls lq lk lg lh vf vs vb nv nw nr nq ne io sp ch wt xf xz xt xb xc)) := by
  obtain ⟨_, -, a1, a2, -, -, hpe, hTe⟩ := hat.get
  have hS := itS_lt hβ p
  have hy0 := pY_lt (ps := ps) hβ 1 0
  have hy1 := pY_lt (ps := ps) hβ 1 1
  have hy2 := pY_lt (ps := ps) hβ 1 2
  have hy3 := pY_lt (ps := ps) hβ 1 3
  have hy4 := pY_lt (ps := ps) hβ 1 4
  iterate 2 refine x_step rfl ?_
  refine x_icmpN_ne (itS β p) (4) rfl rfl rfl (fun h4 => ?_) (fun h4 => ?_)
  · exact q223_g hb hβ he D p q hat hF h5 (by simp [pTx, a2, h4])
  · iterate 2 refine x_step rfl ?_
    refine x_icmpN_ne (pY β ps 1 0) (83) rfl rfl rfl (fun c0 => ?_) (fun c0 => ?_)
    · exact q223_g hb hβ he D p q hat hF h5 (by simp [pTx, pEq, c0])
    · iterate 2 refine x_step rfl ?_
      refine x_icmpN_ne (pY β ps 1 1) (84) rfl rfl rfl (fun c1 => ?_) (fun c1 => ?_)
      · exact q223_g hb hβ he D p q hat hF h5 (by simp [pTx, pEq, c1])
      · iterate 2 refine x_step rfl ?_
        refine x_icmpN_ne (pY β ps 1 2) (79) rfl rfl rfl (fun c2 => ?_) (fun c2 => ?_)
        · exact q223_g hb hβ he D p q hat hF h5 (by simp [pTx, pEq, c2])
        · iterate 2 refine x_step rfl ?_
          refine x_icmpN_ne (pY β ps 1 3) (80) rfl rfl rfl (fun c3 => ?_) (fun c3 => ?_)
          · exact q223_g hb hβ he D p q hat hF h5 (by simp [pTx, pEq, c3])
          · iterate 2 refine x_step rfl ?_
            exact x_iret rfl rfl rfl ⟨by rw [show cmdN β ps = 2 from by simp [cmdN, pTx, pEq, a1, a2, hF, h4, c0, c1, c2, c3]]; rfl, rfl⟩
theorem q223_x5 (hb : ∀ i, i < 130 → jb (i + 1) = nI (β i)) (hβ : ∀ i, β i < 256) (he : e ≤ 130) (D p q : Nat) (hat : itAt β e ps D 1 p q) (hF : itF β p = 16) : XW l 223 d 0 0 104 [some (.ref 103), some (.int (nI (p + 1))), some (.int (nI (itS β p))), some (.int (nI (itT β p + 1))), some (.int (nI (pY β ps 1 0))), some (.int (nI (pY β ps 1 1))), some (.int (nI (pY β ps 1 2))), some (.int (nI (pY β ps 1 3))), some (.int (nI (pY β ps 1 4))), none] [] (cw L xs (rw th jl js jh jb jc jr jq jQ jz jf jo jn jt jH jA jm jy je jp jk jx jw ju jF jL jO jS jT jU jV jW ja jG ov g2) tc tf bl bf of oc ol on ml mx mb kc kh kr ka gl gx gb ls lq lk lg lh vf vs vb nv nw nr nq ne io sp ch wt xf xz xt xb xc) (xm_is (some (.int (nI (cmdN β ps)))) (cw L xs (rw th jl js jh jb jc jr jq jQ jz jf jo jn jt jH jA jm jy je jp jk jx jw ju jF jL jO jS jT jU jV jW ja jG ov g2) tc tf bl bf of oc ol on ml mx mb kc kh kr ka gl gx gb ls lq lk lg lh vf vs vb nv nw nr nq ne io sp ch wt xf xz xt xb xc)) := by
  obtain ⟨_, -, a1, a2, -, -, hpe, hTe⟩ := hat.get
  have hS := itS_lt hβ p
  have hy0 := pY_lt (ps := ps) hβ 1 0
  have hy1 := pY_lt (ps := ps) hβ 1 1
  have hy2 := pY_lt (ps := ps) hβ 1 2
  have hy3 := pY_lt (ps := ps) hβ 1 3
  have hy4 := pY_lt (ps := ps) hβ 1 4
  iterate 2 refine x_step rfl ?_
  refine x_icmpN_ne (itS β p) (5) rfl rfl rfl (fun h5 => ?_) (fun h5 => ?_)
  · exact q223_4 hb hβ he D p q hat hF h5
  · exact q223_5 hb hβ he D p q hat hF h5
theorem q223_x4 (hb : ∀ i, i < 130 → jb (i + 1) = nI (β i)) (hβ : ∀ i, β i < 256) (he : e ≤ 130) (D p q : Nat) (hat : itAt β e ps D 1 p q) (hF : itF β p = 16) : XW l 223 d 0 0 85 [some (.ref 103), some (.int (nI (p + 1))), some (.int (nI (itS β p))), some (.int (nI (itT β p + 1))), some (.int (nI (pY β ps 1 0))), some (.int (nI (pY β ps 1 1))), some (.int (nI (pY β ps 1 2))), some (.int (nI (pY β ps 1 3))), none, none] [] (cw L xs (rw th jl js jh jb jc jr jq jQ jz jf jo jn jt jH jA jm jy je jp jk jx jw ju jF jL jO jS jT jU jV jW ja jG ov g2) tc tf bl bf of oc ol on ml mx mb kc kh kr ka gl gx gb ls lq lk lg lh vf vs vb nv nw nr nq ne io sp ch wt xf xz xt xb xc) (xm_is (some (.int (nI (cmdN β ps)))) (cw L xs (rw th jl js jh jb jc jr jq jQ jz jf jo jn jt jH jA jm jy je jp jk jx jw ju jF jL jO jS jT jU jV jW ja jG ov g2) tc tf bl bf of oc ol on ml mx mb kc kh kr ka gl gx gb ls lq lk lg lh vf vs vb nv nw nr nq ne io sp ch wt xf xz xt xb xc)) := by
  obtain ⟨_, -, a1, a2, -, -, hpe, hTe⟩ := hat.get
  have hS := itS_lt hβ p
  have hy0 := pY_lt (ps := ps) hβ 1 0
  have hy1 := pY_lt (ps := ps) hβ 1 1
  have hy2 := pY_lt (ps := ps) hβ 1 2
  have hy3 := pY_lt (ps := ps) hβ 1 3
  have hy4 := pY_lt (ps := ps) hβ 1 4
  iterate 2 refine x_step rfl ?_
  refine x_icmpN_le (itS β p) (4) rfl rfl rfl (fun hk => ?_) (fun hk => ?_)
  · have hz : pY β ps 1 4 = 0 := by rw [pY, a2, if_neg (by omega)]
    iterate 2 refine x_step rfl ?_
    refine xm_ls (pl' := [some (.ref 103), some (.int (nI (p + 1))), some (.int (nI (itS β p))), some (.int (nI (itT β p + 1))), some (.int (nI (pY β ps 1 0))), some (.int (nI (pY β ps 1 1))), some (.int (nI (pY β ps 1 2))), some (.int (nI (pY β ps 1 3))), some (.int (nI (pY β ps 1 4))), none]) (by rw [hz] <;> rfl) ?_
    exact q223_x5 hb hβ he D p q hat hF
  · obtain ⟨y1, y2⟩ := pY_at (k := 4) hat (by omega) he (by omega)
    iterate 5 refine x_step rfl ?_
    refine x_ialdN (itT β p + 4 + 1) rfl rfl (by rw [show nI (itT β p + 1) + 4 = nI (itT β p + 1 + 4) from nI_add _ 4]) (by omega) ?_
    iterate 2 refine x_step rfl ?_
    refine xm_ls (pl' := [some (.ref 103), some (.int (nI (p + 1))), some (.int (nI (itS β p))), some (.int (nI (itT β p + 1))), some (.int (nI (pY β ps 1 0))), some (.int (nI (pY β ps 1 1))), some (.int (nI (pY β ps 1 2))), some (.int (nI (pY β ps 1 3))), some (.int (nI (pY β ps 1 4))), none]) (by rw [y1, hb _ y2] <;> rfl) ?_
    exact q223_x5 hb hβ he D p q hat hF
theorem q223_x3 (hb : ∀ i, i < 130 → jb (i + 1) = nI (β i)) (hβ : ∀ i, β i < 256) (he : e ≤ 130) (D p q : Nat) (hat : itAt β e ps D 1 p q) (hF : itF β p = 16) : XW l 223 d 0 0 66 [some (.ref 103), some (.int (nI (p + 1))), some (.int (nI (itS β p))), some (.int (nI (itT β p + 1))), some (.int (nI (pY β ps 1 0))), some (.int (nI (pY β ps 1 1))), some (.int (nI (pY β ps 1 2))), none, none, none] [] (cw L xs (rw th jl js jh jb jc jr jq jQ jz jf jo jn jt jH jA jm jy je jp jk jx jw ju jF jL jO jS jT jU jV jW ja jG ov g2) tc tf bl bf of oc ol on ml mx mb kc kh kr ka gl gx gb ls lq lk lg lh vf vs vb nv nw nr nq ne io sp ch wt xf xz xt xb xc) (xm_is (some (.int (nI (cmdN β ps)))) (cw L xs (rw th jl js jh jb jc jr jq jQ jz jf jo jn jt jH jA jm jy je jp jk jx jw ju jF jL jO jS jT jU jV jW ja jG ov g2) tc tf bl bf of oc ol on ml mx mb kc kh kr ka gl gx gb ls lq lk lg lh vf vs vb nv nw nr nq ne io sp ch wt xf xz xt xb xc)) := by
  obtain ⟨_, -, a1, a2, -, -, hpe, hTe⟩ := hat.get
  have hS := itS_lt hβ p
  have hy0 := pY_lt (ps := ps) hβ 1 0
  have hy1 := pY_lt (ps := ps) hβ 1 1
  have hy2 := pY_lt (ps := ps) hβ 1 2
  have hy3 := pY_lt (ps := ps) hβ 1 3
  have hy4 := pY_lt (ps := ps) hβ 1 4
  iterate 2 refine x_step rfl ?_
  refine x_icmpN_le (itS β p) (3) rfl rfl rfl (fun hk => ?_) (fun hk => ?_)
  · have hz : pY β ps 1 3 = 0 := by rw [pY, a2, if_neg (by omega)]
    iterate 2 refine x_step rfl ?_
    refine xm_ls (pl' := [some (.ref 103), some (.int (nI (p + 1))), some (.int (nI (itS β p))), some (.int (nI (itT β p + 1))), some (.int (nI (pY β ps 1 0))), some (.int (nI (pY β ps 1 1))), some (.int (nI (pY β ps 1 2))), some (.int (nI (pY β ps 1 3))), none, none]) (by rw [hz] <;> rfl) ?_
    exact q223_x4 hb hβ he D p q hat hF
  · obtain ⟨y1, y2⟩ := pY_at (k := 3) hat (by omega) he (by omega)
    iterate 5 refine x_step rfl ?_
    refine x_ialdN (itT β p + 3 + 1) rfl rfl (by rw [show nI (itT β p + 1) + 3 = nI (itT β p + 1 + 3) from nI_add _ 3]) (by omega) ?_
    iterate 2 refine x_step rfl ?_
    refine xm_ls (pl' := [some (.ref 103), some (.int (nI (p + 1))), some (.int (nI (itS β p))), some (.int (nI (itT β p + 1))), some (.int (nI (pY β ps 1 0))), some (.int (nI (pY β ps 1 1))), some (.int (nI (pY β ps 1 2))), some (.int (nI (pY β ps 1 3))), none, none]) (by rw [y1, hb _ y2] <;> rfl) ?_
    exact q223_x4 hb hβ he D p q hat hF
theorem q223_x2 (hb : ∀ i, i < 130 → jb (i + 1) = nI (β i)) (hβ : ∀ i, β i < 256) (he : e ≤ 130) (D p q : Nat) (hat : itAt β e ps D 1 p q) (hF : itF β p = 16) : XW l 223 d 0 0 47 [some (.ref 103), some (.int (nI (p + 1))), some (.int (nI (itS β p))), some (.int (nI (itT β p + 1))), some (.int (nI (pY β ps 1 0))), some (.int (nI (pY β ps 1 1))), none, none, none, none] [] (cw L xs (rw th jl js jh jb jc jr jq jQ jz jf jo jn jt jH jA jm jy je jp jk jx jw ju jF jL jO jS jT jU jV jW ja jG ov g2) tc tf bl bf of oc ol on ml mx mb kc kh kr ka gl gx gb ls lq lk lg lh vf vs vb nv nw nr nq ne io sp ch wt xf xz xt xb xc) (xm_is (some (.int (nI (cmdN β ps)))) (cw L xs (rw th jl js jh jb jc jr jq jQ jz jf jo jn jt jH jA jm jy je jp jk jx jw ju jF jL jO jS jT jU jV jW ja jG ov g2) tc tf bl bf of oc ol on ml mx mb kc kh kr ka gl gx gb ls lq lk lg lh vf vs vb nv nw nr nq ne io sp ch wt xf xz xt xb xc)) := by
  obtain ⟨_, -, a1, a2, -, -, hpe, hTe⟩ := hat.get
  have hS := itS_lt hβ p
  have hy0 := pY_lt (ps := ps) hβ 1 0
  have hy1 := pY_lt (ps := ps) hβ 1 1
  have hy2 := pY_lt (ps := ps) hβ 1 2
  have hy3 := pY_lt (ps := ps) hβ 1 3
  have hy4 := pY_lt (ps := ps) hβ 1 4
  iterate 2 refine x_step rfl ?_
  refine x_icmpN_le (itS β p) (2) rfl rfl rfl (fun hk => ?_) (fun hk => ?_)
  · have hz : pY β ps 1 2 = 0 := by rw [pY, a2, if_neg (by omega)]
    iterate 2 refine x_step rfl ?_
    refine xm_ls (pl' := [some (.ref 103), some (.int (nI (p + 1))), some (.int (nI (itS β p))), some (.int (nI (itT β p + 1))), some (.int (nI (pY β ps 1 0))), some (.int (nI (pY β ps 1 1))), some (.int (nI (pY β ps 1 2))), none, none, none]) (by rw [hz] <;> rfl) ?_
    exact q223_x3 hb hβ he D p q hat hF
  · obtain ⟨y1, y2⟩ := pY_at (k := 2) hat (by omega) he (by omega)
    iterate 5 refine x_step rfl ?_
    refine x_ialdN (itT β p + 2 + 1) rfl rfl (by rw [show nI (itT β p + 1) + 2 = nI (itT β p + 1 + 2) from nI_add _ 2]) (by omega) ?_
    iterate 2 refine x_step rfl ?_
    refine xm_ls (pl' := [some (.ref 103), some (.int (nI (p + 1))), some (.int (nI (itS β p))), some (.int (nI (itT β p + 1))), some (.int (nI (pY β ps 1 0))), some (.int (nI (pY β ps 1 1))), some (.int (nI (pY β ps 1 2))), none, none, none]) (by rw [y1, hb _ y2] <;> rfl) ?_
    exact q223_x3 hb hβ he D p q hat hF
theorem q223_x1 (hb : ∀ i, i < 130 → jb (i + 1) = nI (β i)) (hβ : ∀ i, β i < 256) (he : e ≤ 130) (D p q : Nat) (hat : itAt β e ps D 1 p q) (hF : itF β p = 16) : XW l 223 d 0 0 28 [some (.ref 103), some (.int (nI (p + 1))), some (.int (nI (itS β p))), some (.int (nI (itT β p + 1))), some (.int (nI (pY β ps 1 0))), none, none, none, none, none] [] (cw L xs (rw th jl js jh jb jc jr jq jQ jz jf jo jn jt jH jA jm jy je jp jk jx jw ju jF jL jO jS jT jU jV jW ja jG ov g2) tc tf bl bf of oc ol on ml mx mb kc kh kr ka gl gx gb ls lq lk lg lh vf vs vb nv nw nr nq ne io sp ch wt xf xz xt xb xc) (xm_is (some (.int (nI (cmdN β ps)))) (cw L xs (rw th jl js jh jb jc jr jq jQ jz jf jo jn jt jH jA jm jy je jp jk jx jw ju jF jL jO jS jT jU jV jW ja jG ov g2) tc tf bl bf of oc ol on ml mx mb kc kh kr ka gl gx gb ls lq lk lg lh vf vs vb nv nw nr nq ne io sp ch wt xf xz xt xb xc)) := by
  obtain ⟨_, -, a1, a2, -, -, hpe, hTe⟩ := hat.get
  have hS := itS_lt hβ p
  have hy0 := pY_lt (ps := ps) hβ 1 0
  have hy1 := pY_lt (ps := ps) hβ 1 1
  have hy2 := pY_lt (ps := ps) hβ 1 2
  have hy3 := pY_lt (ps := ps) hβ 1 3
  have hy4 := pY_lt (ps := ps) hβ 1 4
  iterate 2 refine x_step rfl ?_
  refine x_icmpN_le (itS β p) (1) rfl rfl rfl (fun hk => ?_) (fun hk => ?_)
  · have hz : pY β ps 1 1 = 0 := by rw [pY, a2, if_neg (by omega)]
    iterate 2 refine x_step rfl ?_
    refine xm_ls (pl' := [some (.ref 103), some (.int (nI (p + 1))), some (.int (nI (itS β p))), some (.int (nI (itT β p + 1))), some (.int (nI (pY β ps 1 0))), some (.int (nI (pY β ps 1 1))), none, none, none, none]) (by rw [hz] <;> rfl) ?_
    exact q223_x2 hb hβ he D p q hat hF
  · obtain ⟨y1, y2⟩ := pY_at (k := 1) hat (by omega) he (by omega)
    iterate 5 refine x_step rfl ?_
    refine x_ialdN (itT β p + 1 + 1) rfl rfl (by rw [show nI (itT β p + 1) + 1 = nI (itT β p + 1 + 1) from nI_add _ 1]) (by omega) ?_
    iterate 2 refine x_step rfl ?_
    refine xm_ls (pl' := [some (.ref 103), some (.int (nI (p + 1))), some (.int (nI (itS β p))), some (.int (nI (itT β p + 1))), some (.int (nI (pY β ps 1 0))), some (.int (nI (pY β ps 1 1))), none, none, none, none]) (by rw [y1, hb _ y2] <;> rfl) ?_
    exact q223_x2 hb hβ he D p q hat hF
theorem q223_x0 (hb : ∀ i, i < 130 → jb (i + 1) = nI (β i)) (hβ : ∀ i, β i < 256) (he : e ≤ 130) (D p q : Nat) (hat : itAt β e ps D 1 p q) (hF : itF β p = 16) : XW l 223 d 0 0 12 [some (.ref 103), some (.int (nI (p + 1))), some (.int (nI (itS β p))), some (.int (nI (itT β p + 1))), none, none, none, none, none, none] [] (cw L xs (rw th jl js jh jb jc jr jq jQ jz jf jo jn jt jH jA jm jy je jp jk jx jw ju jF jL jO jS jT jU jV jW ja jG ov g2) tc tf bl bf of oc ol on ml mx mb kc kh kr ka gl gx gb ls lq lk lg lh vf vs vb nv nw nr nq ne io sp ch wt xf xz xt xb xc) (xm_is (some (.int (nI (cmdN β ps)))) (cw L xs (rw th jl js jh jb jc jr jq jQ jz jf jo jn jt jH jA jm jy je jp jk jx jw ju jF jL jO jS jT jU jV jW ja jG ov g2) tc tf bl bf of oc ol on ml mx mb kc kh kr ka gl gx gb ls lq lk lg lh vf vs vb nv nw nr nq ne io sp ch wt xf xz xt xb xc)) := by
  obtain ⟨_, -, a1, a2, -, -, hpe, hTe⟩ := hat.get
  have hS := itS_lt hβ p
  have hy0 := pY_lt (ps := ps) hβ 1 0
  have hy1 := pY_lt (ps := ps) hβ 1 1
  have hy2 := pY_lt (ps := ps) hβ 1 2
  have hy3 := pY_lt (ps := ps) hβ 1 3
  have hy4 := pY_lt (ps := ps) hβ 1 4
  refine x_step rfl ?_
  refine x_ifN_le (itS β p) rfl rfl (fun hk => ?_) (fun hk => ?_)
  · have hz : pY β ps 1 0 = 0 := by rw [pY, a2, if_neg (by omega)]
    iterate 2 refine x_step rfl ?_
    refine xm_ls (pl' := [some (.ref 103), some (.int (nI (p + 1))), some (.int (nI (itS β p))), some (.int (nI (itT β p + 1))), some (.int (nI (pY β ps 1 0))), none, none, none, none, none]) (by rw [hz] <;> rfl) ?_
    exact q223_x1 hb hβ he D p q hat hF
  · obtain ⟨y1, y2⟩ := pY_at (k := 0) hat (by omega) he (by omega)
    iterate 3 refine x_step rfl ?_
    refine x_ialdN (itT β p + 1) rfl rfl rfl (by omega) ?_
    iterate 2 refine x_step rfl ?_
    refine xm_ls (pl' := [some (.ref 103), some (.int (nI (p + 1))), some (.int (nI (itS β p))), some (.int (nI (itT β p + 1))), some (.int (nI (pY β ps 1 0))), none, none, none, none, none]) (by rw [y1, hb _ y2] <;> rfl) ?_
    exact q223_x1 hb hβ he D p q hat hF
/-- FabLinkModel.commandOf -/
theorem q223 (hd : 1 ≤ d) (hb : ∀ i, i < 130 → jb (i + 1) = nI (β i)) (hβ : ∀ i, β i < 256) (he : e ≤ 130) (D p q : Nat) (hat : itAt β e ps D 1 p q) (hF : itF β p = 16) : XM l 223 d 0 0 [.ref 103, .int (nI (p + 1))] (cw L xs (rw th jl js jh jb jc jr jq jQ jz jf jo jn jt jH jA jm jy je jp jk jx jw ju jF jL jO jS jT jU jV jW ja jG ov g2) tc tf bl bf of oc ol on ml mx mb kc kh kr ka gl gx gb ls lq lk lg lh vf vs vb nv nw nr nq ne io sp ch wt xf xz xt xb xc) (xm_is (some (.int (nI (cmdN β ps)))) (cw L xs (rw th jl js jh jb jc jr jq jQ jz jf jo jn jt jH jA jm jy je jp jk jx jw ju jF jL jO jS jT jU jV jW ja jG ov g2) tc tf bl bf of oc ol on ml mx mb kc kh kr ka gl gx gb ls lq lk lg lh vf vs vb nv nw nr nq ne io sp ch wt xf xz xt xb xc)) := by
  refine XE (pl := [some (.ref 103), some (.int (nI (p + 1))), none, none, none, none, none, none, none, none]) xg223 rfl ?_
  obtain ⟨_, -, a1, a2, -, -, hpe, hTe⟩ := hat.get
  iterate 2 refine x_step rfl ?_
  refine x_callvE rfl (q188 (d := 0) hb hβ p (by omega)) rfl rfl rfl ?_
  iterate 3 refine x_step rfl ?_
  refine x_callvE rfl (q189 (d := 0) hb hβ p (by omega)) rfl rfl rfl ?_
  refine x_step rfl ?_
  refine xm_ls (pl' := [some (.ref 103), some (.int (nI (p + 1))), some (.int (nI (itS β p))), some (.int (nI (itT β p + 1))), none, none, none, none, none, none]) rfl ?_
  exact q223_x0 hb hβ he D p q hat hF
end ER13
