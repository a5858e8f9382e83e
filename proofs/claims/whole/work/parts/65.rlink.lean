section ER12
variable {l : Launch} {d L : Nat} {xs : Nat → Int32} {tc : Int32} {tf : (Nat → Int32)} {bl : Int32} {bf : (Nat → Int32)} {of : Int32} {oc : Int32} {ol : Int32} {on : Int32} {ml : (Nat → Int32)} {mx : (Nat → Int32)} {mb : (Nat → Nat → Int32)} {kc : Int32} {kh : (Nat → Nat)} {kr : (Nat → Nat → Int32)} {ka : (Nat → Int32)} {gl : Int32} {gx : Int32} {gb : (Nat → Int32)} {ls : Int32} {lq : Int32} {lk : Int32} {lg : Int32} {lh : Int32} {vf : (Nat → Int32)} {vs : (Nat → Int32)} {vb : (Nat → Nat → Int32)} {nv : (Nat → Int32)} {nw : (Nat → Nat → Int32)} {nr : (Nat → Int32)} {nq : (Nat → Nat → Int32)} {ne : (Nat → Int32)} {io : Int32} {sp : Int32} {ch : Int32} {wt : Int32} {xf : (Nat → Int32)} {xz : (Nat → Int32)} {xt : (Nat → Int32)} {xb : (Nat → Int32)} {xc : Int32} {th : Int32} {jl : Int32} {js : Int32} {jh : Int32} {jb : (Nat → Int32)} {jc : Int32} {jr : (Nat → Int32)} {jq : Int32} {jQ : (Nat → Int32)} {jz : (Nat → Int32)} {jf : (Nat → Int32)} {jo : Int32} {jn : Int32} {jt : Int32} {jH : (Nat → Int32)} {jA : (Nat → Int32)} {jm : Int32} {jy : (Nat → Int32)} {je : Int32} {jp : Int32} {jk : Int32} {jx : Int32} {jw : Int32} {ju : Int32} {jF : (Nat → Int32)} {jL : (Nat → Int32)} {jO : (Nat → Int32)} {jS : (Nat → Int32)} {jT : (Nat → Int32)} {jU : (Nat → Int32)} {jV : (Nat → Int32)} {jW : (Nat → Int32)} {ja : Int32} {jG : (Nat → Int32)} {ov : (Nat → Value)} {g2 : xm_H}
variable {β : Nat → Nat} {e : Nat} {ps : List (Nat × Nat)} {cr cv : Nat → Nat} {rp vp : Nat → Nat → Nat}
theorem q218_v {Q : xm_Q} (hb : ∀ i, i < 130 → jb (i + 1) = nI (β i)) (hβ : ∀ i, β i < 256) (he : e ≤ 130) (p2 n2 k qk c ql qe : Nat) (hat : itAt β e ps 3 (c + 2) ql qe) (hn : pNums β ps (c + 2) = true) (hcv : ∀ r, cv r < 2 ^ 20) (hd : 3 ≤ d) (W : Nat) : ∀ (m i : Nat), i + m = itS β ql → W = fnN β ps cv c m i → (∀ i, XG l xm_any 218 d 0 0 134 [some (.ref 103), some (.int (nI (p2 + 1))), some (.int (nI n2)), some (.int (nI (W))), some (.int (nI k)), some (.int (nI (qk + 1))), some (.int (nI (ql + 1))), some (.int (nI (itS β ql))), some (.int (nI i))] [] (cw L xs (rw th jl js jh jb jc jr jq jQ jz jf jo jn jt jH jA jm jy je jp jk jx jw ju jF jL jO ((fun z1 => nI (cv z1))) jT ((fun z1 => nI ((cr) z1))) ((fun z1 => nI (rf (rp) z1))) jW ja jG ov g2) tc tf bl bf of oc ol on ml mx mb kc kh kr ka gl gx gb ls lq lk lg lh vf vs vb nv nw nr nq ne io sp ch wt xf xz xt xb xc) Q) → XG l xm_any 218 d 0 0 92 [some (.ref 103), some (.int (nI (p2 + 1))), some (.int (nI n2)), some (.int (nI (0))), some (.int (nI k)), some (.int (nI (qk + 1))), some (.int (nI (ql + 1))), some (.int (nI (itS β ql))), some (.int (nI i))] [] (cw L xs (rw th jl js jh jb jc jr jq jQ jz jf jo jn jt jH jA jm jy je jp jk jx jw ju jF jL jO ((fun z1 => nI (cv z1))) jT ((fun z1 => nI ((cr) z1))) ((fun z1 => nI (rf (rp) z1))) jW ja jG ov g2) tc tf bl bf of oc ol on ml mx mb kc kh kr ka gl gx gb ls lq lk lg lh vf vs vb nv nw nr nq ne io sp ch wt xf xz xt xb xc) Q := by
  obtain ⟨_, -, -, -, -, -, hpe, hTe⟩ := hat.get
  obtain ⟨hF, hN⟩ := nums_at hat he hn
  have hS := itS_lt hβ ql
  intro m
  induction m with
  | zero =>
    intro i hi hW hK
    obtain rfl : i = itS β ql := by omega
    have hW2 : W = 0 := hW
    subst hW2
    iterate 2 refine x_step rfl ?_
    refine x_icmpN_ge (itS β ql) (itS β ql) rfl rfl rfl (fun _ => ?_) (fun q => False.elim (by omega))
    exact hK _
  | succ m ih =>
    intro i hi hW hK
    obtain ⟨D', cs, qi, qi2, hDD, hI, hat2, hy, hT2⟩ := hN i (by omega)
    obtain ⟨_, -, -, -, -, -, hqi, -⟩ := hat2.get
    have hyb := hβ (itT β qi)
    rw [show c + 2 + 1 + i = c + 3 + i by omega] at hy
    iterate 2 refine x_step rfl ?_
    refine x_icmpN_ge (i) (itS β ql) rfl rfl rfl (fun q => False.elim (by omega)) (fun _ => ?_)
    refine x_step rfl ?_
    refine x_if_ne rfl (fun q => absurd (by decide) q) (fun _ => ?_)
    iterate 5 refine x_step rfl ?_
    refine x_callvE rfl (q198 (d := 2) hb hβ he D' ql i qi cs (by omega) (by omega) (by omega) (by omega) hI) rfl rfl rfl ?_
    refine x_callvE rfl (q192 (d := 1) hb hβ qi (by omega) hT2) rfl rfl rfl ?_
    refine x_callvE rfl (q220 (d := 0) (β (itT β qi)) (by omega) hcv) rfl rfl rfl ?_
    refine x_if_eq rfl (fun h => ?_) (fun h => ?_)
    · have hz : ¬ cvo cv (β (itT β qi)) = 0 := by simpa using bI_f h
      iterate 4 refine x_step rfl ?_
      refine xm_ls (pl' := [some (.ref 103), some (.int (nI (p2 + 1))), some (.int (nI n2)), some (.int (nI (0))), some (.int (nI k)), some (.int (nI (qk + 1))), some (.int (nI (ql + 1))), some (.int (nI (itS β ql))), some (.int (nI (i + 1)))]) (by rw [nI_succ i] <;> rfl) ?_
      exact ih (i + 1) (by omega) (by rw [hW, fnN, hy, if_neg hz]) hK
    · have hz : cvo cv (β (itT β qi)) = 0 := by simpa using bI_t h
      have hW2 : W = 5 := by rw [hW, fnN, hy, if_pos hz]
      subst hW2
      iterate 5 refine x_step rfl ?_
      refine xm_ls (pl' := [some (.ref 103), some (.int (nI (p2 + 1))), some (.int (nI n2)), some (.int (nI (5))), some (.int (nI k)), some (.int (nI (qk + 1))), some (.int (nI (ql + 1))), some (.int (nI (itS β ql))), some (.int (nI (i + 1)))]) (by rw [nI_succ i] <;> rfl) ?_
      iterate 2 refine x_step rfl ?_
      refine x_icmpN_ge (i + 1) (itS β ql) rfl rfl rfl (fun hzz => ?_) (fun hzz => ?_)
      · exact hK _
      · refine x_step rfl ?_
        refine x_if_ne rfl (fun _ => ?_) (fun q => absurd q (by decide))
        exact hK _
theorem q218_a {Q : xm_Q} (hb : ∀ i, i < 130 → jb (i + 1) = nI (β i)) (hβ : ∀ i, β i < 256) (he : e ≤ 130) (p2 qe : Nat) (hat : itAt β e ps 5 2 p2 qe) (hT : itT β p2 ≤ 130) (hp2 : p2 < 130) (hrow : ∀ k, k < itS β p2 → tRow β e ps p2 k) (hcv : ∀ r, cv r < 2 ^ 20) (hd : 3 ≤ d) (W : Nat) : ∀ (m k : Nat) (o5 o6 o7 o8 : Option Value), k + m = itS β p2 → W = fLs β ps cv m (cI ps 2 k) → (∀ (k : Nat) (o5 o6 o7 o8 : Option Value), XG l xm_any 218 d 0 0 140 [some (.ref 103), some (.int (nI (p2 + 1))), some (.int (nI (itS β p2))), some (.int (nI (W))), some (.int (nI k)), o5, o6, o7, o8] [] (cw L xs (rw th jl js jh jb jc jr jq jQ jz jf jo jn jt jH jA jm jy je jp jk jx jw ju jF jL jO ((fun z1 => nI (cv z1))) jT ((fun z1 => nI ((cr) z1))) ((fun z1 => nI (rf (rp) z1))) jW ja jG ov g2) tc tf bl bf of oc ol on ml mx mb kc kh kr ka gl gx gb ls lq lk lg lh vf vs vb nv nw nr nq ne io sp ch wt xf xz xt xb xc) Q) → XG l xm_any 218 d 0 0 19 [some (.ref 103), some (.int (nI (p2 + 1))), some (.int (nI (itS β p2))), some (.int (nI (0))), some (.int (nI k)), o5, o6, o7, o8] [] (cw L xs (rw th jl js jh jb jc jr jq jQ jz jf jo jn jt jH jA jm jy je jp jk jx jw ju jF jL jO ((fun z1 => nI (cv z1))) jT ((fun z1 => nI ((cr) z1))) ((fun z1 => nI (rf (rp) z1))) jW ja jG ov g2) tc tf bl bf of oc ol on ml mx mb kc kh kr ka gl gx gb ls lq lk lg lh vf vs vb nv nw nr nq ne io sp ch wt xf xz xt xb xc) Q := by
  have hS := itS_lt hβ p2
  intro m
  induction m with
  | zero =>
    intro k o5 o6 o7 o8 hk hW hK
    obtain rfl : k = itS β p2 := by omega
    have hW2 : W = 0 := hW
    subst hW2
    iterate 2 refine x_step rfl ?_
    refine x_icmpN_ge (itS β p2) (itS β p2) rfl rfl rfl (fun _ => ?_) (fun q => False.elim (by omega))
    exact hK _ _ _ _ _
  | succ m ih =>
    intro k o5 o6 o7 o8 hk hW hK
    obtain ⟨cs, qk, qke, hI, hatk, hqk, ⟨cs0, q0, qe0, hI0, hat0, hy, hT0⟩, csl, ql, qel, hIl, hatl, hnl⟩ := hrow k (by omega)
    obtain ⟨_, -, -, -, -, -, hq0, -⟩ := hat0.get
    obtain ⟨_, -, -, l2, -, -, hql, hTl⟩ := hatl.get
    have hyb := hβ (itT β q0)
    have hSl := itS_lt hβ ql
    have hfr : fL β ps cv (cI ps 2 k) = if 2 < itS β ql then 1 else if ¬ (1 ≤ β (itT β q0) ∧ β (itT β q0) ≤ 5) then 4 else fnN β ps cv (cI ps 2 k) (itS β ql) 0 := by rw [fL, hy, l2]
    have done : ∀ (w : Nat) (i9 : Nat), w = fL β ps cv (cI ps 2 k) → w < 2 ^ 20 → XG l xm_any 218 d 0 0 134 [some (.ref 103), some (.int (nI (p2 + 1))), some (.int (nI (itS β p2))), some (.int (nI (w))), some (.int (nI k)), some (.int (nI (qk + 1))), some (.int (nI (ql + 1))), some (.int (nI (itS β ql))), some (.int (nI i9))] [] (cw L xs (rw th jl js jh jb jc jr jq jQ jz jf jo jn jt jH jA jm jy je jp jk jx jw ju jF jL jO ((fun z1 => nI (cv z1))) jT ((fun z1 => nI ((cr) z1))) ((fun z1 => nI (rf (rp) z1))) jW ja jG ov g2) tc tf bl bf of oc ol on ml mx mb kc kh kr ka gl gx gb ls lq lk lg lh vf vs vb nv nw nr nq ne io sp ch wt xf xz xt xb xc) Q := by
      intro w i9 hw hw2
      iterate 2 refine x_step rfl ?_
      refine xm_ls (pl' := [some (.ref 103), some (.int (nI (p2 + 1))), some (.int (nI (itS β p2))), some (.int (nI (w))), some (.int (nI (k + 1))), some (.int (nI (qk + 1))), some (.int (nI (ql + 1))), some (.int (nI (itS β ql))), some (.int (nI i9))]) (by rw [nI_succ k] <;> rfl) ?_
      by_cases hw0 : w = 0
      · subst hw0
        refine ih (k + 1) _ _ _ _ (by omega) ?_ hK
        rw [hW, fLs, if_pos hw.symm]
        rfl
      have hWw : W = w := by rw [hW, fLs, if_neg (by rw [← hw]; exact hw0), hw]
      subst hWw
      iterate 2 refine x_step rfl ?_
      refine x_icmpN_ge (k + 1) (itS β p2) rfl rfl rfl (fun hz => ?_) (fun hz => ?_)
      · exact hK _ _ _ _ _
      · refine x_step rfl ?_
        refine x_ifN_ne (W) rfl rfl (fun _ => ?_) (fun q => False.elim (by omega))
        exact hK _ _ _ _ _
    iterate 2 refine x_step rfl ?_
    refine x_icmpN_ge (k) (itS β p2) rfl rfl rfl (fun q => False.elim (by omega)) (fun _ => ?_)
    refine x_step rfl ?_
    refine x_if_ne rfl (fun q => absurd (by decide) q) (fun _ => ?_)
    iterate 3 refine x_step rfl ?_
    refine x_callvE rfl (q198 (d := 2) hb hβ he 4 p2 k qk cs (by omega) (by decide) (by omega) hp2 hI) rfl rfl rfl ?_
    iterate 4 refine x_step rfl ?_
    refine x_callvE rfl (q198 (d := 2) hb hβ he 3 qk 1 ql csl (by omega) (by decide) (by decide) hqk hIl) rfl rfl rfl ?_
    iterate 3 refine x_step rfl ?_
    refine x_callvE rfl (q188 (d := 0) hb hβ ql (by omega)) rfl rfl rfl ?_
    iterate 3 refine x_step rfl ?_
    refine x_icmpN_le (itS β ql) (2) rfl rfl rfl (fun h3 => ?_) (fun h3 => ?_)
    · iterate 5 refine x_step rfl ?_
      refine x_callvE rfl (q198 (d := 2) hb hβ he 3 qk 0 q0 cs0 (by omega) (by decide) (by decide) hqk hI0) rfl rfl rfl ?_
      refine x_callvE rfl (q192 (d := 1) hb hβ q0 (by omega) hT0) rfl rfl rfl ?_
      refine x_callvE rfl (m219 (d := 0) (nI (β (itT β q0)))) rfl rfl rfl ?_
      refine x_if_eq rfl (fun h1 => ?_) (fun h1 => ?_)
      · have hr4 : 1 ≤ β (itT β q0) ∧ β (itT β q0) ≤ 5 := by by_cases hz : xev (nI (β (itT β q0))) = 0; rw [if_pos hz] at h1; exact absurd h1 (by decide); exact ⟨Nat.not_lt.mp fun z => hz (xev_z (Or.inl z) (by omega)), Nat.not_lt.mp fun z => hz (xev_z (Or.inr z) (by omega))⟩
        iterate 4 refine x_step rfl ?_
        refine xm_ls (pl' := [some (.ref 103), some (.int (nI (p2 + 1))), some (.int (nI (itS β p2))), some (.int (nI (0))), some (.int (nI k)), some (.int (nI (qk + 1))), some (.int (nI (ql + 1))), some (.int (nI (itS β ql))), some (.int (nI 0))]) rfl ?_
        have hle := fnN_le (β := β) (ps := ps) (cv := cv) (cI ps 2 k) (itS β ql) 0
        exact q218_v hb hβ he p2 (itS β p2) k qk (cI ps 2 k) ql qel hatl hnl hcv hd (fnN β ps cv (cI ps 2 k) (itS β ql) 0) (itS β ql) 0 (by omega) rfl (fun i => done _ i (by rw [hfr, if_neg (by omega), if_neg (fun z => z hr4)]) (by omega))
      · have hr4 : ¬ (1 ≤ β (itT β q0) ∧ β (itT β q0) ≤ 5) := fun z => h1 (by rw [if_neg (xev_ne z.1 z.2)])
        iterate 5 refine x_step rfl ?_
        refine xm_ls (pl' := [some (.ref 103), some (.int (nI (p2 + 1))), some (.int (nI (itS β p2))), some (.int (nI (4))), some (.int (nI k)), some (.int (nI (qk + 1))), some (.int (nI (ql + 1))), some (.int (nI (itS β ql))), some (.int (nI 0))]) rfl ?_
        have hw : 4 = fL β ps cv (cI ps 2 k) := by rw [hfr, if_neg (by omega), if_pos hr4]
        iterate 2 refine x_step rfl ?_
        refine x_icmpN_ge (0) (itS β ql) rfl rfl rfl (fun hz => ?_) (fun hz => ?_)
        · exact done 4 0 hw (by decide)
        · refine x_step rfl ?_
          refine x_if_ne rfl (fun _ => ?_) (fun q => absurd q (by decide))
          exact done 4 0 hw (by decide)
    · iterate 5 refine x_step rfl ?_
      refine xm_ls (pl' := [some (.ref 103), some (.int (nI (p2 + 1))), some (.int (nI (itS β p2))), some (.int (nI (1))), some (.int (nI k)), some (.int (nI (qk + 1))), some (.int (nI (ql + 1))), some (.int (nI (itS β ql))), some (.int (nI 0))]) rfl ?_
      have hw : 1 = fL β ps cv (cI ps 2 k) := by rw [hfr, if_pos h3]
      iterate 2 refine x_step rfl ?_
      refine x_icmpN_ge (0) (itS β ql) rfl rfl rfl (fun hz => ?_) (fun hz => ?_)
      · exact done 1 0 hw (by decide)
      · refine x_step rfl ?_
        refine x_if_ne rfl (fun _ => ?_) (fun q => absurd q (by decide))
        exact done 1 0 hw (by decide)
theorem q218_w {Q : xm_Q} (hb : ∀ i, i < 130 → jb (i + 1) = nI (β i)) (hβ : ∀ i, β i < 256) (he : e ≤ 130) (p2 n2 k qk r c ql qe : Nat) (hat : itAt β e ps 3 (c + 2) ql qe) (hn : pNums β ps (c + 2) = true) (h3 : itS β ql ≤ 2) (hr : 1 ≤ r ∧ r ≤ 5) (hd : 3 ≤ d) (hK : XG l xm_any 218 d 0 0 242 [some (.ref 103), some (.int (nI (p2 + 1))), some (.int (nI n2)), some (.int (nI 0)), some (.int (nI k)), some (.int (nI (qk + 1))), some (.int (nI r)), some (.int (nI (ql + 1))), some (.int (nI (itS β ql)))] [] (cw L xs (rw th jl js jh jb jc jr jq jQ jz jf jo jn jt jH jA jm jy je jp jk jx jw ju jF jL jO ((fun z1 => nI (cv z1))) jT ((fun z1 => nI ((updn cr r (itS β ql)) z1))) ((fun z1 => nI (rf (updfn rp r (ncp (rp r) (fun k => pY β ps (c + 2 + 1 + k) 0) (itS β ql))) z1))) jW ja jG ov g2) tc tf bl bf of oc ol on ml mx mb kc kh kr ka gl gx gb ls lq lk lg lh vf vs vb nv nw nr nq ne io sp ch wt xf xz xt xb xc) Q) : ∀ (m i : Nat), i + m = itS β ql → XG l xm_any 218 d 0 0 200 [some (.ref 103), some (.int (nI (p2 + 1))), some (.int (nI n2)), some (.int (nI 0)), some (.int (nI k)), some (.int (nI (qk + 1))), some (.int (nI r)), some (.int (nI (ql + 1))), some (.int (nI i))] [] (cw L xs (rw th jl js jh jb jc jr jq jQ jz jf jo jn jt jH jA jm jy je jp jk jx jw ju jF jL jO ((fun z1 => nI (cv z1))) jT ((fun z1 => nI ((updn cr r (itS β ql)) z1))) ((fun z1 => nI (rf (updfn rp r (ncp (rp r) (fun k => pY β ps (c + 2 + 1 + k) 0) i)) z1))) jW ja jG ov g2) tc tf bl bf of oc ol on ml mx mb kc kh kr ka gl gx gb ls lq lk lg lh vf vs vb nv nw nr nq ne io sp ch wt xf xz xt xb xc) Q := by
  obtain ⟨_, -, -, -, -, -, hpe, hTe⟩ := hat.get
  obtain ⟨hF, hN⟩ := nums_at hat he hn
  intro m
  induction m with
  | zero =>
    intro i hi
    obtain rfl : i = itS β ql := by omega
    iterate 4 refine x_step rfl ?_
    refine x_ialdN (r) rfl rfl rfl (by omega) ?_
    refine x_icmpN_ge (itS β ql) (itS β ql) rfl rfl (by rw [updn_same]) (fun _ => ?_) (fun q => False.elim (by omega))
    exact hK
  | succ m ih =>
    intro i hi
    obtain ⟨D', cs, qi, qi2, hDD, hI, hat2, hy, hT2⟩ := hN i (by omega)
    obtain ⟨_, -, -, -, -, -, hqi, -⟩ := hat2.get
    iterate 4 refine x_step rfl ?_
    refine x_ialdN (r) rfl rfl rfl (by omega) ?_
    refine x_icmpN_ge (i) (itS β ql) rfl rfl (by rw [updn_same]) (fun q => False.elim (by omega)) (fun _ => ?_)
    iterate 11 refine x_step rfl ?_
    refine x_callvE rfl (q198 (d := 2) hb hβ he D' ql i qi cs (by omega) (by omega) (by omega) (by omega) hI) rfl rfl rfl ?_
    refine x_callvE rfl (q192 (d := 1) hb hβ qi (by omega) hT2) rfl rfl rfl ?_
    refine x_iastN (2 * r + i) rfl rfl (by rw [← nI_add, ← pk_mul] <;> rfl) (by omega) ?_
    iterate 2 refine x_step rfl ?_
    refine xm_ls (pl' := [some (.ref 103), some (.int (nI (p2 + 1))), some (.int (nI n2)), some (.int (nI 0)), some (.int (nI k)), some (.int (nI (qk + 1))), some (.int (nI r)), some (.int (nI (ql + 1))), some (.int (nI (i + 1)))]) (by rw [nI_succ i] <;> rfl) ?_
    refine xm_hs (hp' := (cw L xs (rw th jl js jh jb jc jr jq jQ jz jf jo jn jt jH jA jm jy je jp jk jx jw ju jF jL jO ((fun z1 => nI (cv z1))) jT ((fun z1 => nI ((updn cr r (itS β ql)) z1))) ((fun z1 => nI (rf (updfn rp r (ncp (rp r) (fun k => pY β ps (c + 2 + 1 + k) 0) (i + 1))) z1))) jW ja jG ov g2) tc tf bl bf of oc ol on ml mx mb kc kh kr ka gl gx gb ls lq lk lg lh vf vs vb nv nw nr nq ne io sp ch wt xf xz xt xb xc)) (by rw [ncp, hy, ← rf_step rp r i _ _ (by omega)] <;> rfl) ?_
    exact ih (i + 1) (by omega)
theorem fLs_0 {cv : Nat → Nat} : ∀ m p, fLs β ps cv (m + 1) p = 0 → fL β ps cv p = 0 ∧ fLs β ps cv m (pB ps p) = 0 := by
  intro m p h
  rw [fLs] at h
  split at h
  next h1 => exact ⟨h1, h⟩
  next h1 => exact absurd h h1
theorem fL_0 {cv : Nat → Nat} {p : Nat} (h : fL β ps cv p = 0) : (1 ≤ pY β ps (p + 1) 0 ∧ pY β ps (p + 1) 0 ≤ 5) ∧ pS β ps (p + 2) ≤ 2 := by
  unfold fL at h
  split at h
  · cases h
  next h1 =>
    split at h
    · cases h
    next h2 => exact ⟨Classical.not_not.mp h2, Nat.not_lt.mp h1⟩
theorem q218_b {Q : xm_Q} (hb : ∀ i, i < 130 → jb (i + 1) = nI (β i)) (hβ : ∀ i, β i < 256) (he : e ≤ 130) (p2 qe : Nat) (hp2 : p2 < 130) (hrow : ∀ k, k < itS β p2 → tRow β e ps p2 k) (hd : 3 ≤ d) : ∀ (m k : Nat) (s : lS) (o5 o6 o7 o8 : Option Value), k + m = itS β p2 → fLs β ps cv m (cI ps 2 k) = 0 → (∀ (o5 o6 o7 o8 : Option Value), XG l xm_any 218 d 0 0 248 [some (.ref 103), some (.int (nI (p2 + 1))), some (.int (nI (itS β p2))), some (.int (nI 0)), some (.int (nI (itS β p2))), o5, o6, o7, o8] [] (cw L xs (rw th jl js jh jb jc jr jq jQ jz jf jo jn jt jH jA jm jy je jp jk jx jw ju jF jL jO ((fun z1 => nI (cv z1))) jT ((fun z1 => nI (((lkAll β ps m (cI ps 2 k) s).1) z1))) ((fun z1 => nI (rf ((lkAll β ps m (cI ps 2 k) s).2) z1))) jW ja jG ov g2) tc tf bl bf of oc ol on ml mx mb kc kh kr ka gl gx gb ls lq lk lg lh vf vs vb nv nw nr nq ne io sp ch wt xf xz xt xb xc) Q) → XG l xm_any 218 d 0 0 143 [some (.ref 103), some (.int (nI (p2 + 1))), some (.int (nI (itS β p2))), some (.int (nI 0)), some (.int (nI k)), o5, o6, o7, o8] [] (cw L xs (rw th jl js jh jb jc jr jq jQ jz jf jo jn jt jH jA jm jy je jp jk jx jw ju jF jL jO ((fun z1 => nI (cv z1))) jT ((fun z1 => nI (((s).1) z1))) ((fun z1 => nI (rf ((s).2) z1))) jW ja jG ov g2) tc tf bl bf of oc ol on ml mx mb kc kh kr ka gl gx gb ls lq lk lg lh vf vs vb nv nw nr nq ne io sp ch wt xf xz xt xb xc) Q := by
  have hS := itS_lt hβ p2
  intro m
  induction m with
  | zero =>
    intro k s o5 o6 o7 o8 hk hW hK
    obtain rfl : k = itS β p2 := by omega
    iterate 2 refine x_step rfl ?_
    refine x_icmpN_ge (itS β p2) (itS β p2) rfl rfl rfl (fun _ => ?_) (fun q => False.elim (by omega))
    exact hK _ _ _ _
  | succ m ih =>
    intro k s o5 o6 o7 o8 hk hW hK
    obtain ⟨cs, qk, qke, hI, hatk, hqk, ⟨cs0, q0, qe0, hI0, hat0, hy, hT0⟩, csl, ql, qel, hIl, hatl, hnl⟩ := hrow k (by omega)
    obtain ⟨_, -, -, -, -, -, hq0, -⟩ := hat0.get
    obtain ⟨_, -, -, l2, -, -, hql, hTl⟩ := hatl.get
    obtain ⟨hfr, hfs⟩ := fLs_0 m _ hW
    obtain ⟨hr4, h3⟩ := fL_0 hfr
    rw [hy] at hr4
    rw [l2] at h3
    have hmin : min (itS β ql) 2 = itS β ql := Nat.min_eq_left h3
    iterate 2 refine x_step rfl ?_
    refine x_icmpN_ge (k) (itS β p2) rfl rfl rfl (fun q => False.elim (by omega)) (fun _ => ?_)
    refine x_step rfl ?_
    refine x_if_ne rfl (fun q => absurd (by decide) q) (fun _ => ?_)
    iterate 3 refine x_step rfl ?_
    refine x_callvE rfl (q198 (d := 2) hb hβ he 4 p2 k qk cs (by omega) (by decide) (by omega) hp2 hI) rfl rfl rfl ?_
    iterate 5 refine x_step rfl ?_
    refine x_callvE rfl (q198 (d := 2) hb hβ he 3 qk 0 q0 cs0 (by omega) (by decide) (by decide) hqk hI0) rfl rfl rfl ?_
    refine x_callvE rfl (q192 (d := 1) hb hβ q0 (by omega) hT0) rfl rfl rfl ?_
    iterate 4 refine x_step rfl ?_
    refine x_callvE rfl (q198 (d := 2) hb hβ he 3 qk 1 ql csl (by omega) (by decide) (by decide) hqk hIl) rfl rfl rfl ?_
    iterate 6 refine x_step rfl ?_
    refine x_callvE rfl (q188 (d := 0) hb hβ ql (by omega)) rfl rfl rfl ?_
    refine x_iastN (β (itT β q0)) rfl rfl rfl (by omega) ?_
    iterate 2 refine x_step rfl ?_
    refine xm_ls (pl' := [some (.ref 103), some (.int (nI (p2 + 1))), some (.int (nI (itS β p2))), some (.int (nI 0)), some (.int (nI k)), some (.int (nI (qk + 1))), some (.int (nI (β (itT β q0)))), some (.int (nI (ql + 1))), some (.int (nI 0))]) rfl ?_
    refine xm_hs (hp' := (cw L xs (rw th jl js jh jb jc jr jq jQ jz jf jo jn jt jH jA jm jy je jp jk jx jw ju jF jL jO ((fun z1 => nI (cv z1))) jT ((fun z1 => nI ((updn s.1 (β (itT β q0)) (itS β ql)) z1))) ((fun z1 => nI (rf (updfn s.2 (β (itT β q0)) (ncp (s.2 (β (itT β q0))) (fun k0 => pY β ps (cI ps 2 k + 2 + 1 + k0) 0) 0)) z1))) jW ja jG ov g2) tc tf bl bf of oc ol on ml mx mb kc kh kr ka gl gx gb ls lq lk lg lh vf vs vb nv nw nr nq ne io sp ch wt xf xz xt xb xc)) (by rw [show ncp (s.2 (β (itT β q0))) (fun k0 => pY β ps (cI ps 2 k + 2 + 1 + k0) 0) 0 = s.2 (β (itT β q0)) from rfl, updfn_id, ← upd_nI] <;> rfl) ?_
    refine q218_w (cr := s.1) (rp := s.2) hb hβ he p2 (itS β p2) k qk (β (itT β q0)) (cI ps 2 k) ql qel hatl hnl h3 hr4 hd ?_ (itS β ql) 0 (by omega)
    iterate 2 refine x_step rfl ?_
    refine xm_ls (pl' := [some (.ref 103), some (.int (nI (p2 + 1))), some (.int (nI (itS β p2))), some (.int (nI 0)), some (.int (nI (k + 1))), some (.int (nI (qk + 1))), some (.int (nI (β (itT β q0)))), some (.int (nI (ql + 1))), some (.int (nI (itS β ql)))]) (by rw [nI_succ k] <;> rfl) ?_
    refine xm_hs (hp' := (cw L xs (rw th jl js jh jb jc jr jq jQ jz jf jo jn jt jH jA jm jy je jp jk jx jw ju jF jL jO ((fun z1 => nI (cv z1))) jT ((fun z1 => nI (((lkOne β ps s (pY β ps (cI ps 2 k + 1) 0) (cI ps 2 k + 2)).1) z1))) ((fun z1 => nI (rf ((lkOne β ps s (pY β ps (cI ps 2 k + 1) 0) (cI ps 2 k + 2)).2) z1))) jW ja jG ov g2) tc tf bl bf of oc ol on ml mx mb kc kh kr ka gl gx gb ls lq lk lg lh vf vs vb nv nw nr nq ne io sp ch wt xf xz xt xb xc)) (by rw [lkOne, hy, if_pos hr4, l2, hmin]) ?_
    exact ih (k + 1) (lkOne β ps s (pY β ps (cI ps 2 k + 1) 0) (cI ps 2 k + 2)) _ _ _ _ (by omega) hfs hK
/-- link: a fault -/
theorem q218f {h9 : xm_H} {dd : Nat} (hb : ∀ i, i < 130 → jb (i + 1) = nI (β i)) (hβ : ∀ i, β i < 256) (he : e ≤ 130) (hat : itAt β e ps 6 0 10 e) (hn : pTable β ps = true) (s : lS) (f : Nat) (hcv : ∀ r, cv r < 2 ^ 20) (hf : fLs β ps cv (pS β ps 2) 3 = f) (h0 : f ≠ 0) (hf9 : f < 10) (hd : 3 ≤ d) (hdd : dd < d) (hR : XM l 213 dd 0 0 [.ref 103, .int (nI f)] (cw L xs (rw th jl js jh jb jc jr jq jQ jz jf jo jn jt jH jA jm jy je jp jk jx jw ju jF jL jO ((fun z1 => nI (cv z1))) jT ((fun z1 => nI (((s).1) z1))) ((fun z1 => nI (rf ((s).2) z1))) jW ja jG ov g2) tc tf bl bf of oc ol on ml mx mb kc kh kr ka gl gx gb ls lq lk lg lh vf vs vb nv nw nr nq ne io sp ch wt xf xz xt xb xc) (xm_is none h9)) : XM l 218 d 0 0 [.ref 103] (cw L xs (rw th jl js jh jb jc jr jq jQ jz jf jo jn jt jH jA jm jy je jp jk jx jw ju jF jL jO ((fun z1 => nI (cv z1))) jT ((fun z1 => nI (((s).1) z1))) ((fun z1 => nI (rf ((s).2) z1))) jW ja jG ov g2) tc tf bl bf of oc ol on ml mx mb kc kh kr ka gl gx gb ls lq lk lg lh vf vs vb nv nw nr nq ne io sp ch wt xf xz xt xb xc) (xm_is none h9) := by
  obtain ⟨_, -, -, -, -, -, hpe, hTe⟩ := hat.get
  obtain ⟨cs2, p2, qe2, hI2, hat2, hF2, hS2, hp2, hT2, hrow⟩ := table_at hat he hn
  have hSl := itS_lt hβ p2
  rw [hS2] at hf
  refine XE (pl := [some (.ref 103), none, none, none, none, none, none, none, none]) xg218 rfl ?_
  iterate 3 refine x_step rfl ?_
  refine x_callvE rfl (q198 (d := 2) hb hβ he 5 10 1 p2 cs2 (by omega) (by decide) (by decide) (by omega) hI2) rfl rfl rfl ?_
  iterate 3 refine x_step rfl ?_
  refine x_callvE rfl (q188 (d := 0) hb hβ p2 hT2) rfl rfl rfl ?_
  iterate 5 refine x_step rfl ?_
  refine xm_ls (pl' := [some (.ref 103), some (.int (nI (p2 + 1))), some (.int (nI (itS β p2))), some (.int (nI 0)), some (.int (nI 0)), none, none, none, none]) rfl ?_
  refine q218_a (cr := s.1) (rp := s.2) hb hβ he p2 qe2 hat2 hT2 hp2 hrow hcv hd f (itS β p2) 0 none none none none (by omega) hf.symm (fun k o5 o6 o7 o8 => ?_)
  iterate 2 refine x_step rfl ?_
  refine xm_ls (pl' := [some (.ref 103), some (.int (nI (p2 + 1))), some (.int (nI (itS β p2))), some (.int (nI f)), some (.int (nI 0)), o5, o6, o7, o8]) rfl ?_
  iterate 2 refine x_step rfl ?_
  refine x_icmpN_ge (0) (itS β p2) rfl rfl rfl (fun hz => ?_) (fun hz => ?_)
  · iterate 2 refine x_step rfl ?_
    refine x_callvE rfl (hR) rfl rfl rfl ?_
    exact x_ret rfl rfl ⟨rfl, rfl⟩
  · refine x_step rfl ?_
    refine x_ifN_ne (f) rfl rfl (fun _ => ?_) (fun q => False.elim (by omega))
    iterate 2 refine x_step rfl ?_
    refine x_callvE rfl (hR) rfl rfl rfl ?_
    exact x_ret rfl rfl ⟨rfl, rfl⟩
/-- link: it is done -/
theorem q218 {h9 : xm_H} {dd : Nat} (hb : ∀ i, i < 130 → jb (i + 1) = nI (β i)) (hβ : ∀ i, β i < 256) (he : e ≤ 130) (hat : itAt β e ps 6 0 10 e) (hn : pTable β ps = true) (s : lS) (hcv : ∀ r, cv r < 2 ^ 20) (hf : fLs β ps cv (pS β ps 2) 3 = 0) (hd : 3 ≤ d) (hdd : dd < d) (hR : XM l 213 dd 0 0 [.ref 103, .int 0] (cw L xs (rw th jl js jh jb jc jr jq jQ jz jf jo jn jt jH jA jm jy je jp jk jx jw ju jF jL jO ((fun z1 => nI (cv z1))) jT ((fun z1 => nI (((lkAll β ps (pS β ps 2) 3 s).1) z1))) ((fun z1 => nI (rf ((lkAll β ps (pS β ps 2) 3 s).2) z1))) jW ja jG ov g2) tc tf bl bf of oc ol on ml mx mb kc kh kr ka gl gx gb ls lq lk lg lh vf vs vb nv nw nr nq ne io sp ch wt xf xz xt xb xc) (xm_is none h9)) : XM l 218 d 0 0 [.ref 103] (cw L xs (rw th jl js jh jb jc jr jq jQ jz jf jo jn jt jH jA jm jy je jp jk jx jw ju jF jL jO ((fun z1 => nI (cv z1))) jT ((fun z1 => nI (((s).1) z1))) ((fun z1 => nI (rf ((s).2) z1))) jW ja jG ov g2) tc tf bl bf of oc ol on ml mx mb kc kh kr ka gl gx gb ls lq lk lg lh vf vs vb nv nw nr nq ne io sp ch wt xf xz xt xb xc) (xm_is none h9) := by
  obtain ⟨_, -, -, -, -, -, hpe, hTe⟩ := hat.get
  obtain ⟨cs2, p2, qe2, hI2, hat2, hF2, hS2, hp2, hT2, hrow⟩ := table_at hat he hn
  have hSl := itS_lt hβ p2
  rw [hS2] at hf
  rw [hS2] at hR
  refine XE (pl := [some (.ref 103), none, none, none, none, none, none, none, none]) xg218 rfl ?_
  iterate 3 refine x_step rfl ?_
  refine x_callvE rfl (q198 (d := 2) hb hβ he 5 10 1 p2 cs2 (by omega) (by decide) (by decide) (by omega) hI2) rfl rfl rfl ?_
  iterate 3 refine x_step rfl ?_
  refine x_callvE rfl (q188 (d := 0) hb hβ p2 hT2) rfl rfl rfl ?_
  iterate 5 refine x_step rfl ?_
  refine xm_ls (pl' := [some (.ref 103), some (.int (nI (p2 + 1))), some (.int (nI (itS β p2))), some (.int (nI 0)), some (.int (nI 0)), none, none, none, none]) rfl ?_
  refine q218_a (cr := s.1) (rp := s.2) hb hβ he p2 qe2 hat2 hT2 hp2 hrow hcv hd 0 (itS β p2) 0 none none none none (by omega) hf.symm (fun k o5 o6 o7 o8 => ?_)
  iterate 2 refine x_step rfl ?_
  refine xm_ls (pl' := [some (.ref 103), some (.int (nI (p2 + 1))), some (.int (nI (itS β p2))), some (.int (nI 0)), some (.int (nI 0)), o5, o6, o7, o8]) rfl ?_
  refine q218_b hb hβ he p2 qe2 hp2 hrow hd (itS β p2) 0 s o5 o6 o7 o8 (by omega) hf (fun o5 o6 o7 o8 => ?_)
  iterate 2 refine x_step rfl ?_
  refine x_callvE rfl (hR) rfl rfl rfl ?_
  exact x_ret rfl rfl ⟨rfl, rfl⟩
end ER12
