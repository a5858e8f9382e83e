section ER10
variable {l : Launch} {d L : Nat} {xs : Nat → Int32} {tc : Int32} {tf : (Nat → Int32)} {bl : Int32} {bf : (Nat → Int32)} {of : Int32} {oc : Int32} {ol : Int32} {on : Int32} {ml : (Nat → Int32)} {mx : (Nat → Int32)} {mb : (Nat → Nat → Int32)} {kc : Int32} {kh : (Nat → Nat)} {kr : (Nat → Nat → Int32)} {ka : (Nat → Int32)} {gl : Int32} {gx : Int32} {gb : (Nat → Int32)} {ls : Int32} {lq : Int32} {lk : Int32} {lg : Int32} {lh : Int32} {vf : (Nat → Int32)} {vs : (Nat → Int32)} {vb : (Nat → Nat → Int32)} {nv : (Nat → Int32)} {nw : (Nat → Nat → Int32)} {nr : (Nat → Int32)} {nq : (Nat → Nat → Int32)} {ne : (Nat → Int32)} {io : Int32} {sp : Int32} {ch : Int32} {wt : Int32} {xf : (Nat → Int32)} {xz : (Nat → Int32)} {xt : (Nat → Int32)} {xb : (Nat → Int32)} {xc : Int32} {th : Int32} {jl : Int32} {js : Int32} {jh : Int32} {jb : (Nat → Int32)} {jc : Int32} {jr : (Nat → Int32)} {jq : Int32} {jQ : (Nat → Int32)} {jz : (Nat → Int32)} {jf : (Nat → Int32)} {jo : Int32} {jn : Int32} {jt : Int32} {jH : (Nat → Int32)} {jA : (Nat → Int32)} {jm : Int32} {jy : (Nat → Int32)} {je : Int32} {jp : Int32} {jk : Int32} {jx : Int32} {jw : Int32} {ju : Int32} {jF : (Nat → Int32)} {jL : (Nat → Int32)} {jO : (Nat → Int32)} {jS : (Nat → Int32)} {jT : (Nat → Int32)} {jU : (Nat → Int32)} {jV : (Nat → Int32)} {jW : (Nat → Int32)} {ja : Int32} {jG : (Nat → Int32)} {ov : (Nat → Value)} {g2 : xm_H}
variable {β : Nat → Nat} {e : Nat} {ps : List (Nat × Nat)} {cr cv : Nat → Nat} {rp vp : Nat → Nat → Nat}
/-- the rows of a table -/
def tRow (β : Nat → Nat) (e : Nat) (ps : List (Nat × Nat)) (p2 k : Nat) : Prop := ∃ cs qk qe, itI (itR β e 4) k (itT β p2) = some (cs, qk) ∧ itAt β e ps 4 (cI ps 2 k) qk qe ∧ qk < 130 ∧ (∃ cs q0 q1, itI (itR β e 3) 0 (itT β qk) = some (cs, q0) ∧ itAt β e ps 3 (cI ps 2 k + 1) q0 q1 ∧ pY β ps (cI ps 2 k + 1) 0 = β (itT β q0) ∧ itT β q0 < 130) ∧ ∃ cs q0 q1, itI (itR β e 3) 1 (itT β qk) = some (cs, q0) ∧ itAt β e ps 3 (cI ps 2 k + 2) q0 q1 ∧ pNums β ps (cI ps 2 k + 2) = true
theorem table_at (hat : itAt β e ps 6 0 10 e) (he : e ≤ 130) (hn : pTable β ps = true) : ∃ cs p2 qe, itI (itR β e 5) 1 (itT β 10) = some (cs, p2) ∧ itAt β e ps 5 2 p2 qe ∧ itF β p2 = 0 ∧ pS β ps 2 = itS β p2 ∧ p2 < 130 ∧ itT β p2 ≤ 130 ∧ ∀ k, k < itS β p2 → tRow β e ps p2 k := by
  rw [pTable, Bool.and_eq_true, Bool.and_eq_true, Bool.and_eq_true] at hn
  obtain ⟨⟨h1, h2, h3⟩, h4⟩ := hn
  rw [pLst_at hat] at h1
  simp at h1
  obtain ⟨D2, cs2, q2, qe2, hD2, hI2, hat2⟩ := hat.nth h1.1 0 (by omega)
  obtain ⟨D3, cs3, q3, qe3, hD3, hI3, hat3⟩ := hat.nth h1.1 1 (by omega)
  obtain rfl : D3 = 5 := by omega
  have hc : cI ps 0 1 = 2 := pOne_next (i := 1) hat2 (by decide) h2
  rw [hc] at hat3
  obtain ⟨_, -, b1, b2, -, -, hq3, hT3⟩ := hat3.get
  have hF : itF β q3 = 0 := by rw [b1] at h3; simpa using h3
  refine ⟨cs3, q3, qe3, hI3, hat3, hF, b2, by omega, by omega, fun k hk => ?_⟩
  rw [b2, show (3 : Nat) = cI ps 2 0 from rfl, pRow_eq] at h4
  have h5 := pAll_all (itS β q3) 0 h4 k (by omega) (by omega)
  rw [Bool.and_eq_true, Bool.and_eq_true] at h5
  obtain ⟨g1, g2, g3⟩ := h5
  obtain ⟨D4, cs, qk, qe, hD4, hI, hat4⟩ := hat3.nth hF k hk
  obtain rfl : D4 = 4 := by omega
  obtain ⟨_, -, -, -, -, -, hqk, -⟩ := hat4.get
  rw [pLst_at hat4] at g1
  simp at g1
  obtain ⟨D5, cs5, q5, qe5, hD5, hI5, hat5⟩ := hat4.nth g1.1 0 (by omega)
  obtain rfl : D5 = 3 := by omega
  obtain ⟨D6, cs6, q6, qe6, hD6, hI6, hat6⟩ := hat4.nth g1.1 1 (by omega)
  obtain rfl : D6 = 3 := by omega
  have hc2 : cI ps (cI ps 2 k) 1 = cI ps 2 k + 2 := pOne_next (i := cI ps 2 k + 1) hat5 (by decide) g2
  rw [hc2] at hat6
  have ho := one_at hat5 he (by decide) g2
  exact ⟨cs, qk, qe, hI, hat4, by omega, ⟨cs5, q5, qe5, hI5, hat5, ho.2.2⟩, cs6, q6, qe6, hI6, hat6, g3⟩
/-- three entries a row, one behind the other -/
def rt (m : Nat → Nat → Nat) : Nat → Nat := fun z => m (z / 3) (z % 3)
theorem rt_upd (m : Nat → Nat → Nat) (e k x : Nat) (hk : k < 3) : updn (rt m) (3 * e + k) x = rt (updfn m e (updn (m e) k x)) := by
  funext z
  unfold rt updn updfn
  by_cases h : z = 3 * e + k
  · rw [if_pos h, if_pos (by omega), if_pos (by omega)]
  · rw [if_neg h]
    by_cases h2 : z / 3 = e
    · rw [if_pos h2, if_neg (by omega)]
      show m (z / 3) (z % 3) = m e (z % 3)
      rw [h2]
    · rw [if_neg h2]
theorem q216_v {Q : xm_Q} (hb : ∀ i, i < 130 → jb (i + 1) = nI (β i)) (hβ : ∀ i, β i < 256) (he : e ≤ 130) (p2 n2 k qk r c ql qe : Nat) (hat : itAt β e ps 3 (c + 2) ql qe) (hn : pNums β ps (c + 2) = true) (hd : 3 ≤ d) (W : Nat) : ∀ (m i : Nat), i + m = itS β ql → W = fvN β ps c m i → (∀ i, XG l xm_any 216 d 0 0 150 [some (.ref 103), some (.int (nI (p2 + 1))), some (.int (nI n2)), some (.int (nI (W))), some (.int (nI k)), some (.int (nI (qk + 1))), some (.int (nI r)), some (.int (nI (ql + 1))), some (.int (nI (itS β ql))), some (.int (nI i))] [] (cw L xs (rw th jl js jh jb jc jr jq jQ jz jf jo jn jt jH jA jm jy je jp jk jx jw ju jF jL jO jS jT jU jV jW ja jG ov g2) tc tf bl bf of oc ol on ml mx mb kc kh kr ka gl gx gb ls lq lk lg lh vf vs vb nv nw nr nq ne io sp ch wt xf xz xt xb xc) Q) → XG l xm_any 216 d 0 0 111 [some (.ref 103), some (.int (nI (p2 + 1))), some (.int (nI n2)), some (.int (nI (0))), some (.int (nI k)), some (.int (nI (qk + 1))), some (.int (nI r)), some (.int (nI (ql + 1))), some (.int (nI (itS β ql))), some (.int (nI i))] [] (cw L xs (rw th jl js jh jb jc jr jq jQ jz jf jo jn jt jH jA jm jy je jp jk jx jw ju jF jL jO jS jT jU jV jW ja jG ov g2) tc tf bl bf of oc ol on ml mx mb kc kh kr ka gl gx gb ls lq lk lg lh vf vs vb nv nw nr nq ne io sp ch wt xf xz xt xb xc) Q := by
  obtain ⟨_, -, -, -, -, -, hpe, hTe⟩ := hat.get
  obtain ⟨hF, hN⟩ := nums_at hat he hn
  have hS := itS_lt hβ ql
  intro m
  induction m with
  | zero =>
    intro i hi hW hK
    obtain rfl : i = itS β ql := by omega
    have hW2 : W = 0 := hW
    subst hW2
    iterate 2 refine x_step rfl ?_
    refine x_icmpN_ge (itS β ql) (itS β ql) rfl rfl rfl (fun _ => ?_) (fun q => False.elim (by omega))
    exact hK _
  | succ m ih =>
    intro i hi hW hK
    obtain ⟨D', cs, qi, qi2, hDD, hI, hat2, hy, hT2⟩ := hN i (by omega)
    obtain ⟨_, -, -, -, -, -, hqi, -⟩ := hat2.get
    have hyb := hβ (itT β qi)
    rw [show c + 2 + 1 + i = c + 3 + i by omega] at hy
    iterate 2 refine x_step rfl ?_
    refine x_icmpN_ge (i) (itS β ql) rfl rfl rfl (fun q => False.elim (by omega)) (fun _ => ?_)
    refine x_step rfl ?_
    refine x_if_ne rfl (fun q => absurd (by decide) q) (fun _ => ?_)
    iterate 4 refine x_step rfl ?_
    refine x_callvE rfl (q198 (d := 2) hb hβ he D' ql i qi cs (by omega) (by omega) (by omega) (by omega) hI) rfl rfl rfl ?_
    refine x_callvE rfl (q192 (d := 1) hb hβ qi (by omega) hT2) rfl rfl rfl ?_
    refine x_step rfl ?_
    refine x_icmpN_le (β (itT β qi)) (5) rfl rfl rfl (fun h => ?_) (fun h => ?_)
    · iterate 4 refine x_step rfl ?_
      refine xm_ls (pl' := [some (.ref 103), some (.int (nI (p2 + 1))), some (.int (nI n2)), some (.int (nI (0))), some (.int (nI k)), some (.int (nI (qk + 1))), some (.int (nI r)), some (.int (nI (ql + 1))), some (.int (nI (itS β ql))), some (.int (nI (i + 1)))]) (by rw [nI_succ i] <;> rfl) ?_
      exact ih (i + 1) (by omega) (by rw [hW, fvN, hy, if_neg (by omega)]) hK
    · have hW2 : W = 4 := by rw [hW, fvN, hy, if_pos (by omega)]
      subst hW2
      iterate 5 refine x_step rfl ?_
      refine xm_ls (pl' := [some (.ref 103), some (.int (nI (p2 + 1))), some (.int (nI n2)), some (.int (nI (4))), some (.int (nI k)), some (.int (nI (qk + 1))), some (.int (nI r)), some (.int (nI (ql + 1))), some (.int (nI (itS β ql))), some (.int (nI (i + 1)))]) (by rw [nI_succ i] <;> rfl) ?_
      iterate 2 refine x_step rfl ?_
      refine x_icmpN_ge (i + 1) (itS β ql) rfl rfl rfl (fun hz => ?_) (fun hz => ?_)
      · exact hK _
      · refine x_step rfl ?_
        refine x_if_ne rfl (fun _ => ?_) (fun q => absurd q (by decide))
        exact hK _
theorem q216_a {Q : xm_Q} (hb : ∀ i, i < 130 → jb (i + 1) = nI (β i)) (hβ : ∀ i, β i < 256) (he : e ≤ 130) (p2 qe : Nat) (hat : itAt β e ps 5 2 p2 qe) (hT : itT β p2 ≤ 130) (hp2 : p2 < 130) (hrow : ∀ k, k < itS β p2 → tRow β e ps p2 k) (hcv : ∀ r, cv r < 2 ^ 20) (hd : 3 ≤ d) (W : Nat) : ∀ (m k : Nat) (o5 o6 o7 o8 o9 : Option Value), k + m = itS β p2 → W = fRs β ps cv m (cI ps 2 k) → (∀ (k : Nat) (o5 o6 o7 o8 o9 : Option Value), XG l xm_any 216 d 0 0 156 [some (.ref 103), some (.int (nI (p2 + 1))), some (.int (nI (itS β p2))), some (.int (nI (W))), some (.int (nI k)), o5, o6, o7, o8, o9] [] (cw L xs (rw th jl js jh jb jc jr jq jQ jz jf jo jn jt jH jA jm jy je jp jk jx jw ju jF jL jO ((fun z1 => nI ((cv) z1))) ((fun z1 => nI (rt (vp) z1))) ((fun z1 => nI ((cr) z1))) ((fun z1 => nI (rf (rp) z1))) jW ja jG ov g2) tc tf bl bf of oc ol on ml mx mb kc kh kr ka gl gx gb ls lq lk lg lh vf vs vb nv nw nr nq ne io sp ch wt xf xz xt xb xc) Q) → XG l xm_any 216 d 0 0 19 [some (.ref 103), some (.int (nI (p2 + 1))), some (.int (nI (itS β p2))), some (.int (nI (0))), some (.int (nI k)), o5, o6, o7, o8, o9] [] (cw L xs (rw th jl js jh jb jc jr jq jQ jz jf jo jn jt jH jA jm jy je jp jk jx jw ju jF jL jO ((fun z1 => nI ((cv) z1))) ((fun z1 => nI (rt (vp) z1))) ((fun z1 => nI ((cr) z1))) ((fun z1 => nI (rf (rp) z1))) jW ja jG ov g2) tc tf bl bf of oc ol on ml mx mb kc kh kr ka gl gx gb ls lq lk lg lh vf vs vb nv nw nr nq ne io sp ch wt xf xz xt xb xc) Q := by
  have hS := itS_lt hβ p2
  intro m
  induction m with
  | zero =>
    intro k o5 o6 o7 o8 o9 hk hW hK
    obtain rfl : k = itS β p2 := by omega
    have hW2 : W = 0 := hW
    subst hW2
    iterate 2 refine x_step rfl ?_
    refine x_icmpN_ge (itS β p2) (itS β p2) rfl rfl rfl (fun _ => ?_) (fun q => False.elim (by omega))
    exact hK _ _ _ _ _ _
  | succ m ih =>
    intro k o5 o6 o7 o8 o9 hk hW hK
    obtain ⟨cs, qk, qke, hI, hatk, hqk, ⟨cs0, q0, qe0, hI0, hat0, hy, hT0⟩, csl, ql, qel, hIl, hatl, hnl⟩ := hrow k (by omega)
    obtain ⟨_, -, -, -, -, -, hq0, -⟩ := hat0.get
    obtain ⟨_, -, -, l2, -, -, hql, hTl⟩ := hatl.get
    have hyb := hβ (itT β q0)
    have hSl := itS_lt hβ ql
    have hcy := hcv (β (itT β q0))
    have hfr : fR β ps cv (cI ps 2 k) = if ¬ (1 ≤ β (itT β q0) ∧ β (itT β q0) ≤ 4) ∨ 3 < itS β ql then 1 else if 0 < itS β ql ∧ 0 < cv (β (itT β q0)) then 3 else fvN β ps (cI ps 2 k) (itS β ql) 0 := by rw [fR, hy, l2]
    have done : ∀ (w : Nat) (i9 : Nat), w = fR β ps cv (cI ps 2 k) → w < 2 ^ 20 → XG l xm_any 216 d 0 0 150 [some (.ref 103), some (.int (nI (p2 + 1))), some (.int (nI (itS β p2))), some (.int (nI (w))), some (.int (nI k)), some (.int (nI (qk + 1))), some (.int (nI (β (itT β q0)))), some (.int (nI (ql + 1))), some (.int (nI (itS β ql))), some (.int (nI i9))] [] (cw L xs (rw th jl js jh jb jc jr jq jQ jz jf jo jn jt jH jA jm jy je jp jk jx jw ju jF jL jO ((fun z1 => nI ((cv) z1))) ((fun z1 => nI (rt (vp) z1))) ((fun z1 => nI ((cr) z1))) ((fun z1 => nI (rf (rp) z1))) jW ja jG ov g2) tc tf bl bf of oc ol on ml mx mb kc kh kr ka gl gx gb ls lq lk lg lh vf vs vb nv nw nr nq ne io sp ch wt xf xz xt xb xc) Q := by
      intro w i9 hw hw2
      iterate 2 refine x_step rfl ?_
      refine xm_ls (pl' := [some (.ref 103), some (.int (nI (p2 + 1))), some (.int (nI (itS β p2))), some (.int (nI (w))), some (.int (nI (k + 1))), some (.int (nI (qk + 1))), some (.int (nI (β (itT β q0)))), some (.int (nI (ql + 1))), some (.int (nI (itS β ql))), some (.int (nI i9))]) (by rw [nI_succ k] <;> rfl) ?_
      by_cases hw0 : w = 0
      · subst hw0
        refine ih (k + 1) _ _ _ _ _ (by omega) ?_ hK
        rw [hW, fRs, if_pos hw.symm]
        rfl
      have hWw : W = w := by rw [hW, fRs, if_neg (by rw [← hw]; exact hw0), hw]
      subst hWw
      iterate 2 refine x_step rfl ?_
      refine x_icmpN_ge (k + 1) (itS β p2) rfl rfl rfl (fun hz => ?_) (fun hz => ?_)
      · exact hK _ _ _ _ _ _
      · refine x_step rfl ?_
        refine x_ifN_ne (W) rfl rfl (fun _ => ?_) (fun q => False.elim (by omega))
        exact hK _ _ _ _ _ _
    iterate 2 refine x_step rfl ?_
    refine x_icmpN_ge (k) (itS β p2) rfl rfl rfl (fun q => False.elim (by omega)) (fun _ => ?_)
    refine x_step rfl ?_
    refine x_if_ne rfl (fun q => absurd (by decide) q) (fun _ => ?_)
    iterate 3 refine x_step rfl ?_
    refine x_callvE rfl (q198 (d := 2) hb hβ he 4 p2 k qk cs (by omega) (by decide) (by omega) hp2 hI) rfl rfl rfl ?_
    iterate 5 refine x_step rfl ?_
    refine x_callvE rfl (q198 (d := 2) hb hβ he 3 qk 0 q0 cs0 (by omega) (by decide) (by decide) hqk hI0) rfl rfl rfl ?_
    refine x_callvE rfl (q192 (d := 1) hb hβ q0 (by omega) hT0) rfl rfl rfl ?_
    iterate 4 refine x_step rfl ?_
    refine x_callvE rfl (q198 (d := 2) hb hβ he 3 qk 1 ql csl (by omega) (by decide) (by decide) hqk hIl) rfl rfl rfl ?_
    iterate 3 refine x_step rfl ?_
    refine x_callvE rfl (q188 (d := 0) hb hβ ql (by omega)) rfl rfl rfl ?_
    iterate 3 refine x_step rfl ?_
    refine x_icmpN_lt (β (itT β q0)) (1) rfl rfl rfl (fun h1 => ?_) (fun h1 => ?_)
    · iterate 5 refine x_step rfl ?_
      refine xm_ls (pl' := [some (.ref 103), some (.int (nI (p2 + 1))), some (.int (nI (itS β p2))), some (.int (nI (1))), some (.int (nI k)), some (.int (nI (qk + 1))), some (.int (nI (β (itT β q0)))), some (.int (nI (ql + 1))), some (.int (nI (itS β ql))), some (.int (nI 0))]) rfl ?_
      have hw : 1 = fR β ps cv (cI ps 2 k) := by rw [hfr, if_pos (by omega)]
      iterate 2 refine x_step rfl ?_
      refine x_icmpN_ge (0) (itS β ql) rfl rfl rfl (fun hz => ?_) (fun hz => ?_)
      · exact done 1 0 hw (by decide)
      · refine x_step rfl ?_
        refine x_if_ne rfl (fun _ => ?_) (fun q => absurd q (by decide))
        exact done 1 0 hw (by decide)
    · iterate 2 refine x_step rfl ?_
      refine x_icmpN_gt (β (itT β q0)) (4) rfl rfl rfl (fun h2 => ?_) (fun h2 => ?_)
      · iterate 5 refine x_step rfl ?_
        refine xm_ls (pl' := [some (.ref 103), some (.int (nI (p2 + 1))), some (.int (nI (itS β p2))), some (.int (nI (1))), some (.int (nI k)), some (.int (nI (qk + 1))), some (.int (nI (β (itT β q0)))), some (.int (nI (ql + 1))), some (.int (nI (itS β ql))), some (.int (nI 0))]) rfl ?_
        have hw : 1 = fR β ps cv (cI ps 2 k) := by rw [hfr, if_pos (by omega)]
        iterate 2 refine x_step rfl ?_
        refine x_icmpN_ge (0) (itS β ql) rfl rfl rfl (fun hz => ?_) (fun hz => ?_)
        · exact done 1 0 hw (by decide)
        · refine x_step rfl ?_
          refine x_if_ne rfl (fun _ => ?_) (fun q => absurd q (by decide))
          exact done 1 0 hw (by decide)
      · iterate 2 refine x_step rfl ?_
        refine x_icmpN_le (itS β ql) (3) rfl rfl rfl (fun h3 => ?_) (fun h3 => ?_)
        · iterate 3 refine x_step rfl ?_
          refine x_ialdN (β (itT β q0)) rfl rfl rfl (by omega) ?_
          refine x_ifN_le (cv (β (itT β q0))) rfl rfl (fun h4 => ?_) (fun h4 => ?_)
          · iterate 2 refine x_step rfl ?_
            refine xm_ls (pl' := [some (.ref 103), some (.int (nI (p2 + 1))), some (.int (nI (itS β p2))), some (.int (nI (0))), some (.int (nI k)), some (.int (nI (qk + 1))), some (.int (nI (β (itT β q0)))), some (.int (nI (ql + 1))), some (.int (nI (itS β ql))), some (.int (nI 0))]) rfl ?_
            have hle := fvN_le (β := β) (ps := ps) (cI ps 2 k) (itS β ql) 0
            exact q216_v hb hβ he p2 (itS β p2) k qk (β (itT β q0)) (cI ps 2 k) ql qel hatl hnl hd (fvN β ps (cI ps 2 k) (itS β ql) 0) (itS β ql) 0 (by omega) rfl (fun i => done _ i (by rw [hfr, if_neg (by omega), if_neg (by omega)]) (by omega))
          · refine x_step rfl ?_
            refine x_ifN_le (itS β ql) rfl rfl (fun h5 => ?_) (fun h5 => ?_)
            · iterate 2 refine x_step rfl ?_
              refine xm_ls (pl' := [some (.ref 103), some (.int (nI (p2 + 1))), some (.int (nI (itS β p2))), some (.int (nI (0))), some (.int (nI k)), some (.int (nI (qk + 1))), some (.int (nI (β (itT β q0)))), some (.int (nI (ql + 1))), some (.int (nI (itS β ql))), some (.int (nI 0))]) rfl ?_
              have hle := fvN_le (β := β) (ps := ps) (cI ps 2 k) (itS β ql) 0
              exact q216_v hb hβ he p2 (itS β p2) k qk (β (itT β q0)) (cI ps 2 k) ql qel hatl hnl hd (fvN β ps (cI ps 2 k) (itS β ql) 0) (itS β ql) 0 (by omega) rfl (fun i => done _ i (by rw [hfr, if_neg (by omega), if_neg (by omega)]) (by omega))
            · iterate 4 refine x_step rfl ?_
              refine xm_ls (pl' := [some (.ref 103), some (.int (nI (p2 + 1))), some (.int (nI (itS β p2))), some (.int (nI (3))), some (.int (nI k)), some (.int (nI (qk + 1))), some (.int (nI (β (itT β q0)))), some (.int (nI (ql + 1))), some (.int (nI (itS β ql))), some (.int (nI 0))]) rfl ?_
              have hw : 3 = fR β ps cv (cI ps 2 k) := by rw [hfr, if_neg (by omega), if_pos (by omega)]
              iterate 2 refine x_step rfl ?_
              refine x_icmpN_ge (0) (itS β ql) rfl rfl rfl (fun q => False.elim (by omega)) (fun _ => ?_)
              refine x_step rfl ?_
              refine x_if_ne rfl (fun _ => ?_) (fun q => absurd q (by decide))
              exact done 3 0 hw (by decide)
        · iterate 5 refine x_step rfl ?_
          refine xm_ls (pl' := [some (.ref 103), some (.int (nI (p2 + 1))), some (.int (nI (itS β p2))), some (.int (nI (1))), some (.int (nI k)), some (.int (nI (qk + 1))), some (.int (nI (β (itT β q0)))), some (.int (nI (ql + 1))), some (.int (nI (itS β ql))), some (.int (nI 0))]) rfl ?_
          have hw : 1 = fR β ps cv (cI ps 2 k) := by rw [hfr, if_pos (by omega)]
          iterate 2 refine x_step rfl ?_
          refine x_icmpN_ge (0) (itS β ql) rfl rfl rfl (fun hz => ?_) (fun hz => ?_)
          · exact done 1 0 hw (by decide)
          · refine x_step rfl ?_
            refine x_if_ne rfl (fun _ => ?_) (fun q => absurd q (by decide))
            exact done 1 0 hw (by decide)
theorem cvZ_at {cv : Nat → Nat} {r : Nat} (h1 : 1 ≤ r) (h4 : r ≤ 4) : cvZ cv r = updn cv r 0 := by rw [cvZ, if_pos ⟨h1, h4⟩]
theorem ulR_at {s : lS} {r : Nat} (h1 : 1 ≤ r) (h4 : r ≤ 4) : ulR r s = ulA r 5 1 s := by rw [ulR, if_pos ⟨h1, h4⟩]
theorem q216_r {Q : xm_Q} (p2 : Nat) (o5 o6 o7 o8 o9 : Option Value) (hd : 1 ≤ d) : ∀ (m r : Nat) (s : (Nat → Nat) × lS), r + m = 5 → 1 ≤ r → (∀ e, s.2.1 e ≤ 2) → (∀ e i, s.2.2 e i < 2 ^ 20) → XG l xm_any 216 d 0 0 189 [some (.ref 103), some (.int (nI (p2 + 1))), some (.int (nI 0)), some (.int (nI 0)), some (.int (nI 5)), o5, o6, o7, o8, o9] [] (cw L xs (rw th jl js jh jb jc jr jq jQ jz jf jo jn jt jH jA jm jy je jp jk jx jw ju jF jL jO ((fun z1 => nI (((rmA m r s).1) z1))) ((fun z1 => nI (rt (vp) z1))) ((fun z1 => nI (((rmA m r s).2.1) z1))) ((fun z1 => nI (rf ((rmA m r s).2.2) z1))) jW ja jG ov g2) tc tf bl bf of oc ol on ml mx mb kc kh kr ka gl gx gb ls lq lk lg lh vf vs vb nv nw nr nq ne io sp ch wt xf xz xt xb xc) Q → XG l xm_any 216 d 0 0 159 [some (.ref 103), some (.int (nI (p2 + 1))), some (.int (nI 0)), some (.int (nI 0)), some (.int (nI r)), o5, o6, o7, o8, o9] [] (cw L xs (rw th jl js jh jb jc jr jq jQ jz jf jo jn jt jH jA jm jy je jp jk jx jw ju jF jL jO ((fun z1 => nI (((s).1) z1))) ((fun z1 => nI (rt (vp) z1))) ((fun z1 => nI (((s).2.1) z1))) ((fun z1 => nI (rf ((s).2.2) z1))) jW ja jG ov g2) tc tf bl bf of oc ol on ml mx mb kc kh kr ka gl gx gb ls lq lk lg lh vf vs vb nv nw nr nq ne io sp ch wt xf xz xt xb xc) Q := by
  intro m
  induction m with
  | zero =>
    intro r s he hr1 h1 h2 hK
    obtain rfl : r = 5 := by omega
    iterate 2 refine x_step rfl ?_
    refine x_icmpN_gt (5) (4) rfl rfl rfl (fun _ => ?_) (fun q => False.elim (by omega))
    exact hK
  | succ m ih =>
    intro r s he hr1 h1 h2 hK
    have h9 := ulR_ok (r := r) h1 h2
    iterate 2 refine x_step rfl ?_
    refine x_icmpN_gt (r) (4) rfl rfl rfl (fun q => False.elim (by omega)) (fun _ => ?_)
    refine x_step rfl ?_
    refine x_if_ne rfl (fun q => absurd (by decide) q) (fun _ => ?_)
    iterate 4 refine x_step rfl ?_
    refine x_iastN (r) rfl rfl rfl (by omega) ?_
    refine xm_hs (hp' := (cw L xs (rw th jl js jh jb jc jr jq jQ jz jf jo jn jt jH jA jm jy je jp jk jx jw ju jF jL jO ((fun z1 => nI ((updn s.1 r 0) z1))) ((fun z1 => nI (rt (vp) z1))) ((fun z1 => nI ((s.2.1) z1))) ((fun z1 => nI (rf (s.2.2) z1))) jW ja jG ov g2) tc tf bl bf of oc ol on ml mx mb kc kh kr ka gl gx gb ls lq lk lg lh vf vs vb nv nw nr nq ne io sp ch wt xf xz xt xb xc)) (by rw [← upd_nI] <;> rfl) ?_
    iterate 2 refine x_step rfl ?_
    refine x_callvE rfl (q217 (d := 0) r s.2 (by omega) h1 h2) rfl rfl rfl ?_
    iterate 2 refine x_step rfl ?_
    refine xm_ls (pl' := [some (.ref 103), some (.int (nI (p2 + 1))), some (.int (nI 0)), some (.int (nI 0)), some (.int (nI (r + 1))), o5, o6, o7, o8, o9]) (by rw [nI_succ r] <;> rfl) ?_
    refine xm_hs (hp' := (cw L xs (rw th jl js jh jb jc jr jq jQ jz jf jo jn jt jH jA jm jy je jp jk jx jw ju jF jL jO ((fun z1 => nI ((((cvZ s.1 r, ulR r s.2)).1) z1))) ((fun z1 => nI (rt (vp) z1))) ((fun z1 => nI ((((cvZ s.1 r, ulR r s.2)).2.1) z1))) ((fun z1 => nI (rf (((cvZ s.1 r, ulR r s.2)).2.2) z1))) jW ja jG ov g2) tc tf bl bf of oc ol on ml mx mb kc kh kr ka gl gx gb ls lq lk lg lh vf vs vb nv nw nr nq ne io sp ch wt xf xz xt xb xc)) (by rw [cvZ_at hr1 (by omega), ulR_at hr1 (by omega)] <;> rfl) ?_
    exact ih (r + 1) (cvZ s.1 r, ulR r s.2) (by omega) (by omega) h9.1 h9.2 hK
end ER10
