section ER7
variable {l : Launch} {d L : Nat} {xs : Nat → Int32} {tc : Int32} {tf : (Nat → Int32)} {bl : Int32} {bf : (Nat → Int32)} {of : Int32} {oc : Int32} {ol : Int32} {on : Int32} {ml : (Nat → Int32)} {mx : (Nat → Int32)} {mb : (Nat → Nat → Int32)} {kc : Int32} {kh : (Nat → Nat)} {kr : (Nat → Nat → Int32)} {ka : (Nat → Int32)} {gl : Int32} {gx : Int32} {gb : (Nat → Int32)} {ls : Int32} {lq : Int32} {lk : Int32} {lg : Int32} {lh : Int32} {vf : (Nat → Int32)} {vs : (Nat → Int32)} {vb : (Nat → Nat → Int32)} {nv : (Nat → Int32)} {nw : (Nat → Nat → Int32)} {nr : (Nat → Int32)} {nq : (Nat → Nat → Int32)} {ne : (Nat → Int32)} {io : Int32} {sp : Int32} {ch : Int32} {wt : Int32} {xf : (Nat → Int32)} {xz : (Nat → Int32)} {xt : (Nat → Int32)} {xb : (Nat → Int32)} {xc : Int32} {th : Int32} {jl : Int32} {js : Int32} {jh : Int32} {jb : (Nat → Int32)} {jc : Int32} {jr : (Nat → Int32)} {jq : Int32} {jQ : (Nat → Int32)} {jz : (Nat → Int32)} {jf : (Nat → Int32)} {jo : Int32} {jn : Int32} {jt : Int32} {jH : (Nat → Int32)} {jA : (Nat → Int32)} {jm : Int32} {jy : (Nat → Int32)} {je : Int32} {jp : Int32} {jk : Int32} {jx : Int32} {jw : Int32} {ju : Int32} {jF : (Nat → Int32)} {jL : (Nat → Int32)} {jO : (Nat → Int32)} {jS : (Nat → Int32)} {jT : (Nat → Int32)} {jU : (Nat → Int32)} {jV : (Nat → Int32)} {jW : (Nat → Int32)} {ja : Int32} {jG : (Nat → Int32)} {ov : (Nat → Value)} {g2 : xm_H}
variable {β : Nat → Nat} {e : Nat} {ps : List (Nat × Nat)}
theorem q204_loop (hb : ∀ i, i < 130 → jb (i + 1) = nI (β i)) (hβ : ∀ i, β i < 256) (he : e ≤ 130) (D i p q : Nat) (hat : itAt β e ps D i p q) (hD : D ≤ 6) (hF : itF β p = 0) (hd : 4 ≤ d) : ∀ (m k : Nat) (b : Bool) (o4 : Option Value), k + m = itS β p → XW l 204 d 0 0 63 [some (.ref 103), some (.int (bI b)), some (.int (nI (p + 1))), some (.int (nI k)), o4] [] (cw L xs (rw th jl js jh jb jc jr jq jQ jz jf jo jn jt jH jA jm jy je jp jk jx jw ju jF jL jO jS jT jU jV jW ja jG ov g2) tc tf bl bf of oc ol on ml mx mb kc kh kr ka gl gx gb ls lq lk lg lh vf vs vb nv nw nr nq ne io sp ch wt xf xz xt xb xc) (xm_is (some (.int (bI (b && pAll (fun k => pLst β ps (cI ps i k) 2 && (pOne β ps (cI ps i k + 1) 41 && pNums β ps (cI ps i k + 2))) m k)))) (cw L xs (rw th jl js jh jb jc jr jq jQ jz jf jo jn jt jH jA jm jy je jp jk jx jw ju jF jL jO jS jT jU jV jW ja jG ov g2) tc tf bl bf of oc ol on ml mx mb kc kh kr ka gl gx gb ls lq lk lg lh vf vs vb nv nw nr nq ne io sp ch wt xf xz xt xb xc)) := by
  obtain ⟨_, -, -, -, -, -, hpe, hTe⟩ := hat.get
  have hS := itS_lt hβ p
  intro m
  induction m with
  | zero =>
    intro k b o4 hk
    refine x_step rfl ?_
    refine x_if_eq rfl (fun h => ?_) (fun h => ?_)
    · refine x_step rfl ?_
      exact x_iret rfl rfl (bI_n _) ⟨by rw [bI_f h]; rfl, rfl⟩
    · iterate 3 refine x_step rfl ?_
      refine x_callvE rfl (q188 (d := 0) hb hβ p (by omega)) rfl rfl rfl ?_
      refine x_icmpN_ge (k) (itS β p) rfl rfl rfl (fun _ => ?_) (fun q => False.elim (by omega))
      refine x_step rfl ?_
      exact x_iret rfl rfl (bI_n _) ⟨by rw [pAll, Bool.and_true], rfl⟩
  | succ m ih =>
    intro k b o4 hk
    obtain ⟨D', cs, qk, qe, hDD, hI, hat2⟩ := hat.nth hF k (by omega)
    obtain ⟨_, -, -, -, -, -, hqe, hTq⟩ := hat2.get
    refine x_step rfl ?_
    refine x_if_eq rfl (fun h => ?_) (fun h => ?_)
    · refine x_step rfl ?_
      exact x_iret rfl rfl (bI_n _) ⟨by rw [bI_f h]; rfl, rfl⟩
    · iterate 3 refine x_step rfl ?_
      refine x_callvE rfl (q188 (d := 0) hb hβ p (by omega)) rfl rfl rfl ?_
      refine x_icmpN_ge (k) (itS β p) rfl rfl rfl (fun q => False.elim (by omega)) (fun _ => ?_)
      iterate 3 refine x_step rfl ?_
      refine x_callvE rfl (q198 (d := 2) hb hβ he D' p k qk cs (by omega) (by omega) (by omega) (by omega) hI) rfl rfl rfl ?_
      rw [bI_t h, Bool.true_and, pAll]
      iterate 4 refine x_step rfl ?_
      refine x_callvE rfl (q191 (d := 1) hb hβ qk 2 (by omega) (by omega) (by decide)) rfl rfl rfl ?_
      refine x_if_eq rfl (fun h1 => ?_) (fun h1 => ?_)
      · have hl : pLst β ps (cI ps i k) 2 = false := by rw [pLst_at hat2]; exact bI_f h1
        iterate 4 refine x_step rfl ?_
        refine xm_ls (pl' := [some (.ref 103), some (.int (bI false)), some (.int (nI (p + 1))), some (.int (nI (k + 1))), some (.int (nI (qk + 1)))]) (by rw [nI_succ k] <;> rfl) ?_
        rw [show (pLst β ps (cI ps i k) 2 && (pOne β ps (cI ps i k + 1) 41 && pNums β ps (cI ps i k + 2))) = false from by rw [hl]; rfl]
        exact ih (k + 1) _ _ (by omega)
      · have hl : pLst β ps (cI ps i k) 2 = true := by rw [pLst_at hat2]; exact bI_t h1
        have hl2 := bI_t h1
        simp at hl2
        obtain ⟨D2, cs2, q2, qe2, hD2, hI2, hat3⟩ := hat2.nth hl2.1 0 (by omega)
        obtain ⟨_, -, -, -, -, -, hqe3, hTq3⟩ := hat3.get
        iterate 4 refine x_step rfl ?_
        refine x_callvE rfl (q198 (d := 2) hb hβ he D2 qk 0 q2 cs2 (by omega) (by omega) (by decide) (by omega) hI2) rfl rfl rfl ?_
        refine x_callvE rfl (q200 (d := 1) hb hβ q2 (by omega) (by omega)) rfl rfl rfl ?_
        refine x_if_eq rfl (fun h2 => ?_) (fun h2 => ?_)
        · have hl3 : pOne β ps (cI ps i k + 1) 41 = false := by rw [show cI ps i k + 1 = cI ps (cI ps i k) 0 from rfl, pOne_at hat3]; exact bI_f h2
          iterate 4 refine x_step rfl ?_
          refine xm_ls (pl' := [some (.ref 103), some (.int (bI false)), some (.int (nI (p + 1))), some (.int (nI (k + 1))), some (.int (nI (qk + 1)))]) (by rw [nI_succ k] <;> rfl) ?_
          rw [show (pLst β ps (cI ps i k) 2 && (pOne β ps (cI ps i k + 1) 41 && pNums β ps (cI ps i k + 2))) = false from by rw [hl3, Bool.false_and, Bool.and_false]]
          exact ih (k + 1) _ _ (by omega)
        · have hl3 : pOne β ps (cI ps i k + 1) 41 = true := by rw [show cI ps i k + 1 = cI ps (cI ps i k) 0 from rfl, pOne_at hat3]; exact bI_t h2
          obtain ⟨D4, cs4, q4, qe4, hD4, hI4, hat4⟩ := hat2.nth hl2.1 1 (by omega)
          obtain ⟨_, -, -, -, -, -, hqe5, hTq5⟩ := hat4.get
          have hc2 : cI ps (cI ps i k) 1 = cI ps i k + 2 := pOne_next (i := cI ps i k + 1) hat3 (by decide) hl3
          iterate 4 refine x_step rfl ?_
          refine x_callvE rfl (q198 (d := 2) hb hβ he D4 qk 1 q4 cs4 (by omega) (by omega) (by decide) (by omega) hI4) rfl rfl rfl ?_
          refine x_callvE rfl (q197 (d := 3) hb hβ he D4 (cI ps (cI ps i k) 1) q4 qe4 hat4 (by omega) (by omega)) rfl rfl rfl ?_
          rw [hc2]
          refine x_if_eq rfl (fun h3 => ?_) (fun h3 => ?_)
          · iterate 4 refine x_step rfl ?_
            refine xm_ls (pl' := [some (.ref 103), some (.int (bI false)), some (.int (nI (p + 1))), some (.int (nI (k + 1))), some (.int (nI (qk + 1)))]) (by rw [nI_succ k] <;> rfl) ?_
            rw [show (pLst β ps (cI ps i k) 2 && (pOne β ps (cI ps i k + 1) 41 && pNums β ps (cI ps i k + 2))) = false from by rw [bI_f h3, Bool.and_false, Bool.and_false]]
            exact ih (k + 1) _ _ (by omega)
          · iterate 5 refine x_step rfl ?_
            refine xm_ls (pl' := [some (.ref 103), some (.int (bI true)), some (.int (nI (p + 1))), some (.int (nI (k + 1))), some (.int (nI (qk + 1)))]) (by rw [nI_succ k] <;> rfl) ?_
            rw [show (pLst β ps (cI ps i k) 2 && (pOne β ps (cI ps i k + 1) 41 && pNums β ps (cI ps i k + 2))) = true from by rw [hl, hl3, bI_t h3]; rfl]
            exact ih (k + 1) _ _ (by omega)
/-- FabLinkModel.isTable -/
theorem q204 (hb : ∀ i, i < 130 → jb (i + 1) = nI (β i)) (hβ : ∀ i, β i < 256) (he : e ≤ 130) (hat : itAt β e ps 6 0 10 e) (hd : 5 ≤ d) : XM l 204 d 0 0 [.ref 103] (cw L xs (rw th jl js jh jb jc jr jq jQ jz jf jo jn jt jH jA jm jy je jp jk jx jw ju jF jL jO jS jT jU jV jW ja jG ov g2) tc tf bl bf of oc ol on ml mx mb kc kh kr ka gl gx gb ls lq lk lg lh vf vs vb nv nw nr nq ne io sp ch wt xf xz xt xb xc) (xm_is (some (.int (bI (pTable β ps)))) (cw L xs (rw th jl js jh jb jc jr jq jQ jz jf jo jn jt jH jA jm jy je jp jk jx jw ju jF jL jO jS jT jU jV jW ja jG ov g2) tc tf bl bf of oc ol on ml mx mb kc kh kr ka gl gx gb ls lq lk lg lh vf vs vb nv nw nr nq ne io sp ch wt xf xz xt xb xc)) := by
  refine XE (pl := [some (.ref 103), none, none, none, none]) xg204 rfl ?_
  obtain ⟨_, -, e1, e2, -, -, hpe, hTe⟩ := hat.get
  iterate 3 refine x_step rfl ?_
  refine x_callvE rfl (q191 (d := 1) hb hβ 10 2 (by omega) (by omega) (by decide)) rfl rfl rfl ?_
  refine x_if_eq rfl (fun h1 => ?_) (fun h1 => ?_)
  · have hl : pLst β ps 0 2 = false := by rw [pLst_at hat]; exact bI_f h1
    iterate 2 refine x_step rfl ?_
    refine xm_ls (pl' := [some (.ref 103), some (.int 0), none, none, none]) rfl ?_
    refine x_step rfl ?_
    refine x_if_eq rfl (fun _ => ?_) (fun q => absurd (by decide) q)
    iterate 5 refine x_step rfl ?_
    refine x_if_eq rfl (fun _ => ?_) (fun q => absurd (by decide) q)
    refine x_step rfl ?_
    exact x_iret rfl rfl rfl ⟨by rw [pTable, show (pLst β ps 0 2 && (pOne β ps 1 41 && pF β ps 2 == 0)) = false from by rw [hl]; rfl]; rfl, rfl⟩
  · have hl : pLst β ps 0 2 = true := by rw [pLst_at hat]; exact bI_t h1
    have hl2 := bI_t h1
    simp at hl2
    obtain ⟨D2, cs2, q2, qe2, hD2, hI2, hat2⟩ := hat.nth hl2.1 0 (by omega)
    obtain ⟨_, -, a1, a2, -, -, hq2, hT2⟩ := hat2.get
    obtain ⟨D3, cs3, q3, qe3, hD3, hI3, hat3⟩ := hat.nth hl2.1 1 (by omega)
    obtain ⟨_, -, b1, b2, -, -, hq3, hT3⟩ := hat3.get
    have hF2 := itF_lt hβ q2
    have hS2 := itS_lt hβ q2
    have hF3 := itF_lt hβ q3
    iterate 4 refine x_step rfl ?_
    refine x_callvE rfl (q198 (d := 2) hb hβ he D2 10 0 q2 cs2 (by omega) (by omega) (by decide) (by omega) hI2) rfl rfl rfl ?_
    refine x_callvE rfl (q200 (d := 1) hb hβ q2 (by omega) (by omega)) rfl rfl rfl ?_
    refine x_if_eq rfl (fun h2 => ?_) (fun h2 => ?_)
    · have hl3 : pOne β ps 1 41 = false := by rw [show pOne β ps 1 41 = pOne β ps (cI ps 0 0) 41 from rfl, pOne_at hat2]; exact bI_f h2
      iterate 2 refine x_step rfl ?_
      refine xm_ls (pl' := [some (.ref 103), some (.int 0), none, none, none]) rfl ?_
      refine x_step rfl ?_
      refine x_if_eq rfl (fun _ => ?_) (fun q => absurd (by decide) q)
      iterate 5 refine x_step rfl ?_
      refine x_if_eq rfl (fun _ => ?_) (fun q => absurd (by decide) q)
      refine x_step rfl ?_
      exact x_iret rfl rfl rfl ⟨by rw [pTable, show (pLst β ps 0 2 && (pOne β ps 1 41 && pF β ps 2 == 0)) = false from by rw [hl3, Bool.false_and, Bool.and_false]]; rfl, rfl⟩
    · have hl3 : pOne β ps 1 41 = true := by rw [show pOne β ps 1 41 = pOne β ps (cI ps 0 0) 41 from rfl, pOne_at hat2]; exact bI_t h2
      have hc2 : cI ps 0 1 = 2 := pOne_next (i := 1) hat2 (by decide) hl3
      rw [hc2] at b1 b2 hat3
      iterate 4 refine x_step rfl ?_
      refine x_callvE rfl (q198 (d := 2) hb hβ he D3 10 1 q3 cs3 (by omega) (by omega) (by decide) (by omega) hI3) rfl rfl rfl ?_
      refine x_step rfl ?_
      refine x_callvE rfl (q191m (d := 1) hb hβ q3 (by omega) (by omega)) rfl rfl rfl ?_
      refine x_if_eq rfl (fun h3 => ?_) (fun h3 => ?_)
      · have hl4 : (pF β ps 2 == 0) = false := by rw [b1]; exact bI_f h3
        iterate 2 refine x_step rfl ?_
        refine xm_ls (pl' := [some (.ref 103), some (.int 0), none, none, none]) rfl ?_
        refine x_step rfl ?_
        refine x_if_eq rfl (fun _ => ?_) (fun q => absurd (by decide) q)
        iterate 5 refine x_step rfl ?_
        refine x_if_eq rfl (fun _ => ?_) (fun q => absurd (by decide) q)
        refine x_step rfl ?_
        exact x_iret rfl rfl rfl ⟨by rw [pTable, show (pLst β ps 0 2 && (pOne β ps 1 41 && pF β ps 2 == 0)) = false from by rw [hl4, Bool.and_false, Bool.and_false]]; rfl, rfl⟩
      · have hl4 : (pF β ps 2 == 0) = true := by rw [b1]; exact bI_t h3
        have hF : itF β q3 = 0 := by simpa using bI_t h3
        iterate 3 refine x_step rfl ?_
        refine xm_ls (pl' := [some (.ref 103), some (.int 1), none, none, none]) rfl ?_
        refine x_step rfl ?_
        refine x_if_eq rfl (fun q => absurd q (by decide)) (fun _ => ?_)
        iterate 3 refine x_step rfl ?_
        refine x_callvE rfl (q198 (d := 2) hb hβ he D3 10 1 q3 cs3 (by omega) (by omega) (by decide) (by omega) hI3) rfl rfl rfl ?_
        iterate 4 refine x_step rfl ?_
        refine xm_ls (pl' := [some (.ref 103), some (.int (bI true)), some (.int (nI (q3 + 1))), some (.int (nI 0)), none]) rfl ?_
        rw [pTable, hl, hl3, hl4, b2, show (3 : Nat) = cI ps 2 0 from rfl, pRow_eq]
        exact q204_loop hb hβ he D3 2 q3 qe3 hat3 (by omega) hF (by omega) (itS β q3) 0 true none (by omega)
theorem pY_at {D i p q k : Nat} (h : itAt β e ps D i p q) (hF : ¬ itF β p = 0) (he : e ≤ 130) (hk : k < itS β p) : pY β ps i k = β (itT β p + k) ∧ itT β p + k < 130 := by
  obtain ⟨_, -, e1, e2, e3, -⟩ := h.get
  have hl := h.leaf hF
  rw [pY, e2, e3, if_pos ⟨hk, by omega⟩]
  exact ⟨rfl, by omega⟩
theorem itB_at (h : itB β e = some ps) : itAt β e ps 6 0 10 e := by
  unfold itB at h
  split at h
  · cases h
  next ps' q h1 =>
    split at h
    next hq => cases h; subst hq; exact itAt.top h1
    · cases h
theorem itB_10 (h : e = 10) : itB β e = none := by
  unfold itB
  rw [itR_eq, if_neg (by omega)]
/-- welcomes -/
theorem q184 {Q : Option Value → xm_H → Prop} (hb : ∀ i, i < 130 → jb (i + 1) = nI (β i)) (hβ : ∀ i, β i < 256) (he : e ≤ 130) (g : Nat → Nat) (hg : ∀ i, g i < 2 ^ 24) (hd : 2 ≤ d) (hQ : ∀ g' : Nat → Nat, (∀ i, g' i < 2 ^ 24) → Q (some (.int (bI (dG β e)))) (cw L xs (rw th jl js jh jb jc jr jq jQ jz jf jo jn jt jH jA jm jy je jp jk jx jw ju jF jL jO jS jT jU jV jW (nI e) ((fun z1 => nI ((g') z1))) ov g2) tc tf bl bf of oc ol on ml mx mb kc kh kr ka gl gx gb ls lq lk lg lh vf vs vb nv nw nr nq ne io sp ch wt xf xz xt xb xc)) : XM l 184 d 0 0 [.ref 103] (cw L xs (rw th jl js jh jb jc jr jq jQ jz jf jo jn jt jH jA jm jy je jp jk jx jw ju jF jL jO jS jT jU jV jW (nI e) ((fun z1 => nI ((g) z1))) ov g2) tc tf bl bf of oc ol on ml mx mb kc kh kr ka gl gx gb ls lq lk lg lh vf vs vb nv nw nr nq ne io sp ch wt xf xz xt xb xc) Q := by
  refine XEq (pl := [some (.ref 103), none]) xg184 rfl ?_
  iterate 3 refine x_step rfl ?_
  refine x_icmpN_eq (e) (10) rfl rfl rfl (fun h10 => ?_) (fun h10 => ?_)
  · have hq := hQ g hg
    rw [show dG β e = false from by rw [dG, itB_10 h10]; rfl] at hq
    refine x_step rfl ?_
    exact x_iret rfl rfl rfl hq
  · refine x_step rfl ?_
    refine x_callv (a := 103) (as := []) (rest := []) rfl (by decide) (q185 (d := 1) hb hβ he g hg (by omega)) (by omega) (Nat.zero_le _) (Nat.zero_le _) rfl rfl (by decide) rfl rfl ?_
    rintro v h ⟨g', hg', rfl, rfl⟩
    have hq := hQ g' hg'
    refine x_if_eq rfl (fun h1 => ?_) (fun h1 => ?_)
    · have hn : itB β e = none := by simpa using bI_f h1
      rw [show dG β e = false from by rw [dG, hn]; rfl] at hq
      refine x_step rfl ?_
      exact x_iret rfl rfl rfl hq
    · obtain ⟨ps, hn⟩ : ∃ ps, itB β e = some ps := Option.isSome_iff_exists.mp (bI_t h1)
      have hat := itB_at hn
      obtain ⟨_, -, e1, e2, -, -, hpe, hTe⟩ := hat.get
      rw [show dG β e = pGreet β ps from by rw [dG, hn]; rfl] at hq
      have hS := itS_lt hβ 10
      iterate 3 refine x_step rfl ?_
      refine x_callvE rfl (q191m (d := 1) hb hβ 10 (by omega) (by omega)) rfl rfl rfl ?_
      refine x_if_eq rfl (fun h2 => ?_) (fun h2 => ?_)
      · rw [pGreet, e1, bI_f h2] at hq
        refine x_step rfl ?_
        exact x_iret rfl rfl rfl hq
      · have hF : itF β 10 = 0 := by simpa using bI_t h2
        iterate 2 refine x_step rfl ?_
        refine x_callvE rfl (q188 (d := 0) hb hβ 10 (by omega)) rfl rfl rfl ?_
        refine x_ifN_ne (itS β 10) rfl rfl (fun h3 => ?_) (fun h3 => ?_)
        · obtain ⟨D2, cs2, q2, qe2, hD2, hI2, hat2⟩ := hat.nth hF 0 (by omega)
          obtain ⟨_, -, a1, a2, -, -, hq2, hT2⟩ := hat2.get
          have hF2 := itF_lt hβ q2
          have hS2 := itS_lt hβ q2
          obtain rfl : itT β 10 = q2 := by cases hI2; rfl
          iterate 2 refine x_step rfl ?_
          refine x_callvE rfl (q189 (d := 0) hb hβ 10 (by omega)) rfl rfl rfl ?_
          iterate 3 refine x_step rfl ?_
          refine x_callvE rfl (q187 (d := 0) hb hβ (itT β 10) (by omega)) rfl rfl rfl ?_
          rw [pGreet, e1, hF, e2, show decide (0 < itS β 10) = true from decide_eq_true (by omega), pOne, show pF β ps 1 = itF β (itT β 10) from a1, show pS β ps 1 = itS β (itT β 10) from a2] at hq
          refine x_step rfl ?_
          refine x_icmpN_ne (itF β (itT β 10)) (8) rfl rfl rfl (fun h4 => ?_) (fun h4 => ?_)
          · rw [show (itF β (itT β 10) == 8) = false from by simpa using h4, Bool.false_and, Bool.false_and, Bool.and_false, Bool.and_false] at hq
            refine x_step rfl ?_
            exact x_iret rfl rfl rfl hq
          · iterate 2 refine x_step rfl ?_
            refine x_callvE rfl (q188 (d := 0) hb hβ (itT β 10) (by omega)) rfl rfl rfl ?_
            refine x_step rfl ?_
            refine x_icmpN_ne (itS β (itT β 10)) (1) rfl rfl rfl (fun h5 => ?_) (fun h5 => ?_)
            · rw [show (itS β (itT β 10) == 1) = false from by simpa using h5, Bool.and_false, Bool.false_and, Bool.and_false, Bool.and_false] at hq
              refine x_step rfl ?_
              exact x_iret rfl rfl rfl hq
            · obtain ⟨y1, y2⟩ := pY_at (k := 0) hat2 (by omega) he (by omega)
              have hyb := hβ (itT β (itT β 10))
              rw [show pY β ps 1 0 = β (itT β (itT β 10)) from y1, h4, h5] at hq
              iterate 2 refine x_step rfl ?_
              refine x_callvE rfl (q192 (d := 1) hb hβ (itT β 10) (by omega) (by omega)) rfl rfl rfl ?_
              refine x_ifN_ne (β (itT β (itT β 10))) rfl rfl (fun h6 => ?_) (fun h6 => ?_)
              · rw [show (β (itT β (itT β 10)) == 0) = false from by simpa using h6] at hq
                refine x_step rfl ?_
                exact x_iret rfl rfl rfl hq
              · rw [h6] at hq
                iterate 2 refine x_step rfl ?_
                exact x_iret rfl rfl rfl hq
        · rw [pGreet, e2, show decide (0 < itS β 10) = false from decide_eq_false (by omega), Bool.false_and, Bool.and_false] at hq
          refine x_step rfl ?_
          exact x_iret rfl rfl rfl hq
theorem q196_13 : XM l 196 d 0 0 [.ref 103, .int 1, .int 13] (cw L xs (rw th jl js jh jb jc jr jq jQ jz jf jo jn jt jH jA jm jy je jp jk jx jw ju jF jL jO jS jT jU jV jW ja jG ov g2) tc tf bl bf of oc ol on ml mx mb kc kh kr ka gl gx gb ls lq lk lg lh vf vs vb nv nw nr nq ne io sp ch wt xf xz xt xb xc) (xm_is (some (.int 1)) (cw L xs (rw th jl js jh jb jc jr jq jQ jz jf jo jn jt jH jA jm jy je jp jk jx jw ju jF jL jO jS jT jU jV jW ja jG ov g2) tc tf bl bf of oc ol on ml mx mb kc kh kr ka gl gx gb ls lq lk lg lh vf vs vb nv nw nr nq ne io sp ch wt xf xz xt xb xc)) := by
  refine XE (pl := [some (.ref 103), some (.int 1), some (.int 13)]) xg196 rfl ?_
  iterate 2 refine x_step rfl ?_
  refine x_icmp_ne rfl (fun q => absurd (by decide) q) (fun _ => ?_)
  iterate 2 refine x_step rfl ?_
  refine x_icmp_ne rfl (fun q => absurd (by decide) q) (fun _ => ?_)
  refine x_step rfl ?_
  exact x_iret rfl rfl rfl ⟨rfl, rfl⟩
theorem q196_1 (he : e ≤ 130) : XM l 196 d 0 0 [.ref 103, .int 1, .int 1] (cw L xs (rw th jl js jh jb jc jr jq jQ jz jf jo jn jt jH jA jm jy je jp jk jx jw ju jF jL jO jS jT jU jV jW (nI e) jG ov g2) tc tf bl bf of oc ol on ml mx mb kc kh kr ka gl gx gb ls lq lk lg lh vf vs vb nv nw nr nq ne io sp ch wt xf xz xt xb xc) (xm_is (some (.int (bI (dB β e 257)))) (cw L xs (rw th jl js jh jb jc jr jq jQ jz jf jo jn jt jH jA jm jy je jp jk jx jw ju jF jL jO jS jT jU jV jW (nI e) jG ov g2) tc tf bl bf of oc ol on ml mx mb kc kh kr ka gl gx gb ls lq lk lg lh vf vs vb nv nw nr nq ne io sp ch wt xf xz xt xb xc)) := by
  refine XE (pl := [some (.ref 103), some (.int 1), some (.int 1)]) xg196 rfl ?_
  iterate 2 refine x_step rfl ?_
  refine x_icmp_ne rfl (fun q => absurd (by decide) q) (fun _ => ?_)
  iterate 2 refine x_step rfl ?_
  refine x_icmp_ne rfl (fun _ => ?_) (fun q => absurd q (by decide))
  iterate 2 refine x_step rfl ?_
  refine x_icmp_ne rfl (fun q => absurd (by decide) q) (fun _ => ?_)
  iterate 2 refine x_step rfl ?_
  refine x_icmp_eq rfl (fun q => absurd q (by decide)) (fun _ => ?_)
  iterate 3 refine x_step rfl ?_
  refine x_icmpN_ne (e) (10) rfl rfl rfl (fun h => ?_) (fun h => ?_)
  · refine x_step rfl ?_
    exact x_iret rfl rfl rfl ⟨by rw [show dB β e 257 = false from by simp [dB, h]]; rfl, rfl⟩
  · iterate 2 refine x_step rfl ?_
    exact x_iret rfl rfl rfl ⟨by rw [show dB β e 257 = true from by simp [dB, h]]; rfl, rfl⟩
theorem q196_15 (he : e ≤ 130) : XM l 196 d 0 0 [.ref 103, .int 1, .int 15] (cw L xs (rw th jl js jh jb jc jr jq jQ jz jf jo jn jt jH jA jm jy je jp jk jx jw ju jF jL jO jS jT jU jV jW (nI e) jG ov g2) tc tf bl bf of oc ol on ml mx mb kc kh kr ka gl gx gb ls lq lk lg lh vf vs vb nv nw nr nq ne io sp ch wt xf xz xt xb xc) (xm_is (some (.int (bI (dB β e 271)))) (cw L xs (rw th jl js jh jb jc jr jq jQ jz jf jo jn jt jH jA jm jy je jp jk jx jw ju jF jL jO jS jT jU jV jW (nI e) jG ov g2) tc tf bl bf of oc ol on ml mx mb kc kh kr ka gl gx gb ls lq lk lg lh vf vs vb nv nw nr nq ne io sp ch wt xf xz xt xb xc)) := by
  refine XE (pl := [some (.ref 103), some (.int 1), some (.int 15)]) xg196 rfl ?_
  iterate 2 refine x_step rfl ?_
  refine x_icmp_ne rfl (fun q => absurd (by decide) q) (fun _ => ?_)
  iterate 2 refine x_step rfl ?_
  refine x_icmp_ne rfl (fun _ => ?_) (fun q => absurd q (by decide))
  iterate 2 refine x_step rfl ?_
  refine x_icmp_ne rfl (fun q => absurd (by decide) q) (fun _ => ?_)
  iterate 2 refine x_step rfl ?_
  refine x_icmp_eq rfl (fun q => absurd q (by decide)) (fun _ => ?_)
  iterate 3 refine x_step rfl ?_
  refine x_icmpN_ne (e) (10) rfl rfl rfl (fun h => ?_) (fun h => ?_)
  · refine x_step rfl ?_
    exact x_iret rfl rfl rfl ⟨by rw [show dB β e 271 = false from by simp [dB, h]]; rfl, rfl⟩
  · iterate 2 refine x_step rfl ?_
    exact x_iret rfl rfl rfl ⟨by rw [show dB β e 271 = true from by simp [dB, h]]; rfl, rfl⟩
theorem q196_17 (he : e ≤ 130) : XM l 196 d 0 0 [.ref 103, .int 1, .int 17] (cw L xs (rw th jl js jh jb jc jr jq jQ jz jf jo jn jt jH jA jm jy je jp jk jx jw ju jF jL jO jS jT jU jV jW (nI e) jG ov g2) tc tf bl bf of oc ol on ml mx mb kc kh kr ka gl gx gb ls lq lk lg lh vf vs vb nv nw nr nq ne io sp ch wt xf xz xt xb xc) (xm_is (some (.int (bI (dB β e 273)))) (cw L xs (rw th jl js jh jb jc jr jq jQ jz jf jo jn jt jH jA jm jy je jp jk jx jw ju jF jL jO jS jT jU jV jW (nI e) jG ov g2) tc tf bl bf of oc ol on ml mx mb kc kh kr ka gl gx gb ls lq lk lg lh vf vs vb nv nw nr nq ne io sp ch wt xf xz xt xb xc)) := by
  refine XE (pl := [some (.ref 103), some (.int 1), some (.int 17)]) xg196 rfl ?_
  iterate 2 refine x_step rfl ?_
  refine x_icmp_ne rfl (fun q => absurd (by decide) q) (fun _ => ?_)
  iterate 2 refine x_step rfl ?_
  refine x_icmp_ne rfl (fun _ => ?_) (fun q => absurd q (by decide))
  iterate 2 refine x_step rfl ?_
  refine x_icmp_ne rfl (fun q => absurd (by decide) q) (fun _ => ?_)
  iterate 2 refine x_step rfl ?_
  refine x_icmp_eq rfl (fun q => absurd q (by decide)) (fun _ => ?_)
  iterate 3 refine x_step rfl ?_
  refine x_icmpN_ne (e) (10) rfl rfl rfl (fun h => ?_) (fun h => ?_)
  · refine x_step rfl ?_
    exact x_iret rfl rfl rfl ⟨by rw [show dB β e 273 = false from by simp [dB, h]]; rfl, rfl⟩
  · iterate 2 refine x_step rfl ?_
    exact x_iret rfl rfl rfl ⟨by rw [show dB β e 273 = true from by simp [dB, h]]; rfl, rfl⟩
theorem q196_259 {Q : Option Value → xm_H → Prop} (hb : ∀ i, i < 130 → jb (i + 1) = nI (β i)) (hβ : ∀ i, β i < 256) (he : e ≤ 130) (g : Nat → Nat) (hg : ∀ i, g i < 2 ^ 24) (hd : 6 ≤ d) (hQ : ∀ g' : Nat → Nat, (∀ i, g' i < 2 ^ 24) → Q (some (.int (bI (dB β e 259)))) (cw L xs (rw th jl js jh jb jc jr jq jQ jz jf jo jn jt jH jA jm jy je jp jk jx jw ju jF jL jO jS jT jU jV jW (nI e) ((fun z1 => nI ((g') z1))) ov g2) tc tf bl bf of oc ol on ml mx mb kc kh kr ka gl gx gb ls lq lk lg lh vf vs vb nv nw nr nq ne io sp ch wt xf xz xt xb xc)) : XM l 196 d 0 0 [.ref 103, .int 1, .int 3] (cw L xs (rw th jl js jh jb jc jr jq jQ jz jf jo jn jt jH jA jm jy je jp jk jx jw ju jF jL jO jS jT jU jV jW (nI e) ((fun z1 => nI ((g) z1))) ov g2) tc tf bl bf of oc ol on ml mx mb kc kh kr ka gl gx gb ls lq lk lg lh vf vs vb nv nw nr nq ne io sp ch wt xf xz xt xb xc) Q := by
  refine XEq (pl := [some (.ref 103), some (.int 1), some (.int 3)]) xg196 rfl ?_
  iterate 2 refine x_step rfl ?_
  refine x_icmp_ne rfl (fun q => absurd (by decide) q) (fun _ => ?_)
  iterate 2 refine x_step rfl ?_
  refine x_icmp_ne rfl (fun _ => ?_) (fun q => absurd q (by decide))
  iterate 2 refine x_step rfl ?_
  refine x_icmp_ne rfl (fun q => absurd (by decide) q) (fun _ => ?_)
  iterate 2 refine x_step rfl ?_
  refine x_icmp_eq rfl (fun _ => ?_) (fun q => absurd (by decide) q)
  iterate 3 refine x_step rfl ?_
  refine x_icmpN_eq (e) (10) rfl rfl rfl (fun h10 => ?_) (fun h10 => ?_)
  · have hq := hQ g hg
    rw [show dB β e 259 = false from by simp [dB, itB_10 h10]] at hq
    refine x_step rfl ?_
    exact x_iret rfl rfl rfl hq
  · refine x_step rfl ?_
    refine x_callv (a := 103) (as := []) (rest := []) rfl (by decide) (q185 (d := 1) hb hβ he g hg (by omega)) (by omega) (Nat.zero_le _) (Nat.zero_le _) rfl rfl (by decide) rfl rfl ?_
    rintro v h ⟨g', hg', rfl, rfl⟩
    have hq := hQ g' hg'
    refine x_if_ne rfl (fun h1 => ?_) (fun h1 => ?_)
    · obtain ⟨ps, hn⟩ : ∃ ps, itB β e = some ps := Option.isSome_iff_exists.mp (bI_t h1)
      have hat := itB_at hn
      rw [show dB β e 259 = pNums β ps 0 from by simp [dB, hn]] at hq
      iterate 2 refine x_step rfl ?_
      refine x_icmp_ne rfl (fun q => absurd (by decide) q) (fun _ => ?_)
      iterate 2 refine x_step rfl ?_
      refine x_callvE rfl (q197 (d := 3) hb hβ he 6 0 10 e hat (by decide) (by omega)) rfl rfl rfl ?_
      refine x_step rfl ?_
      exact x_iret rfl rfl (bI_n _) hq
    · have hn : itB β e = none := by simpa using bI_f h1
      rw [show dB β e 259 = false from by simp [dB, hn]] at hq
      refine x_step rfl ?_
      exact x_iret rfl rfl rfl hq
theorem q196_527 {Q : Option Value → xm_H → Prop} (hb : ∀ i, i < 130 → jb (i + 1) = nI (β i)) (hβ : ∀ i, β i < 256) (he : e ≤ 130) (g : Nat → Nat) (hg : ∀ i, g i < 2 ^ 24) (hd : 6 ≤ d) (hQ : ∀ g' : Nat → Nat, (∀ i, g' i < 2 ^ 24) → Q (some (.int (bI (dB β e 527)))) (cw L xs (rw th jl js jh jb jc jr jq jQ jz jf jo jn jt jH jA jm jy je jp jk jx jw ju jF jL jO jS jT jU jV jW (nI e) ((fun z1 => nI ((g') z1))) ov g2) tc tf bl bf of oc ol on ml mx mb kc kh kr ka gl gx gb ls lq lk lg lh vf vs vb nv nw nr nq ne io sp ch wt xf xz xt xb xc)) : XM l 196 d 0 0 [.ref 103, .int 2, .int 15] (cw L xs (rw th jl js jh jb jc jr jq jQ jz jf jo jn jt jH jA jm jy je jp jk jx jw ju jF jL jO jS jT jU jV jW (nI e) ((fun z1 => nI ((g) z1))) ov g2) tc tf bl bf of oc ol on ml mx mb kc kh kr ka gl gx gb ls lq lk lg lh vf vs vb nv nw nr nq ne io sp ch wt xf xz xt xb xc) Q := by
  refine XEq (pl := [some (.ref 103), some (.int 2), some (.int 15)]) xg196 rfl ?_
  iterate 2 refine x_step rfl ?_
  refine x_icmp_ne rfl (fun _ => ?_) (fun q => absurd q (by decide))
  iterate 2 refine x_step rfl ?_
  refine x_icmp_ne rfl (fun _ => ?_) (fun q => absurd q (by decide))
  iterate 3 refine x_step rfl ?_
  refine x_icmpN_eq (e) (10) rfl rfl rfl (fun h10 => ?_) (fun h10 => ?_)
  · have hq := hQ g hg
    rw [show dB β e 527 = false from by simp [dB, itB_10 h10]] at hq
    refine x_step rfl ?_
    exact x_iret rfl rfl rfl hq
  · refine x_step rfl ?_
    refine x_callv (a := 103) (as := []) (rest := []) rfl (by decide) (q185 (d := 1) hb hβ he g hg (by omega)) (by omega) (Nat.zero_le _) (Nat.zero_le _) rfl rfl (by decide) rfl rfl ?_
    rintro v h ⟨g', hg', rfl, rfl⟩
    have hq := hQ g' hg'
    refine x_if_ne rfl (fun h1 => ?_) (fun h1 => ?_)
    · obtain ⟨ps, hn⟩ : ∃ ps, itB β e = some ps := Option.isSome_iff_exists.mp (bI_t h1)
      have hat := itB_at hn
      rw [show dB β e 527 = pPairs β ps from by simp [dB, hn]] at hq
      iterate 2 refine x_step rfl ?_
      refine x_icmp_ne rfl (fun _ => ?_) (fun q => absurd q (by decide))
      iterate 2 refine x_step rfl ?_
      refine x_icmp_ne rfl (fun q => absurd (by decide) q) (fun _ => ?_)
      refine x_step rfl ?_
      refine x_callvE rfl (q201 (d := 3) hb hβ he hat (by omega)) rfl rfl rfl ?_
      refine x_step rfl ?_
      exact x_iret rfl rfl (bI_n _) hq
    · have hn : itB β e = none := by simpa using bI_f h1
      rw [show dB β e 527 = false from by simp [dB, hn]] at hq
      refine x_step rfl ?_
      exact x_iret rfl rfl rfl hq
theorem q196_549 {Q : Option Value → xm_H → Prop} (hb : ∀ i, i < 130 → jb (i + 1) = nI (β i)) (hβ : ∀ i, β i < 256) (he : e ≤ 130) (g : Nat → Nat) (hg : ∀ i, g i < 2 ^ 24) (hd : 6 ≤ d) (hQ : ∀ g' : Nat → Nat, (∀ i, g' i < 2 ^ 24) → Q (some (.int (bI (dB β e 549)))) (cw L xs (rw th jl js jh jb jc jr jq jQ jz jf jo jn jt jH jA jm jy je jp jk jx jw ju jF jL jO jS jT jU jV jW (nI e) ((fun z1 => nI ((g') z1))) ov g2) tc tf bl bf of oc ol on ml mx mb kc kh kr ka gl gx gb ls lq lk lg lh vf vs vb nv nw nr nq ne io sp ch wt xf xz xt xb xc)) : XM l 196 d 0 0 [.ref 103, .int 2, .int 37] (cw L xs (rw th jl js jh jb jc jr jq jQ jz jf jo jn jt jH jA jm jy je jp jk jx jw ju jF jL jO jS jT jU jV jW (nI e) ((fun z1 => nI ((g) z1))) ov g2) tc tf bl bf of oc ol on ml mx mb kc kh kr ka gl gx gb ls lq lk lg lh vf vs vb nv nw nr nq ne io sp ch wt xf xz xt xb xc) Q := by
  refine XEq (pl := [some (.ref 103), some (.int 2), some (.int 37)]) xg196 rfl ?_
  iterate 2 refine x_step rfl ?_
  refine x_icmp_ne rfl (fun _ => ?_) (fun q => absurd q (by decide))
  iterate 2 refine x_step rfl ?_
  refine x_icmp_ne rfl (fun _ => ?_) (fun q => absurd q (by decide))
  iterate 3 refine x_step rfl ?_
  refine x_icmpN_eq (e) (10) rfl rfl rfl (fun h10 => ?_) (fun h10 => ?_)
  · have hq := hQ g hg
    rw [show dB β e 549 = false from by simp [dB, itB_10 h10]] at hq
    refine x_step rfl ?_
    exact x_iret rfl rfl rfl hq
  · refine x_step rfl ?_
    refine x_callv (a := 103) (as := []) (rest := []) rfl (by decide) (q185 (d := 1) hb hβ he g hg (by omega)) (by omega) (Nat.zero_le _) (Nat.zero_le _) rfl rfl (by decide) rfl rfl ?_
    rintro v h ⟨g', hg', rfl, rfl⟩
    have hq := hQ g' hg'
    refine x_if_ne rfl (fun h1 => ?_) (fun h1 => ?_)
    · obtain ⟨ps, hn⟩ : ∃ ps, itB β e = some ps := Option.isSome_iff_exists.mp (bI_t h1)
      have hat := itB_at hn
      rw [show dB β e 549 = pSwitch β ps from by simp [dB, hn]] at hq
      iterate 2 refine x_step rfl ?_
      refine x_icmp_ne rfl (fun _ => ?_) (fun q => absurd q (by decide))
      iterate 2 refine x_step rfl ?_
      refine x_icmp_ne rfl (fun _ => ?_) (fun q => absurd q (by decide))
      iterate 2 refine x_step rfl ?_
      refine x_icmp_ne rfl (fun q => absurd (by decide) q) (fun _ => ?_)
      refine x_step rfl ?_
      refine x_callvE rfl (q202 (d := 4) hb hβ he hat (by omega)) rfl rfl rfl ?_
      refine x_step rfl ?_
      exact x_iret rfl rfl (bI_n _) hq
    · have hn : itB β e = none := by simpa using bI_f h1
      rw [show dB β e 549 = false from by simp [dB, hn]] at hq
      refine x_step rfl ?_
      exact x_iret rfl rfl rfl hq
theorem q196_553 {Q : Option Value → xm_H → Prop} (hb : ∀ i, i < 130 → jb (i + 1) = nI (β i)) (hβ : ∀ i, β i < 256) (he : e ≤ 130) (g : Nat → Nat) (hg : ∀ i, g i < 2 ^ 24) (hd : 6 ≤ d) (hQ : ∀ g' : Nat → Nat, (∀ i, g' i < 2 ^ 24) → Q (some (.int (bI (dB β e 553)))) (cw L xs (rw th jl js jh jb jc jr jq jQ jz jf jo jn jt jH jA jm jy je jp jk jx jw ju jF jL jO jS jT jU jV jW (nI e) ((fun z1 => nI ((g') z1))) ov g2) tc tf bl bf of oc ol on ml mx mb kc kh kr ka gl gx gb ls lq lk lg lh vf vs vb nv nw nr nq ne io sp ch wt xf xz xt xb xc)) : XM l 196 d 0 0 [.ref 103, .int 2, .int 41] (cw L xs (rw th jl js jh jb jc jr jq jQ jz jf jo jn jt jH jA jm jy je jp jk jx jw ju jF jL jO jS jT jU jV jW (nI e) ((fun z1 => nI ((g) z1))) ov g2) tc tf bl bf of oc ol on ml mx mb kc kh kr ka gl gx gb ls lq lk lg lh vf vs vb nv nw nr nq ne io sp ch wt xf xz xt xb xc) Q := by
  refine XEq (pl := [some (.ref 103), some (.int 2), some (.int 41)]) xg196 rfl ?_
  iterate 2 refine x_step rfl ?_
  refine x_icmp_ne rfl (fun _ => ?_) (fun q => absurd q (by decide))
  iterate 2 refine x_step rfl ?_
  refine x_icmp_ne rfl (fun _ => ?_) (fun q => absurd q (by decide))
  iterate 3 refine x_step rfl ?_
  refine x_icmpN_eq (e) (10) rfl rfl rfl (fun h10 => ?_) (fun h10 => ?_)
  · have hq := hQ g hg
    rw [show dB β e 553 = false from by simp [dB, itB_10 h10]] at hq
    refine x_step rfl ?_
    exact x_iret rfl rfl rfl hq
  · refine x_step rfl ?_
    refine x_callv (a := 103) (as := []) (rest := []) rfl (by decide) (q185 (d := 1) hb hβ he g hg (by omega)) (by omega) (Nat.zero_le _) (Nat.zero_le _) rfl rfl (by decide) rfl rfl ?_
    rintro v h ⟨g', hg', rfl, rfl⟩
    have hq := hQ g' hg'
    refine x_if_ne rfl (fun h1 => ?_) (fun h1 => ?_)
    · obtain ⟨ps, hn⟩ : ∃ ps, itB β e = some ps := Option.isSome_iff_exists.mp (bI_t h1)
      have hat := itB_at hn
      rw [show dB β e 553 = pCmd β ps from by simp [dB, hn]] at hq
      iterate 2 refine x_step rfl ?_
      refine x_icmp_ne rfl (fun _ => ?_) (fun q => absurd q (by decide))
      iterate 2 refine x_step rfl ?_
      refine x_icmp_ne rfl (fun _ => ?_) (fun q => absurd q (by decide))
      iterate 2 refine x_step rfl ?_
      refine x_icmp_ne rfl (fun _ => ?_) (fun q => absurd q (by decide))
      iterate 2 refine x_step rfl ?_
      refine x_icmp_ne rfl (fun q => absurd (by decide) q) (fun _ => ?_)
      refine x_step rfl ?_
      refine x_callvE rfl (q203 (d := 4) hb hβ he hat (by omega)) rfl rfl rfl ?_
      refine x_step rfl ?_
      exact x_iret rfl rfl (bI_n _) hq
    · have hn : itB β e = none := by simpa using bI_f h1
      rw [show dB β e 553 = false from by simp [dB, hn]] at hq
      refine x_step rfl ?_
      exact x_iret rfl rfl rfl hq
theorem q196_545 {Q : Option Value → xm_H → Prop} (hb : ∀ i, i < 130 → jb (i + 1) = nI (β i)) (hβ : ∀ i, β i < 256) (he : e ≤ 130) (g : Nat → Nat) (hg : ∀ i, g i < 2 ^ 24) (hd : 6 ≤ d) (hQ : ∀ g' : Nat → Nat, (∀ i, g' i < 2 ^ 24) → Q (some (.int (bI (dB β e 545)))) (cw L xs (rw th jl js jh jb jc jr jq jQ jz jf jo jn jt jH jA jm jy je jp jk jx jw ju jF jL jO jS jT jU jV jW (nI e) ((fun z1 => nI ((g') z1))) ov g2) tc tf bl bf of oc ol on ml mx mb kc kh kr ka gl gx gb ls lq lk lg lh vf vs vb nv nw nr nq ne io sp ch wt xf xz xt xb xc)) : XM l 196 d 0 0 [.ref 103, .int 2, .int 33] (cw L xs (rw th jl js jh jb jc jr jq jQ jz jf jo jn jt jH jA jm jy je jp jk jx jw ju jF jL jO jS jT jU jV jW (nI e) ((fun z1 => nI ((g) z1))) ov g2) tc tf bl bf of oc ol on ml mx mb kc kh kr ka gl gx gb ls lq lk lg lh vf vs vb nv nw nr nq ne io sp ch wt xf xz xt xb xc) Q := by
  refine XEq (pl := [some (.ref 103), some (.int 2), some (.int 33)]) xg196 rfl ?_
  iterate 2 refine x_step rfl ?_
  refine x_icmp_ne rfl (fun _ => ?_) (fun q => absurd q (by decide))
  iterate 2 refine x_step rfl ?_
  refine x_icmp_ne rfl (fun _ => ?_) (fun q => absurd q (by decide))
  iterate 3 refine x_step rfl ?_
  refine x_icmpN_eq (e) (10) rfl rfl rfl (fun h10 => ?_) (fun h10 => ?_)
  · have hq := hQ g hg
    rw [show dB β e 545 = false from by simp [dB, itB_10 h10]] at hq
    refine x_step rfl ?_
    exact x_iret rfl rfl rfl hq
  · refine x_step rfl ?_
    refine x_callv (a := 103) (as := []) (rest := []) rfl (by decide) (q185 (d := 1) hb hβ he g hg (by omega)) (by omega) (Nat.zero_le _) (Nat.zero_le _) rfl rfl (by decide) rfl rfl ?_
    rintro v h ⟨g', hg', rfl, rfl⟩
    have hq := hQ g' hg'
    refine x_if_ne rfl (fun h1 => ?_) (fun h1 => ?_)
    · obtain ⟨ps, hn⟩ : ∃ ps, itB β e = some ps := Option.isSome_iff_exists.mp (bI_t h1)
      have hat := itB_at hn
      rw [show dB β e 545 = pTable β ps from by simp [dB, hn]] at hq
      iterate 2 refine x_step rfl ?_
      refine x_icmp_ne rfl (fun _ => ?_) (fun q => absurd q (by decide))
      iterate 2 refine x_step rfl ?_
      refine x_icmp_ne rfl (fun _ => ?_) (fun q => absurd q (by decide))
      iterate 2 refine x_step rfl ?_
      refine x_icmp_ne rfl (fun _ => ?_) (fun q => absurd q (by decide))
      iterate 2 refine x_step rfl ?_
      refine x_icmp_ne rfl (fun _ => ?_) (fun q => absurd q (by decide))
      refine x_step rfl ?_
      refine x_callvE rfl (q204 (d := 5) hb hβ he hat (by omega)) rfl rfl rfl ?_
      exact x_iret rfl rfl (bI_n _) hq
    · have hn : itB β e = none := by simpa using bI_f h1
      rw [show dB β e 545 = false from by simp [dB, hn]] at hq
      refine x_step rfl ?_
      exact x_iret rfl rfl rfl hq
theorem q196_547 {Q : Option Value → xm_H → Prop} (hb : ∀ i, i < 130 → jb (i + 1) = nI (β i)) (hβ : ∀ i, β i < 256) (he : e ≤ 130) (g : Nat → Nat) (hg : ∀ i, g i < 2 ^ 24) (hd : 6 ≤ d) (hQ : ∀ g' : Nat → Nat, (∀ i, g' i < 2 ^ 24) → Q (some (.int (bI (dB β e 547)))) (cw L xs (rw th jl js jh jb jc jr jq jQ jz jf jo jn jt jH jA jm jy je jp jk jx jw ju jF jL jO jS jT jU jV jW (nI e) ((fun z1 => nI ((g') z1))) ov g2) tc tf bl bf of oc ol on ml mx mb kc kh kr ka gl gx gb ls lq lk lg lh vf vs vb nv nw nr nq ne io sp ch wt xf xz xt xb xc)) : XM l 196 d 0 0 [.ref 103, .int 2, .int 35] (cw L xs (rw th jl js jh jb jc jr jq jQ jz jf jo jn jt jH jA jm jy je jp jk jx jw ju jF jL jO jS jT jU jV jW (nI e) ((fun z1 => nI ((g) z1))) ov g2) tc tf bl bf of oc ol on ml mx mb kc kh kr ka gl gx gb ls lq lk lg lh vf vs vb nv nw nr nq ne io sp ch wt xf xz xt xb xc) Q := by
  refine XEq (pl := [some (.ref 103), some (.int 2), some (.int 35)]) xg196 rfl ?_
  iterate 2 refine x_step rfl ?_
  refine x_icmp_ne rfl (fun _ => ?_) (fun q => absurd q (by decide))
  iterate 2 refine x_step rfl ?_
  refine x_icmp_ne rfl (fun _ => ?_) (fun q => absurd q (by decide))
  iterate 3 refine x_step rfl ?_
  refine x_icmpN_eq (e) (10) rfl rfl rfl (fun h10 => ?_) (fun h10 => ?_)
  · have hq := hQ g hg
    rw [show dB β e 547 = false from by simp [dB, itB_10 h10]] at hq
    refine x_step rfl ?_
    exact x_iret rfl rfl rfl hq
  · refine x_step rfl ?_
    refine x_callv (a := 103) (as := []) (rest := []) rfl (by decide) (q185 (d := 1) hb hβ he g hg (by omega)) (by omega) (Nat.zero_le _) (Nat.zero_le _) rfl rfl (by decide) rfl rfl ?_
    rintro v h ⟨g', hg', rfl, rfl⟩
    have hq := hQ g' hg'
    refine x_if_ne rfl (fun h1 => ?_) (fun h1 => ?_)
    · obtain ⟨ps, hn⟩ : ∃ ps, itB β e = some ps := Option.isSome_iff_exists.mp (bI_t h1)
      have hat := itB_at hn
      rw [show dB β e 547 = pTable β ps from by simp [dB, hn]] at hq
      iterate 2 refine x_step rfl ?_
      refine x_icmp_ne rfl (fun _ => ?_) (fun q => absurd q (by decide))
      iterate 2 refine x_step rfl ?_
      refine x_icmp_ne rfl (fun _ => ?_) (fun q => absurd q (by decide))
      iterate 2 refine x_step rfl ?_
      refine x_icmp_ne rfl (fun _ => ?_) (fun q => absurd q (by decide))
      iterate 2 refine x_step rfl ?_
      refine x_icmp_ne rfl (fun _ => ?_) (fun q => absurd q (by decide))
      refine x_step rfl ?_
      refine x_callvE rfl (q204 (d := 5) hb hβ he hat (by omega)) rfl rfl rfl ?_
      exact x_iret rfl rfl (bI_n _) hq
    · have hn : itB β e = none := by simpa using bI_f h1
      rw [show dB β e 547 = false from by simp [dB, hn]] at hq
      refine x_step rfl ?_
      exact x_iret rfl rfl rfl hq
end ER7
