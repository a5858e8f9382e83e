section ER6
variable {l : Launch} {d L : Nat} {xs : Nat → Int32} {tc : Int32} {tf : (Nat → Int32)} {bl : Int32} {bf : (Nat → Int32)} {of : Int32} {oc : Int32} {ol : Int32} {on : Int32} {ml : (Nat → Int32)} {mx : (Nat → Int32)} {mb : (Nat → Nat → Int32)} {kc : Int32} {kh : (Nat → Nat)} {kr : (Nat → Nat → Int32)} {ka : (Nat → Int32)} {gl : Int32} {gx : Int32} {gb : (Nat → Int32)} {ls : Int32} {lq : Int32} {lk : Int32} {lg : Int32} {lh : Int32} {vf : (Nat → Int32)} {vs : (Nat → Int32)} {vb : (Nat → Nat → Int32)} {nv : (Nat → Int32)} {nw : (Nat → Nat → Int32)} {nr : (Nat → Int32)} {nq : (Nat → Nat → Int32)} {ne : (Nat → Int32)} {io : Int32} {sp : Int32} {ch : Int32} {wt : Int32} {xf : (Nat → Int32)} {xz : (Nat → Int32)} {xt : (Nat → Int32)} {xb : (Nat → Int32)} {xc : Int32} {th : Int32} {jl : Int32} {js : Int32} {jh : Int32} {jb : (Nat → Int32)} {jc : Int32} {jr : (Nat → Int32)} {jq : Int32} {jQ : (Nat → Int32)} {jz : (Nat → Int32)} {jf : (Nat → Int32)} {jo : Int32} {jn : Int32} {jt : Int32} {jH : (Nat → Int32)} {jA : (Nat → Int32)} {jm : Int32} {jy : (Nat → Int32)} {je : Int32} {jp : Int32} {jk : Int32} {jx : Int32} {jw : Int32} {ju : Int32} {jF : (Nat → Int32)} {jL : (Nat → Int32)} {jO : (Nat → Int32)} {jS : (Nat → Int32)} {jT : (Nat → Int32)} {jU : (Nat → Int32)} {jV : (Nat → Int32)} {jW : (Nat → Int32)} {ja : Int32} {jG : (Nat → Int32)} {ov : (Nat → Value)} {g2 : xm_H}
variable {β : Nat → Nat} {e : Nat} {ps : List (Nat × Nat)}
theorem pOne_at {D i p q f : Nat} (h : itAt β e ps D i p q) : pOne β ps i f = (itF β p == f && itS β p == 1) := by
  obtain ⟨n, -, e1, e2, -⟩ := h.get
  rw [pOne, e1, e2]
theorem pLst_at {D i p q n : Nat} (h : itAt β e ps D i p q) : pLst β ps i n = (itF β p == 0 && itS β p == n) := by
  obtain ⟨_, -, e1, e2, -⟩ := h.get
  rw [pLst, e1, e2]
/-- an item of one byte is no list: the next one is the next number -/
theorem pOne_next {D i p q f : Nat} (h : itAt β e ps D i p q) (hf : 0 < f) (h1 : pOne β ps i f = true) : pB ps i = i + 1 := by
  rw [pOne_at h] at h1
  simp at h1
  exact (h.leaf (by omega)).1
def qAll (β : Nat → Nat) (ps : List (Nat × Nat)) (i : Nat) : Nat → Nat → Bool := pAll (fun k => pOne β ps (cI ps i k) 41)
theorem qAll_eq {D i p q : Nat} (h : itAt β e ps D i p q) (hF : itF β p = 0) : ∀ m k, k + m = itS β p → cI ps i k = i + 1 + k → qAll β ps i m k = pAll (fun k => pOne β ps (i + k) 41) m (k + 1) := by
  intro m
  induction m with
  | zero => intro k _ _; rfl
  | succ m ih =>
    intro k hk hc
    obtain ⟨D', cs, qk, qe, -, -, hat⟩ := h.nth hF k (by omega)
    unfold qAll pAll
    rw [hc, show i + 1 + k = i + (k + 1) by omega]
    cases h1 : pOne β ps (i + (k + 1)) 41 with
    | false => rfl
    | true =>
      rw [Bool.true_and, Bool.true_and]
      refine ih (k + 1) (by omega) ?_
      show pB ps (cI ps i k) = _
      have h2 : pOne β ps (cI ps i k) 41 = true := by rw [hc, show i + 1 + k = i + (k + 1) by omega]; exact h1
      rw [pOne_next hat (by decide) h2, hc]
      omega
theorem pNums_eq {D i p q : Nat} (h : itAt β e ps D i p q) : pNums β ps i = (itF β p == 0 && qAll β ps i (itS β p) 0) := by
  obtain ⟨n, -, e1, e2, -⟩ := h.get
  rw [pNums, e1, e2]
  by_cases hF : itF β p = 0
  · rw [qAll_eq h hF (itS β p) 0 (by omega) rfl]
  · rw [show (itF β p == 0) = false from by simpa using hF]
    rfl
theorem q197_loop (hb : ∀ i, i < 130 → jb (i + 1) = nI (β i)) (hβ : ∀ i, β i < 256) (he : e ≤ 130) (D i p q : Nat) (hat : itAt β e ps D i p q) (hD : D ≤ 6) (hF : itF β p = 0) (hd : 3 ≤ d) : ∀ (m k : Nat) (b : Bool), k + m = itS β p → XW l 197 d 0 0 9 [some (.ref 103), some (.int (nI (p + 1))), some (.int (bI b)), some (.int (nI k))] [] (cw L xs (rw th jl js jh jb jc jr jq jQ jz jf jo jn jt jH jA jm jy je jp jk jx jw ju jF jL jO jS jT jU jV jW ja jG ov g2) tc tf bl bf of oc ol on ml mx mb kc kh kr ka gl gx gb ls lq lk lg lh vf vs vb nv nw nr nq ne io sp ch wt xf xz xt xb xc) (xm_is (some (.int (bI (b && qAll β ps i m k)))) (cw L xs (rw th jl js jh jb jc jr jq jQ jz jf jo jn jt jH jA jm jy je jp jk jx jw ju jF jL jO jS jT jU jV jW ja jG ov g2) tc tf bl bf of oc ol on ml mx mb kc kh kr ka gl gx gb ls lq lk lg lh vf vs vb nv nw nr nq ne io sp ch wt xf xz xt xb xc)) := by
  obtain ⟨_, -, -, -, -, -, hpe, hTe⟩ := hat.get
  have hS := itS_lt hβ p
  intro m
  induction m with
  | zero =>
    intro k b hk
    refine x_step rfl ?_
    refine x_if_eq rfl (fun h => ?_) (fun h => ?_)
    · refine x_step rfl ?_
      exact x_iret rfl rfl (bI_n _) ⟨by rw [bI_f h]; rfl, rfl⟩
    · iterate 3 refine x_step rfl ?_
      refine x_callvE rfl (q188 (d := 0) hb hβ p (by omega)) rfl rfl rfl ?_
      refine x_icmpN_ge (k) (itS β p) rfl rfl rfl (fun _ => ?_) (fun q => False.elim (by omega))
      refine x_step rfl ?_
      exact x_iret rfl rfl (bI_n _) ⟨by rw [qAll, pAll, Bool.and_true], rfl⟩
  | succ m ih =>
    intro k b hk
    obtain ⟨D', cs, qk, qe, hDD, hI, hat2⟩ := hat.nth hF k (by omega)
    obtain ⟨_, -, -, -, -, -, hqe, hTq⟩ := hat2.get
    refine x_step rfl ?_
    refine x_if_eq rfl (fun h => ?_) (fun h => ?_)
    · refine x_step rfl ?_
      exact x_iret rfl rfl (bI_n _) ⟨by rw [bI_f h]; rfl, rfl⟩
    · iterate 3 refine x_step rfl ?_
      refine x_callvE rfl (q188 (d := 0) hb hβ p (by omega)) rfl rfl rfl ?_
      refine x_icmpN_ge (k) (itS β p) rfl rfl rfl (fun q => False.elim (by omega)) (fun _ => ?_)
      iterate 4 refine x_step rfl ?_
      refine x_callvE rfl (q198 (d := 2) hb hβ he D' p k qk cs (by omega) (by omega) (by omega) (by omega) hI) rfl rfl rfl ?_
      refine x_callvE rfl (q200 (d := 1) hb hβ qk (by omega) (by omega)) rfl rfl rfl ?_
      rw [bI_t h, Bool.true_and, show qAll β ps i (m + 1) k = (pOne β ps (cI ps i k) 41 && qAll β ps i m (k + 1)) from rfl, pOne_at hat2]
      iterate 3 refine x_step rfl ?_
      refine xm_ls (pl' := [some (.ref 103), some (.int (nI (p + 1))), some (.int (bI (itF β qk == 41 && itS β qk == 1))), some (.int (nI (k + 1)))]) (by rw [nI_succ k] <;> rfl) ?_
      exact ih (k + 1) _ (by omega)
/-- FabLinkModel.areNumbers -/
theorem q197 (hb : ∀ i, i < 130 → jb (i + 1) = nI (β i)) (hβ : ∀ i, β i < 256) (he : e ≤ 130) (D i p q : Nat) (hat : itAt β e ps D i p q) (hD : D ≤ 6) (hd : 3 ≤ d) : XM l 197 d 0 0 [.ref 103, .int (nI (p + 1))] (cw L xs (rw th jl js jh jb jc jr jq jQ jz jf jo jn jt jH jA jm jy je jp jk jx jw ju jF jL jO jS jT jU jV jW ja jG ov g2) tc tf bl bf of oc ol on ml mx mb kc kh kr ka gl gx gb ls lq lk lg lh vf vs vb nv nw nr nq ne io sp ch wt xf xz xt xb xc) (xm_is (some (.int (bI (pNums β ps i)))) (cw L xs (rw th jl js jh jb jc jr jq jQ jz jf jo jn jt jH jA jm jy je jp jk jx jw ju jF jL jO jS jT jU jV jW ja jG ov g2) tc tf bl bf of oc ol on ml mx mb kc kh kr ka gl gx gb ls lq lk lg lh vf vs vb nv nw nr nq ne io sp ch wt xf xz xt xb xc)) := by
  refine XE (pl := [some (.ref 103), some (.int (nI (p + 1))), none, none]) xg197 rfl ?_
  obtain ⟨_, -, -, -, -, -, hpe, hTe⟩ := hat.get
  iterate 3 refine x_step rfl ?_
  refine x_callvE rfl (q191m (d := 1) hb hβ p (by omega) (by omega)) rfl rfl rfl ?_
  rw [pNums_eq hat]
  iterate 3 refine x_step rfl ?_
  refine xm_ls (pl' := [some (.ref 103), some (.int (nI (p + 1))), some (.int (bI (itF β p == 0))), some (.int (nI 0))]) rfl ?_
  by_cases hF : itF β p = 0
  · exact q197_loop hb hβ he D i p q hat hD hF hd (itS β p) 0 (itF β p == 0) (by omega)
  rw [show (itF β p == 0) = false from by simpa using hF]
  refine x_step rfl ?_
  refine x_if_eq rfl (fun _ => ?_) (fun q => absurd (by decide) q)
  refine x_step rfl ?_
  exact x_iret rfl rfl rfl ⟨rfl, rfl⟩
theorem pRow_eq (g : Nat → Bool) (i : Nat) : ∀ m k, pRow ps g m (cI ps i k) = pAll (fun k => g (cI ps i k)) m k := by
  intro m
  induction m with
  | zero => intro k; rfl
  | succ m ih =>
    intro k
    rw [pRow, pAll]
    congr 1
    exact ih (k + 1)
theorem q201_loop (hb : ∀ i, i < 130 → jb (i + 1) = nI (β i)) (hβ : ∀ i, β i < 256) (he : e ≤ 130) (hat : itAt β e ps 6 0 10 e) (hF : itF β 10 = 0) (hd : 3 ≤ d) : ∀ (m k : Nat) (b : Bool) (o3 : Option Value), k + m = itS β 10 → XW l 201 d 0 0 10 [some (.ref 103), some (.int (bI b)), some (.int (nI k)), o3] [] (cw L xs (rw th jl js jh jb jc jr jq jQ jz jf jo jn jt jH jA jm jy je jp jk jx jw ju jF jL jO jS jT jU jV jW ja jG ov g2) tc tf bl bf of oc ol on ml mx mb kc kh kr ka gl gx gb ls lq lk lg lh vf vs vb nv nw nr nq ne io sp ch wt xf xz xt xb xc) (xm_is (some (.int (bI (b && pAll (fun k => pLst β ps (cI ps 0 k) 2 && pOne β ps (cI ps 0 k + 1) 41) m k)))) (cw L xs (rw th jl js jh jb jc jr jq jQ jz jf jo jn jt jH jA jm jy je jp jk jx jw ju jF jL jO jS jT jU jV jW ja jG ov g2) tc tf bl bf of oc ol on ml mx mb kc kh kr ka gl gx gb ls lq lk lg lh vf vs vb nv nw nr nq ne io sp ch wt xf xz xt xb xc)) := by
  obtain ⟨_, -, -, -, -, -, hpe, hTe⟩ := hat.get
  have hS := itS_lt hβ 10
  intro m
  induction m with
  | zero =>
    intro k b o3 hk
    refine x_step rfl ?_
    refine x_if_eq rfl (fun h => ?_) (fun h => ?_)
    · refine x_step rfl ?_
      exact x_iret rfl rfl (bI_n _) ⟨by rw [bI_f h]; rfl, rfl⟩
    · iterate 3 refine x_step rfl ?_
      refine x_callvE rfl (q188 (d := 0) hb hβ 10 (by omega)) rfl rfl rfl ?_
      refine x_icmpN_ge (k) (itS β 10) rfl rfl rfl (fun _ => ?_) (fun q => False.elim (by omega))
      refine x_step rfl ?_
      exact x_iret rfl rfl (bI_n _) ⟨by rw [pAll, Bool.and_true], rfl⟩
  | succ m ih =>
    intro k b o3 hk
    obtain ⟨D', cs, qk, qe, hDD, hI, hat2⟩ := hat.nth hF k (by omega)
    obtain ⟨_, -, -, -, -, -, hqe, hTq⟩ := hat2.get
    refine x_step rfl ?_
    refine x_if_eq rfl (fun h => ?_) (fun h => ?_)
    · refine x_step rfl ?_
      exact x_iret rfl rfl (bI_n _) ⟨by rw [bI_f h]; rfl, rfl⟩
    · iterate 3 refine x_step rfl ?_
      refine x_callvE rfl (q188 (d := 0) hb hβ 10 (by omega)) rfl rfl rfl ?_
      refine x_icmpN_ge (k) (itS β 10) rfl rfl rfl (fun q => False.elim (by omega)) (fun _ => ?_)
      iterate 3 refine x_step rfl ?_
      refine x_callvE rfl (q198 (d := 2) hb hβ he D' 10 k qk cs (by omega) (by omega) (by omega) (by omega) hI) rfl rfl rfl ?_
      rw [bI_t h, Bool.true_and, pAll]
      iterate 4 refine x_step rfl ?_
      refine x_callvE rfl (q191 (d := 1) hb hβ qk 2 (by omega) (by omega) (by decide)) rfl rfl rfl ?_
      refine x_if_eq rfl (fun h1 => ?_) (fun h1 => ?_)
      · have hl : pLst β ps (cI ps 0 k) 2 = false := by rw [pLst_at hat2]; exact bI_f h1
        iterate 4 refine x_step rfl ?_
        refine xm_ls (pl' := [some (.ref 103), some (.int (bI false)), some (.int (nI (k + 1))), some (.int (nI (qk + 1)))]) (by rw [nI_succ k] <;> rfl) ?_
        rw [show (pLst β ps (cI ps 0 k) 2 && pOne β ps (cI ps 0 k + 1) 41) = false from by rw [hl]; rfl]
        exact ih (k + 1) _ _ (by omega)
      · have hl : pLst β ps (cI ps 0 k) 2 = true := by rw [pLst_at hat2]; exact bI_t h1
        have hl2 := bI_t h1
        simp at hl2
        obtain ⟨D2, cs2, q2, qe2, hD2, hI2, hat3⟩ := hat2.nth hl2.1 0 (by omega)
        obtain ⟨_, -, -, -, -, -, hqe3, hTq3⟩ := hat3.get
        iterate 4 refine x_step rfl ?_
        refine x_callvE rfl (q198 (d := 2) hb hβ he D2 qk 0 q2 cs2 (by omega) (by omega) (by decide) (by omega) hI2) rfl rfl rfl ?_
        refine x_callvE rfl (q200 (d := 1) hb hβ q2 (by omega) (by omega)) rfl rfl rfl ?_
        refine x_if_eq rfl (fun h2 => ?_) (fun h2 => ?_)
        · have hl3 : pOne β ps (cI ps 0 k + 1) 41 = false := by rw [show cI ps 0 k + 1 = cI ps (cI ps 0 k) 0 from rfl, pOne_at hat3]; exact bI_f h2
          iterate 4 refine x_step rfl ?_
          refine xm_ls (pl' := [some (.ref 103), some (.int (bI false)), some (.int (nI (k + 1))), some (.int (nI (qk + 1)))]) (by rw [nI_succ k] <;> rfl) ?_
          rw [show (pLst β ps (cI ps 0 k) 2 && pOne β ps (cI ps 0 k + 1) 41) = false from by rw [hl3, Bool.and_false]]
          exact ih (k + 1) _ _ (by omega)
        · have hl3 : pOne β ps (cI ps 0 k + 1) 41 = true := by rw [show cI ps 0 k + 1 = cI ps (cI ps 0 k) 0 from rfl, pOne_at hat3]; exact bI_t h2
          iterate 5 refine x_step rfl ?_
          refine xm_ls (pl' := [some (.ref 103), some (.int (bI true)), some (.int (nI (k + 1))), some (.int (nI (qk + 1)))]) (by rw [nI_succ k] <;> rfl) ?_
          rw [show (pLst β ps (cI ps 0 k) 2 && pOne β ps (cI ps 0 k + 1) 41) = true from by rw [hl, hl3]; rfl]
          exact ih (k + 1) _ _ (by omega)
/-- FabLinkModel.arePairs -/
theorem q201 (hb : ∀ i, i < 130 → jb (i + 1) = nI (β i)) (hβ : ∀ i, β i < 256) (he : e ≤ 130) (hat : itAt β e ps 6 0 10 e) (hd : 3 ≤ d) : XM l 201 d 0 0 [.ref 103] (cw L xs (rw th jl js jh jb jc jr jq jQ jz jf jo jn jt jH jA jm jy je jp jk jx jw ju jF jL jO jS jT jU jV jW ja jG ov g2) tc tf bl bf of oc ol on ml mx mb kc kh kr ka gl gx gb ls lq lk lg lh vf vs vb nv nw nr nq ne io sp ch wt xf xz xt xb xc) (xm_is (some (.int (bI (pPairs β ps)))) (cw L xs (rw th jl js jh jb jc jr jq jQ jz jf jo jn jt jH jA jm jy je jp jk jx jw ju jF jL jO jS jT jU jV jW ja jG ov g2) tc tf bl bf of oc ol on ml mx mb kc kh kr ka gl gx gb ls lq lk lg lh vf vs vb nv nw nr nq ne io sp ch wt xf xz xt xb xc)) := by
  refine XE (pl := [some (.ref 103), none, none, none]) xg201 rfl ?_
  obtain ⟨_, -, e1, e2, -, -, hpe, hTe⟩ := hat.get
  iterate 3 refine x_step rfl ?_
  refine x_callvE rfl (q191m (d := 1) hb hβ 10 (by omega) (by omega)) rfl rfl rfl ?_
  rw [pPairs, e1, e2, show (1 : Nat) = cI ps 0 0 from rfl, pRow_eq]
  iterate 3 refine x_step rfl ?_
  refine xm_ls (pl' := [some (.ref 103), some (.int (bI (itF β 10 == 0))), some (.int (nI 0)), none]) rfl ?_
  by_cases hF : itF β 10 = 0
  · exact q201_loop hb hβ he hat hF hd (itS β 10) 0 (itF β 10 == 0) none (by omega)
  rw [show (itF β 10 == 0) = false from by simpa using hF]
  refine x_step rfl ?_
  refine x_if_eq rfl (fun _ => ?_) (fun q => absurd (by decide) q)
  refine x_step rfl ?_
  exact x_iret rfl rfl rfl ⟨rfl, rfl⟩
/-- FabLinkModel.isSwitch -/
theorem q202 (hb : ∀ i, i < 130 → jb (i + 1) = nI (β i)) (hβ : ∀ i, β i < 256) (he : e ≤ 130) (hat : itAt β e ps 6 0 10 e) (hd : 4 ≤ d) : XM l 202 d 0 0 [.ref 103] (cw L xs (rw th jl js jh jb jc jr jq jQ jz jf jo jn jt jH jA jm jy je jp jk jx jw ju jF jL jO jS jT jU jV jW ja jG ov g2) tc tf bl bf of oc ol on ml mx mb kc kh kr ka gl gx gb ls lq lk lg lh vf vs vb nv nw nr nq ne io sp ch wt xf xz xt xb xc) (xm_is (some (.int (bI (pSwitch β ps)))) (cw L xs (rw th jl js jh jb jc jr jq jQ jz jf jo jn jt jH jA jm jy je jp jk jx jw ju jF jL jO jS jT jU jV jW ja jG ov g2) tc tf bl bf of oc ol on ml mx mb kc kh kr ka gl gx gb ls lq lk lg lh vf vs vb nv nw nr nq ne io sp ch wt xf xz xt xb xc)) := by
  refine XE (pl := [some (.ref 103)]) xg202 rfl ?_
  obtain ⟨_, -, e1, e2, -, -, hpe, hTe⟩ := hat.get
  iterate 3 refine x_step rfl ?_
  refine x_callvE rfl (q191 (d := 1) hb hβ 10 2 (by omega) (by omega) (by decide)) rfl rfl rfl ?_
  refine x_if_eq rfl (fun h1 => ?_) (fun h1 => ?_)
  · have hl : pLst β ps 0 2 = false := by rw [pLst_at hat]; exact bI_f h1
    refine x_step rfl ?_
    exact x_iret rfl rfl rfl ⟨by rw [pSwitch, hl]; rfl, rfl⟩
  · have hl : pLst β ps 0 2 = true := by rw [pLst_at hat]; exact bI_t h1
    have hl2 := bI_t h1
    simp at hl2
    obtain ⟨D2, cs2, q2, qe2, hD2, hI2, hat2⟩ := hat.nth hl2.1 0 (by omega)
    obtain ⟨_, -, a1, a2, -, -, hq2, hT2⟩ := hat2.get
    obtain ⟨D3, cs3, q3, qe3, hD3, hI3, hat3⟩ := hat.nth hl2.1 1 (by omega)
    obtain ⟨_, -, b1, b2, -, -, hq3, hT3⟩ := hat3.get
    have hF2 := itF_lt hβ q2
    have hS2 := itS_lt hβ q2
    have hF3 := itF_lt hβ q3
    iterate 4 refine x_step rfl ?_
    refine x_callvE rfl (q198 (d := 2) hb hβ he D2 10 0 q2 cs2 (by omega) (by omega) (by decide) (by omega) hI2) rfl rfl rfl ?_
    refine x_callvE rfl (q187 (d := 0) hb hβ q2 (by omega)) rfl rfl rfl ?_
    refine x_step rfl ?_
    refine x_icmpN_ne (itF β q2) (9) rfl rfl rfl (fun h2 => ?_) (fun h2 => ?_)
    · refine x_step rfl ?_
      exact x_iret rfl rfl rfl ⟨by rw [pSwitch, pOne, show pF β ps 1 = itF β q2 from a1, show (itF β q2 == 9) = false from by simpa using h2, Bool.false_and, Bool.false_and, Bool.and_false]; rfl, rfl⟩
    · iterate 4 refine x_step rfl ?_
      refine x_callvE rfl (q198 (d := 2) hb hβ he D2 10 0 q2 cs2 (by omega) (by omega) (by decide) (by omega) hI2) rfl rfl rfl ?_
      refine x_callvE rfl (q188 (d := 0) hb hβ q2 (by omega)) rfl rfl rfl ?_
      refine x_step rfl ?_
      refine x_icmpN_ne (itS β q2) (1) rfl rfl rfl (fun h3 => ?_) (fun h3 => ?_)
      · refine x_step rfl ?_
        exact x_iret rfl rfl rfl ⟨by rw [pSwitch, pOne, show pS β ps 1 = itS β q2 from a2, show (itS β q2 == 1) = false from by simpa using h3, Bool.and_false, Bool.false_and, Bool.and_false]; rfl, rfl⟩
      · have ho : pOne β ps 1 9 = true := by rw [pOne, show pF β ps 1 = itF β q2 from a1, show pS β ps 1 = itS β q2 from a2, h2, h3]; rfl
        have hc : cI ps 0 1 = 2 := pOne_next (i := 1) hat2 (by decide) ho
        iterate 4 refine x_step rfl ?_
        refine x_callvE rfl (q198 (d := 2) hb hβ he D3 10 1 q3 cs3 (by omega) (by omega) (by decide) (by omega) hI3) rfl rfl rfl ?_
        refine x_callvE rfl (q197 (d := 3) hb hβ he D3 (cI ps 0 1) q3 qe3 hat3 (by omega) (by omega)) rfl rfl rfl ?_
        rw [hc]
        refine x_if_eq rfl (fun h4 => ?_) (fun h4 => ?_)
        · refine x_step rfl ?_
          exact x_iret rfl rfl rfl ⟨by rw [pSwitch, bI_f h4, Bool.and_false, Bool.and_false]; rfl, rfl⟩
        · iterate 2 refine x_step rfl ?_
          exact x_iret rfl rfl rfl ⟨by rw [pSwitch, hl, ho, bI_t h4]; rfl, rfl⟩
/-- FabLinkModel.isCommand -/
theorem q203 (hb : ∀ i, i < 130 → jb (i + 1) = nI (β i)) (hβ : ∀ i, β i < 256) (he : e ≤ 130) (hat : itAt β e ps 6 0 10 e) (hd : 4 ≤ d) : XM l 203 d 0 0 [.ref 103] (cw L xs (rw th jl js jh jb jc jr jq jQ jz jf jo jn jt jH jA jm jy je jp jk jx jw ju jF jL jO jS jT jU jV jW ja jG ov g2) tc tf bl bf of oc ol on ml mx mb kc kh kr ka gl gx gb ls lq lk lg lh vf vs vb nv nw nr nq ne io sp ch wt xf xz xt xb xc) (xm_is (some (.int (bI (pCmd β ps)))) (cw L xs (rw th jl js jh jb jc jr jq jQ jz jf jo jn jt jH jA jm jy je jp jk jx jw ju jF jL jO jS jT jU jV jW ja jG ov g2) tc tf bl bf of oc ol on ml mx mb kc kh kr ka gl gx gb ls lq lk lg lh vf vs vb nv nw nr nq ne io sp ch wt xf xz xt xb xc)) := by
  refine XE (pl := [some (.ref 103)]) xg203 rfl ?_
  obtain ⟨_, -, e1, e2, -, -, hpe, hTe⟩ := hat.get
  iterate 3 refine x_step rfl ?_
  refine x_callvE rfl (q191 (d := 1) hb hβ 10 2 (by omega) (by omega) (by decide)) rfl rfl rfl ?_
  refine x_if_eq rfl (fun h1 => ?_) (fun h1 => ?_)
  · have hl : pLst β ps 0 2 = false := by rw [pLst_at hat]; exact bI_f h1
    refine x_step rfl ?_
    exact x_iret rfl rfl rfl ⟨by rw [pCmd, hl]; rfl, rfl⟩
  · have hl : pLst β ps 0 2 = true := by rw [pLst_at hat]; exact bI_t h1
    have hl2 := bI_t h1
    simp at hl2
    obtain ⟨D2, cs2, q2, qe2, hD2, hI2, hat2⟩ := hat.nth hl2.1 0 (by omega)
    obtain ⟨_, -, a1, a2, -, -, hq2, hT2⟩ := hat2.get
    obtain ⟨D3, cs3, q3, qe3, hD3, hI3, hat3⟩ := hat.nth hl2.1 1 (by omega)
    obtain ⟨_, -, b1, b2, -, -, hq3, hT3⟩ := hat3.get
    have hF2 := itF_lt hβ q2
    have hS2 := itS_lt hβ q2
    have hF3 := itF_lt hβ q3
    iterate 4 refine x_step rfl ?_
    refine x_callvE rfl (q198 (d := 2) hb hβ he D2 10 0 q2 cs2 (by omega) (by omega) (by decide) (by omega) hI2) rfl rfl rfl ?_
    refine x_callvE rfl (q187 (d := 0) hb hβ q2 (by omega)) rfl rfl rfl ?_
    refine x_step rfl ?_
    refine x_icmpN_ne (itF β q2) (16) rfl rfl rfl (fun h2 => ?_) (fun h2 => ?_)
    · refine x_step rfl ?_
      exact x_iret rfl rfl rfl ⟨by rw [pCmd, show pF β ps 1 = itF β q2 from a1, show (itF β q2 == 16) = false from by simpa using h2, Bool.false_and, Bool.and_false]; rfl, rfl⟩
    · iterate 4 refine x_step rfl ?_
      refine x_callvE rfl (q198 (d := 2) hb hβ he D3 10 1 q3 cs3 (by omega) (by omega) (by decide) (by omega) hI3) rfl rfl rfl ?_
      refine x_step rfl ?_
      refine x_callvE rfl (q191m (d := 1) hb hβ q3 (by omega) (by omega)) rfl rfl rfl ?_
      refine x_if_eq rfl (fun h4 => ?_) (fun h4 => ?_)
      · refine x_step rfl ?_
        exact x_iret rfl rfl rfl ⟨by rw [pCmd, show pF β ps (pB ps 1) = itF β q3 from b1, bI_f h4, Bool.and_false, Bool.and_false]; rfl, rfl⟩
      · iterate 2 refine x_step rfl ?_
        exact x_iret rfl rfl rfl ⟨by rw [pCmd, hl, show pF β ps 1 = itF β q2 from a1, h2, show pF β ps (pB ps 1) = itF β q3 from b1, bI_t h4]; rfl, rfl⟩
end ER6
