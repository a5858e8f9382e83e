section ER8
variable {l : Launch} {d L : Nat} {xs : Nat → Int32} {tc : Int32} {tf : (Nat → Int32)} {bl : Int32} {bf : (Nat → Int32)} {of : Int32} {oc : Int32} {ol : Int32} {on : Int32} {ml : (Nat → Int32)} {mx : (Nat → Int32)} {mb : (Nat → Nat → Int32)} {kc : Int32} {kh : (Nat → Nat)} {kr : (Nat → Nat → Int32)} {ka : (Nat → Int32)} {gl : Int32} {gx : Int32} {gb : (Nat → Int32)} {ls : Int32} {lq : Int32} {lk : Int32} {lg : Int32} {lh : Int32} {vf : (Nat → Int32)} {vs : (Nat → Int32)} {vb : (Nat → Nat → Int32)} {nv : (Nat → Int32)} {nw : (Nat → Nat → Int32)} {nr : (Nat → Int32)} {nq : (Nat → Nat → Int32)} {ne : (Nat → Int32)} {io : Int32} {sp : Int32} {ch : Int32} {wt : Int32} {xf : (Nat → Int32)} {xz : (Nat → Int32)} {xt : (Nat → Int32)} {xb : (Nat → Int32)} {xc : Int32} {th : Int32} {jl : Int32} {js : Int32} {jh : Int32} {jb : (Nat → Int32)} {jc : Int32} {jr : (Nat → Int32)} {jq : Int32} {jQ : (Nat → Int32)} {jz : (Nat → Int32)} {jf : (Nat → Int32)} {jo : Int32} {jn : Int32} {jt : Int32} {jH : (Nat → Int32)} {jA : (Nat → Int32)} {jm : Int32} {jy : (Nat → Int32)} {je : Int32} {jp : Int32} {jk : Int32} {jx : Int32} {jw : Int32} {ju : Int32} {jF : (Nat → Int32)} {jL : (Nat → Int32)} {jO : (Nat → Int32)} {jS : (Nat → Int32)} {jT : (Nat → Int32)} {jU : (Nat → Int32)} {jV : (Nat → Int32)} {jW : (Nat → Int32)} {ja : Int32} {jG : (Nat → Int32)} {ov : (Nat → Value)} {g2 : xm_H}
variable {β : Nat → Nat} {e : Nat} {ps : List (Nat × Nat)} {sz : Nat → Nat}
theorem pAll_all {g : Nat → Bool} : ∀ m i, pAll g m i = true → ∀ k, i ≤ k → k < i + m → g k = true := by
  intro m
  induction m with
  | zero => intro i _ k h1 h2; omega
  | succ m ih =>
    intro i h k h1 h2
    rw [pAll, Bool.and_eq_true] at h
    by_cases hk : k = i
    · rw [hk]; exact h.1
    · exact ih (i + 1) h.2 k (by omega) (by omega)
/-- the number at an item of one byte -/
theorem one_at {D i p q f : Nat} (h : itAt β e ps D i p q) (he : e ≤ 130) (hf : 0 < f) (h1 : pOne β ps i f = true) : itF β p = f ∧ itS β p = 1 ∧ pY β ps i 0 = β (itT β p) ∧ itT β p < 130 := by
  rw [pOne_at h] at h1
  simp at h1
  have := pY_at (k := 0) h (by omega) he (by omega)
  exact ⟨h1.1, h1.2, this.1, this.2⟩
/-- a list of numbers -/
theorem nums_at {D i p q : Nat} (h : itAt β e ps D i p q) (he : e ≤ 130) (hn : pNums β ps i = true) : itF β p = 0 ∧ ∀ k, k < itS β p → ∃ D' cs qk qe, D = D' + 1 ∧ itI (itR β e D') k (itT β p) = some (cs, qk) ∧ itAt β e ps D' (i + 1 + k) qk qe ∧ pY β ps (i + 1 + k) 0 = β (itT β qk) ∧ itT β qk < 130 := by
  rw [pNums_eq h, Bool.and_eq_true] at hn
  have hF : itF β p = 0 := by simpa using hn.1
  refine ⟨hF, ?_⟩
  have hone : ∀ k, k < itS β p → pOne β ps (cI ps i k) 41 = true := fun k hk => pAll_all (g := fun k => pOne β ps (cI ps i k) 41) (itS β p) 0 hn.2 k (by omega) (by omega)
  have hc : ∀ k, k ≤ itS β p → cI ps i k = i + 1 + k := by
    intro k
    induction k with
    | zero => intro _; rfl
    | succ k ih =>
      intro hk
      obtain ⟨D', cs, qk, qe, -, -, hat⟩ := h.nth hF k (by omega)
      show pB ps (cI ps i k) = _
      rw [pOne_next hat (by decide) (hone k (by omega)), ih (by omega)]
      omega
  intro k hk
  obtain ⟨D', cs, qk, qe, hD, hI, hat⟩ := h.nth hF k hk
  have h1 := one_at hat he (by decide) (hone k hk)
  rw [hc k (by omega)] at hat h1
  exact ⟨D', cs, qk, qe, hD, hI, hat, h1.2.2⟩
theorem q207_loop {Q : xm_Q} (hb : ∀ i, i < 130 → jb (i + 1) = nI (β i)) (hβ : ∀ i, β i < 256) (he : e ≤ 130) (hat : itAt β e ps 6 0 10 e) (hn : pNums β ps 0 = true) (hs : ∀ v, v < 6 → jL v = nI (sz v) ∧ sz v ≤ 8) (hk : rvk jF sz) (hS : itS β 10 < 2 ^ 18) (hd : 4 ≤ d) (hK : XG l xm_any 207 d 0 0 46 [some (.ref 103), some (.int (nI (itS β 10))), some (.int (nI (itS β 10)))] [] (cw L xs (rw th jl js jh jb jc jr jq jQ jz jf jo jn jt jH jA (nI ([1, nI (itS β 10)] ++ xcat (fun k => tvL jF sz (rvb jk jw jO) (pY β ps (k + 1) 0)) (itS β 10)).length) (xrbd jy ([1, nI (itS β 10)] ++ xcat (fun k => tvL jF sz (rvb jk jw jO) (pY β ps (k + 1) 0)) (itS β 10))) je jp jk jx jw ju jF jL jO jS jT jU jV jW ja jG ov g2) tc tf bl bf of oc ol on ml mx mb kc kh kr ka gl gx gb ls lq lk lg lh vf vs vb nv nw nr nq ne io sp ch wt xf xz xt xb xc) Q) : ∀ (m k : Nat), k + m = itS β 10 → XG l xm_any 207 d 0 0 20 [some (.ref 103), some (.int (nI (itS β 10))), some (.int (nI k))] [] (cw L xs (rw th jl js jh jb jc jr jq jQ jz jf jo jn jt jH jA (nI ([1, nI (itS β 10)] ++ xcat (fun k => tvL jF sz (rvb jk jw jO) (pY β ps (k + 1) 0)) k).length) (xrbd jy ([1, nI (itS β 10)] ++ xcat (fun k => tvL jF sz (rvb jk jw jO) (pY β ps (k + 1) 0)) k)) je jp jk jx jw ju jF jL jO jS jT jU jV jW ja jG ov g2) tc tf bl bf of oc ol on ml mx mb kc kh kr ka gl gx gb ls lq lk lg lh vf vs vb nv nw nr nq ne io sp ch wt xf xz xt xb xc) Q := by
  obtain ⟨_, -, -, -, -, -, hpe, hTe⟩ := hat.get
  obtain ⟨hF, hN⟩ := nums_at hat he hn
  intro m
  induction m with
  | zero =>
    intro k hk
    obtain rfl : k = itS β 10 := by omega
    iterate 2 refine x_step rfl ?_
    refine x_icmpN_ge (itS β 10) (itS β 10) rfl rfl rfl (fun _ => ?_) (fun q => False.elim (by omega))
    exact hK
  | succ m ih =>
    intro k hk2
    obtain ⟨D', cs, qk, qe, hDD, hI, hat2, hy, hT2⟩ := hN k (by omega)
    obtain ⟨_, -, -, -, -, -, hqe, hTq⟩ := hat2.get
    have hyb := hβ (itT β qk)
    rw [show 0 + 1 + k = k + 1 by omega] at hy
    have hlen : ([1, nI (itS β 10)] ++ xcat (fun k => tvL jF sz (rvb jk jw jO) (pY β ps (k + 1) 0)) k).length < 2 ^ 26 := by
      have := xcat_len (fun k => tvL jF sz (rvb jk jw jO) (pY β ps (k + 1) 0)) 10 k (fun k _ => tvL_len (fun v hv => (hs v hv).2) _)
      rw [List.length_append]
      simp only [List.length_cons, List.length_nil]
      omega
    iterate 2 refine x_step rfl ?_
    refine x_icmpN_ge (k) (itS β 10) rfl rfl rfl (fun q => False.elim (by omega)) (fun _ => ?_)
    iterate 5 refine x_step rfl ?_
    refine x_callvE rfl (q198 (d := 2) hb hβ he D' 10 k qk cs (by omega) (by omega) (by omega) (by omega) hI) rfl rfl rfl ?_
    refine x_callvE rfl (q192 (d := 1) hb hβ qk (by omega) hT2) rfl rfl rfl ?_
    refine x_callvE rfl (q208 (d := 3) ([1, nI (itS β 10)] ++ xcat (fun k => tvL jF sz (rvb jk jw jO) (pY β ps (k + 1) 0)) k) (β (itT β qk)) (by omega) (by omega) hs hk (by omega)) rfl rfl rfl ?_
    iterate 2 refine x_step rfl ?_
    refine xm_ls (pl' := [some (.ref 103), some (.int (nI (itS β 10))), some (.int (nI (k + 1)))]) (by rw [nI_succ k] <;> rfl) ?_
    refine xm_hs (hp' := (cw L xs (rw th jl js jh jb jc jr jq jQ jz jf jo jn jt jH jA (nI ([1, nI (itS β 10)] ++ xcat (fun k => tvL jF sz (rvb jk jw jO) (pY β ps (k + 1) 0)) (k + 1)).length) (xrbd jy ([1, nI (itS β 10)] ++ xcat (fun k => tvL jF sz (rvb jk jw jO) (pY β ps (k + 1) 0)) (k + 1))) je jp jk jx jw ju jF jL jO jS jT jU jV jW ja jG ov g2) tc tf bl bf of oc ol on ml mx mb kc kh kr ka gl gx gb ls lq lk lg lh vf vs vb nv nw nr nq ne io sp ch wt xf xz xt xb xc)) (by rw [xcat, ← hy, List.append_assoc] <;> rfl) ?_
    exact ih (k + 1) (by omega)
/-- values: the body is made; what the answer does is left to come -/
theorem q207 {h9 : xm_H} {dd : Nat} (hb : ∀ i, i < 130 → jb (i + 1) = nI (β i)) (hβ : ∀ i, β i < 256) (he : e ≤ 130) (hat : itAt β e ps 6 0 10 e) (hn : pNums β ps 0 = true) (hs : ∀ v, v < 6 → jL v = nI (sz v) ∧ sz v ≤ 8) (hk : rvk jF sz) (hS : itS β 10 < 2 ^ 18) (hd : 4 ≤ d) (hdd : dd < d) (hR : XM l 195 dd 0 0 [.ref 103, .int 4] (cw L xs (rw th jl js jh jb jc jr jq jQ jz jf jo jn jt jH jA (nI ([1, nI (itS β 10)] ++ xcat (fun k => tvL jF sz (rvb jk jw jO) (pY β ps (k + 1) 0)) (itS β 10)).length) (xrbd jy ([1, nI (itS β 10)] ++ xcat (fun k => tvL jF sz (rvb jk jw jO) (pY β ps (k + 1) 0)) (itS β 10))) je jp jk jx jw ju jF jL jO jS jT jU jV jW ja jG ov g2) tc tf bl bf of oc ol on ml mx mb kc kh kr ka gl gx gb ls lq lk lg lh vf vs vb nv nw nr nq ne io sp ch wt xf xz xt xb xc) (xm_is none h9)) : XM l 207 d 0 0 [.ref 103] (cw L xs (rw th jl js jh jb jc jr jq jQ jz jf jo jn jt jH jA jm jy je jp jk jx jw ju jF jL jO jS jT jU jV jW ja jG ov g2) tc tf bl bf of oc ol on ml mx mb kc kh kr ka gl gx gb ls lq lk lg lh vf vs vb nv nw nr nq ne io sp ch wt xf xz xt xb xc) (xm_is none h9) := by
  obtain ⟨_, -, -, -, -, -, hpe, hTe⟩ := hat.get
  refine XE (pl := [some (.ref 103), none, none]) xg207 rfl ?_
  iterate 3 refine x_step rfl ?_
  refine xm_hs (hp' := (cw L xs (rw th jl js jh jb jc jr jq jQ jz jf jo jn jt jH jA (nI ([] : List Int32).length) (xrbd jy ([] : List Int32)) je jp jk jx jw ju jF jL jO jS jT jU jV jW ja jG ov g2) tc tf bl bf of oc ol on ml mx mb kc kh kr ka gl gx gb ls lq lk lg lh vf vs vb nv nw nr nq ne io sp ch wt xf xz xt xb xc)) (by rw [xrbd_nil] <;> rfl) ?_
  iterate 2 refine x_step rfl ?_
  refine x_callvE rfl (q188 (d := 0) hb hβ 10 (by omega)) rfl rfl rfl ?_
  iterate 4 refine x_step rfl ?_
  refine x_callvE rfl (q178 (d := 1) [] 0 (nI (itS β 10)) (by omega) (by decide)) rfl rfl rfl ?_
  iterate 2 refine x_step rfl ?_
  refine xm_ls (pl' := [some (.ref 103), some (.int (nI (itS β 10))), some (.int (nI 0))]) rfl ?_
  refine xm_hs (hp' := (cw L xs (rw th jl js jh jb jc jr jq jQ jz jf jo jn jt jH jA (nI ([1, nI (itS β 10)] ++ xcat (fun k => tvL jF sz (rvb jk jw jO) (pY β ps (k + 1) 0)) 0).length) (xrbd jy ([1, nI (itS β 10)] ++ xcat (fun k => tvL jF sz (rvb jk jw jO) (pY β ps (k + 1) 0)) 0)) je jp jk jx jw ju jF jL jO jS jT jU jV jW ja jG ov g2) tc tf bl bf of oc ol on ml mx mb kc kh kr ka gl gx gb ls lq lk lg lh vf vs vb nv nw nr nq ne io sp ch wt xf xz xt xb xc)) rfl ?_
  refine q207_loop hb hβ he hat hn hs hk hS hd ?_ (itS β 10) 0 (by omega)
  iterate 2 refine x_step rfl ?_
  refine x_callvE rfl (hR) rfl rfl rfl ?_
  exact x_ret rfl rfl ⟨rfl, rfl⟩
/-- the pairs of a body -/
theorem pairs_at (hat : itAt β e ps 6 0 10 e) (he : e ≤ 130) (hn : pPairs β ps = true) : itF β 10 = 0 ∧ ∀ k, k < itS β 10 → ∃ cs qk qe, itI (itR β e 5) k (itT β 10) = some (cs, qk) ∧ itAt β e ps 5 (cI ps 0 k) qk qe ∧ qk < 130 ∧ (∃ cs q0 q1, itI (itR β e 4) 0 (itT β qk) = some (cs, q0) ∧ itAt β e ps 4 (cI ps 0 k + 1) q0 q1 ∧ pY β ps (cI ps 0 k + 1) 0 = β (itT β q0) ∧ itT β q0 < 130) ∧ ∃ cs q0 q1, itI (itR β e 4) 1 (itT β qk) = some (cs, q0) ∧ itAt β e ps 4 (cI ps 0 k + 2) q0 q1 := by
  obtain ⟨_, -, e1, e2, -, -, hpe, hTe⟩ := hat.get
  rw [pPairs, e1, e2, show (1 : Nat) = cI ps 0 0 from rfl, pRow_eq, Bool.and_eq_true] at hn
  have hF : itF β 10 = 0 := by simpa using hn.1
  refine ⟨hF, fun k hk => ?_⟩
  have h1 := pAll_all (itS β 10) 0 hn.2 k (by omega) (by omega)
  rw [Bool.and_eq_true] at h1
  obtain ⟨D', cs, qk, qe, hD, hI, hat2⟩ := hat.nth hF k hk
  obtain rfl : D' = 5 := by omega
  obtain ⟨_, -, -, -, -, -, hq1, hT1⟩ := hat2.get
  have hl := h1.1
  rw [pLst_at hat2] at hl
  simp at hl
  obtain ⟨D2, cs2, q2, qe2, hD2, hI2, hat3⟩ := hat2.nth hl.1 0 (by omega)
  obtain rfl : D2 = 4 := by omega
  obtain ⟨D3, cs3, q3, qe3, hD3, hI3, hat4⟩ := hat2.nth hl.1 1 (by omega)
  obtain rfl : D3 = 4 := by omega
  have hc : cI ps (cI ps 0 k) 1 = cI ps 0 k + 2 := pOne_next (i := cI ps 0 k + 1) hat3 (by decide) h1.2
  rw [hc] at hat4
  have ho := one_at hat3 he (by decide) h1.2
  exact ⟨cs, qk, qe, hI, hat2, by omega, ⟨cs2, q2, qe2, hI2, hat3, ho.2.2⟩, cs3, q3, qe3, hI3, hat4⟩
/-- is a number wrong, is an item wrong -/
def aN (β : Nat → Nat) (ps : List (Nat × Nat)) (k : Nat) : Bool := decide (pY β ps (cI ps 0 k + 1) 0 < 2) || decide (5 < pY β ps (cI ps 0 k + 1) 0)
def aI (β : Nat → Nat) (ps : List (Nat × Nat)) (k : Nat) : Bool := pF β ps (cI ps 0 k + 2) == 0 || decide (8 < pS β ps (cI ps 0 k + 2))
def wN (b : Bool) : Nat := if b then 1 else 0
def wI (b : Bool) : Nat := if b then 3 else 0
def aAny (g : Nat → Bool) : Nat → Nat → Bool
  | 0, _ => false
  | m + 1, i => g i || aAny g m (i + 1)
theorem pfP_eq : ∀ m k w, pfP β ps m (cI ps 0 k) w = if aAny (aN β ps) m k then 1 else if w || aAny (aI β ps) m k then 3 else 0 := by
  intro m
  induction m with
  | zero => intro k w; simp [pfP, aAny]
  | succ m ih =>
    intro k w
    rw [pfP, aAny, aAny]
    by_cases h : pY β ps (cI ps 0 k + 1) 0 < 2 ∨ 5 < pY β ps (cI ps 0 k + 1) 0
    · rw [if_pos h, if_pos]
      have : aN β ps k = true := by unfold aN; simpa using h
      rw [this]; rfl
    · rw [if_neg h]
      have h0 : aN β ps k = false := by unfold aN; simp; omega
      rw [h0, Bool.false_or]
      have := ih (k + 1) (w || (pF β ps (cI ps 0 k + 2) == 0 || decide (8 < pS β ps (cI ps 0 k + 2))))
      rw [show cI ps 0 (k + 1) = pB ps (cI ps 0 k) from rfl] at this
      rw [this, show (pF β ps (cI ps 0 k + 2) == 0 || decide (8 < pS β ps (cI ps 0 k + 2))) = aI β ps k from rfl, Bool.or_assoc]
theorem q215_a {Q : xm_Q} (hb : ∀ i, i < 130 → jb (i + 1) = nI (β i)) (hβ : ∀ i, β i < 256) (he : e ≤ 130) (hat : itAt β e ps 6 0 10 e) (hn : pPairs β ps = true) (hd : 3 ≤ d) : ∀ (m k : Nat) (b : Bool) (o4 : Option Value), k + m = itS β 10 → (∀ o4, XG l xm_any 215 d 0 0 58 [some (.ref 103), some (.int (nI (itS β 10))), some (.int (nI (wN (b || aAny (aN β ps) m k)))), some (.int (nI (itS β 10))), o4, none, none] [] (cw L xs (rw th jl js jh jb jc jr jq jQ jz jf jo jn jt jH jA jm jy je jp jk jx jw ju jF jL jO jS jT jU jV jW ja jG ov g2) tc tf bl bf of oc ol on ml mx mb kc kh kr ka gl gx gb ls lq lk lg lh vf vs vb nv nw nr nq ne io sp ch wt xf xz xt xb xc) Q) → XG l xm_any 215 d 0 0 11 [some (.ref 103), some (.int (nI (itS β 10))), some (.int (nI (wN b))), some (.int (nI k)), o4, none, none] [] (cw L xs (rw th jl js jh jb jc jr jq jQ jz jf jo jn jt jH jA jm jy je jp jk jx jw ju jF jL jO jS jT jU jV jW ja jG ov g2) tc tf bl bf of oc ol on ml mx mb kc kh kr ka gl gx gb ls lq lk lg lh vf vs vb nv nw nr nq ne io sp ch wt xf xz xt xb xc) Q := by
  obtain ⟨_, -, -, -, -, -, hpe, hTe⟩ := hat.get
  obtain ⟨hF, hN⟩ := pairs_at hat he hn
  have hS := itS_lt hβ 10
  intro m
  induction m with
  | zero =>
    intro k b o4 hk hK
    obtain rfl : k = itS β 10 := by omega
    iterate 2 refine x_step rfl ?_
    refine x_icmpN_ge (itS β 10) (itS β 10) rfl rfl rfl (fun _ => ?_) (fun q => False.elim (by omega))
    rw [aAny, Bool.or_false] at hK
    exact hK _
  | succ m ih =>
    intro k b o4 hk hK
    obtain ⟨cs, qk, qe, hI, hat2, hq, ⟨cs2, q2, qe2, hI2, hat3, hy, hT2⟩, -⟩ := hN k (by omega)
    obtain ⟨_, -, -, -, -, -, hq2, -⟩ := hat3.get
    have hyb := hβ (itT β q2)
    iterate 2 refine x_step rfl ?_
    refine x_icmpN_ge (k) (itS β 10) rfl rfl rfl (fun q => False.elim (by omega)) (fun _ => ?_)
    iterate 5 refine x_step rfl ?_
    refine x_callvE rfl (q198 (d := 2) hb hβ he 5 10 k qk cs (by omega) (by decide) (by omega) (by omega) hI) rfl rfl rfl ?_
    refine x_step rfl ?_
    refine x_callvE rfl (q198 (d := 2) hb hβ he 4 qk 0 q2 cs2 (by omega) (by decide) (by decide) hq hI2) rfl rfl rfl ?_
    refine x_callvE rfl (q192 (d := 1) hb hβ q2 (by omega) hT2) rfl rfl rfl ?_
    iterate 3 refine x_step rfl ?_
    refine x_icmpN_lt (β (itT β q2)) (2) rfl rfl rfl (fun h1 => ?_) (fun h1 => ?_)
    · iterate 5 refine x_step rfl ?_
      refine xm_ls (pl' := [some (.ref 103), some (.int (nI (itS β 10))), some (.int (nI (wN true))), some (.int (nI (k + 1))), some (.int (nI (β (itT β q2)))), none, none]) (by rw [nI_succ k] <;> rfl) ?_
      have ha : aN β ps k = true := by unfold aN; rw [hy]; simp; omega
      refine ih (k + 1) true _ (by omega) (fun o4 => ?_)
      have hz := hK o4
      rw [aAny, ha, Bool.true_or, Bool.or_true] at hz
      exact hz
    · iterate 2 refine x_step rfl ?_
      refine x_icmpN_le (β (itT β q2)) (5) rfl rfl rfl (fun h2 => ?_) (fun h2 => ?_)
      · iterate 4 refine x_step rfl ?_
        refine xm_ls (pl' := [some (.ref 103), some (.int (nI (itS β 10))), some (.int (nI (wN b))), some (.int (nI (k + 1))), some (.int (nI (β (itT β q2)))), none, none]) (by rw [nI_succ k] <;> rfl) ?_
        have ha : aN β ps k = false := by unfold aN; rw [hy]; simp; omega
        refine ih (k + 1) b _ (by omega) (fun o4 => ?_)
        have hz := hK o4
        rw [aAny, ha, Bool.false_or] at hz
        exact hz
      · iterate 5 refine x_step rfl ?_
        refine xm_ls (pl' := [some (.ref 103), some (.int (nI (itS β 10))), some (.int (nI (wN true))), some (.int (nI (k + 1))), some (.int (nI (β (itT β q2)))), none, none]) (by rw [nI_succ k] <;> rfl) ?_
        have ha : aN β ps k = true := by unfold aN; rw [hy]; simp; omega
        refine ih (k + 1) true _ (by omega) (fun o4 => ?_)
        have hz := hK o4
        rw [aAny, ha, Bool.true_or, Bool.or_true] at hz
        exact hz
theorem q215_b {Q : xm_Q} (hb : ∀ i, i < 130 → jb (i + 1) = nI (β i)) (hβ : ∀ i, β i < 256) (he : e ≤ 130) (hat : itAt β e ps 6 0 10 e) (hn : pPairs β ps = true) (hd : 3 ≤ d) (W : Nat) : ∀ (m k : Nat) (o4 : Option Value), k + m = itS β 10 → W = wI (aAny (aI β ps) m k) → (∀ k o4, XG l xm_any 215 d 0 0 115 [some (.ref 103), some (.int (nI (itS β 10))), some (.int (nI (W))), some (.int (nI k)), o4, none, none] [] (cw L xs (rw th jl js jh jb jc jr jq jQ jz jf jo jn jt jH jA jm jy je jp jk jx jw ju jF jL jO jS jT jU jV jW ja jG ov g2) tc tf bl bf of oc ol on ml mx mb kc kh kr ka gl gx gb ls lq lk lg lh vf vs vb nv nw nr nq ne io sp ch wt xf xz xt xb xc) Q) → XG l xm_any 215 d 0 0 60 [some (.ref 103), some (.int (nI (itS β 10))), some (.int (nI (0))), some (.int (nI k)), o4, none, none] [] (cw L xs (rw th jl js jh jb jc jr jq jQ jz jf jo jn jt jH jA jm jy je jp jk jx jw ju jF jL jO jS jT jU jV jW ja jG ov g2) tc tf bl bf of oc ol on ml mx mb kc kh kr ka gl gx gb ls lq lk lg lh vf vs vb nv nw nr nq ne io sp ch wt xf xz xt xb xc) Q := by
  obtain ⟨_, -, -, -, -, -, hpe, hTe⟩ := hat.get
  obtain ⟨hF, hN⟩ := pairs_at hat he hn
  have hS := itS_lt hβ 10
  intro m
  induction m with
  | zero =>
    intro k o4 hk hW hK
    obtain rfl : k = itS β 10 := by omega
    have hW2 : W = 0 := hW
    subst hW2
    iterate 2 refine x_step rfl ?_
    refine x_icmpN_ge (itS β 10) (itS β 10) rfl rfl rfl (fun _ => ?_) (fun q => False.elim (by omega))
    exact hK _ _
  | succ m ih =>
    intro k o4 hk hW hK
    obtain ⟨cs, qk, qe, hI, hat2, hq, -, cs2, q2, qe2, hI2, hat3⟩ := hN k (by omega)
    obtain ⟨_, -, a1, a2, -, -, hq2, hT2⟩ := hat3.get
    have hF2 := itF_lt hβ q2
    have hS2 := itS_lt hβ q2
    iterate 2 refine x_step rfl ?_
    refine x_icmpN_ge (k) (itS β 10) rfl rfl rfl (fun q => False.elim (by omega)) (fun _ => ?_)
    refine x_step rfl ?_
    refine x_if_ne rfl (fun q => absurd (by decide) q) (fun _ => ?_)
    iterate 4 refine x_step rfl ?_
    refine x_callvE rfl (q198 (d := 2) hb hβ he 5 10 k qk cs (by omega) (by decide) (by omega) (by omega) hI) rfl rfl rfl ?_
    refine x_step rfl ?_
    refine x_callvE rfl (q198 (d := 2) hb hβ he 4 qk 1 q2 cs2 (by omega) (by decide) (by decide) hq hI2) rfl rfl rfl ?_
    iterate 3 refine x_step rfl ?_
    refine x_callvE rfl (q187 (d := 0) hb hβ q2 (by omega)) rfl rfl rfl ?_
    refine x_ifN_eq (itF β q2) rfl rfl (fun h1 => ?_) (fun h1 => ?_)
    · have ha : aI β ps k = true := by unfold aI; rw [a1, a2]; simp; omega
      have hW2 : W = 3 := by rw [hW, aAny, ha, Bool.true_or]; rfl
      subst hW2
      iterate 5 refine x_step rfl ?_
      refine xm_ls (pl' := [some (.ref 103), some (.int (nI (itS β 10))), some (.int (nI (3))), some (.int (nI (k + 1))), some (.int (nI (q2 + 1))), none, none]) (by rw [nI_succ k] <;> rfl) ?_
      iterate 2 refine x_step rfl ?_
      refine x_icmpN_ge (k + 1) (itS β 10) rfl rfl rfl (fun hz => ?_) (fun hz => ?_)
      · exact hK _ _
      · refine x_step rfl ?_
        refine x_if_ne rfl (fun _ => ?_) (fun q => absurd q (by decide))
        exact hK _ _
    · iterate 2 refine x_step rfl ?_
      refine x_callvE rfl (q188 (d := 0) hb hβ q2 (by omega)) rfl rfl rfl ?_
      refine x_step rfl ?_
      refine x_icmpN_le (itS β q2) (8) rfl rfl rfl (fun h2 => ?_) (fun h2 => ?_)
      · iterate 4 refine x_step rfl ?_
        refine xm_ls (pl' := [some (.ref 103), some (.int (nI (itS β 10))), some (.int (nI (0))), some (.int (nI (k + 1))), some (.int (nI (q2 + 1))), none, none]) (by rw [nI_succ k] <;> rfl) ?_
        have ha : aI β ps k = false := by unfold aI; rw [a1, a2]; simp; omega
        exact ih (k + 1) _ (by omega) (by rw [hW, aAny, ha, Bool.false_or]) hK
      · have ha : aI β ps k = true := by unfold aI; rw [a1, a2]; simp; omega
        have hW2 : W = 3 := by rw [hW, aAny, ha, Bool.true_or]; rfl
        subst hW2
        iterate 5 refine x_step rfl ?_
        refine xm_ls (pl' := [some (.ref 103), some (.int (nI (itS β 10))), some (.int (nI (3))), some (.int (nI (k + 1))), some (.int (nI (q2 + 1))), none, none]) (by rw [nI_succ k] <;> rfl) ?_
        iterate 2 refine x_step rfl ?_
        refine x_icmpN_ge (k + 1) (itS β 10) rfl rfl rfl (fun hz => ?_) (fun hz => ?_)
        · exact hK _ _
        · refine x_step rfl ?_
          refine x_if_ne rfl (fun _ => ?_) (fun q => absurd q (by decide))
          exact hK _ _
end ER8
