section ER9
variable {l : Launch} {d L : Nat} {xs : Nat → Int32} {tc : Int32} {tf : (Nat → Int32)} {bl : Int32} {bf : (Nat → Int32)} {of : Int32} {oc : Int32} {ol : Int32} {on : Int32} {ml : (Nat → Int32)} {mx : (Nat → Int32)} {mb : (Nat → Nat → Int32)} {kc : Int32} {kh : (Nat → Nat)} {kr : (Nat → Nat → Int32)} {ka : (Nat → Int32)} {gl : Int32} {gx : Int32} {gb : (Nat → Int32)} {ls : Int32} {lq : Int32} {lk : Int32} {lg : Int32} {lh : Int32} {vf : (Nat → Int32)} {vs : (Nat → Int32)} {vb : (Nat → Nat → Int32)} {nv : (Nat → Int32)} {nw : (Nat → Nat → Int32)} {nr : (Nat → Int32)} {nq : (Nat → Nat → Int32)} {ne : (Nat → Int32)} {io : Int32} {sp : Int32} {ch : Int32} {wt : Int32} {xf : (Nat → Int32)} {xz : (Nat → Int32)} {xt : (Nat → Int32)} {xb : (Nat → Int32)} {xc : Int32} {th : Int32} {jl : Int32} {js : Int32} {jh : Int32} {jb : (Nat → Int32)} {jc : Int32} {jr : (Nat → Int32)} {jq : Int32} {jQ : (Nat → Int32)} {jz : (Nat → Int32)} {jf : (Nat → Int32)} {jo : Int32} {jn : Int32} {jt : Int32} {jH : (Nat → Int32)} {jA : (Nat → Int32)} {jm : Int32} {jy : (Nat → Int32)} {je : Int32} {jp : Int32} {jk : Int32} {jx : Int32} {jw : Int32} {ju : Int32} {jF : (Nat → Int32)} {jL : (Nat → Int32)} {jO : (Nat → Int32)} {jS : (Nat → Int32)} {jT : (Nat → Int32)} {jU : (Nat → Int32)} {jV : (Nat → Int32)} {jW : (Nat → Int32)} {ja : Int32} {jG : (Nat → Int32)} {ov : (Nat → Value)} {g2 : xm_H}
variable {β : Nat → Nat} {e : Nat} {ps : List (Nat × Nat)} {sz cr cv : Nat → Nat} {rp vp : Nat → Nat → Nat}
theorem aAny_f {g : Nat → Bool} : ∀ m i, aAny g m i = false → ∀ k, i ≤ k → k < i + m → g k = false := by
  intro m
  induction m with
  | zero => intro i _ k h1 h2; omega
  | succ m ih =>
    intro i h k h1 h2
    rw [aAny, Bool.or_eq_false_iff] at h
    by_cases hk : k = i
    · rw [hk]; exact h.1
    · exact ih (i + 1) h.2 k (by omega) (by omega)
abbrev rS : Type := (Nat → Int32) × (Nat → Int32) × (Nat → Int32)
def rOne (β : Nat → Nat) (ps : List (Nat × Nat)) (s : rS) (v i : Nat) : rS := (upd s.1 v (nI (pF β ps i)), upd s.2.1 v (nI (pS β ps i)), xrcp s.2.2 (fun k => nI (pY β ps i k)) (8 * v) (pS β ps i))
def rAll (β : Nat → Nat) (ps : List (Nat × Nat)) : Nat → Nat → rS → rS
  | 0, _, s => s
  | m + 1, k, s => rAll β ps m (k + 1) (rOne β ps s (pY β ps (cI ps 0 k + 1) 0) (cI ps 0 k + 2))
theorem q215_in {Q : xm_Q} (hb : ∀ i, i < 130 → jb (i + 1) = nI (β i)) (hβ : ∀ i, β i < 256) (he : e ≤ 130) (D i p q k v : Nat) (hat : itAt β e ps D i p q) (hF : ¬ itF β p = 0) (hS8 : itS β p ≤ 8) (hv : v < 6) (hd : 1 ≤ d) (hK : XG l xm_any 215 d 0 0 232 [some (.ref 103), some (.int (nI (itS β 10))), some (.int (nI 0)), some (.int (nI k)), some (.int (nI v)), some (.int (nI (p + 1))), some (.int (nI (itS β p)))] [] (cw L xs (rw th jl js jh jb jc jr jq jQ jz jf jo jn jt jH jA jm jy je jp jk jx jw ju jF (upd jL v (nI (itS β p))) (xrcp jO (fun k => nI (pY β ps i k)) (8 * v) (itS β p)) jS jT jU jV jW ja jG ov g2) tc tf bl bf of oc ol on ml mx mb kc kh kr ka gl gx gb ls lq lk lg lh vf vs vb nv nw nr nq ne io sp ch wt xf xz xt xb xc) Q) : ∀ (m j : Nat), j + m = itS β p → XG l xm_any 215 d 0 0 187 [some (.ref 103), some (.int (nI (itS β 10))), some (.int (nI 0)), some (.int (nI k)), some (.int (nI v)), some (.int (nI (p + 1))), some (.int (nI j))] [] (cw L xs (rw th jl js jh jb jc jr jq jQ jz jf jo jn jt jH jA jm jy je jp jk jx jw ju jF (upd jL v (nI (itS β p))) (xrcp jO (fun k => nI (pY β ps i k)) (8 * v) j) jS jT jU jV jW ja jG ov g2) tc tf bl bf of oc ol on ml mx mb kc kh kr ka gl gx gb ls lq lk lg lh vf vs vb nv nw nr nq ne io sp ch wt xf xz xt xb xc) Q := by
  obtain ⟨_, -, -, -, -, -, hpe, hTe⟩ := hat.get
  intro m
  induction m with
  | zero =>
    intro j hj
    obtain rfl : j = itS β p := by omega
    iterate 4 refine x_step rfl ?_
    refine x_ialdN (v) rfl rfl rfl (by omega) ?_
    refine x_icmpN_ge (itS β p) (itS β p) rfl rfl pk_us (fun _ => ?_) (fun q => False.elim (by omega))
    exact hK
  | succ m ih =>
    intro j hj
    obtain ⟨y1, y2⟩ := pY_at (k := j) hat hF he (by omega)
    iterate 4 refine x_step rfl ?_
    refine x_ialdN (v) rfl rfl rfl (by omega) ?_
    refine x_icmpN_ge (j) (itS β p) rfl rfl pk_us (fun q => False.elim (by omega)) (fun _ => ?_)
    iterate 11 refine x_step rfl ?_
    refine x_callvE rfl (q189 (d := 0) hb hβ p (by omega)) rfl rfl rfl ?_
    iterate 2 refine x_step rfl ?_
    refine x_ialdN (itT β p + j + 1) rfl rfl (by rw [nI_add]; congr 1; omega) (by omega) ?_
    refine x_iastN (8 * v + j) rfl rfl (by rw [← nI_add, ← pk_mul] <;> rfl) (by omega) ?_
    iterate 2 refine x_step rfl ?_
    refine xm_ls (pl' := [some (.ref 103), some (.int (nI (itS β 10))), some (.int (nI 0)), some (.int (nI k)), some (.int (nI v)), some (.int (nI (p + 1))), some (.int (nI (j + 1)))]) (by rw [nI_succ j] <;> rfl) ?_
    refine xm_hs (hp' := (cw L xs (rw th jl js jh jb jc jr jq jQ jz jf jo jn jt jH jA jm jy je jp jk jx jw ju jF (upd jL v (nI (itS β p))) (xrcp jO (fun k => nI (pY β ps i k)) (8 * v) (j + 1)) jS jT jU jV jW ja jG ov g2) tc tf bl bf of oc ol on ml mx mb kc kh kr ka gl gx gb ls lq lk lg lh vf vs vb nv nw nr nq ne io sp ch wt xf xz xt xb xc)) (by rw [← xrcp_s, hb _ y2, y1] <;> rfl) ?_
    exact ih (j + 1) (by omega)
theorem q215_c {Q : xm_Q} (hb : ∀ i, i < 130 → jb (i + 1) = nI (β i)) (hβ : ∀ i, β i < 256) (he : e ≤ 130) (hat : itAt β e ps 6 0 10 e) (hn : pPairs β ps = true) (h1 : aAny (aN β ps) (itS β 10) 0 = false) (h2 : aAny (aI β ps) (itS β 10) 0 = false) (hd : 3 ≤ d) : ∀ (m k : Nat) (s : rS) (o4 o5 o6 : Option Value), k + m = itS β 10 → (∀ o4 o5 o6, XG l xm_any 215 d 0 0 238 [some (.ref 103), some (.int (nI (itS β 10))), some (.int (nI 0)), some (.int (nI (itS β 10))), o4, o5, o6] [] (cw L xs (rw th jl js jh jb jc jr jq jQ jz jf jo jn jt jH jA jm jy je jp jk jx jw ju ((rAll β ps m k s).1) ((rAll β ps m k s).2.1) ((rAll β ps m k s).2.2) jS jT jU jV jW ja jG ov g2) tc tf bl bf of oc ol on ml mx mb kc kh kr ka gl gx gb ls lq lk lg lh vf vs vb nv nw nr nq ne io sp ch wt xf xz xt xb xc) Q) → XG l xm_any 215 d 0 0 117 [some (.ref 103), some (.int (nI (itS β 10))), some (.int (nI 0)), some (.int (nI k)), o4, o5, o6] [] (cw L xs (rw th jl js jh jb jc jr jq jQ jz jf jo jn jt jH jA jm jy je jp jk jx jw ju ((s).1) ((s).2.1) ((s).2.2) jS jT jU jV jW ja jG ov g2) tc tf bl bf of oc ol on ml mx mb kc kh kr ka gl gx gb ls lq lk lg lh vf vs vb nv nw nr nq ne io sp ch wt xf xz xt xb xc) Q := by
  obtain ⟨_, -, -, -, -, -, hpe, hTe⟩ := hat.get
  obtain ⟨hF, hN⟩ := pairs_at hat he hn
  have hS := itS_lt hβ 10
  intro m
  induction m with
  | zero =>
    intro k s o4 o5 o6 hk hK
    obtain rfl : k = itS β 10 := by omega
    iterate 2 refine x_step rfl ?_
    refine x_icmpN_ge (itS β 10) (itS β 10) rfl rfl rfl (fun _ => ?_) (fun q => False.elim (by omega))
    exact hK _ _ _
  | succ m ih =>
    intro k s o4 o5 o6 hk hK
    obtain ⟨cs, qk, qe, hI, hat2, hq, ⟨cs0, q0, qe0, hI0, hat0, hy, hT0⟩, cs2, q2, qe2, hI2, hat3⟩ := hN k (by omega)
    obtain ⟨_, -, -, -, -, -, hq0, -⟩ := hat0.get
    obtain ⟨_, -, a1, a2, -, -, hq2, hT2⟩ := hat3.get
    have hF2 := itF_lt hβ q2
    have hS2 := itS_lt hβ q2
    have g1 := aAny_f _ _ h1 k (by omega) (by omega)
    have g3 := aAny_f _ _ h2 k (by omega) (by omega)
    unfold aN at g1
    unfold aI at g3
    rw [hy] at g1
    rw [a1, a2] at g3
    simp at g1 g3
    have hv6 : β (itT β q0) < 6 := by omega
    iterate 2 refine x_step rfl ?_
    refine x_icmpN_ge (k) (itS β 10) rfl rfl rfl (fun q => False.elim (by omega)) (fun _ => ?_)
    refine x_step rfl ?_
    refine x_if_ne rfl (fun q => absurd (by decide) q) (fun _ => ?_)
    iterate 5 refine x_step rfl ?_
    refine x_callvE rfl (q198 (d := 2) hb hβ he 5 10 k qk cs (by omega) (by decide) (by omega) (by omega) hI) rfl rfl rfl ?_
    refine x_step rfl ?_
    refine x_callvE rfl (q198 (d := 2) hb hβ he 4 qk 0 q0 cs0 (by omega) (by decide) (by decide) hq hI0) rfl rfl rfl ?_
    refine x_callvE rfl (q192 (d := 1) hb hβ q0 (by omega) hT0) rfl rfl rfl ?_
    iterate 5 refine x_step rfl ?_
    refine x_callvE rfl (q198 (d := 2) hb hβ he 5 10 k qk cs (by omega) (by decide) (by omega) (by omega) hI) rfl rfl rfl ?_
    refine x_step rfl ?_
    refine x_callvE rfl (q198 (d := 2) hb hβ he 4 qk 1 q2 cs2 (by omega) (by decide) (by decide) hq hI2) rfl rfl rfl ?_
    iterate 6 refine x_step rfl ?_
    refine x_callvE rfl (q187 (d := 0) hb hβ q2 (by omega)) rfl rfl rfl ?_
    refine x_iastN (β (itT β q0)) rfl rfl rfl (by omega) ?_
    refine xm_hs (hp' := (cw L xs (rw th jl js jh jb jc jr jq jQ jz jf jo jn jt jH jA jm jy je jp jk jx jw ju (upd s.1 (β (itT β q0)) (nI (itF β q2))) (s.2.1) (s.2.2) jS jT jU jV jW ja jG ov g2) tc tf bl bf of oc ol on ml mx mb kc kh kr ka gl gx gb ls lq lk lg lh vf vs vb nv nw nr nq ne io sp ch wt xf xz xt xb xc)) rfl ?_
    iterate 5 refine x_step rfl ?_
    refine x_callvE rfl (q188 (d := 0) hb hβ q2 (by omega)) rfl rfl rfl ?_
    refine x_iastN (β (itT β q0)) rfl rfl rfl (by omega) ?_
    iterate 2 refine x_step rfl ?_
    refine xm_ls (pl' := [some (.ref 103), some (.int (nI (itS β 10))), some (.int (nI 0)), some (.int (nI k)), some (.int (nI (β (itT β q0)))), some (.int (nI (q2 + 1))), some (.int (nI 0))]) rfl ?_
    refine xm_hs (hp' := (cw L xs (rw th jl js jh jb jc jr jq jQ jz jf jo jn jt jH jA jm jy je jp jk jx jw ju (upd s.1 (β (itT β q0)) (nI (itF β q2))) (upd s.2.1 (β (itT β q0)) (nI (itS β q2))) (xrcp s.2.2 (fun z => nI (pY β ps (cI ps 0 k + 2) z)) (8 * β (itT β q0)) 0) jS jT jU jV jW ja jG ov g2) tc tf bl bf of oc ol on ml mx mb kc kh kr ka gl gx gb ls lq lk lg lh vf vs vb nv nw nr nq ne io sp ch wt xf xz xt xb xc)) (by rw [xrcp_0] <;> rfl) ?_
    refine q215_in (jF := upd s.1 (β (itT β q0)) (nI (itF β q2))) (jL := s.2.1) (jO := s.2.2) hb hβ he 4 (cI ps 0 k + 2) q2 qe2 k (β (itT β q0)) hat3 (by omega) (by omega) hv6 (by omega) ?_ (itS β q2) 0 (by omega)
    iterate 2 refine x_step rfl ?_
    refine xm_ls (pl' := [some (.ref 103), some (.int (nI (itS β 10))), some (.int (nI 0)), some (.int (nI (k + 1))), some (.int (nI (β (itT β q0)))), some (.int (nI (q2 + 1))), some (.int (nI (itS β q2)))]) (by rw [nI_succ k] <;> rfl) ?_
    refine xm_hs (hp' := (cw L xs (rw th jl js jh jb jc jr jq jQ jz jf jo jn jt jH jA jm jy je jp jk jx jw ju ((rOne β ps s (pY β ps (cI ps 0 k + 1) 0) (cI ps 0 k + 2)).1) ((rOne β ps s (pY β ps (cI ps 0 k + 1) 0) (cI ps 0 k + 2)).2.1) ((rOne β ps s (pY β ps (cI ps 0 k + 1) 0) (cI ps 0 k + 2)).2.2) jS jT jU jV jW ja jG ov g2) tc tf bl bf of oc ol on ml mx mb kc kh kr ka gl gx gb ls lq lk lg lh vf vs vb nv nw nr nq ne io sp ch wt xf xz xt xb xc)) (by rw [rOne, hy, a1, a2]) ?_
    exact ih (k + 1) (rOne β ps s (pY β ps (cI ps 0 k + 1) 0) (cI ps 0 k + 2)) _ _ _ (by omega) hK
/-- assign: a fault -/
theorem q215f {h9 : xm_H} {dd : Nat} (hb : ∀ i, i < 130 → jb (i + 1) = nI (β i)) (hβ : ∀ i, β i < 256) (he : e ≤ 130) (hat : itAt β e ps 6 0 10 e) (hn : pPairs β ps = true) (f : Nat) (hf : pfP β ps (itS β 10) 1 false = f) (h0 : f ≠ 0) (hd : 3 ≤ d) (hdd : dd < d) (hR : XM l 213 dd 0 0 [.ref 103, .int (nI f)] (cw L xs (rw th jl js jh jb jc jr jq jQ jz jf jo jn jt jH jA jm jy je jp jk jx jw ju jF jL jO jS jT jU jV jW ja jG ov g2) tc tf bl bf of oc ol on ml mx mb kc kh kr ka gl gx gb ls lq lk lg lh vf vs vb nv nw nr nq ne io sp ch wt xf xz xt xb xc) (xm_is none h9)) : XM l 215 d 0 0 [.ref 103] (cw L xs (rw th jl js jh jb jc jr jq jQ jz jf jo jn jt jH jA jm jy je jp jk jx jw ju jF jL jO jS jT jU jV jW ja jG ov g2) tc tf bl bf of oc ol on ml mx mb kc kh kr ka gl gx gb ls lq lk lg lh vf vs vb nv nw nr nq ne io sp ch wt xf xz xt xb xc) (xm_is none h9) := by
  obtain ⟨_, -, -, -, -, -, hpe, hTe⟩ := hat.get
  have hS := itS_lt hβ 10
  rw [show (1 : Nat) = cI ps 0 0 from rfl, pfP_eq, Bool.false_or] at hf
  refine XE (pl := [some (.ref 103), none, none, none, none, none, none]) xg215 rfl ?_
  iterate 2 refine x_step rfl ?_
  refine x_callvE rfl (q188 (d := 0) hb hβ 10 (by omega)) rfl rfl rfl ?_
  iterate 5 refine x_step rfl ?_
  refine xm_ls (pl' := [some (.ref 103), some (.int (nI (itS β 10))), some (.int (nI (wN false))), some (.int (nI 0)), none, none, none]) rfl ?_
  refine q215_a hb hβ he hat hn hd (itS β 10) 0 false none (by omega) (fun o4 => ?_)
  rw [Bool.false_or]
  cases h1 : aAny (aN β ps) (itS β 10) 0 with
  | true =>
    obtain rfl : f = 1 := by rw [h1] at hf; exact hf.symm
    iterate 2 refine x_step rfl ?_
    iterate 2 refine x_step rfl ?_
    refine xm_ls (pl' := [some (.ref 103), some (.int (nI (itS β 10))), some (.int (nI 1)), some (.int 0), o4, none, none]) rfl ?_
    have rest : ∀ (o4 : Option Value) (k : Int32), XG l xm_any 215 d 0 0 115 [some (.ref 103), some (.int (nI (itS β 10))), some (.int (nI 1)), some (.int k), o4, none, none] [] (cw L xs (rw th jl js jh jb jc jr jq jQ jz jf jo jn jt jH jA jm jy je jp jk jx jw ju jF jL jO jS jT jU jV jW ja jG ov g2) tc tf bl bf of oc ol on ml mx mb kc kh kr ka gl gx gb ls lq lk lg lh vf vs vb nv nw nr nq ne io sp ch wt xf xz xt xb xc) (xm_ret (xm_is none h9)) := by
      intro o4 k
      iterate 4 refine x_step rfl ?_
      refine x_icmp_ge rfl (fun _ => ?_) (fun _ => ?_)
      · iterate 2 refine x_step rfl ?_
        refine x_callvE rfl hR rfl rfl rfl ?_
        exact x_ret rfl rfl ⟨rfl, rfl⟩
      · refine x_step rfl ?_
        refine x_if_ne rfl (fun _ => ?_) (fun q => absurd q (by decide))
        iterate 2 refine x_step rfl ?_
        refine x_callvE rfl hR rfl rfl rfl ?_
        exact x_ret rfl rfl ⟨rfl, rfl⟩
    refine x_icmp_ge rfl (fun _ => rest _ _) (fun _ => ?_)
    refine x_step rfl ?_
    exact x_if_ne rfl (fun _ => rest _ _) (fun q => absurd q (by decide))
  | false =>
    rw [h1] at hf
    have h2 : aAny (aI β ps) (itS β 10) 0 = true := by
      cases hz : aAny (aI β ps) (itS β 10) 0 with
      | true => rfl
      | false => rw [hz] at hf; exact absurd hf.symm h0
    obtain rfl : f = 3 := by rw [h2] at hf; exact hf.symm
    iterate 2 refine x_step rfl ?_
    refine xm_ls (pl' := [some (.ref 103), some (.int (nI (itS β 10))), some (.int (nI 0)), some (.int (nI 0)), o4, none, none]) rfl ?_
    refine q215_b hb hβ he hat hn hd 3 (itS β 10) 0 o4 (by omega) (by rw [h2]; rfl) (fun k o4 => ?_)
    iterate 4 refine x_step rfl ?_
    refine x_icmp_ge rfl (fun _ => ?_) (fun _ => ?_)
    · iterate 2 refine x_step rfl ?_
      refine x_callvE rfl hR rfl rfl rfl ?_
      exact x_ret rfl rfl ⟨rfl, rfl⟩
    · refine x_step rfl ?_
      refine x_if_ne rfl (fun _ => ?_) (fun q => absurd q (by decide))
      iterate 2 refine x_step rfl ?_
      refine x_callvE rfl hR rfl rfl rfl ?_
      exact x_ret rfl rfl ⟨rfl, rfl⟩
/-- assign: it is done -/
theorem q215 {h9 : xm_H} {dd : Nat} (hb : ∀ i, i < 130 → jb (i + 1) = nI (β i)) (hβ : ∀ i, β i < 256) (he : e ≤ 130) (hat : itAt β e ps 6 0 10 e) (hn : pPairs β ps = true) (hf : pfP β ps (itS β 10) 1 false = 0) (hd : 3 ≤ d) (hdd : dd < d) (hR : XM l 213 dd 0 0 [.ref 103, .int 0] (cw L xs (rw th jl js jh jb jc jr jq jQ jz jf jo jn jt jH jA jm jy je jp jk jx jw ju ((rAll β ps (itS β 10) 0 (jF, jL, jO)).1) ((rAll β ps (itS β 10) 0 (jF, jL, jO)).2.1) ((rAll β ps (itS β 10) 0 (jF, jL, jO)).2.2) jS jT jU jV jW ja jG ov g2) tc tf bl bf of oc ol on ml mx mb kc kh kr ka gl gx gb ls lq lk lg lh vf vs vb nv nw nr nq ne io sp ch wt xf xz xt xb xc) (xm_is none h9)) : XM l 215 d 0 0 [.ref 103] (cw L xs (rw th jl js jh jb jc jr jq jQ jz jf jo jn jt jH jA jm jy je jp jk jx jw ju jF jL jO jS jT jU jV jW ja jG ov g2) tc tf bl bf of oc ol on ml mx mb kc kh kr ka gl gx gb ls lq lk lg lh vf vs vb nv nw nr nq ne io sp ch wt xf xz xt xb xc) (xm_is none h9) := by
  obtain ⟨_, -, -, -, -, -, hpe, hTe⟩ := hat.get
  have hS := itS_lt hβ 10
  rw [show (1 : Nat) = cI ps 0 0 from rfl, pfP_eq, Bool.false_or] at hf
  have h1 : aAny (aN β ps) (itS β 10) 0 = false := by
    cases hz : aAny (aN β ps) (itS β 10) 0 with
    | false => rfl
    | true => rw [hz] at hf; simp at hf
  rw [h1] at hf
  have h2 : aAny (aI β ps) (itS β 10) 0 = false := by
    cases hz : aAny (aI β ps) (itS β 10) 0 with
    | false => rfl
    | true => rw [hz] at hf; exact absurd hf (by decide)
  refine XE (pl := [some (.ref 103), none, none, none, none, none, none]) xg215 rfl ?_
  iterate 2 refine x_step rfl ?_
  refine x_callvE rfl (q188 (d := 0) hb hβ 10 (by omega)) rfl rfl rfl ?_
  iterate 5 refine x_step rfl ?_
  refine xm_ls (pl' := [some (.ref 103), some (.int (nI (itS β 10))), some (.int (nI (wN false))), some (.int (nI 0)), none, none, none]) rfl ?_
  refine q215_a hb hβ he hat hn hd (itS β 10) 0 false none (by omega) (fun o4 => ?_)
  rw [Bool.false_or, h1]
  iterate 2 refine x_step rfl ?_
  refine xm_ls (pl' := [some (.ref 103), some (.int (nI (itS β 10))), some (.int (nI 0)), some (.int (nI 0)), o4, none, none]) rfl ?_
  refine q215_b hb hβ he hat hn hd 0 (itS β 10) 0 o4 (by omega) (by rw [h2]; rfl) (fun k o4 => ?_)
  iterate 2 refine x_step rfl ?_
  refine xm_ls (pl' := [some (.ref 103), some (.int (nI (itS β 10))), some (.int (nI 0)), some (.int (nI 0)), o4, none, none]) rfl ?_
  refine q215_c hb hβ he hat hn h1 h2 hd (itS β 10) 0 (jF, jL, jO) o4 none none (by omega) (fun o4 o5 o6 => ?_)
  iterate 2 refine x_step rfl ?_
  refine x_callvE rfl (hR) rfl rfl rfl ?_
  exact x_ret rfl rfl ⟨rfl, rfl⟩
/-- two entries a row, one behind the other -/
def rf (m : Nat → Nat → Nat) : Nat → Nat := fun z => m (z / 2) (z % 2)
theorem rf_at (m : Nat → Nat → Nat) (e i : Nat) (hi : i < 2) : rf m (2 * e + i) = m e i := by
  unfold rf
  rw [show (2 * e + i) / 2 = e by omega, show (2 * e + i) % 2 = i by omega]
theorem rf_upd (m : Nat → Nat → Nat) (e k x : Nat) (hk : k < 2) : updn (rf m) (2 * e + k) x = rf (updfn m e (updn (m e) k x)) := by
  funext z
  unfold rf updn updfn
  by_cases h : z = 2 * e + k
  · rw [if_pos h, if_pos (by omega), if_pos (by omega)]
  · rw [if_neg h]
    by_cases h2 : z / 2 = e
    · rw [if_pos h2, if_neg (by omega)]
      show m (z / 2) (z % 2) = m e (z % 2)
      rw [h2]
    · rw [if_neg h2]
theorem q217_in {Q : xm_Q} (r e : Nat) (he : e < 6) (hc : cr e ≤ 2) (hr : r < 2 ^ 20) : ∀ (m i k : Nat) (q : Nat → Nat) (o5 : Option Value), i + m = cr e → k ≤ i → (∀ j, q j < 2 ^ 20) → (∀ o5, XG l xm_any 217 d 0 0 63 [some (.ref 103), some (.int (nI r)), some (.int (nI e)), some (.int (nI (ulN r m i k q).2)), some (.int (nI (cr e))), o5] [] (cw L xs (rw th jl js jh jb jc jr jq jQ jz jf jo jn jt jH jA jm jy je jp jk jx jw ju jF jL jO jS jT ((fun z1 => nI ((cr) z1))) ((fun z1 => nI (rf (updfn rp e (ulN r m i k q).1) z1))) jW ja jG ov g2) tc tf bl bf of oc ol on ml mx mb kc kh kr ka gl gx gb ls lq lk lg lh vf vs vb nv nw nr nq ne io sp ch wt xf xz xt xb xc) Q) → XG l xm_any 217 d 0 0 12 [some (.ref 103), some (.int (nI r)), some (.int (nI e)), some (.int (nI k)), some (.int (nI i)), o5] [] (cw L xs (rw th jl js jh jb jc jr jq jQ jz jf jo jn jt jH jA jm jy je jp jk jx jw ju jF jL jO jS jT ((fun z1 => nI ((cr) z1))) ((fun z1 => nI (rf (updfn rp e q) z1))) jW ja jG ov g2) tc tf bl bf of oc ol on ml mx mb kc kh kr ka gl gx gb ls lq lk lg lh vf vs vb nv nw nr nq ne io sp ch wt xf xz xt xb xc) Q := by
  intro m
  induction m with
  | zero =>
    intro i k q o5 hi hk hq hK
    obtain rfl : i = cr e := by omega
    iterate 4 refine x_step rfl ?_
    refine x_ialdN (e) rfl rfl rfl (by omega) ?_
    refine x_icmpN_ge (cr e) (cr e) rfl rfl rfl (fun _ => ?_) (fun q => False.elim (by omega))
    exact hK _
  | succ m ih =>
    intro i k q o5 hi hk hq hK
    have hqi := hq i
    iterate 4 refine x_step rfl ?_
    refine x_ialdN (e) rfl rfl rfl (by omega) ?_
    refine x_icmpN_ge (i) (cr e) rfl rfl rfl (fun q => False.elim (by omega)) (fun _ => ?_)
    iterate 7 refine x_step rfl ?_
    refine x_ialdN (2 * e + i) rfl rfl (by rw [← nI_add, ← pk_mul] <;> rfl) (by omega) ?_
    refine x_step rfl ?_
    refine xm_ls (pl' := [some (.ref 103), some (.int (nI r)), some (.int (nI e)), some (.int (nI k)), some (.int (nI i)), some (.int (nI (q i)))]) (by rw [rf_at _ e i (by omega), updfn_same] <;> rfl) ?_
    iterate 2 refine x_step rfl ?_
    refine x_icmpN_eq (q i) (r) rfl rfl rfl (fun h => ?_) (fun h => ?_)
    · iterate 2 refine x_step rfl ?_
      refine xm_ls (pl' := [some (.ref 103), some (.int (nI r)), some (.int (nI e)), some (.int (nI k)), some (.int (nI (i + 1))), some (.int (nI (q i)))]) (by rw [nI_succ i] <;> rfl) ?_
      refine ih (i + 1) k q _ (by omega) (by omega) hq (fun o5 => ?_)
      have hz := hK o5
      rw [ulN, if_pos h] at hz
      exact hz
    · iterate 8 refine x_step rfl ?_
      refine x_iastN (2 * e + k) rfl rfl (by rw [← nI_add, ← pk_mul] <;> rfl) (by omega) ?_
      iterate 3 refine x_step rfl ?_
      refine xm_ls (pl' := [some (.ref 103), some (.int (nI r)), some (.int (nI e)), some (.int (nI (k + 1))), some (.int (nI (i + 1))), some (.int (nI (q i)))]) (by rw [nI_succ i, nI_succ k] <;> rfl) ?_
      refine xm_hs (hp' := (cw L xs (rw th jl js jh jb jc jr jq jQ jz jf jo jn jt jH jA jm jy je jp jk jx jw ju jF jL jO jS jT ((fun z1 => nI ((cr) z1))) ((fun z1 => nI (rf (updfn rp e (updn q k (q i))) z1))) jW ja jG ov g2) tc tf bl bf of oc ol on ml mx mb kc kh kr ka gl gx gb ls lq lk lg lh vf vs vb nv nw nr nq ne io sp ch wt xf xz xt xb xc)) (by rw [upd_nI, rf_upd _ e k _ (by omega), updfn_same, updfn_updfn] <;> rfl) ?_
      refine ih (i + 1) (k + 1) (updn q k (q i)) _ (by omega) (by omega) (fun j => by unfold updn; split <;> exact hq _) (fun o5 => ?_)
      have hz := hK o5
      rw [ulN, if_neg h] at hz
      exact hz
theorem q217_loop (r : Nat) (hr : r < 2 ^ 20) : ∀ (m e : Nat) (s : lS) (o3 o4 o5 : Option Value), e + m = 6 → (∀ e, s.1 e ≤ 2) → (∀ e i, s.2 e i < 2 ^ 20) → XW l 217 d 0 0 2 [some (.ref 103), some (.int (nI r)), some (.int (nI e)), o3, o4, o5] [] (cw L xs (rw th jl js jh jb jc jr jq jQ jz jf jo jn jt jH jA jm jy je jp jk jx jw ju jF jL jO jS jT ((fun z1 => nI ((s.1) z1))) ((fun z1 => nI (rf (s.2) z1))) jW ja jG ov g2) tc tf bl bf of oc ol on ml mx mb kc kh kr ka gl gx gb ls lq lk lg lh vf vs vb nv nw nr nq ne io sp ch wt xf xz xt xb xc) (xm_is none (cw L xs (rw th jl js jh jb jc jr jq jQ jz jf jo jn jt jH jA jm jy je jp jk jx jw ju jF jL jO jS jT ((fun z1 => nI (((ulA r m e s).1) z1))) ((fun z1 => nI (rf ((ulA r m e s).2) z1))) jW ja jG ov g2) tc tf bl bf of oc ol on ml mx mb kc kh kr ka gl gx gb ls lq lk lg lh vf vs vb nv nw nr nq ne io sp ch wt xf xz xt xb xc)) := by
  intro m
  induction m with
  | zero =>
    intro e s o3 o4 o5 he h1 h2
    iterate 2 refine x_step rfl ?_
    refine x_icmpN_gt (e) (5) rfl rfl rfl (fun _ => ?_) (fun q => False.elim (by omega))
    exact x_ret rfl rfl ⟨rfl, rfl⟩
  | succ m ih =>
    intro e s o3 o4 o5 he h1 h2
    have h9 := ulE_ok (r := r) h1 h2 e
    iterate 2 refine x_step rfl ?_
    refine x_icmpN_gt (e) (5) rfl rfl rfl (fun q => False.elim (by omega)) (fun _ => ?_)
    iterate 4 refine x_step rfl ?_
    refine xm_ls (pl' := [some (.ref 103), some (.int (nI r)), some (.int (nI e)), some (.int (nI 0)), some (.int (nI 0)), o5]) rfl ?_
    refine xm_hs (hp' := (cw L xs (rw th jl js jh jb jc jr jq jQ jz jf jo jn jt jH jA jm jy je jp jk jx jw ju jF jL jO jS jT ((fun z1 => nI ((s.1) z1))) ((fun z1 => nI (rf (updfn s.2 e (s.2 e)) z1))) jW ja jG ov g2) tc tf bl bf of oc ol on ml mx mb kc kh kr ka gl gx gb ls lq lk lg lh vf vs vb nv nw nr nq ne io sp ch wt xf xz xt xb xc)) (by rw [updfn_id] <;> rfl) ?_
    refine q217_in (cr := s.1) (rp := s.2) r e (by omega) (h1 e) hr (s.1 e) 0 0 (s.2 e) o5 (by omega) (by omega) (h2 e) (fun o5 => ?_)
    iterate 4 refine x_step rfl ?_
    refine x_iastN (e) rfl rfl rfl (by omega) ?_
    iterate 2 refine x_step rfl ?_
    refine xm_ls (pl' := [some (.ref 103), some (.int (nI r)), some (.int (nI (e + 1))), some (.int (nI (ulN r (s.1 e) 0 0 (s.2 e)).2)), some (.int (nI (s.1 e))), o5]) (by rw [nI_succ e] <;> rfl) ?_
    refine xm_hs (hp' := (cw L xs (rw th jl js jh jb jc jr jq jQ jz jf jo jn jt jH jA jm jy je jp jk jx jw ju jF jL jO jS jT ((fun z1 => nI (((ulE r s e).1) z1))) ((fun z1 => nI (rf ((ulE r s e).2) z1))) jW ja jG ov g2) tc tf bl bf of oc ol on ml mx mb kc kh kr ka gl gx gb ls lq lk lg lh vf vs vb nv nw nr nq ne io sp ch wt xf xz xt xb xc)) (by rw [ulE, ← upd_nI] <;> rfl) ?_
    exact ih (e + 1) (ulE r s e) _ _ _ (by omega) h9.1 h9.2
/-- FabLinkModel.unlink -/
theorem q217 (r : Nat) (s : lS) (hr : r < 2 ^ 20) (h1 : ∀ e, s.1 e ≤ 2) (h2 : ∀ e i, s.2 e i < 2 ^ 20) : XM l 217 d 0 0 [.ref 103, .int (nI r)] (cw L xs (rw th jl js jh jb jc jr jq jQ jz jf jo jn jt jH jA jm jy je jp jk jx jw ju jF jL jO jS jT ((fun z1 => nI ((s.1) z1))) ((fun z1 => nI (rf (s.2) z1))) jW ja jG ov g2) tc tf bl bf of oc ol on ml mx mb kc kh kr ka gl gx gb ls lq lk lg lh vf vs vb nv nw nr nq ne io sp ch wt xf xz xt xb xc) (xm_is none (cw L xs (rw th jl js jh jb jc jr jq jQ jz jf jo jn jt jH jA jm jy je jp jk jx jw ju jF jL jO jS jT ((fun z1 => nI (((ulA r 5 1 s).1) z1))) ((fun z1 => nI (rf ((ulA r 5 1 s).2) z1))) jW ja jG ov g2) tc tf bl bf of oc ol on ml mx mb kc kh kr ka gl gx gb ls lq lk lg lh vf vs vb nv nw nr nq ne io sp ch wt xf xz xt xb xc)) := by
  refine XE (pl := [some (.ref 103), some (.int (nI r)), none, none, none, none]) xg217 rfl ?_
  iterate 2 refine x_step rfl ?_
  refine xm_ls (pl' := [some (.ref 103), some (.int (nI r)), some (.int (nI 1)), none, none, none]) rfl ?_
  exact q217_loop r hr 5 1 s none none none (by omega) h1 h2
/-- FabLinkModel.noReport -/
theorem q220 (r : Nat) (hr : r < 2 ^ 20) (hc : ∀ r, cv r < 2 ^ 20) : XM l 220 d 0 0 [.ref 103, .int (nI r)] (cw L xs (rw th jl js jh jb jc jr jq jQ jz jf jo jn jt jH jA jm jy je jp jk jx jw ju jF jL jO ((fun z1 => nI (cv z1))) jT jU jV jW ja jG ov g2) tc tf bl bf of oc ol on ml mx mb kc kh kr ka gl gx gb ls lq lk lg lh vf vs vb nv nw nr nq ne io sp ch wt xf xz xt xb xc) (xm_is (some (.int (bI (cvo cv r == 0)))) (cw L xs (rw th jl js jh jb jc jr jq jQ jz jf jo jn jt jH jA jm jy je jp jk jx jw ju jF jL jO ((fun z1 => nI (cv z1))) jT jU jV jW ja jG ov g2) tc tf bl bf of oc ol on ml mx mb kc kh kr ka gl gx gb ls lq lk lg lh vf vs vb nv nw nr nq ne io sp ch wt xf xz xt xb xc)) := by
  refine XE (pl := [some (.ref 103), some (.int (nI r))]) xg220 rfl ?_
  have hcr := hc r
  iterate 2 refine x_step rfl ?_
  refine x_icmpN_lt (r) (1) rfl rfl rfl (fun h1 => ?_) (fun h1 => ?_)
  · iterate 2 refine x_step rfl ?_
    exact x_iret rfl rfl rfl ⟨by rw [cvo, if_neg (by omega)]; rfl, rfl⟩
  · iterate 2 refine x_step rfl ?_
    refine x_icmpN_gt (r) (4) rfl rfl rfl (fun h2 => ?_) (fun h2 => ?_)
    · iterate 2 refine x_step rfl ?_
      exact x_iret rfl rfl rfl ⟨by rw [cvo, if_neg (by omega)]; rfl, rfl⟩
    · iterate 3 refine x_step rfl ?_
      refine x_ialdN (r) rfl rfl rfl (by omega) ?_
      have hco : cvo cv r = cv r := by rw [cvo, if_pos (by omega)]
      rw [hco]
      refine x_ifN_ne (cv r) rfl rfl (fun h3 => ?_) (fun h3 => ?_)
      · refine x_step rfl ?_
        exact x_iret rfl rfl rfl ⟨by rw [show (cv r == 0) = false from by simpa using h3]; rfl, rfl⟩
      · iterate 2 refine x_step rfl ?_
        exact x_iret rfl rfl rfl ⟨by rw [h3]; rfl, rfl⟩
end ER9
