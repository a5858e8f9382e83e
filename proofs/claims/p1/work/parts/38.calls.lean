section CA
variable {l : Launch} {d L : Nat} {xs : Nat → Int32} {tc : Int32} {tf : (Nat → Int32)} {bl : Int32} {bf : (Nat → Int32)} {of : Int32} {oc : Int32} {ol : Int32} {on : Int32} {ml : (Nat → Int32)} {mx : (Nat → Int32)} {mb : (Nat → Nat → Int32)} {kc : Int32} {kh : (Nat → Nat)} {kr : (Nat → Nat → Int32)} {ka : (Nat → Int32)} {gl : Int32} {gx : Int32} {gb : (Nat → Int32)} {ls : Int32} {lq : Int32} {lk : Int32} {lg : Int32} {lh : Int32} {vf : (Nat → Int32)} {vs : (Nat → Int32)} {vb : (Nat → Nat → Int32)} {nv : (Nat → Int32)} {nw : (Nat → Nat → Int32)} {nr : (Nat → Int32)} {nq : (Nat → Nat → Int32)} {ne : (Nat → Int32)} {io : Int32} {sp : Int32} {ch : Int32} {wt : Int32} {xf : (Nat → Int32)} {xz : (Nat → Int32)} {xt : (Nat → Int32)} {xb : (Nat → Int32)} {xc : Int32} {th : Int32} {jl : Int32} {js : Int32} {jh : Int32} {jb : (Nat → Int32)} {jc : Int32} {jr : (Nat → Int32)} {jq : Int32} {jQ : (Nat → Int32)} {jz : (Nat → Int32)} {jf : (Nat → Int32)} {jo : Int32} {jn : Int32} {jt : Int32} {jH : (Nat → Int32)} {jA : (Nat → Int32)} {jm : Int32} {jy : (Nat → Int32)} {je : Int32} {jp : Int32} {jk : Int32} {jx : Int32} {jw : Int32} {ju : Int32} {jF : (Nat → Int32)} {jL : (Nat → Int32)} {jO : (Nat → Int32)} {jS : (Nat → Int32)} {jT : (Nat → Int32)} {jU : (Nat → Int32)} {jV : (Nat → Int32)} {jW : (Nat → Int32)} {ja : Int32} {jG : (Nat → Int32)} {ov : (Nat → Value)} {g2 : xm_H}
variable {J : xm_H → Prop} {a b : Int32}
theorem XM.mono {k mc ms : Nat} {as : List Value} {hp : xm_H} {Q Q' : Option Value → xm_H → Prop} (h : XM l k d mc ms as hp Q) (hq : ∀ v h, Q v h → Q' v h) : XM l k d mc ms as hp Q' := by
  intro G p e ha hc hk s m args below hf happ hP hK
  obtain ⟨n, o, h1, h2, h3, ⟨v, hp', q0, q1, q2, q3⟩, Ls, hF, hL⟩ := h G p e ha hc hk s m args below hf happ hP hK
  exact ⟨n, o, h1, h2, h3, ⟨v, hp', hq _ _ q0, q1, q2, q3⟩, Ls, hF, hL⟩
theorem XMW.mono {k mc ms : Nat} {as : List Value} {hp : xm_H} {Q Q' : Option Value → xm_H → Prop} (h : XMW l k d mc ms as hp Q) (hq : ∀ v h, Q v h → Q' v h) : XMW l k d mc ms as hp Q' := by
  intro G p e ha hc hk s m args below hf happ hP hK
  obtain ⟨n, o, h1, h2, h3, ⟨v, hp', q0, q1, q2, q3⟩, Ls, hF, hL⟩ := h G p e ha hc hk s m args below hf happ hP hK
  exact ⟨n, o, h1, h2, h3, ⟨v, hp', hq _ _ q0, q1, q2, q3⟩, Ls, hF, hL⟩
theorem XA_of {H M : Nat} {as : List Value} {hp hp1 hp2 : xm_H} {k r : Int32} {fm fn : List Value} {f : Nat → Value} (h1 : XMW l H 900 1 6 (.ref 32 :: (as ++ [.ref 121])) hp (xm_is (some (.int k)) hp1)) (s1 : hp1[0]? = hp[0]?) (e1 : hp1[103]? = some (xO 12 fm)) (h2 : XM l M 900 0 0 (.ref 103 :: as) hp1 (xm_is (some (.int r)) hp2)) (e2 : hp2[103]? = some (xO 12 fn)) (h3 : XM l 171 900 0 0 [.ref 103] hp2 (xm_is (some (.int k)) hp2)) (h4 : k = 0 → hp2[121]? = some (xV 1 1 f) ∧ f 0 = .long r.toInt64) (hJ : J hp2) : XA l H M as hp J := by
  refine ⟨k, fun h => h = hp1, h1, fun h e => ?_⟩
  subst e
  refine ⟨s1, ⟨fm, e1⟩, h2.mono ?_⟩
  rintro v h ⟨rfl, rfl⟩
  exact ⟨r, fn, f, rfl, e2, h3, h4, hJ⟩
theorem XB_of {H M : Nat} {as : List Value} {hp hp1 hp2 : xm_H} {k : Int32} {fm fn : List Value} (h1 : XMW l H 900 1 6 (.ref 32 :: as) hp (xm_is (some (.int k)) hp1)) (s1 : hp1[0]? = hp[0]?) (e1 : hp1[103]? = some (xO 12 fm)) (h2 : XM l M 900 0 0 (.ref 103 :: as) hp1 (xm_is none hp2)) (e2 : hp2[103]? = some (xO 12 fn)) (h3 : XM l 171 900 0 0 [.ref 103] hp2 (xm_is (some (.int k)) hp2)) (hJ : J hp2) : XB l H M as hp J := by
  refine ⟨k, fun h => h = hp1, h1, fun h e => ?_⟩
  subst e
  refine ⟨s1, ⟨fm, e1⟩, h2.mono ?_⟩
  rintro v h ⟨rfl, rfl⟩
  exact ⟨fn, rfl, e2, h3, hJ⟩
theorem XD_of {N M : Nat} {hp hp1 hp2 : xm_H} {r : Int32} {fs fm : List Value} (e0 : hp[32]? = some (xO 0 fs)) (h1 : XM l N 900 1 6 [.ref 32] hp (xm_is (some (.int r)) hp1)) (e1 : hp1[103]? = some (xO 12 fm)) (h2 : XM l M 900 0 0 [.ref 103] hp1 (xm_is (some (.int r)) hp2)) (hJ : J hp2) : XD l N M hp J := by
  refine ⟨r, fun h => h = hp1, fs, e0, h1, fun h e => ?_⟩
  subst e
  refine ⟨⟨fm, e1⟩, h2.mono ?_⟩
  rintro v h ⟨rfl, rfl⟩
  exact ⟨rfl, hJ⟩
/-- what J must bear: the scratch of the law may change -/

theorem c5 (h : jc = tc) (hJ : ∀ (ov : Nat → Value) (g2 : xm_H) (th : Int32), J (cw L xs (rw th jl js jh jb jc jr jq jQ jz jf jo jn jt jH jA jm jy je jp jk jx jw ju jF jL jO jS jT jU jV jW ja jG ov g2) tc tf bl bf of oc ol on ml mx mb kc kh kr ka gl gx gb ls lq lk lg lh vf vs vb nv nw nr nq ne io sp ch wt xf xz xt xb xc)) : XCall l 5 a b (cw L xs (rw th jl js jh jb jc jr jq jQ jz jf jo jn jt jH jA jm jy je jp jk jx jw ju jF jL jO jS jT jU jV jW ja jG ov g2) tc tf bl bf of oc ol on ml mx mb kc kh kr ka gl gx gb ls lq lk lg lh vf vs vb nv nw nr nq ne io sp ch wt xf xz xt xb xc) J :=
  XD_of rfl (m43 (d := 900) (by decide)) rfl (by rw [← h]; exact m234) (hJ _ _ _)
theorem xev_ans {nr ne jU jW : Nat → Int32} {a : Int32} (hc : ¬ xev a = 0) (h : jU a.toNatClampNeg = nr a.toNatClampNeg ∧ (jW a.toNatClampNeg = 0 ↔ ne a.toNatClampNeg = 0)) : nr a.toNatClampNeg + (if xen ne a = 0 then 0 else 10) = jU a.toNatClampNeg + (if jW a.toNatClampNeg = 0 then 0 else 10) := by
  rw [h.1]
  congr 1
  by_cases q : ne a.toNatClampNeg = 0
  · rw [if_pos (h.2.mpr q), if_pos (by rw [xen, if_neg hc, if_pos q])]
  · rw [if_neg (fun z => q (h.2.mp z)), if_neg (by rw [xen, if_neg hc, if_neg q]; decide)]
theorem c6 (hfl : l.flags = pinnedFlags ++ [noTraceFlag]) (h1 : ∀ i, ¬ xholds tc i = 0 → xrh jc i ∧ tf (i - i / 501 * 501).toNatClampNeg = jr (i - i / 512 * 512).toNatClampNeg) (h2 : ∀ i, xholds tc i = 0 → ¬ xrh jc i) (hJ : ∀ (ov : Nat → Value) (g2 : xm_H) (th : Int32), J (cw L xs (rw th jl js jh jb jc jr jq jQ jz jf jo jn jt jH jA jm jy je jp jk jx jw ju jF jL jO jS jT jU jV jW ja jG ov g2) tc tf bl bf of oc ol on ml mx mb kc kh kr ka gl gx gb ls lq lk lg lh vf vs vb nv nw nr nq ne io sp ch wt xf xz xt xb xc)) : XCall l 6 a b (cw L xs (rw th jl js jh jb jc jr jq jQ jz jf jo jn jt jH jA jm jy je jp jk jx jw ju jF jL jO jS jT jU jV jW ja jG ov g2) tc tf bl bf of oc ol on ml mx mb kc kh kr ka gl gx gb ls lq lk lg lh vf vs vb nv nw nr nq ne io sp ch wt xf xz xt xb xc) J := by
  by_cases hc : ¬ xholds tc a = 0
  · exact XA_of (k := 0) (hp1 := (cw L xs (rw th jl js jh jb jc jr jq jQ jz jf jo jn jt jH jA jm jy je jp jk jx jw ju jF jL jO jS jT jU jV jW ja jG (updV ov 0 (.long (tf (a - a / 501 * 501).toNatClampNeg).toInt64)) g2) tc tf bl bf of oc ol on ml mx mb kc kh kr ka gl gx gb ls lq lk lg lh vf vs vb nv nw nr nq ne io sp ch wt xf xz xt xb xc)) (h245r (dd := 899) (m153 a (by decide) hc) (by decide) rfl rfl) rfl rfl (m235 (d := 900) a (h1 a hc).1) rfl (m171 (d := 900)) (fun _ => ⟨rfl, congrArg (fun z : Int32 => Value.long z.toInt64) ((h1 a hc).2)⟩) (hJ _ _ _)
  · exact XA_of (k := 1) (hp1 := (cw L xs (rw th jl js jh jb jc jr jq jQ jz jf jo jn jt jH jA jm jy je jp jk jx jw ju jF jL jO jS jT jU jV jW ja jG ov (g2 ++ [none])) tc tf bl bf of oc ol on ml mx mb kc kh kr ka gl gx gb ls lq lk lg lh vf vs vb nv nw nr nq ne io sp ch wt xf xz xt xb xc)) (h245t (dd := 899) (t153 hfl a (Classical.not_not.mp hc) (by decide)) (by decide) rfl) rfl rfl (m235t (d := 900) a (h2 a (Classical.not_not.mp hc))) rfl (m171 (d := 900)) (f := fun _ => .null) (fun q => absurd q (by decide)) (hJ _ _ _)
theorem c8 (hfl : l.flags = pinnedFlags ++ [noTraceFlag]) (h1 : ∀ x, ¬ xrp x = 0 → jS x.toNatClampNeg = nv x.toNatClampNeg) (hJ : ∀ (ov : Nat → Value) (g2 : xm_H) (th : Int32), J (cw L xs (rw th jl js jh jb jc jr jq jQ jz jf jo jn jt jH jA jm jy je jp jk jx jw ju jF jL jO jS jT jU jV jW ja jG ov g2) tc tf bl bf of oc ol on ml mx mb kc kh kr ka gl gx gb ls lq lk lg lh vf vs vb nv nw nr nq ne io sp ch wt xf xz xt xb xc)) : XCall l 8 a b (cw L xs (rw th jl js jh jb jc jr jq jQ jz jf jo jn jt jH jA jm jy je jp jk jx jw ju jF jL jO jS jT jU jV jW ja jG ov g2) tc tf bl bf of oc ol on ml mx mb kc kh kr ka gl gx gb ls lq lk lg lh vf vs vb nv nw nr nq ne io sp ch wt xf xz xt xb xc) J := by
  by_cases hc : ¬ xrp a = 0
  · exact XA_of (k := 0) (hp1 := (cw L xs (rw th jl js jh jb jc jr jq jQ jz jf jo jn jt jH jA jm jy je jp jk jx jw ju jF jL jO jS jT jU jV jW ja jG (updV ov 0 (.long (nv a.toNatClampNeg).toInt64)) g2) tc tf bl bf of oc ol on ml mx mb kc kh kr ka gl gx gb ls lq lk lg lh vf vs vb nv nw nr nq ne io sp ch wt xf xz xt xb xc)) (h247r (dd := 899) (m162 a (by decide) hc) (by decide) rfl rfl) rfl rfl (m237 (d := 900) a hc) rfl (m171 (d := 900)) (fun _ => ⟨rfl, congrArg (fun z : Int32 => Value.long z.toInt64) ((h1 a hc).symm)⟩) (hJ _ _ _)
  · exact XA_of (k := 1) (hp1 := (cw L xs (rw th jl js jh jb jc jr jq jQ jz jf jo jn jt jH jA jm jy je jp jk jx jw ju jF jL jO jS jT jU jV jW ja jG ov (g2 ++ [none])) tc tf bl bf of oc ol on ml mx mb kc kh kr ka gl gx gb ls lq lk lg lh vf vs vb nv nw nr nq ne io sp ch wt xf xz xt xb xc)) (h247t (dd := 899) (t162 hfl a (by decide) (Classical.not_not.mp hc)) (by decide) rfl) rfl rfl (m237t (d := 900) a (Classical.not_not.mp hc)) rfl (m171 (d := 900)) (f := fun _ => .null) (fun q => absurd q (by decide)) (hJ _ _ _)
theorem c9 (hfl : l.flags = pinnedFlags ++ [noTraceFlag]) (h1 : ∀ x, ¬ xev x = 0 → jU x.toNatClampNeg = nr x.toNatClampNeg ∧ (jW x.toNatClampNeg = 0 ↔ ne x.toNatClampNeg = 0)) (hJ : ∀ (ov : Nat → Value) (g2 : xm_H) (th : Int32), J (cw L xs (rw th jl js jh jb jc jr jq jQ jz jf jo jn jt jH jA jm jy je jp jk jx jw ju jF jL jO jS jT jU jV jW ja jG ov g2) tc tf bl bf of oc ol on ml mx mb kc kh kr ka gl gx gb ls lq lk lg lh vf vs vb nv nw nr nq ne io sp ch wt xf xz xt xb xc)) : XCall l 9 a b (cw L xs (rw th jl js jh jb jc jr jq jQ jz jf jo jn jt jH jA jm jy je jp jk jx jw ju jF jL jO jS jT jU jV jW ja jG ov g2) tc tf bl bf of oc ol on ml mx mb kc kh kr ka gl gx gb ls lq lk lg lh vf vs vb nv nw nr nq ne io sp ch wt xf xz xt xb xc) J := by
  by_cases hc : ¬ xev a = 0
  · exact XA_of (k := 0) (hp1 := (cw L xs (rw th jl js jh jb jc jr jq jQ jz jf jo jn jt jH jA jm jy je jp jk jx jw ju jF jL jO jS jT jU jV jW ja jG (updV ov 0 (.long (nr a.toNatClampNeg + (if xen ne a = 0 then 0 else 10)).toInt64)) g2) tc tf bl bf of oc ol on ml mx mb kc kh kr ka gl gx gb ls lq lk lg lh vf vs vb nv nw nr nq ne io sp ch wt xf xz xt xb xc)) (h248r (dd := 899) (m163 a (by decide) hc) (by decide) rfl rfl) rfl rfl (m238 (d := 900) a (by decide) hc) rfl (m171 (d := 900)) (fun _ => ⟨rfl, congrArg (fun z : Int32 => Value.long z.toInt64) (xev_ans hc (h1 a hc))⟩) (hJ _ _ _)
  · exact XA_of (k := 1) (hp1 := (cw L xs (rw th jl js jh jb jc jr jq jQ jz jf jo jn jt jH jA jm jy je jp jk jx jw ju jF jL jO jS jT jU jV jW ja jG ov (g2 ++ [none])) tc tf bl bf of oc ol on ml mx mb kc kh kr ka gl gx gb ls lq lk lg lh vf vs vb nv nw nr nq ne io sp ch wt xf xz xt xb xc)) (h248t (dd := 899) (t163 hfl a (Classical.not_not.mp hc) (by decide)) (by decide) rfl) rfl rfl (m238t (d := 900) a (by decide) (Classical.not_not.mp hc)) rfl (m171 (d := 900)) (f := fun _ => .null) (fun q => absurd q (by decide)) (hJ _ _ _)
theorem c10 (hfl : l.flags = pinnedFlags ++ [noTraceFlag]) (h1 : ∀ x, ¬ xvr x = 0 → jF x.toNatClampNeg = vf x.toNatClampNeg) (hJ : ∀ (ov : Nat → Value) (g2 : xm_H) (th : Int32), J (cw L xs (rw th jl js jh jb jc jr jq jQ jz jf jo jn jt jH jA jm jy je jp jk jx jw ju jF jL jO jS jT jU jV jW ja jG ov g2) tc tf bl bf of oc ol on ml mx mb kc kh kr ka gl gx gb ls lq lk lg lh vf vs vb nv nw nr nq ne io sp ch wt xf xz xt xb xc)) : XCall l 10 a b (cw L xs (rw th jl js jh jb jc jr jq jQ jz jf jo jn jt jH jA jm jy je jp jk jx jw ju jF jL jO jS jT jU jV jW ja jG ov g2) tc tf bl bf of oc ol on ml mx mb kc kh kr ka gl gx gb ls lq lk lg lh vf vs vb nv nw nr nq ne io sp ch wt xf xz xt xb xc) J := by
  by_cases hc : ¬ xvr a = 0
  · exact XA_of (k := 0) (hp1 := (cw L xs (rw th jl js jh jb jc jr jq jQ jz jf jo jn jt jH jA jm jy je jp jk jx jw ju jF jL jO jS jT jU jV jW ja jG (updV ov 0 (.long (vf a.toNatClampNeg).toInt64)) g2) tc tf bl bf of oc ol on ml mx mb kc kh kr ka gl gx gb ls lq lk lg lh vf vs vb nv nw nr nq ne io sp ch wt xf xz xt xb xc)) (h249r (dd := 899) (m165 a (by decide) hc) (by decide) rfl rfl) rfl rfl (m239 (d := 900) a hc) rfl (m171 (d := 900)) (fun _ => ⟨rfl, congrArg (fun z : Int32 => Value.long z.toInt64) ((h1 a hc).symm)⟩) (hJ _ _ _)
  · exact XA_of (k := 1) (hp1 := (cw L xs (rw th jl js jh jb jc jr jq jQ jz jf jo jn jt jH jA jm jy je jp jk jx jw ju jF jL jO jS jT jU jV jW ja jG ov (g2 ++ [none])) tc tf bl bf of oc ol on ml mx mb kc kh kr ka gl gx gb ls lq lk lg lh vf vs vb nv nw nr nq ne io sp ch wt xf xz xt xb xc)) (h249t (dd := 899) (t165 hfl a (Classical.not_not.mp hc) (by decide)) (by decide) rfl) rfl rfl (m239t (d := 900) a (Classical.not_not.mp hc)) rfl (m171 (d := 900)) (f := fun _ => .null) (fun q => absurd q (by decide)) (hJ _ _ _)
theorem xvr_nI {x : Int32} (h : ¬ xvr x = 0) : ∃ v : Nat, v < 6 ∧ x = nI v := by
  unfold xvr at h
  split at h
  · exact absurd rfl h
  next q1 =>
    split at h
    · exact absurd rfl h
    next q2 =>
      obtain ⟨j, hj, rfl⟩ := nI_of q1
      exact ⟨j, (Nat.not_le.mp fun z => q2 (nI_le (a := 6) z hj)), rfl⟩
theorem xhb_yes {vs : Nat → Int32} {x y : Int32} {n : Nat → Nat} (hn : ∀ v, v < 6 → vs v = nI (n v) ∧ n v ≤ 8) (h : ¬ xhb vs x y = 0) : ∃ v k : Nat, v < 6 ∧ k < n v ∧ x = nI v ∧ y = nI k := by
  unfold xhb at h
  split at h
  · exact absurd rfl h
  next q1 =>
    split at h
    · exact absurd rfl h
    next q2 =>
      split at h
      · exact absurd rfl h
      next q3 =>
        obtain ⟨v, hv, rfl⟩ := xvr_nI q1
        obtain ⟨k, hk, rfl⟩ := nI_of q2
        rw [nI_clamp (by omega), (hn v hv).1] at q3
        exact ⟨v, k, hv, Nat.not_le.mp fun z => q3 (nI_le z hk), rfl, rfl⟩
theorem xhb_no {vs : Nat → Int32} {x y : Int32} (h : xhb vs x y = 0) : x < 0 ∨ 5 < x ∨ y < 0 ∨ ((∃ v : Nat, v < 6 ∧ x = nI v) ∧ vs x.toNatClampNeg ≤ y) := by
  by_cases h1 : x < 0
  · exact Or.inl h1
  by_cases h2 : (5 : Int32) < x
  · exact Or.inr (Or.inl h2)
  by_cases h3 : y < 0
  · exact Or.inr (Or.inr (Or.inl h3))
  have hx : ¬ xvr x = 0 := by
    unfold xvr
    rw [if_neg h1]
    split
    next q =>
      exfalso
      apply h2
      rw [Int32.lt_iff_toInt_lt]
      rw [Int32.le_iff_toInt_le] at q
      have e5 : (5 : Int32).toInt = 5 := rfl
      have e6 : (6 : Int32).toInt = 6 := rfl
      omega
    next => decide
  refine Or.inr (Or.inr (Or.inr ⟨xvr_nI hx, ?_⟩))
  unfold xhb at h
  rw [if_neg hx, if_neg h3] at h
  split at h
  next q => exact q
  next => exact absurd h (by decide)
theorem c11 (hfl : l.flags = pinnedFlags ++ [noTraceFlag]) {n : Nat → Nat} (hn : ∀ v, v < 6 → vs v = nI (n v) ∧ n v ≤ 8) (hL : ∀ v, v < 6 → jL v = vs v) (hb : ∀ v k, v < 6 → k < n v → vb v k = if v = 0 then jk else if v = 1 then jw else jO (8 * v + k)) (hJ : ∀ (ov : Nat → Value) (g2 : xm_H) (th : Int32), J (cw L xs (rw th jl js jh jb jc jr jq jQ jz jf jo jn jt jH jA jm jy je jp jk jx jw ju jF jL jO jS jT jU jV jW ja jG ov g2) tc tf bl bf of oc ol on ml mx mb kc kh kr ka gl gx gb ls lq lk lg lh vf vs vb nv nw nr nq ne io sp ch wt xf xz xt xb xc)) : XCall l 11 a b (cw L xs (rw th jl js jh jb jc jr jq jQ jz jf jo jn jt jH jA jm jy je jp jk jx jw ju jF jL jO jS jT jU jV jW ja jG ov g2) tc tf bl bf of oc ol on ml mx mb kc kh kr ka gl gx gb ls lq lk lg lh vf vs vb nv nw nr nq ne io sp ch wt xf xz xt xb xc) J := by
  by_cases hc : ¬ xhb vs a b = 0
  · have hc' := hc
    obtain ⟨v, k, hv, hk, rfl, rfl⟩ := xhb_yes hn hc
    have hn8 := (hn v hv).2
    refine XA_of (k := 0) (hp1 := (cw L xs (rw th jl js jh jb jc jr jq jQ jz jf jo jn jt jH jA jm jy je jp jk jx jw ju jF jL jO jS jT jU jV jW ja jG (updV ov 0 (.long (vb v k).toInt64)) g2) tc tf bl bf of oc ol on ml mx mb kc kh kr ka gl gx gb ls lq lk lg lh vf vs vb nv nw nr nq ne io sp ch wt xf xz xt xb xc)) (h250r (dd := 899) (hp1 := (cw L xs (rw th jl js jh jb jc jr jq jQ jz jf jo jn jt jH jA jm jy je jp jk jx jw ju jF jL jO jS jT jU jV jW ja jG ov g2) tc tf bl bf of oc ol on ml mx mb kc kh kr ka gl gx gb ls lq lk lg lh vf vs vb nv nw nr nq ne io sp ch wt xf xz xt xb xc)) (r := vb v k) ?_ (by decide) rfl rfl) rfl rfl (m240 (d := 900) v k (n v) hv hk hn8 ((hL v hv).trans (hn v hv).1)) rfl (m171 (d := 900)) (fun _ => ⟨rfl, congrArg (fun z : Int32 => Value.long z.toInt64) (hb v k hv hk)⟩) (hJ _ _ _)
    have h9 := m167 (l := l) (d := 899) (L := L) (xs := xs) (g := rw th jl js jh jb jc jr jq jQ jz jf jo jn jt jH jA jm jy je jp jk jx jw ju jF jL jO jS jT jU jV jW ja jG ov g2) (tc := tc) (tf := tf) (bl := bl) (bf := bf) (of := of) (oc := oc) (ol := ol) (on := on) (ml := ml) (mx := mx) (mb := mb) (kc := kc) (kh := kh) (kr := kr) (ka := ka) (gl := gl) (gx := gx) (gb := gb) (ls := ls) (lq := lq) (lk := lk) (lg := lg) (lh := lh) (vf := vf) (vs := vs) (vb := vb) (nv := nv) (nw := nw) (nr := nr) (nq := nq) (ne := ne) (io := io) (sp := sp) (ch := ch) (wt := wt) (xf := xf) (xz := xz) (xt := xt) (xb := xb) (xc := xc) (nI v) (nI k) (by decide) (by rw [nI_clamp (by omega), (hn v hv).1]; exact nI_le (b := 8) hn8 (by decide)) hc
    rwa [nI_clamp (by omega), nI_clamp (by omega)] at h9
  · exact XA_of (k := 1) (hp1 := (cw L xs (rw th jl js jh jb jc jr jq jQ jz jf jo jn jt jH jA jm jy je jp jk jx jw ju jF jL jO jS jT jU jV jW ja jG ov (g2 ++ [none])) tc tf bl bf of oc ol on ml mx mb kc kh kr ka gl gx gb ls lq lk lg lh vf vs vb nv nw nr nq ne io sp ch wt xf xz xt xb xc)) (h250t (dd := 899) (t167 hfl a b (Classical.not_not.mp hc) (by decide)) (by decide) rfl) rfl rfl (m240t (d := 900) a b (by
      rcases xhb_no (Classical.not_not.mp hc) with z | z | z | ⟨⟨v, hv, rfl⟩, z⟩
      · exact Or.inl z
      · exact Or.inr (Or.inl z)
      · exact Or.inr (Or.inr (Or.inl z))
      · rw [nI_clamp (by omega), ← hL v hv] at z
        exact Or.inr (Or.inr (Or.inr ⟨⟨v, hv, rfl⟩, by rw [nI_clamp (by omega)]; exact z⟩)))) rfl (m171 (d := 900)) (f := fun _ => .null) (fun q => absurd q (by decide)) (hJ _ _ _)
theorem c7 (hfl : l.flags = pinnedFlags ++ [noTraceFlag]) (e0 : jl = ls) (e1 : xsp io sp = (if jp = 0 then (if je = 0 then 0 else 1) else 2)) (e2 : jk = vb 0 0) (e3 : jw = vb 1 0) (e4 : ju = wt) (e5 : jq = oc) (e6 : jt = kc) (e7 : jo = ol) (hJ : ∀ (ov : Nat → Value) (g2 : xm_H) (th : Int32), J (cw L xs (rw th jl js jh jb jc jr jq jQ jz jf jo jn jt jH jA jm jy je jp jk jx jw ju jF jL jO jS jT jU jV jW ja jG ov g2) tc tf bl bf of oc ol on ml mx mb kc kh kr ka gl gx gb ls lq lk lg lh vf vs vb nv nw nr nq ne io sp ch wt xf xz xt xb xc)) : XCall l 7 a b (cw L xs (rw th jl js jh jb jc jr jq jQ jz jf jo jn jt jH jA jm jy je jp jk jx jw ju jF jL jO jS jT jU jV jW ja jG ov g2) tc tf bl bf of oc ol on ml mx mb kc kh kr ka gl gx gb ls lq lk lg lh vf vs vb nv nw nr nq ne io sp ch wt xf xz xt xb xc) J := by
  by_cases hc : a.toInt < 0 ∨ 7 < a.toInt
  · exact XA_of (k := 1) (hp1 := (cw L xs (rw th jl js jh jb jc jr jq jQ jz jf jo jn jt jH jA jm jy je jp jk jx jw ju jF jL jO jS jT jU jV jW ja jG ov (g2 ++ [none])) tc tf bl bf of oc ol on ml mx mb kc kh kr ka gl gx gb ls lq lk lg lh vf vs vb nv nw nr nq ne io sp ch wt xf xz xt xb xc)) (h246t (dd := 899) (t156 hfl a hc (by decide)) (by decide) rfl) rfl rfl (m236t (d := 900) a hc) rfl (m171 (d := 900)) (f := fun _ => .null) (fun q => absurd q (by decide)) (hJ _ _ _)
  · obtain ⟨n, hn, rfl⟩ : ∃ n : Nat, n < 8 ∧ a = nI n := by
      refine ⟨a.toInt.toNat, by omega, Int32.toInt_inj.mp ?_⟩
      rw [nI_toInt (by omega)]
      omega
    match n, hn with
    | 0, _ => exact XA_of (k := 0) (hp1 := (cw L xs (rw th jl js jh jb jc jr jq jQ jz jf jo jn jt jH jA jm jy je jp jk jx jw ju jF jL jO jS jT jU jV jW ja jG (updV ov 0 (.long (ls).toInt64)) g2) tc tf bl bf of oc ol on ml mx mb kc kh kr ka gl gx gb ls lq lk lg lh vf vs vb nv nw nr nq ne io sp ch wt xf xz xt xb xc)) (h246r (dd := 899) (m156_0 (by decide)) (by decide) rfl rfl) rfl rfl (m236_0 (d := 900)) rfl (m171 (d := 900)) (fun _ => ⟨rfl, congrArg (fun z : Int32 => Value.long z.toInt64) e0.symm⟩) (hJ _ _ _)
    | 1, _ => exact XA_of (k := 0) (hp1 := (cw L xs (rw th jl js jh jb jc jr jq jQ jz jf jo jn jt jH jA jm jy je jp jk jx jw ju jF jL jO jS jT jU jV jW ja jG (updV ov 0 (.long (xsp io sp).toInt64)) g2) tc tf bl bf of oc ol on ml mx mb kc kh kr ka gl gx gb ls lq lk lg lh vf vs vb nv nw nr nq ne io sp ch wt xf xz xt xb xc)) (h246r (dd := 899) (m156_1 (by decide)) (by decide) rfl rfl) rfl rfl (m236_1 (d := 900)) rfl (m171 (d := 900)) (fun _ => ⟨rfl, congrArg (fun z : Int32 => Value.long z.toInt64) e1⟩) (hJ _ _ _)
    | 2, _ => exact XA_of (k := 0) (hp1 := (cw L xs (rw th jl js jh jb jc jr jq jQ jz jf jo jn jt jH jA jm jy je jp jk jx jw ju jF jL jO jS jT jU jV jW ja jG (updV ov 0 (.long (vb 0 0).toInt64)) g2) tc tf bl bf of oc ol on ml mx mb kc kh kr ka gl gx gb ls lq lk lg lh vf vs vb nv nw nr nq ne io sp ch wt xf xz xt xb xc)) (h246r (dd := 899) (m156_2 (by decide)) (by decide) rfl rfl) rfl rfl (m236_2 (d := 900)) rfl (m171 (d := 900)) (fun _ => ⟨rfl, congrArg (fun z : Int32 => Value.long z.toInt64) e2.symm⟩) (hJ _ _ _)
    | 3, _ => exact XA_of (k := 0) (hp1 := (cw L xs (rw th jl js jh jb jc jr jq jQ jz jf jo jn jt jH jA jm jy je jp jk jx jw ju jF jL jO jS jT jU jV jW ja jG (updV ov 0 (.long (vb 1 0).toInt64)) g2) tc tf bl bf of oc ol on ml mx mb kc kh kr ka gl gx gb ls lq lk lg lh vf vs vb nv nw nr nq ne io sp ch wt xf xz xt xb xc)) (h246r (dd := 899) (m156_3 (by decide)) (by decide) rfl rfl) rfl rfl (m236_3 (d := 900)) rfl (m171 (d := 900)) (fun _ => ⟨rfl, congrArg (fun z : Int32 => Value.long z.toInt64) e3.symm⟩) (hJ _ _ _)
    | 4, _ => exact XA_of (k := 0) (hp1 := (cw L xs (rw th jl js jh jb jc jr jq jQ jz jf jo jn jt jH jA jm jy je jp jk jx jw ju jF jL jO jS jT jU jV jW ja jG (updV ov 0 (.long (wt).toInt64)) g2) tc tf bl bf of oc ol on ml mx mb kc kh kr ka gl gx gb ls lq lk lg lh vf vs vb nv nw nr nq ne io sp ch wt xf xz xt xb xc)) (h246r (dd := 899) (m156_4 (by decide)) (by decide) rfl rfl) rfl rfl (m236_4 (d := 900)) rfl (m171 (d := 900)) (fun _ => ⟨rfl, congrArg (fun z : Int32 => Value.long z.toInt64) e4.symm⟩) (hJ _ _ _)
    | 5, _ => exact XA_of (k := 0) (hp1 := (cw L xs (rw th jl js jh jb jc jr jq jQ jz jf jo jn jt jH jA jm jy je jp jk jx jw ju jF jL jO jS jT jU jV jW ja jG (updV ov 0 (.long (oc).toInt64)) g2) tc tf bl bf of oc ol on ml mx mb kc kh kr ka gl gx gb ls lq lk lg lh vf vs vb nv nw nr nq ne io sp ch wt xf xz xt xb xc)) (h246r (dd := 899) (m156_5 (by decide)) (by decide) rfl rfl) rfl rfl (m236_5 (d := 900)) rfl (m171 (d := 900)) (fun _ => ⟨rfl, congrArg (fun z : Int32 => Value.long z.toInt64) e5.symm⟩) (hJ _ _ _)
    | 6, _ => exact XA_of (k := 0) (hp1 := (cw L xs (rw th jl js jh jb jc jr jq jQ jz jf jo jn jt jH jA jm jy je jp jk jx jw ju jF jL jO jS jT jU jV jW ja jG (updV ov 0 (.long (kc).toInt64)) g2) tc tf bl bf of oc ol on ml mx mb kc kh kr ka gl gx gb ls lq lk lg lh vf vs vb nv nw nr nq ne io sp ch wt xf xz xt xb xc)) (h246r (dd := 899) (m156_6 (by decide)) (by decide) rfl rfl) rfl rfl (m236_6 (d := 900)) rfl (m171 (d := 900)) (fun _ => ⟨rfl, congrArg (fun z : Int32 => Value.long z.toInt64) e6.symm⟩) (hJ _ _ _)
    | 7, _ => exact XA_of (k := 0) (hp1 := (cw L xs (rw th jl js jh jb jc jr jq jQ jz jf jo jn jt jH jA jm jy je jp jk jx jw ju jF jL jO jS jT jU jV jW ja jG (updV ov 0 (.long (ol).toInt64)) g2) tc tf bl bf of oc ol on ml mx mb kc kh kr ka gl gx gb ls lq lk lg lh vf vs vb nv nw nr nq ne io sp ch wt xf xz xt xb xc)) (h246r (dd := 899) (m156_7 (by decide)) (by decide) rfl rfl) rfl rfl (m236_7 (d := 900)) rfl (m171 (d := 900)) (fun _ => ⟨rfl, congrArg (fun z : Int32 => Value.long z.toInt64) e7.symm⟩) (hJ _ _ _)
    | n + 8, h => exact absurd h (by omega)
theorem c12 {j : Nat} (h1 : 12 ≤ j) (hJ : J (cw L xs (rw th jl js jh jb jc jr jq jQ jz jf jo jn jt jH jA jm jy je jp jk jx jw ju jF jL jO jS jT jU jV jW ja jG ov g2) tc tf bl bf of oc ol on ml mx mb kc kh kr ka gl gx gb ls lq lk lg lh vf vs vb nv nw nr nq ne io sp ch wt xf xz xt xb xc)) : XCall l j a b (cw L xs (rw th jl js jh jb jc jr jq jQ jz jf jo jn jt jH jA jm jy je jp jk jx jw ju jF jL jO jS jT jU jV jW ja jG ov g2) tc tf bl bf of oc ol on ml mx mb kc kh kr ka gl gx gb ls lq lk lg lh vf vs vb nv nw nr nq ne io sp ch wt xf xz xt xb xc) J := by
  obtain ⟨i, rfl⟩ : ∃ i, j = i + 12 := ⟨j - 12, by omega⟩
  exact hJ
end CA
