section RG
variable {l : Launch} {d L : Nat} {xs : Nat → Int32} {tc : Int32} {tf : (Nat → Int32)} {bl : Int32} {bf : (Nat → Int32)} {of : Int32} {oc : Int32} {ol : Int32} {on : Int32} {ml : (Nat → Int32)} {mx : (Nat → Int32)} {mb : (Nat → Nat → Int32)} {kc : Int32} {kh : (Nat → Nat)} {kr : (Nat → Nat → Int32)} {ka : (Nat → Int32)} {gl : Int32} {gx : Int32} {gb : (Nat → Int32)} {ls : Int32} {lq : Int32} {lk : Int32} {lg : Int32} {lh : Int32} {vf : (Nat → Int32)} {vs : (Nat → Int32)} {vb : (Nat → Nat → Int32)} {nv : (Nat → Int32)} {nw : (Nat → Nat → Int32)} {nr : (Nat → Int32)} {nq : (Nat → Nat → Int32)} {ne : (Nat → Int32)} {io : Int32} {sp : Int32} {ch : Int32} {wt : Int32} {xf : (Nat → Int32)} {xz : (Nat → Int32)} {xt : (Nat → Int32)} {xb : (Nat → Int32)} {xc : Int32} {th : Int32} {jl : Int32} {js : Int32} {jh : Int32} {jb : (Nat → Int32)} {jc : Int32} {jr : (Nat → Int32)} {jq : Int32} {jQ : (Nat → Int32)} {jz : (Nat → Int32)} {jf : (Nat → Int32)} {jo : Int32} {jn : Int32} {jt : Int32} {jH : (Nat → Int32)} {jA : (Nat → Int32)} {jm : Int32} {jy : (Nat → Int32)} {je : Int32} {jp : Int32} {jk : Int32} {jx : Int32} {jw : Int32} {ju : Int32} {jF : (Nat → Int32)} {jL : (Nat → Int32)} {jO : (Nat → Int32)} {jS : (Nat → Int32)} {jT : (Nat → Int32)} {jU : (Nat → Int32)} {jV : (Nat → Int32)} {jW : (Nat → Int32)} {ja : Int32} {jG : (Nat → Int32)} {ov : (Nat → Value)} {g2 : xm_H}
theorem xle5 {x : Int32} (h : ¬ 6 ≤ x) : x ≤ 5 := by
  rw [Int32.le_iff_toInt_le] at h ⊢
  have e5 : (5 : Int32).toInt = 5 := rfl
  have e6 : (6 : Int32).toInt = 6 := rfl
  omega
theorem xle6 {x : Int32} (h : 6 ≤ x) : ¬ x ≤ 5 := by
  rw [Int32.le_iff_toInt_le] at h ⊢
  have e5 : (5 : Int32).toInt = 5 := rfl
  have e6 : (6 : Int32).toInt = 6 := rfl
  omega
theorem xvr_1 {x : Int32} (h : ¬ xvr x = 0) : ¬ x < 0 ∧ x ≤ 5 := by
  unfold xvr at h
  split at h
  · exact absurd rfl h
  next q1 =>
    split at h
    · exact absurd rfl h
    next q2 => exact ⟨q1, xle5 q2⟩
theorem xvr_0 {x : Int32} (h : xvr x = 0) : x < 0 ∨ ¬ x ≤ 5 := by
  by_cases q1 : x < 0
  · exact Or.inl q1
  · by_cases q2 : 6 ≤ x
    · exact Or.inr (xle6 q2)
    · exact absurd (h.symm.trans ((if_neg q1).trans (if_neg q2))) (by decide)
theorem xev_1 {x : Int32} (h : ¬ xev x = 0) : ¬ x < 1 ∧ x ≤ 5 := by
  unfold xev at h
  split at h
  · exact absurd rfl h
  next q1 =>
    split at h
    · exact absurd rfl h
    next q2 => exact ⟨q1, Int32.not_lt.mp q2⟩
theorem xev_0 {x : Int32} (h : xev x = 0) : x < 1 ∨ ¬ x ≤ 5 := by
  by_cases q1 : x < 1
  · exact Or.inl q1
  · by_cases q2 : 5 < x
    · exact Or.inr (Int32.not_le.mpr q2)
    · exact absurd (h.symm.trans ((if_neg q1).trans (if_neg q2))) (by decide)
/-- format: an answer -/
theorem m239 (x : Int32) (h : ¬ xvr x = 0) : XM l 239 d 0 0 [.ref 103, .int x] (cw L xs (rw th jl js jh jb jc jr jq jQ jz jf jo jn jt jH jA jm jy je jp jk jx jw ju jF jL jO jS jT jU jV jW ja jG ov g2) tc tf bl bf of oc ol on ml mx mb kc kh kr ka gl gx gb ls lq lk lg lh vf vs vb nv nw nr nq ne io sp ch wt xf xz xt xb xc) (xm_is (some (.int (jF x.toNatClampNeg))) (cw L xs (rw (0) jl js jh jb jc jr jq jQ jz jf jo jn jt jH jA jm jy je jp jk jx jw ju jF jL jO jS jT jU jV jW ja jG ov g2) tc tf bl bf of oc ol on ml mx mb kc kh kr ka gl gx gb ls lq lk lg lh vf vs vb nv nw nr nq ne io sp ch wt xf xz xt xb xc)) := by
  obtain ⟨q1, q2⟩ := xvr_1 h
  refine XE (pl := [some (.ref 103), some (.int x)]) xg239 rfl ?_
  iterate 2 refine x_step rfl ?_
  refine x_if_lt rfl (fun q => absurd q q1) (fun _ => ?_)
  iterate 2 refine x_step rfl ?_
  refine x_icmp_le rfl (fun _ => ?_) (fun q => absurd q2 q)
  iterate 4 refine x_step rfl ?_
  refine x_if_ne rfl (fun q => absurd rfl q) (fun _ => ?_)
  iterate 3 refine x_step rfl ?_
  refine x_iald rfl rfl rfl (xvr_in h) ?_
  refine x_step rfl ?_
  exact x_iret rfl rfl rfl ⟨rfl, rfl⟩
/-- format: refused -/
theorem m239t (x : Int32) (h : xvr x = 0) : XM l 239 d 0 0 [.ref 103, .int x] (cw L xs (rw th jl js jh jb jc jr jq jQ jz jf jo jn jt jH jA jm jy je jp jk jx jw ju jF jL jO jS jT jU jV jW ja jG ov g2) tc tf bl bf of oc ol on ml mx mb kc kh kr ka gl gx gb ls lq lk lg lh vf vs vb nv nw nr nq ne io sp ch wt xf xz xt xb xc) (xm_is (some (.int 0)) (cw L xs (rw (1) jl js jh jb jc jr jq jQ jz jf jo jn jt jH jA jm jy je jp jk jx jw ju jF jL jO jS jT jU jV jW ja jG ov g2) tc tf bl bf of oc ol on ml mx mb kc kh kr ka gl gx gb ls lq lk lg lh vf vs vb nv nw nr nq ne io sp ch wt xf xz xt xb xc)) := by
  refine XE (pl := [some (.ref 103), some (.int x)]) xg239 rfl ?_
  iterate 2 refine x_step rfl ?_
  refine x_if_lt rfl (fun q1 => ?_) (fun q1 => ?_)
  · iterate 5 refine x_step rfl ?_
    refine x_if_ne rfl (fun q => ?_) (fun q => absurd q (by decide))
    refine x_step rfl ?_
    exact x_iret rfl rfl rfl ⟨rfl, rfl⟩
  · iterate 2 refine x_step rfl ?_
    refine x_icmp_le rfl (fun q2 => absurd q2 ((xvr_0 h).resolve_left q1)) (fun q2 => ?_)
    iterate 5 refine x_step rfl ?_
    refine x_if_ne rfl (fun q => ?_) (fun q => absurd q (by decide))
    refine x_step rfl ?_
    exact x_iret rfl rfl rfl ⟨rfl, rfl⟩
/-- noEvent -/
theorem m219 (x : Int32) : XM l 219 d 0 0 [.ref 103, .int x] (cw L xs (rw th jl js jh jb jc jr jq jQ jz jf jo jn jt jH jA jm jy je jp jk jx jw ju jF jL jO jS jT jU jV jW ja jG ov g2) tc tf bl bf of oc ol on ml mx mb kc kh kr ka gl gx gb ls lq lk lg lh vf vs vb nv nw nr nq ne io sp ch wt xf xz xt xb xc) (xm_is (some (.int (if xev x = 0 then 1 else 0))) (cw L xs (rw th jl js jh jb jc jr jq jQ jz jf jo jn jt jH jA jm jy je jp jk jx jw ju jF jL jO jS jT jU jV jW ja jG ov g2) tc tf bl bf of oc ol on ml mx mb kc kh kr ka gl gx gb ls lq lk lg lh vf vs vb nv nw nr nq ne io sp ch wt xf xz xt xb xc)) := by
  refine XE (pl := [some (.ref 103), some (.int x)]) xg219 rfl ?_
  iterate 2 refine x_step rfl ?_
  refine x_icmp_lt rfl (fun q1 => ?_) (fun q1 => ?_)
  · iterate 2 refine x_step rfl ?_
    exact x_iret rfl rfl rfl ⟨by rw [if_pos (show xev x = 0 from if_pos q1)], rfl⟩
  · iterate 2 refine x_step rfl ?_
    refine x_icmp_le rfl (fun q2 => ?_) (fun q2 => ?_)
    · refine x_step rfl ?_
      exact x_iret rfl rfl rfl ⟨by rw [if_neg (show ¬ xev x = 0 from fun h => absurd (h.symm.trans ((if_neg q1).trans (if_neg (Int32.not_lt.mpr q2)))) (by decide))], rfl⟩
    · iterate 2 refine x_step rfl ?_
      exact x_iret rfl rfl rfl ⟨by rw [if_pos (show xev x = 0 from (if_neg q1).trans (if_pos (Int32.not_le.mp q2)))], rfl⟩
/-- event: an answer -/
theorem m238 (x : Int32) (hd : 1 ≤ d) (h : ¬ xev x = 0) : XM l 238 d 0 0 [.ref 103, .int x] (cw L xs (rw th jl js jh jb jc jr jq jQ jz jf jo jn jt jH jA jm jy je jp jk jx jw ju jF jL jO jS jT jU jV jW ja jG ov g2) tc tf bl bf of oc ol on ml mx mb kc kh kr ka gl gx gb ls lq lk lg lh vf vs vb nv nw nr nq ne io sp ch wt xf xz xt xb xc) (xm_is (some (.int (jU x.toNatClampNeg + (if jW x.toNatClampNeg = 0 then 0 else 10)))) (cw L xs (rw (0) jl js jh jb jc jr jq jQ jz jf jo jn jt jH jA jm jy je jp jk jx jw ju jF jL jO jS jT jU jV jW ja jG ov g2) tc tf bl bf of oc ol on ml mx mb kc kh kr ka gl gx gb ls lq lk lg lh vf vs vb nv nw nr nq ne io sp ch wt xf xz xt xb xc)) := by
  refine XE (pl := [some (.ref 103), some (.int x)]) xg238 rfl ?_
  iterate 3 refine x_step rfl ?_
  refine x_callvE rfl (m219 (d := 0) x) rfl rfl rfl ?_
  rw [if_neg h]
  refine x_if_eq rfl (fun _ => ?_) (fun q => absurd rfl q)
  iterate 4 refine x_step rfl ?_
  refine x_if_ne rfl (fun q => absurd rfl q) (fun _ => ?_)
  iterate 3 refine x_step rfl ?_
  refine x_iald rfl rfl rfl (xev_in h) ?_
  iterate 3 refine x_step rfl ?_
  refine x_zald rfl rfl rfl (xev_in h) ?_
  refine x_if_eq rfl (fun q2 => ?_) (fun q2 => ?_)
  · iterate 3 refine x_step rfl ?_
    exact x_iret rfl rfl rfl ⟨by rw [if_pos q2], rfl⟩
  · iterate 4 refine x_step rfl ?_
    exact x_iret rfl rfl rfl ⟨by rw [if_neg q2], rfl⟩
/-- event: refused -/
theorem m238t (x : Int32) (hd : 1 ≤ d) (h : xev x = 0) : XM l 238 d 0 0 [.ref 103, .int x] (cw L xs (rw th jl js jh jb jc jr jq jQ jz jf jo jn jt jH jA jm jy je jp jk jx jw ju jF jL jO jS jT jU jV jW ja jG ov g2) tc tf bl bf of oc ol on ml mx mb kc kh kr ka gl gx gb ls lq lk lg lh vf vs vb nv nw nr nq ne io sp ch wt xf xz xt xb xc) (xm_is (some (.int 0)) (cw L xs (rw (1) jl js jh jb jc jr jq jQ jz jf jo jn jt jH jA jm jy je jp jk jx jw ju jF jL jO jS jT jU jV jW ja jG ov g2) tc tf bl bf of oc ol on ml mx mb kc kh kr ka gl gx gb ls lq lk lg lh vf vs vb nv nw nr nq ne io sp ch wt xf xz xt xb xc)) := by
  refine XE (pl := [some (.ref 103), some (.int x)]) xg238 rfl ?_
  iterate 3 refine x_step rfl ?_
  refine x_callvE rfl (m219 (d := 0) x) rfl rfl rfl ?_
  rw [if_pos h]
  refine x_if_eq rfl (fun q => absurd q (by decide)) (fun _ => ?_)
  iterate 5 refine x_step rfl ?_
  refine x_if_ne rfl (fun q => ?_) (fun q => absurd q (by decide))
  refine x_step rfl ?_
  exact x_iret rfl rfl rfl ⟨rfl, rfl⟩
/-- settle: nothing is due -/
theorem m228a (h : ¬ (jl = 0 ∧ ¬ jq ≤ 0)) : XM l 228 d 0 0 [.ref 103] (cw L xs (rw th jl js jh jb jc jr jq jQ jz jf jo jn jt jH jA jm jy je jp jk jx jw ju jF jL jO jS jT jU jV jW ja jG ov g2) tc tf bl bf of oc ol on ml mx mb kc kh kr ka gl gx gb ls lq lk lg lh vf vs vb nv nw nr nq ne io sp ch wt xf xz xt xb xc) (xm_is none (cw L xs (rw th jl js jh jb jc jr jq jQ jz jf jo jn jt jH jA jm jy je jp jk jx jw ju jF jL jO jS jT jU jV jW ja jG ov g2) tc tf bl bf of oc ol on ml mx mb kc kh kr ka gl gx gb ls lq lk lg lh vf vs vb nv nw nr nq ne io sp ch wt xf xz xt xb xc)) := by
  refine XE (pl := [some (.ref 103)]) xg228 rfl ?_
  iterate 2 refine x_step rfl ?_
  refine x_if_ne rfl (fun q1 => ?_) (fun q1 => ?_)
  · exact x_ret rfl rfl ⟨rfl, rfl⟩
  · iterate 2 refine x_step rfl ?_
    refine x_if_le rfl (fun q2 => ?_) (fun q2 => absurd ⟨q1, q2⟩ h)
    exact x_ret rfl rfl ⟨rfl, rfl⟩
/-- does event x go out -/
def xrg (jW jU : Nat → Int32) (jp jk x : Int32) : Prop := ¬ jW x.toNatClampNeg = 0 ∧ ¬ jU x.toNatClampNeg = 0 ∧ ¬ jp = 0 ∧ 2 ≤ jk
/-- happen: nothing goes out -/
theorem m212n (x : Int32) (hx : vp_in x 6) (h : ¬ xrg jW jU jp jk x) : XM l 212 d 0 0 [.ref 103, .int x] (cw L xs (rw th jl js jh jb jc jr jq jQ jz jf jo jn jt jH jA jm jy je jp jk jx jw ju jF jL jO jS jT jU jV jW ja jG ov g2) tc tf bl bf of oc ol on ml mx mb kc kh kr ka gl gx gb ls lq lk lg lh vf vs vb nv nw nr nq ne io sp ch wt xf xz xt xb xc) (xm_is (some (.int 0)) (cw L xs (rw th jl js jh jb jc jr jq jQ jz jf jo jn jt jH jA jm jy je jp jk jx jw ju jF jL jO jS jT jU jV jW ja jG ov g2) tc tf bl bf of oc ol on ml mx mb kc kh kr ka gl gx gb ls lq lk lg lh vf vs vb nv nw nr nq ne io sp ch wt xf xz xt xb xc)) := by
  refine XE (pl := [some (.ref 103), some (.int x), none, none, none]) xg212 rfl ?_
  iterate 3 refine x_step rfl ?_
  refine x_zald rfl rfl rfl hx ?_
  refine x_if_eq rfl (fun q1 => ?_) (fun q1 => ?_)
  · refine x_step rfl ?_
    exact x_iret rfl rfl rfl ⟨rfl, rfl⟩
  · iterate 3 refine x_step rfl ?_
    refine x_iald rfl rfl rfl hx ?_
    refine x_if_eq rfl (fun q2 => ?_) (fun q2 => ?_)
    · refine x_step rfl ?_
      exact x_iret rfl rfl rfl ⟨rfl, rfl⟩
    · iterate 2 refine x_step rfl ?_
      refine x_if_eq rfl (fun q3 => ?_) (fun q3 => ?_)
      · refine x_step rfl ?_
        exact x_iret rfl rfl rfl ⟨rfl, rfl⟩
      · iterate 3 refine x_step rfl ?_
        refine x_icmp_ge rfl (fun q4 => absurd ⟨q1, q2, q3, q4⟩ h) (fun q4 => ?_)
        refine x_step rfl ?_
        exact x_iret rfl rfl rfl ⟨rfl, rfl⟩
/-- ring: nothing goes out, nothing is due -/
theorem m233n (hd : 1 ≤ d) (h : ¬ xrg jW jU jp jk 5) (h2 : ¬ (jl = 0 ∧ ¬ jq ≤ 0)) : XM l 233 d 0 0 [.ref 103] (cw L xs (rw th jl js jh jb jc jr jq jQ jz jf jo jn jt jH jA jm jy je jp jk jx jw ju jF jL jO jS jT jU jV jW ja jG ov g2) tc tf bl bf of oc ol on ml mx mb kc kh kr ka gl gx gb ls lq lk lg lh vf vs vb nv nw nr nq ne io sp ch wt xf xz xt xb xc) (xm_is (some (.int 0)) (cw L xs (rw (0) jl js jh jb jc jr jq jQ jz jf jo jn jt jH jA jm jy je jp jk jx jw ju jF jL jO jS jT jU jV jW ja jG ov g2) tc tf bl bf of oc ol on ml mx mb kc kh kr ka gl gx gb ls lq lk lg lh vf vs vb nv nw nr nq ne io sp ch wt xf xz xt xb xc)) := by
  refine XE (pl := [some (.ref 103), none]) xg233 rfl ?_
  iterate 5 refine x_step rfl ?_
  refine xm_hs (hp' := (cw L xs (rw (0) jl js jh jb jc jr jq jQ jz jf jo jn jt jH jA jm jy je jp jk jx jw ju jF jL jO jS jT jU jV jW ja jG ov g2) tc tf bl bf of oc ol on ml mx mb kc kh kr ka gl gx gb ls lq lk lg lh vf vs vb nv nw nr nq ne io sp ch wt xf xz xt xb xc)) rfl ?_
  refine x_callvE rfl (m212n (d := 0) 5 (by unfold vp_in; decide) h) rfl rfl rfl ?_
  iterate 2 refine x_step rfl ?_
  refine x_callvE rfl (m228a (d := 0) h2) rfl rfl rfl ?_
  refine x_step rfl ?_
  exact x_iret rfl rfl rfl ⟨rfl, rfl⟩
end RG
