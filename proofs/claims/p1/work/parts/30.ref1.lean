def rw (th : Int32) (jl : Int32) (js : Int32) (jh : Int32) (jb : (Nat → Int32)) (jc : Int32) (jr : (Nat → Int32)) (jq : Int32) (jQ : (Nat → Int32)) (jz : (Nat → Int32)) (jf : (Nat → Int32)) (jo : Int32) (jn : Int32) (jt : Int32) (jH : (Nat → Int32)) (jA : (Nat → Int32)) (jm : Int32) (jy : (Nat → Int32)) (je : Int32) (jp : Int32) (jk : Int32) (jx : Int32) (jw : Int32) (ju : Int32) (jF : (Nat → Int32)) (jL : (Nat → Int32)) (jO : (Nat → Int32)) (jS : (Nat → Int32)) (jT : (Nat → Int32)) (jU : (Nat → Int32)) (jV : (Nat → Int32)) (jW : (Nat → Int32)) (ja : Int32) (jG : (Nat → Int32)) (ov : (Nat → Value)) (g2 : xm_H) : xm_H :=
  xO 12 [.int th, .int jl, .int js, .int jh, .ref 104, .int jc, .ref 105, .int jq, .ref 106, .ref 107, .ref 108, .int jo, .int jn, .int jt, .ref 109, .ref 110, .int jm, .ref 111, .int je, .int jp, .int jk, .int jx, .int jw, .int ju, .ref 112, .ref 113, .ref 114, .ref 115, .ref 116, .ref 117, .ref 118, .ref 119, .int ja, .ref 120] ::
  xI 0 140 jb ::
  xI 0 512 jr ::
  xI 0 1040 jQ ::
  xI 0 8 jz ::
  xI 0 8 jf ::
  xI 0 80 jH ::
  xI 0 8 jA ::
  xI 0 500 jy ::
  xI 0 6 jF ::
  xI 0 6 jL ::
  xI 0 48 jO ::
  xI 0 5 jS ::
  xI 0 15 jT ::
  xI 0 6 jU ::
  xI 0 12 jV ::
  xI 2 6 jW ::
  xI 0 8 jG ::
  xV 1 1 ov :: g2

section RF
variable {l : Launch} {d L : Nat} {xs : Nat → Int32} {tc : Int32} {tf : (Nat → Int32)} {bl : Int32} {bf : (Nat → Int32)} {of : Int32} {oc : Int32} {ol : Int32} {on : Int32} {ml : (Nat → Int32)} {mx : (Nat → Int32)} {mb : (Nat → Nat → Int32)} {kc : Int32} {kh : (Nat → Nat)} {kr : (Nat → Nat → Int32)} {ka : (Nat → Int32)} {gl : Int32} {gx : Int32} {gb : (Nat → Int32)} {ls : Int32} {lq : Int32} {lk : Int32} {lg : Int32} {lh : Int32} {vf : (Nat → Int32)} {vs : (Nat → Int32)} {vb : (Nat → Nat → Int32)} {nv : (Nat → Int32)} {nw : (Nat → Nat → Int32)} {nr : (Nat → Int32)} {nq : (Nat → Nat → Int32)} {ne : (Nat → Int32)} {io : Int32} {sp : Int32} {ch : Int32} {wt : Int32} {xf : (Nat → Int32)} {xz : (Nat → Int32)} {xt : (Nat → Int32)} {xb : (Nat → Int32)} {xc : Int32} {th : Int32} {jl : Int32} {js : Int32} {jh : Int32} {jb : (Nat → Int32)} {jc : Int32} {jr : (Nat → Int32)} {jq : Int32} {jQ : (Nat → Int32)} {jz : (Nat → Int32)} {jf : (Nat → Int32)} {jo : Int32} {jn : Int32} {jt : Int32} {jH : (Nat → Int32)} {jA : (Nat → Int32)} {jm : Int32} {jy : (Nat → Int32)} {je : Int32} {jp : Int32} {jk : Int32} {jx : Int32} {jw : Int32} {ju : Int32} {jF : (Nat → Int32)} {jL : (Nat → Int32)} {jO : (Nat → Int32)} {jS : (Nat → Int32)} {jT : (Nat → Int32)} {jU : (Nat → Int32)} {jV : (Nat → Int32)} {jW : (Nat → Int32)} {ja : Int32} {jG : (Nat → Int32)} {ov : (Nat → Value)} {g2 : xm_H}
/-- thrown -/
theorem m171 : XM l 171 d 0 0 [.ref 103] (cw L xs (rw th jl js jh jb jc jr jq jQ jz jf jo jn jt jH jA jm jy je jp jk jx jw ju jF jL jO jS jT jU jV jW ja jG ov g2) tc tf bl bf of oc ol on ml mx mb kc kh kr ka gl gx gb ls lq lk lg lh vf vs vb nv nw nr nq ne io sp ch wt xf xz xt xb xc) (xm_is (some (.int th)) (cw L xs (rw th jl js jh jb jc jr jq jQ jz jf jo jn jt jH jA jm jy je jp jk jx jw ju jF jL jO jS jT jU jV jW ja jG ov g2) tc tf bl bf of oc ol on ml mx mb kc kh kr ka gl gx gb ls lq lk lg lh vf vs vb nv nw nr nq ne io sp ch wt xf xz xt xb xc)) := by
  refine XE (pl := [some (.ref 103)]) xg171 rfl ?_
  iterate 2 refine x_step rfl ?_
  exact x_iret rfl rfl rfl ⟨rfl, rfl⟩
/-- said -/
theorem m234 : XM l 234 d 0 0 [.ref 103] (cw L xs (rw th jl js jh jb jc jr jq jQ jz jf jo jn jt jH jA jm jy je jp jk jx jw ju jF jL jO jS jT jU jV jW ja jG ov g2) tc tf bl bf of oc ol on ml mx mb kc kh kr ka gl gx gb ls lq lk lg lh vf vs vb nv nw nr nq ne io sp ch wt xf xz xt xb xc) (xm_is (some (.int jc)) (cw L xs (rw (0) jl js jh jb jc jr jq jQ jz jf jo jn jt jH jA jm jy je jp jk jx jw ju jF jL jO jS jT jU jV jW ja jG ov g2) tc tf bl bf of oc ol on ml mx mb kc kh kr ka gl gx gb ls lq lk lg lh vf vs vb nv nw nr nq ne io sp ch wt xf xz xt xb xc)) := by
  refine XE (pl := [some (.ref 103)]) xg234 rfl ?_
  iterate 5 refine x_step rfl ?_
  exact x_iret rfl rfl rfl ⟨rfl, rfl⟩
/-- report: an answer -/
theorem m237 (x : Int32) (h : ¬ xrp x = 0) : XM l 237 d 0 0 [.ref 103, .int x] (cw L xs (rw th jl js jh jb jc jr jq jQ jz jf jo jn jt jH jA jm jy je jp jk jx jw ju jF jL jO jS jT jU jV jW ja jG ov g2) tc tf bl bf of oc ol on ml mx mb kc kh kr ka gl gx gb ls lq lk lg lh vf vs vb nv nw nr nq ne io sp ch wt xf xz xt xb xc) (xm_is (some (.int (jS x.toNatClampNeg))) (cw L xs (rw (0) jl js jh jb jc jr jq jQ jz jf jo jn jt jH jA jm jy je jp jk jx jw ju jF jL jO jS jT jU jV jW ja jG ov g2) tc tf bl bf of oc ol on ml mx mb kc kh kr ka gl gx gb ls lq lk lg lh vf vs vb nv nw nr nq ne io sp ch wt xf xz xt xb xc)) := by
  have hx := xrp_in h
  unfold xrp at h
  refine XE (pl := [some (.ref 103), some (.int x)]) xg237 rfl ?_
  iterate 3 refine x_step rfl ?_
  refine x_icmp_lt rfl (fun q1 => absurd (if_pos q1) h) (fun q1 => ?_)
  iterate 2 refine x_step rfl ?_
  refine x_icmp_le rfl (fun q2 => ?_) (fun q2 => absurd ((if_neg q1).trans (if_pos (Int32.not_le.mp q2))) h)
  iterate 4 refine x_step rfl ?_
  refine x_if_ne rfl (fun q => absurd rfl q) (fun _ => ?_)
  iterate 3 refine x_step rfl ?_
  refine x_iald rfl rfl rfl hx ?_
  refine x_step rfl ?_
  exact x_iret rfl rfl rfl ⟨rfl, rfl⟩
/-- report: refused -/
theorem m237t (x : Int32) (h : xrp x = 0) : XM l 237 d 0 0 [.ref 103, .int x] (cw L xs (rw th jl js jh jb jc jr jq jQ jz jf jo jn jt jH jA jm jy je jp jk jx jw ju jF jL jO jS jT jU jV jW ja jG ov g2) tc tf bl bf of oc ol on ml mx mb kc kh kr ka gl gx gb ls lq lk lg lh vf vs vb nv nw nr nq ne io sp ch wt xf xz xt xb xc) (xm_is (some (.int 0)) (cw L xs (rw (1) jl js jh jb jc jr jq jQ jz jf jo jn jt jH jA jm jy je jp jk jx jw ju jF jL jO jS jT jU jV jW ja jG ov g2) tc tf bl bf of oc ol on ml mx mb kc kh kr ka gl gx gb ls lq lk lg lh vf vs vb nv nw nr nq ne io sp ch wt xf xz xt xb xc)) := by
  unfold xrp at h
  refine XE (pl := [some (.ref 103), some (.int x)]) xg237 rfl ?_
  iterate 3 refine x_step rfl ?_
  refine x_icmp_lt rfl (fun q1 => ?_) (fun q1 => ?_)
  · iterate 5 refine x_step rfl ?_
    refine x_if_ne rfl (fun q => ?_) (fun q => absurd q (by decide))
    refine x_step rfl ?_
    exact x_iret rfl rfl rfl ⟨rfl, rfl⟩
  · iterate 2 refine x_step rfl ?_
    rw [if_neg q1] at h
    refine x_icmp_le rfl (fun q2 => absurd ((if_neg (Int32.not_lt.mpr q2)).symm.trans h) (by decide)) (fun q2 => ?_)
    iterate 5 refine x_step rfl ?_
    refine x_if_ne rfl (fun q => ?_) (fun q => absurd q (by decide))
    refine x_step rfl ?_
    exact x_iret rfl rfl rfl ⟨rfl, rfl⟩
end RF
