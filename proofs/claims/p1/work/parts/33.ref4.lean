section RI
variable {l : Launch} {d L : Nat} {xs : Nat → Int32} {tc : Int32} {tf : (Nat → Int32)} {bl : Int32} {bf : (Nat → Int32)} {of : Int32} {oc : Int32} {ol : Int32} {on : Int32} {ml : (Nat → Int32)} {mx : (Nat → Int32)} {mb : (Nat → Nat → Int32)} {kc : Int32} {kh : (Nat → Nat)} {kr : (Nat → Nat → Int32)} {ka : (Nat → Int32)} {gl : Int32} {gx : Int32} {gb : (Nat → Int32)} {ls : Int32} {lq : Int32} {lk : Int32} {lg : Int32} {lh : Int32} {vf : (Nat → Int32)} {vs : (Nat → Int32)} {vb : (Nat → Nat → Int32)} {nv : (Nat → Int32)} {nw : (Nat → Nat → Int32)} {nr : (Nat → Int32)} {nq : (Nat → Nat → Int32)} {ne : (Nat → Int32)} {io : Int32} {sp : Int32} {ch : Int32} {wt : Int32} {xf : (Nat → Int32)} {xz : (Nat → Int32)} {xt : (Nat → Int32)} {xb : (Nat → Int32)} {xc : Int32} {th : Int32} {jl : Int32} {js : Int32} {jh : Int32} {jb : (Nat → Int32)} {jc : Int32} {jr : (Nat → Int32)} {jq : Int32} {jQ : (Nat → Int32)} {jz : (Nat → Int32)} {jf : (Nat → Int32)} {jo : Int32} {jn : Int32} {jt : Int32} {jH : (Nat → Int32)} {jA : (Nat → Int32)} {jm : Int32} {jy : (Nat → Int32)} {je : Int32} {jp : Int32} {jk : Int32} {jx : Int32} {jw : Int32} {ju : Int32} {jF : (Nat → Int32)} {jL : (Nat → Int32)} {jO : (Nat → Int32)} {jS : (Nat → Int32)} {jT : (Nat → Int32)} {jU : (Nat → Int32)} {jV : (Nat → Int32)} {jW : (Nat → Int32)} {ja : Int32} {jG : (Nat → Int32)} {ov : (Nat → Value)} {g2 : xm_H}
/-- what saying x does -/
def xrsay (jr : Nat → Int32) (jc x : Int32) : Nat → Int32 := upd jr (jc - jc / 512 * 512).toNatClampNeg (x &&& 255)
/-- say -/
theorem m173 (x : Int32) (hc : ¬ jc < 0) : XM l 173 d 0 0 [.ref 103, .int x] (cw L xs (rw th jl js jh jb jc jr jq jQ jz jf jo jn jt jH jA jm jy je jp jk jx jw ju jF jL jO jS jT jU jV jW ja jG ov g2) tc tf bl bf of oc ol on ml mx mb kc kh kr ka gl gx gb ls lq lk lg lh vf vs vb nv nw nr nq ne io sp ch wt xf xz xt xb xc) (xm_is none (cw L xs (rw th jl js jh jb (jc + 1) (xrsay jr jc x) jq jQ jz jf jo jn jt jH jA jm jy je jp jk jx jw ju jF jL jO jS jT jU jV jW ja jG ov g2) tc tf bl bf of oc ol on ml mx mb kc kh kr ka gl gx gb ls lq lk lg lh vf vs vb nv nw nr nq ne io sp ch wt xf xz xt xb xc)) := by
  refine XE (pl := [some (.ref 103), some (.int x)]) xg173 rfl ?_
  iterate 5 refine x_step rfl ?_
  refine x_irem rfl (by decide) ?_
  iterate 3 refine x_step rfl ?_
  refine x_iast rfl rfl (by decide) rfl (xrem5_in hc) ?_
  iterate 6 refine x_step rfl ?_
  exact x_ret rfl rfl ⟨rfl, rfl⟩
/-- enter -/
theorem m174 (x : Int32) : XM l 174 d 0 0 [.ref 103, .int x] (cw L xs (rw th jl js jh jb jc jr jq jQ jz jf jo jn jt jH jA jm jy je jp jk jx jw ju jF jL jO jS jT jU jV jW ja jG ov g2) tc tf bl bf of oc ol on ml mx mb kc kh kr ka gl gx gb ls lq lk lg lh vf vs vb nv nw nr nq ne io sp ch wt xf xz xt xb xc) (xm_is none (cw L xs (rw th (x) (0) jh jb jc jr jq jQ jz jf jo jn jt jH jA jm jy je jp jk jx jw ju jF jL jO jS jT jU jV jW ja jG ov g2) tc tf bl bf of oc ol on ml mx mb kc kh kr ka gl gx gb ls lq lk lg lh vf vs vb nv nw nr nq ne io sp ch wt xf xz xt xb xc)) := by
  refine XE (pl := [some (.ref 103), some (.int x)]) xg174 rfl ?_
  iterate 6 refine x_step rfl ?_
  exact x_ret rfl rfl ⟨rfl, rfl⟩
/-- settle: a message is offered -/
theorem m228b (hd : 1 ≤ d) (h1 : jl = 0) (h2 : ¬ jq ≤ 0) (hc : ¬ jc < 0) : XM l 228 d 0 0 [.ref 103] (cw L xs (rw th jl js jh jb jc jr jq jQ jz jf jo jn jt jH jA jm jy je jp jk jx jw ju jF jL jO jS jT jU jV jW ja jG ov g2) tc tf bl bf of oc ol on ml mx mb kc kh kr ka gl gx gb ls lq lk lg lh vf vs vb nv nw nr nq ne io sp ch wt xf xz xt xb xc) (xm_is none (cw L xs (rw th (2) (0) jh jb (jc + 1) (xrsay jr jc 5) jq jQ jz jf jo jn jt jH jA jm jy je jp jk jx jw ju jF jL jO jS jT jU jV jW ja jG ov g2) tc tf bl bf of oc ol on ml mx mb kc kh kr ka gl gx gb ls lq lk lg lh vf vs vb nv nw nr nq ne io sp ch wt xf xz xt xb xc)) := by
  refine XE (pl := [some (.ref 103)]) xg228 rfl ?_
  iterate 2 refine x_step rfl ?_
  refine x_if_ne rfl (fun q => absurd h1 q) (fun _ => ?_)
  iterate 2 refine x_step rfl ?_
  refine x_if_le rfl (fun q => absurd q h2) (fun _ => ?_)
  iterate 2 refine x_step rfl ?_
  refine x_callvE rfl (m173 (d := 0) 5 hc) rfl rfl rfl ?_
  iterate 2 refine x_step rfl ?_
  refine x_callvE rfl (m174 (d := 0) 2) rfl rfl rfl ?_
  exact x_ret rfl rfl ⟨rfl, rfl⟩
/-- hear: refused -/
theorem m172t (x : Int32) (h : x < 0 ∨ 255 < x) : XM l 172 d 0 0 [.ref 103, .int x] (cw L xs (rw th jl js jh jb jc jr jq jQ jz jf jo jn jt jH jA jm jy je jp jk jx jw ju jF jL jO jS jT jU jV jW ja jG ov g2) tc tf bl bf of oc ol on ml mx mb kc kh kr ka gl gx gb ls lq lk lg lh vf vs vb nv nw nr nq ne io sp ch wt xf xz xt xb xc) (xm_is (some (.int 0)) (cw L xs (rw (1) jl js jh jb jc jr jq jQ jz jf jo jn jt jH jA jm jy je jp jk jx jw ju jF jL jO jS jT jU jV jW ja jG ov g2) tc tf bl bf of oc ol on ml mx mb kc kh kr ka gl gx gb ls lq lk lg lh vf vs vb nv nw nr nq ne io sp ch wt xf xz xt xb xc)) := by
  refine XE (pl := [some (.ref 103), some (.int x), none]) xg172 rfl ?_
  iterate 2 refine x_step rfl ?_
  refine x_if_lt rfl (fun q1 => ?_) (fun q1 => ?_)
  · iterate 5 refine x_step rfl ?_
    refine x_if_eq rfl (fun q => absurd q (by decide)) (fun _ => ?_)
    refine x_step rfl ?_
    exact x_iret rfl rfl rfl ⟨rfl, rfl⟩
  · iterate 2 refine x_step rfl ?_
    refine x_icmp_le rfl (fun q2 => absurd (h.resolve_left q1) (Int32.not_lt.mpr q2)) (fun _ => ?_)
    iterate 5 refine x_step rfl ?_
    refine x_if_eq rfl (fun q => absurd q (by decide)) (fun _ => ?_)
    refine x_step rfl ?_
    exact x_iret rfl rfl rfl ⟨rfl, rfl⟩
/-- hear: a free line, no offer -/
theorem m172a (x : Int32) (h0 : ¬ x < 0) (h1 : x ≤ 255) (hd : 1 ≤ d) (h : jl = 0) (hx : ¬ x = 5) (hq : jq ≤ 0) : XM l 172 d 0 0 [.ref 103, .int x] (cw L xs (rw th jl js jh jb jc jr jq jQ jz jf jo jn jt jH jA jm jy je jp jk jx jw ju jF jL jO jS jT jU jV jW ja jG ov g2) tc tf bl bf of oc ol on ml mx mb kc kh kr ka gl gx gb ls lq lk lg lh vf vs vb nv nw nr nq ne io sp ch wt xf xz xt xb xc) (xm_is (some (.int (jc - jc))) (cw L xs (rw (0) jl js jh jb jc jr jq jQ jz jf jo jn jt jH jA jm jy je jp jk jx jw ju jF jL jO jS jT jU jV jW ja jG ov g2) tc tf bl bf of oc ol on ml mx mb kc kh kr ka gl gx gb ls lq lk lg lh vf vs vb nv nw nr nq ne io sp ch wt xf xz xt xb xc)) := by
  refine XE (pl := [some (.ref 103), some (.int x), none]) xg172 rfl ?_
  iterate 2 refine x_step rfl ?_
  refine x_if_lt rfl (fun q => absurd q h0) (fun _ => ?_)
  iterate 2 refine x_step rfl ?_
  refine x_icmp_le rfl (fun _ => ?_) (fun q => absurd h1 q)
  iterate 4 refine x_step rfl ?_
  refine x_if_eq rfl (fun _ => ?_) (fun q => absurd rfl q)
  iterate 5 refine x_step rfl ?_
  refine x_if_ne rfl (fun q => absurd h q) (fun _ => ?_)
  iterate 2 refine x_step rfl ?_
  refine x_icmp_ne rfl (fun _ => ?_) (fun q => absurd q hx)
  refine x_step rfl ?_
  refine xm_hs (hp' := (cw L xs (rw (0) jl js jh jb jc jr jq jQ jz jf jo jn jt jH jA jm jy je jp jk jx jw ju jF jL jO jS jT jU jV jW ja jG ov g2) tc tf bl bf of oc ol on ml mx mb kc kh kr ka gl gx gb ls lq lk lg lh vf vs vb nv nw nr nq ne io sp ch wt xf xz xt xb xc)) rfl ?_
  refine x_callvE rfl (m228a (d := 0) (fun q => q.2 hq)) rfl rfl rfl ?_
  iterate 4 refine x_step rfl ?_
  exact x_iret rfl rfl rfl ⟨rfl, rfl⟩
/-- hear: a free line, an offer -/
theorem m172b (hd : 1 ≤ d) (h : jl = 0) (hc : ¬ jc < 0) : XM l 172 d 0 0 [.ref 103, .int 5] (cw L xs (rw th jl js jh jb jc jr jq jQ jz jf jo jn jt jH jA jm jy je jp jk jx jw ju jF jL jO jS jT jU jV jW ja jG ov g2) tc tf bl bf of oc ol on ml mx mb kc kh kr ka gl gx gb ls lq lk lg lh vf vs vb nv nw nr nq ne io sp ch wt xf xz xt xb xc) (xm_is (some (.int (jc + 1 - jc))) (cw L xs (rw (0) (1) (0) (0) jb (jc + 1) (xrsay jr jc 4) jq jQ jz jf jo jn jt jH jA jm jy je jp jk jx jw ju jF jL jO jS jT jU jV jW ja jG ov g2) tc tf bl bf of oc ol on ml mx mb kc kh kr ka gl gx gb ls lq lk lg lh vf vs vb nv nw nr nq ne io sp ch wt xf xz xt xb xc)) := by
  refine XE (pl := [some (.ref 103), some (.int 5), none]) xg172 rfl ?_
  iterate 2 refine x_step rfl ?_
  refine x_if_lt rfl (fun q => absurd q (by decide)) (fun _ => ?_)
  iterate 2 refine x_step rfl ?_
  refine x_icmp_le rfl (fun _ => ?_) (fun q => absurd (by decide) q)
  iterate 4 refine x_step rfl ?_
  refine x_if_eq rfl (fun _ => ?_) (fun q => absurd rfl q)
  iterate 5 refine x_step rfl ?_
  refine x_if_ne rfl (fun q => absurd h q) (fun _ => ?_)
  iterate 2 refine x_step rfl ?_
  refine x_icmp_ne rfl (fun q => absurd rfl q) (fun _ => ?_)
  iterate 2 refine x_step rfl ?_
  refine xm_hs (hp' := (cw L xs (rw (0) jl js jh jb jc jr jq jQ jz jf jo jn jt jH jA jm jy je jp jk jx jw ju jF jL jO jS jT jU jV jW ja jG ov g2) tc tf bl bf of oc ol on ml mx mb kc kh kr ka gl gx gb ls lq lk lg lh vf vs vb nv nw nr nq ne io sp ch wt xf xz xt xb xc)) rfl ?_
  refine x_callvE rfl (m173 (d := 0) 4 hc) rfl rfl rfl ?_
  iterate 5 refine x_step rfl ?_
  refine xm_hs (hp' := (cw L xs (rw (0) jl js (0) jb (jc + 1) (xrsay jr jc 4) jq jQ jz jf jo jn jt jH jA jm jy je jp jk jx jw ju jF jL jO jS jT jU jV jW ja jG ov g2) tc tf bl bf of oc ol on ml mx mb kc kh kr ka gl gx gb ls lq lk lg lh vf vs vb nv nw nr nq ne io sp ch wt xf xz xt xb xc)) rfl ?_
  refine x_callvE rfl (m174 (d := 0) 1) rfl rfl rfl ?_
  iterate 2 refine x_step rfl ?_
  refine x_callvE rfl (m228a (d := 0) (fun q => absurd q.1 (by decide))) rfl rfl rfl ?_
  iterate 4 refine x_step rfl ?_
  exact x_iret rfl rfl rfl ⟨rfl, rfl⟩
/-- unit: nothing runs -/
theorem m230a (hd : 1 ≤ d) (ht : jt ≤ 0) (hw : ¬ jw = 1) (hl : jl = 0) (hq : jq ≤ 0) : XM l 230 d 0 0 [.ref 103] (cw L xs (rw th jl js jh jb jc jr jq jQ jz jf jo jn jt jH jA jm jy je jp jk jx jw ju jF jL jO jS jT jU jV jW ja jG ov g2) tc tf bl bf of oc ol on ml mx mb kc kh kr ka gl gx gb ls lq lk lg lh vf vs vb nv nw nr nq ne io sp ch wt xf xz xt xb xc) (xm_is none (cw L xs (rw th jl js jh jb jc jr jq jQ jz jf jo jn jt jH jA jm jy je jp jk jx jw ju jF jL jO jS jT jU jV jW ja jG ov g2) tc tf bl bf of oc ol on ml mx mb kc kh kr ka gl gx gb ls lq lk lg lh vf vs vb nv nw nr nq ne io sp ch wt xf xz xt xb xc)) := by
  refine XE (pl := [some (.ref 103), none]) xg230 rfl ?_
  iterate 5 refine x_step rfl ?_
  refine x_icmp_ge rfl (fun _ => ?_) (fun q => absurd ht q)
  iterate 2 refine x_step rfl ?_
  refine x_if_le rfl (fun _ => ?_) (fun q => absurd ht q)
  iterate 3 refine x_step rfl ?_
  refine x_icmp_ne rfl (fun _ => ?_) (fun q => absurd q hw)
  iterate 2 refine x_step rfl ?_
  refine x_if_eq rfl (fun _ => ?_) (fun q => absurd hl q)
  refine x_step rfl ?_
  refine x_callvE rfl (m228a (d := 0) (fun q => q.2 hq)) rfl rfl rfl ?_
  exact x_ret rfl rfl ⟨rfl, rfl⟩
end RI
