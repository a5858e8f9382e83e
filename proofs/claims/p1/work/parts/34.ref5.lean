section RJ
variable {l : Launch} {d L : Nat} {xs : Nat → Int32} {tc : Int32} {tf : (Nat → Int32)} {bl : Int32} {bf : (Nat → Int32)} {of : Int32} {oc : Int32} {ol : Int32} {on : Int32} {ml : (Nat → Int32)} {mx : (Nat → Int32)} {mb : (Nat → Nat → Int32)} {kc : Int32} {kh : (Nat → Nat)} {kr : (Nat → Nat → Int32)} {ka : (Nat → Int32)} {gl : Int32} {gx : Int32} {gb : (Nat → Int32)} {ls : Int32} {lq : Int32} {lk : Int32} {lg : Int32} {lh : Int32} {vf : (Nat → Int32)} {vs : (Nat → Int32)} {vb : (Nat → Nat → Int32)} {nv : (Nat → Int32)} {nw : (Nat → Nat → Int32)} {nr : (Nat → Int32)} {nq : (Nat → Nat → Int32)} {ne : (Nat → Int32)} {io : Int32} {sp : Int32} {ch : Int32} {wt : Int32} {xf : (Nat → Int32)} {xz : (Nat → Int32)} {xt : (Nat → Int32)} {xb : (Nat → Int32)} {xc : Int32} {th : Int32} {jl : Int32} {js : Int32} {jh : Int32} {jb : (Nat → Int32)} {jc : Int32} {jr : (Nat → Int32)} {jq : Int32} {jQ : (Nat → Int32)} {jz : (Nat → Int32)} {jf : (Nat → Int32)} {jo : Int32} {jn : Int32} {jt : Int32} {jH : (Nat → Int32)} {jA : (Nat → Int32)} {jm : Int32} {jy : (Nat → Int32)} {je : Int32} {jp : Int32} {jk : Int32} {jx : Int32} {jw : Int32} {ju : Int32} {jF : (Nat → Int32)} {jL : (Nat → Int32)} {jO : (Nat → Int32)} {jS : (Nat → Int32)} {jT : (Nat → Int32)} {jU : (Nat → Int32)} {jV : (Nat → Int32)} {jW : (Nat → Int32)} {ja : Int32} {jG : (Nat → Int32)} {ov : (Nat → Value)} {g2 : xm_H}
theorem m229_loop (x c : Int32) (hd : 2 ≤ d) (ht : jt ≤ 0) (hw : ¬ jw = 1) (hl : jl = 0) (hq : jq ≤ 0) : ∀ (m i : Nat), i + m < 2 ^ 31 → x = nI (i + m) → XW l 229 d 0 0 27 [some (.ref 103), some (.int x), some (.int c), some (.int (nI i))] [] (cw L xs (rw (0) jl js jh jb jc jr jq jQ jz jf jo jn jt jH jA jm jy je jp jk jx jw ju jF jL jO jS jT jU jV jW ja jG ov g2) tc tf bl bf of oc ol on ml mx mb kc kh kr ka gl gx gb ls lq lk lg lh vf vs vb nv nw nr nq ne io sp ch wt xf xz xt xb xc) (xm_is (some (.int (jc - c))) (cw L xs (rw (0) jl js jh jb jc jr jq jQ jz jf jo jn jt jH jA jm jy je jp jk jx jw ju jF jL jO jS jT jU jV jW ja jG ov g2) tc tf bl bf of oc ol on ml mx mb kc kh kr ka gl gx gb ls lq lk lg lh vf vs vb nv nw nr nq ne io sp ch wt xf xz xt xb xc)) := by
  intro m
  induction m with
  | zero =>
    intro i hi hx
    iterate 2 refine x_step rfl ?_
    refine x_icmp_ge rfl (fun q => ?_) (fun q => absurd (by rw [hx]; exact Int32.le_refl _) q)
    iterate 4 refine x_step rfl ?_
    exact x_iret rfl rfl rfl ⟨rfl, rfl⟩
  | succ m ih =>
    intro i hi hx
    iterate 2 refine x_step rfl ?_
    refine x_icmp_ge rfl (fun q => absurd (by rw [hx]; exact nI_lt (by omega) (by omega)) (Int32.not_lt.mpr q)) (fun q => ?_)
    iterate 2 refine x_step rfl ?_
    refine x_if_ne rfl (fun q => absurd rfl q) (fun _ => ?_)
    refine x_step rfl ?_
    refine x_callvE rfl (m230a (d := 1) (by omega) ht hw hl hq) rfl rfl rfl ?_
    iterate 2 refine x_step rfl ?_
    refine xm_ls (pl' := [some (.ref 103), some (.int x), some (.int c), some (.int (nI (i + 1)))]) (by rw [nI_succ]; rfl) ?_
    exact ih (i + 1) (by omega) (by rw [hx]; congr 1; omega)
/-- tick where nothing runs -/
theorem m229n (n : Nat) (h1 : 1 ≤ n) (h2 : n ≤ 60) (hd : 2 ≤ d) (ht : jt ≤ 0) (hw : ¬ jw = 1) (hl : jl = 0) (hq : jq ≤ 0) : XM l 229 d 0 0 [.ref 103, .int (nI n)] (cw L xs (rw th jl js jh jb jc jr jq jQ jz jf jo jn jt jH jA jm jy je jp jk jx jw ju jF jL jO jS jT jU jV jW ja jG ov g2) tc tf bl bf of oc ol on ml mx mb kc kh kr ka gl gx gb ls lq lk lg lh vf vs vb nv nw nr nq ne io sp ch wt xf xz xt xb xc) (xm_is (some (.int (jc - jc))) (cw L xs (rw (0) jl js jh jb jc jr jq jQ jz jf jo jn jt jH jA jm jy je jp jk jx jw ju jF jL jO jS jT jU jV jW ja jG ov g2) tc tf bl bf of oc ol on ml mx mb kc kh kr ka gl gx gb ls lq lk lg lh vf vs vb nv nw nr nq ne io sp ch wt xf xz xt xb xc)) := by
  refine XE (pl := [some (.ref 103), some (.int (nI n)), none, none]) xg229 rfl ?_
  iterate 3 refine x_step rfl ?_
  refine x_icmp_lt rfl (fun q => absurd q (Int32.not_lt.mpr (by rw [Int32.le_iff_toInt_le, nI_toInt (by omega)]; show (1 : Int) ≤ n; omega))) (fun _ => ?_)
  iterate 2 refine x_step rfl ?_
  refine x_icmp_le rfl (fun _ => ?_) (fun q => absurd (by rw [Int32.le_iff_toInt_le, nI_toInt (by omega)]; show (n : Int) ≤ 60; omega) q)
  iterate 7 refine x_step rfl ?_
  refine xm_hs (hp' := (cw L xs (rw (0) jl js jh jb jc jr jq jQ jz jf jo jn jt jH jA jm jy je jp jk jx jw ju jF jL jO jS jT jU jV jW ja jG ov g2) tc tf bl bf of oc ol on ml mx mb kc kh kr ka gl gx gb ls lq lk lg lh vf vs vb nv nw nr nq ne io sp ch wt xf xz xt xb xc)) rfl ?_
  exact m229_loop (nI n) jc hd ht hw hl hq n 0 (by omega) (by rw [Nat.zero_add])
/-- tick: refused -/
theorem m229t (x : Int32) (h : x < 1 ∨ 60 < x) : XM l 229 d 0 0 [.ref 103, .int x] (cw L xs (rw th jl js jh jb jc jr jq jQ jz jf jo jn jt jH jA jm jy je jp jk jx jw ju jF jL jO jS jT jU jV jW ja jG ov g2) tc tf bl bf of oc ol on ml mx mb kc kh kr ka gl gx gb ls lq lk lg lh vf vs vb nv nw nr nq ne io sp ch wt xf xz xt xb xc) (xm_is (some (.int (jc - jc))) (cw L xs (rw (1) jl js jh jb jc jr jq jQ jz jf jo jn jt jH jA jm jy je jp jk jx jw ju jF jL jO jS jT jU jV jW ja jG ov g2) tc tf bl bf of oc ol on ml mx mb kc kh kr ka gl gx gb ls lq lk lg lh vf vs vb nv nw nr nq ne io sp ch wt xf xz xt xb xc)) := by
  refine XE (pl := [some (.ref 103), some (.int x), none, none]) xg229 rfl ?_
  iterate 3 refine x_step rfl ?_
  refine x_icmp_lt rfl (fun q1 => ?_) (fun q1 => ?_)
  · iterate 10 refine x_step rfl ?_
    refine x_icmp_ge rfl (fun _ => ?_) (fun _ => ?_)
    · iterate 4 refine x_step rfl ?_
      exact x_iret rfl rfl rfl ⟨rfl, rfl⟩
    · iterate 2 refine x_step rfl ?_
      refine x_if_ne rfl (fun _ => ?_) (fun q => absurd q (by decide))
      iterate 4 refine x_step rfl ?_
      exact x_iret rfl rfl rfl ⟨rfl, rfl⟩
  · iterate 2 refine x_step rfl ?_
    refine x_icmp_le rfl (fun q2 => absurd (h.resolve_left q1) (Int32.not_lt.mpr q2)) (fun _ => ?_)
    iterate 10 refine x_step rfl ?_
    refine x_icmp_ge rfl (fun _ => ?_) (fun _ => ?_)
    · iterate 4 refine x_step rfl ?_
      exact x_iret rfl rfl rfl ⟨rfl, rfl⟩
    · iterate 2 refine x_step rfl ?_
      refine x_if_ne rfl (fun _ => ?_) (fun q => absurd q (by decide))
      iterate 4 refine x_step rfl ?_
      exact x_iret rfl rfl rfl ⟨rfl, rfl⟩
/-- become: it is so already -/
theorem m211a (x : Int32) (h : x = jk) : XM l 211 d 0 0 [.ref 103, .int x] (cw L xs (rw th jl js jh jb jc jr jq jQ jz jf jo jn jt jH jA jm jy je jp jk jx jw ju jF jL jO jS jT jU jV jW ja jG ov g2) tc tf bl bf of oc ol on ml mx mb kc kh kr ka gl gx gb ls lq lk lg lh vf vs vb nv nw nr nq ne io sp ch wt xf xz xt xb xc) (xm_is none (cw L xs (rw th jl js jh jb jc jr jq jQ jz jf jo jn jt jH jA jm jy je jp (x) jx jw ju jF jL jO jS jT jU jV jW ja jG ov g2) tc tf bl bf of oc ol on ml mx mb kc kh kr ka gl gx gb ls lq lk lg lh vf vs vb nv nw nr nq ne io sp ch wt xf xz xt xb xc)) := by
  refine XE (pl := [some (.ref 103), some (.int x), none, none]) xg211 rfl ?_
  iterate 3 refine x_step rfl ?_
  refine x_icmp_eq rfl (fun _ => ?_) (fun q => absurd h q)
  iterate 6 refine x_step rfl ?_
  refine x_if_eq rfl (fun _ => ?_) (fun q => absurd rfl q)
  exact x_ret rfl rfl ⟨rfl, rfl⟩
/-- become: no event goes out -/
theorem m211b (x : Int32) (hd : 1 ≤ d) (h : ¬ x = jk) (hg : ¬ xrg jW jU jp x 1) : XM l 211 d 0 0 [.ref 103, .int x] (cw L xs (rw th jl js jh jb jc jr jq jQ jz jf jo jn jt jH jA jm jy je jp jk jx jw ju jF jL jO jS jT jU jV jW ja jG ov g2) tc tf bl bf of oc ol on ml mx mb kc kh kr ka gl gx gb ls lq lk lg lh vf vs vb nv nw nr nq ne io sp ch wt xf xz xt xb xc) (xm_is none (cw L xs (rw th jl js jh jb jc jr jq jQ jz jf jo jn jt jH jA jm jy je jp (x) jx jw ju jF jL jO jS jT jU jV jW ja jG ov g2) tc tf bl bf of oc ol on ml mx mb kc kh kr ka gl gx gb ls lq lk lg lh vf vs vb nv nw nr nq ne io sp ch wt xf xz xt xb xc)) := by
  refine XE (pl := [some (.ref 103), some (.int x), none, none]) xg211 rfl ?_
  iterate 3 refine x_step rfl ?_
  refine x_icmp_eq rfl (fun q => absurd q h) (fun _ => ?_)
  iterate 7 refine x_step rfl ?_
  refine x_if_eq rfl (fun q => absurd q (by decide)) (fun _ => ?_)
  iterate 2 refine x_step rfl ?_
  refine xm_hs (hp' := (cw L xs (rw th jl js jh jb jc jr jq jQ jz jf jo jn jt jH jA jm jy je jp (x) jx jw ju jF jL jO jS jT jU jV jW ja jG ov g2) tc tf bl bf of oc ol on ml mx mb kc kh kr ka gl gx gb ls lq lk lg lh vf vs vb nv nw nr nq ne io sp ch wt xf xz xt xb xc)) rfl ?_
  refine x_callvE rfl (m212n (d := 0) 1 (by unfold vp_in; decide) hg) rfl rfl rfl ?_
  refine x_step rfl ?_
  exact x_ret rfl rfl ⟨rfl, rfl⟩
/-- control: refused -/
theorem m232t (x : Int32) (h0 : ¬ x = 0) (h2 : ¬ x = 2) (h3 : ¬ x = 3) : XM l 232 d 0 0 [.ref 103, .int x] (cw L xs (rw th jl js jh jb jc jr jq jQ jz jf jo jn jt jH jA jm jy je jp jk jx jw ju jF jL jO jS jT jU jV jW ja jG ov g2) tc tf bl bf of oc ol on ml mx mb kc kh kr ka gl gx gb ls lq lk lg lh vf vs vb nv nw nr nq ne io sp ch wt xf xz xt xb xc) (xm_is none (cw L xs (rw (1) jl js jh jb jc jr jq jQ jz jf jo jn jt jH jA jm jy je jp jk jx jw ju jF jL jO jS jT jU jV jW ja jG ov g2) tc tf bl bf of oc ol on ml mx mb kc kh kr ka gl gx gb ls lq lk lg lh vf vs vb nv nw nr nq ne io sp ch wt xf xz xt xb xc)) := by
  refine XE (pl := [some (.ref 103), some (.int x)]) xg232 rfl ?_
  iterate 2 refine x_step rfl ?_
  refine x_if_eq rfl (fun q => absurd q h0) (fun _ => ?_)
  iterate 2 refine x_step rfl ?_
  refine x_icmp_eq rfl (fun q => absurd q h2) (fun _ => ?_)
  iterate 2 refine x_step rfl ?_
  refine x_icmp_eq rfl (fun q => absurd q h3) (fun _ => ?_)
  iterate 5 refine x_step rfl ?_
  refine x_if_eq rfl (fun q => absurd q (by decide)) (fun _ => ?_)
  exact x_ret rfl rfl ⟨rfl, rfl⟩
end RJ
