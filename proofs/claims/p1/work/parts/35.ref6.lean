section RK
variable {l : Launch} {d L : Nat} {xs : Nat → Int32} {tc : Int32} {tf : (Nat → Int32)} {bl : Int32} {bf : (Nat → Int32)} {of : Int32} {oc : Int32} {ol : Int32} {on : Int32} {ml : (Nat → Int32)} {mx : (Nat → Int32)} {mb : (Nat → Nat → Int32)} {kc : Int32} {kh : (Nat → Nat)} {kr : (Nat → Nat → Int32)} {ka : (Nat → Int32)} {gl : Int32} {gx : Int32} {gb : (Nat → Int32)} {ls : Int32} {lq : Int32} {lk : Int32} {lg : Int32} {lh : Int32} {vf : (Nat → Int32)} {vs : (Nat → Int32)} {vb : (Nat → Nat → Int32)} {nv : (Nat → Int32)} {nw : (Nat → Nat → Int32)} {nr : (Nat → Int32)} {nq : (Nat → Nat → Int32)} {ne : (Nat → Int32)} {io : Int32} {sp : Int32} {ch : Int32} {wt : Int32} {xf : (Nat → Int32)} {xz : (Nat → Int32)} {xt : (Nat → Int32)} {xb : (Nat → Int32)} {xc : Int32} {th : Int32} {jl : Int32} {js : Int32} {jh : Int32} {jb : (Nat → Int32)} {jc : Int32} {jr : (Nat → Int32)} {jq : Int32} {jQ : (Nat → Int32)} {jz : (Nat → Int32)} {jf : (Nat → Int32)} {jo : Int32} {jn : Int32} {jt : Int32} {jH : (Nat → Int32)} {jA : (Nat → Int32)} {jm : Int32} {jy : (Nat → Int32)} {je : Int32} {jp : Int32} {jk : Int32} {jx : Int32} {jw : Int32} {ju : Int32} {jF : (Nat → Int32)} {jL : (Nat → Int32)} {jO : (Nat → Int32)} {jS : (Nat → Int32)} {jT : (Nat → Int32)} {jU : (Nat → Int32)} {jV : (Nat → Int32)} {jW : (Nat → Int32)} {ja : Int32} {jG : (Nat → Int32)} {ov : (Nat → Value)} {g2 : xm_H}
def xrput (n : Nat) (f : Nat → Int32) (x : Int32) : Nat → Int32 := if n < 500 then upd f n x else f
/-- FabLinkModel.put -/
theorem m179 (n : Nat) (x : Int32) (hn : n < 2 ^ 30) : XM l 179 d 0 0 [.ref 103, .int x] (cw L xs (rw th jl js jh jb jc jr jq jQ jz jf jo jn jt jH jA (nI n) jy je jp jk jx jw ju jF jL jO jS jT jU jV jW ja jG ov g2) tc tf bl bf of oc ol on ml mx mb kc kh kr ka gl gx gb ls lq lk lg lh vf vs vb nv nw nr nq ne io sp ch wt xf xz xt xb xc) (xm_is none (cw L xs (rw th jl js jh jb jc jr jq jQ jz jf jo jn jt jH jA (nI (n + 1)) (xrput n jy x) je jp jk jx jw ju jF jL jO jS jT jU jV jW ja jG ov g2) tc tf bl bf of oc ol on ml mx mb kc kh kr ka gl gx gb ls lq lk lg lh vf vs vb nv nw nr nq ne io sp ch wt xf xz xt xb xc)) := by
  refine XE (pl := [some (.ref 103), some (.int x)]) xg179 rfl ?_
  iterate 3 refine x_step rfl ?_
  refine x_icmpN_ge (n) (500) rfl rfl rfl (fun h => ?_) (fun h => ?_)
  · iterate 6 refine x_step rfl ?_
    exact x_ret rfl rfl ⟨rfl, by rw [xrput, if_neg (by omega), nI_succ]; rfl⟩
  · iterate 5 refine x_step rfl ?_
    refine x_iastN (n) rfl rfl rfl (by omega) ?_
    iterate 6 refine x_step rfl ?_
    exact x_ret rfl rfl ⟨rfl, by rw [xrput, if_pos h, nI_succ]; rfl⟩
/-- FabLinkModel.putHead -/
theorem m178 (n : Nat) (x y : Int32) (hd : 1 ≤ d) (hn : n < 2 ^ 29) : XM l 178 d 0 0 [.ref 103, .int x, .int y] (cw L xs (rw th jl js jh jb jc jr jq jQ jz jf jo jn jt jH jA (nI n) jy je jp jk jx jw ju jF jL jO jS jT jU jV jW ja jG ov g2) tc tf bl bf of oc ol on ml mx mb kc kh kr ka gl gx gb ls lq lk lg lh vf vs vb nv nw nr nq ne io sp ch wt xf xz xt xb xc) (xm_is none (cw L xs (rw th jl js jh jb jc jr jq jQ jz jf jo jn jt jH jA (nI (n + 2)) (xrput (n + 1) (xrput n jy (4 * x + 1)) y) je jp jk jx jw ju jF jL jO jS jT jU jV jW ja jG ov g2) tc tf bl bf of oc ol on ml mx mb kc kh kr ka gl gx gb ls lq lk lg lh vf vs vb nv nw nr nq ne io sp ch wt xf xz xt xb xc)) := by
  refine XE (pl := [some (.ref 103), some (.int x), some (.int y)]) xg178 rfl ?_
  iterate 6 refine x_step rfl ?_
  refine x_callvE rfl (m179 (d := 0) n (4 * x + 1) (by omega)) rfl rfl rfl ?_
  iterate 2 refine x_step rfl ?_
  refine x_callvE rfl (m179 (d := 0) (n + 1) y (by omega)) rfl rfl rfl ?_
  exact x_ret rfl rfl ⟨rfl, rfl⟩
/-- FabLinkModel.putNumber -/
theorem m209 (n : Nat) (x : Int32) (hd : 2 ≤ d) (hn : n < 2 ^ 29) : XM l 209 d 0 0 [.ref 103, .int x] (cw L xs (rw th jl js jh jb jc jr jq jQ jz jf jo jn jt jH jA (nI n) jy je jp jk jx jw ju jF jL jO jS jT jU jV jW ja jG ov g2) tc tf bl bf of oc ol on ml mx mb kc kh kr ka gl gx gb ls lq lk lg lh vf vs vb nv nw nr nq ne io sp ch wt xf xz xt xb xc) (xm_is none (cw L xs (rw th jl js jh jb jc jr jq jQ jz jf jo jn jt jH jA (nI (n + 3)) (xrput (n + 2) (xrput (n + 1) (xrput n jy 165) 1) x) je jp jk jx jw ju jF jL jO jS jT jU jV jW ja jG ov g2) tc tf bl bf of oc ol on ml mx mb kc kh kr ka gl gx gb ls lq lk lg lh vf vs vb nv nw nr nq ne io sp ch wt xf xz xt xb xc)) := by
  refine XE (pl := [some (.ref 103), some (.int x)]) xg209 rfl ?_
  iterate 3 refine x_step rfl ?_
  refine x_callvE rfl (m178 (d := 1) n 41 1 (by omega) (by omega)) rfl rfl rfl ?_
  iterate 2 refine x_step rfl ?_
  refine x_callvE rfl (m179 (d := 0) (n + 2) x (by omega)) rfl rfl rfl ?_
  exact x_ret rfl rfl ⟨rfl, rfl⟩
/-- FabLinkModel.putBinary -/
theorem m210 (n : Nat) (x : Int32) (hd : 2 ≤ d) (hn : n < 2 ^ 29) : XM l 210 d 0 0 [.ref 103, .int x] (cw L xs (rw th jl js jh jb jc jr jq jQ jz jf jo jn jt jH jA (nI n) jy je jp jk jx jw ju jF jL jO jS jT jU jV jW ja jG ov g2) tc tf bl bf of oc ol on ml mx mb kc kh kr ka gl gx gb ls lq lk lg lh vf vs vb nv nw nr nq ne io sp ch wt xf xz xt xb xc) (xm_is none (cw L xs (rw th jl js jh jb jc jr jq jQ jz jf jo jn jt jH jA (nI (n + 3)) (xrput (n + 2) (xrput (n + 1) (xrput n jy 33) 1) x) je jp jk jx jw ju jF jL jO jS jT jU jV jW ja jG ov g2) tc tf bl bf of oc ol on ml mx mb kc kh kr ka gl gx gb ls lq lk lg lh vf vs vb nv nw nr nq ne io sp ch wt xf xz xt xb xc)) := by
  refine XE (pl := [some (.ref 103), some (.int x)]) xg210 rfl ?_
  iterate 3 refine x_step rfl ?_
  refine x_callvE rfl (m178 (d := 1) n 8 1 (by omega) (by omega)) rfl rfl rfl ?_
  iterate 2 refine x_step rfl ?_
  refine x_callvE rfl (m179 (d := 0) (n + 2) x (by omega)) rfl rfl rfl ?_
  exact x_ret rfl rfl ⟨rfl, rfl⟩
def xrname (f : Nat → Int32) : Nat → Int32 := xrput 8 (xrput 7 (xrput 6 (xrput 5 (xrput 4 (xrput 3 (xrput 2 (xrput 1 (xrput 0 f 1) 2) 65) 2) 70) 76) 65) 1) 49
/-- FabLinkModel.putWho -/
theorem m206 (hd : 2 ≤ d) : XM l 206 d 0 0 [.ref 103] (cw L xs (rw th jl js jh jb jc jr jq jQ jz jf jo jn jt jH jA (0) jy je jp jk jx jw ju jF jL jO jS jT jU jV jW ja jG ov g2) tc tf bl bf of oc ol on ml mx mb kc kh kr ka gl gx gb ls lq lk lg lh vf vs vb nv nw nr nq ne io sp ch wt xf xz xt xb xc) (xm_is none (cw L xs (rw th jl js jh jb jc jr jq jQ jz jf jo jn jt jH jA (nI 9) (xrname jy) je jp jk jx jw ju jF jL jO jS jT jU jV jW ja jG ov g2) tc tf bl bf of oc ol on ml mx mb kc kh kr ka gl gx gb ls lq lk lg lh vf vs vb nv nw nr nq ne io sp ch wt xf xz xt xb xc)) := by
  refine XE (pl := [some (.ref 103)]) xg206 rfl ?_
  refine xm_hs (hp' := (cw L xs (rw th jl js jh jb jc jr jq jQ jz jf jo jn jt jH jA (nI 0) jy je jp jk jx jw ju jF jL jO jS jT jU jV jW ja jG ov g2) tc tf bl bf of oc ol on ml mx mb kc kh kr ka gl gx gb ls lq lk lg lh vf vs vb nv nw nr nq ne io sp ch wt xf xz xt xb xc)) rfl ?_
  iterate 3 refine x_step rfl ?_
  refine x_callvE rfl (m178 (d := 1) 0 0 2 (by omega) (by decide)) rfl rfl rfl ?_
  iterate 3 refine x_step rfl ?_
  refine x_callvE rfl (m178 (d := 1) 2 16 2 (by omega) (by decide)) rfl rfl rfl ?_
  iterate 2 refine x_step rfl ?_
  refine x_callvE rfl (m179 (d := 0) 4 70 (by decide)) rfl rfl rfl ?_
  iterate 2 refine x_step rfl ?_
  refine x_callvE rfl (m179 (d := 0) 5 76 (by decide)) rfl rfl rfl ?_
  iterate 3 refine x_step rfl ?_
  refine x_callvE rfl (m178 (d := 1) 6 16 1 (by omega) (by decide)) rfl rfl rfl ?_
  iterate 2 refine x_step rfl ?_
  refine x_callvE rfl (m179 (d := 0) 8 49 (by decide)) rfl rfl rfl ?_
  exact x_ret rfl rfl ⟨rfl, rfl⟩
/-- n entries of y from a on -/
def xrcp (f y : Nat → Int32) (a n : Nat) : Nat → Int32 := fun j => if a ≤ j ∧ j < a + n then y (j - a) else f j
theorem xrcp_0 (f y : Nat → Int32) (a : Nat) : xrcp f y a 0 = f := by
  funext j
  unfold xrcp
  rw [if_neg (by omega)]
theorem xrcp_s (f y : Nat → Int32) (a n : Nat) : upd (xrcp f y a n) (a + n) (y n) = xrcp f y a (n + 1) := by
  funext j
  by_cases h : j = a + n
  · subst h
    rw [pk_us]
    unfold xrcp
    rw [if_pos (by omega), Nat.add_sub_cancel_left]
  · rw [pk_un h]
    unfold xrcp
    by_cases h2 : a ≤ j ∧ j < a + n
    · rw [if_pos h2, if_pos (by omega)]
    · rw [if_neg h2, if_neg (by omega)]
def xrhd (f : Nat → Int32) (a : Nat) (sb fn s0 s1 s2 s3 : Int32) : Nat → Int32 := upd (upd (upd (upd (upd (upd (upd (upd (upd (upd f a 128) (a + 1) 1) (a + 2) sb) (a + 3) fn) (a + 4) 128) (a + 5) 1) (a + 6) s0) (a + 7) s1) (a + 8) s2) (a + 9) s3
/-- send, its loop -/
theorem m181_loop (q m : Nat) (sb fn s0 s1 s2 s3 : Int32) (hq : q < 8) (hm : m ≤ 120) (F : Nat → Int32) : ∀ (r i : Nat), i + r = m → XW l 181 d 0 0 142 [some (.ref 103), some (.int sb), some (.int fn), some (.int s0), some (.int s1), some (.int s2), some (.int s3), some (.int (nI (130 * q))), some (.int (nI i))] [] (cw L xs (rw th jl js jh jb jc jr (nI q) (xrcp F jy (130 * q + 10) i) jz jf jo jn jt jH jA (nI m) jy je jp jk jx jw ju jF jL jO jS jT jU jV jW ja jG ov g2) tc tf bl bf of oc ol on ml mx mb kc kh kr ka gl gx gb ls lq lk lg lh vf vs vb nv nw nr nq ne io sp ch wt xf xz xt xb xc) (xm_is none (cw L xs (rw th jl js jh jb jc jr (nI (q + 1)) (xrcp F jy (130 * q + 10) m) (upd jz q (nI (10 + m))) (upd jf q 0) jo jn jt jH jA (nI m) jy je jp jk jx jw ju jF jL jO jS jT jU jV jW ja jG ov g2) tc tf bl bf of oc ol on ml mx mb kc kh kr ka gl gx gb ls lq lk lg lh vf vs vb nv nw nr nq ne io sp ch wt xf xz xt xb xc)) := by
  intro r
  induction r with
  | zero =>
    intro i hi
    obtain rfl : i = m := by omega
    iterate 3 refine x_step rfl ?_
    refine x_icmpN_ge (i) (i) rfl rfl rfl (fun _ => ?_) (fun q => False.elim (by omega))
    iterate 8 refine x_step rfl ?_
    refine x_iastN (q) rfl rfl rfl (by omega) ?_
    iterate 5 refine x_step rfl ?_
    refine x_iastN (q) rfl rfl rfl (by omega) ?_
    iterate 6 refine x_step rfl ?_
    exact x_ret rfl rfl ⟨rfl, by rw [nI_succ, ← nI_add]; rfl⟩
  | succ r ih =>
    intro i hi
    iterate 3 refine x_step rfl ?_
    refine x_icmpN_ge (i) (m) rfl rfl rfl (fun q => False.elim (by omega)) (fun _ => ?_)
    iterate 10 refine x_step rfl ?_
    refine x_ialdN (i) rfl rfl rfl (by omega) ?_
    refine x_iastN (130 * q + 10 + i) rfl rfl (by rw [← nI_add, ← nI_add] <;> rfl) (by omega) ?_
    iterate 2 refine x_step rfl ?_
    refine xm_ls (pl' := [some (.ref 103), some (.int sb), some (.int fn), some (.int s0), some (.int s1), some (.int s2), some (.int s3), some (.int (nI (130 * q))), some (.int (nI (i + 1)))]) (by rw [nI_succ] <;> rfl) ?_
    refine xm_hs (hp' := (cw L xs (rw th jl js jh jb jc jr (nI q) (xrcp F jy (130 * q + 10) (i + 1)) jz jf jo jn jt jH jA (nI m) jy je jp jk jx jw ju jF jL jO jS jT jU jV jW ja jG ov g2) tc tf bl bf of oc ol on ml mx mb kc kh kr ka gl gx gb ls lq lk lg lh vf vs vb nv nw nr nq ne io sp ch wt xf xz xt xb xc)) (by rw [← xrcp_s]; rfl) ?_
    exact ih (i + 1) (by omega)
/-- FabLinkModel.send -/
theorem m181 (q m : Nat) (sb fn s0 s1 s2 s3 : Int32) (hq : q < 8) (hm : m ≤ 120) : XM l 181 d 0 0 [.ref 103, .int sb, .int fn, .int s0, .int s1, .int s2, .int s3] (cw L xs (rw th jl js jh jb jc jr (nI q) jQ jz jf jo jn jt jH jA (nI m) jy je jp jk jx jw ju jF jL jO jS jT jU jV jW ja jG ov g2) tc tf bl bf of oc ol on ml mx mb kc kh kr ka gl gx gb ls lq lk lg lh vf vs vb nv nw nr nq ne io sp ch wt xf xz xt xb xc) (xm_is none (cw L xs (rw th jl js jh jb jc jr (nI (q + 1)) (xrcp (xrhd jQ (130 * q) sb fn s0 s1 s2 s3) jy (130 * q + 10) m) (upd jz q (nI (10 + m))) (upd jf q 0) jo jn jt jH jA (nI m) jy je jp jk jx jw ju jF jL jO jS jT jU jV jW ja jG ov g2) tc tf bl bf of oc ol on ml mx mb kc kh kr ka gl gx gb ls lq lk lg lh vf vs vb nv nw nr nq ne io sp ch wt xf xz xt xb xc)) := by
  refine XE (pl := [some (.ref 103), some (.int sb), some (.int fn), some (.int s0), some (.int s1), some (.int s2), some (.int s3), none, none]) xg181 rfl ?_
  iterate 3 refine x_step rfl ?_
  refine x_icmpN_ne (q) (8) rfl rfl rfl (fun _ => ?_) (fun q => False.elim (by omega))
  iterate 5 refine x_step rfl ?_
  refine xm_ls (pl' := [some (.ref 103), some (.int sb), some (.int fn), some (.int s0), some (.int s1), some (.int s2), some (.int s3), some (.int (nI (130 * q))), none]) (by rw [show (130 : Int32) * nI q = nI (130 * q) from pk_mul 130 q] <;> rfl) ?_
  iterate 4 refine x_step rfl ?_
  refine x_iastN (130 * q) rfl rfl rfl (by omega) ?_
  refine xm_hs (hp' := (cw L xs (rw th jl js jh jb jc jr (nI q) (upd (jQ) (130 * q) 128) jz jf jo jn jt jH jA (nI m) jy je jp jk jx jw ju jF jL jO jS jT jU jV jW ja jG ov g2) tc tf bl bf of oc ol on ml mx mb kc kh kr ka gl gx gb ls lq lk lg lh vf vs vb nv nw nr nq ne io sp ch wt xf xz xt xb xc)) rfl ?_
  iterate 6 refine x_step rfl ?_
  refine x_iastN (130 * q + 1) rfl rfl (nI_add (130 * q) 1) (by omega) ?_
  refine xm_hs (hp' := (cw L xs (rw th jl js jh jb jc jr (nI q) (upd (upd (jQ) (130 * q) 128) (130 * q + 1) 1) jz jf jo jn jt jH jA (nI m) jy je jp jk jx jw ju jF jL jO jS jT jU jV jW ja jG ov g2) tc tf bl bf of oc ol on ml mx mb kc kh kr ka gl gx gb ls lq lk lg lh vf vs vb nv nw nr nq ne io sp ch wt xf xz xt xb xc)) rfl ?_
  iterate 6 refine x_step rfl ?_
  refine x_iastN (130 * q + 2) rfl rfl (nI_add (130 * q) 2) (by omega) ?_
  refine xm_hs (hp' := (cw L xs (rw th jl js jh jb jc jr (nI q) (upd (upd (upd (jQ) (130 * q) 128) (130 * q + 1) 1) (130 * q + 2) sb) jz jf jo jn jt jH jA (nI m) jy je jp jk jx jw ju jF jL jO jS jT jU jV jW ja jG ov g2) tc tf bl bf of oc ol on ml mx mb kc kh kr ka gl gx gb ls lq lk lg lh vf vs vb nv nw nr nq ne io sp ch wt xf xz xt xb xc)) rfl ?_
  iterate 6 refine x_step rfl ?_
  refine x_iastN (130 * q + 3) rfl rfl (nI_add (130 * q) 3) (by omega) ?_
  refine xm_hs (hp' := (cw L xs (rw th jl js jh jb jc jr (nI q) (upd (upd (upd (upd (jQ) (130 * q) 128) (130 * q + 1) 1) (130 * q + 2) sb) (130 * q + 3) fn) jz jf jo jn jt jH jA (nI m) jy je jp jk jx jw ju jF jL jO jS jT jU jV jW ja jG ov g2) tc tf bl bf of oc ol on ml mx mb kc kh kr ka gl gx gb ls lq lk lg lh vf vs vb nv nw nr nq ne io sp ch wt xf xz xt xb xc)) rfl ?_
  iterate 6 refine x_step rfl ?_
  refine x_iastN (130 * q + 4) rfl rfl (nI_add (130 * q) 4) (by omega) ?_
  refine xm_hs (hp' := (cw L xs (rw th jl js jh jb jc jr (nI q) (upd (upd (upd (upd (upd (jQ) (130 * q) 128) (130 * q + 1) 1) (130 * q + 2) sb) (130 * q + 3) fn) (130 * q + 4) 128) jz jf jo jn jt jH jA (nI m) jy je jp jk jx jw ju jF jL jO jS jT jU jV jW ja jG ov g2) tc tf bl bf of oc ol on ml mx mb kc kh kr ka gl gx gb ls lq lk lg lh vf vs vb nv nw nr nq ne io sp ch wt xf xz xt xb xc)) rfl ?_
  iterate 6 refine x_step rfl ?_
  refine x_iastN (130 * q + 5) rfl rfl (nI_add (130 * q) 5) (by omega) ?_
  refine xm_hs (hp' := (cw L xs (rw th jl js jh jb jc jr (nI q) (upd (upd (upd (upd (upd (upd (jQ) (130 * q) 128) (130 * q + 1) 1) (130 * q + 2) sb) (130 * q + 3) fn) (130 * q + 4) 128) (130 * q + 5) 1) jz jf jo jn jt jH jA (nI m) jy je jp jk jx jw ju jF jL jO jS jT jU jV jW ja jG ov g2) tc tf bl bf of oc ol on ml mx mb kc kh kr ka gl gx gb ls lq lk lg lh vf vs vb nv nw nr nq ne io sp ch wt xf xz xt xb xc)) rfl ?_
  iterate 6 refine x_step rfl ?_
  refine x_iastN (130 * q + 6) rfl rfl (nI_add (130 * q) 6) (by omega) ?_
  refine xm_hs (hp' := (cw L xs (rw th jl js jh jb jc jr (nI q) (upd (upd (upd (upd (upd (upd (upd (jQ) (130 * q) 128) (130 * q + 1) 1) (130 * q + 2) sb) (130 * q + 3) fn) (130 * q + 4) 128) (130 * q + 5) 1) (130 * q + 6) s0) jz jf jo jn jt jH jA (nI m) jy je jp jk jx jw ju jF jL jO jS jT jU jV jW ja jG ov g2) tc tf bl bf of oc ol on ml mx mb kc kh kr ka gl gx gb ls lq lk lg lh vf vs vb nv nw nr nq ne io sp ch wt xf xz xt xb xc)) rfl ?_
  iterate 6 refine x_step rfl ?_
  refine x_iastN (130 * q + 7) rfl rfl (nI_add (130 * q) 7) (by omega) ?_
  refine xm_hs (hp' := (cw L xs (rw th jl js jh jb jc jr (nI q) (upd (upd (upd (upd (upd (upd (upd (upd (jQ) (130 * q) 128) (130 * q + 1) 1) (130 * q + 2) sb) (130 * q + 3) fn) (130 * q + 4) 128) (130 * q + 5) 1) (130 * q + 6) s0) (130 * q + 7) s1) jz jf jo jn jt jH jA (nI m) jy je jp jk jx jw ju jF jL jO jS jT jU jV jW ja jG ov g2) tc tf bl bf of oc ol on ml mx mb kc kh kr ka gl gx gb ls lq lk lg lh vf vs vb nv nw nr nq ne io sp ch wt xf xz xt xb xc)) rfl ?_
  iterate 6 refine x_step rfl ?_
  refine x_iastN (130 * q + 8) rfl rfl (nI_add (130 * q) 8) (by omega) ?_
  refine xm_hs (hp' := (cw L xs (rw th jl js jh jb jc jr (nI q) (upd (upd (upd (upd (upd (upd (upd (upd (upd (jQ) (130 * q) 128) (130 * q + 1) 1) (130 * q + 2) sb) (130 * q + 3) fn) (130 * q + 4) 128) (130 * q + 5) 1) (130 * q + 6) s0) (130 * q + 7) s1) (130 * q + 8) s2) jz jf jo jn jt jH jA (nI m) jy je jp jk jx jw ju jF jL jO jS jT jU jV jW ja jG ov g2) tc tf bl bf of oc ol on ml mx mb kc kh kr ka gl gx gb ls lq lk lg lh vf vs vb nv nw nr nq ne io sp ch wt xf xz xt xb xc)) rfl ?_
  iterate 6 refine x_step rfl ?_
  refine x_iastN (130 * q + 9) rfl rfl (nI_add (130 * q) 9) (by omega) ?_
  refine xm_hs (hp' := (cw L xs (rw th jl js jh jb jc jr (nI q) (upd (upd (upd (upd (upd (upd (upd (upd (upd (upd (jQ) (130 * q) 128) (130 * q + 1) 1) (130 * q + 2) sb) (130 * q + 3) fn) (130 * q + 4) 128) (130 * q + 5) 1) (130 * q + 6) s0) (130 * q + 7) s1) (130 * q + 8) s2) (130 * q + 9) s3) jz jf jo jn jt jH jA (nI m) jy je jp jk jx jw ju jF jL jO jS jT jU jV jW ja jG ov g2) tc tf bl bf of oc ol on ml mx mb kc kh kr ka gl gx gb ls lq lk lg lh vf vs vb nv nw nr nq ne io sp ch wt xf xz xt xb xc)) rfl ?_
  iterate 2 refine x_step rfl ?_
  refine xm_hs (hp' := (cw L xs (rw th jl js jh jb jc jr (nI q) (xrcp (xrhd jQ (130 * q) sb fn s0 s1 s2 s3) jy (130 * q + 10) 0) jz jf jo jn jt jH jA (nI m) jy je jp jk jx jw ju jF jL jO jS jT jU jV jW ja jG ov g2) tc tf bl bf of oc ol on ml mx mb kc kh kr ka gl gx gb ls lq lk lg lh vf vs vb nv nw nr nq ne io sp ch wt xf xz xt xb xc)) (by rw [xrcp_0]; rfl) ?_
  exact m181_loop q m sb fn s0 s1 s2 s3 hq hm (xrhd jQ (130 * q) sb fn s0 s1 s2 s3) m 0 (by omega)
/-- FabLinkModel.send -/
theorem m181l (sb fn s0 s1 s2 s3 : Int32) : XM l 181 d 0 0 [.ref 103, .int sb, .int fn, .int s0, .int s1, .int s2, .int s3] (cw L xs (rw th jl js jh jb jc jr (8) jQ jz jf jo jn jt jH jA jm jy je jp jk jx jw ju jF jL jO jS jT jU jV jW ja jG ov g2) tc tf bl bf of oc ol on ml mx mb kc kh kr ka gl gx gb ls lq lk lg lh vf vs vb nv nw nr nq ne io sp ch wt xf xz xt xb xc) (xm_is none (cw L xs (rw th jl js jh jb jc jr (8) jQ jz jf (jo + 1) jn jt jH jA jm jy je jp jk jx jw ju jF jL jO jS jT jU jV jW ja jG ov g2) tc tf bl bf of oc ol on ml mx mb kc kh kr ka gl gx gb ls lq lk lg lh vf vs vb nv nw nr nq ne io sp ch wt xf xz xt xb xc)) := by
  refine XE (pl := [some (.ref 103), some (.int sb), some (.int fn), some (.int s0), some (.int s1), some (.int s2), some (.int s3), none, none]) xg181 rfl ?_
  iterate 3 refine x_step rfl ?_
  refine x_icmp_ne rfl (fun q => absurd rfl q) (fun _ => ?_)
  iterate 6 refine x_step rfl ?_
  exact x_ret rfl rfl ⟨rfl, rfl⟩
/-- FabLinkModel.tell -/
theorem m180 (q m n : Nat) (sb fn : Int32) (hd : 1 ≤ d) (hq : q < 8) (hm : m ≤ 120) (hn : n < 65536) : XM l 180 d 0 0 [.ref 103, .int sb, .int fn] (cw L xs (rw th jl js jh jb jc jr (nI q) jQ jz jf jo (nI n) jt jH jA (nI m) jy je jp jk jx jw ju jF jL jO jS jT jU jV jW ja jG ov g2) tc tf bl bf of oc ol on ml mx mb kc kh kr ka gl gx gb ls lq lk lg lh vf vs vb nv nw nr nq ne io sp ch wt xf xz xt xb xc) (xm_is none (cw L xs (rw th jl js jh jb jc jr (nI (q + 1)) (xrcp (xrhd jQ (130 * q) sb fn 0 0 (nI ((n + 1) % 65536 / 256)) (nI ((n + 1) % 65536 % 256))) jy (130 * q + 10) m) (upd jz q (nI (10 + m))) (upd jf q 0) jo (nI ((n + 1) % 65536)) jt jH jA (nI m) jy je jp jk jx jw ju jF jL jO jS jT jU jV jW ja jG ov g2) tc tf bl bf of oc ol on ml mx mb kc kh kr ka gl gx gb ls lq lk lg lh vf vs vb nv nw nr nq ne io sp ch wt xf xz xt xb xc)) := by
  refine XE (pl := [some (.ref 103), some (.int sb), some (.int fn)]) xg180 rfl ?_
  iterate 5 refine x_step rfl ?_
  refine x_ldc rfl (by decide) ?_
  refine x_iremN (n + 1) (65536) rfl (nI_1 n) rfl ?_
  refine x_step rfl ?_
  refine xm_hs (hp' := (cw L xs (rw th jl js jh jb jc jr (nI q) jQ jz jf jo (nI ((n + 1) % 65536)) jt jH jA (nI m) jy je jp jk jx jw ju jF jL jO jS jT jU jV jW ja jG ov g2) tc tf bl bf of oc ol on ml mx mb kc kh kr ka gl gx gb ls lq lk lg lh vf vs vb nv nw nr nq ne io sp ch wt xf xz xt xb xc)) rfl ?_
  iterate 3 refine x_step rfl ?_
  refine x_icmpN_le (m) (120) rfl rfl rfl (fun _ => ?_) (fun q => False.elim (by omega))
  iterate 8 refine x_step rfl ?_
  refine x_idivN ((n + 1) % 65536) (256) rfl rfl rfl ?_
  iterate 3 refine x_step rfl ?_
  refine x_iremN ((n + 1) % 65536) (256) rfl rfl rfl ?_
  refine x_callvE rfl (m181 (d := 0) q m sb fn 0 0 (nI ((n + 1) % 65536 / 256)) (nI ((n + 1) % 65536 % 256)) hq hm) rfl rfl rfl ?_
  exact x_ret rfl rfl ⟨rfl, rfl⟩
/-- FabLinkModel.tell -/
theorem m180f (m n : Nat) (sb fn : Int32) (hd : 1 ≤ d) (hm : m ≤ 120) (hn : n < 65536) : XM l 180 d 0 0 [.ref 103, .int sb, .int fn] (cw L xs (rw th jl js jh jb jc jr (8) jQ jz jf jo (nI n) jt jH jA (nI m) jy je jp jk jx jw ju jF jL jO jS jT jU jV jW ja jG ov g2) tc tf bl bf of oc ol on ml mx mb kc kh kr ka gl gx gb ls lq lk lg lh vf vs vb nv nw nr nq ne io sp ch wt xf xz xt xb xc) (xm_is none (cw L xs (rw th jl js jh jb jc jr (8) jQ jz jf (jo + 1) (nI ((n + 1) % 65536)) jt jH jA (nI m) jy je jp jk jx jw ju jF jL jO jS jT jU jV jW ja jG ov g2) tc tf bl bf of oc ol on ml mx mb kc kh kr ka gl gx gb ls lq lk lg lh vf vs vb nv nw nr nq ne io sp ch wt xf xz xt xb xc)) := by
  refine XE (pl := [some (.ref 103), some (.int sb), some (.int fn)]) xg180 rfl ?_
  iterate 5 refine x_step rfl ?_
  refine x_ldc rfl (by decide) ?_
  refine x_iremN (n + 1) (65536) rfl (nI_1 n) rfl ?_
  refine x_step rfl ?_
  refine xm_hs (hp' := (cw L xs (rw th jl js jh jb jc jr (8) jQ jz jf jo (nI ((n + 1) % 65536)) jt jH jA (nI m) jy je jp jk jx jw ju jF jL jO jS jT jU jV jW ja jG ov g2) tc tf bl bf of oc ol on ml mx mb kc kh kr ka gl gx gb ls lq lk lg lh vf vs vb nv nw nr nq ne io sp ch wt xf xz xt xb xc)) rfl ?_
  iterate 3 refine x_step rfl ?_
  refine x_icmpN_le (m) (120) rfl rfl rfl (fun _ => ?_) (fun q => False.elim (by omega))
  iterate 8 refine x_step rfl ?_
  refine x_idivN ((n + 1) % 65536) (256) rfl rfl rfl ?_
  iterate 3 refine x_step rfl ?_
  refine x_iremN ((n + 1) % 65536) (256) rfl rfl rfl ?_
  refine x_callvE rfl (m181l (d := 0) sb fn 0 0 (nI ((n + 1) % 65536 / 256)) (nI ((n + 1) % 65536 % 256))) rfl rfl rfl ?_
  exact x_ret rfl rfl ⟨rfl, rfl⟩
/-- FabLinkModel.tell -/
theorem m180b (m n : Nat) (sb fn : Int32) (hm : 120 < m) (hm2 : m < 2 ^ 30) (hn : n < 65536) : XM l 180 d 0 0 [.ref 103, .int sb, .int fn] (cw L xs (rw th jl js jh jb jc jr jq jQ jz jf jo (nI n) jt jH jA (nI m) jy je jp jk jx jw ju jF jL jO jS jT jU jV jW ja jG ov g2) tc tf bl bf of oc ol on ml mx mb kc kh kr ka gl gx gb ls lq lk lg lh vf vs vb nv nw nr nq ne io sp ch wt xf xz xt xb xc) (xm_is none (cw L xs (rw th jl js jh jb jc jr jq jQ jz jf (jo + 1) (nI ((n + 1) % 65536)) jt jH jA (nI m) jy je jp jk jx jw ju jF jL jO jS jT jU jV jW ja jG ov g2) tc tf bl bf of oc ol on ml mx mb kc kh kr ka gl gx gb ls lq lk lg lh vf vs vb nv nw nr nq ne io sp ch wt xf xz xt xb xc)) := by
  refine XE (pl := [some (.ref 103), some (.int sb), some (.int fn)]) xg180 rfl ?_
  iterate 5 refine x_step rfl ?_
  refine x_ldc rfl (by decide) ?_
  refine x_iremN (n + 1) (65536) rfl (nI_1 n) rfl ?_
  refine x_step rfl ?_
  refine xm_hs (hp' := (cw L xs (rw th jl js jh jb jc jr jq jQ jz jf jo (nI ((n + 1) % 65536)) jt jH jA (nI m) jy je jp jk jx jw ju jF jL jO jS jT jU jV jW ja jG ov g2) tc tf bl bf of oc ol on ml mx mb kc kh kr ka gl gx gb ls lq lk lg lh vf vs vb nv nw nr nq ne io sp ch wt xf xz xt xb xc)) rfl ?_
  iterate 3 refine x_step rfl ?_
  refine x_icmpN_le (m) (120) rfl rfl rfl (fun q => False.elim (by omega)) (fun _ => ?_)
  iterate 7 refine x_step rfl ?_
  exact x_ret rfl rfl ⟨rfl, rfl⟩
/-- FabLinkModel.enable -/
theorem m231t (x : Int32) (h : x = je) : XM l 231 d 0 0 [.ref 103, .int x] (cw L xs (rw th jl js jh jb jc jr jq jQ jz jf jo jn jt jH jA jm jy je jp jk jx jw ju jF jL jO jS jT jU jV jW ja jG ov g2) tc tf bl bf of oc ol on ml mx mb kc kh kr ka gl gx gb ls lq lk lg lh vf vs vb nv nw nr nq ne io sp ch wt xf xz xt xb xc) (xm_is none (cw L xs (rw (1) jl js jh jb jc jr jq jQ jz jf jo jn jt jH jA jm jy je jp jk jx jw ju jF jL jO jS jT jU jV jW ja jG ov g2) tc tf bl bf of oc ol on ml mx mb kc kh kr ka gl gx gb ls lq lk lg lh vf vs vb nv nw nr nq ne io sp ch wt xf xz xt xb xc)) := by
  refine XE (pl := [some (.ref 103), some (.int x)]) xg231 rfl ?_
  iterate 4 refine x_step rfl ?_
  refine x_icmp_ne rfl (fun q => absurd h q) (fun _ => ?_)
  iterate 5 refine x_step rfl ?_
  refine x_if_eq rfl (fun q => absurd q (by decide)) (fun _ => ?_)
  exact x_ret rfl rfl ⟨rfl, rfl⟩
/-- FabLinkModel.enable -/
theorem m231f (hd : 1 ≤ d) (h : je = 1) (h2 : ¬ (jl = 0 ∧ ¬ jq ≤ 0)) : XM l 231 d 0 0 [.ref 103, .int 0] (cw L xs (rw th jl js jh jb jc jr jq jQ jz jf jo jn jt jH jA jm jy je jp jk jx jw ju jF jL jO jS jT jU jV jW ja jG ov g2) tc tf bl bf of oc ol on ml mx mb kc kh kr ka gl gx gb ls lq lk lg lh vf vs vb nv nw nr nq ne io sp ch wt xf xz xt xb xc) (xm_is none (cw L xs (rw (0) jl js jh jb jc jr jq jQ jz jf jo jn jt jH jA jm jy (0) (0) jk jx jw ju jF jL jO jS jT jU jV jW ja jG ov g2) tc tf bl bf of oc ol on ml mx mb kc kh kr ka gl gx gb ls lq lk lg lh vf vs vb nv nw nr nq ne io sp ch wt xf xz xt xb xc)) := by
  refine XE (pl := [some (.ref 103), some (.int 0)]) xg231 rfl ?_
  iterate 4 refine x_step rfl ?_
  refine x_icmp_ne rfl (fun _ => ?_) (fun q => absurd q (by rw [h]; decide))
  iterate 4 refine x_step rfl ?_
  refine x_if_eq rfl (fun _ => ?_) (fun q => absurd (by decide) q)
  iterate 2 refine x_step rfl ?_
  refine x_putf rfl rfl (Nat.le_of_ble_eq_true rfl) (by decide) rfl rfl ?_
  iterate 2 refine x_step rfl ?_
  refine x_putf rfl rfl (Nat.le_of_ble_eq_true rfl) (by decide) rfl rfl ?_
  refine x_step rfl ?_
  refine x_if_eq rfl (fun _ => ?_) (fun q => absurd (by decide) q)
  refine xm_hs (hp' := (cw L xs (rw (0) jl js jh jb jc jr jq jQ jz jf jo jn jt jH jA jm jy (0) (0) jk jx jw ju jF jL jO jS jT jU jV jW ja jG ov g2) tc tf bl bf of oc ol on ml mx mb kc kh kr ka gl gx gb ls lq lk lg lh vf vs vb nv nw nr nq ne io sp ch wt xf xz xt xb xc)) rfl ?_
  refine x_step rfl ?_
  refine x_callvE rfl (m228a (d := 0) h2) rfl rfl rfl ?_
  exact x_ret rfl rfl ⟨rfl, rfl⟩
/-- FabLinkModel.enable -/
theorem m231sn (hd : 4 ≤ d) (h : je = 0) (q n : Nat) (hq : q < 8) (hn : n < 65536) (h1 : ¬ jl = 0) : XM l 231 d 0 0 [.ref 103, .int 1] (cw L xs (rw th jl js jh jb jc jr (nI q) jQ jz jf jo (nI n) jt jH jA jm jy je jp jk jx jw ju jF jL jO jS jT jU jV jW ja jG ov g2) tc tf bl bf of oc ol on ml mx mb kc kh kr ka gl gx gb ls lq lk lg lh vf vs vb nv nw nr nq ne io sp ch wt xf xz xt xb xc) (xm_is none (cw L xs (rw (0) jl js jh jb jc jr (nI (q + 1)) (xrcp (xrhd jQ (130 * q) 129 13 0 0 (nI ((n + 1) % 65536 / 256)) (nI ((n + 1) % 65536 % 256))) (xrname jy) (130 * q + 10) 9) (upd jz q (nI (10 + 9))) (upd jf q 0) jo (nI ((n + 1) % 65536)) jt jH jA (nI 9) (xrname jy) (1) (0) jk jx jw ju jF jL jO jS jT jU jV jW ja jG ov g2) tc tf bl bf of oc ol on ml mx mb kc kh kr ka gl gx gb ls lq lk lg lh vf vs vb nv nw nr nq ne io sp ch wt xf xz xt xb xc)) := by
  refine XE (pl := [some (.ref 103), some (.int 1)]) xg231 rfl ?_
  iterate 4 refine x_step rfl ?_
  refine x_icmp_ne rfl (fun _ => ?_) (fun q => absurd q (by rw [h]; decide))
  iterate 4 refine x_step rfl ?_
  refine x_if_eq rfl (fun _ => ?_) (fun q => absurd (by decide) q)
  iterate 2 refine x_step rfl ?_
  refine x_putf rfl rfl (Nat.le_of_ble_eq_true rfl) (by decide) rfl rfl ?_
  iterate 2 refine x_step rfl ?_
  refine x_putf rfl rfl (Nat.le_of_ble_eq_true rfl) (by decide) rfl rfl ?_
  refine x_step rfl ?_
  refine x_if_eq rfl (fun q => absurd q (by decide)) (fun _ => ?_)
  iterate 3 refine x_step rfl ?_
  refine xm_hs (hp' := (cw L xs (rw (0) jl js jh jb jc jr (nI q) jQ jz jf jo (nI n) jt jH jA (0) jy (1) (0) jk jx jw ju jF jL jO jS jT jU jV jW ja jG ov g2) tc tf bl bf of oc ol on ml mx mb kc kh kr ka gl gx gb ls lq lk lg lh vf vs vb nv nw nr nq ne io sp ch wt xf xz xt xb xc)) rfl ?_
  refine x_step rfl ?_
  refine x_callvE rfl (m206 (d := 2) (by omega)) rfl rfl rfl ?_
  iterate 3 refine x_step rfl ?_
  refine x_callvE rfl (m180 (d := 2) q 9 n 129 13 (by omega) hq (by decide) hn) rfl rfl rfl ?_
  refine x_step rfl ?_
  refine x_callvE rfl (m228a (d := 0) (fun z => h1 z.1)) rfl rfl rfl ?_
  exact x_ret rfl rfl ⟨rfl, rfl⟩
/-- FabLinkModel.enable -/
theorem m231ln (hd : 4 ≤ d) (h : je = 0) (n : Nat) (hn : n < 65536) (h1 : ¬ jl = 0) : XM l 231 d 0 0 [.ref 103, .int 1] (cw L xs (rw th jl js jh jb jc jr (8) jQ jz jf jo (nI n) jt jH jA jm jy je jp jk jx jw ju jF jL jO jS jT jU jV jW ja jG ov g2) tc tf bl bf of oc ol on ml mx mb kc kh kr ka gl gx gb ls lq lk lg lh vf vs vb nv nw nr nq ne io sp ch wt xf xz xt xb xc) (xm_is none (cw L xs (rw (0) jl js jh jb jc jr (8) jQ jz jf (jo + 1) (nI ((n + 1) % 65536)) jt jH jA (nI 9) (xrname jy) (1) (0) jk jx jw ju jF jL jO jS jT jU jV jW ja jG ov g2) tc tf bl bf of oc ol on ml mx mb kc kh kr ka gl gx gb ls lq lk lg lh vf vs vb nv nw nr nq ne io sp ch wt xf xz xt xb xc)) := by
  refine XE (pl := [some (.ref 103), some (.int 1)]) xg231 rfl ?_
  iterate 4 refine x_step rfl ?_
  refine x_icmp_ne rfl (fun _ => ?_) (fun q => absurd q (by rw [h]; decide))
  iterate 4 refine x_step rfl ?_
  refine x_if_eq rfl (fun _ => ?_) (fun q => absurd (by decide) q)
  iterate 2 refine x_step rfl ?_
  refine x_putf rfl rfl (Nat.le_of_ble_eq_true rfl) (by decide) rfl rfl ?_
  iterate 2 refine x_step rfl ?_
  refine x_putf rfl rfl (Nat.le_of_ble_eq_true rfl) (by decide) rfl rfl ?_
  refine x_step rfl ?_
  refine x_if_eq rfl (fun q => absurd q (by decide)) (fun _ => ?_)
  iterate 3 refine x_step rfl ?_
  refine xm_hs (hp' := (cw L xs (rw (0) jl js jh jb jc jr (8) jQ jz jf jo (nI n) jt jH jA (0) jy (1) (0) jk jx jw ju jF jL jO jS jT jU jV jW ja jG ov g2) tc tf bl bf of oc ol on ml mx mb kc kh kr ka gl gx gb ls lq lk lg lh vf vs vb nv nw nr nq ne io sp ch wt xf xz xt xb xc)) rfl ?_
  refine x_step rfl ?_
  refine x_callvE rfl (m206 (d := 2) (by omega)) rfl rfl rfl ?_
  iterate 3 refine x_step rfl ?_
  refine x_callvE rfl (m180f (d := 2) 9 n 129 13 (by omega) (by decide) hn) rfl rfl rfl ?_
  refine x_step rfl ?_
  refine x_callvE rfl (m228a (d := 0) (fun z => h1 z.1)) rfl rfl rfl ?_
  exact x_ret rfl rfl ⟨rfl, rfl⟩
/-- FabLinkModel.enable -/
theorem m231so (hd : 4 ≤ d) (h : je = 0) (q n : Nat) (hq : q < 8) (hn : n < 65536) (h1 : jl = 0) (hc : ¬ jc < 0) : XM l 231 d 0 0 [.ref 103, .int 1] (cw L xs (rw th jl js jh jb jc jr (nI q) jQ jz jf jo (nI n) jt jH jA jm jy je jp jk jx jw ju jF jL jO jS jT jU jV jW ja jG ov g2) tc tf bl bf of oc ol on ml mx mb kc kh kr ka gl gx gb ls lq lk lg lh vf vs vb nv nw nr nq ne io sp ch wt xf xz xt xb xc) (xm_is none (cw L xs (rw (0) (2) (0) jh jb (jc + 1) (xrsay jr jc 5) (nI (q + 1)) (xrcp (xrhd jQ (130 * q) 129 13 0 0 (nI ((n + 1) % 65536 / 256)) (nI ((n + 1) % 65536 % 256))) (xrname jy) (130 * q + 10) 9) (upd jz q (nI (10 + 9))) (upd jf q 0) jo (nI ((n + 1) % 65536)) jt jH jA (nI 9) (xrname jy) (1) (0) jk jx jw ju jF jL jO jS jT jU jV jW ja jG ov g2) tc tf bl bf of oc ol on ml mx mb kc kh kr ka gl gx gb ls lq lk lg lh vf vs vb nv nw nr nq ne io sp ch wt xf xz xt xb xc)) := by
  refine XE (pl := [some (.ref 103), some (.int 1)]) xg231 rfl ?_
  iterate 4 refine x_step rfl ?_
  refine x_icmp_ne rfl (fun _ => ?_) (fun q => absurd q (by rw [h]; decide))
  iterate 4 refine x_step rfl ?_
  refine x_if_eq rfl (fun _ => ?_) (fun q => absurd (by decide) q)
  iterate 2 refine x_step rfl ?_
  refine x_putf rfl rfl (Nat.le_of_ble_eq_true rfl) (by decide) rfl rfl ?_
  iterate 2 refine x_step rfl ?_
  refine x_putf rfl rfl (Nat.le_of_ble_eq_true rfl) (by decide) rfl rfl ?_
  refine x_step rfl ?_
  refine x_if_eq rfl (fun q => absurd q (by decide)) (fun _ => ?_)
  iterate 3 refine x_step rfl ?_
  refine xm_hs (hp' := (cw L xs (rw (0) jl js jh jb jc jr (nI q) jQ jz jf jo (nI n) jt jH jA (0) jy (1) (0) jk jx jw ju jF jL jO jS jT jU jV jW ja jG ov g2) tc tf bl bf of oc ol on ml mx mb kc kh kr ka gl gx gb ls lq lk lg lh vf vs vb nv nw nr nq ne io sp ch wt xf xz xt xb xc)) rfl ?_
  refine x_step rfl ?_
  refine x_callvE rfl (m206 (d := 2) (by omega)) rfl rfl rfl ?_
  iterate 3 refine x_step rfl ?_
  refine x_callvE rfl (m180 (d := 2) q 9 n 129 13 (by omega) hq (by decide) hn) rfl rfl rfl ?_
  refine x_step rfl ?_
  refine x_callvE rfl (m228b (d := 2) (by omega) h1 (nI_nle (by omega) (by omega)) hc) rfl rfl rfl ?_
  exact x_ret rfl rfl ⟨rfl, rfl⟩
/-- FabLinkModel.control -/
theorem m232z {dd : Nat} {h0 h1 : xm_H} {fs : List Value} (hdd : dd < d) (hM : XM l 211 dd 0 0 [.ref 103, .int 0] (cw L xs (rw (0) jl js jh jb jc jr jq jQ jz jf jo jn jt jH jA jm jy je jp jk jx jw ju jF jL jO jS jT jU jV jW ja jG ov g2) tc tf bl bf of oc ol on ml mx mb kc kh kr ka gl gx gb ls lq lk lg lh vf vs vb nv nw nr nq ne io sp ch wt xf xz xt xb xc) (xm_is none h0)) (e0 : h0[103]? = some (xO 12 fs)) (hS : XM l 228 dd 0 0 [.ref 103] h0 (xm_is none h1)) : XM l 232 d 0 0 [.ref 103, .int 0] (cw L xs (rw th jl js jh jb jc jr jq jQ jz jf jo jn jt jH jA jm jy je jp jk jx jw ju jF jL jO jS jT jU jV jW ja jG ov g2) tc tf bl bf of oc ol on ml mx mb kc kh kr ka gl gx gb ls lq lk lg lh vf vs vb nv nw nr nq ne io sp ch wt xf xz xt xb xc) (xm_is none h1) := by
  refine XE (pl := [some (.ref 103), some (.int 0)]) xg232 rfl ?_
  iterate 2 refine x_step rfl ?_
  refine x_if_eq rfl (fun _ => ?_) (fun q => absurd (by decide) q)
  iterate 4 refine x_step rfl ?_
  refine x_if_eq rfl (fun _ => ?_) (fun q => absurd (by decide) q)
  iterate 2 refine x_step rfl ?_
  refine x_if_le rfl (fun _ => ?_) (fun q => absurd (by decide) q)
  iterate 3 refine x_step rfl ?_
  refine xm_hs (hp' := (cw L xs (rw (0) jl js jh jb jc jr jq jQ jz jf jo jn jt jH jA jm jy je jp jk jx jw ju jF jL jO jS jT jU jV jW ja jG ov g2) tc tf bl bf of oc ol on ml mx mb kc kh kr ka gl gx gb ls lq lk lg lh vf vs vb nv nw nr nq ne io sp ch wt xf xz xt xb xc)) rfl ?_
  iterate 2 refine x_step rfl ?_
  refine x_callvE rfl (hM) rfl rfl rfl ?_
  refine x_step rfl ?_
  refine x_callvE rfl hS rfl rfl e0 ?_
  exact x_ret rfl rfl ⟨rfl, rfl⟩
/-- FabLinkModel.control -/
theorem m232_2 {dd : Nat} {h0 h1 : xm_H} {fs : List Value} (hdd : dd < d) (hM : XM l 211 dd 0 0 [.ref 103, .int 2] (cw L xs (rw (0) jl js jh jb jc jr jq jQ jz jf jo jn jt jH jA jm jy je jp jk (2) jw ju jF jL jO jS jT jU jV jW ja jG ov g2) tc tf bl bf of oc ol on ml mx mb kc kh kr ka gl gx gb ls lq lk lg lh vf vs vb nv nw nr nq ne io sp ch wt xf xz xt xb xc) (xm_is none h0)) (e0 : h0[103]? = some (xO 12 fs)) (hS : XM l 228 dd 0 0 [.ref 103] h0 (xm_is none h1)) : XM l 232 d 0 0 [.ref 103, .int 2] (cw L xs (rw th jl js jh jb jc jr jq jQ jz jf jo jn jt jH jA jm jy je jp jk jx jw ju jF jL jO jS jT jU jV jW ja jG ov g2) tc tf bl bf of oc ol on ml mx mb kc kh kr ka gl gx gb ls lq lk lg lh vf vs vb nv nw nr nq ne io sp ch wt xf xz xt xb xc) (xm_is none h1) := by
  refine XE (pl := [some (.ref 103), some (.int 2)]) xg232 rfl ?_
  iterate 2 refine x_step rfl ?_
  refine x_if_eq rfl (fun q => absurd q (by decide)) (fun _ => ?_)
  iterate 2 refine x_step rfl ?_
  refine x_icmp_eq rfl (fun _ => ?_) (fun q => absurd (by decide) q)
  iterate 4 refine x_step rfl ?_
  refine x_if_eq rfl (fun _ => ?_) (fun q => absurd (by decide) q)
  iterate 2 refine x_step rfl ?_
  refine x_if_le rfl (fun q => absurd q (by decide)) (fun _ => ?_)
  iterate 3 refine x_step rfl ?_
  refine xm_hs (hp' := (cw L xs (rw (0) jl js jh jb jc jr jq jQ jz jf jo jn jt jH jA jm jy je jp jk (2) jw ju jF jL jO jS jT jU jV jW ja jG ov g2) tc tf bl bf of oc ol on ml mx mb kc kh kr ka gl gx gb ls lq lk lg lh vf vs vb nv nw nr nq ne io sp ch wt xf xz xt xb xc)) rfl ?_
  iterate 2 refine x_step rfl ?_
  refine x_callvE rfl (hM) rfl rfl rfl ?_
  refine x_step rfl ?_
  refine x_callvE rfl hS rfl rfl e0 ?_
  exact x_ret rfl rfl ⟨rfl, rfl⟩
/-- FabLinkModel.control -/
theorem m232_3 {dd : Nat} {h0 h1 : xm_H} {fs : List Value} (hdd : dd < d) (hM : XM l 211 dd 0 0 [.ref 103, .int 3] (cw L xs (rw (0) jl js jh jb jc jr jq jQ jz jf jo jn jt jH jA jm jy je jp jk (3) jw ju jF jL jO jS jT jU jV jW ja jG ov g2) tc tf bl bf of oc ol on ml mx mb kc kh kr ka gl gx gb ls lq lk lg lh vf vs vb nv nw nr nq ne io sp ch wt xf xz xt xb xc) (xm_is none h0)) (e0 : h0[103]? = some (xO 12 fs)) (hS : XM l 228 dd 0 0 [.ref 103] h0 (xm_is none h1)) : XM l 232 d 0 0 [.ref 103, .int 3] (cw L xs (rw th jl js jh jb jc jr jq jQ jz jf jo jn jt jH jA jm jy je jp jk jx jw ju jF jL jO jS jT jU jV jW ja jG ov g2) tc tf bl bf of oc ol on ml mx mb kc kh kr ka gl gx gb ls lq lk lg lh vf vs vb nv nw nr nq ne io sp ch wt xf xz xt xb xc) (xm_is none h1) := by
  refine XE (pl := [some (.ref 103), some (.int 3)]) xg232 rfl ?_
  iterate 2 refine x_step rfl ?_
  refine x_if_eq rfl (fun q => absurd q (by decide)) (fun _ => ?_)
  iterate 2 refine x_step rfl ?_
  refine x_icmp_eq rfl (fun q => absurd q (by decide)) (fun _ => ?_)
  iterate 2 refine x_step rfl ?_
  refine x_icmp_eq rfl (fun _ => ?_) (fun q => absurd (by decide) q)
  iterate 4 refine x_step rfl ?_
  refine x_if_eq rfl (fun _ => ?_) (fun q => absurd (by decide) q)
  iterate 2 refine x_step rfl ?_
  refine x_if_le rfl (fun q => absurd q (by decide)) (fun _ => ?_)
  iterate 3 refine x_step rfl ?_
  refine xm_hs (hp' := (cw L xs (rw (0) jl js jh jb jc jr jq jQ jz jf jo jn jt jH jA jm jy je jp jk (3) jw ju jF jL jO jS jT jU jV jW ja jG ov g2) tc tf bl bf of oc ol on ml mx mb kc kh kr ka gl gx gb ls lq lk lg lh vf vs vb nv nw nr nq ne io sp ch wt xf xz xt xb xc)) rfl ?_
  iterate 2 refine x_step rfl ?_
  refine x_callvE rfl (hM) rfl rfl rfl ?_
  refine x_step rfl ?_
  refine x_callvE rfl hS rfl rfl e0 ?_
  exact x_ret rfl rfl ⟨rfl, rfl⟩
end RK
