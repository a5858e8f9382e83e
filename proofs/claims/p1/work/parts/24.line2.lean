section EL2
variable {l : Launch} {d L : Nat} {xs : Nat → Int32} {g : xm_H} {tc : Int32} {tf : (Nat → Int32)} {bl : Int32} {bf : (Nat → Int32)} {of : Int32} {oc : Int32} {ol : Int32} {on : Int32} {ml : (Nat → Int32)} {mx : (Nat → Int32)} {mb : (Nat → Nat → Int32)} {kc : Int32} {kh : (Nat → Nat)} {kr : (Nat → Nat → Int32)} {ka : (Nat → Int32)} {gl : Int32} {gx : Int32} {gb : (Nat → Int32)} {ls : Int32} {lq : Int32} {lk : Int32} {lg : Int32} {lh : Int32} {vf : (Nat → Int32)} {vs : (Nat → Int32)} {vb : (Nat → Nat → Int32)} {nv : (Nat → Int32)} {nw : (Nat → Nat → Int32)} {nr : (Nat → Int32)} {nq : (Nat → Nat → Int32)} {ne : (Nat → Int32)} {io : Int32} {sp : Int32} {ch : Int32} {wt : Int32} {xf : (Nat → Int32)} {xz : (Nat → Int32)} {xt : (Nat → Int32)} {xb : (Nat → Int32)} {xc : Int32}
variable {hp : xm_H}
/-- FabLink.hear: a throw -/
theorem t45 (hfl : l.flags = pinnedFlags ++ [noTraceFlag]) (x : Int32) (h : x < 0 ∨ 255 < x) (hd : 6 ≤ d) : XMT l 45 d 1 6 [.ref 32, .int x] (cw L xs g tc tf bl bf of oc ol on ml mx mb kc kh kr ka gl gx gb ls lq lk lg lh vf vs vb nv nw nr nq ne io sp ch wt xf xz xt xb xc) "java/lang/IllegalArgumentException" (103 + g.length) ((cw L xs g tc tf bl bf of oc ol on ml mx mb kc kh kr ka gl gx gb ls lq lk lg lh vf vs vb nv nw nr nq ne io sp ch wt xf xz xt xb xc) ++ [none]) := by
  refine XET (pl := [some (.ref 32), some (.int x), none]) xg45 rfl ?_
  refine x_stepC rfl ?_
  refine x_if_lt rfl (fun _ => ?_) (fun q => ?_)
  · exact x_thrE hfl xm_tw1 rfl rfl rfl rfl rfl rfl rfl rfl cw_len rfl
  · iterate 2 refine x_stepC rfl ?_
    refine x_icmp_le rfl (fun q2 => absurd (h.resolve_left q) (Int32.not_lt.mpr q2)) (fun _ => ?_)
    exact x_thrE hfl xm_tw1 rfl rfl rfl rfl rfl rfl rfl rfl cw_len rfl
/-- Line.readByte: a wrong length -/
theorem m47a (x : Int32) (hd : 4 ≤ d) (hk : lk = 0) (h : x < 10 ∨ 130 < x) (hc : vp_in (xfm tc 501) 501) : XM l 47 d 0 0 [.ref 66, .int x] (cw L xs g tc tf bl bf of oc ol on ml mx mb kc kh kr ka gl gx gb ls lq lk lg lh vf vs vb nv nw nr nq ne io sp ch wt xf xz xt xb xc) (xm_is (some (.int 0)) (cw L xs g (tc + 1) (xsay tf tc 21) bl bf of oc ol on ml mx mb kc kh kr ka gl gx gb (0) (0) lk lg lh vf vs vb nv nw nr nq ne io sp ch wt xf xz xt xb xc)) := by
  refine XE (pl := [some (.ref 66), some (.int x), none]) xg47 rfl ?_
  iterate 5 refine x_step rfl ?_
  refine x_if_ne rfl (fun q1 => absurd hk q1) (fun q1 => ?_)
  iterate 2 refine x_step rfl ?_
  refine xm_hs (hp' := (cw L xs g tc tf bl bf of oc ol on ml mx mb kc kh kr ka gl gx gb ls (0) lk lg lh vf vs vb nv nw nr nq ne io sp ch wt xf xz xt xb xc)) rfl ?_
  refine x_callvE rfl (m48a (d := 3) x (by omega) h hc) rfl rfl rfl ?_
  refine x_step rfl ?_
  exact x_iret rfl rfl rfl ⟨rfl, rfl⟩
/-- Line.readByte: a right length -/
theorem m47b (x : Int32) (hd : 2 ≤ d) (hk : lk = 0) (h1 : ¬ x < 10) (h2 : ¬ 130 < x) : XM l 47 d 0 0 [.ref 66, .int x] (cw L xs g tc tf bl bf of oc ol on ml mx mb kc kh kr ka gl gx gb ls lq lk lg lh vf vs vb nv nw nr nq ne io sp ch wt xf xz xt xb xc) (xm_is (some (.int 0)) (cw L xs g tc tf bl bf of oc ol on ml mx mb kc kh kr ka (x) (0) gb ls (0) (1) lg lh vf vs vb nv nw nr nq ne io sp ch wt xf xz xt xb xc)) := by
  refine XE (pl := [some (.ref 66), some (.int x), none]) xg47 rfl ?_
  iterate 5 refine x_step rfl ?_
  refine x_if_ne rfl (fun q1 => absurd hk q1) (fun q1 => ?_)
  iterate 2 refine x_step rfl ?_
  refine xm_hs (hp' := (cw L xs g tc tf bl bf of oc ol on ml mx mb kc kh kr ka gl gx gb ls (0) lk lg lh vf vs vb nv nw nr nq ne io sp ch wt xf xz xt xb xc)) rfl ?_
  refine x_callvE rfl (m48b (d := 1) x (by omega) h1 h2) rfl rfl rfl ?_
  refine x_step rfl ?_
  exact x_iret rfl rfl rfl ⟨rfl, rfl⟩
/-- Line.readByte: a byte of the block -/
theorem m47c (x : Int32) (hd : 1 ≤ d) (hk : ¬ lk = 0) (h : lg < gl) (h2 : lg + 1 < gl + 2) : XM l 47 d 0 0 [.ref 66, .int x] (cw L xs g tc tf bl bf of oc ol on ml mx mb kc kh kr ka gl gx gb ls lq lk lg lh vf vs vb nv nw nr nq ne io sp ch wt xf xz xt xb xc) (xm_is (some (.int 0)) (cw L xs g tc tf bl bf of oc ol on ml mx mb kc kh kr ka gl gx (xmset gb lg x) ls (0) lk (lg + 1) lh vf vs vb nv nw nr nq ne io sp ch wt xf xz xt xb xc)) := by
  refine XE (pl := [some (.ref 66), some (.int x), none]) xg47 rfl ?_
  iterate 5 refine x_step rfl ?_
  refine x_if_ne rfl (fun q1 => ?_) (fun q1 => absurd q1 hk)
  iterate 4 refine x_step rfl ?_
  refine x_callvE rfl (m51 (d := 0) (a := 67) (b := 68) rfl) rfl rfl rfl ?_
  refine x_icmp_ge rfl (fun q2 => absurd h (Int32.not_lt.mpr q2)) (fun q2 => ?_)
  iterate 5 refine x_step rfl ?_
  refine x_callvE rfl (m52 (d := 0) (a := 67) (b := 68) lg x (by decide) rfl rfl) rfl rfl rfl ?_
  iterate 11 refine x_step rfl ?_
  refine x_callvE rfl (m51 (d := 0) (a := 67) (b := 68) rfl) rfl rfl rfl ?_
  iterate 2 refine x_step rfl ?_
  refine x_icmp_ge rfl (fun q3 => absurd h2 (Int32.not_lt.mpr q3)) (fun q3 => ?_)
  refine x_step rfl ?_
  exact x_iret rfl rfl rfl ⟨rfl, rfl⟩
/-- Line.readByte: the first byte of the sum -/
theorem m47d (x : Int32) (hd : 1 ≤ d) (hk : ¬ lk = 0) (h : ¬ lg < gl) (h2 : lg + 1 < gl + 2) : XM l 47 d 0 0 [.ref 66, .int x] (cw L xs g tc tf bl bf of oc ol on ml mx mb kc kh kr ka gl gx gb ls lq lk lg lh vf vs vb nv nw nr nq ne io sp ch wt xf xz xt xb xc) (xm_is (some (.int 0)) (cw L xs g tc tf bl bf of oc ol on ml mx mb kc kh kr ka gl gx gb ls (0) lk (lg + 1) (lh * 256 + x) vf vs vb nv nw nr nq ne io sp ch wt xf xz xt xb xc)) := by
  refine XE (pl := [some (.ref 66), some (.int x), none]) xg47 rfl ?_
  iterate 5 refine x_step rfl ?_
  refine x_if_ne rfl (fun q1 => ?_) (fun q1 => absurd q1 hk)
  iterate 4 refine x_step rfl ?_
  refine x_callvE rfl (m51 (d := 0) (a := 67) (b := 68) rfl) rfl rfl rfl ?_
  refine x_icmp_ge rfl (fun q2 => ?_) (fun q2 => absurd (Int32.not_lt.mp h) q2)
  iterate 18 refine x_step rfl ?_
  refine x_callvE rfl (m51 (d := 0) (a := 67) (b := 68) rfl) rfl rfl rfl ?_
  iterate 2 refine x_step rfl ?_
  refine x_icmp_ge rfl (fun q3 => absurd h2 (Int32.not_lt.mpr q3)) (fun q3 => ?_)
  refine x_step rfl ?_
  exact x_iret rfl rfl rfl ⟨rfl, rfl⟩
/-- Line.readByte: the last byte -/
theorem m47e (x : Int32) (hd : 3 ≤ d) (hk : ¬ lk = 0) (h : ¬ lg < gl) (h2 : ¬ lg + 1 < gl + 2) (hc : vp_in (xfm tc 501) 501) : XM l 47 d 0 0 [.ref 66, .int x] (cw L xs g tc tf bl bf of oc ol on ml mx mb kc kh kr ka gl gx gb ls lq lk lg lh vf vs vb nv nw nr nq ne io sp ch wt xf xz xt xb xc) (xm_is (some (.int (if lh * 256 + x = xsum gb gl then 1 else 0))) (cw L xs g (tc + 1) (xsay tf tc (if lh * 256 + x = xsum gb gl then 6 else 21)) bl bf of oc ol on ml mx mb kc kh kr ka gl gx gb (0) (0) lk (lg + 1) (lh * 256 + x) vf vs vb nv nw nr nq ne io sp ch wt xf xz xt xb xc)) := by
  refine XE (pl := [some (.ref 66), some (.int x), none]) xg47 rfl ?_
  iterate 5 refine x_step rfl ?_
  refine x_if_ne rfl (fun q1 => ?_) (fun q1 => absurd q1 hk)
  iterate 4 refine x_step rfl ?_
  refine x_callvE rfl (m51 (d := 0) (a := 67) (b := 68) rfl) rfl rfl rfl ?_
  refine x_icmp_ge rfl (fun q2 => ?_) (fun q2 => absurd (Int32.not_lt.mp h) q2)
  iterate 18 refine x_step rfl ?_
  refine x_callvE rfl (m51 (d := 0) (a := 67) (b := 68) rfl) rfl rfl rfl ?_
  iterate 2 refine x_step rfl ?_
  refine x_icmp_ge rfl (fun q3 => ?_) (fun q3 => absurd (Int32.not_lt.mp h2) q3)
  iterate 4 refine x_step rfl ?_
  refine x_callvE rfl (m53 (d := 0) (a := 67) (b := 68) rfl rfl) rfl rfl rfl ?_
  refine xm_hs (hp' := (cw L xs g tc tf bl bf of oc ol on ml mx mb kc kh kr ka gl gx gb ls (0) lk (lg + 1) (lh * 256 + x) vf vs vb nv nw nr nq ne io sp ch wt xf xz xt xb xc)) rfl ?_
  refine x_icmp_ne rfl (fun q4 => ?_) (fun q4 => ?_)
  · rw [if_neg q4, if_neg q4]
    iterate 4 refine x_step rfl ?_
    refine x_if_eq rfl (fun q5 => ?_) (fun q5 => absurd rfl q5)
    refine x_step rfl ?_
    refine x_callvE rfl (m50 (d := 2) 21 (by omega) hc) rfl rfl rfl ?_
    refine x_step rfl ?_
    exact x_iret rfl rfl rfl ⟨rfl, rfl⟩
  · rw [if_pos q4, if_pos q4]
    iterate 5 refine x_step rfl ?_
    refine x_if_eq rfl (fun q5 => absurd q5 (by decide)) (fun q5 => ?_)
    iterate 2 refine x_step rfl ?_
    refine x_callvE rfl (m50 (d := 2) 6 (by omega) hc) rfl rfl rfl ?_
    refine x_step rfl ?_
    exact x_iret rfl rfl rfl ⟨rfl, rfl⟩
/-- Line.fail: it will be said again -/
theorem m57a (hd : 2 ≤ d) (h : vp_in of 8) (hj : of.toNatClampNeg < 8) (hx : mx of.toNatClampNeg + 1 < 4) : XM l 57 d 0 0 [.ref 66] (cw L xs g tc tf bl bf of oc ol on ml mx mb kc kh kr ka gl gx gb ls lq lk lg lh vf vs vb nv nw nr nq ne io sp ch wt xf xz xt xb xc) (xm_is none (cw L xs g tc tf bl bf of oc ol on (upd ml of.toNatClampNeg (ml of.toNatClampNeg)) (upd mx of.toNatClampNeg (mx of.toNatClampNeg + 1)) mb kc kh kr ka gl gx gb (0) (0) lk lg lh vf vs vb nv nw nr nq ne io sp ch wt xf xz xt xb xc)) := by
  refine XE (pl := [some (.ref 66)]) xg57 rfl ?_
  iterate 2 refine x_step rfl ?_
  refine x_callvE rfl (m58a (d := 1) (by omega) h hj hx) rfl rfl rfl ?_
  iterate 2 refine x_step rfl ?_
  refine x_callvE rfl (m42 (d := 0) 0) rfl rfl rfl ?_
  exact x_ret rfl rfl ⟨rfl, rfl⟩
/-- Line.fail: it is lost -/
theorem m57b (hd : 2 ≤ d) (h : vp_in of 8) (hj : of.toNatClampNeg < 8) (hx : ¬ mx of.toNatClampNeg + 1 < 4) (h0 : ¬ oc ≤ 0) : XM l 57 d 0 0 [.ref 66] (cw L xs g tc tf bl bf of oc ol on ml mx mb kc kh kr ka gl gx gb ls lq lk lg lh vf vs vb nv nw nr nq ne io sp ch wt xf xz xt xb xc) (xm_is none (cw L xs g tc tf bl bf (of + 1 - (of + 1) / 8 * 8) (oc - 1) (ol + 1) on (upd ml of.toNatClampNeg (ml of.toNatClampNeg)) (upd mx of.toNatClampNeg (mx of.toNatClampNeg + 1)) mb kc kh kr ka gl gx gb (0) (0) lk lg lh vf vs vb nv nw nr nq ne io sp ch wt xf xz xt xb xc)) := by
  refine XE (pl := [some (.ref 66)]) xg57 rfl ?_
  iterate 2 refine x_step rfl ?_
  refine x_callvE rfl (m58b (d := 1) (by omega) h hj hx h0) rfl rfl rfl ?_
  iterate 2 refine x_step rfl ?_
  refine x_callvE rfl (m42 (d := 0) 0) rfl rfl rfl ?_
  exact x_ret rfl rfl ⟨rfl, rfl⟩
/-- Line.passUnit: the line is free -/
theorem m148a (h : ls = 0) : XM l 148 d 0 0 [.ref 66] (cw L xs g tc tf bl bf of oc ol on ml mx mb kc kh kr ka gl gx gb ls lq lk lg lh vf vs vb nv nw nr nq ne io sp ch wt xf xz xt xb xc) (xm_is none (cw L xs g tc tf bl bf of oc ol on ml mx mb kc kh kr ka gl gx gb ls lq lk lg lh vf vs vb nv nw nr nq ne io sp ch wt xf xz xt xb xc)) := by
  refine XE (pl := [some (.ref 66), none]) xg148 rfl ?_
  iterate 2 refine x_step rfl ?_
  refine x_if_ne rfl (fun q1 => absurd h q1) (fun q1 => ?_)
  exact x_ret rfl rfl ⟨rfl, rfl⟩
end EL2
