section EH
variable {l : Launch} {d L : Nat} {xs : Nat → Int32} {g : xm_H} {tc : Int32} {tf : (Nat → Int32)} {bl : Int32} {bf : (Nat → Int32)} {of : Int32} {oc : Int32} {ol : Int32} {on : Int32} {ml : (Nat → Int32)} {mx : (Nat → Int32)} {mb : (Nat → Nat → Int32)} {kc : Int32} {kh : (Nat → Nat)} {kr : (Nat → Nat → Int32)} {ka : (Nat → Int32)} {gl : Int32} {gx : Int32} {gb : (Nat → Int32)} {ls : Int32} {lq : Int32} {lk : Int32} {lg : Int32} {lh : Int32} {vf : (Nat → Int32)} {vs : (Nat → Int32)} {vb : (Nat → Nat → Int32)} {nv : (Nat → Int32)} {nw : (Nat → Nat → Int32)} {nr : (Nat → Int32)} {nq : (Nat → Nat → Int32)} {ne : (Nat → Int32)} {io : Int32} {sp : Int32} {ch : Int32} {wt : Int32} {xf : (Nat → Int32)} {xz : (Nat → Int32)} {xt : (Nat → Int32)} {xb : (Nat → Int32)} {xc : Int32}
variable {hp : xm_H}
/-- Line.takesMessageBy: a free line, no offer -/
theorem m46a (x : Int32) (h : ls = 0) (hx : ¬ x = 5) : XM l 46 d 0 0 [.ref 66, .int x] (cw L xs g tc tf bl bf of oc ol on ml mx mb kc kh kr ka gl gx gb ls lq lk lg lh vf vs vb nv nw nr nq ne io sp ch wt xf xz xt xb xc) (xm_is (some (.int 0)) (cw L xs g tc tf bl bf of oc ol on ml mx mb kc kh kr ka gl gx gb ls lq lk lg lh vf vs vb nv nw nr nq ne io sp ch wt xf xz xt xb xc)) := by
  subst h
  refine XE (pl := [some (.ref 66), some (.int x)]) xg46 rfl ?_
  iterate 2 refine x_step rfl ?_
  refine x_tswOut rfl (Or.inl (by decide)) (t := 56) (by decide) ?_
  iterate 2 refine x_step rfl ?_
  refine x_icmp_ne rfl (fun q => ?_) (fun q => absurd q hx)
  refine x_step rfl ?_
  exact x_iret rfl rfl rfl ⟨rfl, rfl⟩
/-- Line.takesMessageBy: a free line, an offer -/
theorem m46b (hd : 3 ≤ d) (h : ls = 0) (hc : vp_in (xfm tc 501) 501) : XM l 46 d 0 0 [.ref 66, .int 5] (cw L xs g tc tf bl bf of oc ol on ml mx mb kc kh kr ka gl gx gb ls lq lk lg lh vf vs vb nv nw nr nq ne io sp ch wt xf xz xt xb xc) (xm_is (some (.int 0)) (cw L xs g (tc + 1) (xsay tf tc 4) bl bf of oc ol on ml mx mb kc kh kr ka gl gx gb (1) (0) (0) (0) (0) vf vs vb nv nw nr nq ne io sp ch wt xf xz xt xb xc)) := by
  subst h
  refine XE (pl := [some (.ref 66), some (.int 5)]) xg46 rfl ?_
  iterate 2 refine x_step rfl ?_
  refine x_tswOut rfl (Or.inl (by decide)) (t := 56) (by decide) ?_
  iterate 2 refine x_step rfl ?_
  refine x_icmp_ne rfl (fun q => absurd rfl q) (fun q => ?_)
  refine x_step rfl ?_
  refine x_callvE rfl (m63 (d := 2) (by omega) hc) rfl rfl rfl ?_
  refine x_step rfl ?_
  exact x_iret rfl rfl rfl ⟨rfl, rfl⟩
/-- Line.takesMessageBy: while reading -/
theorem m46c {dd : Nat} {r : Int32} {h0 : xm_H} (x : Int32) (hdd : dd < d) (h : ls = 1) (hr : narrow .boolean (.int r) = .int r) (hM : XM l 47 dd 0 0 [.ref 66, .int x] (cw L xs g tc tf bl bf of oc ol on ml mx mb kc kh kr ka gl gx gb ls lq lk lg lh vf vs vb nv nw nr nq ne io sp ch wt xf xz xt xb xc) (xm_is (some (.int r)) h0)) : XM l 46 d 0 0 [.ref 66, .int x] (cw L xs g tc tf bl bf of oc ol on ml mx mb kc kh kr ka gl gx gb ls lq lk lg lh vf vs vb nv nw nr nq ne io sp ch wt xf xz xt xb xc) (xm_is (some (.int r)) h0) := by
  subst h
  refine XE (pl := [some (.ref 66), some (.int x)]) xg46 rfl ?_
  iterate 2 refine x_step rfl ?_
  refine x_tswIn rfl (by decide) (by decide) rfl (t := 32) (by decide) ?_
  iterate 2 refine x_step rfl ?_
  refine x_callvE rfl hM rfl rfl rfl ?_
  exact x_iret rfl rfl hr ⟨rfl, rfl⟩
/-- Line.takesMessageBy: offering, no go-on -/
theorem m46d (x : Int32) (h : ls = 2) (hx : ¬ x = 4) : XM l 46 d 0 0 [.ref 66, .int x] (cw L xs g tc tf bl bf of oc ol on ml mx mb kc kh kr ka gl gx gb ls lq lk lg lh vf vs vb nv nw nr nq ne io sp ch wt xf xz xt xb xc) (xm_is (some (.int 0)) (cw L xs g tc tf bl bf of oc ol on ml mx mb kc kh kr ka gl gx gb ls lq lk lg lh vf vs vb nv nw nr nq ne io sp ch wt xf xz xt xb xc)) := by
  subst h
  refine XE (pl := [some (.ref 66), some (.int x)]) xg46 rfl ?_
  iterate 2 refine x_step rfl ?_
  refine x_tswIn rfl (by decide) (by decide) rfl (t := 38) (by decide) ?_
  iterate 2 refine x_step rfl ?_
  refine x_icmp_ne rfl (fun q => ?_) (fun q => absurd q hx)
  refine x_step rfl ?_
  exact x_iret rfl rfl rfl ⟨rfl, rfl⟩
/-- FabLink.hear: the byte is no offer, the line stays free -/
theorem m45a (x : Int32) (h0 : ¬ x < 0) (h1 : x ≤ 255) (hd : 3 ≤ d) (h : ls = 0) (hx : ¬ x = 5) (ho : oc ≤ 0) : XM l 45 d 1 6 [.ref 32, .int x] (cw L xs g tc tf bl bf of oc ol on ml mx mb kc kh kr ka gl gx gb ls lq lk lg lh vf vs vb nv nw nr nq ne io sp ch wt xf xz xt xb xc) (xm_is (some (.int (tc - tc))) (cw L xs g tc tf bl bf of oc ol on ml mx mb kc kh kr ka gl gx gb ls lq lk lg lh vf vs vb nv nw nr nq ne io sp ch wt xf xz xt xb xc)) := by
  refine XE (pl := [some (.ref 32), some (.int x), none]) xg45 rfl ?_
  refine x_step rfl ?_
  refine x_if_lt rfl (fun q => absurd q h0) (fun _ => ?_)
  iterate 2 refine x_step rfl ?_
  refine x_icmp_le rfl (fun _ => ?_) (fun q => absurd h1 q)
  iterate 2 refine x_step rfl ?_
  refine x_callvE rfl (m44 (d := 0)) rfl rfl rfl ?_
  iterate 4 refine x_step rfl ?_
  refine x_callvE rfl (m46a (d := 0) x h hx) rfl rfl rfl ?_
  refine x_if_eq rfl (fun _ => ?_) (fun q => absurd rfl q)
  iterate 2 refine x_step rfl ?_
  refine x_callvE rfl (m38a (d := 2) (by omega) (fun q => q.2 ho)) rfl rfl rfl ?_
  iterate 2 refine x_step rfl ?_
  refine x_callvE rfl (m44 (d := 0)) rfl rfl rfl ?_
  iterate 2 refine x_step rfl ?_
  exact x_iret rfl rfl rfl ⟨rfl, rfl⟩
/-- FabLink.hear: an offer at a free line -/
theorem m45b (hd : 4 ≤ d) (h : ls = 0) (hc : vp_in (xfm tc 501) 501) : XM l 45 d 1 6 [.ref 32, .int 5] (cw L xs g tc tf bl bf of oc ol on ml mx mb kc kh kr ka gl gx gb ls lq lk lg lh vf vs vb nv nw nr nq ne io sp ch wt xf xz xt xb xc) (xm_is (some (.int (tc + 1 - tc))) (cw L xs g (tc + 1) (xsay tf tc 4) bl bf of oc ol on ml mx mb kc kh kr ka gl gx gb (1) (0) (0) (0) (0) vf vs vb nv nw nr nq ne io sp ch wt xf xz xt xb xc)) := by
  refine XE (pl := [some (.ref 32), some (.int 5), none]) xg45 rfl ?_
  refine x_step rfl ?_
  refine x_if_lt rfl (fun q => absurd q (by decide)) (fun _ => ?_)
  iterate 2 refine x_step rfl ?_
  refine x_icmp_le rfl (fun _ => ?_) (fun q => absurd (by decide) q)
  iterate 2 refine x_step rfl ?_
  refine x_callvE rfl (m44 (d := 0)) rfl rfl rfl ?_
  iterate 4 refine x_step rfl ?_
  refine x_callvE rfl (m46b (d := 3) (by omega) h hc) rfl rfl rfl ?_
  refine x_if_eq rfl (fun _ => ?_) (fun q => absurd rfl q)
  iterate 2 refine x_step rfl ?_
  refine x_callvE rfl (m38a (d := 2) (by omega) (fun q => absurd q.1 (by decide))) rfl rfl rfl ?_
  iterate 2 refine x_step rfl ?_
  refine x_callvE rfl (m44 (d := 0)) rfl rfl rfl ?_
  iterate 2 refine x_step rfl ?_
  exact x_iret rfl rfl rfl ⟨rfl, rfl⟩
end EH
