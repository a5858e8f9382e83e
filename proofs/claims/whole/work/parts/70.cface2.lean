section EC13
variable {l : Launch} {d L : Nat} {xs : Nat → Int32} {g : xm_H} {tc : Int32} {tf : (Nat → Int32)} {bl : Int32} {bf : (Nat → Int32)} {of : Int32} {oc : Int32} {ol : Int32} {on : Int32} {ml : (Nat → Int32)} {mx : (Nat → Int32)} {mb : (Nat → Nat → Int32)} {kc : Int32} {kh : (Nat → Nat)} {kr : (Nat → Nat → Int32)} {ka : (Nat → Int32)} {gl : Int32} {gx : Int32} {gb : (Nat → Int32)} {ls : Int32} {lq : Int32} {lk : Int32} {lg : Int32} {lh : Int32} {vf : (Nat → Int32)} {vs : (Nat → Int32)} {vb : (Nat → Nat → Int32)} {nv : (Nat → Int32)} {nw : (Nat → Nat → Int32)} {nr : (Nat → Int32)} {nq : (Nat → Nat → Int32)} {ne : (Nat → Int32)} {io : Int32} {sp : Int32} {ch : Int32} {wt : Int32} {xf : (Nat → Int32)} {xz : (Nat → Int32)} {xt : (Nat → Int32)} {xb : (Nat → Int32)} {xc : Int32}
/-- Line.takesMessageBy: the block is said -/
theorem n46s {h0 : xm_H} {dd : Nat} (x : Int32) (hx : x = 4) (hdd : dd < d) (h : ls = 2) (hM : XM l 54 dd 0 0 [.ref 66] (cw L xs g tc tf bl bf of oc ol on ml mx mb kc kh kr ka gl gx gb ls lq lk lg lh vf vs vb nv nw nr nq ne io sp ch wt xf xz xt xb xc) (xm_is none h0)) : XM l 46 d 0 0 [.ref 66, .int x] (cw L xs g tc tf bl bf of oc ol on ml mx mb kc kh kr ka gl gx gb ls lq lk lg lh vf vs vb nv nw nr nq ne io sp ch wt xf xz xt xb xc) (xm_is (some (.int 0)) h0) := by
  subst h hx
  refine XE (pl := [some (.ref 66), some (.int 4)]) xg46 rfl ?_
  iterate 2 refine x_step rfl ?_
  refine x_tswIn rfl (by decide) (by decide) rfl (t := 38) (by decide) ?_
  iterate 2 refine x_step rfl ?_
  refine x_icmp_ne rfl (fun q => absurd rfl q) (fun _ => ?_)
  refine x_step rfl ?_
  refine x_callvE rfl hM rfl rfl rfl ?_
  refine x_step rfl ?_
  exact x_iret rfl rfl rfl ⟨rfl, rfl⟩
theorem n46v {h0 : xm_H} {dd : Nat} (x : Int32) (hdd : dd < d) (h : ls = 3) (hM : XM l 56 dd 0 0 [.ref 66, .int x] (cw L xs g tc tf bl bf of oc ol on ml mx mb kc kh kr ka gl gx gb ls lq lk lg lh vf vs vb nv nw nr nq ne io sp ch wt xf xz xt xb xc) (xm_is none h0)) : XM l 46 d 0 0 [.ref 66, .int x] (cw L xs g tc tf bl bf of oc ol on ml mx mb kc kh kr ka gl gx gb ls lq lk lg lh vf vs vb nv nw nr nq ne io sp ch wt xf xz xt xb xc) (xm_is (some (.int 0)) h0) := by
  subst h
  refine XE (pl := [some (.ref 66), some (.int x)]) xg46 rfl ?_
  iterate 2 refine x_step rfl ?_
  refine x_tswIn rfl (by decide) (by decide) rfl (t := 49) (by decide) ?_
  iterate 2 refine x_step rfl ?_
  refine x_callvE rfl hM rfl rfl rfl ?_
  refine x_step rfl ?_
  exact x_iret rfl rfl rfl ⟨rfl, rfl⟩
/-- FabLink.hear: a message was taken, and it is no request to carry out -/
theorem n45f {bl' : Int32} {bf' : (Nat → Int32)} {oc' : Int32} {ol' : Int32} {on' : Int32} {ml' : (Nat → Int32)} {mx' : (Nat → Int32)} {mb' : (Nat → Nat → Int32)} {kc' : Int32} {kh' : (Nat → Nat)} {ka' : (Nat → Int32)} {sp' : Int32} {vf' : (Nat → Int32)} {vs' : (Nat → Int32)} {vb' : (Nat → Nat → Int32)} {nv' : (Nat → Int32)} {nw' : (Nat → Nat → Int32)} {nr' : (Nat → Int32)} {nq' : (Nat → Nat → Int32)} {ne' : (Nat → Int32)} {wt' : Int32} {tc0 : Int32} {tf0 : (Nat → Int32)} {gl0 : Int32} {gx0 : Int32} {gb0 : (Nat → Int32)} {ls0 : Int32} {lq0 : Int32} {lk0 : Int32} {lg0 : Int32} {lh0 : Int32} {dd : Nat} (x : Int32) (h0x : ¬ x < 0) (h255 : x ≤ 255) (hd : 3 ≤ d) (hdd : dd < d) (hc : vp_in (xfm tc 501) 501) (hM : XM l 46 dd 0 0 [.ref 66, .int x] (cw L xs g (tc0) (tf0) bl bf of oc ol on ml mx mb kc kh kr ka (gl0) (gx0) (gb0) (ls0) (lq0) (lk0) (lg0) (lh0) vf vs vb nv nw nr nq ne io sp ch wt xf xz xt xb xc) (xm_is (some (.int 1)) (cw L xs g tc tf bl bf of oc ol on ml mx mb kc kh kr ka gl gx gb ls lq lk lg lh vf vs vb nv nw nr nq ne io sp ch wt xf xz xt xb xc))) (hA : XM l 64 dd 0 0 [.ref 97] (cw L xs g tc tf bl bf of oc ol on ml mx mb kc kh kr ka gl gx gb ls lq lk lg lh vf vs vb nv nw nr nq ne io sp ch wt xf xz xt xb xc) (xR 0 (fun h => ∃ (xf' xz' xt' xb' : Nat → Int32) (xc' : Int32), h = (cw L xs g tc tf (bl') (bf') of (oc') (ol') (on') (ml') (mx') (mb') (kc') (kh') kr (ka') gl gx gb ls lq lk lg lh (vf') (vs') (vb') (nv') (nw') (nr') (nq') (ne') io (sp') ch (wt') (xf') (xz') (xt') (xb') (xc'))))) : XM l 45 d 1 6 [.ref 32, .int x] (cw L xs g (tc0) (tf0) bl bf of oc ol on ml mx mb kc kh kr ka (gl0) (gx0) (gb0) (ls0) (lq0) (lk0) (lg0) (lh0) vf vs vb nv nw nr nq ne io sp ch wt xf xz xt xb xc) (fun v h => v = some (.int (xsT ls oc' tc - tc0)) ∧ ∃ (xf' xz' xt' xb' : Nat → Int32) (xc' : Int32), h = (cw L xs g (xsT ls oc' tc) (xsF ls oc' tf tc) (bl') (bf') of (oc') (ol') (on') (ml') (mx') (mb') (kc') (kh') kr (ka') gl gx gb (xsL ls oc') (xsQ ls oc' lq) lk lg lh (vf') (vs') (vb') (nv') (nw') (nr') (nq') (ne') io (sp') ch (wt') (xf') (xz') (xt') (xb') (xc'))) := by
  have tail : ∀ h9, (fun h => ∃ (xf' xz' xt' xb' : Nat → Int32) (xc' : Int32), h = (cw L xs g tc tf (bl') (bf') of (oc') (ol') (on') (ml') (mx') (mb') (kc') (kh') kr (ka') gl gx gb ls lq lk lg lh (vf') (vs') (vb') (nv') (nw') (nr') (nq') (ne') io (sp') ch (wt') (xf') (xz') (xt') (xb') (xc'))) h9 → XW l 45 d 1 6 57 [some (.ref 32), some (.int x), some (.int tc0)] [] h9 (fun v h => v = some (.int (xsT ls oc' tc - tc0)) ∧ ∃ (xf' xz' xt' xb' : Nat → Int32) (xc' : Int32), h = (cw L xs g (xsT ls oc' tc) (xsF ls oc' tf tc) (bl') (bf') of (oc') (ol') (on') (ml') (mx') (mb') (kc') (kh') kr (ka') gl gx gb (xsL ls oc') (xsQ ls oc' lq) lk lg lh (vf') (vs') (vb') (nv') (nw') (nr') (nq') (ne') io (sp') ch (wt') (xf') (xz') (xt') (xb') (xc'))) := by
    intro h9
    rintro ⟨xf', xz', xt', xb', xc', rfl⟩
    iterate 2 refine x_step rfl ?_
    refine x_callvE rfl (n38 (d := 2) (by omega) hc) rfl rfl rfl ?_
    iterate 2 refine x_step rfl ?_
    refine x_callvE rfl (m44 (d := 0)) rfl rfl rfl ?_
    iterate 2 refine x_step rfl ?_
    exact x_iret rfl rfl rfl ⟨rfl, xf', xz', xt', xb', xc', rfl⟩
  refine XEq (pl := [some (.ref 32), some (.int x), none]) xg45 rfl ?_
  refine x_step rfl ?_
  refine x_if_lt rfl (fun q => absurd q h0x) (fun _ => ?_)
  iterate 2 refine x_step rfl ?_
  refine x_icmp_le rfl (fun _ => ?_) (fun q => absurd h255 q)
  iterate 2 refine x_step rfl ?_
  refine x_callvE rfl (m44 (d := 0)) rfl rfl rfl ?_
  iterate 4 refine x_step rfl ?_
  refine x_callvE rfl hM rfl rfl rfl ?_
  refine x_if_eq rfl (fun q => absurd q (by decide)) (fun _ => ?_)
  iterate 2 refine x_step rfl ?_
  refine x_callvS rfl hA rfl rfl rfl (fun h9 hq => ?_)
  refine x_if_eq rfl (fun _ => ?_) (fun q => absurd rfl q)
  exact tail _ hq
/-- FabLink.hear: a request is carried out -/
theorem n45t {bl' : Int32} {bf' : (Nat → Int32)} {oc' : Int32} {ol' : Int32} {on' : Int32} {ml' : (Nat → Int32)} {mx' : (Nat → Int32)} {mb' : (Nat → Nat → Int32)} {kc' : Int32} {kh' : (Nat → Nat)} {ka' : (Nat → Int32)} {sp' : Int32} {vf' : (Nat → Int32)} {vs' : (Nat → Int32)} {vb' : (Nat → Nat → Int32)} {nv' : (Nat → Int32)} {nw' : (Nat → Nat → Int32)} {nr' : (Nat → Int32)} {nq' : (Nat → Nat → Int32)} {ne' : (Nat → Int32)} {wt' : Int32} {tc0 : Int32} {tf0 : (Nat → Int32)} {gl0 : Int32} {gx0 : Int32} {gb0 : (Nat → Int32)} {ls0 : Int32} {lq0 : Int32} {lk0 : Int32} {lg0 : Int32} {lh0 : Int32} {dd : Nat} (x : Int32) (h0x : ¬ x < 0) (h255 : x ≤ 255) (hd : 3 ≤ d) (hdd : dd < d) (hc : vp_in (xfm tc 501) 501) (hM : XM l 46 dd 0 0 [.ref 66, .int x] (cw L xs g (tc0) (tf0) bl bf of oc ol on ml mx mb kc kh kr ka (gl0) (gx0) (gb0) (ls0) (lq0) (lk0) (lg0) (lh0) vf vs vb nv nw nr nq ne io sp ch wt xf xz xt xb xc) (xm_is (some (.int 1)) (cw L xs g tc tf bl bf of oc ol on ml mx mb kc kh kr ka gl gx gb ls lq lk lg lh vf vs vb nv nw nr nq ne io sp ch wt xf xz xt xb xc))) (hA : XM l 64 dd 0 0 [.ref 97] (cw L xs g tc tf bl bf of oc ol on ml mx mb kc kh kr ka gl gx gb ls lq lk lg lh vf vs vb nv nw nr nq ne io sp ch wt xf xz xt xb xc) (xR 1 (fun h => ∃ (xf' xz' xt' xb' : Nat → Int32) (xc' : Int32), h = (cw L xs g tc tf bl bf of oc ol on ml mx mb kc kh kr ka gl gx gb ls lq lk lg lh vf vs vb nv nw nr nq ne io sp ch wt (xf') (xz') (xt') (xb') (xc')) ∧ XM l 108 dd 0 0 [.ref 97] (cw L xs g tc tf bl bf of oc ol on ml mx mb kc kh kr ka gl gx gb ls lq lk lg lh vf vs vb nv nw nr nq ne io sp ch wt (xf') (xz') (xt') (xb') (xc')) (xN (fun h => ∃ (xf' xz' xt' xb' : Nat → Int32) (xc' : Int32), h = (cw L xs g tc tf (bl') (bf') of (oc') (ol') (on') (ml') (mx') (mb') (kc') (kh') kr (ka') gl gx gb ls lq lk lg lh (vf') (vs') (vb') (nv') (nw') (nr') (nq') (ne') io (sp') ch (wt') (xf') (xz') (xt') (xb') (xc'))))))) : XM l 45 d 1 6 [.ref 32, .int x] (cw L xs g (tc0) (tf0) bl bf of oc ol on ml mx mb kc kh kr ka (gl0) (gx0) (gb0) (ls0) (lq0) (lk0) (lg0) (lh0) vf vs vb nv nw nr nq ne io sp ch wt xf xz xt xb xc) (fun v h => v = some (.int (xsT ls oc' tc - tc0)) ∧ ∃ (xf' xz' xt' xb' : Nat → Int32) (xc' : Int32), h = (cw L xs g (xsT ls oc' tc) (xsF ls oc' tf tc) (bl') (bf') of (oc') (ol') (on') (ml') (mx') (mb') (kc') (kh') kr (ka') gl gx gb (xsL ls oc') (xsQ ls oc' lq) lk lg lh (vf') (vs') (vb') (nv') (nw') (nr') (nq') (ne') io (sp') ch (wt') (xf') (xz') (xt') (xb') (xc'))) := by
  have tail : ∀ h9, (fun h => ∃ (xf' xz' xt' xb' : Nat → Int32) (xc' : Int32), h = (cw L xs g tc tf (bl') (bf') of (oc') (ol') (on') (ml') (mx') (mb') (kc') (kh') kr (ka') gl gx gb ls lq lk lg lh (vf') (vs') (vb') (nv') (nw') (nr') (nq') (ne') io (sp') ch (wt') (xf') (xz') (xt') (xb') (xc'))) h9 → XW l 45 d 1 6 57 [some (.ref 32), some (.int x), some (.int tc0)] [] h9 (fun v h => v = some (.int (xsT ls oc' tc - tc0)) ∧ ∃ (xf' xz' xt' xb' : Nat → Int32) (xc' : Int32), h = (cw L xs g (xsT ls oc' tc) (xsF ls oc' tf tc) (bl') (bf') of (oc') (ol') (on') (ml') (mx') (mb') (kc') (kh') kr (ka') gl gx gb (xsL ls oc') (xsQ ls oc' lq) lk lg lh (vf') (vs') (vb') (nv') (nw') (nr') (nq') (ne') io (sp') ch (wt') (xf') (xz') (xt') (xb') (xc'))) := by
    intro h9
    rintro ⟨xf', xz', xt', xb', xc', rfl⟩
    iterate 2 refine x_step rfl ?_
    refine x_callvE rfl (n38 (d := 2) (by omega) hc) rfl rfl rfl ?_
    iterate 2 refine x_step rfl ?_
    refine x_callvE rfl (m44 (d := 0)) rfl rfl rfl ?_
    iterate 2 refine x_step rfl ?_
    exact x_iret rfl rfl rfl ⟨rfl, xf', xz', xt', xb', xc', rfl⟩
  refine XEq (pl := [some (.ref 32), some (.int x), none]) xg45 rfl ?_
  refine x_step rfl ?_
  refine x_if_lt rfl (fun q => absurd q h0x) (fun _ => ?_)
  iterate 2 refine x_step rfl ?_
  refine x_icmp_le rfl (fun _ => ?_) (fun q => absurd h255 q)
  iterate 2 refine x_step rfl ?_
  refine x_callvE rfl (m44 (d := 0)) rfl rfl rfl ?_
  iterate 4 refine x_step rfl ?_
  refine x_callvE rfl hM rfl rfl rfl ?_
  refine x_if_eq rfl (fun q => absurd q (by decide)) (fun _ => ?_)
  iterate 2 refine x_step rfl ?_
  refine x_callvS rfl hA rfl rfl rfl (fun h9 hq => ?_)
  obtain ⟨xf', xz', xt', xb', xc', rfl, hC⟩ := hq
  refine x_if_eq rfl (fun q => absurd q (by decide)) (fun _ => ?_)
  iterate 2 refine x_step rfl ?_
  refine x_callvQ rfl hC rfl rfl rfl (fun h9 hq => ?_)
  exact tail _ hq
/-- FabLink.hear: no message was taken; the line's part leaves @cw -/
theorem n45z {tc0 : Int32} {tf0 : (Nat → Int32)} {gl0 : Int32} {gx0 : Int32} {gb0 : (Nat → Int32)} {ls0 : Int32} {lq0 : Int32} {lk0 : Int32} {lg0 : Int32} {lh0 : Int32} {of0 oc0 ol0 kc0 : Int32} {mx0 ka0 : Nat → Int32} {kr0 : Nat → Nat → Int32} {dd : Nat} (x : Int32) (h0x : ¬ x < 0) (h255 : x ≤ 255) (hd : 3 ≤ d) (hdd : dd < d) (hc : vp_in (xfm tc 501) 501) (hM : XM l 46 dd 0 0 [.ref 66, .int x] (cw L xs g (tc0) (tf0) bl bf (of0) (oc0) (ol0) on ml (mx0) mb (kc0) kh (kr0) (ka0) (gl0) (gx0) (gb0) (ls0) (lq0) (lk0) (lg0) (lh0) vf vs vb nv nw nr nq ne io sp ch wt xf xz xt xb xc) (xm_is (some (.int 0)) (cw L xs g tc tf bl bf of oc ol on ml mx mb kc kh kr ka gl gx gb ls lq lk lg lh vf vs vb nv nw nr nq ne io sp ch wt xf xz xt xb xc))) : XM l 45 d 1 6 [.ref 32, .int x] (cw L xs g (tc0) (tf0) bl bf (of0) (oc0) (ol0) on ml (mx0) mb (kc0) kh (kr0) (ka0) (gl0) (gx0) (gb0) (ls0) (lq0) (lk0) (lg0) (lh0) vf vs vb nv nw nr nq ne io sp ch wt xf xz xt xb xc) (xm_is (some (.int (xsT ls oc tc - tc0))) (cw L xs g (xsT ls oc tc) (xsF ls oc tf tc) bl bf of oc ol on ml mx mb kc kh kr ka gl gx gb (xsL ls oc) (xsQ ls oc lq) lk lg lh vf vs vb nv nw nr nq ne io sp ch wt xf xz xt xb xc)) := by
  refine XE (pl := [some (.ref 32), some (.int x), none]) xg45 rfl ?_
  refine x_step rfl ?_
  refine x_if_lt rfl (fun q => absurd q h0x) (fun _ => ?_)
  iterate 2 refine x_step rfl ?_
  refine x_icmp_le rfl (fun _ => ?_) (fun q => absurd h255 q)
  iterate 2 refine x_step rfl ?_
  refine x_callvE rfl (m44 (d := 0)) rfl rfl rfl ?_
  iterate 4 refine x_step rfl ?_
  refine x_callvE rfl hM rfl rfl rfl ?_
  refine x_if_eq rfl (fun _ => ?_) (fun q => absurd rfl q)
  iterate 2 refine x_step rfl ?_
  refine x_callvE rfl (n38 (d := 2) (by omega) hc) rfl rfl rfl ?_
  iterate 2 refine x_step rfl ?_
  refine x_callvE rfl (m44 (d := 0)) rfl rfl rfl ?_
  iterate 2 refine x_step rfl ?_
  exact x_iret rfl rfl rfl ⟨rfl, rfl⟩
theorem n145_of {Q : Option Value → xm_H → Prop} (n : Nat) (h1 : 1 ≤ n) (h2 : n ≤ 60) (hd : 1 ≤ d) (hK : XW l 145 d 1 6 31 [some (.ref 32), some (.int (nI n)), some (.int tc), some (.int (nI 0))] [] (cw L xs g tc tf bl bf of oc ol on ml mx mb kc kh kr ka gl gx gb ls lq lk lg lh vf vs vb nv nw nr nq ne io sp ch wt xf xz xt xb xc) Q) : XM l 145 d 1 6 [.ref 32, .int (nI n)] (cw L xs g tc tf bl bf of oc ol on ml mx mb kc kh kr ka gl gx gb ls lq lk lg lh vf vs vb nv nw nr nq ne io sp ch wt xf xz xt xb xc) Q := by
  refine XEq (pl := [some (.ref 32), some (.int (nI n)), none, none]) xg145 rfl ?_
  iterate 2 refine x_step rfl ?_
  refine x_icmpN_lt n 1 rfl rfl rfl (fun q => False.elim (by omega)) (fun _ => ?_)
  iterate 2 refine x_step rfl ?_
  refine x_icmpN_le n 60 rfl rfl rfl (fun _ => ?_) (fun q => False.elim (by omega))
  iterate 2 refine x_step rfl ?_
  refine x_callvE rfl (m44 (d := 0)) rfl rfl rfl ?_
  iterate 3 refine x_step rfl ?_
  exact hK
theorem n145_step {Q : Option Value → xm_H → Prop} {dd : Nat} {h1 h2 h3 h4 : xm_H} (n i : Nat) (c0 : Int32) (hi : i < n) (hn : n ≤ 60) (hdd : dd < d) (hA : XM l 146 dd 0 0 [.ref 55, .ref 35] (cw L xs g tc tf bl bf of oc ol on ml mx mb kc kh kr ka gl gx gb ls lq lk lg lh vf vs vb nv nw nr nq ne io sp ch wt xf xz xt xb xc) (xm_is none h1)) (e1 : h1[32]? = some (xO 0 [.ref 33, .ref 35, .ref 55, .ref 66, .ref 69, .ref 97])) {g1 : List Value} (f1 : h1[69]? = some (xO 7 g1)) (hB : XM l 147 dd 0 0 [.ref 69] h1 (xm_is none h2)) (e2 : h2[32]? = some (xO 0 [.ref 33, .ref 35, .ref 55, .ref 66, .ref 69, .ref 97])) {g2 : List Value} (f2 : h2[66]? = some (xO 6 g2)) (hC : XM l 148 dd 0 0 [.ref 66] h2 (xm_is none h3)) (e3 : h3[32]? = some (xO 0 [.ref 33, .ref 35, .ref 55, .ref 66, .ref 69, .ref 97])) {g3 : List Value} (f3 : h3[66]? = some (xO 6 g3)) (hD : XM l 38 dd 0 0 [.ref 66] h3 (xm_is none h4)) (hK : XW l 145 d 1 6 31 [some (.ref 32), some (.int (nI n)), some (.int c0), some (.int (nI (i + 1)))] [] h4 Q) : XW l 145 d 1 6 31 [some (.ref 32), some (.int (nI n)), some (.int c0), some (.int (nI i))] [] (cw L xs g tc tf bl bf of oc ol on ml mx mb kc kh kr ka gl gx gb ls lq lk lg lh vf vs vb nv nw nr nq ne io sp ch wt xf xz xt xb xc) Q := by
  iterate 2 refine x_step rfl ?_
  refine x_icmpN_ge i n rfl rfl rfl (fun q => False.elim (by omega)) (fun _ => ?_)
  iterate 4 refine x_step rfl ?_
  refine x_callvE rfl hA rfl rfl rfl ?_
  refine x_step rfl ?_
  refine x_getf rfl e1 rfl ?_
  refine x_callvE rfl hB rfl rfl f1 ?_
  refine x_step rfl ?_
  refine x_getf rfl e2 rfl ?_
  refine x_callvE rfl hC rfl rfl f2 ?_
  refine x_step rfl ?_
  refine x_getf rfl e3 rfl ?_
  refine x_callvE rfl hD rfl rfl f3 ?_
  iterate 2 refine x_step rfl ?_
  refine xm_ls (pl' := [some (.ref 32), some (.int (nI n)), some (.int c0), some (.int (nI (i + 1)))]) (by rw [nI_succ] <;> rfl) ?_
  exact hK
theorem n145_end {Q : Option Value → xm_H → Prop} (n : Nat) (c0 : Int32) (hn : n ≤ 60) (hd : 1 ≤ d) (hQ : Q (some (.int (tc - c0))) (cw L xs g tc tf bl bf of oc ol on ml mx mb kc kh kr ka gl gx gb ls lq lk lg lh vf vs vb nv nw nr nq ne io sp ch wt xf xz xt xb xc)) : XW l 145 d 1 6 31 [some (.ref 32), some (.int (nI n)), some (.int c0), some (.int (nI n))] [] (cw L xs g tc tf bl bf of oc ol on ml mx mb kc kh kr ka gl gx gb ls lq lk lg lh vf vs vb nv nw nr nq ne io sp ch wt xf xz xt xb xc) Q := by
  iterate 2 refine x_step rfl ?_
  refine x_icmpN_ge n n rfl rfl rfl (fun _ => ?_) (fun q => False.elim (by omega))
  iterate 2 refine x_step rfl ?_
  refine x_callvE rfl (m44 (d := 0)) rfl rfl rfl ?_
  iterate 2 refine x_step rfl ?_
  exact x_iret rfl rfl rfl hQ
/-- FabLink.ring -/
theorem n13 {dd : Nat} {h0 h1 : xm_H} {f0 f6 : List Value} {b : Bool} (hdd : dd < d) (hM : XM l 14 dd 0 0 [.ref 69, .int 5] (cw L xs g tc tf bl bf of oc ol on ml mx mb kc kh kr ka gl gx gb ls lq lk lg lh vf vs vb nv nw nr nq ne io sp ch wt xf xz xt xb xc) (xm_is (some (.int (bI b))) h0)) (e0 : h0[32]? = some (xO 0 f0)) (e3 : f0[3]? = some (.ref 66)) (e6 : h0[66]? = some (xO 6 f6)) (hS : XM l 38 dd 0 0 [.ref 66] h0 (xm_is none h1)) : XM l 13 d 1 6 [.ref 32] (cw L xs g tc tf bl bf of oc ol on ml mx mb kc kh kr ka gl gx gb ls lq lk lg lh vf vs vb nv nw nr nq ne io sp ch wt xf xz xt xb xc) (xm_is (some (.int (bI b))) h1) := by
  refine XE (pl := [some (.ref 32), none]) xg13 rfl ?_
  iterate 3 refine x_step rfl ?_
  refine x_callvE rfl hM rfl rfl rfl ?_
  iterate 2 refine x_step rfl ?_
  refine x_getf rfl e0 e3 ?_
  refine x_callvE rfl hS rfl rfl e6 ?_
  refine x_step rfl ?_
  exact x_iret rfl rfl (bI_n _) ⟨rfl, rfl⟩
end EC13
