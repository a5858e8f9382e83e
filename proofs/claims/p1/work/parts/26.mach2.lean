section EM2
variable {l : Launch} {d L : Nat} {xs : Nat → Int32} {g : xm_H} {tc : Int32} {tf : (Nat → Int32)} {bl : Int32} {bf : (Nat → Int32)} {of : Int32} {oc : Int32} {ol : Int32} {on : Int32} {ml : (Nat → Int32)} {mx : (Nat → Int32)} {mb : (Nat → Nat → Int32)} {kc : Int32} {kh : (Nat → Nat)} {kr : (Nat → Nat → Int32)} {ka : (Nat → Int32)} {gl : Int32} {gx : Int32} {gb : (Nat → Int32)} {ls : Int32} {lq : Int32} {lk : Int32} {lg : Int32} {lh : Int32} {vf : (Nat → Int32)} {vs : (Nat → Int32)} {vb : (Nat → Nat → Int32)} {nv : (Nat → Int32)} {nw : (Nat → Nat → Int32)} {nr : (Nat → Int32)} {nq : (Nat → Nat → Int32)} {ne : (Nat → Int32)} {io : Int32} {sp : Int32} {ch : Int32} {wt : Int32} {xf : (Nat → Int32)} {xz : (Nat → Int32)} {xt : (Nat → Int32)} {xb : (Nat → Int32)} {xc : Int32}
variable {hp : xm_H}
/-- Variables.setControl -/
theorem m119 (x : Int32) : XM l 119 d 0 0 [.ref 70, .int x] (cw L xs g tc tf bl bf of oc ol on ml mx mb kc kh kr ka gl gx gb ls lq lk lg lh vf vs vb nv nw nr nq ne io sp ch wt xf xz xt xb xc) (xm_is none (cw L xs g tc tf bl bf of oc ol on ml mx mb kc kh kr ka gl gx gb ls lq lk lg lh vf vs (updf vb 0 (upd (vb 0) 0 x)) nv nw nr nq ne io sp ch wt xf xz xt xb xc)) := by
  refine XE (pl := [some (.ref 70), some (.int x)]) xg119 rfl ?_
  iterate 3 refine x_step rfl ?_
  refine x_aald rfl rfl rfl (by unfold vp_in; decide) rfl ?_
  iterate 2 refine x_step rfl ?_
  refine x_iast rfl rfl (by decide) rfl (by unfold vp_in; decide) ?_
  exact x_ret rfl rfl ⟨rfl, rfl⟩
/-- Variables.setWork -/
theorem m143 (x : Int32) : XM l 143 d 0 0 [.ref 70, .int x] (cw L xs g tc tf bl bf of oc ol on ml mx mb kc kh kr ka gl gx gb ls lq lk lg lh vf vs vb nv nw nr nq ne io sp ch wt xf xz xt xb xc) (xm_is none (cw L xs g tc tf bl bf of oc ol on ml mx mb kc kh kr ka gl gx gb ls lq lk lg lh vf vs (updf vb 1 (upd (vb 1) 0 x)) nv nw nr nq ne io sp ch wt xf xz xt xb xc)) := by
  refine XE (pl := [some (.ref 70), some (.int x)]) xg143 rfl ?_
  iterate 3 refine x_step rfl ?_
  refine x_aald rfl rfl rfl (by unfold vp_in; decide) rfl ?_
  iterate 2 refine x_step rfl ?_
  refine x_iast rfl rfl (by decide) rfl (by unfold vp_in; decide) ?_
  exact x_ret rfl rfl ⟨rfl, rfl⟩
/-- Machine.changeControl: it is so already -/
theorem m116a (x : Int32) (hd : 2 ≤ d) (h : x = vb 0 0) : XM l 116 d 0 0 [.ref 69, .int x] (cw L xs g tc tf bl bf of oc ol on ml mx mb kc kh kr ka gl gx gb ls lq lk lg lh vf vs vb nv nw nr nq ne io sp ch wt xf xz xt xb xc) (xm_is none (cw L xs g tc tf bl bf of oc ol on ml mx mb kc kh kr ka gl gx gb ls lq lk lg lh vf vs vb nv nw nr nq ne io sp ch wt xf xz xt xb xc)) := by
  refine XE (pl := [some (.ref 69), some (.int x)]) xg116 rfl ?_
  iterate 2 refine x_step rfl ?_
  refine x_callvE rfl (r117 (d := 1) (by omega)).xm rfl rfl rfl ?_
  refine x_icmp_eq rfl (fun q1 => ?_) (fun q1 => absurd h q1)
  exact x_ret rfl rfl ⟨rfl, rfl⟩
/-- Machine.changeControl: no event goes out -/
theorem m116b (x : Int32) (hd : 3 ≤ d) (h : ¬ x = vb 0 0) (hg : ¬ xgo ne nr sp x 1) : XM l 116 d 0 0 [.ref 69, .int x] (cw L xs g tc tf bl bf of oc ol on ml mx mb kc kh kr ka gl gx gb ls lq lk lg lh vf vs vb nv nw nr nq ne io sp ch wt xf xz xt xb xc) (xm_is none (cw L xs g tc tf bl bf of oc ol on ml mx mb kc kh kr ka gl gx gb ls lq lk lg lh vf vs (updf vb 0 (upd (vb 0) 0 x)) nv nw nr nq ne io sp ch wt xf xz xt xb xc)) := by
  refine XE (pl := [some (.ref 69), some (.int x)]) xg116 rfl ?_
  iterate 2 refine x_step rfl ?_
  refine x_callvE rfl (r117 (d := 1) (by omega)).xm rfl rfl rfl ?_
  refine x_icmp_eq rfl (fun q1 => absurd q1 h) (fun q1 => ?_)
  iterate 3 refine x_step rfl ?_
  refine x_callvE rfl (m119 (d := 0) x) rfl rfl rfl ?_
  iterate 2 refine x_step rfl ?_
  refine x_callvE rfl (m14n (d := 2) 1 (by omega) hg) rfl rfl rfl ?_
  refine x_step rfl ?_
  exact x_ret rfl rfl ⟨rfl, rfl⟩
/-- FabLink.tick, k units in a world in which nothing runs -/
theorem m145_loop (x c : Int32) (hd : 3 ≤ d) (hk : kc ≤ 0) (hw : ¬ vb 1 0 = 1) (hl : ls = 0) (ho : oc ≤ 0) : ∀ (m i : Nat), i + m < 2 ^ 31 → x = nI (i + m) → XW l 145 d 1 6 31 [some (.ref 32), some (.int x), some (.int c), some (.int (nI i))] [] (cw L xs g tc tf bl bf of oc ol on ml mx mb kc kh kr ka gl gx gb ls lq lk lg lh vf vs vb nv nw nr nq ne io sp ch wt xf xz xt xb xc) (xm_is (some (.int (tc - c))) (cw L xs g tc tf bl bf of oc ol on ml mx mb kc kh kr ka gl gx gb ls lq lk lg lh vf vs vb nv nw nr nq ne io sp ch wt xf xz xt xb xc)) := by
  intro m
  induction m with
  | zero =>
    intro i hi hx
    iterate 2 refine x_step rfl ?_
    refine x_icmp_ge rfl (fun q => ?_) (fun q => absurd (by rw [hx]; exact Int32.le_refl _) q)
    iterate 2 refine x_step rfl ?_
    refine x_callvE rfl (m44 (d := 0)) rfl rfl rfl ?_
    iterate 2 refine x_step rfl ?_
    exact x_iret rfl rfl rfl ⟨rfl, rfl⟩
  | succ m ih =>
    intro i hi hx
    iterate 2 refine x_step rfl ?_
    refine x_icmp_ge rfl (fun q => absurd (by rw [hx]; exact nI_lt (by omega) (by omega)) (Int32.not_lt.mpr q)) (fun q => ?_)
    iterate 4 refine x_step rfl ?_
    refine x_callvE rfl (m146a (d := 0) hk) rfl rfl rfl ?_
    iterate 2 refine x_step rfl ?_
    refine x_callvE rfl (m147a (d := 2) (by omega) hw) rfl rfl rfl ?_
    iterate 2 refine x_step rfl ?_
    refine x_callvE rfl (m148a (d := 0) hl) rfl rfl rfl ?_
    iterate 2 refine x_step rfl ?_
    refine x_callvE rfl (m38a (d := 2) (by omega) (fun q => q.2 ho)) rfl rfl rfl ?_
    iterate 2 refine x_step rfl ?_
    refine xm_ls (pl' := [some (.ref 32), some (.int x), some (.int c), some (.int (nI (i + 1)))]) (by rw [nI_succ]; rfl) ?_
    exact ih (i + 1) (by omega) (by rw [hx]; congr 1; omega)
/-- FabLink.tick where nothing runs -/
theorem m145n (n : Nat) (h1 : 1 ≤ n) (h2 : n ≤ 60) (hd : 3 ≤ d) (hk : kc ≤ 0) (hw : ¬ vb 1 0 = 1) (hl : ls = 0) (ho : oc ≤ 0) : XM l 145 d 1 6 [.ref 32, .int (nI n)] (cw L xs g tc tf bl bf of oc ol on ml mx mb kc kh kr ka gl gx gb ls lq lk lg lh vf vs vb nv nw nr nq ne io sp ch wt xf xz xt xb xc) (xm_is (some (.int (tc - tc))) (cw L xs g tc tf bl bf of oc ol on ml mx mb kc kh kr ka gl gx gb ls lq lk lg lh vf vs vb nv nw nr nq ne io sp ch wt xf xz xt xb xc)) := by
  refine XE (pl := [some (.ref 32), some (.int (nI n)), none, none]) xg145 rfl ?_
  iterate 2 refine x_step rfl ?_
  refine x_icmp_lt rfl (fun q => absurd q (Int32.not_lt.mpr (by rw [Int32.le_iff_toInt_le, nI_toInt (by omega)]; show (1 : Int) ≤ n; omega))) (fun _ => ?_)
  iterate 2 refine x_step rfl ?_
  refine x_icmp_le rfl (fun _ => ?_) (fun q => absurd (by rw [Int32.le_iff_toInt_le, nI_toInt (by omega)]; show (n : Int) ≤ 60; omega) q)
  iterate 2 refine x_step rfl ?_
  refine x_callvE rfl (m44 (d := 0)) rfl rfl rfl ?_
  iterate 3 refine x_step rfl ?_
  exact m145_loop (nI n) tc hd hk hw hl ho n 0 (by omega) (by rw [Nat.zero_add])
end EM2
