section ER3
variable {l : Launch} {d L : Nat} {xs : Nat → Int32} {g : xm_H} {tc : Int32} {tf : (Nat → Int32)} {bl : Int32} {bf : (Nat → Int32)} {of : Int32} {oc : Int32} {ol : Int32} {on : Int32} {ml : (Nat → Int32)} {mx : (Nat → Int32)} {mb : (Nat → Nat → Int32)} {kc : Int32} {kh : (Nat → Nat)} {kr : (Nat → Nat → Int32)} {ka : (Nat → Int32)} {gl : Int32} {gx : Int32} {gb : (Nat → Int32)} {ls : Int32} {lq : Int32} {lk : Int32} {lg : Int32} {lh : Int32} {vf : (Nat → Int32)} {vs : (Nat → Int32)} {vb : (Nat → Nat → Int32)} {nv : (Nat → Int32)} {nw : (Nat → Nat → Int32)} {nr : (Nat → Int32)} {nq : (Nat → Nat → Int32)} {ne : (Nat → Int32)} {io : Int32} {sp : Int32} {ch : Int32} {wt : Int32} {xf : (Nat → Int32)} {xz : (Nat → Int32)} {xt : (Nat → Int32)} {xb : (Nat → Int32)} {xc : Int32}
variable {hp : xm_H}
theorem xrem_in {i : Int32} (h : ¬ i < 0) : vp_in (i - i / 501 * 501) 501 := by
  obtain ⟨j, hj, rfl⟩ := nI_of h
  rw [show (501 : Int32) = nI 501 from rfl, pk_rem hj (by decide) (by decide)]
  exact nI_in (Nat.mod_lt _ (by decide)) (by decide)
theorem xholds_nn {c i : Int32} (h : ¬ xholds c i = 0) : ¬ i < 0 := fun q => h (if_pos q)
/-- Tape.at, of a kept byte -/
theorem r155 (i : Int32) (hd : 1 ≤ d) (h : ¬ xholds tc i = 0) : XMR l 155 d [.ref 33, .int i] (cw L xs g tc tf bl bf of oc ol on ml mx mb kc kh kr ka gl gx gb ls lq lk lg lh vf vs vb nv nw nr nq ne io sp ch wt xf xz xt xb xc) (some (.int (tf (i - i / 501 * 501).toNatClampNeg))) := by
  refine XER (pl := [some (.ref 33), some (.int i)]) xg155 rfl ?_
  iterate 2 refine x_stepC rfl ?_
  refine x_callvRE rfl (r154 (d := 0) i) rfl rfl rfl ?_
  refine x_if_eq rfl (fun q1 => absurd q1 h) (fun q1 => ?_)
  iterate 4 refine x_stepC rfl ?_
  refine x_irem rfl (by decide) ?_
  refine x_iald rfl rfl rfl (xrem_in (xholds_nn h)) ?_
  refine x_stepC rfl ?_
  exact x_iretR rfl rfl rfl
/-- FabLink.saidAt: an answer -/
theorem m153 (x : Int32) (hd : 2 ≤ d) (h : ¬ xholds tc x = 0) : XM l 153 d 1 6 [.ref 32, .int x] (cw L xs g tc tf bl bf of oc ol on ml mx mb kc kh kr ka gl gx gb ls lq lk lg lh vf vs vb nv nw nr nq ne io sp ch wt xf xz xt xb xc) (xm_is (some (.int (tf (x - x / 501 * 501).toNatClampNeg))) (cw L xs g tc tf bl bf of oc ol on ml mx mb kc kh kr ka gl gx gb ls lq lk lg lh vf vs vb nv nw nr nq ne io sp ch wt xf xz xt xb xc)) := by
  refine XE (pl := [some (.ref 32), some (.int x)]) xg153 rfl ?_
  iterate 3 refine x_step rfl ?_
  refine x_callvE rfl (r154 (d := 0) x).xm rfl rfl rfl ?_
  refine x_if_ne rfl (fun q1 => ?_) (fun q1 => absurd q1 h)
  iterate 3 refine x_step rfl ?_
  refine x_callvE rfl (r155 (d := 1) x (by omega) h).xm rfl rfl rfl ?_
  exact x_iret rfl rfl rfl ⟨rfl, rfl⟩
theorem cw_vb {j : Nat} (hj : j < 6) : ((cw L xs g tc tf bl bf of oc ol on ml mx mb kc kh kr ka gl gx gb ls lq lk lg lh vf vs vb nv nw nr nq ne io sp ch wt xf xz xt xb xc))[74 + j]? = some (xI 0 8 (vb j)) := by
  match j, hj with
  | 0, _ => rfl
  | 1, _ => rfl
  | 2, _ => rfl
  | 3, _ => rfl
  | 4, _ => rfl
  | 5, _ => rfl
  | j + 6, h => exact absurd h (by omega)
theorem xm_ltn {x : Int32} {n : Nat} (h : vp_in x n) : x.toNatClampNeg < n := Nat.not_le.mp fun q => h (Or.inr q)
theorem xhb_1 {vs : Nat → Int32} {x y : Int32} (h : ¬ xhb vs x y = 0) : ¬ xvr x = 0 ∧ ¬ y < 0 ∧ ¬ vs x.toNatClampNeg ≤ y := by
  unfold xhb at h
  split at h
  · exact absurd rfl h
  next q1 =>
    split at h
    · exact absurd rfl h
    next q2 =>
      split at h
      · exact absurd rfl h
      next q3 => exact ⟨q1, q2, q3⟩
theorem xhb_in {vs : Nat → Int32} {x y : Int32} (hv : vs x.toNatClampNeg ≤ 8) (h : ¬ xhb vs x y = 0) : vp_in y 8 := by
  obtain ⟨-, h2, h3⟩ := xhb_1 h
  refine xm_rng (M := 7) (n := 7) rfl h2 ?_
  rw [Int32.lt_iff_toInt_lt]
  rw [Int32.le_iff_toInt_le] at h3 hv
  have e7 : (7 : Int32).toInt = 7 := rfl
  have e8 : (8 : Int32).toInt = 8 := rfl
  omega
/-- Variables.byteOf, of a byte that is there -/
theorem r169 (x y : Int32) (hd : 2 ≤ d) (hv : vs x.toNatClampNeg ≤ 8) (h : ¬ xhb vs x y = 0) : XMR l 169 d [.ref 70, .int x, .int y] (cw L xs g tc tf bl bf of oc ol on ml mx mb kc kh kr ka gl gx gb ls lq lk lg lh vf vs vb nv nw nr nq ne io sp ch wt xf xz xt xb xc) (some (.int (vb x.toNatClampNeg y.toNatClampNeg))) := by
  have hx := xvr_in (xhb_1 h).1
  refine XER (pl := [some (.ref 70), some (.int x), some (.int y)]) xg169 rfl ?_
  iterate 3 refine x_stepC rfl ?_
  refine x_callvRE rfl (r168 (d := 1) x y (by omega)) rfl rfl rfl ?_
  refine x_if_eq rfl (fun q1 => absurd q1 h) (fun q1 => ?_)
  iterate 3 refine x_stepC rfl ?_
  refine x_aald rfl rfl rfl hx rfl ?_
  refine x_stepC rfl ?_
  refine x_iald rfl (cw_vb (xm_ltn hx)) rfl (xhb_in hv h) ?_
  refine x_stepC rfl ?_
  exact x_iretR rfl rfl rfl
/-- FabLink.octet: an answer -/
theorem m167 (x y : Int32) (hd : 3 ≤ d) (hv : vs x.toNatClampNeg ≤ 8) (h : ¬ xhb vs x y = 0) : XM l 167 d 1 6 [.ref 32, .int x, .int y] (cw L xs g tc tf bl bf of oc ol on ml mx mb kc kh kr ka gl gx gb ls lq lk lg lh vf vs vb nv nw nr nq ne io sp ch wt xf xz xt xb xc) (xm_is (some (.int (vb x.toNatClampNeg y.toNatClampNeg))) (cw L xs g tc tf bl bf of oc ol on ml mx mb kc kh kr ka gl gx gb ls lq lk lg lh vf vs vb nv nw nr nq ne io sp ch wt xf xz xt xb xc)) := by
  refine XE (pl := [some (.ref 32), some (.int x), some (.int y)]) xg167 rfl ?_
  refine x_step rfl ?_
  refine x_callsE rfl (r29 (d := 0) x).xm rfl rfl ?_
  refine x_if_eq rfl (fun q1 => absurd q1 (xhb_1 h).1) (fun q1 => ?_)
  iterate 2 refine x_step rfl ?_
  refine x_callvE rfl (r113 (d := 0)).xm rfl rfl rfl ?_
  iterate 2 refine x_step rfl ?_
  refine x_callvE rfl (r168 (d := 1) x y (by omega)).xm rfl rfl rfl ?_
  refine x_if_ne rfl (fun q2 => ?_) (fun q2 => absurd q2 h)
  iterate 2 refine x_step rfl ?_
  refine x_callvE rfl (r113 (d := 0)).xm rfl rfl rfl ?_
  iterate 2 refine x_step rfl ?_
  refine x_callvE rfl (r169 (d := 2) x y (by omega) hv h).xm rfl rfl rfl ?_
  exact x_iret rfl rfl rfl ⟨rfl, rfl⟩
/-- method 151: a throw -/
theorem t151 (hfl : l.flags = pinnedFlags ++ [noTraceFlag]) (x : Int32) (h0 : ¬ x = 0) (h2 : ¬ x = 2) (h3 : ¬ x = 3) (hd : 6 ≤ d) : XMT l 151 d 1 6 [.ref 32, .int x] (cw L xs g tc tf bl bf of oc ol on ml mx mb kc kh kr ka gl gx gb ls lq lk lg lh vf vs vb nv nw nr nq ne io sp ch wt xf xz xt xb xc) "java/lang/IllegalArgumentException" (103 + g.length) ((cw L xs g tc tf bl bf of oc ol on ml mx mb kc kh kr ka gl gx gb ls lq lk lg lh vf vs vb nv nw nr nq ne io sp ch wt xf xz xt xb xc) ++ [none]) := by
  refine XET (pl := [some (.ref 32), some (.int x)]) xg151 rfl ?_
  refine x_stepC rfl ?_
  refine x_if_eq rfl (fun q => absurd q h0) (fun _ => ?_)
  iterate 2 refine x_stepC rfl ?_
  refine x_icmp_eq rfl (fun q => absurd q h2) (fun _ => ?_)
  iterate 2 refine x_stepC rfl ?_
  refine x_icmp_eq rfl (fun q => absurd q h3) (fun _ => ?_)
  exact x_thrE hfl xm_tw1 rfl rfl rfl rfl rfl rfl rfl rfl cw_len rfl
/-- method 145: a throw -/
theorem t145 (hfl : l.flags = pinnedFlags ++ [noTraceFlag]) (x : Int32) (h : x < 1 ∨ 60 < x) (hd : 6 ≤ d) : XMT l 145 d 1 6 [.ref 32, .int x] (cw L xs g tc tf bl bf of oc ol on ml mx mb kc kh kr ka gl gx gb ls lq lk lg lh vf vs vb nv nw nr nq ne io sp ch wt xf xz xt xb xc) "java/lang/IllegalArgumentException" (103 + g.length) ((cw L xs g tc tf bl bf of oc ol on ml mx mb kc kh kr ka gl gx gb ls lq lk lg lh vf vs vb nv nw nr nq ne io sp ch wt xf xz xt xb xc) ++ [none]) := by
  refine XET (pl := [some (.ref 32), some (.int x), none, none]) xg145 rfl ?_
  iterate 2 refine x_stepC rfl ?_
  refine x_icmp_lt rfl (fun _ => ?_) (fun q => ?_)
  · exact x_thrE hfl xm_tw1 rfl rfl rfl rfl rfl rfl rfl rfl cw_len rfl
  · iterate 2 refine x_stepC rfl ?_
    refine x_icmp_le rfl (fun q2 => absurd (h.resolve_left q) (Int32.not_lt.mpr q2)) (fun _ => ?_)
    exact x_thrE hfl xm_tw1 rfl rfl rfl rfl rfl rfl rfl rfl cw_len rfl
/-- method 149: a throw -/
theorem t149 (hfl : l.flags = pinnedFlags ++ [noTraceFlag]) (hio : narrow .boolean (.int io) = .int io) (hd : 6 ≤ d) : XMT l 149 d 1 6 [.ref 32, .int io] (cw L xs g tc tf bl bf of oc ol on ml mx mb kc kh kr ka gl gx gb ls lq lk lg lh vf vs vb nv nw nr nq ne io sp ch wt xf xz xt xb xc) "java/lang/IllegalStateException" (103 + g.length) ((cw L xs g tc tf bl bf of oc ol on ml mx mb kc kh kr ka gl gx gb ls lq lk lg lh vf vs vb nv nw nr nq ne io sp ch wt xf xz xt xb xc) ++ [none]) := by
  refine XET (pl := [some (.ref 32), some (.int io)]) xg149 rfl ?_
  iterate 3 refine x_stepC rfl ?_
  refine x_callvRE rfl (r65 (d := 0) hio) rfl rfl rfl ?_
  refine x_icmp_ne rfl (fun q => absurd rfl q) (fun _ => ?_)
  exact x_thrE hfl xm_tw2 rfl rfl rfl rfl rfl rfl rfl rfl cw_len rfl
end ER3
