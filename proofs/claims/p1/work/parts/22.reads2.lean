section ER2
variable {l : Launch} {d L : Nat} {xs : Nat → Int32} {g : xm_H} {tc : Int32} {tf : (Nat → Int32)} {bl : Int32} {bf : (Nat → Int32)} {of : Int32} {oc : Int32} {ol : Int32} {on : Int32} {ml : (Nat → Int32)} {mx : (Nat → Int32)} {mb : (Nat → Nat → Int32)} {kc : Int32} {kh : (Nat → Nat)} {kr : (Nat → Nat → Int32)} {ka : (Nat → Int32)} {gl : Int32} {gx : Int32} {gb : (Nat → Int32)} {ls : Int32} {lq : Int32} {lk : Int32} {lg : Int32} {lh : Int32} {vf : (Nat → Int32)} {vs : (Nat → Int32)} {vb : (Nat → Nat → Int32)} {nv : (Nat → Int32)} {nw : (Nat → Nat → Int32)} {nr : (Nat → Int32)} {nq : (Nat → Nat → Int32)} {ne : (Nat → Int32)} {io : Int32} {sp : Int32} {ch : Int32} {wt : Int32} {xf : (Nat → Int32)} {xz : (Nat → Int32)} {xt : (Nat → Int32)} {xb : (Nat → Int32)} {xc : Int32}
variable {hp : xm_H}
theorem cw_len : ((cw L xs g tc tf bl bf of oc ol on ml mx mb kc kh kr ka gl gx gb ls lq lk lg lh vf vs vb nv nw nr nq ne io sp ch wt xf xz xt xb xc)).length = 103 + g.length := by
  simp [cw, hz]
  omega
/-- Variables.controlNow -/
theorem r118 : XMR l 118 d [.ref 70] (cw L xs g tc tf bl bf of oc ol on ml mx mb kc kh kr ka gl gx gb ls lq lk lg lh vf vs vb nv nw nr nq ne io sp ch wt xf xz xt xb xc) (some (.int (vb 0 0))) := by
  refine XER (pl := [some (.ref 70)]) xg118 rfl ?_
  iterate 3 refine x_stepC rfl ?_
  refine x_aald rfl rfl rfl (by unfold vp_in; decide) rfl ?_
  refine x_stepC rfl ?_
  refine x_iald rfl rfl rfl (by unfold vp_in; decide) ?_
  exact x_iretR rfl rfl rfl
/-- Variables.workNow -/
theorem r140 : XMR l 140 d [.ref 70] (cw L xs g tc tf bl bf of oc ol on ml mx mb kc kh kr ka gl gx gb ls lq lk lg lh vf vs vb nv nw nr nq ne io sp ch wt xf xz xt xb xc) (some (.int (vb 1 0))) := by
  refine XER (pl := [some (.ref 70)]) xg140 rfl ?_
  iterate 3 refine x_stepC rfl ?_
  refine x_aald rfl rfl rfl (by unfold vp_in; decide) rfl ?_
  refine x_stepC rfl ?_
  refine x_iald rfl rfl rfl (by unfold vp_in; decide) ?_
  exact x_iretR rfl rfl rfl
/-- Machine.controlNow -/
theorem r117 (hd : 1 ≤ d) : XMR l 117 d [.ref 69] (cw L xs g tc tf bl bf of oc ol on ml mx mb kc kh kr ka gl gx gb ls lq lk lg lh vf vs vb nv nw nr nq ne io sp ch wt xf xz xt xb xc) (some (.int (vb 0 0))) := by
  refine XER (pl := [some (.ref 69)]) xg117 rfl ?_
  iterate 2 refine x_stepC rfl ?_
  refine x_callvRE rfl (r118 (d := 0)) rfl rfl rfl ?_
  exact x_iretR rfl rfl rfl
/-- Machine.workNow -/
theorem r139 (hd : 1 ≤ d) : XMR l 139 d [.ref 69] (cw L xs g tc tf bl bf of oc ol on ml mx mb kc kh kr ka gl gx gb ls lq lk lg lh vf vs vb nv nw nr nq ne io sp ch wt xf xz xt xb xc) (some (.int (vb 1 0))) := by
  refine XER (pl := [some (.ref 69)]) xg139 rfl ?_
  iterate 2 refine x_stepC rfl ?_
  refine x_callvRE rfl (r140 (d := 0)) rfl rfl rfl ?_
  exact x_iretR rfl rfl rfl
/-- Machine.speech -/
def xsp (io sp : Int32) : Int32 := if io = 0 then 0 else if sp = 0 then 1 else 2
theorem r158 : XMR l 158 d [.ref 69] (cw L xs g tc tf bl bf of oc ol on ml mx mb kc kh kr ka gl gx gb ls lq lk lg lh vf vs vb nv nw nr nq ne io sp ch wt xf xz xt xb xc) (some (.int (xsp io sp))) := by
  refine XER (pl := [some (.ref 69)]) xg158 rfl ?_
  iterate 2 refine x_stepC rfl ?_
  refine x_if_ne rfl (fun q1 => ?_) (fun q1 => ?_)
  · iterate 2 refine x_stepC rfl ?_
    refine x_if_eq rfl (fun q2 => ?_) (fun q2 => ?_)
    · refine x_stepC rfl ?_
      rw [show xsp io sp = 1 from (if_neg q1).trans (if_pos q2)]
      exact x_iretR rfl rfl rfl
    · iterate 2 refine x_stepC rfl ?_
      rw [show xsp io sp = 2 from (if_neg q1).trans (if_neg q2)]
      exact x_iretR rfl rfl rfl
  · refine x_stepC rfl ?_
    rw [show xsp io sp = 0 from if_pos q1]
    exact x_iretR rfl rfl rfl
/-- Machine.isEnabled: a flag is 0 or 1 -/
theorem r65 (h : narrow .boolean (.int io) = .int io) : XMR l 65 d [.ref 69] (cw L xs g tc tf bl bf of oc ol on ml mx mb kc kh kr ka gl gx gb ls lq lk lg lh vf vs vb nv nw nr nq ne io sp ch wt xf xz xt xb xc) (some (.int io)) := by
  refine XER (pl := [some (.ref 69)]) xg65 rfl ?_
  iterate 2 refine x_stepC rfl ?_
  exact x_iretR rfl rfl h
/-- Links.isEnabled -/
def xen (ne : Nat → Int32) (x : Int32) : Int32 := if xev x = 0 then 0 else if ne x.toNatClampNeg = 0 then 0 else 1
theorem r164 (x : Int32) (hd : 1 ≤ d) : XMR l 164 d [.ref 80, .int x] (cw L xs g tc tf bl bf of oc ol on ml mx mb kc kh kr ka gl gx gb ls lq lk lg lh vf vs vb nv nw nr nq ne io sp ch wt xf xz xt xb xc) (some (.int (xen ne x))) := by
  refine XER (pl := [some (.ref 80), some (.int x)]) xg164 rfl ?_
  refine x_stepC rfl ?_
  refine x_callsRE rfl (r16 (d := 0) x) rfl rfl ?_
  refine x_if_eq rfl (fun q1 => ?_) (fun q1 => ?_)
  · refine x_stepC rfl ?_
    rw [show xen ne x = 0 from if_pos q1]
    exact x_iretR rfl rfl rfl
  · iterate 3 refine x_stepC rfl ?_
    refine x_zald rfl rfl rfl (xev_in q1) ?_
    refine x_if_eq rfl (fun q2 => ?_) (fun q2 => ?_)
    · refine x_stepC rfl ?_
      rw [show xen ne x = 0 from (if_neg q1).trans (if_pos q2)]
      exact x_iretR rfl rfl rfl
    · iterate 2 refine x_stepC rfl ?_
      rw [show xen ne x = 1 from (if_neg q1).trans (if_neg q2)]
      exact x_iretR rfl rfl rfl
/-- Variables.hasByte -/
def xhb (vs : Nat → Int32) (x y : Int32) : Int32 := if xvr x = 0 then 0 else if y < 0 then 0 else if vs x.toNatClampNeg ≤ y then 0 else 1
theorem r168 (x y : Int32) (hd : 1 ≤ d) : XMR l 168 d [.ref 70, .int x, .int y] (cw L xs g tc tf bl bf of oc ol on ml mx mb kc kh kr ka gl gx gb ls lq lk lg lh vf vs vb nv nw nr nq ne io sp ch wt xf xz xt xb xc) (some (.int (xhb vs x y))) := by
  refine XER (pl := [some (.ref 70), some (.int x), some (.int y)]) xg168 rfl ?_
  refine x_stepC rfl ?_
  refine x_callsRE rfl (r29 (d := 0) x) rfl rfl ?_
  refine x_if_eq rfl (fun q1 => ?_) (fun q1 => ?_)
  · refine x_stepC rfl ?_
    rw [show xhb vs x y = 0 from if_pos q1]
    exact x_iretR rfl rfl rfl
  · refine x_stepC rfl ?_
    refine x_if_lt rfl (fun q2 => ?_) (fun q2 => ?_)
    · refine x_stepC rfl ?_
      rw [show xhb vs x y = 0 from (if_neg q1).trans (if_pos q2)]
      exact x_iretR rfl rfl rfl
    · iterate 4 refine x_stepC rfl ?_
      refine x_iald rfl rfl rfl (xvr_in q1) ?_
      refine x_icmp_ge rfl (fun q3 => ?_) (fun q3 => ?_)
      · refine x_stepC rfl ?_
        rw [show xhb vs x y = 0 from (if_neg q1).trans ((if_neg q2).trans (if_pos q3))]
        exact x_iretR rfl rfl rfl
      · iterate 2 refine x_stepC rfl ?_
        rw [show xhb vs x y = 1 from (if_neg q1).trans ((if_neg q2).trans (if_neg q3))]
        exact x_iretR rfl rfl rfl
/-- Tape.holds -/
theorem r154 (i : Int32) : XMR l 154 d [.ref 33, .int i] (cw L xs g tc tf bl bf of oc ol on ml mx mb kc kh kr ka gl gx gb ls lq lk lg lh vf vs vb nv nw nr nq ne io sp ch wt xf xz xt xb xc) (some (.int (xholds tc i))) := by
  refine XER (pl := [some (.ref 33), some (.int i)]) xg154 rfl ?_
  refine x_stepC rfl ?_
  refine x_if_lt rfl (fun q1 => ?_) (fun q1 => ?_)
  · refine x_stepC rfl ?_
    rw [show xholds tc i = 0 from if_pos q1]
    exact x_iretR rfl rfl rfl
  · iterate 3 refine x_stepC rfl ?_
    refine x_icmp_ge rfl (fun q2 => ?_) (fun q2 => ?_)
    · refine x_stepC rfl ?_
      rw [show xholds tc i = 0 from (if_neg q1).trans (if_pos q2)]
      exact x_iretR rfl rfl rfl
    · iterate 5 refine x_stepC rfl ?_
      refine x_icmp_gt rfl (fun q3 => ?_) (fun q3 => ?_)
      · refine x_stepC rfl ?_
        rw [show xholds tc i = 0 from (if_neg q1).trans ((if_neg q2).trans (if_pos q3))]
        exact x_iretR rfl rfl rfl
      · iterate 2 refine x_stepC rfl ?_
        rw [show xholds tc i = 1 from (if_neg q1).trans ((if_neg q2).trans (if_neg q3))]
        exact x_iretR rfl rfl rfl
/-- method 163: a throw -/
theorem t163 (hfl : l.flags = pinnedFlags ++ [noTraceFlag]) (x : Int32) (h : xev x = 0) (hd : 6 ≤ d) : XMT l 163 d 1 6 [.ref 32, .int x] (cw L xs g tc tf bl bf of oc ol on ml mx mb kc kh kr ka gl gx gb ls lq lk lg lh vf vs vb nv nw nr nq ne io sp ch wt xf xz xt xb xc) "java/lang/IndexOutOfBoundsException" (103 + g.length) ((cw L xs g tc tf bl bf of oc ol on ml mx mb kc kh kr ka gl gx gb ls lq lk lg lh vf vs vb nv nw nr nq ne io sp ch wt xf xz xt xb xc) ++ [none]) := by
  refine XET (pl := [some (.ref 32), some (.int x), none]) xg163 rfl ?_
  refine x_stepC rfl ?_
  refine x_callsRE rfl (r16 (d := 0) x) rfl rfl ?_
  refine x_if_ne rfl (fun q1 => absurd h q1) (fun q1 => ?_)
  exact x_thrE hfl xm_tw3 rfl rfl rfl rfl rfl rfl rfl rfl cw_len rfl
/-- method 165: a throw -/
theorem t165 (hfl : l.flags = pinnedFlags ++ [noTraceFlag]) (x : Int32) (h : xvr x = 0) (hd : 6 ≤ d) : XMT l 165 d 1 6 [.ref 32, .int x] (cw L xs g tc tf bl bf of oc ol on ml mx mb kc kh kr ka gl gx gb ls lq lk lg lh vf vs vb nv nw nr nq ne io sp ch wt xf xz xt xb xc) "java/lang/IndexOutOfBoundsException" (103 + g.length) ((cw L xs g tc tf bl bf of oc ol on ml mx mb kc kh kr ka gl gx gb ls lq lk lg lh vf vs vb nv nw nr nq ne io sp ch wt xf xz xt xb xc) ++ [none]) := by
  refine XET (pl := [some (.ref 32), some (.int x)]) xg165 rfl ?_
  refine x_stepC rfl ?_
  refine x_callsRE rfl (r29 (d := 0) x) rfl rfl ?_
  refine x_if_ne rfl (fun q1 => absurd h q1) (fun q1 => ?_)
  exact x_thrE hfl xm_tw3 rfl rfl rfl rfl rfl rfl rfl rfl cw_len rfl
/-- method 153: a throw -/
theorem t153 (hfl : l.flags = pinnedFlags ++ [noTraceFlag]) (x : Int32) (h : xholds tc x = 0) (hd : 6 ≤ d) : XMT l 153 d 1 6 [.ref 32, .int x] (cw L xs g tc tf bl bf of oc ol on ml mx mb kc kh kr ka gl gx gb ls lq lk lg lh vf vs vb nv nw nr nq ne io sp ch wt xf xz xt xb xc) "java/lang/IndexOutOfBoundsException" (103 + g.length) ((cw L xs g tc tf bl bf of oc ol on ml mx mb kc kh kr ka gl gx gb ls lq lk lg lh vf vs vb nv nw nr nq ne io sp ch wt xf xz xt xb xc) ++ [none]) := by
  refine XET (pl := [some (.ref 32), some (.int x)]) xg153 rfl ?_
  iterate 3 refine x_stepC rfl ?_
  refine x_callvRE rfl (r154 (d := 0) x) rfl rfl rfl ?_
  refine x_if_ne rfl (fun q1 => absurd h q1) (fun q1 => ?_)
  exact x_thrE hfl xm_tw3 rfl rfl rfl rfl rfl rfl rfl rfl cw_len rfl
/-- FabLink.octet: a throw -/
theorem t167 (hfl : l.flags = pinnedFlags ++ [noTraceFlag]) (x y : Int32) (h : xhb vs x y = 0) (hd : 6 ≤ d) : XMT l 167 d 1 6 [.ref 32, .int x, .int y] (cw L xs g tc tf bl bf of oc ol on ml mx mb kc kh kr ka gl gx gb ls lq lk lg lh vf vs vb nv nw nr nq ne io sp ch wt xf xz xt xb xc) "java/lang/IndexOutOfBoundsException" (103 + g.length) ((cw L xs g tc tf bl bf of oc ol on ml mx mb kc kh kr ka gl gx gb ls lq lk lg lh vf vs vb nv nw nr nq ne io sp ch wt xf xz xt xb xc) ++ [none]) := by
  refine XET (pl := [some (.ref 32), some (.int x), some (.int y)]) xg167 rfl ?_
  refine x_stepC rfl ?_
  refine x_callsRE rfl (r29 (d := 0) x) rfl rfl ?_
  refine x_if_eq rfl (fun q1 => ?_) (fun q1 => ?_)
  · exact x_thrE hfl xm_tw3 rfl rfl rfl rfl rfl rfl rfl rfl cw_len rfl
  · iterate 2 refine x_stepC rfl ?_
    refine x_callvRE rfl (r113 (d := 0)) rfl rfl rfl ?_
    iterate 2 refine x_stepC rfl ?_
    refine x_callvRE rfl (r168 (d := 1) x y (by omega)) rfl rfl rfl ?_
    refine x_if_ne rfl (fun q2 => absurd h q2) (fun q2 => ?_)
    exact x_thrE hfl xm_tw3 rfl rfl rfl rfl rfl rfl rfl rfl cw_len rfl
/-- FabLink.look: a throw -/
theorem t156 (hfl : l.flags = pinnedFlags ++ [noTraceFlag]) (x : Int32) (h : x.toInt < 0 ∨ 7 < x.toInt) (hd : 6 ≤ d) : XMT l 156 d 1 6 [.ref 32, .int x] (cw L xs g tc tf bl bf of oc ol on ml mx mb kc kh kr ka gl gx gb ls lq lk lg lh vf vs vb nv nw nr nq ne io sp ch wt xf xz xt xb xc) "java/lang/IllegalArgumentException" (103 + g.length) ((cw L xs g tc tf bl bf of oc ol on ml mx mb kc kh kr ka gl gx gb ls lq lk lg lh vf vs vb nv nw nr nq ne io sp ch wt xf xz xt xb xc) ++ [none]) := by
  refine XET (pl := [some (.ref 32), some (.int x)]) xg156 rfl ?_
  refine x_stepC rfl ?_
  refine x_tswOut rfl h (t := 112) (by decide) ?_
  exact x_thrE hfl xm_tw1 rfl rfl rfl rfl rfl rfl rfl rfl cw_len rfl
/-- FabLink.event: an answer -/
theorem m163 (x : Int32) (hd : 2 ≤ d) (h : ¬ xev x = 0) : XM l 163 d 1 6 [.ref 32, .int x] (cw L xs g tc tf bl bf of oc ol on ml mx mb kc kh kr ka gl gx gb ls lq lk lg lh vf vs vb nv nw nr nq ne io sp ch wt xf xz xt xb xc) (xm_is (some (.int (nr x.toNatClampNeg + (if xen ne x = 0 then 0 else 10)))) (cw L xs g tc tf bl bf of oc ol on ml mx mb kc kh kr ka gl gx gb ls lq lk lg lh vf vs vb nv nw nr nq ne io sp ch wt xf xz xt xb xc)) := by
  refine XE (pl := [some (.ref 32), some (.int x), none]) xg163 rfl ?_
  refine x_step rfl ?_
  refine x_callsE rfl (r16 (d := 0) x).xm rfl rfl ?_
  refine x_if_ne rfl (fun q1 => ?_) (fun q1 => absurd q1 h)
  iterate 2 refine x_step rfl ?_
  refine x_callvE rfl (r125 (d := 0)).xm rfl rfl rfl ?_
  iterate 3 refine x_step rfl ?_
  refine x_callvE rfl (r23 (d := 1) x (by omega)).xm rfl rfl rfl ?_
  rw [if_neg h]
  iterate 2 refine x_step rfl ?_
  refine x_callvE rfl (r164 (d := 1) x (by omega)).xm rfl rfl rfl ?_
  refine x_if_eq rfl (fun q2 => ?_) (fun q2 => ?_)
  · iterate 2 refine x_step rfl ?_
    exact x_iret rfl rfl rfl ⟨by rw [if_pos q2], rfl⟩
  · iterate 3 refine x_step rfl ?_
    exact x_iret rfl rfl rfl ⟨by rw [if_neg q2], rfl⟩
/-- FabLink.format: an answer -/
theorem m165 (x : Int32) (hd : 2 ≤ d) (h : ¬ xvr x = 0) : XM l 165 d 1 6 [.ref 32, .int x] (cw L xs g tc tf bl bf of oc ol on ml mx mb kc kh kr ka gl gx gb ls lq lk lg lh vf vs vb nv nw nr nq ne io sp ch wt xf xz xt xb xc) (xm_is (some (.int (vf x.toNatClampNeg))) (cw L xs g tc tf bl bf of oc ol on ml mx mb kc kh kr ka gl gx gb ls lq lk lg lh vf vs vb nv nw nr nq ne io sp ch wt xf xz xt xb xc)) := by
  refine XE (pl := [some (.ref 32), some (.int x)]) xg165 rfl ?_
  refine x_step rfl ?_
  refine x_callsE rfl (r29 (d := 0) x).xm rfl rfl ?_
  refine x_if_ne rfl (fun q1 => ?_) (fun q1 => absurd q1 h)
  iterate 2 refine x_step rfl ?_
  refine x_callvE rfl (r113 (d := 0)).xm rfl rfl rfl ?_
  refine x_step rfl ?_
  refine x_callvE rfl (r166 (d := 1) x (by omega)).xm rfl rfl rfl ?_
  rw [if_neg h]
  exact x_iret rfl rfl rfl ⟨rfl, rfl⟩
/-- FabLink.look(0) -/
theorem m156_0 (hd : 2 ≤ d) : XM l 156 d 1 6 [.ref 32, .int 0] (cw L xs g tc tf bl bf of oc ol on ml mx mb kc kh kr ka gl gx gb ls lq lk lg lh vf vs vb nv nw nr nq ne io sp ch wt xf xz xt xb xc) (xm_is (some (.int (ls))) (cw L xs g tc tf bl bf of oc ol on ml mx mb kc kh kr ka gl gx gb ls lq lk lg lh vf vs vb nv nw nr nq ne io sp ch wt xf xz xt xb xc)) := by
  refine XE (pl := [some (.ref 32), some (.int 0)]) xg156 rfl ?_
  refine x_step rfl ?_
  refine x_tswIn rfl (by decide) (by decide) rfl (t := 48) (by decide) ?_
  iterate 2 refine x_step rfl ?_
  refine x_callvE rfl (m157 (d := 0)) rfl rfl rfl ?_
  exact x_iret rfl rfl rfl ⟨rfl, rfl⟩
/-- FabLink.look(1) -/
theorem m156_1 (hd : 2 ≤ d) : XM l 156 d 1 6 [.ref 32, .int 1] (cw L xs g tc tf bl bf of oc ol on ml mx mb kc kh kr ka gl gx gb ls lq lk lg lh vf vs vb nv nw nr nq ne io sp ch wt xf xz xt xb xc) (xm_is (some (.int (xsp io sp))) (cw L xs g tc tf bl bf of oc ol on ml mx mb kc kh kr ka gl gx gb ls lq lk lg lh vf vs vb nv nw nr nq ne io sp ch wt xf xz xt xb xc)) := by
  refine XE (pl := [some (.ref 32), some (.int 1)]) xg156 rfl ?_
  refine x_step rfl ?_
  refine x_tswIn rfl (by decide) (by decide) rfl (t := 56) (by decide) ?_
  iterate 2 refine x_step rfl ?_
  refine x_callvE rfl ((r158 (d := 0)).xm) rfl rfl rfl ?_
  exact x_iret rfl rfl rfl ⟨rfl, rfl⟩
/-- FabLink.look(2) -/
theorem m156_2 (hd : 2 ≤ d) : XM l 156 d 1 6 [.ref 32, .int 2] (cw L xs g tc tf bl bf of oc ol on ml mx mb kc kh kr ka gl gx gb ls lq lk lg lh vf vs vb nv nw nr nq ne io sp ch wt xf xz xt xb xc) (xm_is (some (.int (vb 0 0))) (cw L xs g tc tf bl bf of oc ol on ml mx mb kc kh kr ka gl gx gb ls lq lk lg lh vf vs vb nv nw nr nq ne io sp ch wt xf xz xt xb xc)) := by
  refine XE (pl := [some (.ref 32), some (.int 2)]) xg156 rfl ?_
  refine x_step rfl ?_
  refine x_tswIn rfl (by decide) (by decide) rfl (t := 64) (by decide) ?_
  iterate 2 refine x_step rfl ?_
  refine x_callvE rfl ((r117 (d := 1) (by omega)).xm) rfl rfl rfl ?_
  exact x_iret rfl rfl rfl ⟨rfl, rfl⟩
/-- FabLink.look(3) -/
theorem m156_3 (hd : 2 ≤ d) : XM l 156 d 1 6 [.ref 32, .int 3] (cw L xs g tc tf bl bf of oc ol on ml mx mb kc kh kr ka gl gx gb ls lq lk lg lh vf vs vb nv nw nr nq ne io sp ch wt xf xz xt xb xc) (xm_is (some (.int (vb 1 0))) (cw L xs g tc tf bl bf of oc ol on ml mx mb kc kh kr ka gl gx gb ls lq lk lg lh vf vs vb nv nw nr nq ne io sp ch wt xf xz xt xb xc)) := by
  refine XE (pl := [some (.ref 32), some (.int 3)]) xg156 rfl ?_
  refine x_step rfl ?_
  refine x_tswIn rfl (by decide) (by decide) rfl (t := 72) (by decide) ?_
  iterate 2 refine x_step rfl ?_
  refine x_callvE rfl ((r139 (d := 1) (by omega)).xm) rfl rfl rfl ?_
  exact x_iret rfl rfl rfl ⟨rfl, rfl⟩
/-- FabLink.look(4) -/
theorem m156_4 (hd : 2 ≤ d) : XM l 156 d 1 6 [.ref 32, .int 4] (cw L xs g tc tf bl bf of oc ol on ml mx mb kc kh kr ka gl gx gb ls lq lk lg lh vf vs vb nv nw nr nq ne io sp ch wt xf xz xt xb xc) (xm_is (some (.int (wt))) (cw L xs g tc tf bl bf of oc ol on ml mx mb kc kh kr ka gl gx gb ls lq lk lg lh vf vs vb nv nw nr nq ne io sp ch wt xf xz xt xb xc)) := by
  refine XE (pl := [some (.ref 32), some (.int 4)]) xg156 rfl ?_
  refine x_step rfl ?_
  refine x_tswIn rfl (by decide) (by decide) rfl (t := 80) (by decide) ?_
  iterate 2 refine x_step rfl ?_
  refine x_callvE rfl ((r159 (d := 0)).xm) rfl rfl rfl ?_
  exact x_iret rfl rfl rfl ⟨rfl, rfl⟩
/-- FabLink.look(5) -/
theorem m156_5 (hd : 2 ≤ d) : XM l 156 d 1 6 [.ref 32, .int 5] (cw L xs g tc tf bl bf of oc ol on ml mx mb kc kh kr ka gl gx gb ls lq lk lg lh vf vs vb nv nw nr nq ne io sp ch wt xf xz xt xb xc) (xm_is (some (.int (oc))) (cw L xs g tc tf bl bf of oc ol on ml mx mb kc kh kr ka gl gx gb ls lq lk lg lh vf vs vb nv nw nr nq ne io sp ch wt xf xz xt xb xc)) := by
  refine XE (pl := [some (.ref 32), some (.int 5)]) xg156 rfl ?_
  refine x_step rfl ?_
  refine x_tswIn rfl (by decide) (by decide) rfl (t := 88) (by decide) ?_
  iterate 2 refine x_step rfl ?_
  refine x_callvE rfl (m39 (d := 0)) rfl rfl rfl ?_
  exact x_iret rfl rfl rfl ⟨rfl, rfl⟩
/-- FabLink.look(6) -/
theorem m156_6 (hd : 2 ≤ d) : XM l 156 d 1 6 [.ref 32, .int 6] (cw L xs g tc tf bl bf of oc ol on ml mx mb kc kh kr ka gl gx gb ls lq lk lg lh vf vs vb nv nw nr nq ne io sp ch wt xf xz xt xb xc) (xm_is (some (.int (kc))) (cw L xs g tc tf bl bf of oc ol on ml mx mb kc kh kr ka gl gx gb ls lq lk lg lh vf vs vb nv nw nr nq ne io sp ch wt xf xz xt xb xc)) := by
  refine XE (pl := [some (.ref 32), some (.int 6)]) xg156 rfl ?_
  refine x_step rfl ?_
  refine x_tswIn rfl (by decide) (by decide) rfl (t := 96) (by decide) ?_
  iterate 2 refine x_step rfl ?_
  refine x_callvE rfl ((r160 (d := 0)).xm) rfl rfl rfl ?_
  exact x_iret rfl rfl rfl ⟨rfl, rfl⟩
/-- FabLink.look(7) -/
theorem m156_7 (hd : 2 ≤ d) : XM l 156 d 1 6 [.ref 32, .int 7] (cw L xs g tc tf bl bf of oc ol on ml mx mb kc kh kr ka gl gx gb ls lq lk lg lh vf vs vb nv nw nr nq ne io sp ch wt xf xz xt xb xc) (xm_is (some (.int (ol))) (cw L xs g tc tf bl bf of oc ol on ml mx mb kc kh kr ka gl gx gb ls lq lk lg lh vf vs vb nv nw nr nq ne io sp ch wt xf xz xt xb xc)) := by
  refine XE (pl := [some (.ref 32), some (.int 7)]) xg156 rfl ?_
  refine x_step rfl ?_
  refine x_tswIn rfl (by decide) (by decide) rfl (t := 104) (by decide) ?_
  iterate 2 refine x_step rfl ?_
  refine x_callvE rfl (m161 (d := 0)) rfl rfl rfl ?_
  exact x_iret rfl rfl rfl ⟨rfl, rfl⟩
end ER2
