section ER
variable {l : Launch} {d L : Nat} {xs : Nat → Int32} {g : xm_H} {tc : Int32} {tf : (Nat → Int32)} {bl : Int32} {bf : (Nat → Int32)} {of : Int32} {oc : Int32} {ol : Int32} {on : Int32} {ml : (Nat → Int32)} {mx : (Nat → Int32)} {mb : (Nat → Nat → Int32)} {kc : Int32} {kh : (Nat → Nat)} {kr : (Nat → Nat → Int32)} {ka : (Nat → Int32)} {gl : Int32} {gx : Int32} {gb : (Nat → Int32)} {ls : Int32} {lq : Int32} {lk : Int32} {lg : Int32} {lh : Int32} {vf : (Nat → Int32)} {vs : (Nat → Int32)} {vb : (Nat → Nat → Int32)} {nv : (Nat → Int32)} {nw : (Nat → Nat → Int32)} {nr : (Nat → Int32)} {nq : (Nat → Nat → Int32)} {ne : (Nat → Int32)} {io : Int32} {sp : Int32} {ch : Int32} {wt : Int32} {xf : (Nat → Int32)} {xz : (Nat → Int32)} {xt : (Nat → Int32)} {xb : (Nat → Int32)} {xc : Int32}
variable {hp : xm_H}
/-- a read-only contract is a contract -/
theorem XMR.xm {k : Nat} {as : List Value} {v0 : Option Value} (h : XMR l k d as hp v0) : XM l k d 0 0 as hp (xm_is v0 hp) := by
  intro G p e ha hc hk s m args below hf happ hP hK
  obtain ⟨n, o, h1, h2, h3, hQ⟩ := h G p e ha hc hk s m args below hf happ hP hK
  obtain ⟨⟨q1, q2⟩, Ls, hF, hL⟩ := hQ
  refine ⟨n, o, h1, h2, h3, ⟨v0, hp, ⟨rfl, rfl⟩, q1, ?_, fun q _ => by rw [q2]⟩, Ls, hF, fun q hq => (hL q hq).elim⟩
  rw [q2]
  exact hP.2.2.moved hF.2.1.alike
theorem xm_rng {x M : Int32} {n : Nat} (hM : M.toInt = n) (h1 : ¬ x < 0) (h2 : ¬ M < x) : vp_in x (n + 1) := by
  unfold vp_in
  intro h
  rcases h with h | h
  · exact h1 h
  · have h3 : x.toInt ≤ n := by rw [Int32.lt_iff_toInt_lt] at h2; omega
    have h4 : x.toNatClampNeg = x.toInt.toNat := rfl
    omega
theorem xm_pos1 {x : Int32} (h : ¬ x < 1) : ¬ x < 0 := by
  rw [Int32.lt_iff_toInt_lt] at h ⊢
  have e1 : (1 : Int32).toInt = 1 := rfl
  have e0 : (0 : Int32).toInt = 0 := rfl
  omega
def xev (x : Int32) : Int32 := if x < 1 then 0 else if 5 < x then 0 else 1
theorem xev_in {x : Int32} (h : ¬ xev x = 0) : vp_in x 6 := by
  unfold xev at h
  split at h
  · exact absurd rfl h
  next q1 =>
    split at h
    · exact absurd rfl h
    next q2 => exact xm_rng (M := 5) (n := 5) rfl (xm_pos1 q1) q2
/-- Links.isEvent -/
theorem r16 (x : Int32) : XMR l 16 d [.int x] hp (some (.int (xev x))) := by
  refine XER (pl := [some (.int x)]) xg16 rfl ?_
  iterate 2 refine x_stepC rfl ?_
  refine x_icmp_lt rfl (fun q1 => ?_) (fun q1 => ?_)
  · refine x_stepC rfl ?_
    rw [show xev x = 0 from if_pos q1]
    exact x_iretR rfl rfl rfl
  · iterate 2 refine x_stepC rfl ?_
    refine x_icmp_gt rfl (fun q2 => ?_) (fun q2 => ?_)
    · refine x_stepC rfl ?_
      rw [show xev x = 0 from (if_neg q1).trans (if_pos q2)]
      exact x_iretR rfl rfl rfl
    · iterate 2 refine x_stepC rfl ?_
      rw [show xev x = 1 from (if_neg q1).trans (if_neg q2)]
      exact x_iretR rfl rfl rfl
def xrp (x : Int32) : Int32 := if x < 1 then 0 else if 4 < x then 0 else 1
theorem xrp_in {x : Int32} (h : ¬ xrp x = 0) : vp_in x 5 := by
  unfold xrp at h
  split at h
  · exact absurd rfl h
  next q1 =>
    split at h
    · exact absurd rfl h
    next q2 => exact xm_rng (M := 4) (n := 4) rfl (xm_pos1 q1) q2
/-- Links.isReport -/
theorem r26 (x : Int32) : XMR l 26 d [.int x] hp (some (.int (xrp x))) := by
  refine XER (pl := [some (.int x)]) xg26 rfl ?_
  iterate 2 refine x_stepC rfl ?_
  refine x_icmp_lt rfl (fun q1 => ?_) (fun q1 => ?_)
  · refine x_stepC rfl ?_
    rw [show xrp x = 0 from if_pos q1]
    exact x_iretR rfl rfl rfl
  · iterate 2 refine x_stepC rfl ?_
    refine x_icmp_gt rfl (fun q2 => ?_) (fun q2 => ?_)
    · refine x_stepC rfl ?_
      rw [show xrp x = 0 from (if_neg q1).trans (if_pos q2)]
      exact x_iretR rfl rfl rfl
    · iterate 2 refine x_stepC rfl ?_
      rw [show xrp x = 1 from (if_neg q1).trans (if_neg q2)]
      exact x_iretR rfl rfl rfl
def xvr (x : Int32) : Int32 := if x < 0 then 0 else if 6 ≤ x then 0 else 1
theorem xvr_in {x : Int32} (h : ¬ xvr x = 0) : vp_in x 6 := by
  unfold xvr at h
  split at h
  · exact absurd rfl h
  next q1 =>
    split at h
    · exact absurd rfl h
    next q2 =>
      refine xm_rng (M := 5) (n := 5) rfl q1 ?_
      rw [Int32.lt_iff_toInt_lt]
      rw [Int32.le_iff_toInt_le] at q2
      have e5 : (5 : Int32).toInt = 5 := rfl
      have e6 : (6 : Int32).toInt = 6 := rfl
      omega
/-- Variables.isVariable -/
theorem r29 (x : Int32) : XMR l 29 d [.int x] hp (some (.int (xvr x))) := by
  refine XER (pl := [some (.int x)]) xg29 rfl ?_
  refine x_stepC rfl ?_
  refine x_if_lt rfl (fun q1 => ?_) (fun q1 => ?_)
  · refine x_stepC rfl ?_
    rw [show xvr x = 0 from if_pos q1]
    exact x_iretR rfl rfl rfl
  · iterate 2 refine x_stepC rfl ?_
    refine x_icmp_ge rfl (fun q2 => ?_) (fun q2 => ?_)
    · refine x_stepC rfl ?_
      rw [show xvr x = 0 from (if_neg q1).trans (if_pos q2)]
      exact x_iretR rfl rfl rfl
    · iterate 2 refine x_stepC rfl ?_
      rw [show xvr x = 1 from (if_neg q1).trans (if_neg q2)]
      exact x_iretR rfl rfl rfl
/-- Links.variablesOf -/
theorem r25 (x : Int32) (hd : 1 ≤ d) : XMR l 25 d [.ref 80, .int x] (cw L xs g tc tf bl bf of oc ol on ml mx mb kc kh kr ka gl gx gb ls lq lk lg lh vf vs vb nv nw nr nq ne io sp ch wt xf xz xt xb xc) (some (.int (if xrp x = 0 then 0 else nv x.toNatClampNeg))) := by
  refine XER (pl := [some (.ref 80), some (.int x)]) xg25 rfl ?_
  refine x_stepC rfl ?_
  refine x_callsRE rfl (r26 (d := 0) x) rfl rfl ?_
  refine x_if_eq rfl (fun q1 => ?_) (fun q1 => ?_)
  · refine x_stepC rfl ?_
    rw [if_pos q1]
    exact x_iretR rfl rfl rfl
  · iterate 3 refine x_stepC rfl ?_
    refine x_iald rfl rfl rfl (xrp_in q1) ?_
    refine x_stepC rfl ?_
    rw [if_neg q1]
    exact x_iretR rfl rfl rfl
/-- Links.reportsOf -/
theorem r23 (x : Int32) (hd : 1 ≤ d) : XMR l 23 d [.ref 80, .int x] (cw L xs g tc tf bl bf of oc ol on ml mx mb kc kh kr ka gl gx gb ls lq lk lg lh vf vs vb nv nw nr nq ne io sp ch wt xf xz xt xb xc) (some (.int (if xev x = 0 then 0 else nr x.toNatClampNeg))) := by
  refine XER (pl := [some (.ref 80), some (.int x)]) xg23 rfl ?_
  refine x_stepC rfl ?_
  refine x_callsRE rfl (r16 (d := 0) x) rfl rfl ?_
  refine x_if_eq rfl (fun q1 => ?_) (fun q1 => ?_)
  · refine x_stepC rfl ?_
    rw [if_pos q1]
    exact x_iretR rfl rfl rfl
  · iterate 3 refine x_stepC rfl ?_
    refine x_iald rfl rfl rfl (xev_in q1) ?_
    refine x_stepC rfl ?_
    rw [if_neg q1]
    exact x_iretR rfl rfl rfl
/-- Variables.formatOf -/
theorem r166 (x : Int32) (hd : 1 ≤ d) : XMR l 166 d [.ref 70, .int x] (cw L xs g tc tf bl bf of oc ol on ml mx mb kc kh kr ka gl gx gb ls lq lk lg lh vf vs vb nv nw nr nq ne io sp ch wt xf xz xt xb xc) (some (.int (if xvr x = 0 then 0 else vf x.toNatClampNeg))) := by
  refine XER (pl := [some (.ref 70), some (.int x)]) xg166 rfl ?_
  refine x_stepC rfl ?_
  refine x_callsRE rfl (r29 (d := 0) x) rfl rfl ?_
  refine x_if_eq rfl (fun q1 => ?_) (fun q1 => ?_)
  · refine x_stepC rfl ?_
    rw [if_pos q1]
    exact x_iretR rfl rfl rfl
  · iterate 3 refine x_stepC rfl ?_
    refine x_iald rfl rfl rfl (xvr_in q1) ?_
    refine x_stepC rfl ?_
    rw [if_neg q1]
    exact x_iretR rfl rfl rfl
/-- Machine.variables -/
theorem r113 : XMR l 113 d [.ref 69] (cw L xs g tc tf bl bf of oc ol on ml mx mb kc kh kr ka gl gx gb ls lq lk lg lh vf vs vb nv nw nr nq ne io sp ch wt xf xz xt xb xc) (some (.ref 70)) := by
  refine XER (pl := [some (.ref 69)]) xg113 rfl ?_
  iterate 2 refine x_stepC rfl ?_
  exact x_aretR rfl rfl rfl
/-- Machine.links -/
theorem r125 : XMR l 125 d [.ref 69] (cw L xs g tc tf bl bf of oc ol on ml mx mb kc kh kr ka gl gx gb ls lq lk lg lh vf vs vb nv nw nr nq ne io sp ch wt xf xz xt xb xc) (some (.ref 80)) := by
  refine XER (pl := [some (.ref 69)]) xg125 rfl ?_
  iterate 2 refine x_stepC rfl ?_
  exact x_aretR rfl rfl rfl
/-- Machine.workTime -/
theorem r159 : XMR l 159 d [.ref 69] (cw L xs g tc tf bl bf of oc ol on ml mx mb kc kh kr ka gl gx gb ls lq lk lg lh vf vs vb nv nw nr nq ne io sp ch wt xf xz xt xb xc) (some (.int wt)) := by
  refine XER (pl := [some (.ref 69)]) xg159 rfl ?_
  iterate 2 refine x_stepC rfl ?_
  exact x_iretR rfl rfl rfl
/-- Talks.count -/
theorem r160 : XMR l 160 d [.ref 55] (cw L xs g tc tf bl bf of oc ol on ml mx mb kc kh kr ka gl gx gb ls lq lk lg lh vf vs vb nv nw nr nq ne io sp ch wt xf xz xt xb xc) (some (.int kc)) := by
  refine XER (pl := [some (.ref 55)]) xg160 rfl ?_
  iterate 2 refine x_stepC rfl ?_
  exact x_iretR rfl rfl rfl
/-- FabLink.said -/
theorem m43 {mc ms : Nat} (hd : 1 ≤ d) : XM l 43 d mc ms [.ref 32] (cw L xs g tc tf bl bf of oc ol on ml mx mb kc kh kr ka gl gx gb ls lq lk lg lh vf vs vb nv nw nr nq ne io sp ch wt xf xz xt xb xc) (xm_is (some (.int tc)) (cw L xs g tc tf bl bf of oc ol on ml mx mb kc kh kr ka gl gx gb ls lq lk lg lh vf vs vb nv nw nr nq ne io sp ch wt xf xz xt xb xc)) := by
  refine XE (pl := [some (.ref 32)]) xg43 rfl ?_
  iterate 2 refine x_step rfl ?_
  refine x_callvE rfl (m44 (d := 0)) rfl rfl rfl ?_
  exact x_iret rfl rfl rfl ⟨rfl, rfl⟩
/-- FabLink.report: an answer -/
theorem m162 (x : Int32) (hd : 2 ≤ d) (h : ¬ xrp x = 0) : XM l 162 d 1 6 [.ref 32, .int x] (cw L xs g tc tf bl bf of oc ol on ml mx mb kc kh kr ka gl gx gb ls lq lk lg lh vf vs vb nv nw nr nq ne io sp ch wt xf xz xt xb xc) (xm_is (some (.int (nv x.toNatClampNeg))) (cw L xs g tc tf bl bf of oc ol on ml mx mb kc kh kr ka gl gx gb ls lq lk lg lh vf vs vb nv nw nr nq ne io sp ch wt xf xz xt xb xc)) := by
  refine XE (pl := [some (.ref 32), some (.int x)]) xg162 rfl ?_
  refine x_step rfl ?_
  refine x_callsE rfl (r26 (d := 0) x).xm rfl rfl ?_
  refine x_if_ne rfl (fun q1 => ?_) (fun q1 => absurd q1 h)
  iterate 2 refine x_step rfl ?_
  refine x_callvE rfl (r125 (d := 0)).xm rfl rfl rfl ?_
  refine x_step rfl ?_
  refine x_callvE rfl (r25 (d := 1) x (by omega)).xm rfl rfl rfl ?_
  rw [if_neg h]
  exact x_iret rfl rfl rfl ⟨rfl, rfl⟩
/-- FabLink.report: a throw -/
theorem t162 (hfl : l.flags = pinnedFlags ++ [noTraceFlag]) (x : Int32) (hd : 6 ≤ d) (h : xrp x = 0) : XMT l 162 d 1 6 [.ref 32, .int x] (cw L xs g tc tf bl bf of oc ol on ml mx mb kc kh kr ka gl gx gb ls lq lk lg lh vf vs vb nv nw nr nq ne io sp ch wt xf xz xt xb xc) "java/lang/IndexOutOfBoundsException" (103 + g.length) ((cw L xs g tc tf bl bf of oc ol on ml mx mb kc kh kr ka gl gx gb ls lq lk lg lh vf vs vb nv nw nr nq ne io sp ch wt xf xz xt xb xc) ++ [none]) := by
  refine XET (pl := [some (.ref 32), some (.int x)]) xg162 rfl ?_
  refine x_stepC rfl ?_
  refine x_callsRE rfl (r26 (d := 0) x) rfl rfl ?_
  refine x_if_ne rfl (fun q1 => absurd h q1) (fun q1 => ?_)
  refine x_thrE hfl xm_tw3 rfl rfl rfl rfl rfl rfl rfl rfl ?_ rfl
  show _ = _
  simp [cw, hz]
  omega

end ER
