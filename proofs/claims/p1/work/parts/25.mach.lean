section EM
variable {l : Launch} {d L : Nat} {xs : Nat → Int32} {g : xm_H} {tc : Int32} {tf : (Nat → Int32)} {bl : Int32} {bf : (Nat → Int32)} {of : Int32} {oc : Int32} {ol : Int32} {on : Int32} {ml : (Nat → Int32)} {mx : (Nat → Int32)} {mb : (Nat → Nat → Int32)} {kc : Int32} {kh : (Nat → Nat)} {kr : (Nat → Nat → Int32)} {ka : (Nat → Int32)} {gl : Int32} {gx : Int32} {gb : (Nat → Int32)} {ls : Int32} {lq : Int32} {lk : Int32} {lg : Int32} {lh : Int32} {vf : (Nat → Int32)} {vs : (Nat → Int32)} {vb : (Nat → Nat → Int32)} {nv : (Nat → Int32)} {nw : (Nat → Nat → Int32)} {nr : (Nat → Int32)} {nq : (Nat → Nat → Int32)} {ne : (Nat → Int32)} {io : Int32} {sp : Int32} {ch : Int32} {wt : Int32} {xf : (Nat → Int32)} {xz : (Nat → Int32)} {xt : (Nat → Int32)} {xb : (Nat → Int32)} {xc : Int32}
variable {hp : xm_H}
/-- Links.isTold -/
def xtd (ne nr : Nat → Int32) (x : Int32) : Int32 := if xev x = 0 then 0 else if ne x.toNatClampNeg = 0 then 0 else if nr x.toNatClampNeg ≤ 0 then 0 else 1
theorem r15 (x : Int32) (hd : 1 ≤ d) : XMR l 15 d [.ref 80, .int x] (cw L xs g tc tf bl bf of oc ol on ml mx mb kc kh kr ka gl gx gb ls lq lk lg lh vf vs vb nv nw nr nq ne io sp ch wt xf xz xt xb xc) (some (.int (xtd ne nr x))) := by
  refine XER (pl := [some (.ref 80), some (.int x)]) xg15 rfl ?_
  refine x_stepC rfl ?_
  refine x_callsRE rfl (r16 (d := 0) x) rfl rfl ?_
  refine x_if_eq rfl (fun q1 => ?_) (fun q1 => ?_)
  · refine x_stepC rfl ?_
    rw [show xtd ne nr x = 0 from if_pos q1]
    exact x_iretR rfl rfl rfl
  · iterate 3 refine x_stepC rfl ?_
    refine x_zald rfl rfl rfl (xev_in q1) ?_
    refine x_if_eq rfl (fun q2 => ?_) (fun q2 => ?_)
    · refine x_stepC rfl ?_
      rw [show xtd ne nr x = 0 from (if_neg q1).trans (if_pos q2)]
      exact x_iretR rfl rfl rfl
    · iterate 3 refine x_stepC rfl ?_
      refine x_iald rfl rfl rfl (xev_in q1) ?_
      refine x_if_le rfl (fun q3 => ?_) (fun q3 => ?_)
      · refine x_stepC rfl ?_
        rw [show xtd ne nr x = 0 from (if_neg q1).trans ((if_neg q2).trans (if_pos q3))]
        exact x_iretR rfl rfl rfl
      · iterate 2 refine x_stepC rfl ?_
        rw [show xtd ne nr x = 1 from (if_neg q1).trans ((if_neg q2).trans (if_neg q3))]
        exact x_iretR rfl rfl rfl
/-- Variables.isOnline -/
def xon (c : Int32) : Int32 := if c = 2 then 1 else if c = 3 then 1 else 0
theorem r17 : XMR l 17 d [.ref 70] (cw L xs g tc tf bl bf of oc ol on ml mx mb kc kh kr ka gl gx gb ls lq lk lg lh vf vs vb nv nw nr nq ne io sp ch wt xf xz xt xb xc) (some (.int (xon (vb 0 0)))) := by
  refine XER (pl := [some (.ref 70)]) xg17 rfl ?_
  iterate 3 refine x_stepC rfl ?_
  refine x_aald rfl rfl rfl (by unfold vp_in; decide) rfl ?_
  refine x_stepC rfl ?_
  refine x_iald rfl rfl rfl (by unfold vp_in; decide) ?_
  refine x_stepC rfl ?_
  refine x_icmp_eq rfl (fun q1 => ?_) (fun q1 => ?_)
  · iterate 2 refine x_stepC rfl ?_
    rw [show xon (vb 0 0) = 1 from if_pos q1]
    exact x_iretR rfl rfl rfl
  · iterate 3 refine x_stepC rfl ?_
    refine x_aald rfl rfl rfl (by unfold vp_in; decide) rfl ?_
    refine x_stepC rfl ?_
    refine x_iald rfl rfl rfl (by unfold vp_in; decide) ?_
    refine x_stepC rfl ?_
    refine x_icmp_ne rfl (fun q2 => ?_) (fun q2 => ?_)
    · refine x_stepC rfl ?_
      rw [show xon (vb 0 0) = 0 from (if_neg q1).trans (if_neg q2)]
      exact x_iretR rfl rfl rfl
    · iterate 2 refine x_stepC rfl ?_
      rw [show xon (vb 0 0) = 1 from (if_neg q1).trans (if_pos q2)]
      exact x_iretR rfl rfl rfl
/-- does event x go out -/
def xgo (ne nr : Nat → Int32) (sp c x : Int32) : Prop := ¬ xtd ne nr x = 0 ∧ ¬ sp = 0 ∧ ¬ xon c = 0
/-- Machine.happen: nothing goes out -/
theorem m14n (x : Int32) (hd : 2 ≤ d) (h : ¬ xgo ne nr sp (vb 0 0) x) : XM l 14 d 0 0 [.ref 69, .int x] (cw L xs g tc tf bl bf of oc ol on ml mx mb kc kh kr ka gl gx gb ls lq lk lg lh vf vs vb nv nw nr nq ne io sp ch wt xf xz xt xb xc) (xm_is (some (.int 0)) (cw L xs g tc tf bl bf of oc ol on ml mx mb kc kh kr ka gl gx gb ls lq lk lg lh vf vs vb nv nw nr nq ne io sp ch wt xf xz xt xb xc)) := by
  refine XE (pl := [some (.ref 69), some (.int x), none, none, none, none]) xg14 rfl ?_
  iterate 3 refine x_step rfl ?_
  refine x_callvE rfl (r15 (d := 1) x (by omega)).xm rfl rfl rfl ?_
  refine x_if_eq rfl (fun q1 => ?_) (fun q1 => ?_)
  · refine x_step rfl ?_
    exact x_iret rfl rfl rfl ⟨rfl, rfl⟩
  · iterate 2 refine x_step rfl ?_
    refine x_if_eq rfl (fun q2 => ?_) (fun q2 => ?_)
    · refine x_step rfl ?_
      exact x_iret rfl rfl rfl ⟨rfl, rfl⟩
    · iterate 2 refine x_step rfl ?_
      refine x_callvE rfl (r17 (d := 0)).xm rfl rfl rfl ?_
      refine x_if_ne rfl (fun q3 => absurd ⟨q1, q2, q3⟩ h) (fun q3 => ?_)
      refine x_step rfl ?_
      exact x_iret rfl rfl rfl ⟨rfl, rfl⟩
/-- FabLink.ring: nothing goes out, nothing is due -/
theorem m13n (hd : 3 ≤ d) (h : ¬ xgo ne nr sp (vb 0 0) 5) (h2 : ¬ (ls = 0 ∧ ¬ oc ≤ 0)) : XM l 13 d 1 6 [.ref 32] (cw L xs g tc tf bl bf of oc ol on ml mx mb kc kh kr ka gl gx gb ls lq lk lg lh vf vs vb nv nw nr nq ne io sp ch wt xf xz xt xb xc) (xm_is (some (.int 0)) (cw L xs g tc tf bl bf of oc ol on ml mx mb kc kh kr ka gl gx gb ls lq lk lg lh vf vs vb nv nw nr nq ne io sp ch wt xf xz xt xb xc)) := by
  refine XE (pl := [some (.ref 32), none]) xg13 rfl ?_
  iterate 3 refine x_step rfl ?_
  refine x_callvE rfl (m14n (d := 2) 5 (by omega) h) rfl rfl rfl ?_
  iterate 3 refine x_step rfl ?_
  refine x_callvE rfl (m38a (d := 2) (by omega) h2) rfl rfl rfl ?_
  refine x_step rfl ?_
  exact x_iret rfl rfl rfl ⟨rfl, rfl⟩
/-- Machine.passUnit: no work -/
theorem m147a (hd : 2 ≤ d) (h : ¬ vb 1 0 = 1) : XM l 147 d 0 0 [.ref 69] (cw L xs g tc tf bl bf of oc ol on ml mx mb kc kh kr ka gl gx gb ls lq lk lg lh vf vs vb nv nw nr nq ne io sp ch wt xf xz xt xb xc) (xm_is none (cw L xs g tc tf bl bf of oc ol on ml mx mb kc kh kr ka gl gx gb ls lq lk lg lh vf vs vb nv nw nr nq ne io sp ch wt xf xz xt xb xc)) := by
  refine XE (pl := [some (.ref 69)]) xg147 rfl ?_
  refine x_step rfl ?_
  refine x_callvE rfl (r139 (d := 1) (by omega)).xm rfl rfl rfl ?_
  refine x_step rfl ?_
  refine x_icmp_eq rfl (fun q1 => absurd q1 h) (fun q1 => ?_)
  exact x_ret rfl rfl ⟨rfl, rfl⟩
/-- Talks.passUnit: no talk is open -/
theorem m146a (h : kc ≤ 0) : XM l 146 d 0 0 [.ref 55, .ref 35] (cw L xs g tc tf bl bf of oc ol on ml mx mb kc kh kr ka gl gx gb ls lq lk lg lh vf vs vb nv nw nr nq ne io sp ch wt xf xz xt xb xc) (xm_is none (cw L xs g tc tf bl bf of oc ol on ml mx mb kc kh kr ka gl gx gb ls lq lk lg lh vf vs vb nv nw nr nq ne io sp ch wt xf xz xt xb xc)) := by
  refine XE (pl := [some (.ref 55), some (.ref 35), none]) xg146 rfl ?_
  iterate 5 refine x_step rfl ?_
  refine x_icmp_ge rfl (fun q1 => ?_) (fun q1 => absurd h q1)
  iterate 4 refine x_step rfl ?_
  refine x_if_le rfl (fun q2 => ?_) (fun q2 => absurd h q2)
  exact x_ret rfl rfl ⟨rfl, rfl⟩
end EM
