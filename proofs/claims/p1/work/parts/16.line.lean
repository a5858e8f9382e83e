section EL
variable {l : Launch} {d L : Nat} {xs : Nat → Int32} {g : xm_H} {tc : Int32} {tf : (Nat → Int32)} {bl : Int32} {bf : (Nat → Int32)} {of : Int32} {oc : Int32} {ol : Int32} {on : Int32} {ml : (Nat → Int32)} {mx : (Nat → Int32)} {mb : (Nat → Nat → Int32)} {kc : Int32} {kh : (Nat → Nat)} {kr : (Nat → Nat → Int32)} {ka : (Nat → Int32)} {gl : Int32} {gx : Int32} {gb : (Nat → Int32)} {ls : Int32} {lq : Int32} {lk : Int32} {lg : Int32} {lh : Int32} {vf : (Nat → Int32)} {vs : (Nat → Int32)} {vb : (Nat → Nat → Int32)} {nv : (Nat → Int32)} {nw : (Nat → Nat → Int32)} {nr : (Nat → Int32)} {nq : (Nat → Nat → Int32)} {ne : (Nat → Int32)} {io : Int32} {sp : Int32} {ch : Int32} {wt : Int32} {xf : (Nat → Int32)} {xz : (Nat → Int32)} {xt : (Nat → Int32)} {xb : (Nat → Int32)} {xc : Int32}
theorem xm_xor_nn {x y : Int32} (hx : 0 ≤ x) (hy : 0 ≤ y) : ¬ (x ^^^ y < 0) := by
  intro h
  have h2 := Int32.lt_iff_toInt_lt.mp h
  have e : (x ^^^ y).toInt = (x.toBitVec ^^^ y.toBitVec).toInt := rfl
  have ex := xm_nn.mp hx
  have ey := xm_nn.mp hy
  have mx : x.toBitVec.msb = false := by rw [BitVec.msb_eq_toInt]; simp; exact ex
  have my : y.toBitVec.msb = false := by rw [BitVec.msb_eq_toInt]; simp; exact ey
  have hm : (x.toBitVec ^^^ y.toBitVec).msb = false := by rw [BitVec.msb_xor, mx, my]; rfl
  rw [BitVec.msb_eq_toInt] at hm
  rw [e] at h2
  have h3 : (x.toBitVec ^^^ y.toBitVec).toInt < 0 := h2
  exact of_decide_eq_false hm h3
theorem xfm_nI {a e : Nat} (ha : a < 2 ^ 31) (h0 : 0 < e) (he : e < 2 ^ 31) : xfm (nI a) (nI e) = nI (a % e) := by
  rw [xfm, if_neg (fun h => xm_xor_nn (nI_pos' ha) (nI_pos' he) h.1), pk_rem ha h0 he]
theorem xfm_in {a : Nat} (ha : a < 2 ^ 31) : vp_in (xfm (nI a) 501) 501 := by
  rw [show (501 : Int32) = nI 501 from rfl, xfm_nI ha (by decide) (by decide)]
  exact nI_in (Nat.mod_lt _ (by decide)) (by decide)
/-- Tape.count -/
theorem m44 : XM l 44 d 0 0 [.ref 33] (cw L xs g tc tf bl bf of oc ol on ml mx mb kc kh kr ka gl gx gb ls lq lk lg lh vf vs vb nv nw nr nq ne io sp ch wt xf xz xt xb xc) (xm_is (some (.int tc)) (cw L xs g tc tf bl bf of oc ol on ml mx mb kc kh kr ka gl gx gb ls lq lk lg lh vf vs vb nv nw nr nq ne io sp ch wt xf xz xt xb xc)) := by
  refine XE (pl := [some (.ref 33)]) xg44 rfl ?_
  iterate 2 refine x_step rfl ?_
  exact x_iret rfl rfl rfl ⟨rfl, rfl⟩
/-- what saying x does to the kept bytes -/
def xsay (tf : Nat → Int32) (tc x : Int32) : Nat → Int32 := upd tf (xfm tc 501).toNatClampNeg x
/-- Tape.say -/
theorem m40w (x : Int32) (hd : 1 ≤ d) (hc : vp_in (xfm tc 501) 501) : XM l 40 d 0 0 [.ref 33, .int x] (cw L xs g tc tf bl bf of oc ol on ml mx mb kc kh kr ka gl gx gb ls lq lk lg lh vf vs vb nv nw nr nq ne io sp ch wt xf xz xt xb xc) (xm_is none (cw L xs g (tc + 1) (xsay tf tc x) bl bf of oc ol on ml mx mb kc kh kr ka gl gx gb ls lq lk lg lh vf vs vb nv nw nr nq ne io sp ch wt xf xz xt xb xc)) :=
  m40 (a := 33) (b := 34) x hd (by decide) (by decide) (by decide) hc rfl rfl
/-- Line.state -/
theorem m157 : XM l 157 d 0 0 [.ref 66] (cw L xs g tc tf bl bf of oc ol on ml mx mb kc kh kr ka gl gx gb ls lq lk lg lh vf vs vb nv nw nr nq ne io sp ch wt xf xz xt xb xc) (xm_is (some (.int ls)) (cw L xs g tc tf bl bf of oc ol on ml mx mb kc kh kr ka gl gx gb ls lq lk lg lh vf vs vb nv nw nr nq ne io sp ch wt xf xz xt xb xc)) := by
  refine XE (pl := [some (.ref 66)]) xg157 rfl ?_
  iterate 2 refine x_step rfl ?_
  exact x_iret rfl rfl rfl ⟨rfl, rfl⟩
/-- Line.enter -/
theorem m42 (x : Int32) : XM l 42 d 0 0 [.ref 66, .int x] (cw L xs g tc tf bl bf of oc ol on ml mx mb kc kh kr ka gl gx gb ls lq lk lg lh vf vs vb nv nw nr nq ne io sp ch wt xf xz xt xb xc) (xm_is none (cw L xs g tc tf bl bf of oc ol on ml mx mb kc kh kr ka gl gx gb (x) (0) lk lg lh vf vs vb nv nw nr nq ne io sp ch wt xf xz xt xb xc)) := by
  refine XE (pl := [some (.ref 66), some (.int x)]) xg42 rfl ?_
  iterate 6 refine x_step rfl ?_
  exact x_ret rfl rfl ⟨rfl, rfl⟩
/-- Line.endReading -/
theorem m50 (x : Int32) (hd : 2 ≤ d) (hc : vp_in (xfm tc 501) 501) : XM l 50 d 0 0 [.ref 66, .int x] (cw L xs g tc tf bl bf of oc ol on ml mx mb kc kh kr ka gl gx gb ls lq lk lg lh vf vs vb nv nw nr nq ne io sp ch wt xf xz xt xb xc) (xm_is none (cw L xs g (tc + 1) (xsay tf tc x) bl bf of oc ol on ml mx mb kc kh kr ka gl gx gb (0) (0) lk lg lh vf vs vb nv nw nr nq ne io sp ch wt xf xz xt xb xc)) := by
  refine XE (pl := [some (.ref 66), some (.int x)]) xg50 rfl ?_
  iterate 3 refine x_step rfl ?_
  refine x_callvE rfl (m40w (d := 1) x (by omega) hc) rfl rfl rfl ?_
  iterate 2 refine x_step rfl ?_
  refine x_callvE rfl (m42 (d := 0) 0) rfl rfl rfl ?_
  exact x_ret rfl rfl ⟨rfl, rfl⟩
/-- Line.settle: nothing is due -/
theorem m38a (hd : 2 ≤ d) (h : ¬ (ls = 0 ∧ ¬ oc ≤ 0)) : XM l 38 d 0 0 [.ref 66] (cw L xs g tc tf bl bf of oc ol on ml mx mb kc kh kr ka gl gx gb ls lq lk lg lh vf vs vb nv nw nr nq ne io sp ch wt xf xz xt xb xc) (xm_is none (cw L xs g tc tf bl bf of oc ol on ml mx mb kc kh kr ka gl gx gb ls lq lk lg lh vf vs vb nv nw nr nq ne io sp ch wt xf xz xt xb xc)) := by
  refine XE (pl := [some (.ref 66)]) xg38 rfl ?_
  iterate 2 refine x_step rfl ?_
  refine x_if_ne rfl (fun q1 => ?_) (fun q1 => ?_)
  · exact x_ret rfl rfl ⟨rfl, rfl⟩
  · iterate 2 refine x_step rfl ?_
    refine x_callvE rfl (m39 (d := 0)) rfl rfl rfl ?_
    refine x_if_le rfl (fun q2 => ?_) (fun q2 => absurd ⟨q1, q2⟩ h)
    exact x_ret rfl rfl ⟨rfl, rfl⟩
/-- Line.settle: a message is offered -/
theorem m38b (hd : 2 ≤ d) (h1 : ls = 0) (h2 : ¬ oc ≤ 0) (hc : vp_in (xfm tc 501) 501) : XM l 38 d 0 0 [.ref 66] (cw L xs g tc tf bl bf of oc ol on ml mx mb kc kh kr ka gl gx gb ls lq lk lg lh vf vs vb nv nw nr nq ne io sp ch wt xf xz xt xb xc) (xm_is none (cw L xs g (tc + 1) (xsay tf tc 5) bl bf of oc ol on ml mx mb kc kh kr ka gl gx gb (2) (0) lk lg lh vf vs vb nv nw nr nq ne io sp ch wt xf xz xt xb xc)) := by
  refine XE (pl := [some (.ref 66)]) xg38 rfl ?_
  iterate 2 refine x_step rfl ?_
  refine x_if_ne rfl (fun q1 => absurd h1 q1) (fun q1 => ?_)
  iterate 2 refine x_step rfl ?_
  refine x_callvE rfl (m39 (d := 0)) rfl rfl rfl ?_
  refine x_if_le rfl (fun q2 => absurd q2 h2) (fun q2 => ?_)
  iterate 3 refine x_step rfl ?_
  refine x_callvE rfl (m40w (d := 1) 5 (by omega) hc) rfl rfl rfl ?_
  iterate 2 refine x_step rfl ?_
  refine x_callvE rfl (m42 (d := 0) 2) rfl rfl rfl ?_
  exact x_ret rfl rfl ⟨rfl, rfl⟩
/-- Line.beginReading -/
theorem m63 (hd : 2 ≤ d) (hc : vp_in (xfm tc 501) 501) : XM l 63 d 0 0 [.ref 66] (cw L xs g tc tf bl bf of oc ol on ml mx mb kc kh kr ka gl gx gb ls lq lk lg lh vf vs vb nv nw nr nq ne io sp ch wt xf xz xt xb xc) (xm_is none (cw L xs g (tc + 1) (xsay tf tc 4) bl bf of oc ol on ml mx mb kc kh kr ka gl gx gb (1) (0) (0) (0) (0) vf vs vb nv nw nr nq ne io sp ch wt xf xz xt xb xc)) := by
  refine XE (pl := [some (.ref 66)]) xg63 rfl ?_
  iterate 3 refine x_step rfl ?_
  refine x_callvE rfl (m40w (d := 1) 4 (by omega) hc) rfl rfl rfl ?_
  iterate 2 refine x_step rfl ?_
  refine x_callvE rfl (m42 (d := 0) 1) rfl rfl rfl ?_
  iterate 2 refine x_step rfl ?_
  refine x_putf rfl rfl (Nat.le_of_ble_eq_true rfl) (by decide) rfl rfl ?_
  iterate 6 refine x_step rfl ?_
  exact x_ret rfl rfl ⟨rfl, rfl⟩
/-- Line.readLength: a wrong length -/
theorem m48a (x : Int32) (hd : 3 ≤ d) (h : x < 10 ∨ 130 < x) (hc : vp_in (xfm tc 501) 501) : XM l 48 d 0 0 [.ref 66, .int x] (cw L xs g tc tf bl bf of oc ol on ml mx mb kc kh kr ka gl gx gb ls lq lk lg lh vf vs vb nv nw nr nq ne io sp ch wt xf xz xt xb xc) (xm_is none (cw L xs g (tc + 1) (xsay tf tc 21) bl bf of oc ol on ml mx mb kc kh kr ka gl gx gb (0) (0) lk lg lh vf vs vb nv nw nr nq ne io sp ch wt xf xz xt xb xc)) := by
  refine XE (pl := [some (.ref 66), some (.int x)]) xg48 rfl ?_
  refine x_step rfl ?_
  refine x_callsE rfl (m49 (d := 0) x) rfl rfl ?_
  rw [show (if x < 10 then (0 : Int32) else if 130 < x then 0 else 1) = 0 from by
    by_cases q : x < 10
    · rw [if_pos q]
    · rw [if_neg q, if_pos (h.resolve_left q)]]
  refine x_if_ne rfl (fun q1 => absurd rfl q1) (fun q1 => ?_)
  iterate 2 refine x_step rfl ?_
  refine x_callvE rfl (m50 (d := 2) 21 (by omega) hc) rfl rfl rfl ?_
  exact x_ret rfl rfl ⟨rfl, rfl⟩
/-- Line.readLength: a right one -/
theorem m48b (x : Int32) (hd : 1 ≤ d) (h1 : ¬ x < 10) (h2 : ¬ 130 < x) : XM l 48 d 0 0 [.ref 66, .int x] (cw L xs g tc tf bl bf of oc ol on ml mx mb kc kh kr ka gl gx gb ls lq lk lg lh vf vs vb nv nw nr nq ne io sp ch wt xf xz xt xb xc) (xm_is none (cw L xs g tc tf bl bf of oc ol on ml mx mb kc kh kr ka (x) (0) gb ls lq (1) lg lh vf vs vb nv nw nr nq ne io sp ch wt xf xz xt xb xc)) := by
  refine XE (pl := [some (.ref 66), some (.int x)]) xg48 rfl ?_
  refine x_step rfl ?_
  refine x_callsE rfl (m49 (d := 0) x) rfl rfl ?_
  rw [if_neg h1, if_neg h2]
  refine x_if_ne rfl (fun q1 => ?_) (fun q1 => absurd q1 (by decide))
  iterate 3 refine x_step rfl ?_
  refine x_callvE rfl (m34 (d := 0) (a := 67) (b := 68) x (by decide) rfl) rfl rfl rfl ?_
  iterate 2 refine x_step rfl ?_
  refine x_putf rfl rfl (Nat.le_of_ble_eq_true rfl) (by decide) rfl rfl ?_
  exact x_ret rfl rfl ⟨rfl, rfl⟩
end EL
