section EO
variable {l : Launch} {d L : Nat} {xs : Nat → Int32} {g : xm_H} {tc : Int32} {tf : (Nat → Int32)} {bl : Int32} {bf : (Nat → Int32)} {of : Int32} {oc : Int32} {ol : Int32} {on : Int32} {ml : (Nat → Int32)} {mx : (Nat → Int32)} {mb : (Nat → Nat → Int32)} {kc : Int32} {kh : (Nat → Nat)} {kr : (Nat → Nat → Int32)} {ka : (Nat → Int32)} {gl : Int32} {gx : Int32} {gb : (Nat → Int32)} {ls : Int32} {lq : Int32} {lk : Int32} {lg : Int32} {lh : Int32} {vf : (Nat → Int32)} {vs : (Nat → Int32)} {vb : (Nat → Nat → Int32)} {nv : (Nat → Int32)} {nw : (Nat → Nat → Int32)} {nr : (Nat → Int32)} {nq : (Nat → Nat → Int32)} {ne : (Nat → Int32)} {io : Int32} {sp : Int32} {ch : Int32} {wt : Int32} {xf : (Nat → Int32)} {xz : (Nat → Int32)} {xt : (Nat → Int32)} {xb : (Nat → Int32)} {xc : Int32}
def updf (mb : Nat → Nat → Int32) (j : Nat) (f : Nat → Int32) : Nat → Nat → Int32 := fun i => if i = j then f else mb i
theorem xm_ge39 (j : Nat) : xm_c0 ≤ 39 + 2 * j := Nat.le_trans (show 32 ≤ 39 by decide) (Nat.le_add_right _ _)
theorem xm_ge40 (j : Nat) : xm_c0 ≤ 40 + 2 * j := Nat.le_trans (show 32 ≤ 40 by decide) (Nat.le_add_right _ _)
theorem updf_same (mb : Nat → Nat → Int32) (j : Nat) (f : Nat → Int32) : updf mb j f j = f := by simp [updf]
theorem updf_updf (mb : Nat → Nat → Int32) (j : Nat) (f g : Nat → Int32) : updf (updf mb j f) j g = updf mb j g := by
  funext i
  by_cases h : i = j <;> simp [updf, h]
theorem xm_8 {j : Nat} (h : j < 8) : j = 0 ∨ j = 1 ∨ j = 2 ∨ j = 3 ∨ j = 4 ∨ j = 5 ∨ j = 6 ∨ j = 7 := by omega
theorem cw_msg {j : Nat} (hj : j < 8) : ((cw L xs g tc tf bl bf of oc ol on ml mx mb kc kh kr ka gl gx gb ls lq lk lg lh vf vs vb nv nw nr nq ne io sp ch wt xf xz xt xb xc))[39 + 2 * j]? = some (xO 4 [.ref (40 + 2 * j), .int (ml j), .int (mx j)]) := by
  rcases xm_8 hj with h | h | h | h | h | h | h | h <;> (subst h; rfl)
theorem cw_row {j : Nat} (hj : j < 8) : ((cw L xs g tc tf bl bf of oc ol on ml mx mb kc kh kr ka gl gx gb ls lq lk lg lh vf vs vb nv nw nr nq ne io sp ch wt xf xz xt xb xc))[40 + 2 * j]? = some (xI 0 130 (mb j)) := by
  rcases xm_8 hj with h | h | h | h | h | h | h | h <;> (subst h; rfl)
theorem cw_setm {j : Nat} (hj : j < 8) (n x : Int32) : ((cw L xs g tc tf bl bf of oc ol on ml mx mb kc kh kr ka gl gx gb ls lq lk lg lh vf vs vb nv nw nr nq ne io sp ch wt xf xz xt xb xc)).set (39 + 2 * j) (xO 4 [.ref (40 + 2 * j), .int n, .int x]) = (cw L xs g tc tf bl bf of oc ol on (upd ml j n) (upd mx j x) mb kc kh kr ka gl gx gb ls lq lk lg lh vf vs vb nv nw nr nq ne io sp ch wt xf xz xt xb xc) := by
  rcases xm_8 hj with h | h | h | h | h | h | h | h <;> (subst h; rfl)
theorem cw_setb {j : Nat} (hj : j < 8) (f : Nat → Int32) : ((cw L xs g tc tf bl bf of oc ol on ml mx mb kc kh kr ka gl gx gb ls lq lk lg lh vf vs vb nv nw nr nq ne io sp ch wt xf xz xt xb xc)).set (40 + 2 * j) (xI 0 130 f) = (cw L xs g tc tf bl bf of oc ol on ml mx (updf mb j f) kc kh kr ka gl gx gb ls lq lk lg lh vf vs vb nv nw nr nq ne io sp ch wt xf xz xt xb xc) := by
  rcases xm_8 hj with h | h | h | h | h | h | h | h <;> (subst h; rfl)
/-- Outbox.count -/
theorem m39 : XM l 39 d 0 0 [.ref 35] (cw L xs g tc tf bl bf of oc ol on ml mx mb kc kh kr ka gl gx gb ls lq lk lg lh vf vs vb nv nw nr nq ne io sp ch wt xf xz xt xb xc) (xm_is (some (.int oc)) (cw L xs g tc tf bl bf of oc ol on ml mx mb kc kh kr ka gl gx gb ls lq lk lg lh vf vs vb nv nw nr nq ne io sp ch wt xf xz xt xb xc)) := by
  refine XE (pl := [some (.ref 35)]) xg39 rfl ?_
  iterate 2 refine x_step rfl ?_
  exact x_iret rfl rfl rfl ⟨rfl, rfl⟩
/-- Outbox.lost -/
theorem m161 : XM l 161 d 0 0 [.ref 35] (cw L xs g tc tf bl bf of oc ol on ml mx mb kc kh kr ka gl gx gb ls lq lk lg lh vf vs vb nv nw nr nq ne io sp ch wt xf xz xt xb xc) (xm_is (some (.int ol)) (cw L xs g tc tf bl bf of oc ol on ml mx mb kc kh kr ka gl gx gb ls lq lk lg lh vf vs vb nv nw nr nq ne io sp ch wt xf xz xt xb xc)) := by
  refine XE (pl := [some (.ref 35)]) xg161 rfl ?_
  iterate 2 refine x_step rfl ?_
  exact x_iret rfl rfl rfl ⟨rfl, rfl⟩
/-- Outbox.first -/
theorem m55 (h : vp_in of 8) : XM l 55 d 0 0 [.ref 35] (cw L xs g tc tf bl bf of oc ol on ml mx mb kc kh kr ka gl gx gb ls lq lk lg lh vf vs vb nv nw nr nq ne io sp ch wt xf xz xt xb xc) (xm_is (some (.ref (39 + 2 * of.toNatClampNeg))) (cw L xs g tc tf bl bf of oc ol on ml mx mb kc kh kr ka gl gx gb ls lq lk lg lh vf vs vb nv nw nr nq ne io sp ch wt xf xz xt xb xc)) := by
  refine XE (pl := [some (.ref 35)]) xg55 rfl ?_
  iterate 4 refine x_step rfl ?_
  refine x_aald rfl rfl rfl h rfl ?_
  exact x_aret rfl rfl rfl ⟨rfl, rfl⟩
/-- Outbox.dropFirst -/
theorem m60 (h0 : ¬ oc ≤ 0) : XM l 60 d 0 0 [.ref 35] (cw L xs g tc tf bl bf of oc ol on ml mx mb kc kh kr ka gl gx gb ls lq lk lg lh vf vs vb nv nw nr nq ne io sp ch wt xf xz xt xb xc) (xm_is none (cw L xs g tc tf bl bf (of + 1 - (of + 1) / 8 * 8) (oc - 1) ol on ml mx mb kc kh kr ka gl gx gb ls lq lk lg lh vf vs vb nv nw nr nq ne io sp ch wt xf xz xt xb xc)) := by
  refine XE (pl := [some (.ref 35)]) xg60 rfl ?_
  iterate 2 refine x_step rfl ?_
  refine x_if_le rfl (fun q1 => absurd q1 h0) (fun q1 => ?_)
  iterate 6 refine x_step rfl ?_
  refine x_irem rfl (by decide) ?_
  iterate 7 refine x_step rfl ?_
  exact x_ret rfl rfl ⟨rfl, rfl⟩
/-- Outbox.failFirst, when it isn't the last failure -/
theorem m58a (hd : 1 ≤ d) (h : vp_in of 8) (hj : of.toNatClampNeg < 8) (hx : mx of.toNatClampNeg + 1 < 4) : XM l 58 d 0 0 [.ref 35] (cw L xs g tc tf bl bf of oc ol on ml mx mb kc kh kr ka gl gx gb ls lq lk lg lh vf vs vb nv nw nr nq ne io sp ch wt xf xz xt xb xc) (xm_is none (cw L xs g tc tf bl bf of oc ol on (upd ml of.toNatClampNeg (ml of.toNatClampNeg)) (upd mx of.toNatClampNeg (mx of.toNatClampNeg + 1)) mb kc kh kr ka gl gx gb ls lq lk lg lh vf vs vb nv nw nr nq ne io sp ch wt xf xz xt xb xc)) := by
  refine XE (pl := [some (.ref 35)]) xg58 rfl ?_
  iterate 4 refine x_step rfl ?_
  refine x_aald rfl rfl rfl h rfl ?_
  refine x_callvE rfl (m59 (d := 0) (xm_ge39 _) (cw_msg hj)) rfl rfl (cw_msg hj) ?_
  refine xm_hs (cw_setm hj _ _) ?_
  refine x_step rfl ?_
  refine x_icmp_lt rfl (fun q1 => ?_) (fun q1 => absurd hx q1)
  exact x_ret rfl rfl ⟨rfl, rfl⟩
/-- Outbox.failFirst, the last failure -/
theorem m58b (hd : 1 ≤ d) (h : vp_in of 8) (hj : of.toNatClampNeg < 8) (hx : ¬ mx of.toNatClampNeg + 1 < 4) (h0 : ¬ oc ≤ 0) : XM l 58 d 0 0 [.ref 35] (cw L xs g tc tf bl bf of oc ol on ml mx mb kc kh kr ka gl gx gb ls lq lk lg lh vf vs vb nv nw nr nq ne io sp ch wt xf xz xt xb xc) (xm_is none (cw L xs g tc tf bl bf (of + 1 - (of + 1) / 8 * 8) (oc - 1) (ol + 1) on (upd ml of.toNatClampNeg (ml of.toNatClampNeg)) (upd mx of.toNatClampNeg (mx of.toNatClampNeg + 1)) mb kc kh kr ka gl gx gb ls lq lk lg lh vf vs vb nv nw nr nq ne io sp ch wt xf xz xt xb xc)) := by
  refine XE (pl := [some (.ref 35)]) xg58 rfl ?_
  iterate 4 refine x_step rfl ?_
  refine x_aald rfl rfl rfl h rfl ?_
  refine x_callvE rfl (m59 (d := 0) (xm_ge39 _) (cw_msg hj)) rfl rfl (cw_msg hj) ?_
  refine xm_hs (cw_setm hj _ _) ?_
  refine x_step rfl ?_
  refine x_icmp_lt rfl (fun q1 => absurd q1 hx) (fun q1 => ?_)
  refine x_step rfl ?_
  refine x_callvE rfl (m60 (d := 0) h0) rfl rfl rfl ?_
  iterate 6 refine x_step rfl ?_
  exact x_ret rfl rfl ⟨rfl, rfl⟩
/-- Outbox.freshBody -/
theorem m18 (hd : 1 ≤ d) : XM l 18 d 0 0 [.ref 35] (cw L xs g tc tf bl bf of oc ol on ml mx mb kc kh kr ka gl gx gb ls lq lk lg lh vf vs vb nv nw nr nq ne io sp ch wt xf xz xt xb xc) (xm_is (some (.ref 37)) (cw L xs g tc tf (0) bf of oc ol on ml mx mb kc kh kr ka gl gx gb ls lq lk lg lh vf vs vb nv nw nr nq ne io sp ch wt xf xz xt xb xc)) := by
  refine XE (pl := [some (.ref 35)]) xg18 rfl ?_
  iterate 2 refine x_step rfl ?_
  refine x_callvE rfl (m19 (d := 0)) rfl rfl rfl ?_
  iterate 2 refine x_step rfl ?_
  exact x_aret rfl rfl rfl ⟨rfl, rfl⟩
/-- Outbox.nextNumber -/
theorem m30 : XM l 30 d 0 0 [.ref 35] (cw L xs g tc tf bl bf of oc ol on ml mx mb kc kh kr ka gl gx gb ls lq lk lg lh vf vs vb nv nw nr nq ne io sp ch wt xf xz xt xb xc) (xm_is (some (.int (on + 1 &&& 65535))) (cw L xs g tc tf bl bf of oc ol (on + 1 &&& 65535) ml mx mb kc kh kr ka gl gx gb ls lq lk lg lh vf vs vb nv nw nr nq ne io sp ch wt xf xz xt xb xc)) := by
  refine XE (pl := [some (.ref 35)]) xg30 rfl ?_
  iterate 5 refine x_step rfl ?_
  refine x_ldc rfl (by decide) ?_
  iterate 4 refine x_step rfl ?_
  exact x_iret rfl rfl rfl ⟨rfl, rfl⟩
/-- the copying of the body behind a header: from i on, into the row r -/
def xcopyF (f : Nat → Int32) (n : Int32) : Nat → Int32 → (Nat → Int32) → (Nat → Int32)
  | 0, _, r => r
  | m + 1, i, r => if n ≤ i then r else if 120 ≤ i then r else xcopyF f n m (i + 1) (upd r (10 + i).toNatClampNeg (f i.toNatClampNeg))
def xcopy (f : Nat → Int32) (n : Int32) (r : Nat → Int32) : Nat → Int32 := xcopyF f n 121 0 r
theorem m37_loop {hp : xm_H} {b : Nat} {n : Int32} {f : Nat → Int32} (hb : xm_c0 ≤ b) (hb7 : b ≠ 37) (hb8 : b ≠ 38) (h1 : hp[37]? = some (xO 3 [.ref 38, .int n])) (h2 : hp[38]? = some (xI 0 120 f)) (hl : b < hp.length) : ∀ (m : Nat) (i : Int32) (r : Nat → Int32), 0 ≤ i → i.toInt + m = 121 → XW l 37 d 0 0 2 [some (.ref 37), some (.ref b), some (.int 10), some (.int i)] [] (hp.set b (xI 0 130 r)) (xm_is none (hp.set b (xI 0 130 (xcopyF f n m i r)))) := by
  have g1 : ∀ r : Nat → Int32, (hp.set b (xI 0 130 r))[37]? = some (xO 3 [.ref 38, .int n]) := fun r => xm_oth _ h1 hb7
  have g2 : ∀ r : Nat → Int32, (hp.set b (xI 0 130 r))[38]? = some (xI 0 120 f) := fun r => xm_oth _ h2 hb8
  have g3 : ∀ r : Nat → Int32, (hp.set b (xI 0 130 r))[b]? = some (xI 0 130 r) := fun r => by rw [List.getElem?_set]; simp [hl]
  intro m
  induction m with
  | zero =>
    intro i r h0 hm
    iterate 2 refine x_step rfl ?_
    refine x_getf rfl (g1 r) rfl ?_
    refine x_icmp_ge rfl (fun q1 => ?_) (fun q1 => ?_)
    · exact x_ret rfl rfl ⟨rfl, rfl⟩
    · iterate 2 refine x_step rfl ?_
      refine x_icmp_ge rfl (fun q2 => ?_) (fun q2 => ?_)
      · exact x_ret rfl rfl ⟨rfl, rfl⟩
      · exact absurd ((xm_le 120).mpr (by show (120 : Int) ≤ _; omega)) q2
  | succ m ih =>
    intro i r h0 hm
    iterate 2 refine x_step rfl ?_
    refine x_getf rfl (g1 r) rfl ?_
    refine x_icmp_ge rfl (fun q1 => ?_) (fun q1 => ?_)
    · exact x_ret rfl rfl ⟨rfl, by rw [xcopyF, if_pos q1]⟩
    · iterate 2 refine x_step rfl ?_
      refine x_icmp_ge rfl (fun q2 => ?_) (fun q2 => ?_)
      · exact x_ret rfl rfl ⟨rfl, by rw [xcopyF, if_neg q1, if_pos q2]⟩
      · have q3 := xm_lt2.mp (Int32.not_le.mp q2)
        have q3' : i.toInt < 120 := q3
        have h0' := xm_nn.mp h0
        have e10 : (10 + i).toInt = 10 + i.toInt := by
          rw [Int32.toInt_add]
          simp only [show (10 : Int32).toInt = 10 from rfl]
          rw [Int.bmod_eq_of_le] <;> omega
        have hlt : 10 + i < 130 := xm_lt2.mpr (by rw [e10]; show _ < (130 : Int); omega)
        iterate 4 refine x_step rfl ?_
        refine x_alen rfl (g3 r) (Or.inl ⟨_, _, rfl⟩) rfl ?_
        refine x_icmp_ge rfl (fun q4 => absurd hlt (Int32.not_lt.mpr q4)) (fun q4 => ?_)
        iterate 5 refine x_step rfl ?_
        refine x_getf rfl (g1 r) rfl ?_
        refine x_step rfl ?_
        refine x_iald rfl (g2 r) rfl (xm_in h0 (Int32.not_le.mp q2) rfl) ?_
        refine x_iast rfl (g3 r) hb rfl (xm_in (xm_nn.mpr (by rw [e10]; omega)) hlt rfl) ?_
        rw [List.set_set]
        iterate 2 refine x_step rfl ?_
        rw [xcopyF, if_neg q1, if_neg q2]
        have e1 : (i + 1).toInt = i.toInt + 1 := xm_inc (Int32.not_le.mp q2)
        exact ih (i + 1) _ (xm_nn.mpr (by rw [e1]; omega)) (by rw [e1]; omega)
/-- Body.copyTo, behind a header -/
theorem m37 {hp : xm_H} {b : Nat} {n : Int32} {f r : Nat → Int32} (hb : xm_c0 ≤ b) (hb7 : b ≠ 37) (hb8 : b ≠ 38) (h1 : hp[37]? = some (xO 3 [.ref 38, .int n])) (h2 : hp[38]? = some (xI 0 120 f)) (h3 : hp[b]? = some (xI 0 130 r)) : XM l 37 d 0 0 [.ref 37, .ref b, .int 10] hp (xm_is none (hp.set b (xI 0 130 (xcopy f n r)))) := by
  refine XE (pl := [some (.ref 37), some (.ref b), some (.int 10), none]) xg37 rfl ?_
  iterate 2 refine x_step rfl ?_
  have h := m37_loop (l := l) (d := d) hb hb7 hb8 h1 h2 (xm_lt h3) 121 0 r (by decide) (by decide)
  rw [xm_set_id h3] at h
  exact h
/-- Outbox.send, where there is no room -/
theorem m31a (sb fn sy : Int32) (h8 : 8 ≤ oc) : XM l 31 d 0 0 [.ref 35, .int sb, .int fn, .int sy] (cw L xs g tc tf bl bf of oc ol on ml mx mb kc kh kr ka gl gx gb ls lq lk lg lh vf vs vb nv nw nr nq ne io sp ch wt xf xz xt xb xc) (xm_is none (cw L xs g tc tf bl bf of oc (ol + 1) on ml mx mb kc kh kr ka gl gx gb ls lq lk lg lh vf vs vb nv nw nr nq ne io sp ch wt xf xz xt xb xc)) := by
  refine XE (pl := [some (.ref 35), some (.int sb), some (.int fn), some (.int sy), none]) xg31 rfl ?_
  iterate 3 refine x_step rfl ?_
  refine x_icmp_ge rfl (fun q1 => ?_) (fun q1 => absurd h8 q1)
  iterate 6 refine x_step rfl ?_
  exact x_ret rfl rfl ⟨rfl, rfl⟩
/-- Outbox.send, where the body is too long -/
theorem m31b (sb fn sy : Int32) (hd : 1 ≤ d) (h8 : ¬ 8 ≤ oc) (hb : 120 < bl) : XM l 31 d 0 0 [.ref 35, .int sb, .int fn, .int sy] (cw L xs g tc tf bl bf of oc ol on ml mx mb kc kh kr ka gl gx gb ls lq lk lg lh vf vs vb nv nw nr nq ne io sp ch wt xf xz xt xb xc) (xm_is none (cw L xs g tc tf bl bf of oc (ol + 1) on ml mx mb kc kh kr ka gl gx gb ls lq lk lg lh vf vs vb nv nw nr nq ne io sp ch wt xf xz xt xb xc)) := by
  refine XE (pl := [some (.ref 35), some (.int sb), some (.int fn), some (.int sy), none]) xg31 rfl ?_
  iterate 3 refine x_step rfl ?_
  refine x_icmp_ge rfl (fun q1 => absurd q1 h8) (fun q1 => ?_)
  iterate 2 refine x_step rfl ?_
  refine x_callvE rfl (m32 (d := 0)) rfl rfl rfl ?_
  rw [if_pos hb]
  refine x_if_ne rfl (fun q2 => absurd rfl q2) (fun q2 => ?_)
  iterate 6 refine x_step rfl ?_
  exact x_ret rfl rfl ⟨rfl, rfl⟩
/-- Outbox.send -/
theorem m31c (sb fn sy : Int32) {j : Nat} (hd : 1 ≤ d) (h8 : ¬ 8 ≤ oc) (hb : ¬ 120 < bl) (hi : vp_in (of + oc - (of + oc) / 8 * 8) 8) (hj : (of + oc - (of + oc) / 8 * 8).toNatClampNeg = j) (hj8 : j < 8) : XM l 31 d 0 0 [.ref 35, .int sb, .int fn, .int sy] (cw L xs g tc tf bl bf of oc ol on ml mx mb kc kh kr ka gl gx gb ls lq lk lg lh vf vs vb nv nw nr nq ne io sp ch wt xf xz xt xb xc) (xm_is none (cw L xs g tc tf bl bf of (oc + 1) ol on (upd ml j (10 + bl)) (upd mx j 0) (updf mb j (xcopy bf bl (xhead (mb j) sb fn sy))) kc kh kr ka gl gx gb ls lq lk lg lh vf vs vb nv nw nr nq ne io sp ch wt xf xz xt xb xc)) := by
  refine XE (pl := [some (.ref 35), some (.int sb), some (.int fn), some (.int sy), none]) xg31 rfl ?_
  iterate 3 refine x_step rfl ?_
  refine x_icmp_ge rfl (fun q1 => absurd q1 h8) (fun q1 => ?_)
  iterate 2 refine x_step rfl ?_
  refine x_callvE rfl (m32 (d := 0)) rfl rfl rfl ?_
  rw [if_neg hb]
  refine x_if_ne rfl (fun q2 => ?_) (fun q2 => absurd q2 (by decide))
  iterate 8 refine x_step rfl ?_
  refine x_irem rfl (by decide) ?_
  refine x_aald rfl rfl rfl hi rfl ?_
  rw [hj]
  iterate 5 refine x_step rfl ?_
  refine x_callvE rfl (m33 (d := 0)) rfl rfl rfl ?_
  refine x_step rfl ?_
  refine x_callvE rfl (m34 (d := 0) (10 + bl) (xm_ge39 j) (cw_msg hj8)) rfl rfl (cw_msg hj8) ?_
  refine xm_hs (cw_setm hj8 _ _) ?_
  iterate 4 refine x_step rfl ?_
  refine x_callvE rfl (m35 (d := 0) sb fn sy (xm_ge40 j) (by omega) (cw_msg hj8) (cw_row hj8)) rfl rfl (cw_msg hj8) ?_
  refine xm_hs (cw_setb hj8 _) ?_
  iterate 3 refine x_step rfl ?_
  refine x_callvE rfl (m36 (d := 0) (cw_msg hj8)) rfl rfl (cw_msg hj8) ?_
  refine x_step rfl ?_
  refine x_callvE rfl (m37 (d := 0) (xm_ge40 j) (by omega) (by omega) rfl rfl (cw_row hj8)) rfl rfl rfl ?_
  refine xm_hs (cw_setb hj8 _) ?_
  iterate 6 refine x_step rfl ?_
  refine x_ret rfl rfl ⟨rfl, ?_⟩
  rw [updf_updf, updf_same]
  rfl
end EO
