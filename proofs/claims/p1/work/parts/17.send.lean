section ES
variable {l : Launch} {d L : Nat} {xs : Nat → Int32} {g : xm_H} {tc : Int32} {tf : (Nat → Int32)} {bl : Int32} {bf : (Nat → Int32)} {of : Int32} {oc : Int32} {ol : Int32} {on : Int32} {ml : (Nat → Int32)} {mx : (Nat → Int32)} {mb : (Nat → Nat → Int32)} {kc : Int32} {kh : (Nat → Nat)} {kr : (Nat → Nat → Int32)} {ka : (Nat → Int32)} {gl : Int32} {gx : Int32} {gb : (Nat → Int32)} {ls : Int32} {lq : Int32} {lk : Int32} {lg : Int32} {lh : Int32} {vf : (Nat → Int32)} {vs : (Nat → Int32)} {vb : (Nat → Nat → Int32)} {nv : (Nat → Int32)} {nw : (Nat → Nat → Int32)} {nr : (Nat → Int32)} {nq : (Nat → Nat → Int32)} {ne : (Nat → Int32)} {io : Int32} {sp : Int32} {ch : Int32} {wt : Int32} {xf : (Nat → Int32)} {xz : (Nat → Int32)} {xt : (Nat → Int32)} {xb : (Nat → Int32)} {xc : Int32}
/-- is there room, and does the body fit -/
def xsnd (oc bl : Int32) : Prop := ¬ 8 ≤ oc ∧ ¬ 120 < bl
theorem xsnd_dec (oc bl : Int32) : xsnd oc bl ∨ ¬ xsnd oc bl := Classical.em _
/-- the place of the next message -/
def xslot (of oc : Int32) : Nat := (of + oc - (of + oc) / 8 * 8).toNatClampNeg
/-- Outbox.send: it is sent -/
theorem m31s (sb fn sy : Int32) (hd : 1 ≤ d) (h : xsnd oc bl) (hi : vp_in (of + oc - (of + oc) / 8 * 8) 8) : XM l 31 d 0 0 [.ref 35, .int sb, .int fn, .int sy] (cw L xs g tc tf bl bf of oc ol on ml mx mb kc kh kr ka gl gx gb ls lq lk lg lh vf vs vb nv nw nr nq ne io sp ch wt xf xz xt xb xc) (xm_is none (cw L xs g tc tf bl bf of (oc + 1) ol on (upd ml (xslot of oc) (10 + bl)) (upd mx (xslot of oc) 0) (updf mb (xslot of oc) (xcopy bf bl (xhead (mb (xslot of oc)) sb fn sy))) kc kh kr ka gl gx gb ls lq lk lg lh vf vs vb nv nw nr nq ne io sp ch wt xf xz xt xb xc)) :=
  m31c sb fn sy hd h.1 h.2 hi rfl (Nat.not_le.mp fun q => hi (Or.inr q))
/-- Outbox.send: it is lost -/
theorem m31l (sb fn sy : Int32) (hd : 1 ≤ d) (h : ¬ xsnd oc bl) : XM l 31 d 0 0 [.ref 35, .int sb, .int fn, .int sy] (cw L xs g tc tf bl bf of oc ol on ml mx mb kc kh kr ka gl gx gb ls lq lk lg lh vf vs vb nv nw nr nq ne io sp ch wt xf xz xt xb xc) (xm_is none (cw L xs g tc tf bl bf of oc (ol + 1) on ml mx mb kc kh kr ka gl gx gb ls lq lk lg lh vf vs vb nv nw nr nq ne io sp ch wt xf xz xt xb xc)) := by
  by_cases h8 : 8 ≤ oc
  · exact m31a sb fn sy h8
  · by_cases hb : 120 < bl
    · exact m31b sb fn sy hd h8 hb
    · exact absurd ⟨h8, hb⟩ h

theorem cw_talk {j : Nat} (hj : j < 8) : ((cw L xs g tc tf bl bf of oc ol on ml mx mb kc kh kr ka gl gx gb ls lq lk lg lh vf vs vb nv nw nr nq ne io sp ch wt xf xz xt xb xc))[57 + j]? = some (xI 0 10 (kr j)) := by
  rcases xm_8 hj with h | h | h | h | h | h | h | h <;> (subst h; rfl)
/-- Body.putHeader of a row of 130 -/
theorem m70a (hd : 1 ≤ d) : XM l 70 d 0 0 [.ref 37, .ref 68] (cw L xs g tc tf (0) bf of oc ol on ml mx mb kc kh kr ka gl gx gb ls lq lk lg lh vf vs vb nv nw nr nq ne io sp ch wt xf xz xt xb xc) (xm_is none (cw L xs g tc tf (12) ((xput (0 + 1 + 1 + 1 + 1 + 1 + 1 + 1 + 1 + 1 + 1 + 1) (xput (0 + 1 + 1 + 1 + 1 + 1 + 1 + 1 + 1 + 1 + 1) (xput (0 + 1 + 1 + 1 + 1 + 1 + 1 + 1 + 1 + 1) (xput (0 + 1 + 1 + 1 + 1 + 1 + 1 + 1 + 1) (xput (0 + 1 + 1 + 1 + 1 + 1 + 1 + 1) (xput (0 + 1 + 1 + 1 + 1 + 1 + 1) (xput (0 + 1 + 1 + 1 + 1 + 1) (xput (0 + 1 + 1 + 1 + 1) (xput (0 + 1 + 1 + 1) (xput (0 + 1 + 1) (xput (0 + 1) (xput 0 bf 33) 10) (gb 0)) (gb 1)) (gb 2)) (gb 3)) (gb 4)) (gb 5)) (gb 6)) (gb 7)) (gb 8)) (gb 9))) of oc ol on ml mx mb kc kh kr ka gl gx gb ls lq lk lg lh vf vs vb nv nw nr nq ne io sp ch wt xf xz xt xb xc)) := by
  refine XE (pl := [some (.ref 37), some (.ref 68), none]) xg70 rfl ?_
  iterate 2 refine x_step rfl ?_
  refine x_callvE rfl (m21 (d := 0) 33 (by decide)) rfl rfl rfl ?_
  iterate 2 refine x_step rfl ?_
  refine x_callvE rfl (m21 (d := 0) 10 (by decide)) rfl rfl rfl ?_
  iterate 2 refine x_step rfl ?_
  refine xm_ls (pl' := [some (.ref 37), some (.ref 68), some (.int 0)]) rfl ?_
  iterate 2 refine x_step rfl ?_
  refine x_icmp_ge rfl (fun h => absurd h (by decide)) (fun _ => ?_)
  iterate 2 refine x_step rfl ?_
  refine x_alen rfl rfl (Or.inl ⟨_, _, rfl⟩) rfl ?_
  refine x_icmp_ge rfl (fun h => absurd h (by decide)) (fun _ => ?_)
  iterate 3 refine x_step rfl ?_
  refine x_iald rfl rfl rfl (by unfold vp_in; decide) ?_
  refine x_callvE rfl (m21 (d := 0) _ (by decide)) rfl rfl rfl ?_
  iterate 2 refine x_step rfl ?_
  refine xm_ls (pl' := [some (.ref 37), some (.ref 68), some (.int 1)]) rfl ?_
  iterate 2 refine x_step rfl ?_
  refine x_icmp_ge rfl (fun h => absurd h (by decide)) (fun _ => ?_)
  iterate 2 refine x_step rfl ?_
  refine x_alen rfl rfl (Or.inl ⟨_, _, rfl⟩) rfl ?_
  refine x_icmp_ge rfl (fun h => absurd h (by decide)) (fun _ => ?_)
  iterate 3 refine x_step rfl ?_
  refine x_iald rfl rfl rfl (by unfold vp_in; decide) ?_
  refine x_callvE rfl (m21 (d := 0) _ (by decide)) rfl rfl rfl ?_
  iterate 2 refine x_step rfl ?_
  refine xm_ls (pl' := [some (.ref 37), some (.ref 68), some (.int 2)]) rfl ?_
  iterate 2 refine x_step rfl ?_
  refine x_icmp_ge rfl (fun h => absurd h (by decide)) (fun _ => ?_)
  iterate 2 refine x_step rfl ?_
  refine x_alen rfl rfl (Or.inl ⟨_, _, rfl⟩) rfl ?_
  refine x_icmp_ge rfl (fun h => absurd h (by decide)) (fun _ => ?_)
  iterate 3 refine x_step rfl ?_
  refine x_iald rfl rfl rfl (by unfold vp_in; decide) ?_
  refine x_callvE rfl (m21 (d := 0) _ (by decide)) rfl rfl rfl ?_
  iterate 2 refine x_step rfl ?_
  refine xm_ls (pl' := [some (.ref 37), some (.ref 68), some (.int 3)]) rfl ?_
  iterate 2 refine x_step rfl ?_
  refine x_icmp_ge rfl (fun h => absurd h (by decide)) (fun _ => ?_)
  iterate 2 refine x_step rfl ?_
  refine x_alen rfl rfl (Or.inl ⟨_, _, rfl⟩) rfl ?_
  refine x_icmp_ge rfl (fun h => absurd h (by decide)) (fun _ => ?_)
  iterate 3 refine x_step rfl ?_
  refine x_iald rfl rfl rfl (by unfold vp_in; decide) ?_
  refine x_callvE rfl (m21 (d := 0) _ (by decide)) rfl rfl rfl ?_
  iterate 2 refine x_step rfl ?_
  refine xm_ls (pl' := [some (.ref 37), some (.ref 68), some (.int 4)]) rfl ?_
  iterate 2 refine x_step rfl ?_
  refine x_icmp_ge rfl (fun h => absurd h (by decide)) (fun _ => ?_)
  iterate 2 refine x_step rfl ?_
  refine x_alen rfl rfl (Or.inl ⟨_, _, rfl⟩) rfl ?_
  refine x_icmp_ge rfl (fun h => absurd h (by decide)) (fun _ => ?_)
  iterate 3 refine x_step rfl ?_
  refine x_iald rfl rfl rfl (by unfold vp_in; decide) ?_
  refine x_callvE rfl (m21 (d := 0) _ (by decide)) rfl rfl rfl ?_
  iterate 2 refine x_step rfl ?_
  refine xm_ls (pl' := [some (.ref 37), some (.ref 68), some (.int 5)]) rfl ?_
  iterate 2 refine x_step rfl ?_
  refine x_icmp_ge rfl (fun h => absurd h (by decide)) (fun _ => ?_)
  iterate 2 refine x_step rfl ?_
  refine x_alen rfl rfl (Or.inl ⟨_, _, rfl⟩) rfl ?_
  refine x_icmp_ge rfl (fun h => absurd h (by decide)) (fun _ => ?_)
  iterate 3 refine x_step rfl ?_
  refine x_iald rfl rfl rfl (by unfold vp_in; decide) ?_
  refine x_callvE rfl (m21 (d := 0) _ (by decide)) rfl rfl rfl ?_
  iterate 2 refine x_step rfl ?_
  refine xm_ls (pl' := [some (.ref 37), some (.ref 68), some (.int 6)]) rfl ?_
  iterate 2 refine x_step rfl ?_
  refine x_icmp_ge rfl (fun h => absurd h (by decide)) (fun _ => ?_)
  iterate 2 refine x_step rfl ?_
  refine x_alen rfl rfl (Or.inl ⟨_, _, rfl⟩) rfl ?_
  refine x_icmp_ge rfl (fun h => absurd h (by decide)) (fun _ => ?_)
  iterate 3 refine x_step rfl ?_
  refine x_iald rfl rfl rfl (by unfold vp_in; decide) ?_
  refine x_callvE rfl (m21 (d := 0) _ (by decide)) rfl rfl rfl ?_
  iterate 2 refine x_step rfl ?_
  refine xm_ls (pl' := [some (.ref 37), some (.ref 68), some (.int 7)]) rfl ?_
  iterate 2 refine x_step rfl ?_
  refine x_icmp_ge rfl (fun h => absurd h (by decide)) (fun _ => ?_)
  iterate 2 refine x_step rfl ?_
  refine x_alen rfl rfl (Or.inl ⟨_, _, rfl⟩) rfl ?_
  refine x_icmp_ge rfl (fun h => absurd h (by decide)) (fun _ => ?_)
  iterate 3 refine x_step rfl ?_
  refine x_iald rfl rfl rfl (by unfold vp_in; decide) ?_
  refine x_callvE rfl (m21 (d := 0) _ (by decide)) rfl rfl rfl ?_
  iterate 2 refine x_step rfl ?_
  refine xm_ls (pl' := [some (.ref 37), some (.ref 68), some (.int 8)]) rfl ?_
  iterate 2 refine x_step rfl ?_
  refine x_icmp_ge rfl (fun h => absurd h (by decide)) (fun _ => ?_)
  iterate 2 refine x_step rfl ?_
  refine x_alen rfl rfl (Or.inl ⟨_, _, rfl⟩) rfl ?_
  refine x_icmp_ge rfl (fun h => absurd h (by decide)) (fun _ => ?_)
  iterate 3 refine x_step rfl ?_
  refine x_iald rfl rfl rfl (by unfold vp_in; decide) ?_
  refine x_callvE rfl (m21 (d := 0) _ (by decide)) rfl rfl rfl ?_
  iterate 2 refine x_step rfl ?_
  refine xm_ls (pl' := [some (.ref 37), some (.ref 68), some (.int 9)]) rfl ?_
  iterate 2 refine x_step rfl ?_
  refine x_icmp_ge rfl (fun h => absurd h (by decide)) (fun _ => ?_)
  iterate 2 refine x_step rfl ?_
  refine x_alen rfl rfl (Or.inl ⟨_, _, rfl⟩) rfl ?_
  refine x_icmp_ge rfl (fun h => absurd h (by decide)) (fun _ => ?_)
  iterate 3 refine x_step rfl ?_
  refine x_iald rfl rfl rfl (by unfold vp_in; decide) ?_
  refine x_callvE rfl (m21 (d := 0) _ (by decide)) rfl rfl rfl ?_
  iterate 2 refine x_step rfl ?_
  refine xm_ls (pl' := [some (.ref 37), some (.ref 68), some (.int 10)]) rfl ?_
  iterate 2 refine x_step rfl ?_
  refine x_icmp_ge rfl (fun _ => ?_) (fun h => absurd (by decide) h)
  exact x_ret rfl rfl ⟨rfl, rfl⟩
/-- Body.putHeader of a row of 10 -/
theorem m70b (hd : 1 ≤ d) {j : Nat} (hj : j < 8) : XM l 70 d 0 0 [.ref 37, .ref (57 + j)] (cw L xs g tc tf (0) bf of oc ol on ml mx mb kc kh kr ka gl gx gb ls lq lk lg lh vf vs vb nv nw nr nq ne io sp ch wt xf xz xt xb xc) (xm_is none (cw L xs g tc tf (12) ((xput (0 + 1 + 1 + 1 + 1 + 1 + 1 + 1 + 1 + 1 + 1 + 1) (xput (0 + 1 + 1 + 1 + 1 + 1 + 1 + 1 + 1 + 1 + 1) (xput (0 + 1 + 1 + 1 + 1 + 1 + 1 + 1 + 1 + 1) (xput (0 + 1 + 1 + 1 + 1 + 1 + 1 + 1 + 1) (xput (0 + 1 + 1 + 1 + 1 + 1 + 1 + 1) (xput (0 + 1 + 1 + 1 + 1 + 1 + 1) (xput (0 + 1 + 1 + 1 + 1 + 1) (xput (0 + 1 + 1 + 1 + 1) (xput (0 + 1 + 1 + 1) (xput (0 + 1 + 1) (xput (0 + 1) (xput 0 bf 33) 10) (kr j 0)) (kr j 1)) (kr j 2)) (kr j 3)) (kr j 4)) (kr j 5)) (kr j 6)) (kr j 7)) (kr j 8)) (kr j 9))) of oc ol on ml mx mb kc kh kr ka gl gx gb ls lq lk lg lh vf vs vb nv nw nr nq ne io sp ch wt xf xz xt xb xc)) := by
  refine XE (pl := [some (.ref 37), some (.ref (57 + j)), none]) xg70 rfl ?_
  iterate 2 refine x_step rfl ?_
  refine x_callvE rfl (m21 (d := 0) 33 (by decide)) rfl rfl rfl ?_
  iterate 2 refine x_step rfl ?_
  refine x_callvE rfl (m21 (d := 0) 10 (by decide)) rfl rfl rfl ?_
  iterate 2 refine x_step rfl ?_
  refine xm_ls (pl' := [some (.ref 37), some (.ref (57 + j)), some (.int 0)]) rfl ?_
  iterate 2 refine x_step rfl ?_
  refine x_icmp_ge rfl (fun h => absurd h (by decide)) (fun _ => ?_)
  iterate 2 refine x_step rfl ?_
  refine x_alen rfl (cw_talk hj) (Or.inl ⟨_, _, rfl⟩) rfl ?_
  refine x_icmp_ge rfl (fun h => absurd h (by decide)) (fun _ => ?_)
  iterate 3 refine x_step rfl ?_
  refine x_iald rfl (cw_talk hj) rfl (by unfold vp_in; decide) ?_
  refine x_callvE rfl (m21 (d := 0) _ (by decide)) rfl rfl rfl ?_
  iterate 2 refine x_step rfl ?_
  refine xm_ls (pl' := [some (.ref 37), some (.ref (57 + j)), some (.int 1)]) rfl ?_
  iterate 2 refine x_step rfl ?_
  refine x_icmp_ge rfl (fun h => absurd h (by decide)) (fun _ => ?_)
  iterate 2 refine x_step rfl ?_
  refine x_alen rfl (cw_talk hj) (Or.inl ⟨_, _, rfl⟩) rfl ?_
  refine x_icmp_ge rfl (fun h => absurd h (by decide)) (fun _ => ?_)
  iterate 3 refine x_step rfl ?_
  refine x_iald rfl (cw_talk hj) rfl (by unfold vp_in; decide) ?_
  refine x_callvE rfl (m21 (d := 0) _ (by decide)) rfl rfl rfl ?_
  iterate 2 refine x_step rfl ?_
  refine xm_ls (pl' := [some (.ref 37), some (.ref (57 + j)), some (.int 2)]) rfl ?_
  iterate 2 refine x_step rfl ?_
  refine x_icmp_ge rfl (fun h => absurd h (by decide)) (fun _ => ?_)
  iterate 2 refine x_step rfl ?_
  refine x_alen rfl (cw_talk hj) (Or.inl ⟨_, _, rfl⟩) rfl ?_
  refine x_icmp_ge rfl (fun h => absurd h (by decide)) (fun _ => ?_)
  iterate 3 refine x_step rfl ?_
  refine x_iald rfl (cw_talk hj) rfl (by unfold vp_in; decide) ?_
  refine x_callvE rfl (m21 (d := 0) _ (by decide)) rfl rfl rfl ?_
  iterate 2 refine x_step rfl ?_
  refine xm_ls (pl' := [some (.ref 37), some (.ref (57 + j)), some (.int 3)]) rfl ?_
  iterate 2 refine x_step rfl ?_
  refine x_icmp_ge rfl (fun h => absurd h (by decide)) (fun _ => ?_)
  iterate 2 refine x_step rfl ?_
  refine x_alen rfl (cw_talk hj) (Or.inl ⟨_, _, rfl⟩) rfl ?_
  refine x_icmp_ge rfl (fun h => absurd h (by decide)) (fun _ => ?_)
  iterate 3 refine x_step rfl ?_
  refine x_iald rfl (cw_talk hj) rfl (by unfold vp_in; decide) ?_
  refine x_callvE rfl (m21 (d := 0) _ (by decide)) rfl rfl rfl ?_
  iterate 2 refine x_step rfl ?_
  refine xm_ls (pl' := [some (.ref 37), some (.ref (57 + j)), some (.int 4)]) rfl ?_
  iterate 2 refine x_step rfl ?_
  refine x_icmp_ge rfl (fun h => absurd h (by decide)) (fun _ => ?_)
  iterate 2 refine x_step rfl ?_
  refine x_alen rfl (cw_talk hj) (Or.inl ⟨_, _, rfl⟩) rfl ?_
  refine x_icmp_ge rfl (fun h => absurd h (by decide)) (fun _ => ?_)
  iterate 3 refine x_step rfl ?_
  refine x_iald rfl (cw_talk hj) rfl (by unfold vp_in; decide) ?_
  refine x_callvE rfl (m21 (d := 0) _ (by decide)) rfl rfl rfl ?_
  iterate 2 refine x_step rfl ?_
  refine xm_ls (pl' := [some (.ref 37), some (.ref (57 + j)), some (.int 5)]) rfl ?_
  iterate 2 refine x_step rfl ?_
  refine x_icmp_ge rfl (fun h => absurd h (by decide)) (fun _ => ?_)
  iterate 2 refine x_step rfl ?_
  refine x_alen rfl (cw_talk hj) (Or.inl ⟨_, _, rfl⟩) rfl ?_
  refine x_icmp_ge rfl (fun h => absurd h (by decide)) (fun _ => ?_)
  iterate 3 refine x_step rfl ?_
  refine x_iald rfl (cw_talk hj) rfl (by unfold vp_in; decide) ?_
  refine x_callvE rfl (m21 (d := 0) _ (by decide)) rfl rfl rfl ?_
  iterate 2 refine x_step rfl ?_
  refine xm_ls (pl' := [some (.ref 37), some (.ref (57 + j)), some (.int 6)]) rfl ?_
  iterate 2 refine x_step rfl ?_
  refine x_icmp_ge rfl (fun h => absurd h (by decide)) (fun _ => ?_)
  iterate 2 refine x_step rfl ?_
  refine x_alen rfl (cw_talk hj) (Or.inl ⟨_, _, rfl⟩) rfl ?_
  refine x_icmp_ge rfl (fun h => absurd h (by decide)) (fun _ => ?_)
  iterate 3 refine x_step rfl ?_
  refine x_iald rfl (cw_talk hj) rfl (by unfold vp_in; decide) ?_
  refine x_callvE rfl (m21 (d := 0) _ (by decide)) rfl rfl rfl ?_
  iterate 2 refine x_step rfl ?_
  refine xm_ls (pl' := [some (.ref 37), some (.ref (57 + j)), some (.int 7)]) rfl ?_
  iterate 2 refine x_step rfl ?_
  refine x_icmp_ge rfl (fun h => absurd h (by decide)) (fun _ => ?_)
  iterate 2 refine x_step rfl ?_
  refine x_alen rfl (cw_talk hj) (Or.inl ⟨_, _, rfl⟩) rfl ?_
  refine x_icmp_ge rfl (fun h => absurd h (by decide)) (fun _ => ?_)
  iterate 3 refine x_step rfl ?_
  refine x_iald rfl (cw_talk hj) rfl (by unfold vp_in; decide) ?_
  refine x_callvE rfl (m21 (d := 0) _ (by decide)) rfl rfl rfl ?_
  iterate 2 refine x_step rfl ?_
  refine xm_ls (pl' := [some (.ref 37), some (.ref (57 + j)), some (.int 8)]) rfl ?_
  iterate 2 refine x_step rfl ?_
  refine x_icmp_ge rfl (fun h => absurd h (by decide)) (fun _ => ?_)
  iterate 2 refine x_step rfl ?_
  refine x_alen rfl (cw_talk hj) (Or.inl ⟨_, _, rfl⟩) rfl ?_
  refine x_icmp_ge rfl (fun h => absurd h (by decide)) (fun _ => ?_)
  iterate 3 refine x_step rfl ?_
  refine x_iald rfl (cw_talk hj) rfl (by unfold vp_in; decide) ?_
  refine x_callvE rfl (m21 (d := 0) _ (by decide)) rfl rfl rfl ?_
  iterate 2 refine x_step rfl ?_
  refine xm_ls (pl' := [some (.ref 37), some (.ref (57 + j)), some (.int 9)]) rfl ?_
  iterate 2 refine x_step rfl ?_
  refine x_icmp_ge rfl (fun h => absurd h (by decide)) (fun _ => ?_)
  iterate 2 refine x_step rfl ?_
  refine x_alen rfl (cw_talk hj) (Or.inl ⟨_, _, rfl⟩) rfl ?_
  refine x_icmp_ge rfl (fun h => absurd h (by decide)) (fun _ => ?_)
  iterate 3 refine x_step rfl ?_
  refine x_iald rfl (cw_talk hj) rfl (by unfold vp_in; decide) ?_
  refine x_callvE rfl (m21 (d := 0) _ (by decide)) rfl rfl rfl ?_
  iterate 2 refine x_step rfl ?_
  refine xm_ls (pl' := [some (.ref 37), some (.ref (57 + j)), some (.int 10)]) rfl ?_
  iterate 2 refine x_step rfl ?_
  refine x_icmp_ge rfl (fun _ => ?_) (fun h => absurd (by decide) h)
  exact x_ret rfl rfl ⟨rfl, rfl⟩
end ES
