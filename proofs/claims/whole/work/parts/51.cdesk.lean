section EC11
variable {l : Launch} {d L : Nat} {xs : Nat → Int32} {g : xm_H} {tc : Int32} {tf : (Nat → Int32)} {bl : Int32} {bf : (Nat → Int32)} {of : Int32} {oc : Int32} {ol : Int32} {on : Int32} {ml : (Nat → Int32)} {mx : (Nat → Int32)} {mb : (Nat → Nat → Int32)} {kc : Int32} {kh : (Nat → Nat)} {kr : (Nat → Nat → Int32)} {ka : (Nat → Int32)} {gl : Int32} {gx : Int32} {gb : (Nat → Int32)} {ls : Int32} {lq : Int32} {lk : Int32} {lg : Int32} {lh : Int32} {vf : (Nat → Int32)} {vs : (Nat → Int32)} {vb : (Nat → Nat → Int32)} {nv : (Nat → Int32)} {nw : (Nat → Nat → Int32)} {nr : (Nat → Int32)} {nq : (Nat → Nat → Int32)} {ne : (Nat → Int32)} {io : Int32} {sp : Int32} {ch : Int32} {wt : Int32} {xf : (Nat → Int32)} {xz : (Nat → Int32)} {xt : (Nat → Int32)} {xb : (Nat → Int32)} {xc : Int32}
variable {β : Nat → Nat} {e : Nat} {ps : List (Nat × Nat)} {hp : xm_H}
theorem ls_off : ∀ (ps : List (Int × Int)) (d x : Int), (∀ p ∈ ps, p.1 ≠ x) → Op.lookupswitch.offset ps d x = d := by
  intro ps d x
  induction ps with
  | nil => intro _; rfl
  | cons p ps ih =>
    intro h
    obtain ⟨a, b⟩ := p
    have h1 : a ≠ x := h (a, b) List.mem_cons_self
    have h2 := ih (fun q hq => h q (List.mem_cons_of_mem _ hq))
    simp only [Op.lookupswitch.offset]
    split
    next z => exact absurd (by simpa using z) (by first | exact h1 | exact h1.symm)
    next => exact h2
/-- the kind of a request -/
def dK (β : Nat → Nat) : Nat := 256 * (β 2 % 128) + β 3
def dN (k : Nat) : Bool := k == 257 || k == 259 || k == 269 || k == 271 || k == 273 || k == 527 || k == 545 || k == 547 || k == 549 || k == 553
theorem b127 (b : Nat) (h : b < 256) : nI b &&& 127 = nI (b % 128) := pk_andN (by omega) (m := 127) 7 (by decide)
theorem dK_lt (hβ : ∀ i, β i < 256) : dK β < 2 ^ 16 := by
  have := hβ 3
  unfold dK
  omega
/-- Desk.kind -/
theorem n92 (hg : ∀ i, i < 130 → gb i = nI (β i)) (hβ : ∀ i, β i < 256) (hd : 1 ≤ d) : XM l 92 d 0 0 [.ref 97] (cw L xs g tc tf bl bf of oc ol on ml mx mb kc kh kr ka gl gx gb ls lq lk lg lh vf vs vb nv nw nr nq ne io sp ch wt xf xz xt xb xc) (xm_is (some (.int (nI (dK β)))) (cw L xs g tc tf bl bf of oc ol on ml mx mb kc kh kr ka gl gx gb ls lq lk lg lh vf vs vb nv nw nr nq ne io sp ch wt xf xz xt xb xc)) := by
  refine XE (pl := [some (.ref 97)]) xg92 rfl ?_
  iterate 3 refine x_step rfl ?_
  refine x_callvE rfl (m76 (d := 0) rfl rfl) rfl rfl rfl ?_
  iterate 3 refine x_step rfl ?_
  refine x_callvE rfl (m72 (d := 0) rfl rfl) rfl rfl rfl ?_
  refine x_step rfl ?_
  exact x_iret rfl rfl rfl ⟨by rw [hg 2 (by decide), hg 3 (by decide), b127 _ (hβ 2), dK, ← nI_add, ← pk_mul]; rfl, rfl⟩
/-- Desk.isNamed -/
theorem n94 (k : Nat) (hk : k < 2 ^ 16) : XM l 94 d 0 0 [.int (nI k)] hp (xm_is (some (.int (bI (dN k)))) hp) := by
  by_cases h : k = 257 ∨ k = 259 ∨ k = 269 ∨ k = 271 ∨ k = 273 ∨ k = 527 ∨ k = 545 ∨ k = 547 ∨ k = 549 ∨ k = 553
  · rcases h with rfl | rfl | rfl | rfl | rfl | rfl | rfl | rfl | rfl | rfl
    · refine XE (pl := [some (.int (nI 257))]) xg94 rfl ?_
      refine x_step rfl ?_
      refine x_lsw rfl (t := 92) (by decide) ?_
      refine x_step rfl ?_
      exact x_iret rfl rfl rfl ⟨rfl, rfl⟩
    · refine XE (pl := [some (.int (nI 259))]) xg94 rfl ?_
      refine x_step rfl ?_
      refine x_lsw rfl (t := 92) (by decide) ?_
      refine x_step rfl ?_
      exact x_iret rfl rfl rfl ⟨rfl, rfl⟩
    · refine XE (pl := [some (.int (nI 269))]) xg94 rfl ?_
      refine x_step rfl ?_
      refine x_lsw rfl (t := 92) (by decide) ?_
      refine x_step rfl ?_
      exact x_iret rfl rfl rfl ⟨rfl, rfl⟩
    · refine XE (pl := [some (.int (nI 271))]) xg94 rfl ?_
      refine x_step rfl ?_
      refine x_lsw rfl (t := 92) (by decide) ?_
      refine x_step rfl ?_
      exact x_iret rfl rfl rfl ⟨rfl, rfl⟩
    · refine XE (pl := [some (.int (nI 273))]) xg94 rfl ?_
      refine x_step rfl ?_
      refine x_lsw rfl (t := 92) (by decide) ?_
      refine x_step rfl ?_
      exact x_iret rfl rfl rfl ⟨rfl, rfl⟩
    · refine XE (pl := [some (.int (nI 527))]) xg94 rfl ?_
      refine x_step rfl ?_
      refine x_lsw rfl (t := 92) (by decide) ?_
      refine x_step rfl ?_
      exact x_iret rfl rfl rfl ⟨rfl, rfl⟩
    · refine XE (pl := [some (.int (nI 545))]) xg94 rfl ?_
      refine x_step rfl ?_
      refine x_lsw rfl (t := 92) (by decide) ?_
      refine x_step rfl ?_
      exact x_iret rfl rfl rfl ⟨rfl, rfl⟩
    · refine XE (pl := [some (.int (nI 547))]) xg94 rfl ?_
      refine x_step rfl ?_
      refine x_lsw rfl (t := 92) (by decide) ?_
      refine x_step rfl ?_
      exact x_iret rfl rfl rfl ⟨rfl, rfl⟩
    · refine XE (pl := [some (.int (nI 549))]) xg94 rfl ?_
      refine x_step rfl ?_
      refine x_lsw rfl (t := 92) (by decide) ?_
      refine x_step rfl ?_
      exact x_iret rfl rfl rfl ⟨rfl, rfl⟩
    · refine XE (pl := [some (.int (nI 553))]) xg94 rfl ?_
      refine x_step rfl ?_
      refine x_lsw rfl (t := 92) (by decide) ?_
      refine x_step rfl ?_
      exact x_iret rfl rfl rfl ⟨rfl, rfl⟩
  · have hn : dN k = false := by
      unfold dN
      simp only [Bool.or_eq_false_iff, beq_eq_false_iff_ne]
      omega
    rw [hn]
    refine XE (pl := [some (.int (nI k))]) xg94 rfl ?_
    refine x_step rfl ?_
    refine x_lsw rfl (t := 94) ?_ ?_
    · rw [nI_toInt (by omega), ls_off _ _ _ (fun p hp => by
        simp only [List.mem_cons, List.not_mem_nil, or_false] at hp
        rcases hp with rfl | rfl | rfl | rfl | rfl | rfl | rfl | rfl | rfl | rfl <;> (intro z; simp at z; omega))]
      rfl
    · refine x_step rfl ?_
      exact x_iret rfl rfl rfl ⟨rfl, rfl⟩
theorem xon_n (c : Int32) : narrow .boolean (.int (xon c)) = .int (xon c) := by
  unfold xon
  split
  · rfl
  · split <;> rfl
/-- Machine.beginSpeaking -/
theorem n89  : XM l 89 d 0 0 [.ref 69] (cw L xs g tc tf bl bf of oc ol on ml mx mb kc kh kr ka gl gx gb ls lq lk lg lh vf vs vb nv nw nr nq ne io sp ch wt xf xz xt xb xc) (xm_is none (cw L xs g tc tf bl bf of oc ol on ml mx mb kc kh kr ka gl gx gb ls lq lk lg lh vf vs vb nv nw nr nq ne io (1) ch wt xf xz xt xb xc)) := by
  refine XE (pl := [some (.ref 69)]) xg89 rfl ?_
  iterate 2 refine x_step rfl ?_
  refine x_putf rfl rfl (Nat.le_of_ble_eq_true rfl) (by decide) rfl rfl ?_
  exact x_ret rfl rfl ⟨rfl, rfl⟩
/-- Machine.isSpeaking -/
theorem n93 (h : narrow .boolean (.int sp) = .int sp) : XM l 93 d 0 0 [.ref 69] (cw L xs g tc tf bl bf of oc ol on ml mx mb kc kh kr ka gl gx gb ls lq lk lg lh vf vs vb nv nw nr nq ne io sp ch wt xf xz xt xb xc) (xm_is (some (.int sp)) (cw L xs g tc tf bl bf of oc ol on ml mx mb kc kh kr ka gl gx gb ls lq lk lg lh vf vs vb nv nw nr nq ne io sp ch wt xf xz xt xb xc)) := by
  refine XE (pl := [some (.ref 69)]) xg93 rfl ?_
  iterate 2 refine x_step rfl ?_
  exact x_iret rfl rfl h ⟨rfl, rfl⟩
/-- Machine.isOnline -/
theorem n95 (hd : 1 ≤ d) : XM l 95 d 0 0 [.ref 69] (cw L xs g tc tf bl bf of oc ol on ml mx mb kc kh kr ka gl gx gb ls lq lk lg lh vf vs vb nv nw nr nq ne io sp ch wt xf xz xt xb xc) (xm_is (some (.int (xon (vb 0 0)))) (cw L xs g tc tf bl bf of oc ol on ml mx mb kc kh kr ka gl gx gb ls lq lk lg lh vf vs vb nv nw nr nq ne io sp ch wt xf xz xt xb xc)) := by
  refine XE (pl := [some (.ref 69)]) xg95 rfl ?_
  iterate 2 refine x_step rfl ?_
  refine x_callvE rfl ((r17 (d := 0)).xm) rfl rfl rfl ?_
  exact x_iret rfl rfl (xon_n _) ⟨rfl, rfl⟩
def dB (β : Nat → Nat) (e k : Nat) : Bool := if k = 269 then true else if k = 259 then (itB β e).any (fun ps => pNums β ps 0) else if k = 527 then (itB β e).any (pPairs β) else if k = 545 ∨ k = 547 then (itB β e).any (pTable β) else if k = 549 then (itB β e).any (pSwitch β) else if k = 553 then (itB β e).any (pCmd β) else e == 10
/-- the items of the body stand in the arrays, if it was right and is read -/
def dI (β : Nat → Nat) (e k : Nat) (xf xz xt xb : Nat → Int32) (xc : Int32) : Prop := k = 259 ∨ 512 ≤ k → ∃ ps, itB β e = some ps ∧ xc = nI ps.length ∧ itA β xf xz xt xb 0 ps ∧ itV β ps
theorem itB_V {ps : List (Nat × Nat)} (h : itB β e = some ps) (he : e ≤ 130) : itV β ps := by
  unfold itB at h
  split at h
  · cases h
  next ps' q h1 =>
    split at h
    · cases h; exact itV_all h1 he
    · cases h
theorem n99_259 (hg : ∀ i, i < 130 → gb i = nI (β i)) (hβ : ∀ i, β i < 256) (he : e ≤ 130) (hd : 18 ≤ d) : XM l 99 d 0 0 [.ref 97, .int (nI 259)] (cw L xs g tc tf bl bf of oc ol on ml mx mb kc kh kr ka (nI e) gx gb ls lq lk lg lh vf vs vb nv nw nr nq ne io sp ch wt xf xz xt xb xc) (fun v h => ∃ (xf' xz' xt' xb' : Nat → Int32) (xc' : Int32), h = (cw L xs g tc tf bl bf of oc ol on ml mx mb kc kh kr ka (nI e) gx gb ls lq lk lg lh vf vs vb nv nw nr nq ne io sp ch wt (xf') (xz') (xt') (xb') (xc')) ∧ v = some (.int (bI (dB β e 259))) ∧ (dB β e 259 = true → dI β e 259 xf' xz' xt' xb' xc')) := by
  refine XEq (pl := [some (.ref 97), some (.int (nI 259))]) xg99 rfl ?_
  refine x_step rfl ?_
  refine x_lsw rfl (t := 70) (by decide) ?_
  iterate 2 refine x_step rfl ?_
  refine x_callv (a := 98) (as := []) (rest := []) rfl (by decide) (n78 (d := 16) hg hβ he (by omega)) (by omega) (Nat.zero_le _) (Nat.zero_le _) rfl rfl (by decide) rfl rfl ?_
  rintro v h ⟨xf', xz', xt', xb', xc', rfl, hP⟩
  rcases hP with ⟨h1, rfl⟩ | ⟨ps, h1, rfl, rfl, hA⟩
  · have hn : dB β e 259 = false := by simp [dB, h1]
    refine x_if_eq rfl (fun _ => ?_) (fun q => absurd rfl q)
    refine x_step rfl ?_
    exact x_iret rfl rfl rfl ⟨xf', xz', xt', xb', xc', rfl, by rw [hn]; rfl, fun q => absurd (hn.symm.trans q) (by decide)⟩
  have hV := itB_V h1 he
  have hn : dB β e 259 = pNums β ps 0 := by simp [dB, h1]
  refine x_if_eq rfl (fun q => absurd q (by decide)) (fun _ => ?_)
  iterate 3 refine x_step rfl ?_
  refine x_callvE rfl (n100 (d := 4) hβ hA hV 0 (by decide) (by omega)) rfl rfl rfl ?_
  refine x_if_eq rfl (fun h => ?_) (fun h => ?_)
  · refine x_step rfl ?_
    exact x_iret rfl rfl rfl ⟨xf', xz', xt', xb', _, rfl, by rw [hn, bI_f h]; rfl, fun q => absurd ((bI_f h).symm.trans (hn.symm.trans q)) (by decide)⟩
  · iterate 2 refine x_step rfl ?_
    exact x_iret rfl rfl rfl ⟨xf', xz', xt', xb', _, rfl, by rw [hn, bI_t h]; rfl, fun _ _ => ⟨ps, h1, rfl, hA, hV⟩⟩
theorem n99_527 (hg : ∀ i, i < 130 → gb i = nI (β i)) (hβ : ∀ i, β i < 256) (he : e ≤ 130) (hd : 18 ≤ d) : XM l 99 d 0 0 [.ref 97, .int (nI 527)] (cw L xs g tc tf bl bf of oc ol on ml mx mb kc kh kr ka (nI e) gx gb ls lq lk lg lh vf vs vb nv nw nr nq ne io sp ch wt xf xz xt xb xc) (fun v h => ∃ (xf' xz' xt' xb' : Nat → Int32) (xc' : Int32), h = (cw L xs g tc tf bl bf of oc ol on ml mx mb kc kh kr ka (nI e) gx gb ls lq lk lg lh vf vs vb nv nw nr nq ne io sp ch wt (xf') (xz') (xt') (xb') (xc')) ∧ v = some (.int (bI (dB β e 527))) ∧ (dB β e 527 = true → dI β e 527 xf' xz' xt' xb' xc')) := by
  refine XEq (pl := [some (.ref 97), some (.int (nI 527))]) xg99 rfl ?_
  refine x_step rfl ?_
  refine x_lsw rfl (t := 97) (by decide) ?_
  iterate 2 refine x_step rfl ?_
  refine x_callv (a := 98) (as := []) (rest := []) rfl (by decide) (n78 (d := 16) hg hβ he (by omega)) (by omega) (Nat.zero_le _) (Nat.zero_le _) rfl rfl (by decide) rfl rfl ?_
  rintro v h ⟨xf', xz', xt', xb', xc', rfl, hP⟩
  rcases hP with ⟨h1, rfl⟩ | ⟨ps, h1, rfl, rfl, hA⟩
  · have hn : dB β e 527 = false := by simp [dB, h1]
    refine x_if_eq rfl (fun _ => ?_) (fun q => absurd rfl q)
    refine x_step rfl ?_
    exact x_iret rfl rfl rfl ⟨xf', xz', xt', xb', xc', rfl, by rw [hn]; rfl, fun q => absurd (hn.symm.trans q) (by decide)⟩
  have hV := itB_V h1 he
  have hn : dB β e 527 = pPairs β ps := by simp [dB, h1]
  refine x_if_eq rfl (fun q => absurd q (by decide)) (fun _ => ?_)
  iterate 2 refine x_step rfl ?_
  refine x_callvE rfl (n101 (d := 4) hβ hA hV (by omega)) rfl rfl rfl ?_
  refine x_if_eq rfl (fun h => ?_) (fun h => ?_)
  · refine x_step rfl ?_
    exact x_iret rfl rfl rfl ⟨xf', xz', xt', xb', _, rfl, by rw [hn, bI_f h]; rfl, fun q => absurd ((bI_f h).symm.trans (hn.symm.trans q)) (by decide)⟩
  · iterate 2 refine x_step rfl ?_
    exact x_iret rfl rfl rfl ⟨xf', xz', xt', xb', _, rfl, by rw [hn, bI_t h]; rfl, fun _ _ => ⟨ps, h1, rfl, hA, hV⟩⟩
theorem n99_545 (hg : ∀ i, i < 130 → gb i = nI (β i)) (hβ : ∀ i, β i < 256) (he : e ≤ 130) (hd : 18 ≤ d) : XM l 99 d 0 0 [.ref 97, .int (nI 545)] (cw L xs g tc tf bl bf of oc ol on ml mx mb kc kh kr ka (nI e) gx gb ls lq lk lg lh vf vs vb nv nw nr nq ne io sp ch wt xf xz xt xb xc) (fun v h => ∃ (xf' xz' xt' xb' : Nat → Int32) (xc' : Int32), h = (cw L xs g tc tf bl bf of oc ol on ml mx mb kc kh kr ka (nI e) gx gb ls lq lk lg lh vf vs vb nv nw nr nq ne io sp ch wt (xf') (xz') (xt') (xb') (xc')) ∧ v = some (.int (bI (dB β e 545))) ∧ (dB β e 545 = true → dI β e 545 xf' xz' xt' xb' xc')) := by
  refine XEq (pl := [some (.ref 97), some (.int (nI 545))]) xg99 rfl ?_
  refine x_step rfl ?_
  refine x_lsw rfl (t := 123) (by decide) ?_
  iterate 2 refine x_step rfl ?_
  refine x_callv (a := 98) (as := []) (rest := []) rfl (by decide) (n78 (d := 16) hg hβ he (by omega)) (by omega) (Nat.zero_le _) (Nat.zero_le _) rfl rfl (by decide) rfl rfl ?_
  rintro v h ⟨xf', xz', xt', xb', xc', rfl, hP⟩
  rcases hP with ⟨h1, rfl⟩ | ⟨ps, h1, rfl, rfl, hA⟩
  · have hn : dB β e 545 = false := by simp [dB, h1]
    refine x_if_eq rfl (fun _ => ?_) (fun q => absurd rfl q)
    refine x_step rfl ?_
    exact x_iret rfl rfl rfl ⟨xf', xz', xt', xb', xc', rfl, by rw [hn]; rfl, fun q => absurd (hn.symm.trans q) (by decide)⟩
  have hV := itB_V h1 he
  have hn : dB β e 545 = pTable β ps := by simp [dB, h1]
  refine x_if_eq rfl (fun q => absurd q (by decide)) (fun _ => ?_)
  iterate 2 refine x_step rfl ?_
  refine x_callvE rfl (n104 (d := 4) hβ hA hV (by omega)) rfl rfl rfl ?_
  refine x_if_eq rfl (fun h => ?_) (fun h => ?_)
  · refine x_step rfl ?_
    exact x_iret rfl rfl rfl ⟨xf', xz', xt', xb', _, rfl, by rw [hn, bI_f h]; rfl, fun q => absurd ((bI_f h).symm.trans (hn.symm.trans q)) (by decide)⟩
  · iterate 2 refine x_step rfl ?_
    exact x_iret rfl rfl rfl ⟨xf', xz', xt', xb', _, rfl, by rw [hn, bI_t h]; rfl, fun _ _ => ⟨ps, h1, rfl, hA, hV⟩⟩
theorem n99_547 (hg : ∀ i, i < 130 → gb i = nI (β i)) (hβ : ∀ i, β i < 256) (he : e ≤ 130) (hd : 18 ≤ d) : XM l 99 d 0 0 [.ref 97, .int (nI 547)] (cw L xs g tc tf bl bf of oc ol on ml mx mb kc kh kr ka (nI e) gx gb ls lq lk lg lh vf vs vb nv nw nr nq ne io sp ch wt xf xz xt xb xc) (fun v h => ∃ (xf' xz' xt' xb' : Nat → Int32) (xc' : Int32), h = (cw L xs g tc tf bl bf of oc ol on ml mx mb kc kh kr ka (nI e) gx gb ls lq lk lg lh vf vs vb nv nw nr nq ne io sp ch wt (xf') (xz') (xt') (xb') (xc')) ∧ v = some (.int (bI (dB β e 547))) ∧ (dB β e 547 = true → dI β e 547 xf' xz' xt' xb' xc')) := by
  refine XEq (pl := [some (.ref 97), some (.int (nI 547))]) xg99 rfl ?_
  refine x_step rfl ?_
  refine x_lsw rfl (t := 123) (by decide) ?_
  iterate 2 refine x_step rfl ?_
  refine x_callv (a := 98) (as := []) (rest := []) rfl (by decide) (n78 (d := 16) hg hβ he (by omega)) (by omega) (Nat.zero_le _) (Nat.zero_le _) rfl rfl (by decide) rfl rfl ?_
  rintro v h ⟨xf', xz', xt', xb', xc', rfl, hP⟩
  rcases hP with ⟨h1, rfl⟩ | ⟨ps, h1, rfl, rfl, hA⟩
  · have hn : dB β e 547 = false := by simp [dB, h1]
    refine x_if_eq rfl (fun _ => ?_) (fun q => absurd rfl q)
    refine x_step rfl ?_
    exact x_iret rfl rfl rfl ⟨xf', xz', xt', xb', xc', rfl, by rw [hn]; rfl, fun q => absurd (hn.symm.trans q) (by decide)⟩
  have hV := itB_V h1 he
  have hn : dB β e 547 = pTable β ps := by simp [dB, h1]
  refine x_if_eq rfl (fun q => absurd q (by decide)) (fun _ => ?_)
  iterate 2 refine x_step rfl ?_
  refine x_callvE rfl (n104 (d := 4) hβ hA hV (by omega)) rfl rfl rfl ?_
  refine x_if_eq rfl (fun h => ?_) (fun h => ?_)
  · refine x_step rfl ?_
    exact x_iret rfl rfl rfl ⟨xf', xz', xt', xb', _, rfl, by rw [hn, bI_f h]; rfl, fun q => absurd ((bI_f h).symm.trans (hn.symm.trans q)) (by decide)⟩
  · iterate 2 refine x_step rfl ?_
    exact x_iret rfl rfl rfl ⟨xf', xz', xt', xb', _, rfl, by rw [hn, bI_t h]; rfl, fun _ _ => ⟨ps, h1, rfl, hA, hV⟩⟩
theorem n99_549 (hg : ∀ i, i < 130 → gb i = nI (β i)) (hβ : ∀ i, β i < 256) (he : e ≤ 130) (hd : 18 ≤ d) : XM l 99 d 0 0 [.ref 97, .int (nI 549)] (cw L xs g tc tf bl bf of oc ol on ml mx mb kc kh kr ka (nI e) gx gb ls lq lk lg lh vf vs vb nv nw nr nq ne io sp ch wt xf xz xt xb xc) (fun v h => ∃ (xf' xz' xt' xb' : Nat → Int32) (xc' : Int32), h = (cw L xs g tc tf bl bf of oc ol on ml mx mb kc kh kr ka (nI e) gx gb ls lq lk lg lh vf vs vb nv nw nr nq ne io sp ch wt (xf') (xz') (xt') (xb') (xc')) ∧ v = some (.int (bI (dB β e 549))) ∧ (dB β e 549 = true → dI β e 549 xf' xz' xt' xb' xc')) := by
  refine XEq (pl := [some (.ref 97), some (.int (nI 549))]) xg99 rfl ?_
  refine x_step rfl ?_
  refine x_lsw rfl (t := 149) (by decide) ?_
  iterate 2 refine x_step rfl ?_
  refine x_callv (a := 98) (as := []) (rest := []) rfl (by decide) (n78 (d := 16) hg hβ he (by omega)) (by omega) (Nat.zero_le _) (Nat.zero_le _) rfl rfl (by decide) rfl rfl ?_
  rintro v h ⟨xf', xz', xt', xb', xc', rfl, hP⟩
  rcases hP with ⟨h1, rfl⟩ | ⟨ps, h1, rfl, rfl, hA⟩
  · have hn : dB β e 549 = false := by simp [dB, h1]
    refine x_if_eq rfl (fun _ => ?_) (fun q => absurd rfl q)
    refine x_step rfl ?_
    exact x_iret rfl rfl rfl ⟨xf', xz', xt', xb', xc', rfl, by rw [hn]; rfl, fun q => absurd (hn.symm.trans q) (by decide)⟩
  have hV := itB_V h1 he
  have hn : dB β e 549 = pSwitch β ps := by simp [dB, h1]
  refine x_if_eq rfl (fun q => absurd q (by decide)) (fun _ => ?_)
  iterate 2 refine x_step rfl ?_
  refine x_callvE rfl (n105 (d := 4) hβ hA hV (by omega)) rfl rfl rfl ?_
  refine x_if_eq rfl (fun h => ?_) (fun h => ?_)
  · refine x_step rfl ?_
    exact x_iret rfl rfl rfl ⟨xf', xz', xt', xb', _, rfl, by rw [hn, bI_f h]; rfl, fun q => absurd ((bI_f h).symm.trans (hn.symm.trans q)) (by decide)⟩
  · iterate 2 refine x_step rfl ?_
    exact x_iret rfl rfl rfl ⟨xf', xz', xt', xb', _, rfl, by rw [hn, bI_t h]; rfl, fun _ _ => ⟨ps, h1, rfl, hA, hV⟩⟩
theorem n99_553 (hg : ∀ i, i < 130 → gb i = nI (β i)) (hβ : ∀ i, β i < 256) (he : e ≤ 130) (hd : 18 ≤ d) : XM l 99 d 0 0 [.ref 97, .int (nI 553)] (cw L xs g tc tf bl bf of oc ol on ml mx mb kc kh kr ka (nI e) gx gb ls lq lk lg lh vf vs vb nv nw nr nq ne io sp ch wt xf xz xt xb xc) (fun v h => ∃ (xf' xz' xt' xb' : Nat → Int32) (xc' : Int32), h = (cw L xs g tc tf bl bf of oc ol on ml mx mb kc kh kr ka (nI e) gx gb ls lq lk lg lh vf vs vb nv nw nr nq ne io sp ch wt (xf') (xz') (xt') (xb') (xc')) ∧ v = some (.int (bI (dB β e 553))) ∧ (dB β e 553 = true → dI β e 553 xf' xz' xt' xb' xc')) := by
  refine XEq (pl := [some (.ref 97), some (.int (nI 553))]) xg99 rfl ?_
  refine x_step rfl ?_
  refine x_lsw rfl (t := 175) (by decide) ?_
  iterate 2 refine x_step rfl ?_
  refine x_callv (a := 98) (as := []) (rest := []) rfl (by decide) (n78 (d := 16) hg hβ he (by omega)) (by omega) (Nat.zero_le _) (Nat.zero_le _) rfl rfl (by decide) rfl rfl ?_
  rintro v h ⟨xf', xz', xt', xb', xc', rfl, hP⟩
  rcases hP with ⟨h1, rfl⟩ | ⟨ps, h1, rfl, rfl, hA⟩
  · have hn : dB β e 553 = false := by simp [dB, h1]
    refine x_if_eq rfl (fun _ => ?_) (fun q => absurd rfl q)
    refine x_step rfl ?_
    exact x_iret rfl rfl rfl ⟨xf', xz', xt', xb', xc', rfl, by rw [hn]; rfl, fun q => absurd (hn.symm.trans q) (by decide)⟩
  have hV := itB_V h1 he
  have hn : dB β e 553 = pCmd β ps := by simp [dB, h1]
  refine x_if_eq rfl (fun q => absurd q (by decide)) (fun _ => ?_)
  iterate 2 refine x_step rfl ?_
  refine x_callvE rfl (n106 (d := 4) hβ hA hV (by omega)) rfl rfl rfl ?_
  refine x_if_eq rfl (fun h => ?_) (fun h => ?_)
  · refine x_step rfl ?_
    exact x_iret rfl rfl rfl ⟨xf', xz', xt', xb', _, rfl, by rw [hn, bI_f h]; rfl, fun q => absurd ((bI_f h).symm.trans (hn.symm.trans q)) (by decide)⟩
  · iterate 2 refine x_step rfl ?_
    exact x_iret rfl rfl rfl ⟨xf', xz', xt', xb', _, rfl, by rw [hn, bI_t h]; rfl, fun _ _ => ⟨ps, h1, rfl, hA, hV⟩⟩
theorem n99_269 : XM l 99 d 0 0 [.ref 97, .int (nI 269)] (cw L xs g tc tf bl bf of oc ol on ml mx mb kc kh kr ka (nI e) gx gb ls lq lk lg lh vf vs vb nv nw nr nq ne io sp ch wt xf xz xt xb xc) (fun v h => ∃ (xf' xz' xt' xb' : Nat → Int32) (xc' : Int32), h = (cw L xs g tc tf bl bf of oc ol on ml mx mb kc kh kr ka (nI e) gx gb ls lq lk lg lh vf vs vb nv nw nr nq ne io sp ch wt (xf') (xz') (xt') (xb') (xc')) ∧ v = some (.int (bI (dB β e 269))) ∧ (dB β e 269 = true → dI β e 269 xf' xz' xt' xb' xc')) := by
  refine XEq (pl := [some (.ref 97), some (.int (nI 269))]) xg99 rfl ?_
  refine x_step rfl ?_
  refine x_lsw rfl (t := 68) (by decide) ?_
  refine x_step rfl ?_
  exact x_iret rfl rfl rfl ⟨xf, xz, xt, xb, xc, rfl, rfl, fun _ z => absurd z (by decide)⟩
theorem n99_257 (he : e ≤ 130) (hd : 1 ≤ d) : XM l 99 d 0 0 [.ref 97, .int (nI 257)] (cw L xs g tc tf bl bf of oc ol on ml mx mb kc kh kr ka (nI e) gx gb ls lq lk lg lh vf vs vb nv nw nr nq ne io sp ch wt xf xz xt xb xc) (fun v h => ∃ (xf' xz' xt' xb' : Nat → Int32) (xc' : Int32), h = (cw L xs g tc tf bl bf of oc ol on ml mx mb kc kh kr ka (nI e) gx gb ls lq lk lg lh vf vs vb nv nw nr nq ne io sp ch wt (xf') (xz') (xt') (xb') (xc')) ∧ v = some (.int (bI (dB β e 257))) ∧ (dB β e 257 = true → dI β e 257 xf' xz' xt' xb' xc')) := by
  refine XEq (pl := [some (.ref 97), some (.int (nI 257))]) xg99 rfl ?_
  refine x_step rfl ?_
  refine x_lsw rfl (t := 201) (by decide) ?_
  iterate 2 refine x_step rfl ?_
  refine x_callvE rfl (m51 (d := 0) rfl) rfl rfl rfl ?_
  refine x_step rfl ?_
  refine x_icmpN_ne e 10 rfl rfl rfl (fun h => ?_) (fun h => ?_)
  · have hn : dB β e 257 = false := by simp [dB, h]
    refine x_step rfl ?_
    exact x_iret rfl rfl rfl ⟨xf, xz, xt, xb, xc, rfl, by rw [hn]; rfl, fun _ z => absurd z (by decide)⟩
  · have hn : dB β e 257 = true := by simp [dB, h]
    iterate 2 refine x_step rfl ?_
    exact x_iret rfl rfl rfl ⟨xf, xz, xt, xb, xc, rfl, by rw [hn]; rfl, fun _ z => absurd z (by decide)⟩
theorem n99_271 (he : e ≤ 130) (hd : 1 ≤ d) : XM l 99 d 0 0 [.ref 97, .int (nI 271)] (cw L xs g tc tf bl bf of oc ol on ml mx mb kc kh kr ka (nI e) gx gb ls lq lk lg lh vf vs vb nv nw nr nq ne io sp ch wt xf xz xt xb xc) (fun v h => ∃ (xf' xz' xt' xb' : Nat → Int32) (xc' : Int32), h = (cw L xs g tc tf bl bf of oc ol on ml mx mb kc kh kr ka (nI e) gx gb ls lq lk lg lh vf vs vb nv nw nr nq ne io sp ch wt (xf') (xz') (xt') (xb') (xc')) ∧ v = some (.int (bI (dB β e 271))) ∧ (dB β e 271 = true → dI β e 271 xf' xz' xt' xb' xc')) := by
  refine XEq (pl := [some (.ref 97), some (.int (nI 271))]) xg99 rfl ?_
  refine x_step rfl ?_
  refine x_lsw rfl (t := 201) (by decide) ?_
  iterate 2 refine x_step rfl ?_
  refine x_callvE rfl (m51 (d := 0) rfl) rfl rfl rfl ?_
  refine x_step rfl ?_
  refine x_icmpN_ne e 10 rfl rfl rfl (fun h => ?_) (fun h => ?_)
  · have hn : dB β e 271 = false := by simp [dB, h]
    refine x_step rfl ?_
    exact x_iret rfl rfl rfl ⟨xf, xz, xt, xb, xc, rfl, by rw [hn]; rfl, fun _ z => absurd z (by decide)⟩
  · have hn : dB β e 271 = true := by simp [dB, h]
    iterate 2 refine x_step rfl ?_
    exact x_iret rfl rfl rfl ⟨xf, xz, xt, xb, xc, rfl, by rw [hn]; rfl, fun _ z => absurd z (by decide)⟩
theorem n99_273 (he : e ≤ 130) (hd : 1 ≤ d) : XM l 99 d 0 0 [.ref 97, .int (nI 273)] (cw L xs g tc tf bl bf of oc ol on ml mx mb kc kh kr ka (nI e) gx gb ls lq lk lg lh vf vs vb nv nw nr nq ne io sp ch wt xf xz xt xb xc) (fun v h => ∃ (xf' xz' xt' xb' : Nat → Int32) (xc' : Int32), h = (cw L xs g tc tf bl bf of oc ol on ml mx mb kc kh kr ka (nI e) gx gb ls lq lk lg lh vf vs vb nv nw nr nq ne io sp ch wt (xf') (xz') (xt') (xb') (xc')) ∧ v = some (.int (bI (dB β e 273))) ∧ (dB β e 273 = true → dI β e 273 xf' xz' xt' xb' xc')) := by
  refine XEq (pl := [some (.ref 97), some (.int (nI 273))]) xg99 rfl ?_
  refine x_step rfl ?_
  refine x_lsw rfl (t := 201) (by decide) ?_
  iterate 2 refine x_step rfl ?_
  refine x_callvE rfl (m51 (d := 0) rfl) rfl rfl rfl ?_
  refine x_step rfl ?_
  refine x_icmpN_ne e 10 rfl rfl rfl (fun h => ?_) (fun h => ?_)
  · have hn : dB β e 273 = false := by simp [dB, h]
    refine x_step rfl ?_
    exact x_iret rfl rfl rfl ⟨xf, xz, xt, xb, xc, rfl, by rw [hn]; rfl, fun _ z => absurd z (by decide)⟩
  · have hn : dB β e 273 = true := by simp [dB, h]
    iterate 2 refine x_step rfl ?_
    exact x_iret rfl rfl rfl ⟨xf, xz, xt, xb, xc, rfl, by rw [hn]; rfl, fun _ z => absurd z (by decide)⟩
theorem n99 (hg : ∀ i, i < 130 → gb i = nI (β i)) (hβ : ∀ i, β i < 256) (he : e ≤ 130) (k : Nat) (hk : dN k = true) (hd : 18 ≤ d) : XM l 99 d 0 0 [.ref 97, .int (nI k)] (cw L xs g tc tf bl bf of oc ol on ml mx mb kc kh kr ka (nI e) gx gb ls lq lk lg lh vf vs vb nv nw nr nq ne io sp ch wt xf xz xt xb xc) (fun v h => ∃ (xf' xz' xt' xb' : Nat → Int32) (xc' : Int32), h = (cw L xs g tc tf bl bf of oc ol on ml mx mb kc kh kr ka (nI e) gx gb ls lq lk lg lh vf vs vb nv nw nr nq ne io sp ch wt (xf') (xz') (xt') (xb') (xc')) ∧ v = some (.int (bI (dB β e k))) ∧ (dB β e k = true → dI β e k xf' xz' xt' xb' xc')) := by
  have h : k = 257 ∨ k = 259 ∨ k = 269 ∨ k = 271 ∨ k = 273 ∨ k = 527 ∨ k = 545 ∨ k = 547 ∨ k = 549 ∨ k = 553 := by
    unfold dN at hk
    simp only [Bool.or_eq_true, beq_iff_eq] at hk
    omega
  rcases h with rfl | rfl | rfl | rfl | rfl | rfl | rfl | rfl | rfl | rfl
  · exact n99_257 he (by omega)
  · exact n99_259 hg hβ he hd
  · exact n99_269
  · exact n99_271 he (by omega)
  · exact n99_273 he (by omega)
  · exact n99_527 hg hβ he hd
  · exact n99_545 hg hβ he hd
  · exact n99_547 hg hβ he hd
  · exact n99_549 hg hβ he hd
  · exact n99_553 hg hβ he hd
/-- Desk.admitsRequest -/
theorem n91a (hg : ∀ i, i < 130 → gb i = nI (β i)) (hβ : ∀ i, β i < 256) (hd : 2 ≤ d) (h0 : sp = 0) (hk : dK β ≠ 269) : XM l 91 d 0 0 [.ref 97] (cw L xs g tc tf bl bf of oc ol on ml mx mb kc kh kr ka gl gx gb ls lq lk lg lh vf vs vb nv nw nr nq ne io sp ch wt xf xz xt xb xc) (xm_is (some (.int 0)) (cw L xs g tc tf bl bf of oc ol on ml mx mb kc kh kr ka gl gx gb ls lq lk lg lh vf vs vb nv nw nr nq ne io sp ch wt xf xz xt xb xc)) := by
  refine XE (pl := [some (.ref 97), none]) xg91 rfl ?_
  refine x_step rfl ?_
  refine x_callvE rfl (n92 (d := 1) hg hβ (by omega)) rfl rfl rfl ?_
  have hK := dK_lt hβ
  iterate 3 refine x_step rfl ?_
  refine x_callvE rfl (n93 (d := 0) (by rw [h0]; rfl)) rfl rfl rfl ?_
  refine x_if_ne rfl (fun q => absurd h0 q) (fun _ => ?_)
  iterate 2 refine x_step rfl ?_
  refine x_icmpN_eq (dK β) (269) rfl rfl rfl (fun q => False.elim (by omega)) (fun _ => ?_)
  refine x_step rfl ?_
  exact x_iret rfl rfl rfl ⟨rfl, rfl⟩
/-- Desk.admitsRequest -/
theorem n91b (hg : ∀ i, i < 130 → gb i = nI (β i)) (hβ : ∀ i, β i < 256) (hd : 4 ≤ d) (hsp : narrow .boolean (.int sp) = .int sp) (hs0 : sp = 0 → dK β = 269) (hs1 : β 2 % 128 ≠ 1) (hs2 : β 2 % 128 ≠ 2) (hi : ¬ 8 ≤ oc → vp_in (of + oc - (of + oc) / 8 * 8) 8) : XM l 91 d 0 0 [.ref 97] (cw L xs g tc tf bl bf of oc ol on ml mx mb kc kh kr ka gl gx gb ls lq lk lg lh vf vs vb nv nw nr nq ne io sp ch wt xf xz xt xb xc) (xm_is (some (.int 0)) (cw L xs g tc tf (nI ([33, 10, gb 0, gb 1, gb 2, gb 3, gb 4, gb 5, gb 6, gb 7, gb 8, gb 9]).length) (xbd bf ([33, 10, gb 0, gb 1, gb 2, gb 3, gb 4, gb 5, gb 6, gb 7, gb 8, gb 9])) of (xoc oc) (xol oc ol) (on + 1 &&& 65535) (xml of oc ml (nI ([33, 10, gb 0, gb 1, gb 2, gb 3, gb 4, gb 5, gb 6, gb 7, gb 8, gb 9]).length)) (xmx of oc mx) (xmb of oc mb (xbd bf ([33, 10, gb 0, gb 1, gb 2, gb 3, gb 4, gb 5, gb 6, gb 7, gb 8, gb 9])) (nI ([33, 10, gb 0, gb 1, gb 2, gb 3, gb 4, gb 5, gb 6, gb 7, gb 8, gb 9]).length) (9) (3) (on + 1 &&& 65535)) kc kh kr ka gl gx gb ls lq lk lg lh vf vs vb nv nw nr nq ne io sp ch wt xf xz xt xb xc)) := by
  refine XE (pl := [some (.ref 97), none]) xg91 rfl ?_
  refine x_step rfl ?_
  refine x_callvE rfl (n92 (d := 1) hg hβ (by omega)) rfl rfl rfl ?_
  have hK := dK_lt hβ
  iterate 3 refine x_step rfl ?_
  refine x_callvE rfl (n93 (d := 0) hsp) rfl rfl rfl ?_
  refine x_if_ne rfl (fun hs => ?_) (fun hs => ?_)
  · iterate 2 refine x_step rfl ?_
    refine x_callvE rfl (m76 (d := 0) rfl rfl) rfl rfl rfl ?_
    refine xm_ss (st' := [.int (nI (β 2 % 128))]) (by rw [hg 2 (by decide), b127 _ (hβ 2)] <;> rfl) ?_
    refine x_step rfl ?_
    refine x_icmpN_eq (β 2 % 128) (1) rfl rfl rfl (fun q => False.elim (by omega)) (fun _ => ?_)
    iterate 2 refine x_step rfl ?_
    refine x_callvE rfl (m76 (d := 0) rfl rfl) rfl rfl rfl ?_
    refine xm_ss (st' := [.int (nI (β 2 % 128))]) (by rw [hg 2 (by decide), b127 _ (hβ 2)] <;> rfl) ?_
    refine x_step rfl ?_
    refine x_icmpN_eq (β 2 % 128) (2) rfl rfl rfl (fun q => False.elim (by omega)) (fun _ => ?_)
    iterate 2 refine x_step rfl ?_
    refine x_callvE rfl (n68 (d := 3) 3 (by omega) hi) rfl rfl rfl ?_
    exact x_iret rfl rfl rfl ⟨rfl, rfl⟩
  · have hk9 := hs0 hs
    iterate 2 refine x_step rfl ?_
    refine x_icmpN_eq (dK β) (269) rfl rfl rfl (fun _ => ?_) (fun q => False.elim (by omega))
    iterate 2 refine x_step rfl ?_
    refine x_callvE rfl (m76 (d := 0) rfl rfl) rfl rfl rfl ?_
    refine xm_ss (st' := [.int (nI (β 2 % 128))]) (by rw [hg 2 (by decide), b127 _ (hβ 2)] <;> rfl) ?_
    refine x_step rfl ?_
    refine x_icmpN_eq (β 2 % 128) (1) rfl rfl rfl (fun q => False.elim (by omega)) (fun _ => ?_)
    iterate 2 refine x_step rfl ?_
    refine x_callvE rfl (m76 (d := 0) rfl rfl) rfl rfl rfl ?_
    refine xm_ss (st' := [.int (nI (β 2 % 128))]) (by rw [hg 2 (by decide), b127 _ (hβ 2)] <;> rfl) ?_
    refine x_step rfl ?_
    refine x_icmpN_eq (β 2 % 128) (2) rfl rfl rfl (fun q => False.elim (by omega)) (fun _ => ?_)
    iterate 2 refine x_step rfl ?_
    refine x_callvE rfl (n68 (d := 3) 3 (by omega) hi) rfl rfl rfl ?_
    exact x_iret rfl rfl rfl ⟨rfl, rfl⟩
/-- Desk.admitsRequest -/
theorem n91c (hg : ∀ i, i < 130 → gb i = nI (β i)) (hβ : ∀ i, β i < 256) (hd : 4 ≤ d) (hsp : narrow .boolean (.int sp) = .int sp) (hs0 : sp = 0 → dK β = 269) (hst : β 2 % 128 = 1 ∨ β 2 % 128 = 2) (hn : dN (dK β) = false) (hi : ¬ 8 ≤ oc → vp_in (of + oc - (of + oc) / 8 * 8) 8) : XM l 91 d 0 0 [.ref 97] (cw L xs g tc tf bl bf of oc ol on ml mx mb kc kh kr ka gl gx gb ls lq lk lg lh vf vs vb nv nw nr nq ne io sp ch wt xf xz xt xb xc) (xm_is (some (.int 0)) (cw L xs g tc tf (nI ([33, 10, gb 0, gb 1, gb 2, gb 3, gb 4, gb 5, gb 6, gb 7, gb 8, gb 9]).length) (xbd bf ([33, 10, gb 0, gb 1, gb 2, gb 3, gb 4, gb 5, gb 6, gb 7, gb 8, gb 9])) of (xoc oc) (xol oc ol) (on + 1 &&& 65535) (xml of oc ml (nI ([33, 10, gb 0, gb 1, gb 2, gb 3, gb 4, gb 5, gb 6, gb 7, gb 8, gb 9]).length)) (xmx of oc mx) (xmb of oc mb (xbd bf ([33, 10, gb 0, gb 1, gb 2, gb 3, gb 4, gb 5, gb 6, gb 7, gb 8, gb 9])) (nI ([33, 10, gb 0, gb 1, gb 2, gb 3, gb 4, gb 5, gb 6, gb 7, gb 8, gb 9]).length) (9) (5) (on + 1 &&& 65535)) kc kh kr ka gl gx gb ls lq lk lg lh vf vs vb nv nw nr nq ne io sp ch wt xf xz xt xb xc)) := by
  refine XE (pl := [some (.ref 97), none]) xg91 rfl ?_
  refine x_step rfl ?_
  refine x_callvE rfl (n92 (d := 1) hg hβ (by omega)) rfl rfl rfl ?_
  have hK := dK_lt hβ
  iterate 3 refine x_step rfl ?_
  refine x_callvE rfl (n93 (d := 0) hsp) rfl rfl rfl ?_
  refine x_if_ne rfl (fun hs => ?_) (fun hs => ?_)
  · iterate 2 refine x_step rfl ?_
    refine x_callvE rfl (m76 (d := 0) rfl rfl) rfl rfl rfl ?_
    refine xm_ss (st' := [.int (nI (β 2 % 128))]) (by rw [hg 2 (by decide), b127 _ (hβ 2)] <;> rfl) ?_
    refine x_step rfl ?_
    refine x_icmpN_eq (β 2 % 128) (1) rfl rfl rfl (fun h1 => ?_) (fun h1 => ?_)
    · refine x_step rfl ?_
      refine x_callsE rfl (n94 (d := 0) (dK β) hK) rfl rfl ?_
      refine x_if_ne rfl (fun q => absurd (by rw [hn]; rfl) q) (fun _ => ?_)
      iterate 2 refine x_step rfl ?_
      refine x_callvE rfl (n68 (d := 3) 5 (by omega) hi) rfl rfl rfl ?_
      exact x_iret rfl rfl rfl ⟨rfl, rfl⟩
    · iterate 2 refine x_step rfl ?_
      refine x_callvE rfl (m76 (d := 0) rfl rfl) rfl rfl rfl ?_
      refine xm_ss (st' := [.int (nI (β 2 % 128))]) (by rw [hg 2 (by decide), b127 _ (hβ 2)] <;> rfl) ?_
      refine x_step rfl ?_
      refine x_icmpN_eq (β 2 % 128) (2) rfl rfl rfl (fun _ => ?_) (fun q => False.elim (by omega))
      refine x_step rfl ?_
      refine x_callsE rfl (n94 (d := 0) (dK β) hK) rfl rfl ?_
      refine x_if_ne rfl (fun q => absurd (by rw [hn]; rfl) q) (fun _ => ?_)
      iterate 2 refine x_step rfl ?_
      refine x_callvE rfl (n68 (d := 3) 5 (by omega) hi) rfl rfl rfl ?_
      exact x_iret rfl rfl rfl ⟨rfl, rfl⟩
  · have hk9 := hs0 hs
    iterate 2 refine x_step rfl ?_
    refine x_icmpN_eq (dK β) (269) rfl rfl rfl (fun _ => ?_) (fun q => False.elim (by omega))
    iterate 2 refine x_step rfl ?_
    refine x_callvE rfl (m76 (d := 0) rfl rfl) rfl rfl rfl ?_
    refine xm_ss (st' := [.int (nI (β 2 % 128))]) (by rw [hg 2 (by decide), b127 _ (hβ 2)] <;> rfl) ?_
    refine x_step rfl ?_
    refine x_icmpN_eq (β 2 % 128) (1) rfl rfl rfl (fun h1 => ?_) (fun h1 => ?_)
    · refine x_step rfl ?_
      refine x_callsE rfl (n94 (d := 0) (dK β) hK) rfl rfl ?_
      refine x_if_ne rfl (fun q => absurd (by rw [hn]; rfl) q) (fun _ => ?_)
      iterate 2 refine x_step rfl ?_
      refine x_callvE rfl (n68 (d := 3) 5 (by omega) hi) rfl rfl rfl ?_
      exact x_iret rfl rfl rfl ⟨rfl, rfl⟩
    · iterate 2 refine x_step rfl ?_
      refine x_callvE rfl (m76 (d := 0) rfl rfl) rfl rfl rfl ?_
      refine xm_ss (st' := [.int (nI (β 2 % 128))]) (by rw [hg 2 (by decide), b127 _ (hβ 2)] <;> rfl) ?_
      refine x_step rfl ?_
      refine x_icmpN_eq (β 2 % 128) (2) rfl rfl rfl (fun _ => ?_) (fun q => False.elim (by omega))
      refine x_step rfl ?_
      refine x_callsE rfl (n94 (d := 0) (dK β) hK) rfl rfl ?_
      refine x_if_ne rfl (fun q => absurd (by rw [hn]; rfl) q) (fun _ => ?_)
      iterate 2 refine x_step rfl ?_
      refine x_callvE rfl (n68 (d := 3) 5 (by omega) hi) rfl rfl rfl ?_
      exact x_iret rfl rfl rfl ⟨rfl, rfl⟩
/-- Desk.admitsRequest -/
theorem n91d (hg : ∀ i, i < 130 → gb i = nI (β i)) (hβ : ∀ i, β i < 256) {h9 : xm_H} {dd : Nat} (hd : 4 ≤ d) (hsp : narrow .boolean (.int sp) = .int sp) (hs0 : sp = 0 → dK β = 269) (hst : β 2 % 128 = 1 ∨ β 2 % 128 = 2) (hn : dN (dK β) = true) (ho : xon (vb 0 0) = 0) (hk1 : dK β ≠ 269) (hk2 : dK β ≠ 273) (hdd : dd < d) (hM : XM l 96 dd 0 0 [.ref 97] (cw L xs g tc tf bl bf of oc ol on ml mx mb kc kh kr ka gl gx gb ls lq lk lg lh vf vs vb nv nw nr nq ne io sp ch wt xf xz xt xb xc) (xm_is (some (.int 0)) h9)) : XM l 91 d 0 0 [.ref 97] (cw L xs g tc tf bl bf of oc ol on ml mx mb kc kh kr ka gl gx gb ls lq lk lg lh vf vs vb nv nw nr nq ne io sp ch wt xf xz xt xb xc) (xm_is (some (.int 0)) h9) := by
  refine XE (pl := [some (.ref 97), none]) xg91 rfl ?_
  refine x_step rfl ?_
  refine x_callvE rfl (n92 (d := 1) hg hβ (by omega)) rfl rfl rfl ?_
  have hK := dK_lt hβ
  iterate 3 refine x_step rfl ?_
  refine x_callvE rfl (n93 (d := 0) hsp) rfl rfl rfl ?_
  refine x_if_ne rfl (fun hs => ?_) (fun hs => ?_)
  · iterate 2 refine x_step rfl ?_
    refine x_callvE rfl (m76 (d := 0) rfl rfl) rfl rfl rfl ?_
    refine xm_ss (st' := [.int (nI (β 2 % 128))]) (by rw [hg 2 (by decide), b127 _ (hβ 2)] <;> rfl) ?_
    refine x_step rfl ?_
    refine x_icmpN_eq (β 2 % 128) (1) rfl rfl rfl (fun h1 => ?_) (fun h1 => ?_)
    · refine x_step rfl ?_
      refine x_callsE rfl (n94 (d := 0) (dK β) hK) rfl rfl ?_
      refine x_if_ne rfl (fun _ => ?_) (fun q => absurd q (by rw [hn]; decide))
      iterate 2 refine x_step rfl ?_
      refine x_callvE rfl (n95 (d := 1) (by omega)) rfl rfl rfl ?_
      refine x_if_ne rfl (fun q => absurd ho q) (fun _ => ?_)
      iterate 2 refine x_step rfl ?_
      refine x_icmpN_eq (dK β) (269) rfl rfl rfl (fun q => False.elim (by omega)) (fun _ => ?_)
      iterate 2 refine x_step rfl ?_
      refine x_icmpN_eq (dK β) (273) rfl rfl rfl (fun q => False.elim (by omega)) (fun _ => ?_)
      refine x_step rfl ?_
      refine x_callvE rfl (hM) rfl rfl rfl ?_
      exact x_iret rfl rfl rfl ⟨rfl, rfl⟩
    · iterate 2 refine x_step rfl ?_
      refine x_callvE rfl (m76 (d := 0) rfl rfl) rfl rfl rfl ?_
      refine xm_ss (st' := [.int (nI (β 2 % 128))]) (by rw [hg 2 (by decide), b127 _ (hβ 2)] <;> rfl) ?_
      refine x_step rfl ?_
      refine x_icmpN_eq (β 2 % 128) (2) rfl rfl rfl (fun _ => ?_) (fun q => False.elim (by omega))
      refine x_step rfl ?_
      refine x_callsE rfl (n94 (d := 0) (dK β) hK) rfl rfl ?_
      refine x_if_ne rfl (fun _ => ?_) (fun q => absurd q (by rw [hn]; decide))
      iterate 2 refine x_step rfl ?_
      refine x_callvE rfl (n95 (d := 1) (by omega)) rfl rfl rfl ?_
      refine x_if_ne rfl (fun q => absurd ho q) (fun _ => ?_)
      iterate 2 refine x_step rfl ?_
      refine x_icmpN_eq (dK β) (269) rfl rfl rfl (fun q => False.elim (by omega)) (fun _ => ?_)
      iterate 2 refine x_step rfl ?_
      refine x_icmpN_eq (dK β) (273) rfl rfl rfl (fun q => False.elim (by omega)) (fun _ => ?_)
      refine x_step rfl ?_
      refine x_callvE rfl (hM) rfl rfl rfl ?_
      exact x_iret rfl rfl rfl ⟨rfl, rfl⟩
  · have hk9 := hs0 hs
    iterate 2 refine x_step rfl ?_
    refine x_icmpN_eq (dK β) (269) rfl rfl rfl (fun _ => ?_) (fun q => False.elim (by omega))
    iterate 2 refine x_step rfl ?_
    refine x_callvE rfl (m76 (d := 0) rfl rfl) rfl rfl rfl ?_
    refine xm_ss (st' := [.int (nI (β 2 % 128))]) (by rw [hg 2 (by decide), b127 _ (hβ 2)] <;> rfl) ?_
    refine x_step rfl ?_
    refine x_icmpN_eq (β 2 % 128) (1) rfl rfl rfl (fun h1 => ?_) (fun h1 => ?_)
    · refine x_step rfl ?_
      refine x_callsE rfl (n94 (d := 0) (dK β) hK) rfl rfl ?_
      refine x_if_ne rfl (fun _ => ?_) (fun q => absurd q (by rw [hn]; decide))
      iterate 2 refine x_step rfl ?_
      refine x_callvE rfl (n95 (d := 1) (by omega)) rfl rfl rfl ?_
      refine x_if_ne rfl (fun q => absurd ho q) (fun _ => ?_)
      iterate 2 refine x_step rfl ?_
      refine x_icmpN_eq (dK β) (269) rfl rfl rfl (fun q => False.elim (by omega)) (fun _ => ?_)
      iterate 2 refine x_step rfl ?_
      refine x_icmpN_eq (dK β) (273) rfl rfl rfl (fun q => False.elim (by omega)) (fun _ => ?_)
      refine x_step rfl ?_
      refine x_callvE rfl (hM) rfl rfl rfl ?_
      exact x_iret rfl rfl rfl ⟨rfl, rfl⟩
    · iterate 2 refine x_step rfl ?_
      refine x_callvE rfl (m76 (d := 0) rfl rfl) rfl rfl rfl ?_
      refine xm_ss (st' := [.int (nI (β 2 % 128))]) (by rw [hg 2 (by decide), b127 _ (hβ 2)] <;> rfl) ?_
      refine x_step rfl ?_
      refine x_icmpN_eq (β 2 % 128) (2) rfl rfl rfl (fun _ => ?_) (fun q => False.elim (by omega))
      refine x_step rfl ?_
      refine x_callsE rfl (n94 (d := 0) (dK β) hK) rfl rfl ?_
      refine x_if_ne rfl (fun _ => ?_) (fun q => absurd q (by rw [hn]; decide))
      iterate 2 refine x_step rfl ?_
      refine x_callvE rfl (n95 (d := 1) (by omega)) rfl rfl rfl ?_
      refine x_if_ne rfl (fun q => absurd ho q) (fun _ => ?_)
      iterate 2 refine x_step rfl ?_
      refine x_icmpN_eq (dK β) (269) rfl rfl rfl (fun q => False.elim (by omega)) (fun _ => ?_)
      iterate 2 refine x_step rfl ?_
      refine x_icmpN_eq (dK β) (273) rfl rfl rfl (fun q => False.elim (by omega)) (fun _ => ?_)
      refine x_step rfl ?_
      refine x_callvE rfl (hM) rfl rfl rfl ?_
      exact x_iret rfl rfl rfl ⟨rfl, rfl⟩
/-- Desk.admitsRequest: the body decides -/
theorem n91e {Q : Option Value → xm_H → Prop} (hg : ∀ i, i < 130 → gb i = nI (β i)) (hβ : ∀ i, β i < 256) (he : e ≤ 130) (hd : 19 ≤ d) (hsp : narrow .boolean (.int sp) = .int sp) (hs0 : sp = 0 → dK β = 269) (hst : β 2 % 128 = 1 ∨ β 2 % 128 = 2) (hn : dN (dK β) = true) (ho : xon (vb 0 0) = 0 → dK β = 269 ∨ dK β = 273)
    (hY : dB β e (dK β) = true → ∀ (xf' xz' xt' xb' : Nat → Int32) (xc' : Int32), dI β e (dK β) xf' xz' xt' xb' xc' → Q (some (.int 1)) (cw L xs g tc tf bl bf of oc ol on ml mx mb kc kh kr ka (nI e) gx gb ls lq lk lg lh vf vs vb nv nw nr nq ne io sp ch wt (xf') (xz') (xt') (xb') (xc')))
    (hN : dB β e (dK β) = false → ∀ (xf' xz' xt' xb' : Nat → Int32) (xc' : Int32), Q (some (.int 0)) (cw L xs g tc tf (nI ([33, 10, gb 0, gb 1, gb 2, gb 3, gb 4, gb 5, gb 6, gb 7, gb 8, gb 9]).length) (xbd bf ([33, 10, gb 0, gb 1, gb 2, gb 3, gb 4, gb 5, gb 6, gb 7, gb 8, gb 9])) of (xoc oc) (xol oc ol) (on + 1 &&& 65535) (xml of oc ml (nI ([33, 10, gb 0, gb 1, gb 2, gb 3, gb 4, gb 5, gb 6, gb 7, gb 8, gb 9]).length)) (xmx of oc mx) (xmb of oc mb (xbd bf ([33, 10, gb 0, gb 1, gb 2, gb 3, gb 4, gb 5, gb 6, gb 7, gb 8, gb 9])) (nI ([33, 10, gb 0, gb 1, gb 2, gb 3, gb 4, gb 5, gb 6, gb 7, gb 8, gb 9]).length) (9) (7) (on + 1 &&& 65535)) kc kh kr ka (nI e) gx gb ls lq lk lg lh vf vs vb nv nw nr nq ne io sp ch wt (xf') (xz') (xt') (xb') (xc'))) (hi : ¬ 8 ≤ oc → vp_in (of + oc - (of + oc) / 8 * 8) 8) : XM l 91 d 0 0 [.ref 97] (cw L xs g tc tf bl bf of oc ol on ml mx mb kc kh kr ka (nI e) gx gb ls lq lk lg lh vf vs vb nv nw nr nq ne io sp ch wt xf xz xt xb xc) Q := by
  have hK := dK_lt hβ
  have key : ∀ pl0 : List (Option Value), pl0 = [some (.ref 97), some (.int (nI (dK β)))] → XW l 91 d 0 0 94 pl0 [] (cw L xs g tc tf bl bf of oc ol on ml mx mb kc kh kr ka (nI e) gx gb ls lq lk lg lh vf vs vb nv nw nr nq ne io sp ch wt xf xz xt xb xc) Q := by
    rintro _ rfl
    iterate 2 refine x_step rfl ?_
    refine x_callv (a := 97) (as := [.int (nI (dK β))]) (rest := []) rfl (by decide) (n99 (d := 18) hg hβ he (dK β) hn (by omega)) (by omega) (Nat.zero_le _) (Nat.zero_le _) rfl rfl (by decide) rfl rfl ?_
    rintro v h ⟨xf', xz', xt', xb', xc', rfl, rfl, hD⟩
    refine x_if_ne rfl (fun h => ?_) (fun h => ?_)
    · iterate 2 refine x_step rfl ?_
      exact x_iret rfl rfl rfl (hY (bI_t h) xf' xz' xt' xb' xc' (hD (bI_t h)))
    · iterate 2 refine x_step rfl ?_
      refine x_callvE rfl (n68 (d := 3) 7 (by omega) hi) rfl rfl rfl ?_
      refine x_if_eq rfl (fun _ => ?_) (fun q => absurd rfl q)
      refine x_step rfl ?_
      exact x_iret rfl rfl rfl (hN (bI_f h) xf' xz' xt' xb' xc')
  refine XEq (pl := [some (.ref 97), none]) xg91 rfl ?_
  refine x_step rfl ?_
  refine x_callvE rfl (n92 (d := 1) hg hβ (by omega)) rfl rfl rfl ?_
  iterate 3 refine x_step rfl ?_
  refine x_callvE rfl (n93 (d := 0) hsp) rfl rfl rfl ?_
  refine x_if_ne rfl (fun hs => ?_) (fun hs => ?_)
  · iterate 2 refine x_step rfl ?_
    refine x_callvE rfl (m76 (d := 0) rfl rfl) rfl rfl rfl ?_
    refine xm_ss (st' := [.int (nI (β 2 % 128))]) (by rw [hg 2 (by decide), b127 _ (hβ 2)] <;> rfl) ?_
    refine x_step rfl ?_
    refine x_icmpN_eq (β 2 % 128) (1) rfl rfl rfl (fun h1 => ?_) (fun h1 => ?_)
    · refine x_step rfl ?_
      refine x_callsE rfl (n94 (d := 0) (dK β) hK) rfl rfl ?_
      refine x_if_ne rfl (fun _ => ?_) (fun q => absurd q (by rw [hn]; decide))
      iterate 2 refine x_step rfl ?_
      refine x_callvE rfl (n95 (d := 1) (by omega)) rfl rfl rfl ?_
      refine x_if_ne rfl (fun hon => ?_) (fun hon => ?_)
      · exact key _ rfl
      · have hk8 := ho hon
        iterate 2 refine x_step rfl ?_
        refine x_icmpN_eq (dK β) (269) rfl rfl rfl (fun h269 => ?_) (fun h269 => ?_)
        · exact key _ rfl
        · iterate 2 refine x_step rfl ?_
          refine x_icmpN_eq (dK β) (273) rfl rfl rfl (fun _ => ?_) (fun q => False.elim (by omega))
          exact key _ rfl
    · iterate 2 refine x_step rfl ?_
      refine x_callvE rfl (m76 (d := 0) rfl rfl) rfl rfl rfl ?_
      refine xm_ss (st' := [.int (nI (β 2 % 128))]) (by rw [hg 2 (by decide), b127 _ (hβ 2)] <;> rfl) ?_
      refine x_step rfl ?_
      refine x_icmpN_eq (β 2 % 128) (2) rfl rfl rfl (fun _ => ?_) (fun q => False.elim (by omega))
      refine x_step rfl ?_
      refine x_callsE rfl (n94 (d := 0) (dK β) hK) rfl rfl ?_
      refine x_if_ne rfl (fun _ => ?_) (fun q => absurd q (by rw [hn]; decide))
      iterate 2 refine x_step rfl ?_
      refine x_callvE rfl (n95 (d := 1) (by omega)) rfl rfl rfl ?_
      refine x_if_ne rfl (fun hon => ?_) (fun hon => ?_)
      · exact key _ rfl
      · have hk8 := ho hon
        iterate 2 refine x_step rfl ?_
        refine x_icmpN_eq (dK β) (269) rfl rfl rfl (fun h269 => ?_) (fun h269 => ?_)
        · exact key _ rfl
        · iterate 2 refine x_step rfl ?_
          refine x_icmpN_eq (dK β) (273) rfl rfl rfl (fun _ => ?_) (fun q => False.elim (by omega))
          exact key _ rfl
  · have hk9 := hs0 hs
    iterate 2 refine x_step rfl ?_
    refine x_icmpN_eq (dK β) (269) rfl rfl rfl (fun _ => ?_) (fun q => False.elim (by omega))
    iterate 2 refine x_step rfl ?_
    refine x_callvE rfl (m76 (d := 0) rfl rfl) rfl rfl rfl ?_
    refine xm_ss (st' := [.int (nI (β 2 % 128))]) (by rw [hg 2 (by decide), b127 _ (hβ 2)] <;> rfl) ?_
    refine x_step rfl ?_
    refine x_icmpN_eq (β 2 % 128) (1) rfl rfl rfl (fun h1 => ?_) (fun h1 => ?_)
    · refine x_step rfl ?_
      refine x_callsE rfl (n94 (d := 0) (dK β) hK) rfl rfl ?_
      refine x_if_ne rfl (fun _ => ?_) (fun q => absurd q (by rw [hn]; decide))
      iterate 2 refine x_step rfl ?_
      refine x_callvE rfl (n95 (d := 1) (by omega)) rfl rfl rfl ?_
      refine x_if_ne rfl (fun hon => ?_) (fun hon => ?_)
      · exact key _ rfl
      · have hk8 := ho hon
        iterate 2 refine x_step rfl ?_
        refine x_icmpN_eq (dK β) (269) rfl rfl rfl (fun h269 => ?_) (fun h269 => ?_)
        · exact key _ rfl
        · iterate 2 refine x_step rfl ?_
          refine x_icmpN_eq (dK β) (273) rfl rfl rfl (fun _ => ?_) (fun q => False.elim (by omega))
          exact key _ rfl
    · iterate 2 refine x_step rfl ?_
      refine x_callvE rfl (m76 (d := 0) rfl rfl) rfl rfl rfl ?_
      refine xm_ss (st' := [.int (nI (β 2 % 128))]) (by rw [hg 2 (by decide), b127 _ (hβ 2)] <;> rfl) ?_
      refine x_step rfl ?_
      refine x_icmpN_eq (β 2 % 128) (2) rfl rfl rfl (fun _ => ?_) (fun q => False.elim (by omega))
      refine x_step rfl ?_
      refine x_callsE rfl (n94 (d := 0) (dK β) hK) rfl rfl ?_
      refine x_if_ne rfl (fun _ => ?_) (fun q => absurd q (by rw [hn]; decide))
      iterate 2 refine x_step rfl ?_
      refine x_callvE rfl (n95 (d := 1) (by omega)) rfl rfl rfl ?_
      refine x_if_ne rfl (fun hon => ?_) (fun hon => ?_)
      · exact key _ rfl
      · have hk8 := ho hon
        iterate 2 refine x_step rfl ?_
        refine x_icmpN_eq (dK β) (269) rfl rfl rfl (fun h269 => ?_) (fun h269 => ?_)
        · exact key _ rfl
        · iterate 2 refine x_step rfl ?_
          refine x_icmpN_eq (dK β) (273) rfl rfl rfl (fun _ => ?_) (fun q => False.elim (by omega))
          exact key _ rfl
/-- Desk.admits -/
theorem n64a (hd : 1 ≤ d) (h : io = 0) : XM l 64 d 0 0 [.ref 97] (cw L xs g tc tf bl bf of oc ol on ml mx mb kc kh kr ka gl gx gb ls lq lk lg lh vf vs vb nv nw nr nq ne io sp ch wt xf xz xt xb xc) (xm_is (some (.int 0)) (cw L xs g tc tf bl bf of oc ol on ml mx mb kc kh kr ka gl gx gb ls lq lk lg lh vf vs vb nv nw nr nq ne io sp ch wt xf xz xt xb xc)) := by
  refine XE (pl := [some (.ref 97)]) xg64 rfl ?_
  iterate 2 refine x_step rfl ?_
  refine x_callvE rfl ((r65 (d := 0) (by rw [h]; rfl)).xm) rfl rfl rfl ?_
  refine x_if_eq rfl (fun _ => ?_) (fun q => absurd h q)
  refine x_step rfl ?_
  exact x_iret rfl rfl rfl ⟨rfl, rfl⟩
/-- Desk.admits -/
theorem n64b (hd : 1 ≤ d) (h : io = 1) (h2 : ¬ gb 0 &&& 128 = 0) : XM l 64 d 0 0 [.ref 97] (cw L xs g tc tf bl bf of oc ol on ml mx mb kc kh kr ka gl gx gb ls lq lk lg lh vf vs vb nv nw nr nq ne io sp ch wt xf xz xt xb xc) (xm_is (some (.int 0)) (cw L xs g tc tf bl bf of oc ol on ml mx mb kc kh kr ka gl gx gb ls lq lk lg lh vf vs vb nv nw nr nq ne io sp ch wt xf xz xt xb xc)) := by
  refine XE (pl := [some (.ref 97)]) xg64 rfl ?_
  iterate 2 refine x_step rfl ?_
  refine x_callvE rfl ((r65 (d := 0) (by rw [h]; rfl)).xm) rfl rfl rfl ?_
  refine x_if_eq rfl (fun q => absurd q (by rw [h]; decide)) (fun _ => ?_)
  iterate 2 refine x_step rfl ?_
  refine x_callvE rfl (m66 (d := 0) rfl rfl) rfl rfl rfl ?_
  refine x_if_eq rfl (fun q => absurd q (by rw [if_neg h2]; decide)) (fun _ => ?_)
  refine x_step rfl ?_
  exact x_iret rfl rfl rfl ⟨rfl, rfl⟩
/-- Desk.admits -/
theorem n64c (hd : 4 ≤ d) (h : io = 1) (h2 : gb 0 &&& 128 = 0) (h3 : ¬ (gb 0 = 0 ∧ gb 1 = 1)) (hi : ¬ 8 ≤ oc → vp_in (of + oc - (of + oc) / 8 * 8) 8) : XM l 64 d 0 0 [.ref 97] (cw L xs g tc tf bl bf of oc ol on ml mx mb kc kh kr ka gl gx gb ls lq lk lg lh vf vs vb nv nw nr nq ne io sp ch wt xf xz xt xb xc) (xm_is (some (.int 0)) (cw L xs g tc tf (nI ([33, 10, gb 0, gb 1, gb 2, gb 3, gb 4, gb 5, gb 6, gb 7, gb 8, gb 9]).length) (xbd bf ([33, 10, gb 0, gb 1, gb 2, gb 3, gb 4, gb 5, gb 6, gb 7, gb 8, gb 9])) of (xoc oc) (xol oc ol) (on + 1 &&& 65535) (xml of oc ml (nI ([33, 10, gb 0, gb 1, gb 2, gb 3, gb 4, gb 5, gb 6, gb 7, gb 8, gb 9]).length)) (xmx of oc mx) (xmb of oc mb (xbd bf ([33, 10, gb 0, gb 1, gb 2, gb 3, gb 4, gb 5, gb 6, gb 7, gb 8, gb 9])) (nI ([33, 10, gb 0, gb 1, gb 2, gb 3, gb 4, gb 5, gb 6, gb 7, gb 8, gb 9]).length) (9) (1) (on + 1 &&& 65535)) kc kh kr ka gl gx gb ls lq lk lg lh vf vs vb nv nw nr nq ne io sp ch wt xf xz xt xb xc)) := by
  refine XE (pl := [some (.ref 97)]) xg64 rfl ?_
  iterate 2 refine x_step rfl ?_
  refine x_callvE rfl ((r65 (d := 0) (by rw [h]; rfl)).xm) rfl rfl rfl ?_
  refine x_if_eq rfl (fun q => absurd q (by rw [h]; decide)) (fun _ => ?_)
  iterate 2 refine x_step rfl ?_
  refine x_callvE rfl (m66 (d := 0) rfl rfl) rfl rfl rfl ?_
  refine x_if_eq rfl (fun _ => ?_) (fun q => absurd (by rw [if_pos h2]) q)
  iterate 2 refine x_step rfl ?_
  refine x_callvE rfl (m67 (d := 0) rfl rfl) rfl rfl rfl ?_
  refine x_if_ne rfl (fun q => absurd (by rw [if_neg h3]) q) (fun _ => ?_)
  iterate 2 refine x_step rfl ?_
  refine x_callvE rfl (n68 (d := 3) 1 (by omega) hi) rfl rfl rfl ?_
  exact x_iret rfl rfl rfl ⟨rfl, rfl⟩
/-- Desk.admits -/
theorem n64d (hd : 4 ≤ d) (h : io = 1) (h2 : gb 0 &&& 128 = 0) (h3 : gb 0 = 0 ∧ gb 1 = 1) (h4 : ¬ (gb 4 = 128 ∧ gb 5 = 1)) (hi : ¬ 8 ≤ oc → vp_in (of + oc - (of + oc) / 8 * 8) 8) : XM l 64 d 0 0 [.ref 97] (cw L xs g tc tf bl bf of oc ol on ml mx mb kc kh kr ka gl gx gb ls lq lk lg lh vf vs vb nv nw nr nq ne io sp ch wt xf xz xt xb xc) (xm_is (some (.int 0)) (cw L xs g tc tf (nI ([33, 10, gb 0, gb 1, gb 2, gb 3, gb 4, gb 5, gb 6, gb 7, gb 8, gb 9]).length) (xbd bf ([33, 10, gb 0, gb 1, gb 2, gb 3, gb 4, gb 5, gb 6, gb 7, gb 8, gb 9])) of (xoc oc) (xol oc ol) (on + 1 &&& 65535) (xml of oc ml (nI ([33, 10, gb 0, gb 1, gb 2, gb 3, gb 4, gb 5, gb 6, gb 7, gb 8, gb 9]).length)) (xmx of oc mx) (xmb of oc mb (xbd bf ([33, 10, gb 0, gb 1, gb 2, gb 3, gb 4, gb 5, gb 6, gb 7, gb 8, gb 9])) (nI ([33, 10, gb 0, gb 1, gb 2, gb 3, gb 4, gb 5, gb 6, gb 7, gb 8, gb 9]).length) (9) (11) (on + 1 &&& 65535)) kc kh kr ka gl gx gb ls lq lk lg lh vf vs vb nv nw nr nq ne io sp ch wt xf xz xt xb xc)) := by
  refine XE (pl := [some (.ref 97)]) xg64 rfl ?_
  iterate 2 refine x_step rfl ?_
  refine x_callvE rfl ((r65 (d := 0) (by rw [h]; rfl)).xm) rfl rfl rfl ?_
  refine x_if_eq rfl (fun q => absurd q (by rw [h]; decide)) (fun _ => ?_)
  iterate 2 refine x_step rfl ?_
  refine x_callvE rfl (m66 (d := 0) rfl rfl) rfl rfl rfl ?_
  refine x_if_eq rfl (fun _ => ?_) (fun q => absurd (by rw [if_pos h2]) q)
  iterate 2 refine x_step rfl ?_
  refine x_callvE rfl (m67 (d := 0) rfl rfl) rfl rfl rfl ?_
  refine x_if_ne rfl (fun _ => ?_) (fun q => absurd q (by rw [if_pos h3]; decide))
  iterate 2 refine x_step rfl ?_
  refine x_callvE rfl (m71 (d := 0) rfl rfl) rfl rfl rfl ?_
  refine x_if_ne rfl (fun q => absurd (by rw [if_neg h4]) q) (fun _ => ?_)
  iterate 2 refine x_step rfl ?_
  refine x_callvE rfl (n68 (d := 3) 11 (by omega) hi) rfl rfl rfl ?_
  exact x_iret rfl rfl rfl ⟨rfl, rfl⟩
/-- Desk.admits: an answer -/
theorem n64e {Q : Option Value → xm_H → Prop} {dd : Nat} (hg : ∀ i, i < 130 → gb i = nI (β i)) (hβ : ∀ i, β i < 256) (hd : 1 ≤ d) (h : io = 1) (h2 : gb 0 &&& 128 = 0) (h3 : gb 0 = 0 ∧ gb 1 = 1) (h4 : gb 4 = 128 ∧ gb 5 = 1) (h5 : β 3 % 2 = 0) (hdd : dd < d) (hM : XM l 73 dd 0 0 [.ref 97] (cw L xs g tc tf bl bf of oc ol on ml mx mb kc kh kr ka gl gx gb ls lq lk lg lh vf vs vb nv nw nr nq ne io sp ch wt xf xz xt xb xc) (fun v h => v = none ∧ Q (some (.int 0)) h)) : XM l 64 d 0 0 [.ref 97] (cw L xs g tc tf bl bf of oc ol on ml mx mb kc kh kr ka gl gx gb ls lq lk lg lh vf vs vb nv nw nr nq ne io sp ch wt xf xz xt xb xc) Q := by
  have hb := hβ 3
  refine XEq (pl := [some (.ref 97)]) xg64 rfl ?_
  iterate 2 refine x_step rfl ?_
  refine x_callvE rfl ((r65 (d := 0) (by rw [h]; rfl)).xm) rfl rfl rfl ?_
  refine x_if_eq rfl (fun q => absurd q (by rw [h]; decide)) (fun _ => ?_)
  iterate 2 refine x_step rfl ?_
  refine x_callvE rfl (m66 (d := 0) rfl rfl) rfl rfl rfl ?_
  refine x_if_eq rfl (fun _ => ?_) (fun q => absurd (by rw [if_pos h2]) q)
  iterate 2 refine x_step rfl ?_
  refine x_callvE rfl (m67 (d := 0) rfl rfl) rfl rfl rfl ?_
  refine x_if_ne rfl (fun _ => ?_) (fun q => absurd q (by rw [if_pos h3]; decide))
  iterate 2 refine x_step rfl ?_
  refine x_callvE rfl (m71 (d := 0) rfl rfl) rfl rfl rfl ?_
  refine x_if_ne rfl (fun _ => ?_) (fun q => absurd q (by rw [if_pos h4]; decide))
  iterate 2 refine x_step rfl ?_
  refine x_callvE rfl (m72 (d := 0) rfl rfl) rfl rfl rfl ?_
  refine x_step rfl ?_
  refine x_iremN (β 3) (2) rfl (hg 3 (by decide)) rfl ?_
  refine x_ifN_ne (β 3 % 2) rfl rfl (fun q => False.elim (by omega)) (fun _ => ?_)
  refine x_step rfl ?_
  refine x_callv (a := 97) (as := []) (rest := []) rfl (by decide) hM hdd (Nat.zero_le _) (Nat.zero_le _) rfl rfl (by decide) rfl rfl ?_
  rintro v h9 ⟨rfl, hQ⟩
  refine x_step rfl ?_
  exact x_iret rfl rfl rfl hQ
/-- Desk.admits: a request -/
theorem n64f {Q : Option Value → xm_H → Prop} {dd : Nat} (hg : ∀ i, i < 130 → gb i = nI (β i)) (hβ : ∀ i, β i < 256) (hd : 1 ≤ d) (h : io = 1) (h2 : gb 0 &&& 128 = 0) (h3 : gb 0 = 0 ∧ gb 1 = 1) (h4 : gb 4 = 128 ∧ gb 5 = 1) (h5 : β 3 % 2 = 1) (hdd : dd < d) (hM : XM l 91 dd 0 0 [.ref 97] (cw L xs g tc tf bl bf of oc ol on ml mx mb kc kh kr ka gl gx gb ls lq lk lg lh vf vs vb nv nw nr nq ne io sp ch wt xf xz xt xb xc) (fun v h => (v = some (.int 0) ∨ v = some (.int 1)) ∧ Q v h)) : XM l 64 d 0 0 [.ref 97] (cw L xs g tc tf bl bf of oc ol on ml mx mb kc kh kr ka gl gx gb ls lq lk lg lh vf vs vb nv nw nr nq ne io sp ch wt xf xz xt xb xc) Q := by
  have hb := hβ 3
  refine XEq (pl := [some (.ref 97)]) xg64 rfl ?_
  iterate 2 refine x_step rfl ?_
  refine x_callvE rfl ((r65 (d := 0) (by rw [h]; rfl)).xm) rfl rfl rfl ?_
  refine x_if_eq rfl (fun q => absurd q (by rw [h]; decide)) (fun _ => ?_)
  iterate 2 refine x_step rfl ?_
  refine x_callvE rfl (m66 (d := 0) rfl rfl) rfl rfl rfl ?_
  refine x_if_eq rfl (fun _ => ?_) (fun q => absurd (by rw [if_pos h2]) q)
  iterate 2 refine x_step rfl ?_
  refine x_callvE rfl (m67 (d := 0) rfl rfl) rfl rfl rfl ?_
  refine x_if_ne rfl (fun _ => ?_) (fun q => absurd q (by rw [if_pos h3]; decide))
  iterate 2 refine x_step rfl ?_
  refine x_callvE rfl (m71 (d := 0) rfl rfl) rfl rfl rfl ?_
  refine x_if_ne rfl (fun _ => ?_) (fun q => absurd q (by rw [if_pos h4]; decide))
  iterate 2 refine x_step rfl ?_
  refine x_callvE rfl (m72 (d := 0) rfl rfl) rfl rfl rfl ?_
  refine x_step rfl ?_
  refine x_iremN (β 3) (2) rfl (hg 3 (by decide)) rfl ?_
  refine x_ifN_ne (β 3 % 2) rfl rfl (fun _ => ?_) (fun q => False.elim (by omega))
  refine x_step rfl ?_
  refine x_callv (a := 97) (as := []) (rest := []) rfl (by decide) hM hdd (Nat.zero_le _) (Nat.zero_le _) rfl rfl (by decide) rfl rfl ?_
  rintro v h9 ⟨rfl | rfl, hQ⟩
  · exact x_iret rfl rfl rfl hQ
  exact x_iret rfl rfl rfl hQ
end EC11
