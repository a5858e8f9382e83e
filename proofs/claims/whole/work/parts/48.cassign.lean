section EC8
variable {l : Launch} {d L : Nat} {xs : Nat → Int32} {g : xm_H} {tc : Int32} {tf : (Nat → Int32)} {bl : Int32} {bf : (Nat → Int32)} {of : Int32} {oc : Int32} {ol : Int32} {on : Int32} {ml : (Nat → Int32)} {mx : (Nat → Int32)} {mb : (Nat → Nat → Int32)} {kc : Int32} {kh : (Nat → Nat)} {kr : (Nat → Nat → Int32)} {ka : (Nat → Int32)} {gl : Int32} {gx : Int32} {gb : (Nat → Int32)} {ls : Int32} {lq : Int32} {lk : Int32} {lg : Int32} {lh : Int32} {vf : (Nat → Int32)} {vs : (Nat → Int32)} {vb : (Nat → Nat → Int32)} {nv : (Nat → Int32)} {nw : (Nat → Nat → Int32)} {nr : (Nat → Int32)} {nq : (Nat → Nat → Int32)} {ne : (Nat → Int32)} {io : Int32} {sp : Int32} {ch : Int32} {wt : Int32} {xf : (Nat → Int32)} {xz : (Nat → Int32)} {xt : (Nat → Int32)} {xb : (Nat → Int32)} {xc : Int32}
variable {β : Nat → Nat} {e : Nat} {ps : List (Nat × Nat)}
theorem xvr_z {v : Nat} (h : 6 ≤ v) (h2 : v < 2 ^ 30) : xvr (nI v) = 0 := by
  unfold xvr
  rw [if_neg (nI_pos (by omega)), if_pos (show 6 ≤ nI v from nI_le (a := 6) h (by omega))]
theorem xev_z {v : Nat} (h : v < 1 ∨ 5 < v) (h2 : v < 2 ^ 30) : xev (nI v) = 0 := by
  unfold xev
  by_cases h1 : v < 1
  · rw [if_pos (show nI v < 1 from nI_lt (b := 1) h1 (by decide))]
  · rw [if_neg (show ¬ nI v < 1 from nI_nlt (b := 1) (by omega) (by omega)), if_pos (show 5 < nI v from nI_lt (a := 5) (by omega) (by omega))]
theorem xrp_z {v : Nat} (h : v < 1 ∨ 4 < v) (h2 : v < 2 ^ 30) : xrp (nI v) = 0 := by
  unfold xrp
  by_cases h1 : v < 1
  · rw [if_pos (show nI v < 1 from nI_lt (b := 1) h1 (by decide))]
  · rw [if_neg (show ¬ nI v < 1 from nI_nlt (b := 1) (by omega) (by omega)), if_pos (show 4 < nI v from nI_lt (a := 4) (by omega) (by omega))]
theorem pY_lt (hβ : ∀ i, β i < 256) (i k : Nat) : pY β ps i k < 256 := by
  unfold pY
  split
  · exact hβ _
  · decide
theorem itV_of : ∀ D p ps q, itR β e D p = some (ps, q) → e ≤ 130 → ∀ i r, ps[i]? = some r → itT β r.1 ≤ 130 ∧ i + r.2 ≤ ps.length := by
  have leaf : ∀ p ps q, itT β p ≤ e → e ≤ 130 → itLeaf β e p = some (ps, q) → ∀ i r, ps[i]? = some r → itT β r.1 ≤ 130 ∧ i + r.2 ≤ ps.length := by
    intro p ps q hT he h i r hr
    obtain ⟨rfl, rfl, h3⟩ := itLeaf_some h
    cases i with
    | zero => cases hr; exact ⟨Nat.le_trans hT he, Nat.le_refl _⟩
    | succ i => cases hr
  intro D
  induction D with
  | zero =>
    intro p ps q h he
    rw [itR] at h
    split at h
    next hc =>
      split at h
      · cases h
      · exact leaf p ps q hc.2.2 he h
    next => cases h
  | succ D ih =>
    intro p ps q h he
    have seq : ∀ m q0 ps r0, itI (itR β e D) m q0 = some (ps, r0) → ∀ i r, ps[i]? = some r → itT β r.1 ≤ 130 ∧ i + r.2 ≤ ps.length := by
      intro m
      induction m with
      | zero =>
        intro q0 ps r0 h i r hr
        cases h
        cases hr
      | succ m ih2 =>
        intro q0 ps r0 h i r hr
        rw [itI] at h
        cases h1 : itR β e D q0 with
        | none => rw [h1] at h; cases h
        | some a =>
          rw [h1] at h
          cases h2 : itI (itR β e D) m a.2 with
          | none => simp [h2] at h
          | some b =>
            simp [h2] at h
            obtain ⟨rfl, rfl⟩ := h
            rw [List.length_append]
            by_cases hi : i < a.1.length
            · rw [List.getElem?_append_left hi] at hr
              have := ih q0 a.1 a.2 h1 he i r hr
              exact ⟨this.1, by omega⟩
            · rw [List.getElem?_append_right (by omega)] at hr
              have := ih2 a.2 b.1 b.2 h2 _ r hr
              exact ⟨this.1, by omega⟩
    rw [itR] at h
    split at h
    next hc =>
      split at h
      · cases h2 : itI (itR β e D) (itS β p) (itT β p) with
        | none => simp [h2] at h
        | some a =>
          simp [h2] at h
          obtain ⟨rfl, rfl⟩ := h
          intro i r hr
          cases i with
          | zero => cases hr; exact ⟨Nat.le_trans hc.2.2 he, by simp; omega⟩
          | succ i =>
            have := seq _ _ _ _ h2 i r hr
            exact ⟨this.1, by simp; omega⟩
      · exact leaf p ps q hc.2.2 he h
    next => cases h
theorem itV_all {q : Nat} (h : itR β e 6 10 = some (ps, q)) (he : e ≤ 130) : itV β ps := by
  have h1 := itR_len 6 10 ps q h
  exact ⟨by omega, itV_of 6 10 ps q h he⟩
/-- the whole body is one item -/
def itB (β : Nat → Nat) (e : Nat) : Option (List (Nat × Nat)) := match itR β e 6 10 with
  | none => none
  | some (ps, q) => if q = e then some ps else none
/-- Items.read -/
theorem n78 (hg : ∀ i, i < 130 → gb i = nI (β i)) (hβ : ∀ i, β i < 256) (he : e ≤ 130) (hd : 16 ≤ d) : XM l 78 d 0 0 [.ref 98] (cw L xs g tc tf bl bf of oc ol on ml mx mb kc kh kr ka (nI e) gx gb ls lq lk lg lh vf vs vb nv nw nr nq ne io sp ch wt xf xz xt xb xc) (fun v h => ∃ (xf' xz' xt' xb' : Nat → Int32) (xc' : Int32), h = (cw L xs g tc tf bl bf of oc ol on ml mx mb kc kh kr ka (nI e) gx gb ls lq lk lg lh vf vs vb nv nw nr nq ne io sp ch wt (xf') (xz') (xt') (xb') (xc')) ∧ ((itB β e = none ∧ v = some (.int 0)) ∨ ∃ ps, itB β e = some ps ∧ v = some (.int 1) ∧ xc' = nI ps.length ∧ itA β xf' xz' xt' xb' 0 ps)) := by
  refine XEq (pl := [some (.ref 98)]) xg78 rfl ?_
  iterate 6 refine x_step rfl ?_
  refine xm_hs (hp' := (cw L xs g tc tf bl bf of oc ol on ml mx mb kc kh kr ka (nI e) gx gb ls lq lk lg lh vf vs vb nv nw nr nq ne io sp ch wt xf xz xt xb (nI 0))) rfl ?_
  refine x_callv (a := 98) (as := [.int (nI 10), .int (nI (6 - 6))]) (rest := []) rfl (by decide) (n79 hg hβ he 6 (by decide) 10 0 xf xz xt xb (by decide) (by decide)) (by omega) (Nat.zero_le _) (Nat.zero_le _) rfl rfl (by decide) rfl rfl ?_
  rintro v h ⟨xf', xz', xt', xb', xc', rfl, hP⟩
  iterate 2 refine x_step rfl ?_
  rcases hP with ⟨h1, rfl⟩ | ⟨ps, q, h1, rfl, rfl, g1, g2, g3, g4, hA⟩
  · have hn : itB β e = none := by unfold itB; rw [h1]
    refine x_callvE rfl (m51 (d := 0) rfl) rfl rfl rfl ?_
    refine x_icmp_ne rfl (fun _ => ?_) (fun q => absurd q.symm (nI_ne_m1 (by omega)))
    refine x_step rfl ?_
    exact x_iret rfl rfl rfl ⟨xf', xz', xt', xb', xc', rfl, Or.inl ⟨hn, rfl⟩⟩
  · have hl := itR_len 6 10 ps q h1
    refine x_callvE rfl (m51 (d := 0) rfl) rfl rfl rfl ?_
    refine x_icmpN_ne q e rfl rfl rfl (fun hq => ?_) (fun hq => ?_)
    · have hn : itB β e = none := by unfold itB; rw [h1]; exact if_neg hq
      refine x_step rfl ?_
      exact x_iret rfl rfl rfl ⟨xf', xz', xt', xb', _, rfl, Or.inl ⟨hn, rfl⟩⟩
    · have hn : itB β e = some ps := by unfold itB; rw [h1]; exact if_pos hq
      iterate 2 refine x_step rfl ?_
      exact x_iret rfl rfl rfl ⟨xf', xz', xt', xb', _, rfl, Or.inr ⟨ps, hn, rfl, by rw [Nat.zero_add], hA⟩⟩
def pEq (β : Nat → Nat) (ps : List (Nat × Nat)) (i : Nat) : List Nat → Nat → Bool
  | [], _ => true
  | c :: t, k => pY β ps i k == c && pEq β ps i t (k + 1)
def pTx (β : Nat → Nat) (ps : List (Nat × Nat)) (i : Nat) (t : List Nat) : Bool := (pF β ps i == 16 && pS β ps i == t.length) && pEq β ps i t 0
/-- Items.isText -/
theorem n141a (hg : ∀ i, i < 130 → gb i = nI (β i)) (hβ : ∀ i, β i < 256) (hA : itA β xf xz xt xb 0 ps) (hV : itV β ps) (hd : 5 ≤ d) : XM l 141 d 0 0 [.ref 98, .int 1, .ref 4] (cw L xs g tc tf bl bf of oc ol on ml mx mb kc kh kr ka gl gx gb ls lq lk lg lh vf vs vb nv nw nr nq ne io sp ch wt xf xz xt xb (nI ps.length)) (xm_is (some (.int (bI (pTx β ps 1 [83, 84, 65, 82, 84])))) (cw L xs g tc tf bl bf of oc ol on ml mx mb kc kh kr ka gl gx gb ls lq lk lg lh vf vs vb nv nw nr nq ne io sp ch wt xf xz xt xb (nI ps.length))) := by
  refine XE (pl := [some (.ref 98), some (.int 1), some (.ref 4), none, none]) xg141 rfl ?_
  iterate 2 refine x_step rfl ?_
  refine x_callvE rfl (n107 (d := 0) hβ hA hV 1 (by decide)) rfl rfl rfl ?_
  refine x_step rfl ?_
  refine x_icmp_ne rfl (fun h2 => ?_) (fun h2 => ?_)
  · have h16 : (pF β ps 1 == 16) = false := pF16n hβ h2
    iterate 4 refine x_step rfl ?_
    refine xm_ls (pl' := [some (.ref 98), some (.int (nI 1)), some (.ref 4), some (.int 0), some (.int 0)]) rfl ?_
    iterate 2 refine x_step rfl ?_
    refine x_strlen (n := 3) rfl rfl rfl ?_
    refine x_icmp_ge rfl (fun q => absurd q (by decide)) (fun _ => ?_)
    refine x_step rfl ?_
    refine x_if_eq rfl (fun _ => ?_) (fun q => absurd (by decide) q)
    refine x_step rfl ?_
    exact x_iret rfl rfl rfl ⟨by rw [show pTx β ps 1 [83, 84, 65, 82, 84] = false from by rw [pTx, h16]; rfl]; rfl, rfl⟩
  · have h16 : pF β ps 1 = 16 := by simpa using pF16y hβ h2
    have hs2 := pS_lt (ps := ps) hβ 1
    iterate 2 refine x_step rfl ?_
    refine x_callvE rfl (n86 (d := 0) hβ hA hV 1 (by decide)) rfl rfl rfl ?_
    refine x_step rfl ?_
    refine x_strlen (n := 3) rfl rfl rfl ?_
    refine x_icmpN_ne (pS β ps 1) (5) rfl rfl rfl (fun hs => ?_) (fun hs => ?_)
    · iterate 4 refine x_step rfl ?_
      refine xm_ls (pl' := [some (.ref 98), some (.int (nI 1)), some (.ref 4), some (.int 0), some (.int 0)]) rfl ?_
      iterate 2 refine x_step rfl ?_
      refine x_strlen (n := 3) rfl rfl rfl ?_
      refine x_icmp_ge rfl (fun q => absurd q (by decide)) (fun _ => ?_)
      refine x_step rfl ?_
      refine x_if_eq rfl (fun _ => ?_) (fun q => absurd (by decide) q)
      refine x_step rfl ?_
      exact x_iret rfl rfl rfl ⟨by rw [show pTx β ps 1 [83, 84, 65, 82, 84] = false from by simp [pTx, hs]]; rfl, rfl⟩
    · iterate 5 refine x_step rfl ?_
      refine xm_ls (pl' := [some (.ref 98), some (.int (nI 1)), some (.ref 4), some (.int 1), some (.int 0)]) rfl ?_
      iterate 2 refine x_step rfl ?_
      refine x_strlen (n := 3) rfl rfl rfl ?_
      refine x_icmp_ge rfl (fun q => absurd q (by decide)) (fun _ => ?_)
      refine x_step rfl ?_
      refine x_if_eq rfl (fun q => absurd q (by decide)) (fun _ => ?_)
      have hy0 := pY_lt (ps := ps) hβ 1 0
      iterate 3 refine x_step rfl ?_
      refine x_callvE rfl (n88 (d := 1) hg hβ hA hV 1 (by decide) 0 (by decide) (by omega)) rfl rfl rfl ?_
      iterate 2 refine x_step rfl ?_
      refine x_charAt (n := 3) (i := 0) (b' := 83) rfl rfl rfl (by decide) rfl rfl ?_
      refine x_icmpN_ne (pY β ps 1 0) (83) rfl rfl rfl (fun hc0 => ?_) (fun hc0 => ?_)
      · iterate 4 refine x_step rfl ?_
        refine xm_ls (pl' := [some (.ref 98), some (.int (nI 1)), some (.ref 4), some (.int 0), some (.int 1)]) rfl ?_
        iterate 2 refine x_step rfl ?_
        refine x_strlen (n := 3) rfl rfl rfl ?_
        refine x_icmp_ge rfl (fun q => absurd q (by decide)) (fun _ => ?_)
        refine x_step rfl ?_
        refine x_if_eq rfl (fun _ => ?_) (fun q => absurd (by decide) q)
        refine x_step rfl ?_
        exact x_iret rfl rfl rfl ⟨by rw [show pTx β ps 1 [83, 84, 65, 82, 84] = false from by simp [pTx, pEq, hc0]]; rfl, rfl⟩
      · iterate 5 refine x_step rfl ?_
        refine xm_ls (pl' := [some (.ref 98), some (.int (nI 1)), some (.ref 4), some (.int 1), some (.int 1)]) rfl ?_
        iterate 2 refine x_step rfl ?_
        refine x_strlen (n := 3) rfl rfl rfl ?_
        refine x_icmp_ge rfl (fun q => absurd q (by decide)) (fun _ => ?_)
        refine x_step rfl ?_
        refine x_if_eq rfl (fun q => absurd q (by decide)) (fun _ => ?_)
        have hy1 := pY_lt (ps := ps) hβ 1 1
        iterate 3 refine x_step rfl ?_
        refine x_callvE rfl (n88 (d := 1) hg hβ hA hV 1 (by decide) 1 (by decide) (by omega)) rfl rfl rfl ?_
        iterate 2 refine x_step rfl ?_
        refine x_charAt (n := 3) (i := 1) (b' := 84) rfl rfl rfl (by decide) rfl rfl ?_
        refine x_icmpN_ne (pY β ps 1 1) (84) rfl rfl rfl (fun hc1 => ?_) (fun hc1 => ?_)
        · iterate 4 refine x_step rfl ?_
          refine xm_ls (pl' := [some (.ref 98), some (.int (nI 1)), some (.ref 4), some (.int 0), some (.int 2)]) rfl ?_
          iterate 2 refine x_step rfl ?_
          refine x_strlen (n := 3) rfl rfl rfl ?_
          refine x_icmp_ge rfl (fun q => absurd q (by decide)) (fun _ => ?_)
          refine x_step rfl ?_
          refine x_if_eq rfl (fun _ => ?_) (fun q => absurd (by decide) q)
          refine x_step rfl ?_
          exact x_iret rfl rfl rfl ⟨by rw [show pTx β ps 1 [83, 84, 65, 82, 84] = false from by simp [pTx, pEq, hc1]]; rfl, rfl⟩
        · iterate 5 refine x_step rfl ?_
          refine xm_ls (pl' := [some (.ref 98), some (.int (nI 1)), some (.ref 4), some (.int 1), some (.int 2)]) rfl ?_
          iterate 2 refine x_step rfl ?_
          refine x_strlen (n := 3) rfl rfl rfl ?_
          refine x_icmp_ge rfl (fun q => absurd q (by decide)) (fun _ => ?_)
          refine x_step rfl ?_
          refine x_if_eq rfl (fun q => absurd q (by decide)) (fun _ => ?_)
          have hy2 := pY_lt (ps := ps) hβ 1 2
          iterate 3 refine x_step rfl ?_
          refine x_callvE rfl (n88 (d := 1) hg hβ hA hV 1 (by decide) 2 (by decide) (by omega)) rfl rfl rfl ?_
          iterate 2 refine x_step rfl ?_
          refine x_charAt (n := 3) (i := 2) (b' := 65) rfl rfl rfl (by decide) rfl rfl ?_
          refine x_icmpN_ne (pY β ps 1 2) (65) rfl rfl rfl (fun hc2 => ?_) (fun hc2 => ?_)
          · iterate 4 refine x_step rfl ?_
            refine xm_ls (pl' := [some (.ref 98), some (.int (nI 1)), some (.ref 4), some (.int 0), some (.int 3)]) rfl ?_
            iterate 2 refine x_step rfl ?_
            refine x_strlen (n := 3) rfl rfl rfl ?_
            refine x_icmp_ge rfl (fun q => absurd q (by decide)) (fun _ => ?_)
            refine x_step rfl ?_
            refine x_if_eq rfl (fun _ => ?_) (fun q => absurd (by decide) q)
            refine x_step rfl ?_
            exact x_iret rfl rfl rfl ⟨by rw [show pTx β ps 1 [83, 84, 65, 82, 84] = false from by simp [pTx, pEq, hc2]]; rfl, rfl⟩
          · iterate 5 refine x_step rfl ?_
            refine xm_ls (pl' := [some (.ref 98), some (.int (nI 1)), some (.ref 4), some (.int 1), some (.int 3)]) rfl ?_
            iterate 2 refine x_step rfl ?_
            refine x_strlen (n := 3) rfl rfl rfl ?_
            refine x_icmp_ge rfl (fun q => absurd q (by decide)) (fun _ => ?_)
            refine x_step rfl ?_
            refine x_if_eq rfl (fun q => absurd q (by decide)) (fun _ => ?_)
            have hy3 := pY_lt (ps := ps) hβ 1 3
            iterate 3 refine x_step rfl ?_
            refine x_callvE rfl (n88 (d := 1) hg hβ hA hV 1 (by decide) 3 (by decide) (by omega)) rfl rfl rfl ?_
            iterate 2 refine x_step rfl ?_
            refine x_charAt (n := 3) (i := 3) (b' := 82) rfl rfl rfl (by decide) rfl rfl ?_
            refine x_icmpN_ne (pY β ps 1 3) (82) rfl rfl rfl (fun hc3 => ?_) (fun hc3 => ?_)
            · iterate 4 refine x_step rfl ?_
              refine xm_ls (pl' := [some (.ref 98), some (.int (nI 1)), some (.ref 4), some (.int 0), some (.int 4)]) rfl ?_
              iterate 2 refine x_step rfl ?_
              refine x_strlen (n := 3) rfl rfl rfl ?_
              refine x_icmp_ge rfl (fun q => absurd q (by decide)) (fun _ => ?_)
              refine x_step rfl ?_
              refine x_if_eq rfl (fun _ => ?_) (fun q => absurd (by decide) q)
              refine x_step rfl ?_
              exact x_iret rfl rfl rfl ⟨by rw [show pTx β ps 1 [83, 84, 65, 82, 84] = false from by simp [pTx, pEq, hc3]]; rfl, rfl⟩
            · iterate 5 refine x_step rfl ?_
              refine xm_ls (pl' := [some (.ref 98), some (.int (nI 1)), some (.ref 4), some (.int 1), some (.int 4)]) rfl ?_
              iterate 2 refine x_step rfl ?_
              refine x_strlen (n := 3) rfl rfl rfl ?_
              refine x_icmp_ge rfl (fun q => absurd q (by decide)) (fun _ => ?_)
              refine x_step rfl ?_
              refine x_if_eq rfl (fun q => absurd q (by decide)) (fun _ => ?_)
              have hy4 := pY_lt (ps := ps) hβ 1 4
              iterate 3 refine x_step rfl ?_
              refine x_callvE rfl (n88 (d := 1) hg hβ hA hV 1 (by decide) 4 (by decide) (by omega)) rfl rfl rfl ?_
              iterate 2 refine x_step rfl ?_
              refine x_charAt (n := 3) (i := 4) (b' := 84) rfl rfl rfl (by decide) rfl rfl ?_
              refine x_icmpN_ne (pY β ps 1 4) (84) rfl rfl rfl (fun hc4 => ?_) (fun hc4 => ?_)
              · iterate 4 refine x_step rfl ?_
                refine xm_ls (pl' := [some (.ref 98), some (.int (nI 1)), some (.ref 4), some (.int 0), some (.int 5)]) rfl ?_
                iterate 2 refine x_step rfl ?_
                refine x_strlen (n := 3) rfl rfl rfl ?_
                refine x_icmp_ge rfl (fun _ => ?_) (fun q => absurd (by decide) q)
                refine x_step rfl ?_
                exact x_iret rfl rfl rfl ⟨by rw [show pTx β ps 1 [83, 84, 65, 82, 84] = false from by simp [pTx, pEq, hc4]]; rfl, rfl⟩
              · iterate 5 refine x_step rfl ?_
                refine xm_ls (pl' := [some (.ref 98), some (.int (nI 1)), some (.ref 4), some (.int 1), some (.int 5)]) rfl ?_
                iterate 2 refine x_step rfl ?_
                refine x_strlen (n := 3) rfl rfl rfl ?_
                refine x_icmp_ge rfl (fun _ => ?_) (fun q => absurd (by decide) q)
                refine x_step rfl ?_
                exact x_iret rfl rfl rfl ⟨by rw [show pTx β ps 1 [83, 84, 65, 82, 84] = true from by simp [pTx, pEq, h16, hs, hc0, hc1, hc2, hc3, hc4]]; rfl, rfl⟩
/-- Items.isText -/
theorem n141b (hg : ∀ i, i < 130 → gb i = nI (β i)) (hβ : ∀ i, β i < 256) (hA : itA β xf xz xt xb 0 ps) (hV : itV β ps) (hd : 5 ≤ d) : XM l 141 d 0 0 [.ref 98, .int 1, .ref 5] (cw L xs g tc tf bl bf of oc ol on ml mx mb kc kh kr ka gl gx gb ls lq lk lg lh vf vs vb nv nw nr nq ne io sp ch wt xf xz xt xb (nI ps.length)) (xm_is (some (.int (bI (pTx β ps 1 [83, 84, 79, 80])))) (cw L xs g tc tf bl bf of oc ol on ml mx mb kc kh kr ka gl gx gb ls lq lk lg lh vf vs vb nv nw nr nq ne io sp ch wt xf xz xt xb (nI ps.length))) := by
  refine XE (pl := [some (.ref 98), some (.int 1), some (.ref 5), none, none]) xg141 rfl ?_
  iterate 2 refine x_step rfl ?_
  refine x_callvE rfl (n107 (d := 0) hβ hA hV 1 (by decide)) rfl rfl rfl ?_
  refine x_step rfl ?_
  refine x_icmp_ne rfl (fun h2 => ?_) (fun h2 => ?_)
  · have h16 : (pF β ps 1 == 16) = false := pF16n hβ h2
    iterate 4 refine x_step rfl ?_
    refine xm_ls (pl' := [some (.ref 98), some (.int (nI 1)), some (.ref 5), some (.int 0), some (.int 0)]) rfl ?_
    iterate 2 refine x_step rfl ?_
    refine x_strlen (n := 4) rfl rfl rfl ?_
    refine x_icmp_ge rfl (fun q => absurd q (by decide)) (fun _ => ?_)
    refine x_step rfl ?_
    refine x_if_eq rfl (fun _ => ?_) (fun q => absurd (by decide) q)
    refine x_step rfl ?_
    exact x_iret rfl rfl rfl ⟨by rw [show pTx β ps 1 [83, 84, 79, 80] = false from by rw [pTx, h16]; rfl]; rfl, rfl⟩
  · have h16 : pF β ps 1 = 16 := by simpa using pF16y hβ h2
    have hs2 := pS_lt (ps := ps) hβ 1
    iterate 2 refine x_step rfl ?_
    refine x_callvE rfl (n86 (d := 0) hβ hA hV 1 (by decide)) rfl rfl rfl ?_
    refine x_step rfl ?_
    refine x_strlen (n := 4) rfl rfl rfl ?_
    refine x_icmpN_ne (pS β ps 1) (4) rfl rfl rfl (fun hs => ?_) (fun hs => ?_)
    · iterate 4 refine x_step rfl ?_
      refine xm_ls (pl' := [some (.ref 98), some (.int (nI 1)), some (.ref 5), some (.int 0), some (.int 0)]) rfl ?_
      iterate 2 refine x_step rfl ?_
      refine x_strlen (n := 4) rfl rfl rfl ?_
      refine x_icmp_ge rfl (fun q => absurd q (by decide)) (fun _ => ?_)
      refine x_step rfl ?_
      refine x_if_eq rfl (fun _ => ?_) (fun q => absurd (by decide) q)
      refine x_step rfl ?_
      exact x_iret rfl rfl rfl ⟨by rw [show pTx β ps 1 [83, 84, 79, 80] = false from by simp [pTx, hs]]; rfl, rfl⟩
    · iterate 5 refine x_step rfl ?_
      refine xm_ls (pl' := [some (.ref 98), some (.int (nI 1)), some (.ref 5), some (.int 1), some (.int 0)]) rfl ?_
      iterate 2 refine x_step rfl ?_
      refine x_strlen (n := 4) rfl rfl rfl ?_
      refine x_icmp_ge rfl (fun q => absurd q (by decide)) (fun _ => ?_)
      refine x_step rfl ?_
      refine x_if_eq rfl (fun q => absurd q (by decide)) (fun _ => ?_)
      have hy0 := pY_lt (ps := ps) hβ 1 0
      iterate 3 refine x_step rfl ?_
      refine x_callvE rfl (n88 (d := 1) hg hβ hA hV 1 (by decide) 0 (by decide) (by omega)) rfl rfl rfl ?_
      iterate 2 refine x_step rfl ?_
      refine x_charAt (n := 4) (i := 0) (b' := 83) rfl rfl rfl (by decide) rfl rfl ?_
      refine x_icmpN_ne (pY β ps 1 0) (83) rfl rfl rfl (fun hc0 => ?_) (fun hc0 => ?_)
      · iterate 4 refine x_step rfl ?_
        refine xm_ls (pl' := [some (.ref 98), some (.int (nI 1)), some (.ref 5), some (.int 0), some (.int 1)]) rfl ?_
        iterate 2 refine x_step rfl ?_
        refine x_strlen (n := 4) rfl rfl rfl ?_
        refine x_icmp_ge rfl (fun q => absurd q (by decide)) (fun _ => ?_)
        refine x_step rfl ?_
        refine x_if_eq rfl (fun _ => ?_) (fun q => absurd (by decide) q)
        refine x_step rfl ?_
        exact x_iret rfl rfl rfl ⟨by rw [show pTx β ps 1 [83, 84, 79, 80] = false from by simp [pTx, pEq, hc0]]; rfl, rfl⟩
      · iterate 5 refine x_step rfl ?_
        refine xm_ls (pl' := [some (.ref 98), some (.int (nI 1)), some (.ref 5), some (.int 1), some (.int 1)]) rfl ?_
        iterate 2 refine x_step rfl ?_
        refine x_strlen (n := 4) rfl rfl rfl ?_
        refine x_icmp_ge rfl (fun q => absurd q (by decide)) (fun _ => ?_)
        refine x_step rfl ?_
        refine x_if_eq rfl (fun q => absurd q (by decide)) (fun _ => ?_)
        have hy1 := pY_lt (ps := ps) hβ 1 1
        iterate 3 refine x_step rfl ?_
        refine x_callvE rfl (n88 (d := 1) hg hβ hA hV 1 (by decide) 1 (by decide) (by omega)) rfl rfl rfl ?_
        iterate 2 refine x_step rfl ?_
        refine x_charAt (n := 4) (i := 1) (b' := 84) rfl rfl rfl (by decide) rfl rfl ?_
        refine x_icmpN_ne (pY β ps 1 1) (84) rfl rfl rfl (fun hc1 => ?_) (fun hc1 => ?_)
        · iterate 4 refine x_step rfl ?_
          refine xm_ls (pl' := [some (.ref 98), some (.int (nI 1)), some (.ref 5), some (.int 0), some (.int 2)]) rfl ?_
          iterate 2 refine x_step rfl ?_
          refine x_strlen (n := 4) rfl rfl rfl ?_
          refine x_icmp_ge rfl (fun q => absurd q (by decide)) (fun _ => ?_)
          refine x_step rfl ?_
          refine x_if_eq rfl (fun _ => ?_) (fun q => absurd (by decide) q)
          refine x_step rfl ?_
          exact x_iret rfl rfl rfl ⟨by rw [show pTx β ps 1 [83, 84, 79, 80] = false from by simp [pTx, pEq, hc1]]; rfl, rfl⟩
        · iterate 5 refine x_step rfl ?_
          refine xm_ls (pl' := [some (.ref 98), some (.int (nI 1)), some (.ref 5), some (.int 1), some (.int 2)]) rfl ?_
          iterate 2 refine x_step rfl ?_
          refine x_strlen (n := 4) rfl rfl rfl ?_
          refine x_icmp_ge rfl (fun q => absurd q (by decide)) (fun _ => ?_)
          refine x_step rfl ?_
          refine x_if_eq rfl (fun q => absurd q (by decide)) (fun _ => ?_)
          have hy2 := pY_lt (ps := ps) hβ 1 2
          iterate 3 refine x_step rfl ?_
          refine x_callvE rfl (n88 (d := 1) hg hβ hA hV 1 (by decide) 2 (by decide) (by omega)) rfl rfl rfl ?_
          iterate 2 refine x_step rfl ?_
          refine x_charAt (n := 4) (i := 2) (b' := 79) rfl rfl rfl (by decide) rfl rfl ?_
          refine x_icmpN_ne (pY β ps 1 2) (79) rfl rfl rfl (fun hc2 => ?_) (fun hc2 => ?_)
          · iterate 4 refine x_step rfl ?_
            refine xm_ls (pl' := [some (.ref 98), some (.int (nI 1)), some (.ref 5), some (.int 0), some (.int 3)]) rfl ?_
            iterate 2 refine x_step rfl ?_
            refine x_strlen (n := 4) rfl rfl rfl ?_
            refine x_icmp_ge rfl (fun q => absurd q (by decide)) (fun _ => ?_)
            refine x_step rfl ?_
            refine x_if_eq rfl (fun _ => ?_) (fun q => absurd (by decide) q)
            refine x_step rfl ?_
            exact x_iret rfl rfl rfl ⟨by rw [show pTx β ps 1 [83, 84, 79, 80] = false from by simp [pTx, pEq, hc2]]; rfl, rfl⟩
          · iterate 5 refine x_step rfl ?_
            refine xm_ls (pl' := [some (.ref 98), some (.int (nI 1)), some (.ref 5), some (.int 1), some (.int 3)]) rfl ?_
            iterate 2 refine x_step rfl ?_
            refine x_strlen (n := 4) rfl rfl rfl ?_
            refine x_icmp_ge rfl (fun q => absurd q (by decide)) (fun _ => ?_)
            refine x_step rfl ?_
            refine x_if_eq rfl (fun q => absurd q (by decide)) (fun _ => ?_)
            have hy3 := pY_lt (ps := ps) hβ 1 3
            iterate 3 refine x_step rfl ?_
            refine x_callvE rfl (n88 (d := 1) hg hβ hA hV 1 (by decide) 3 (by decide) (by omega)) rfl rfl rfl ?_
            iterate 2 refine x_step rfl ?_
            refine x_charAt (n := 4) (i := 3) (b' := 80) rfl rfl rfl (by decide) rfl rfl ?_
            refine x_icmpN_ne (pY β ps 1 3) (80) rfl rfl rfl (fun hc3 => ?_) (fun hc3 => ?_)
            · iterate 4 refine x_step rfl ?_
              refine xm_ls (pl' := [some (.ref 98), some (.int (nI 1)), some (.ref 5), some (.int 0), some (.int 4)]) rfl ?_
              iterate 2 refine x_step rfl ?_
              refine x_strlen (n := 4) rfl rfl rfl ?_
              refine x_icmp_ge rfl (fun _ => ?_) (fun q => absurd (by decide) q)
              refine x_step rfl ?_
              exact x_iret rfl rfl rfl ⟨by rw [show pTx β ps 1 [83, 84, 79, 80] = false from by simp [pTx, pEq, hc3]]; rfl, rfl⟩
            · iterate 5 refine x_step rfl ?_
              refine xm_ls (pl' := [some (.ref 98), some (.int (nI 1)), some (.ref 5), some (.int 1), some (.int 4)]) rfl ?_
              iterate 2 refine x_step rfl ?_
              refine x_strlen (n := 4) rfl rfl rfl ?_
              refine x_icmp_ge rfl (fun _ => ?_) (fun q => absurd (by decide) q)
              refine x_step rfl ?_
              exact x_iret rfl rfl rfl ⟨by rw [show pTx β ps 1 [83, 84, 79, 80] = true from by simp [pTx, pEq, h16, hs, hc0, hc1, hc2, hc3]]; rfl, rfl⟩
/-- Items.isText -/
theorem n141c (hg : ∀ i, i < 130 → gb i = nI (β i)) (hβ : ∀ i, β i < 256) (hA : itA β xf xz xt xb 0 ps) (hV : itV β ps) (hd : 5 ≤ d) : XM l 141 d 0 0 [.ref 98, .int 1, .ref 6] (cw L xs g tc tf bl bf of oc ol on ml mx mb kc kh kr ka gl gx gb ls lq lk lg lh vf vs vb nv nw nr nq ne io sp ch wt xf xz xt xb (nI ps.length)) (xm_is (some (.int (bI (pTx β ps 1 [80, 65, 85, 83, 69])))) (cw L xs g tc tf bl bf of oc ol on ml mx mb kc kh kr ka gl gx gb ls lq lk lg lh vf vs vb nv nw nr nq ne io sp ch wt xf xz xt xb (nI ps.length))) := by
  refine XE (pl := [some (.ref 98), some (.int 1), some (.ref 6), none, none]) xg141 rfl ?_
  iterate 2 refine x_step rfl ?_
  refine x_callvE rfl (n107 (d := 0) hβ hA hV 1 (by decide)) rfl rfl rfl ?_
  refine x_step rfl ?_
  refine x_icmp_ne rfl (fun h2 => ?_) (fun h2 => ?_)
  · have h16 : (pF β ps 1 == 16) = false := pF16n hβ h2
    iterate 4 refine x_step rfl ?_
    refine xm_ls (pl' := [some (.ref 98), some (.int (nI 1)), some (.ref 6), some (.int 0), some (.int 0)]) rfl ?_
    iterate 2 refine x_step rfl ?_
    refine x_strlen (n := 5) rfl rfl rfl ?_
    refine x_icmp_ge rfl (fun q => absurd q (by decide)) (fun _ => ?_)
    refine x_step rfl ?_
    refine x_if_eq rfl (fun _ => ?_) (fun q => absurd (by decide) q)
    refine x_step rfl ?_
    exact x_iret rfl rfl rfl ⟨by rw [show pTx β ps 1 [80, 65, 85, 83, 69] = false from by rw [pTx, h16]; rfl]; rfl, rfl⟩
  · have h16 : pF β ps 1 = 16 := by simpa using pF16y hβ h2
    have hs2 := pS_lt (ps := ps) hβ 1
    iterate 2 refine x_step rfl ?_
    refine x_callvE rfl (n86 (d := 0) hβ hA hV 1 (by decide)) rfl rfl rfl ?_
    refine x_step rfl ?_
    refine x_strlen (n := 5) rfl rfl rfl ?_
    refine x_icmpN_ne (pS β ps 1) (5) rfl rfl rfl (fun hs => ?_) (fun hs => ?_)
    · iterate 4 refine x_step rfl ?_
      refine xm_ls (pl' := [some (.ref 98), some (.int (nI 1)), some (.ref 6), some (.int 0), some (.int 0)]) rfl ?_
      iterate 2 refine x_step rfl ?_
      refine x_strlen (n := 5) rfl rfl rfl ?_
      refine x_icmp_ge rfl (fun q => absurd q (by decide)) (fun _ => ?_)
      refine x_step rfl ?_
      refine x_if_eq rfl (fun _ => ?_) (fun q => absurd (by decide) q)
      refine x_step rfl ?_
      exact x_iret rfl rfl rfl ⟨by rw [show pTx β ps 1 [80, 65, 85, 83, 69] = false from by simp [pTx, hs]]; rfl, rfl⟩
    · iterate 5 refine x_step rfl ?_
      refine xm_ls (pl' := [some (.ref 98), some (.int (nI 1)), some (.ref 6), some (.int 1), some (.int 0)]) rfl ?_
      iterate 2 refine x_step rfl ?_
      refine x_strlen (n := 5) rfl rfl rfl ?_
      refine x_icmp_ge rfl (fun q => absurd q (by decide)) (fun _ => ?_)
      refine x_step rfl ?_
      refine x_if_eq rfl (fun q => absurd q (by decide)) (fun _ => ?_)
      have hy0 := pY_lt (ps := ps) hβ 1 0
      iterate 3 refine x_step rfl ?_
      refine x_callvE rfl (n88 (d := 1) hg hβ hA hV 1 (by decide) 0 (by decide) (by omega)) rfl rfl rfl ?_
      iterate 2 refine x_step rfl ?_
      refine x_charAt (n := 5) (i := 0) (b' := 80) rfl rfl rfl (by decide) rfl rfl ?_
      refine x_icmpN_ne (pY β ps 1 0) (80) rfl rfl rfl (fun hc0 => ?_) (fun hc0 => ?_)
      · iterate 4 refine x_step rfl ?_
        refine xm_ls (pl' := [some (.ref 98), some (.int (nI 1)), some (.ref 6), some (.int 0), some (.int 1)]) rfl ?_
        iterate 2 refine x_step rfl ?_
        refine x_strlen (n := 5) rfl rfl rfl ?_
        refine x_icmp_ge rfl (fun q => absurd q (by decide)) (fun _ => ?_)
        refine x_step rfl ?_
        refine x_if_eq rfl (fun _ => ?_) (fun q => absurd (by decide) q)
        refine x_step rfl ?_
        exact x_iret rfl rfl rfl ⟨by rw [show pTx β ps 1 [80, 65, 85, 83, 69] = false from by simp [pTx, pEq, hc0]]; rfl, rfl⟩
      · iterate 5 refine x_step rfl ?_
        refine xm_ls (pl' := [some (.ref 98), some (.int (nI 1)), some (.ref 6), some (.int 1), some (.int 1)]) rfl ?_
        iterate 2 refine x_step rfl ?_
        refine x_strlen (n := 5) rfl rfl rfl ?_
        refine x_icmp_ge rfl (fun q => absurd q (by decide)) (fun _ => ?_)
        refine x_step rfl ?_
        refine x_if_eq rfl (fun q => absurd q (by decide)) (fun _ => ?_)
        have hy1 := pY_lt (ps := ps) hβ 1 1
        iterate 3 refine x_step rfl ?_
        refine x_callvE rfl (n88 (d := 1) hg hβ hA hV 1 (by decide) 1 (by decide) (by omega)) rfl rfl rfl ?_
        iterate 2 refine x_step rfl ?_
        refine x_charAt (n := 5) (i := 1) (b' := 65) rfl rfl rfl (by decide) rfl rfl ?_
        refine x_icmpN_ne (pY β ps 1 1) (65) rfl rfl rfl (fun hc1 => ?_) (fun hc1 => ?_)
        · iterate 4 refine x_step rfl ?_
          refine xm_ls (pl' := [some (.ref 98), some (.int (nI 1)), some (.ref 6), some (.int 0), some (.int 2)]) rfl ?_
          iterate 2 refine x_step rfl ?_
          refine x_strlen (n := 5) rfl rfl rfl ?_
          refine x_icmp_ge rfl (fun q => absurd q (by decide)) (fun _ => ?_)
          refine x_step rfl ?_
          refine x_if_eq rfl (fun _ => ?_) (fun q => absurd (by decide) q)
          refine x_step rfl ?_
          exact x_iret rfl rfl rfl ⟨by rw [show pTx β ps 1 [80, 65, 85, 83, 69] = false from by simp [pTx, pEq, hc1]]; rfl, rfl⟩
        · iterate 5 refine x_step rfl ?_
          refine xm_ls (pl' := [some (.ref 98), some (.int (nI 1)), some (.ref 6), some (.int 1), some (.int 2)]) rfl ?_
          iterate 2 refine x_step rfl ?_
          refine x_strlen (n := 5) rfl rfl rfl ?_
          refine x_icmp_ge rfl (fun q => absurd q (by decide)) (fun _ => ?_)
          refine x_step rfl ?_
          refine x_if_eq rfl (fun q => absurd q (by decide)) (fun _ => ?_)
          have hy2 := pY_lt (ps := ps) hβ 1 2
          iterate 3 refine x_step rfl ?_
          refine x_callvE rfl (n88 (d := 1) hg hβ hA hV 1 (by decide) 2 (by decide) (by omega)) rfl rfl rfl ?_
          iterate 2 refine x_step rfl ?_
          refine x_charAt (n := 5) (i := 2) (b' := 85) rfl rfl rfl (by decide) rfl rfl ?_
          refine x_icmpN_ne (pY β ps 1 2) (85) rfl rfl rfl (fun hc2 => ?_) (fun hc2 => ?_)
          · iterate 4 refine x_step rfl ?_
            refine xm_ls (pl' := [some (.ref 98), some (.int (nI 1)), some (.ref 6), some (.int 0), some (.int 3)]) rfl ?_
            iterate 2 refine x_step rfl ?_
            refine x_strlen (n := 5) rfl rfl rfl ?_
            refine x_icmp_ge rfl (fun q => absurd q (by decide)) (fun _ => ?_)
            refine x_step rfl ?_
            refine x_if_eq rfl (fun _ => ?_) (fun q => absurd (by decide) q)
            refine x_step rfl ?_
            exact x_iret rfl rfl rfl ⟨by rw [show pTx β ps 1 [80, 65, 85, 83, 69] = false from by simp [pTx, pEq, hc2]]; rfl, rfl⟩
          · iterate 5 refine x_step rfl ?_
            refine xm_ls (pl' := [some (.ref 98), some (.int (nI 1)), some (.ref 6), some (.int 1), some (.int 3)]) rfl ?_
            iterate 2 refine x_step rfl ?_
            refine x_strlen (n := 5) rfl rfl rfl ?_
            refine x_icmp_ge rfl (fun q => absurd q (by decide)) (fun _ => ?_)
            refine x_step rfl ?_
            refine x_if_eq rfl (fun q => absurd q (by decide)) (fun _ => ?_)
            have hy3 := pY_lt (ps := ps) hβ 1 3
            iterate 3 refine x_step rfl ?_
            refine x_callvE rfl (n88 (d := 1) hg hβ hA hV 1 (by decide) 3 (by decide) (by omega)) rfl rfl rfl ?_
            iterate 2 refine x_step rfl ?_
            refine x_charAt (n := 5) (i := 3) (b' := 83) rfl rfl rfl (by decide) rfl rfl ?_
            refine x_icmpN_ne (pY β ps 1 3) (83) rfl rfl rfl (fun hc3 => ?_) (fun hc3 => ?_)
            · iterate 4 refine x_step rfl ?_
              refine xm_ls (pl' := [some (.ref 98), some (.int (nI 1)), some (.ref 6), some (.int 0), some (.int 4)]) rfl ?_
              iterate 2 refine x_step rfl ?_
              refine x_strlen (n := 5) rfl rfl rfl ?_
              refine x_icmp_ge rfl (fun q => absurd q (by decide)) (fun _ => ?_)
              refine x_step rfl ?_
              refine x_if_eq rfl (fun _ => ?_) (fun q => absurd (by decide) q)
              refine x_step rfl ?_
              exact x_iret rfl rfl rfl ⟨by rw [show pTx β ps 1 [80, 65, 85, 83, 69] = false from by simp [pTx, pEq, hc3]]; rfl, rfl⟩
            · iterate 5 refine x_step rfl ?_
              refine xm_ls (pl' := [some (.ref 98), some (.int (nI 1)), some (.ref 6), some (.int 1), some (.int 4)]) rfl ?_
              iterate 2 refine x_step rfl ?_
              refine x_strlen (n := 5) rfl rfl rfl ?_
              refine x_icmp_ge rfl (fun q => absurd q (by decide)) (fun _ => ?_)
              refine x_step rfl ?_
              refine x_if_eq rfl (fun q => absurd q (by decide)) (fun _ => ?_)
              have hy4 := pY_lt (ps := ps) hβ 1 4
              iterate 3 refine x_step rfl ?_
              refine x_callvE rfl (n88 (d := 1) hg hβ hA hV 1 (by decide) 4 (by decide) (by omega)) rfl rfl rfl ?_
              iterate 2 refine x_step rfl ?_
              refine x_charAt (n := 5) (i := 4) (b' := 69) rfl rfl rfl (by decide) rfl rfl ?_
              refine x_icmpN_ne (pY β ps 1 4) (69) rfl rfl rfl (fun hc4 => ?_) (fun hc4 => ?_)
              · iterate 4 refine x_step rfl ?_
                refine xm_ls (pl' := [some (.ref 98), some (.int (nI 1)), some (.ref 6), some (.int 0), some (.int 5)]) rfl ?_
                iterate 2 refine x_step rfl ?_
                refine x_strlen (n := 5) rfl rfl rfl ?_
                refine x_icmp_ge rfl (fun _ => ?_) (fun q => absurd (by decide) q)
                refine x_step rfl ?_
                exact x_iret rfl rfl rfl ⟨by rw [show pTx β ps 1 [80, 65, 85, 83, 69] = false from by simp [pTx, pEq, hc4]]; rfl, rfl⟩
              · iterate 5 refine x_step rfl ?_
                refine xm_ls (pl' := [some (.ref 98), some (.int (nI 1)), some (.ref 6), some (.int 1), some (.int 5)]) rfl ?_
                iterate 2 refine x_step rfl ?_
                refine x_strlen (n := 5) rfl rfl rfl ?_
                refine x_icmp_ge rfl (fun _ => ?_) (fun q => absurd (by decide) q)
                refine x_step rfl ?_
                exact x_iret rfl rfl rfl ⟨by rw [show pTx β ps 1 [80, 65, 85, 83, 69] = true from by simp [pTx, pEq, h16, hs, hc0, hc1, hc2, hc3, hc4]]; rfl, rfl⟩
/-- Items.isText -/
theorem n141d (hg : ∀ i, i < 130 → gb i = nI (β i)) (hβ : ∀ i, β i < 256) (hA : itA β xf xz xt xb 0 ps) (hV : itV β ps) (hd : 5 ≤ d) : XM l 141 d 0 0 [.ref 98, .int 1, .ref 7] (cw L xs g tc tf bl bf of oc ol on ml mx mb kc kh kr ka gl gx gb ls lq lk lg lh vf vs vb nv nw nr nq ne io sp ch wt xf xz xt xb (nI ps.length)) (xm_is (some (.int (bI (pTx β ps 1 [71, 79])))) (cw L xs g tc tf bl bf of oc ol on ml mx mb kc kh kr ka gl gx gb ls lq lk lg lh vf vs vb nv nw nr nq ne io sp ch wt xf xz xt xb (nI ps.length))) := by
  refine XE (pl := [some (.ref 98), some (.int 1), some (.ref 7), none, none]) xg141 rfl ?_
  iterate 2 refine x_step rfl ?_
  refine x_callvE rfl (n107 (d := 0) hβ hA hV 1 (by decide)) rfl rfl rfl ?_
  refine x_step rfl ?_
  refine x_icmp_ne rfl (fun h2 => ?_) (fun h2 => ?_)
  · have h16 : (pF β ps 1 == 16) = false := pF16n hβ h2
    iterate 4 refine x_step rfl ?_
    refine xm_ls (pl' := [some (.ref 98), some (.int (nI 1)), some (.ref 7), some (.int 0), some (.int 0)]) rfl ?_
    iterate 2 refine x_step rfl ?_
    refine x_strlen (n := 6) rfl rfl rfl ?_
    refine x_icmp_ge rfl (fun q => absurd q (by decide)) (fun _ => ?_)
    refine x_step rfl ?_
    refine x_if_eq rfl (fun _ => ?_) (fun q => absurd (by decide) q)
    refine x_step rfl ?_
    exact x_iret rfl rfl rfl ⟨by rw [show pTx β ps 1 [71, 79] = false from by rw [pTx, h16]; rfl]; rfl, rfl⟩
  · have h16 : pF β ps 1 = 16 := by simpa using pF16y hβ h2
    have hs2 := pS_lt (ps := ps) hβ 1
    iterate 2 refine x_step rfl ?_
    refine x_callvE rfl (n86 (d := 0) hβ hA hV 1 (by decide)) rfl rfl rfl ?_
    refine x_step rfl ?_
    refine x_strlen (n := 6) rfl rfl rfl ?_
    refine x_icmpN_ne (pS β ps 1) (2) rfl rfl rfl (fun hs => ?_) (fun hs => ?_)
    · iterate 4 refine x_step rfl ?_
      refine xm_ls (pl' := [some (.ref 98), some (.int (nI 1)), some (.ref 7), some (.int 0), some (.int 0)]) rfl ?_
      iterate 2 refine x_step rfl ?_
      refine x_strlen (n := 6) rfl rfl rfl ?_
      refine x_icmp_ge rfl (fun q => absurd q (by decide)) (fun _ => ?_)
      refine x_step rfl ?_
      refine x_if_eq rfl (fun _ => ?_) (fun q => absurd (by decide) q)
      refine x_step rfl ?_
      exact x_iret rfl rfl rfl ⟨by rw [show pTx β ps 1 [71, 79] = false from by simp [pTx, hs]]; rfl, rfl⟩
    · iterate 5 refine x_step rfl ?_
      refine xm_ls (pl' := [some (.ref 98), some (.int (nI 1)), some (.ref 7), some (.int 1), some (.int 0)]) rfl ?_
      iterate 2 refine x_step rfl ?_
      refine x_strlen (n := 6) rfl rfl rfl ?_
      refine x_icmp_ge rfl (fun q => absurd q (by decide)) (fun _ => ?_)
      refine x_step rfl ?_
      refine x_if_eq rfl (fun q => absurd q (by decide)) (fun _ => ?_)
      have hy0 := pY_lt (ps := ps) hβ 1 0
      iterate 3 refine x_step rfl ?_
      refine x_callvE rfl (n88 (d := 1) hg hβ hA hV 1 (by decide) 0 (by decide) (by omega)) rfl rfl rfl ?_
      iterate 2 refine x_step rfl ?_
      refine x_charAt (n := 6) (i := 0) (b' := 71) rfl rfl rfl (by decide) rfl rfl ?_
      refine x_icmpN_ne (pY β ps 1 0) (71) rfl rfl rfl (fun hc0 => ?_) (fun hc0 => ?_)
      · iterate 4 refine x_step rfl ?_
        refine xm_ls (pl' := [some (.ref 98), some (.int (nI 1)), some (.ref 7), some (.int 0), some (.int 1)]) rfl ?_
        iterate 2 refine x_step rfl ?_
        refine x_strlen (n := 6) rfl rfl rfl ?_
        refine x_icmp_ge rfl (fun q => absurd q (by decide)) (fun _ => ?_)
        refine x_step rfl ?_
        refine x_if_eq rfl (fun _ => ?_) (fun q => absurd (by decide) q)
        refine x_step rfl ?_
        exact x_iret rfl rfl rfl ⟨by rw [show pTx β ps 1 [71, 79] = false from by simp [pTx, pEq, hc0]]; rfl, rfl⟩
      · iterate 5 refine x_step rfl ?_
        refine xm_ls (pl' := [some (.ref 98), some (.int (nI 1)), some (.ref 7), some (.int 1), some (.int 1)]) rfl ?_
        iterate 2 refine x_step rfl ?_
        refine x_strlen (n := 6) rfl rfl rfl ?_
        refine x_icmp_ge rfl (fun q => absurd q (by decide)) (fun _ => ?_)
        refine x_step rfl ?_
        refine x_if_eq rfl (fun q => absurd q (by decide)) (fun _ => ?_)
        have hy1 := pY_lt (ps := ps) hβ 1 1
        iterate 3 refine x_step rfl ?_
        refine x_callvE rfl (n88 (d := 1) hg hβ hA hV 1 (by decide) 1 (by decide) (by omega)) rfl rfl rfl ?_
        iterate 2 refine x_step rfl ?_
        refine x_charAt (n := 6) (i := 1) (b' := 79) rfl rfl rfl (by decide) rfl rfl ?_
        refine x_icmpN_ne (pY β ps 1 1) (79) rfl rfl rfl (fun hc1 => ?_) (fun hc1 => ?_)
        · iterate 4 refine x_step rfl ?_
          refine xm_ls (pl' := [some (.ref 98), some (.int (nI 1)), some (.ref 7), some (.int 0), some (.int 2)]) rfl ?_
          iterate 2 refine x_step rfl ?_
          refine x_strlen (n := 6) rfl rfl rfl ?_
          refine x_icmp_ge rfl (fun _ => ?_) (fun q => absurd (by decide) q)
          refine x_step rfl ?_
          exact x_iret rfl rfl rfl ⟨by rw [show pTx β ps 1 [71, 79] = false from by simp [pTx, pEq, hc1]]; rfl, rfl⟩
        · iterate 5 refine x_step rfl ?_
          refine xm_ls (pl' := [some (.ref 98), some (.int (nI 1)), some (.ref 7), some (.int 1), some (.int 2)]) rfl ?_
          iterate 2 refine x_step rfl ?_
          refine x_strlen (n := 6) rfl rfl rfl ?_
          refine x_icmp_ge rfl (fun _ => ?_) (fun q => absurd (by decide) q)
          refine x_step rfl ?_
          exact x_iret rfl rfl rfl ⟨by rw [show pTx β ps 1 [71, 79] = true from by simp [pTx, pEq, h16, hs, hc0, hc1]]; rfl, rfl⟩
def pfP (β : Nat → Nat) (ps : List (Nat × Nat)) : Nat → Nat → Bool → Nat
  | 0, _, w => if w then 3 else 0
  | m + 1, p, w => if pY β ps (p + 1) 0 < 2 ∨ 5 < pY β ps (p + 1) 0 then 1 else pfP β ps m (pB ps p) (w || (pF β ps (p + 2) == 0 || decide (8 < pS β ps (p + 2))))
theorem n123_loop (hg : ∀ i, i < 130 → gb i = nI (β i)) (hβ : ∀ i, β i < 256) (hA : itA β xf xz xt xb 0 ps) (hV : itV β ps) (hd : 3 ≤ d) : ∀ (m i p : Nat) (w : Bool) (o4 : Option Value), i + m = pS β ps 0 → p ≤ 60 → XW l 123 d 0 0 6 [some (.ref 98), some (.int (bI w)), some (.int (nI p)), some (.int (nI i)), o4] [] (cw L xs g tc tf bl bf of oc ol on ml mx mb kc kh kr ka gl gx gb ls lq lk lg lh vf vs vb nv nw nr nq ne io sp ch wt xf xz xt xb (nI ps.length)) (xm_is (some (.int (nI (pfP β ps m p w)))) (cw L xs g tc tf bl bf of oc ol on ml mx mb kc kh kr ka gl gx gb ls lq lk lg lh vf vs vb nv nw nr nq ne io sp ch wt xf xz xt xb (nI ps.length))) := by
  have hs2 := pS_lt (ps := ps) hβ 0
  intro m
  induction m with
  | zero =>
    intro i p w o4 hk hp
    iterate 3 refine x_step rfl ?_
    refine x_callvE rfl (n86 (d := 0) hβ hA hV 0 (by decide)) rfl rfl rfl ?_
    refine x_icmpN_ge (i) (pS β ps 0) rfl rfl rfl (fun _ => ?_) (fun q => False.elim (by omega))
    refine x_step rfl ?_
    refine x_if_eq rfl (fun h => ?_) (fun h => ?_)
    · refine x_step rfl ?_
      exact x_iret rfl rfl rfl ⟨by rw [bI_f h]; rfl, rfl⟩
    · iterate 2 refine x_step rfl ?_
      exact x_iret rfl rfl rfl ⟨by rw [bI_t h]; rfl, rfl⟩
  | succ m ih =>
    intro i p w o4 hk hp
    have hb := Nat.le_trans (pB_le hV p) hV.1
    have hy := pY_lt (ps := ps) hβ (p + 1) 0
    have hs3 := pS_lt (ps := ps) hβ (p + 2)
    iterate 3 refine x_step rfl ?_
    refine x_callvE rfl (n86 (d := 0) hβ hA hV 0 (by decide)) rfl rfl rfl ?_
    refine x_icmpN_ge (i) (pS β ps 0) rfl rfl rfl (fun q => False.elim (by omega)) (fun _ => ?_)
    iterate 4 refine x_step rfl ?_
    refine xm_ss (st' := [.int (nI (p + 1)), .ref 98]) (by rw [nI_1] <;> rfl) ?_
    refine x_callvE rfl (n112 (d := 2) hg hβ hA hV (p + 1) (by omega) (by omega)) rfl rfl rfl ?_
    iterate 2 refine x_step rfl ?_
    refine x_callsE rfl ((r29 (d := 0) (nI (pY β ps (p + 1) 0))).xm) rfl rfl ?_
    refine x_if_eq rfl (fun h1 => ?_) (fun h1 => ?_)
    · have h6 : 6 ≤ (pY β ps (p + 1) 0) := Nat.not_lt.mp fun z => xvr_ne z h1
      refine x_step rfl ?_
      exact x_iret rfl rfl rfl ⟨by rw [pfP, if_pos (by omega)]; rfl, rfl⟩
    · have h6 : (pY β ps (p + 1) 0) < 6 := Nat.not_le.mp fun z => h1 (xvr_z z (by omega))
      iterate 2 refine x_step rfl ?_
      refine x_icmpN_ge ((pY β ps (p + 1) 0)) (2) rfl rfl rfl (fun h2 => ?_) (fun h2 => ?_)
      · refine x_step rfl ?_
        refine x_if_ne rfl (fun hw => ?_) (fun hw => ?_)
        · iterate 5 refine x_step rfl ?_
          refine x_callvE rfl (n103 (d := 0) hβ hA hV p (by omega)) rfl rfl rfl ?_
          iterate 3 refine x_step rfl ?_
          refine xm_ls (pl' := [some (.ref 98), some (.int (bI true)), some (.int (nI (pB ps p))), some (.int (nI (i + 1))), some (.int (nI (pY β ps (p + 1) 0)))]) (by rw [nI_succ] <;> rfl) ?_
          rw [pfP, if_neg (by omega), show (w || (pF β ps (p + 2) == 0 || decide (8 < pS β ps (p + 2)))) = true from by rw [bI_t hw]; rfl]
          exact ih (i + 1) (pB ps p) true _ (by omega) hb
        · iterate 4 refine x_step rfl ?_
          refine xm_ss (st' := [.int (nI (p + 2)), .ref 98]) (by rw [show nI p + 2 = nI (p + 2) from nI_add p 2] <;> rfl) ?_
          refine x_callvE rfl (n85 (d := 0) hβ hA hV (p + 2) (by omega)) rfl rfl rfl ?_
          refine x_if_ne rfl (fun h3 => ?_) (fun h3 => ?_)
          · iterate 5 refine x_step rfl ?_
            refine x_callvE rfl (n103 (d := 0) hβ hA hV p (by omega)) rfl rfl rfl ?_
            iterate 3 refine x_step rfl ?_
            refine xm_ls (pl' := [some (.ref 98), some (.int (bI true)), some (.int (nI (pB ps p))), some (.int (nI (i + 1))), some (.int (nI (pY β ps (p + 1) 0)))]) (by rw [nI_succ] <;> rfl) ?_
            rw [pfP, if_neg (by omega), show (w || (pF β ps (p + 2) == 0 || decide (8 < pS β ps (p + 2)))) = true from by rw [bI_t h3, Bool.true_or, Bool.or_true]]
            exact ih (i + 1) (pB ps p) true _ (by omega) hb
          · iterate 4 refine x_step rfl ?_
            refine xm_ss (st' := [.int (nI (p + 2)), .ref 98]) (by rw [show nI p + 2 = nI (p + 2) from nI_add p 2] <;> rfl) ?_
            refine x_callvE rfl (n86 (d := 0) hβ hA hV (p + 2) (by omega)) rfl rfl rfl ?_
            refine x_step rfl ?_
            refine x_icmpN_le (pS β ps (p + 2)) (8) rfl rfl rfl (fun h4 => ?_) (fun h4 => ?_)
            · iterate 4 refine x_step rfl ?_
              refine x_callvE rfl (n103 (d := 0) hβ hA hV p (by omega)) rfl rfl rfl ?_
              iterate 3 refine x_step rfl ?_
              refine xm_ls (pl' := [some (.ref 98), some (.int (bI false)), some (.int (nI (pB ps p))), some (.int (nI (i + 1))), some (.int (nI (pY β ps (p + 1) 0)))]) (by rw [nI_succ] <;> rfl) ?_
              rw [pfP, if_neg (by omega), show (w || (pF β ps (p + 2) == 0 || decide (8 < pS β ps (p + 2)))) = false from by rw [bI_f hw, bI_f h3, show decide (8 < pS β ps (p + 2)) = false from decide_eq_false (by omega)]; rfl]
              exact ih (i + 1) (pB ps p) false _ (by omega) hb
            · iterate 5 refine x_step rfl ?_
              refine x_callvE rfl (n103 (d := 0) hβ hA hV p (by omega)) rfl rfl rfl ?_
              iterate 3 refine x_step rfl ?_
              refine xm_ls (pl' := [some (.ref 98), some (.int (bI true)), some (.int (nI (pB ps p))), some (.int (nI (i + 1))), some (.int (nI (pY β ps (p + 1) 0)))]) (by rw [nI_succ] <;> rfl) ?_
              rw [pfP, if_neg (by omega), show (w || (pF β ps (p + 2) == 0 || decide (8 < pS β ps (p + 2)))) = true from by rw [show decide (8 < pS β ps (p + 2)) = true from decide_eq_true (by omega), Bool.or_true, Bool.or_true]]
              exact ih (i + 1) (pB ps p) true _ (by omega) hb
      · refine x_step rfl ?_
        exact x_iret rfl rfl rfl ⟨by rw [pfP, if_pos (by omega)]; rfl, rfl⟩
/-- Variables.faultOfPairs -/
theorem n123 (hg : ∀ i, i < 130 → gb i = nI (β i)) (hβ : ∀ i, β i < 256) (hA : itA β xf xz xt xb 0 ps) (hV : itV β ps) (hd : 3 ≤ d) : XM l 123 d 0 0 [.ref 98] (cw L xs g tc tf bl bf of oc ol on ml mx mb kc kh kr ka gl gx gb ls lq lk lg lh vf vs vb nv nw nr nq ne io sp ch wt xf xz xt xb (nI ps.length)) (xm_is (some (.int (nI (pfP β ps (pS β ps 0) 1 false)))) (cw L xs g tc tf bl bf of oc ol on ml mx mb kc kh kr ka gl gx gb ls lq lk lg lh vf vs vb nv nw nr nq ne io sp ch wt xf xz xt xb (nI ps.length))) := by
  refine XE (pl := [some (.ref 98), none, none, none, none]) xg123 rfl ?_
  iterate 6 refine x_step rfl ?_
  refine xm_ls (pl' := [some (.ref 98), some (.int (bI false)), some (.int (nI 1)), some (.int (nI 0)), none]) rfl ?_
  exact n123_loop hg hβ hA hV hd (pS β ps 0) 0 1 false none (by omega) (by decide)
theorem cw_setv {j : Nat} (hj : j < 6) (f : Nat → Int32) : ((cw L xs g tc tf bl bf of oc ol on ml mx mb kc kh kr ka gl gx gb ls lq lk lg lh vf vs vb nv nw nr nq ne io sp ch wt xf xz xt xb xc)).set (74 + j) (xI 0 8 f) = (cw L xs g tc tf bl bf of oc ol on ml mx mb kc kh kr ka gl gx gb ls lq lk lg lh vf vs (updf vb j f) nv nw nr nq ne io sp ch wt xf xz xt xb xc) := by
  match j, hj with
  | 0, _ => rfl
  | 1, _ => rfl
  | 2, _ => rfl
  | 3, _ => rfl
  | 4, _ => rfl
  | 5, _ => rfl
  | j + 6, h => exact absurd h (by omega)
/-- the format that is kept -/
def pK (β : Nat → Nat) (ps : List (Nat × Nat)) (i : Nat) : Int32 := if i < ps.length then nI (pF β ps i) else -1
abbrev vS : Type := (Nat → Int32) × (Nat → Int32) × (Nat → Nat → Int32)
def vOne (β : Nat → Nat) (ps : List (Nat × Nat)) (s : vS) (v i : Nat) : vS := if v < 6 then (upd s.1 v (pK β ps i), upd s.2.1 v (nI (min (pS β ps i) 8)), updf s.2.2 v (xcp (s.2.2 v) (fun k => nI (pY β ps i k)) (min (pS β ps i) 8))) else s
def vAll (β : Nat → Nat) (ps : List (Nat × Nat)) : Nat → Nat → vS → vS
  | 0, _, s => s
  | m + 1, p, s => vAll β ps m (pB ps p) (vOne β ps s (pY β ps (p + 1) 0) (p + 2))
theorem n124_loop (hg : ∀ i, i < 130 → gb i = nI (β i)) (hβ : ∀ i, β i < 256) (hA : itA β xf xz xt xb 0 ps) (hV : itV β ps) (v i n : Nat) (hd : 2 ≤ d) (hv : v < 6) (hi : i < 2 ^ 20) (hn : n ≤ 8) : ∀ (r k : Nat), k + r = n → XW l 124 d 0 0 38 [some (.ref 70), some (.ref 98), some (.int (nI v)), some (.int (nI i)), some (.int (nI k))] [] (cw L xs g tc tf bl bf of oc ol on ml mx mb kc kh kr ka gl gx gb ls lq lk lg lh vf (upd vs v (nI n)) (updf vb v (xcp (vb v) (fun k => nI (pY β ps i k)) k)) nv nw nr nq ne io sp ch wt xf xz xt xb (nI ps.length)) (xm_is none (cw L xs g tc tf bl bf of oc ol on ml mx mb kc kh kr ka gl gx gb ls lq lk lg lh vf (upd vs v (nI n)) (updf vb v (xcp (vb v) (fun k => nI (pY β ps i k)) n)) nv nw nr nq ne io sp ch wt xf xz xt xb (nI ps.length))) := by
  intro r
  induction r with
  | zero =>
    intro k hk
    obtain rfl : k = n := by omega
    iterate 4 refine x_step rfl ?_
    refine x_ialdN (v) rfl rfl rfl (by omega) ?_
    refine x_icmpN_ge (k) (k) rfl rfl pk_us (fun _ => ?_) (fun q => False.elim (by omega))
    exact x_ret rfl rfl ⟨rfl, rfl⟩
  | succ r ih =>
    intro k hk
    iterate 4 refine x_step rfl ?_
    refine x_ialdN (v) rfl rfl rfl (by omega) ?_
    refine x_icmpN_ge (k) (n) rfl rfl pk_us (fun q => False.elim (by omega)) (fun _ => ?_)
    iterate 3 refine x_step rfl ?_
    refine x_aaldN (v) rfl rfl rfl (by omega) rfl ?_
    iterate 4 refine x_step rfl ?_
    refine x_callvE rfl (n88 (d := 1) hg hβ hA hV i (by omega) k (by omega) (by omega)) rfl rfl rfl ?_
    refine x_iastN (k) rfl (cw_vb hv) rfl (by omega) ?_ (ha := (by show 32 ≤ 74 + v; omega))
    iterate 2 refine x_step rfl ?_
    refine xm_ls (pl' := [some (.ref 70), some (.ref 98), some (.int (nI v)), some (.int (nI i)), some (.int (nI (k + 1)))]) (by rw [nI_succ] <;> rfl) ?_
    refine xm_hs (hp' := (cw L xs g tc tf bl bf of oc ol on ml mx mb kc kh kr ka gl gx gb ls lq lk lg lh vf (upd vs v (nI n)) (updf vb v (xcp (vb v) (fun k => nI (pY β ps i k)) (k + 1))) nv nw nr nq ne io sp ch wt xf xz xt xb (nI ps.length))) (by rw [cw_setv hv, updf_same, updf_updf] <;> rfl) ?_
    exact ih (k + 1) (by omega)
/-- Variables.assignOne -/
theorem n124 (hg : ∀ i, i < 130 → gb i = nI (β i)) (hβ : ∀ i, β i < 256) (hA : itA β xf xz xt xb 0 ps) (hV : itV β ps) (v i : Nat) (hd : 2 ≤ d) (hv : v < 2 ^ 20) (hi : i < 2 ^ 20) : XM l 124 d 0 0 [.ref 70, .ref 98, .int (nI v), .int (nI i)] (cw L xs g tc tf bl bf of oc ol on ml mx mb kc kh kr ka gl gx gb ls lq lk lg lh vf vs vb nv nw nr nq ne io sp ch wt xf xz xt xb (nI ps.length)) (xm_is none (cw L xs g tc tf bl bf of oc ol on ml mx mb kc kh kr ka gl gx gb ls lq lk lg lh ((vOne β ps (vf, vs, vb) v i).1) ((vOne β ps (vf, vs, vb) v i).2.1) ((vOne β ps (vf, vs, vb) v i).2.2) nv nw nr nq ne io sp ch wt xf xz xt xb (nI ps.length))) := by
  refine XE (pl := [some (.ref 70), some (.ref 98), some (.int (nI v)), some (.int (nI i)), none]) xg124 rfl ?_
  refine x_step rfl ?_
  refine x_callsE rfl ((r29 (d := 0) (nI v)).xm) rfl rfl ?_
  refine x_if_ne rfl (fun h => ?_) (fun h => ?_)
  · have hv6 : v < 6 := Nat.not_le.mp fun z => h (xvr_z z (by omega))
    rw [vOne, if_pos hv6]
    iterate 5 refine x_step rfl ?_
    refine x_callvE rfl (n107 (d := 0) hβ hA hV i (by omega)) rfl rfl rfl ?_
    refine x_iastN (v) rfl rfl rfl (by omega) ?_
    refine xm_hs (hp' := (cw L xs g tc tf bl bf of oc ol on ml mx mb kc kh kr ka gl gx gb ls lq lk lg lh (upd vf v (pK β ps i)) vs vb nv nw nr nq ne io sp ch wt xf xz xt xb (nI ps.length))) rfl ?_
    have hs2 := pS_lt (ps := ps) hβ i
    iterate 5 refine x_step rfl ?_
    refine x_callvE rfl (n86 (d := 0) hβ hA hV i (by omega)) rfl rfl rfl ?_
    refine x_step rfl ?_
    refine x_callsE rfl (n80 (d := 0) (pS β ps i) 8 (by omega) (by decide)) rfl rfl ?_
    refine x_iastN (v) rfl rfl rfl (by omega) ?_
    iterate 2 refine x_step rfl ?_
    refine xm_ls (pl' := [some (.ref 70), some (.ref 98), some (.int (nI v)), some (.int (nI i)), some (.int (nI 0))]) rfl ?_
    refine xm_hs (hp' := (cw L xs g tc tf bl bf of oc ol on ml mx mb kc kh kr ka gl gx gb ls lq lk lg lh (upd vf v (pK β ps i)) (upd vs v (nI (min (pS β ps i) 8))) (updf vb v (xcp (vb v) (fun k => nI (pY β ps i k)) 0)) nv nw nr nq ne io sp ch wt xf xz xt xb (nI ps.length))) (by rw [show xcp (vb v) (fun k => nI (pY β ps i k)) 0 = vb v from rfl, updf_id] <;> rfl) ?_
    exact n124_loop hg hβ hA hV v i (min (pS β ps i) 8) hd hv6 hi (Nat.min_le_right _ _) (min (pS β ps i) 8) 0 (by omega)
  · have hv6 : ¬ v < 6 := fun z => xvr_ne z h
    exact x_ret rfl rfl ⟨rfl, by rw [vOne, if_neg hv6]⟩
theorem n122_loop (hg : ∀ i, i < 130 → gb i = nI (β i)) (hβ : ∀ i, β i < 256) (hA : itA β xf xz xt xb 0 ps) (hV : itV β ps) (hd : 3 ≤ d) : ∀ (m i p : Nat) (s : vS), i + m = pS β ps 0 → p ≤ 60 → XW l 122 d 0 0 16 [some (.ref 70), some (.ref 98), some (.int 0), some (.int (nI p)), some (.int (nI i))] [] (cw L xs g tc tf bl bf of oc ol on ml mx mb kc kh kr ka gl gx gb ls lq lk lg lh ((s).1) ((s).2.1) ((s).2.2) nv nw nr nq ne io sp ch wt xf xz xt xb (nI ps.length)) (xm_is (some (.int 0)) (cw L xs g tc tf bl bf of oc ol on ml mx mb kc kh kr ka gl gx gb ls lq lk lg lh ((vAll β ps m p s).1) ((vAll β ps m p s).2.1) ((vAll β ps m p s).2.2) nv nw nr nq ne io sp ch wt xf xz xt xb (nI ps.length))) := by
  have hs2 := pS_lt (ps := ps) hβ 0
  intro m
  induction m with
  | zero =>
    intro i p s hk hp
    iterate 3 refine x_step rfl ?_
    refine x_callvE rfl (n86 (d := 0) hβ hA hV 0 (by decide)) rfl rfl rfl ?_
    refine x_icmpN_ge (i) (pS β ps 0) rfl rfl rfl (fun _ => ?_) (fun q => False.elim (by omega))
    refine x_step rfl ?_
    exact x_iret rfl rfl rfl ⟨rfl, rfl⟩
  | succ m ih =>
    intro i p s hk hp
    have hb := Nat.le_trans (pB_le hV p) hV.1
    have hy := pY_lt (ps := ps) hβ (p + 1) 0
    iterate 3 refine x_step rfl ?_
    refine x_callvE rfl (n86 (d := 0) hβ hA hV 0 (by decide)) rfl rfl rfl ?_
    refine x_icmpN_ge (i) (pS β ps 0) rfl rfl rfl (fun q => False.elim (by omega)) (fun _ => ?_)
    iterate 6 refine x_step rfl ?_
    refine xm_ss (st' := [.int (nI (p + 1)), .ref 98, .ref 98, .ref 70]) (by rw [nI_1] <;> rfl) ?_
    refine x_callvE rfl (n112 (d := 2) hg hβ hA hV (p + 1) (by omega) (by omega)) rfl rfl rfl ?_
    iterate 3 refine x_step rfl ?_
    refine xm_ss (st' := [.int (nI (p + 2)), .int (nI (pY β ps (p + 1) 0)), .ref 98, .ref 70]) (by rw [show nI p + 2 = nI (p + 2) from nI_add p 2] <;> rfl) ?_
    refine x_callvE rfl (n124 (d := 2) hg hβ hA hV (pY β ps (p + 1) 0) (p + 2) (by omega) (by omega) (by omega)) rfl rfl rfl ?_
    iterate 2 refine x_step rfl ?_
    refine x_callvE rfl (n103 (d := 0) hβ hA hV p (by omega)) rfl rfl rfl ?_
    iterate 3 refine x_step rfl ?_
    refine xm_ls (pl' := [some (.ref 70), some (.ref 98), some (.int 0), some (.int (nI (pB ps p))), some (.int (nI (i + 1)))]) (by rw [nI_succ] <;> rfl) ?_
    exact ih (i + 1) (pB ps p) (vOne β ps s (pY β ps (p + 1) 0) (p + 2)) (by omega) hb
/-- Variables.assign -/
theorem n122 (hg : ∀ i, i < 130 → gb i = nI (β i)) (hβ : ∀ i, β i < 256) (hA : itA β xf xz xt xb 0 ps) (hV : itV β ps) (hd : 4 ≤ d) (hf : pfP β ps (pS β ps 0) 1 false = 0) : XM l 122 d 0 0 [.ref 70, .ref 98] (cw L xs g tc tf bl bf of oc ol on ml mx mb kc kh kr ka gl gx gb ls lq lk lg lh vf vs vb nv nw nr nq ne io sp ch wt xf xz xt xb (nI ps.length)) (xm_is (some (.int 0)) (cw L xs g tc tf bl bf of oc ol on ml mx mb kc kh kr ka gl gx gb ls lq lk lg lh ((vAll β ps (pS β ps 0) 1 (vf, vs, vb)).1) ((vAll β ps (pS β ps 0) 1 (vf, vs, vb)).2.1) ((vAll β ps (pS β ps 0) 1 (vf, vs, vb)).2.2) nv nw nr nq ne io sp ch wt xf xz xt xb (nI ps.length))) := by
  refine XE (pl := [some (.ref 70), some (.ref 98), none, none, none]) xg122 rfl ?_
  refine x_step rfl ?_
  refine x_callsE rfl (n123 (d := 3) hg hβ hA hV (by omega)) rfl rfl ?_
  rw [hf]
  refine x_step rfl ?_
  refine xm_ls (pl' := [some (.ref 70), some (.ref 98), some (.int 0), none, none]) rfl ?_
  refine x_step rfl ?_
  refine x_if_eq rfl (fun _ => ?_) (fun q => absurd (by decide) q)
  iterate 4 refine x_step rfl ?_
  refine xm_ls (pl' := [some (.ref 70), some (.ref 98), some (.int 0), some (.int (nI 1)), some (.int (nI 0))]) rfl ?_
  exact n122_loop hg hβ hA hV (by omega) (pS β ps 0) 0 1 (vf, vs, vb) (by omega) (by decide)
/-- Variables.assign -/
theorem n122f (hg : ∀ i, i < 130 → gb i = nI (β i)) (hβ : ∀ i, β i < 256) (hA : itA β xf xz xt xb 0 ps) (hV : itV β ps) (f : Nat) (hd : 4 ≤ d) (hf : pfP β ps (pS β ps 0) 1 false = f) (h0 : f ≠ 0) (h9 : f < 10) : XM l 122 d 0 0 [.ref 70, .ref 98] (cw L xs g tc tf bl bf of oc ol on ml mx mb kc kh kr ka gl gx gb ls lq lk lg lh vf vs vb nv nw nr nq ne io sp ch wt xf xz xt xb (nI ps.length)) (xm_is (some (.int (nI f))) (cw L xs g tc tf bl bf of oc ol on ml mx mb kc kh kr ka gl gx gb ls lq lk lg lh vf vs vb nv nw nr nq ne io sp ch wt xf xz xt xb (nI ps.length))) := by
  refine XE (pl := [some (.ref 70), some (.ref 98), none, none, none]) xg122 rfl ?_
  refine x_step rfl ?_
  refine x_callsE rfl (n123 (d := 3) hg hβ hA hV (by omega)) rfl rfl ?_
  rw [hf]
  iterate 2 refine x_step rfl ?_
  refine x_ifN_eq (f) rfl rfl (fun q => False.elim (by omega)) (fun _ => ?_)
  refine x_step rfl ?_
  exact x_iret rfl rfl rfl ⟨rfl, rfl⟩
def tvL (vf : Nat → Int32) (sz : Nat → Nat) (vb : Nat → Nat → Int32) (v : Nat) : List Int32 := if v < 6 then wvL vf sz vb v else [1, 0]
theorem tvL_len {sz : Nat → Nat} (hs : ∀ v, v < 6 → sz v ≤ 8) (v : Nat) : (tvL vf sz vb v).length ≤ 10 := by
  unfold tvL
  split
  next h => rw [wvL_len]; have := hs v h; omega
  next => decide
theorem n111_loop (hg : ∀ i, i < 130 → gb i = nI (β i)) (hβ : ∀ i, β i < 256) (hA : itA β xf xz xt xb 0 ps) (hV : itV β ps) {sz : Nat → Nat} (hd : 3 ≤ d) (hz : ∀ v, v < 6 → vs v = nI (sz v) ∧ sz v ≤ 8) (hn : pS β ps 0 < 2 ^ 18) : ∀ (m i : Nat) (o4 : Option Value), i + m = pS β ps 0 → XW l 111 d 0 0 24 [some (.ref 97), some (.int (nI (pS β ps 0))), some (.ref 37), some (.int (nI (i + 1))), o4] [] (cw L xs g tc tf (nI ([1, nI (pS β ps 0)] ++ xcat (fun k => tvL vf sz vb (pY β ps (k + 1) 0)) i).length) (xbd bf ([1, nI (pS β ps 0)] ++ xcat (fun k => tvL vf sz vb (pY β ps (k + 1) 0)) i)) of oc ol on ml mx mb kc kh kr ka gl gx gb ls lq lk lg lh vf vs vb nv nw nr nq ne io sp ch wt xf xz xt xb (nI ps.length)) (xm_is none (cw L xs g tc tf (nI ([1, nI (pS β ps 0)] ++ xcat (fun k => tvL vf sz vb (pY β ps (k + 1) 0)) (pS β ps 0)).length) (xbd bf ([1, nI (pS β ps 0)] ++ xcat (fun k => tvL vf sz vb (pY β ps (k + 1) 0)) (pS β ps 0))) of oc ol on ml mx mb kc kh kr ka gl gx gb ls lq lk lg lh vf vs vb nv nw nr nq ne io sp ch wt xf xz xt xb (nI ps.length))) := by
  intro m
  induction m with
  | zero =>
    intro i o4 hk
    obtain rfl : i = pS β ps 0 := by omega
    iterate 2 refine x_step rfl ?_
    refine x_icmpN_gt (pS β ps 0 + 1) (pS β ps 0) rfl rfl rfl (fun _ => ?_) (fun q => False.elim (by omega))
    exact x_ret rfl rfl ⟨rfl, rfl⟩
  | succ m ih =>
    intro i o4 hk
    have hy := pY_lt (ps := ps) hβ (i + 1) 0
    have hlen : ([1, nI (pS β ps 0)] ++ xcat (fun k => tvL vf sz vb (pY β ps (k + 1) 0)) i).length < 2 ^ 26 := by
      have := xcat_len (fun k => tvL vf sz vb (pY β ps (k + 1) 0)) 10 i (fun k _ => tvL_len (fun v hv => (hz v hv).2) _)
      rw [List.length_append]
      simp only [List.length_cons, List.length_nil]
      omega
    iterate 2 refine x_step rfl ?_
    refine x_icmpN_gt (i + 1) (pS β ps 0) rfl rfl rfl (fun q => False.elim (by omega)) (fun _ => ?_)
    iterate 3 refine x_step rfl ?_
    refine x_callvE rfl (n112 (d := 2) hg hβ hA hV (i + 1) (by omega) (by omega)) rfl rfl rfl ?_
    iterate 2 refine x_step rfl ?_
    refine x_callsE rfl ((r29 (d := 0) (nI (pY β ps (i + 1) 0))).xm) rfl rfl ?_
    refine x_if_eq rfl (fun h => ?_) (fun h => ?_)
    · have h6 : ¬ (pY β ps (i + 1) 0) < 6 := fun z => xvr_ne z h
      iterate 2 refine x_step rfl ?_
      refine x_callvE rfl (n20 (d := 1) ([1, nI (pS β ps 0)] ++ xcat (fun k => tvL vf sz vb (pY β ps (k + 1) 0)) i) 0 (by omega) (by omega)) rfl rfl rfl ?_
      iterate 2 refine x_step rfl ?_
      refine xm_ls (pl' := [some (.ref 97), some (.int (nI (pS β ps 0))), some (.ref 37), some (.int (nI (i + 1 + 1))), some (.int (nI (pY β ps (i + 1) 0)))]) (by rw [nI_succ (i + 1)] <;> rfl) ?_
      refine xm_hs (hp' := (cw L xs g tc tf (nI ([1, nI (pS β ps 0)] ++ xcat (fun k => tvL vf sz vb (pY β ps (k + 1) 0)) (i + 1)).length) (xbd bf ([1, nI (pS β ps 0)] ++ xcat (fun k => tvL vf sz vb (pY β ps (k + 1) 0)) (i + 1))) of oc ol on ml mx mb kc kh kr ka gl gx gb ls lq lk lg lh vf vs vb nv nw nr nq ne io sp ch wt xf xz xt xb (nI ps.length))) (by rw [xcat, tvL, if_neg h6, List.append_assoc] <;> rfl) ?_
      exact ih (i + 1) _ (by omega)
    · have h6 : (pY β ps (i + 1) 0) < 6 := Nat.not_le.mp fun z => h (xvr_z z (by omega))
      iterate 2 refine x_step rfl ?_
      refine x_callvE rfl ((r113 (d := 0)).xm) rfl rfl rfl ?_
      iterate 2 refine x_step rfl ?_
      refine x_callvE rfl (n28 (d := 1) ([1, nI (pS β ps 0)] ++ xcat (fun k => tvL vf sz vb (pY β ps (k + 1) 0)) i) (pY β ps (i + 1) 0) (sz := sz) (by omega) h6 (hz _ h6).2 (hz _ h6).1 (by omega)) rfl rfl rfl ?_
      iterate 3 refine x_step rfl ?_
      refine xm_ls (pl' := [some (.ref 97), some (.int (nI (pS β ps 0))), some (.ref 37), some (.int (nI (i + 1 + 1))), some (.int (nI (pY β ps (i + 1) 0)))]) (by rw [nI_succ (i + 1)] <;> rfl) ?_
      refine xm_hs (hp' := (cw L xs g tc tf (nI ([1, nI (pS β ps 0)] ++ xcat (fun k => tvL vf sz vb (pY β ps (k + 1) 0)) (i + 1)).length) (xbd bf ([1, nI (pS β ps 0)] ++ xcat (fun k => tvL vf sz vb (pY β ps (k + 1) 0)) (i + 1))) of oc ol on ml mx mb kc kh kr ka gl gx gb ls lq lk lg lh vf vs vb nv nw nr nq ne io sp ch wt xf xz xt xb (nI ps.length))) (by rw [xcat, tvL, if_pos h6, List.append_assoc] <;> rfl) ?_
      exact ih (i + 1) _ (by omega)
/-- Desk.tellValues -/
theorem n111 (hg : ∀ i, i < 130 → gb i = nI (β i)) (hβ : ∀ i, β i < 256) (hA : itA β xf xz xt xb 0 ps) (hV : itV β ps) {sz : Nat → Nat} (hd : 3 ≤ d) (hz : ∀ v, v < 6 → vs v = nI (sz v) ∧ sz v ≤ 8) (hn : pS β ps 0 < 2 ^ 18) : XM l 111 d 0 0 [.ref 97] (cw L xs g tc tf bl bf of oc ol on ml mx mb kc kh kr ka gl gx gb ls lq lk lg lh vf vs vb nv nw nr nq ne io sp ch wt xf xz xt xb (nI ps.length)) (xm_is none (cw L xs g tc tf (nI ([1, nI (pS β ps 0)] ++ xcat (fun k => tvL vf sz vb (pY β ps (k + 1) 0)) (pS β ps 0)).length) (xbd bf ([1, nI (pS β ps 0)] ++ xcat (fun k => tvL vf sz vb (pY β ps (k + 1) 0)) (pS β ps 0))) of oc ol on ml mx mb kc kh kr ka gl gx gb ls lq lk lg lh vf vs vb nv nw nr nq ne io sp ch wt xf xz xt xb (nI ps.length))) := by
  refine XE (pl := [some (.ref 97), none, none, none, none]) xg111 rfl ?_
  iterate 3 refine x_step rfl ?_
  refine x_callvE rfl (n86 (d := 0) hβ hA hV 0 (by decide)) rfl rfl rfl ?_
  iterate 3 refine x_step rfl ?_
  refine x_callvE rfl (m18 (d := 1) (by omega)) rfl rfl rfl ?_
  refine xm_hs (hp' := (cw L xs g tc tf (nI ([] : List Int32).length) (xbd bf ([] : List Int32)) of oc ol on ml mx mb kc kh kr ka gl gx gb ls lq lk lg lh vf vs vb nv nw nr nq ne io sp ch wt xf xz xt xb (nI ps.length))) (by rw [xbd_nil] <;> rfl) ?_
  iterate 3 refine x_step rfl ?_
  refine x_callvE rfl (n20 (d := 1) [] (nI (pS β ps 0)) (by omega) (by decide)) rfl rfl rfl ?_
  iterate 2 refine x_step rfl ?_
  refine xm_ls (pl' := [some (.ref 97), some (.int (nI (pS β ps 0))), some (.ref 37), some (.int (nI (0 + 1))), none]) rfl ?_
  refine xm_hs (hp' := (cw L xs g tc tf (nI ([1, nI (pS β ps 0)] ++ xcat (fun k => tvL vf sz vb (pY β ps (k + 1) 0)) 0).length) (xbd bf ([1, nI (pS β ps 0)] ++ xcat (fun k => tvL vf sz vb (pY β ps (k + 1) 0)) 0)) of oc ol on ml mx mb kc kh kr ka gl gx gb ls lq lk lg lh vf vs vb nv nw nr nq ne io sp ch wt xf xz xt xb (nI ps.length))) rfl ?_
  exact n111_loop hg hβ hA hV (by omega) hz hn (pS β ps 0) 0 none (by omega)
end EC8
