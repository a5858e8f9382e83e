section EC7
variable {l : Launch} {d L : Nat} {xs : Nat → Int32} {g : xm_H} {tc : Int32} {tf : (Nat → Int32)} {bl : Int32} {bf : (Nat → Int32)} {of : Int32} {oc : Int32} {ol : Int32} {on : Int32} {ml : (Nat → Int32)} {mx : (Nat → Int32)} {mb : (Nat → Nat → Int32)} {kc : Int32} {kh : (Nat → Nat)} {kr : (Nat → Nat → Int32)} {ka : (Nat → Int32)} {gl : Int32} {gx : Int32} {gb : (Nat → Int32)} {ls : Int32} {lq : Int32} {lk : Int32} {lg : Int32} {lh : Int32} {vf : (Nat → Int32)} {vs : (Nat → Int32)} {vb : (Nat → Nat → Int32)} {nv : (Nat → Int32)} {nw : (Nat → Nat → Int32)} {nr : (Nat → Int32)} {nq : (Nat → Nat → Int32)} {ne : (Nat → Int32)} {io : Int32} {sp : Int32} {ch : Int32} {wt : Int32} {xf : (Nat → Int32)} {xz : (Nat → Int32)} {xt : (Nat → Int32)} {xb : (Nat → Int32)} {xc : Int32}
variable {β : Nat → Nat} {e : Nat} {ps : List (Nat × Nat)}
def bI (b : Bool) : Int32 := if b then 1 else 0
theorem bI_f {b : Bool} (h : bI b = 0) : b = false := by
  cases b
  · rfl
  · exact absurd h (by decide)
theorem bI_t {b : Bool} (h : ¬ bI b = 0) : b = true := by
  cases b
  · exact absurd rfl h
  · rfl
theorem bI_n (b : Bool) : narrow .boolean (.int (bI b)) = .int (bI b) := by cases b <;> rfl
def pF (β : Nat → Nat) (ps : List (Nat × Nat)) (i : Nat) : Nat := (ps[i]?).elim 64 (fun r => itF β r.1)
def pS (β : Nat → Nat) (ps : List (Nat × Nat)) (i : Nat) : Nat := (ps[i]?).elim 0 (fun r => itS β r.1)
def pT (β : Nat → Nat) (ps : List (Nat × Nat)) (i : Nat) : Nat := (ps[i]?).elim 0 (fun r => itT β r.1)
def pB (ps : List (Nat × Nat)) (i : Nat) : Nat := (ps[i]?).elim ps.length (fun r => i + r.2)
/-- the items hold together -/
def itV (β : Nat → Nat) (ps : List (Nat × Nat)) : Prop := ps.length ≤ 60 ∧ ∀ i r, ps[i]? = some r → itT β r.1 ≤ 130 ∧ i + r.2 ≤ ps.length
theorem pF_out {i : Nat} (h : ps.length ≤ i) : pF β ps i = 64 := by unfold pF; rw [List.getElem?_eq_none h]; rfl
theorem pS_out {i : Nat} (h : ps.length ≤ i) : pS β ps i = 0 := by unfold pS; rw [List.getElem?_eq_none h]; rfl
theorem pB_out {i : Nat} (h : ps.length ≤ i) : pB ps i = ps.length := by unfold pB; rw [List.getElem?_eq_none h]; rfl
theorem pS_lt (hβ : ∀ i, β i < 256) (i : Nat) : pS β ps i < 2 ^ 24 := by
  unfold pS
  cases h : ps[i]? with
  | none => show 0 < 2 ^ 24; decide
  | some r => exact itS_lt hβ r.1
theorem pF_lt (hβ : ∀ i, β i < 256) (i : Nat) : pF β ps i < 65 := by
  unfold pF
  cases h : ps[i]? with
  | none => show 64 < 65; decide
  | some r => show itF β r.1 < 65; have := hβ r.1; unfold itF; omega
theorem pB_le (hV : itV β ps) (i : Nat) : pB ps i ≤ ps.length := by
  unfold pB
  cases h : ps[i]? with
  | none => exact Nat.le_refl _
  | some r => exact (hV.2 i r h).2
theorem itA_at (hA : itA β xf xz xt xb 0 ps) {i : Nat} (hi : i < ps.length) : xf i = nI (pF β ps i) ∧ xz i = nI (pS β ps i) ∧ xt i = nI (pT β ps i) ∧ xb i = nI (pB ps i) := by
  obtain ⟨r, hr⟩ : ∃ r, ps[i]? = some r := ⟨_, List.getElem?_eq_getElem hi⟩
  have h := hA i r hr
  rw [Nat.zero_add] at h
  unfold pF pS pT pB
  rw [hr]
  exact h
theorem pT_le (hV : itV β ps) {i : Nat} : pT β ps i ≤ 130 := by
  unfold pT
  cases h : ps[i]? with
  | none => show 0 ≤ 130; omega
  | some r => exact (hV.2 i r h).1
def pOne (β : Nat → Nat) (ps : List (Nat × Nat)) (i f : Nat) : Bool := pF β ps i == f && pS β ps i == 1
def pLst (β : Nat → Nat) (ps : List (Nat × Nat)) (i n : Nat) : Bool := pF β ps i == 0 && pS β ps i == n
def pY (β : Nat → Nat) (ps : List (Nat × Nat)) (i k : Nat) : Nat := if k < pS β ps i ∧ pT β ps i + k < 130 then β (pT β ps i + k) else 0
/-- g holds at i, i + 1 .. i + m - 1 -/
def pAll (g : Nat → Bool) : Nat → Nat → Bool
  | 0, _ => true
  | m + 1, i => g i && pAll g m (i + 1)
def pNums (β : Nat → Nat) (ps : List (Nat × Nat)) (i : Nat) : Bool := pF β ps i == 0 && pAll (fun k => pOne β ps (i + k) 41) (pS β ps i) 1
/-- g holds at i, behind it, m times -/
def pRow (ps : List (Nat × Nat)) (g : Nat → Bool) : Nat → Nat → Bool
  | 0, _ => true
  | m + 1, i => g i && pRow ps g m (pB ps i)
def pPairs (β : Nat → Nat) (ps : List (Nat × Nat)) : Bool := pF β ps 0 == 0 && pRow ps (fun i => pLst β ps i 2 && pOne β ps (i + 1) 41) (pS β ps 0) 1
def pTable (β : Nat → Nat) (ps : List (Nat × Nat)) : Bool := (pLst β ps 0 2 && (pOne β ps 1 41 && pF β ps 2 == 0)) && pRow ps (fun i => pLst β ps i 2 && (pOne β ps (i + 1) 41 && pNums β ps (i + 2))) (pS β ps 2) 3
def pSwitch (β : Nat → Nat) (ps : List (Nat × Nat)) : Bool := pLst β ps 0 2 && (pOne β ps 1 9 && pNums β ps 2)
def pCmd (β : Nat → Nat) (ps : List (Nat × Nat)) : Bool := pLst β ps 0 2 && (pF β ps 1 == 16 && pF β ps (pB ps 1) == 0)
def pGreet (β : Nat → Nat) (ps : List (Nat × Nat)) : Bool := pF β ps 0 == 0 && (decide (0 < pS β ps 0) && (pOne β ps 1 8 && pY β ps 1 0 == 0))
theorem pF16n (hβ : ∀ i, β i < 256) (h : ¬ (if 1 < ps.length then nI (pF β ps 1) else -1) = 16) : (pF β ps 1 == 16) = false := by
  have hf := pF_lt (ps := ps) hβ 1
  by_cases hi : 1 < ps.length
  · rw [if_pos hi] at h
    have : ¬ pF β ps 1 = 16 := fun z => h (by rw [z]; rfl)
    simpa using this
  · rw [pF_out (by omega)]
    rfl
theorem pF16y (hβ : ∀ i, β i < 256) (h : (if 1 < ps.length then nI (pF β ps 1) else -1) = 16) : (pF β ps 1 == 16) = true := by
  have hf := pF_lt (ps := ps) hβ 1
  by_cases hi : 1 < ps.length
  · rw [if_pos hi] at h
    have : pF β ps 1 = 16 := (nI_eq (by omega) (by decide)).mp h
    simpa using this
  · rw [if_neg hi] at h
    exact absurd h (by decide)
/-- Items.isList -/
theorem n85 (hβ : ∀ i, β i < 256) (hA : itA β xf xz xt xb 0 ps) (hV : itV β ps) (i : Nat) (hi : i < 2 ^ 30) : XM l 85 d 0 0 [.ref 98, .int (nI i)] (cw L xs g tc tf bl bf of oc ol on ml mx mb kc kh kr ka gl gx gb ls lq lk lg lh vf vs vb nv nw nr nq ne io sp ch wt xf xz xt xb (nI ps.length)) (xm_is (some (.int (bI (pF β ps i == 0)))) (cw L xs g tc tf bl bf of oc ol on ml mx mb kc kh kr ka gl gx gb ls lq lk lg lh vf vs vb nv nw nr nq ne io sp ch wt xf xz xt xb (nI ps.length))) := by
  refine XE (pl := [some (.ref 98), some (.int (nI i))]) xg85 rfl ?_
  have hl := hV.1
  refine x_step rfl ?_
  refine x_ifN_lt (i) rfl rfl (fun q => False.elim (by omega)) (fun _ => ?_)
  iterate 3 refine x_step rfl ?_
  refine x_icmpN_ge (i) (ps.length) rfl rfl rfl (fun h => ?_) (fun h => ?_)
  · refine x_step rfl ?_
    exact x_iret rfl rfl rfl ⟨by rw [pF_out h]; rfl, rfl⟩
  · iterate 3 refine x_step rfl ?_
    refine x_ialdN (i) rfl rfl rfl (by omega) ?_
    have hf := pF_lt (ps := ps) hβ i
    refine x_ifN_ne (pF β ps i) rfl (itA_at hA h).1 (fun h2 => ?_) (fun h2 => ?_)
    · refine x_step rfl ?_
      exact x_iret rfl rfl rfl ⟨by rw [show (pF β ps i == 0) = false from by simpa using h2]; rfl, rfl⟩
    · iterate 2 refine x_step rfl ?_
      exact x_iret rfl rfl rfl ⟨by rw [h2]; rfl, rfl⟩
/-- Items.sizeOf -/
theorem n86 (hβ : ∀ i, β i < 256) (hA : itA β xf xz xt xb 0 ps) (hV : itV β ps) (i : Nat) (hi : i < 2 ^ 30) : XM l 86 d 0 0 [.ref 98, .int (nI i)] (cw L xs g tc tf bl bf of oc ol on ml mx mb kc kh kr ka gl gx gb ls lq lk lg lh vf vs vb nv nw nr nq ne io sp ch wt xf xz xt xb (nI ps.length)) (xm_is (some (.int (nI (pS β ps i)))) (cw L xs g tc tf bl bf of oc ol on ml mx mb kc kh kr ka gl gx gb ls lq lk lg lh vf vs vb nv nw nr nq ne io sp ch wt xf xz xt xb (nI ps.length))) := by
  refine XE (pl := [some (.ref 98), some (.int (nI i))]) xg86 rfl ?_
  have hl := hV.1
  refine x_step rfl ?_
  refine x_ifN_lt (i) rfl rfl (fun q => False.elim (by omega)) (fun _ => ?_)
  iterate 3 refine x_step rfl ?_
  refine x_icmpN_ge (i) (ps.length) rfl rfl rfl (fun h => ?_) (fun h => ?_)
  · refine x_step rfl ?_
    exact x_iret rfl rfl rfl ⟨by rw [pS_out h]; rfl, rfl⟩
  · iterate 3 refine x_step rfl ?_
    refine x_ialdN (i) rfl rfl rfl (by omega) ?_
    refine x_step rfl ?_
    exact x_iret rfl rfl rfl ⟨by rw [(itA_at hA h).2.1], rfl⟩
/-- Items.behind -/
theorem n103 (hβ : ∀ i, β i < 256) (hA : itA β xf xz xt xb 0 ps) (hV : itV β ps) (i : Nat) (hi : i < 2 ^ 30) : XM l 103 d 0 0 [.ref 98, .int (nI i)] (cw L xs g tc tf bl bf of oc ol on ml mx mb kc kh kr ka gl gx gb ls lq lk lg lh vf vs vb nv nw nr nq ne io sp ch wt xf xz xt xb (nI ps.length)) (xm_is (some (.int (nI (pB ps i)))) (cw L xs g tc tf bl bf of oc ol on ml mx mb kc kh kr ka gl gx gb ls lq lk lg lh vf vs vb nv nw nr nq ne io sp ch wt xf xz xt xb (nI ps.length))) := by
  refine XE (pl := [some (.ref 98), some (.int (nI i))]) xg103 rfl ?_
  have hl := hV.1
  refine x_step rfl ?_
  refine x_ifN_lt (i) rfl rfl (fun q => False.elim (by omega)) (fun _ => ?_)
  iterate 3 refine x_step rfl ?_
  refine x_icmpN_ge (i) (ps.length) rfl rfl rfl (fun h => ?_) (fun h => ?_)
  · iterate 2 refine x_step rfl ?_
    exact x_iret rfl rfl rfl ⟨by rw [pB_out h], rfl⟩
  · iterate 3 refine x_step rfl ?_
    refine x_ialdN (i) rfl rfl rfl (by omega) ?_
    refine x_step rfl ?_
    exact x_iret rfl rfl rfl ⟨by rw [(itA_at hA h).2.2.2], rfl⟩
/-- Items.formatOf -/
theorem n107 (hβ : ∀ i, β i < 256) (hA : itA β xf xz xt xb 0 ps) (hV : itV β ps) (i : Nat) (hi : i < 2 ^ 30) : XM l 107 d 0 0 [.ref 98, .int (nI i)] (cw L xs g tc tf bl bf of oc ol on ml mx mb kc kh kr ka gl gx gb ls lq lk lg lh vf vs vb nv nw nr nq ne io sp ch wt xf xz xt xb (nI ps.length)) (xm_is (some (.int (if i < ps.length then nI (pF β ps i) else -1))) (cw L xs g tc tf bl bf of oc ol on ml mx mb kc kh kr ka gl gx gb ls lq lk lg lh vf vs vb nv nw nr nq ne io sp ch wt xf xz xt xb (nI ps.length))) := by
  refine XE (pl := [some (.ref 98), some (.int (nI i))]) xg107 rfl ?_
  have hl := hV.1
  refine x_step rfl ?_
  refine x_ifN_lt (i) rfl rfl (fun q => False.elim (by omega)) (fun _ => ?_)
  iterate 3 refine x_step rfl ?_
  refine x_icmpN_ge (i) (ps.length) rfl rfl rfl (fun h => ?_) (fun h => ?_)
  · refine x_step rfl ?_
    exact x_iret rfl rfl rfl ⟨by rw [if_neg (by omega)], rfl⟩
  · iterate 3 refine x_step rfl ?_
    refine x_ialdN (i) rfl rfl rfl (by omega) ?_
    refine x_step rfl ?_
    exact x_iret rfl rfl rfl ⟨by rw [if_pos h, (itA_at hA h).1], rfl⟩
/-- Items.isOneByte -/
theorem n87 (hβ : ∀ i, β i < 256) (hA : itA β xf xz xt xb 0 ps) (hV : itV β ps) (i : Nat) (hi : i < 2 ^ 30) (f : Nat) (hf : f < 64) : XM l 87 d 0 0 [.ref 98, .int (nI i), .int (nI f)] (cw L xs g tc tf bl bf of oc ol on ml mx mb kc kh kr ka gl gx gb ls lq lk lg lh vf vs vb nv nw nr nq ne io sp ch wt xf xz xt xb (nI ps.length)) (xm_is (some (.int (bI (pOne β ps i f)))) (cw L xs g tc tf bl bf of oc ol on ml mx mb kc kh kr ka gl gx gb ls lq lk lg lh vf vs vb nv nw nr nq ne io sp ch wt xf xz xt xb (nI ps.length))) := by
  refine XE (pl := [some (.ref 98), some (.int (nI i)), some (.int (nI f))]) xg87 rfl ?_
  have hl := hV.1
  refine x_step rfl ?_
  refine x_ifN_lt (i) rfl rfl (fun q => False.elim (by omega)) (fun _ => ?_)
  iterate 3 refine x_step rfl ?_
  refine x_icmpN_ge (i) (ps.length) rfl rfl rfl (fun h => ?_) (fun h => ?_)
  · refine x_step rfl ?_
    exact x_iret rfl rfl rfl ⟨by rw [pOne, pF_out h, show ((64 == f) = false) from by simpa using (by omega : 64 ≠ f)]; rfl, rfl⟩
  · have hf2 := pF_lt (ps := ps) hβ i
    have hs2 := pS_lt (ps := ps) hβ i
    iterate 3 refine x_step rfl ?_
    refine x_ialdN (i) rfl rfl rfl (by omega) ?_
    refine x_step rfl ?_
    refine x_icmpN_ne (pF β ps i) (f) rfl (itA_at hA h).1 rfl (fun h2 => ?_) (fun h2 => ?_)
    · refine x_step rfl ?_
      exact x_iret rfl rfl rfl ⟨by rw [pOne, show (pF β ps i == f) = false from by simpa using h2]; rfl, rfl⟩
    · iterate 3 refine x_step rfl ?_
      refine x_ialdN (i) rfl rfl rfl (by omega) ?_
      refine x_step rfl ?_
      refine x_icmpN_ne (pS β ps i) (1) rfl (itA_at hA h).2.1 rfl (fun h3 => ?_) (fun h3 => ?_)
      · refine x_step rfl ?_
        exact x_iret rfl rfl rfl ⟨by rw [pOne, show (pS β ps i == 1) = false from by simpa using h3, Bool.and_false]; rfl, rfl⟩
      · iterate 2 refine x_step rfl ?_
        exact x_iret rfl rfl rfl ⟨by rw [pOne, h2, h3, beq_self_eq_true]; rfl, rfl⟩
/-- Items.isListOf -/
theorem n102 (hβ : ∀ i, β i < 256) (hA : itA β xf xz xt xb 0 ps) (hV : itV β ps) (i : Nat) (hi : i < 2 ^ 30) (n : Nat) (hn : n < 2 ^ 20) (hd : 1 ≤ d) : XM l 102 d 0 0 [.ref 98, .int (nI i), .int (nI n)] (cw L xs g tc tf bl bf of oc ol on ml mx mb kc kh kr ka gl gx gb ls lq lk lg lh vf vs vb nv nw nr nq ne io sp ch wt xf xz xt xb (nI ps.length)) (xm_is (some (.int (bI (pLst β ps i n)))) (cw L xs g tc tf bl bf of oc ol on ml mx mb kc kh kr ka gl gx gb ls lq lk lg lh vf vs vb nv nw nr nq ne io sp ch wt xf xz xt xb (nI ps.length))) := by
  refine XE (pl := [some (.ref 98), some (.int (nI i)), some (.int (nI n))]) xg102 rfl ?_
  iterate 2 refine x_step rfl ?_
  refine x_callvE rfl (n85 (d := 0) hβ hA hV i hi) rfl rfl rfl ?_
  refine x_if_eq rfl (fun h => ?_) (fun h => ?_)
  · refine x_step rfl ?_
    exact x_iret rfl rfl rfl ⟨by rw [pLst, bI_f h]; rfl, rfl⟩
  · have hs2 := pS_lt (ps := ps) hβ i
    iterate 2 refine x_step rfl ?_
    refine x_callvE rfl (n86 (d := 0) hβ hA hV i hi) rfl rfl rfl ?_
    refine x_step rfl ?_
    refine x_icmpN_ne (pS β ps i) (n) rfl rfl rfl (fun h3 => ?_) (fun h3 => ?_)
    · refine x_step rfl ?_
      exact x_iret rfl rfl rfl ⟨by rw [pLst, show (pS β ps i == n) = false from by simpa using h3, Bool.and_false]; rfl, rfl⟩
    · iterate 2 refine x_step rfl ?_
      exact x_iret rfl rfl rfl ⟨by rw [pLst, bI_t h, h3, beq_self_eq_true]; rfl, rfl⟩
/-- Items.byteOf -/
theorem n88 (hg : ∀ i, i < 130 → gb i = nI (β i)) (hβ : ∀ i, β i < 256) (hA : itA β xf xz xt xb 0 ps) (hV : itV β ps) (i : Nat) (hi : i < 2 ^ 30) (k : Nat) (hk : k < 2 ^ 20) (hd : 1 ≤ d) : XM l 88 d 0 0 [.ref 98, .int (nI i), .int (nI k)] (cw L xs g tc tf bl bf of oc ol on ml mx mb kc kh kr ka gl gx gb ls lq lk lg lh vf vs vb nv nw nr nq ne io sp ch wt xf xz xt xb (nI ps.length)) (xm_is (some (.int (nI (pY β ps i k)))) (cw L xs g tc tf bl bf of oc ol on ml mx mb kc kh kr ka gl gx gb ls lq lk lg lh vf vs vb nv nw nr nq ne io sp ch wt xf xz xt xb (nI ps.length))) := by
  refine XE (pl := [some (.ref 98), some (.int (nI i)), some (.int (nI k)), none]) xg88 rfl ?_
  iterate 2 refine x_step rfl ?_
  refine x_callvE rfl (m36 (d := 0) rfl) rfl rfl rfl ?_
  iterate 2 refine x_step rfl ?_
  refine x_ifN_lt (k) rfl rfl (fun q => False.elim (by omega)) (fun _ => ?_)
  have hs2 := pS_lt (ps := ps) hβ i
  have ht2 := pT_le (i := i) hV
  iterate 3 refine x_step rfl ?_
  refine x_callvE rfl (n86 (d := 0) hβ hA hV i hi) rfl rfl rfl ?_
  refine x_icmpN_ge (k) (pS β ps i) rfl rfl rfl (fun h => ?_) (fun h => ?_)
  · refine x_step rfl ?_
    exact x_iret rfl rfl rfl ⟨by rw [pY, if_neg (by omega)]; rfl, rfl⟩
  · have hl := hV.1
    have hil : i < ps.length := (Nat.not_le.mp fun z => by have := pS_out (β := β) z; omega)
    iterate 3 refine x_step rfl ?_
    refine x_ialdN (i) rfl rfl rfl (by omega) ?_
    iterate 3 refine x_step rfl ?_
    refine x_alen rfl rfl (Or.inl ⟨_, _, rfl⟩) rfl ?_
    refine x_icmpN_lt (pT β ps i + k) (130) rfl (by rw [(itA_at hA hil).2.2.1, nI_add]) rfl (fun h2 => ?_) (fun h2 => ?_)
    · iterate 4 refine x_step rfl ?_
      refine x_ialdN (i) rfl rfl rfl (by omega) ?_
      iterate 2 refine x_step rfl ?_
      refine x_ialdN (pT β ps i + k) rfl rfl (by rw [(itA_at hA hil).2.2.1, nI_add]) (by omega) ?_
      exact x_iret rfl rfl rfl ⟨by rw [pY, if_pos ⟨h, h2⟩, hg _ h2], rfl⟩
    · refine x_step rfl ?_
      exact x_iret rfl rfl rfl ⟨by rw [pY, if_neg (by omega)]; rfl, rfl⟩
/-- Items.numberOf -/
theorem n112 (hg : ∀ i, i < 130 → gb i = nI (β i)) (hβ : ∀ i, β i < 256) (hA : itA β xf xz xt xb 0 ps) (hV : itV β ps) (i : Nat) (hi : i < 2 ^ 30) (hd : 2 ≤ d) : XM l 112 d 0 0 [.ref 98, .int (nI i)] (cw L xs g tc tf bl bf of oc ol on ml mx mb kc kh kr ka gl gx gb ls lq lk lg lh vf vs vb nv nw nr nq ne io sp ch wt xf xz xt xb (nI ps.length)) (xm_is (some (.int (nI (pY β ps i 0)))) (cw L xs g tc tf bl bf of oc ol on ml mx mb kc kh kr ka gl gx gb ls lq lk lg lh vf vs vb nv nw nr nq ne io sp ch wt xf xz xt xb (nI ps.length))) := by
  refine XE (pl := [some (.ref 98), some (.int (nI i))]) xg112 rfl ?_
  iterate 3 refine x_step rfl ?_
  refine x_callvE rfl (n88 (d := 1) hg hβ hA hV i hi 0 (by decide) (by omega)) rfl rfl rfl ?_
  exact x_iret rfl rfl rfl ⟨rfl, rfl⟩
theorem n100_loop (hβ : ∀ i, β i < 256) (hA : itA β xf xz xt xb 0 ps) (hV : itV β ps) (it : Nat) (hi : it < 2 ^ 20) (hd : 1 ≤ d) : ∀ (m k : Nat) (b : Bool), k + m = pS β ps it + 1 → XW l 100 d 0 0 8 [some (.ref 98), some (.int (nI it)), some (.int (bI b)), some (.int (nI k))] [] (cw L xs g tc tf bl bf of oc ol on ml mx mb kc kh kr ka gl gx gb ls lq lk lg lh vf vs vb nv nw nr nq ne io sp ch wt xf xz xt xb (nI ps.length)) (xm_is (some (.int (bI (b && pAll (fun k => pOne β ps (it + k) 41) m k)))) (cw L xs g tc tf bl bf of oc ol on ml mx mb kc kh kr ka gl gx gb ls lq lk lg lh vf vs vb nv nw nr nq ne io sp ch wt xf xz xt xb (nI ps.length))) := by
  have hs2 := pS_lt (ps := ps) hβ it
  intro m
  induction m with
  | zero =>
    intro k b hk
    iterate 3 refine x_step rfl ?_
    refine x_callvE rfl (n86 (d := 0) hβ hA hV it (by omega)) rfl rfl rfl ?_
    refine x_icmpN_gt (k) (pS β ps it) rfl rfl rfl (fun _ => ?_) (fun q => False.elim (by omega))
    refine x_step rfl ?_
    exact x_iret rfl rfl (bI_n _) ⟨by rw [pAll, Bool.and_true], rfl⟩
  | succ m ih =>
    intro k b hk
    iterate 3 refine x_step rfl ?_
    refine x_callvE rfl (n86 (d := 0) hβ hA hV it (by omega)) rfl rfl rfl ?_
    refine x_icmpN_gt (k) (pS β ps it) rfl rfl rfl (fun q => False.elim (by omega)) (fun _ => ?_)
    refine x_step rfl ?_
    refine x_if_eq rfl (fun h => ?_) (fun h => ?_)
    · refine x_step rfl ?_
      exact x_iret rfl rfl (bI_n _) ⟨by rw [bI_f h]; rfl, rfl⟩
    · iterate 4 refine x_step rfl ?_
      refine xm_ss (st' := [.int (nI (it + k)), .ref 98]) (by rw [nI_add] <;> rfl) ?_
      refine x_step rfl ?_
      refine x_callvE rfl (n87 (d := 0) hβ hA hV (it + k) (by omega) 41 (by decide)) rfl rfl rfl ?_
      iterate 3 refine x_step rfl ?_
      refine xm_ls (pl' := [some (.ref 98), some (.int (nI it)), some (.int (bI (pOne β ps (it + k) 41))), some (.int (nI (k + 1)))]) (by rw [nI_succ] <;> rfl) ?_
      rw [bI_t h, Bool.true_and, pAll]
      exact ih (k + 1) (pOne β ps (it + k) 41) (by omega)
/-- Items.isNumbers -/
theorem n100 (hβ : ∀ i, β i < 256) (hA : itA β xf xz xt xb 0 ps) (hV : itV β ps) (it : Nat) (hi : it < 2 ^ 20) (hd : 1 ≤ d) : XM l 100 d 0 0 [.ref 98, .int (nI it)] (cw L xs g tc tf bl bf of oc ol on ml mx mb kc kh kr ka gl gx gb ls lq lk lg lh vf vs vb nv nw nr nq ne io sp ch wt xf xz xt xb (nI ps.length)) (xm_is (some (.int (bI (pNums β ps it)))) (cw L xs g tc tf bl bf of oc ol on ml mx mb kc kh kr ka gl gx gb ls lq lk lg lh vf vs vb nv nw nr nq ne io sp ch wt xf xz xt xb (nI ps.length))) := by
  refine XE (pl := [some (.ref 98), some (.int (nI it)), none, none]) xg100 rfl ?_
  iterate 2 refine x_step rfl ?_
  refine x_callvE rfl (n85 (d := 0) hβ hA hV it (by omega)) rfl rfl rfl ?_
  iterate 3 refine x_step rfl ?_
  refine xm_ls (pl' := [some (.ref 98), some (.int (nI it)), some (.int (bI (pF β ps it == 0))), some (.int (nI 1))]) rfl ?_
  exact n100_loop hβ hA hV it hi hd (pS β ps it) 1 (pF β ps it == 0) (by omega)
theorem n101_loop (hβ : ∀ i, β i < 256) (hA : itA β xf xz xt xb 0 ps) (hV : itV β ps) (hd : 3 ≤ d) : ∀ (m i r : Nat) (b : Bool), i + m = pS β ps 0 → r ≤ 60 → XW l 101 d 0 0 10 [some (.ref 98), some (.int (bI b)), some (.int (nI r)), some (.int (nI i))] [] (cw L xs g tc tf bl bf of oc ol on ml mx mb kc kh kr ka gl gx gb ls lq lk lg lh vf vs vb nv nw nr nq ne io sp ch wt xf xz xt xb (nI ps.length)) (xm_is (some (.int (bI (b && pRow ps (fun i => pLst β ps i 2 && pOne β ps (i + 1) 41) m r)))) (cw L xs g tc tf bl bf of oc ol on ml mx mb kc kh kr ka gl gx gb ls lq lk lg lh vf vs vb nv nw nr nq ne io sp ch wt xf xz xt xb (nI ps.length))) := by
  have hs2 := pS_lt (ps := ps) hβ 0
  intro m
  induction m with
  | zero =>
    intro i r b hk hr
    iterate 3 refine x_step rfl ?_
    refine x_callvE rfl (n86 (d := 0) hβ hA hV 0 (by decide)) rfl rfl rfl ?_
    refine x_icmpN_ge (i) (pS β ps 0) rfl rfl rfl (fun _ => ?_) (fun q => False.elim (by omega))
    refine x_step rfl ?_
    exact x_iret rfl rfl (bI_n _) ⟨by rw [pRow, Bool.and_true], rfl⟩
  | succ m ih =>
    intro i r b hk hr
    have hb := Nat.le_trans (pB_le hV r) hV.1
    iterate 3 refine x_step rfl ?_
    refine x_callvE rfl (n86 (d := 0) hβ hA hV 0 (by decide)) rfl rfl rfl ?_
    refine x_icmpN_ge (i) (pS β ps 0) rfl rfl rfl (fun q => False.elim (by omega)) (fun _ => ?_)
    refine x_step rfl ?_
    refine x_if_eq rfl (fun h => ?_) (fun h => ?_)
    · refine x_step rfl ?_
      exact x_iret rfl rfl (bI_n _) ⟨by rw [bI_f h]; rfl, rfl⟩
    · rw [bI_t h, Bool.true_and, pRow]
      iterate 3 refine x_step rfl ?_
      refine x_callvE rfl (n102 (d := 1) hβ hA hV r (by omega) 2 (by decide) (by omega)) rfl rfl rfl ?_
      refine x_if_eq rfl (fun h1 => ?_) (fun h1 => ?_)
      · iterate 4 refine x_step rfl ?_
        refine x_callvE rfl (n103 (d := 0) hβ hA hV r (by omega)) rfl rfl rfl ?_
        iterate 3 refine x_step rfl ?_
        refine xm_ls (pl' := [some (.ref 98), some (.int (bI false)), some (.int (nI (pB ps r))), some (.int (nI (i + 1)))]) (by rw [nI_succ] <;> rfl) ?_
        rw [show (pLst β ps r 2 && pOne β ps (r + 1) 41) = false from by rw [bI_f h1]; rfl]
        exact ih (i + 1) (pB ps r) false (by omega) hb
      · iterate 4 refine x_step rfl ?_
        refine xm_ss (st' := [.int (nI (r + 1)), .ref 98]) (by rw [nI_1] <;> rfl) ?_
        refine x_step rfl ?_
        refine x_callvE rfl (n87 (d := 0) hβ hA hV (r + 1) (by omega) 41 (by decide)) rfl rfl rfl ?_
        refine x_if_eq rfl (fun h2 => ?_) (fun h2 => ?_)
        · iterate 4 refine x_step rfl ?_
          refine x_callvE rfl (n103 (d := 0) hβ hA hV r (by omega)) rfl rfl rfl ?_
          iterate 3 refine x_step rfl ?_
          refine xm_ls (pl' := [some (.ref 98), some (.int (bI false)), some (.int (nI (pB ps r))), some (.int (nI (i + 1)))]) (by rw [nI_succ] <;> rfl) ?_
          rw [show (pLst β ps r 2 && pOne β ps (r + 1) 41) = false from by rw [bI_f h2, Bool.and_false]]
          exact ih (i + 1) (pB ps r) false (by omega) hb
        · iterate 5 refine x_step rfl ?_
          refine x_callvE rfl (n103 (d := 0) hβ hA hV r (by omega)) rfl rfl rfl ?_
          iterate 3 refine x_step rfl ?_
          refine xm_ls (pl' := [some (.ref 98), some (.int (bI true)), some (.int (nI (pB ps r))), some (.int (nI (i + 1)))]) (by rw [nI_succ] <;> rfl) ?_
          rw [show (pLst β ps r 2 && pOne β ps (r + 1) 41) = true from by rw [bI_t h1, bI_t h2]; rfl]
          exact ih (i + 1) (pB ps r) true (by omega) hb
/-- Items.isPairs -/
theorem n101 (hβ : ∀ i, β i < 256) (hA : itA β xf xz xt xb 0 ps) (hV : itV β ps) (hd : 3 ≤ d) : XM l 101 d 0 0 [.ref 98] (cw L xs g tc tf bl bf of oc ol on ml mx mb kc kh kr ka gl gx gb ls lq lk lg lh vf vs vb nv nw nr nq ne io sp ch wt xf xz xt xb (nI ps.length)) (xm_is (some (.int (bI (pPairs β ps)))) (cw L xs g tc tf bl bf of oc ol on ml mx mb kc kh kr ka gl gx gb ls lq lk lg lh vf vs vb nv nw nr nq ne io sp ch wt xf xz xt xb (nI ps.length))) := by
  refine XE (pl := [some (.ref 98), none, none, none]) xg101 rfl ?_
  iterate 2 refine x_step rfl ?_
  refine x_callvE rfl (n85 (d := 0) hβ hA hV 0 (by decide)) rfl rfl rfl ?_
  iterate 5 refine x_step rfl ?_
  refine xm_ls (pl' := [some (.ref 98), some (.int (bI (pF β ps 0 == 0))), some (.int (nI 1)), some (.int (nI 0))]) rfl ?_
  exact n101_loop hβ hA hV hd (pS β ps 0) 0 1 (pF β ps 0 == 0) (by omega) (by decide)
theorem n104_loop (hβ : ∀ i, β i < 256) (hA : itA β xf xz xt xb 0 ps) (hV : itV β ps) (hd : 3 ≤ d) : ∀ (m i r : Nat) (b : Bool), i + m = pS β ps 2 → r ≤ 60 → XW l 104 d 0 0 37 [some (.ref 98), some (.int (bI b)), some (.int (nI r)), some (.int (nI i))] [] (cw L xs g tc tf bl bf of oc ol on ml mx mb kc kh kr ka gl gx gb ls lq lk lg lh vf vs vb nv nw nr nq ne io sp ch wt xf xz xt xb (nI ps.length)) (xm_is (some (.int (bI (b && pRow ps (fun i => pLst β ps i 2 && (pOne β ps (i + 1) 41 && pNums β ps (i + 2))) m r)))) (cw L xs g tc tf bl bf of oc ol on ml mx mb kc kh kr ka gl gx gb ls lq lk lg lh vf vs vb nv nw nr nq ne io sp ch wt xf xz xt xb (nI ps.length))) := by
  have hs2 := pS_lt (ps := ps) hβ 2
  intro m
  induction m with
  | zero =>
    intro i r b hk hr
    iterate 3 refine x_step rfl ?_
    refine x_callvE rfl (n86 (d := 0) hβ hA hV 2 (by decide)) rfl rfl rfl ?_
    refine x_icmpN_ge (i) (pS β ps 2) rfl rfl rfl (fun _ => ?_) (fun q => False.elim (by omega))
    refine x_step rfl ?_
    exact x_iret rfl rfl (bI_n _) ⟨by rw [pRow, Bool.and_true], rfl⟩
  | succ m ih =>
    intro i r b hk hr
    have hb := Nat.le_trans (pB_le hV r) hV.1
    iterate 3 refine x_step rfl ?_
    refine x_callvE rfl (n86 (d := 0) hβ hA hV 2 (by decide)) rfl rfl rfl ?_
    refine x_icmpN_ge (i) (pS β ps 2) rfl rfl rfl (fun q => False.elim (by omega)) (fun _ => ?_)
    refine x_step rfl ?_
    refine x_if_eq rfl (fun h => ?_) (fun h => ?_)
    · refine x_step rfl ?_
      exact x_iret rfl rfl (bI_n _) ⟨by rw [bI_f h]; rfl, rfl⟩
    · rw [bI_t h, Bool.true_and, pRow]
      iterate 3 refine x_step rfl ?_
      refine x_callvE rfl (n102 (d := 1) hβ hA hV r (by omega) 2 (by decide) (by omega)) rfl rfl rfl ?_
      refine x_if_eq rfl (fun h1 => ?_) (fun h1 => ?_)
      · iterate 4 refine x_step rfl ?_
        refine x_callvE rfl (n103 (d := 0) hβ hA hV r (by omega)) rfl rfl rfl ?_
        iterate 3 refine x_step rfl ?_
        refine xm_ls (pl' := [some (.ref 98), some (.int (bI false)), some (.int (nI (pB ps r))), some (.int (nI (i + 1)))]) (by rw [nI_succ] <;> rfl) ?_
        rw [show (pLst β ps r 2 && (pOne β ps (r + 1) 41 && pNums β ps (r + 2))) = false from by rw [bI_f h1]; rfl]
        exact ih (i + 1) (pB ps r) false (by omega) hb
      · iterate 4 refine x_step rfl ?_
        refine xm_ss (st' := [.int (nI (r + 1)), .ref 98]) (by rw [nI_1] <;> rfl) ?_
        refine x_step rfl ?_
        refine x_callvE rfl (n87 (d := 0) hβ hA hV (r + 1) (by omega) 41 (by decide)) rfl rfl rfl ?_
        refine x_if_eq rfl (fun h2 => ?_) (fun h2 => ?_)
        · iterate 4 refine x_step rfl ?_
          refine x_callvE rfl (n103 (d := 0) hβ hA hV r (by omega)) rfl rfl rfl ?_
          iterate 3 refine x_step rfl ?_
          refine xm_ls (pl' := [some (.ref 98), some (.int (bI false)), some (.int (nI (pB ps r))), some (.int (nI (i + 1)))]) (by rw [nI_succ] <;> rfl) ?_
          rw [show (pLst β ps r 2 && (pOne β ps (r + 1) 41 && pNums β ps (r + 2))) = false from by rw [bI_f h2, Bool.false_and, Bool.and_false]]
          exact ih (i + 1) (pB ps r) false (by omega) hb
        · iterate 4 refine x_step rfl ?_
          refine xm_ss (st' := [.int (nI (r + 2)), .ref 98]) (by rw [show nI r + 2 = nI (r + 2) from nI_add r 2] <;> rfl) ?_
          refine x_callvE rfl (n100 (d := 2) hβ hA hV (r + 2) (by omega) (by omega)) rfl rfl rfl ?_
          refine x_if_eq rfl (fun h3 => ?_) (fun h3 => ?_)
          · iterate 4 refine x_step rfl ?_
            refine x_callvE rfl (n103 (d := 0) hβ hA hV r (by omega)) rfl rfl rfl ?_
            iterate 3 refine x_step rfl ?_
            refine xm_ls (pl' := [some (.ref 98), some (.int (bI false)), some (.int (nI (pB ps r))), some (.int (nI (i + 1)))]) (by rw [nI_succ] <;> rfl) ?_
            rw [show (pLst β ps r 2 && (pOne β ps (r + 1) 41 && pNums β ps (r + 2))) = false from by rw [bI_f h3, Bool.and_false, Bool.and_false]]
            exact ih (i + 1) (pB ps r) false (by omega) hb
          · iterate 5 refine x_step rfl ?_
            refine x_callvE rfl (n103 (d := 0) hβ hA hV r (by omega)) rfl rfl rfl ?_
            iterate 3 refine x_step rfl ?_
            refine xm_ls (pl' := [some (.ref 98), some (.int (bI true)), some (.int (nI (pB ps r))), some (.int (nI (i + 1)))]) (by rw [nI_succ] <;> rfl) ?_
            rw [show (pLst β ps r 2 && (pOne β ps (r + 1) 41 && pNums β ps (r + 2))) = true from by rw [bI_t h1, bI_t h2, bI_t h3]; rfl]
            exact ih (i + 1) (pB ps r) true (by omega) hb
/-- Items.isTable -/
theorem n104 (hβ : ∀ i, β i < 256) (hA : itA β xf xz xt xb 0 ps) (hV : itV β ps) (hd : 3 ≤ d) : XM l 104 d 0 0 [.ref 98] (cw L xs g tc tf bl bf of oc ol on ml mx mb kc kh kr ka gl gx gb ls lq lk lg lh vf vs vb nv nw nr nq ne io sp ch wt xf xz xt xb (nI ps.length)) (xm_is (some (.int (bI (pTable β ps)))) (cw L xs g tc tf bl bf of oc ol on ml mx mb kc kh kr ka gl gx gb ls lq lk lg lh vf vs vb nv nw nr nq ne io sp ch wt xf xz xt xb (nI ps.length))) := by
  refine XE (pl := [some (.ref 98), none, none, none]) xg104 rfl ?_
  iterate 3 refine x_step rfl ?_
  refine x_callvE rfl (n102 (d := 1) hβ hA hV 0 (by decide) 2 (by decide) (by omega)) rfl rfl rfl ?_
  refine x_if_eq rfl (fun h1 => ?_) (fun h1 => ?_)
  · iterate 6 refine x_step rfl ?_
    refine xm_ls (pl' := [some (.ref 98), some (.int (bI false)), some (.int (nI 3)), some (.int (nI 0))]) rfl ?_
    rw [pTable, show (pLst β ps 0 2 && (pOne β ps 1 41 && pF β ps 2 == 0)) = false from by rw [bI_f h1]; rfl]
    exact n104_loop hβ hA hV hd (pS β ps 2) 0 3 false (by omega) (by decide)
  · iterate 3 refine x_step rfl ?_
    refine x_callvE rfl (n87 (d := 0) hβ hA hV 1 (by decide) 41 (by decide)) rfl rfl rfl ?_
    refine x_if_eq rfl (fun h2 => ?_) (fun h2 => ?_)
    · iterate 6 refine x_step rfl ?_
      refine xm_ls (pl' := [some (.ref 98), some (.int (bI false)), some (.int (nI 3)), some (.int (nI 0))]) rfl ?_
      rw [pTable, show (pLst β ps 0 2 && (pOne β ps 1 41 && pF β ps 2 == 0)) = false from by rw [bI_f h2, Bool.false_and, Bool.and_false]]
      exact n104_loop hβ hA hV hd (pS β ps 2) 0 3 false (by omega) (by decide)
    · iterate 2 refine x_step rfl ?_
      refine x_callvE rfl (n85 (d := 0) hβ hA hV 2 (by decide)) rfl rfl rfl ?_
      refine x_if_eq rfl (fun h3 => ?_) (fun h3 => ?_)
      · iterate 6 refine x_step rfl ?_
        refine xm_ls (pl' := [some (.ref 98), some (.int (bI false)), some (.int (nI 3)), some (.int (nI 0))]) rfl ?_
        rw [pTable, show (pLst β ps 0 2 && (pOne β ps 1 41 && pF β ps 2 == 0)) = false from by rw [bI_f h3, Bool.and_false, Bool.and_false]]
        exact n104_loop hβ hA hV hd (pS β ps 2) 0 3 false (by omega) (by decide)
      · iterate 7 refine x_step rfl ?_
        refine xm_ls (pl' := [some (.ref 98), some (.int (bI true)), some (.int (nI 3)), some (.int (nI 0))]) rfl ?_
        rw [pTable, show (pLst β ps 0 2 && (pOne β ps 1 41 && pF β ps 2 == 0)) = true from by rw [bI_t h1, bI_t h2, bI_t h3]; rfl]
        exact n104_loop hβ hA hV hd (pS β ps 2) 0 3 true (by omega) (by decide)
/-- Items.isSwitch -/
theorem n105 (hβ : ∀ i, β i < 256) (hA : itA β xf xz xt xb 0 ps) (hV : itV β ps) (hd : 2 ≤ d) : XM l 105 d 0 0 [.ref 98] (cw L xs g tc tf bl bf of oc ol on ml mx mb kc kh kr ka gl gx gb ls lq lk lg lh vf vs vb nv nw nr nq ne io sp ch wt xf xz xt xb (nI ps.length)) (xm_is (some (.int (bI (pSwitch β ps)))) (cw L xs g tc tf bl bf of oc ol on ml mx mb kc kh kr ka gl gx gb ls lq lk lg lh vf vs vb nv nw nr nq ne io sp ch wt xf xz xt xb (nI ps.length))) := by
  refine XE (pl := [some (.ref 98)]) xg105 rfl ?_
  iterate 3 refine x_step rfl ?_
  refine x_callvE rfl (n102 (d := 1) hβ hA hV 0 (by decide) 2 (by decide) (by omega)) rfl rfl rfl ?_
  refine x_if_eq rfl (fun h1 => ?_) (fun h1 => ?_)
  · refine x_step rfl ?_
    exact x_iret rfl rfl rfl ⟨by rw [pSwitch, bI_f h1]; rfl, rfl⟩
  · iterate 3 refine x_step rfl ?_
    refine x_callvE rfl (n87 (d := 0) hβ hA hV 1 (by decide) 9 (by decide)) rfl rfl rfl ?_
    refine x_if_eq rfl (fun h2 => ?_) (fun h2 => ?_)
    · refine x_step rfl ?_
      exact x_iret rfl rfl rfl ⟨by rw [pSwitch, bI_f h2, Bool.false_and, Bool.and_false]; rfl, rfl⟩
    · iterate 2 refine x_step rfl ?_
      refine x_callvE rfl (n100 (d := 1) hβ hA hV 2 (by decide) (by omega)) rfl rfl rfl ?_
      refine x_if_eq rfl (fun h3 => ?_) (fun h3 => ?_)
      · refine x_step rfl ?_
        exact x_iret rfl rfl rfl ⟨by rw [pSwitch, bI_f h3, Bool.and_false, Bool.and_false]; rfl, rfl⟩
      · iterate 2 refine x_step rfl ?_
        exact x_iret rfl rfl rfl ⟨by rw [pSwitch, bI_t h1, bI_t h2, bI_t h3]; rfl, rfl⟩
/-- Items.isCommand -/
theorem n106 (hβ : ∀ i, β i < 256) (hA : itA β xf xz xt xb 0 ps) (hV : itV β ps) (hd : 2 ≤ d) : XM l 106 d 0 0 [.ref 98] (cw L xs g tc tf bl bf of oc ol on ml mx mb kc kh kr ka gl gx gb ls lq lk lg lh vf vs vb nv nw nr nq ne io sp ch wt xf xz xt xb (nI ps.length)) (xm_is (some (.int (bI (pCmd β ps)))) (cw L xs g tc tf bl bf of oc ol on ml mx mb kc kh kr ka gl gx gb ls lq lk lg lh vf vs vb nv nw nr nq ne io sp ch wt xf xz xt xb (nI ps.length))) := by
  refine XE (pl := [some (.ref 98)]) xg106 rfl ?_
  iterate 3 refine x_step rfl ?_
  refine x_callvE rfl (n102 (d := 1) hβ hA hV 0 (by decide) 2 (by decide) (by omega)) rfl rfl rfl ?_
  refine x_if_eq rfl (fun h1 => ?_) (fun h1 => ?_)
  · refine x_step rfl ?_
    exact x_iret rfl rfl rfl ⟨by rw [pCmd, bI_f h1]; rfl, rfl⟩
  · iterate 2 refine x_step rfl ?_
    refine x_callvE rfl (n107 (d := 0) hβ hA hV 1 (by decide)) rfl rfl rfl ?_
    refine x_step rfl ?_
    refine x_icmp_ne rfl (fun h2 => ?_) (fun h2 => ?_)
    · refine x_step rfl ?_
      exact x_iret rfl rfl rfl ⟨by rw [pCmd, show (pF β ps 1 == 16) = false from pF16n hβ h2, Bool.false_and, Bool.and_false]; rfl, rfl⟩
    · have hb := Nat.le_trans (pB_le hV 1) hV.1
      iterate 3 refine x_step rfl ?_
      refine x_callvE rfl (n103 (d := 0) hβ hA hV 1 (by decide)) rfl rfl rfl ?_
      refine x_callvE rfl (n85 (d := 0) hβ hA hV (pB ps 1) (by omega)) rfl rfl rfl ?_
      refine x_if_eq rfl (fun h3 => ?_) (fun h3 => ?_)
      · refine x_step rfl ?_
        exact x_iret rfl rfl rfl ⟨by rw [pCmd, bI_f h3, Bool.and_false, Bool.and_false]; rfl, rfl⟩
      · iterate 2 refine x_step rfl ?_
        exact x_iret rfl rfl rfl ⟨by rw [pCmd, bI_t h1, bI_t h3, show (pF β ps 1 == 16) = true from pF16y hβ h2]; rfl, rfl⟩
/-- Items.isGreetingTaken -/
theorem n84 (hg : ∀ i, i < 130 → gb i = nI (β i)) (hβ : ∀ i, β i < 256) (hA : itA β xf xz xt xb 0 ps) (hV : itV β ps) (hd : 2 ≤ d) : XM l 84 d 0 0 [.ref 98] (cw L xs g tc tf bl bf of oc ol on ml mx mb kc kh kr ka gl gx gb ls lq lk lg lh vf vs vb nv nw nr nq ne io sp ch wt xf xz xt xb (nI ps.length)) (xm_is (some (.int (bI (pGreet β ps)))) (cw L xs g tc tf bl bf of oc ol on ml mx mb kc kh kr ka gl gx gb ls lq lk lg lh vf vs vb nv nw nr nq ne io sp ch wt xf xz xt xb (nI ps.length))) := by
  refine XE (pl := [some (.ref 98)]) xg84 rfl ?_
  iterate 2 refine x_step rfl ?_
  refine x_callvE rfl (n85 (d := 0) hβ hA hV 0 (by decide)) rfl rfl rfl ?_
  refine x_if_eq rfl (fun h1 => ?_) (fun h1 => ?_)
  · refine x_step rfl ?_
    exact x_iret rfl rfl rfl ⟨by rw [pGreet, bI_f h1]; rfl, rfl⟩
  · have hs2 := pS_lt (ps := ps) hβ 0
    iterate 2 refine x_step rfl ?_
    refine x_callvE rfl (n86 (d := 0) hβ hA hV 0 (by decide)) rfl rfl rfl ?_
    refine x_ifN_le (pS β ps 0) rfl rfl (fun h2 => ?_) (fun h2 => ?_)
    · refine x_step rfl ?_
      exact x_iret rfl rfl rfl ⟨by rw [pGreet, show decide (0 < pS β ps 0) = false from decide_eq_false (by omega), Bool.false_and, Bool.and_false]; rfl, rfl⟩
    · iterate 3 refine x_step rfl ?_
      refine x_callvE rfl (n87 (d := 0) hβ hA hV 1 (by decide) 8 (by decide)) rfl rfl rfl ?_
      refine x_if_eq rfl (fun h3 => ?_) (fun h3 => ?_)
      · refine x_step rfl ?_
        exact x_iret rfl rfl rfl ⟨by rw [pGreet, bI_f h3, Bool.false_and, Bool.and_false, Bool.and_false]; rfl, rfl⟩
      · have hy : pY β ps 1 0 < 256 := by unfold pY; split; exact hβ _; decide
        iterate 3 refine x_step rfl ?_
        refine x_callvE rfl (n88 (d := 1) hg hβ hA hV 1 (by decide) 0 (by decide) (by omega)) rfl rfl rfl ?_
        refine x_ifN_ne (pY β ps 1 0) rfl rfl (fun h4 => ?_) (fun h4 => ?_)
        · refine x_step rfl ?_
          exact x_iret rfl rfl rfl ⟨by rw [pGreet, show (pY β ps 1 0 == 0) = false from by simpa using h4, Bool.and_false, Bool.and_false, Bool.and_false]; rfl, rfl⟩
        · iterate 2 refine x_step rfl ?_
          exact x_iret rfl rfl rfl ⟨by rw [pGreet, bI_t h1, bI_t h3, h4, show decide (0 < pS β ps 0) = true from decide_eq_true (by omega)]; rfl, rfl⟩
end EC7
