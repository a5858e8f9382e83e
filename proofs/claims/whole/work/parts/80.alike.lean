section RE10
variable {β β' : Nat → Nat} {e : Nat} {ps : List (Nat × Nat)}
/-- the two blocks read alike as items -/
def pE (β β' : Nat → Nat) (ps : List (Nat × Nat)) : Prop := pF β ps = pF β' ps ∧ pS β ps = pS β' ps ∧ pY β ps = pY β' ps
theorem itZ_E {p : Nat} : ∀ k, (∀ j, j < k → β (p + 1 + j) = β' (p + 1 + j)) → itZ β p k = itZ β' p k := by
  intro k
  induction k with
  | zero => intro _; rfl
  | succ k ih => intro h; rw [itZ, itZ, ih (fun j hj => h j (by omega)), h k (by omega)]
theorem it_E (h : ∀ i, i < e → β i = β' i) {p : Nat} (hp : p < e) : itK β p = itK β' p ∧ itF β p = itF β' p ∧ itT β p = itT β' p ∧ (itT β p ≤ e → itS β p = itS β' p) := by
  have hk : itK β p = itK β' p := by unfold itK; rw [h p hp]
  refine ⟨hk, by unfold itF; rw [h p hp], by unfold itT; rw [hk], fun hT => ?_⟩
  unfold itS
  rw [← hk]
  unfold itT at hT
  exact itZ_E _ (fun j hj => h _ (by omega))
theorem itR_E (h : ∀ i, i < e → β i = β' i) : ∀ D, itR β e D = itR β' e D := by
  intro D
  induction D with
  | zero =>
    funext p
    rw [itR_eq, itR_eq (β := β')]
    by_cases hp : p < e
    · obtain ⟨k1, k2, k3, k4⟩ := it_E h hp
      by_cases hT : itT β p ≤ e
      · have hl : itLeaf β e p = itLeaf β' e p := by unfold itLeaf; rw [k2, k3, k4 hT]
        have hL : itL β e 0 (itS β p) (itT β p) = itL β' e 0 (itS β' p) (itT β' p) := rfl
        rw [hl, hL, k1, k2, k3]
      · rw [if_neg (fun z => hT z.2.2), if_neg (fun z => hT (by rw [k3]; exact z.2.2))]
    · rw [if_neg (fun z => hp z.1), if_neg (fun z => hp z.1)]
  | succ D ih =>
    funext p
    rw [itR_eq, itR_eq (β := β')]
    by_cases hp : p < e
    · obtain ⟨k1, k2, k3, k4⟩ := it_E h hp
      by_cases hT : itT β p ≤ e
      · have hl : itLeaf β e p = itLeaf β' e p := by unfold itLeaf; rw [k2, k3, k4 hT]
        have hL : itL β e (D + 1) (itS β p) (itT β p) = itL β' e (D + 1) (itS β' p) (itT β' p) := by
          show itI (itR β e D) _ _ = itI (itR β' e D) _ _
          rw [ih, k4 hT, k3]
        rw [hl, hL, k1, k2, k3]
      · rw [if_neg (fun z => hT z.2.2), if_neg (fun z => hT (by rw [k3]; exact z.2.2))]
    · rw [if_neg (fun z => hp z.1), if_neg (fun z => hp z.1)]
theorem itB_E (h : ∀ i, i < e → β i = β' i) : itB β e = itB β' e := by
  unfold itB
  rw [itR_E h 6]
theorem itI_in {f : Nat → itO} {P : Nat × Nat → Prop} (hf : ∀ q ps r, f q = some (ps, r) → ∀ x ∈ ps, P x) : ∀ m q ps r, itI f m q = some (ps, r) → ∀ x ∈ ps, P x := by
  intro m
  induction m with
  | zero =>
    intro q ps r h x hx
    cases h
    cases hx
  | succ m ih =>
    intro q ps r h x hx
    rw [itI] at h
    cases h1 : f q with
    | none => rw [h1] at h; cases h
    | some a =>
      rw [h1] at h
      cases h2 : itI f m a.2 with
      | none => simp [h2] at h
      | some b =>
        simp [h2] at h
        obtain ⟨rfl, rfl⟩ := h
        rw [List.mem_append] at hx
        rcases hx with hx | hx
        · exact hf q a.1 a.2 h1 x hx
        · exact ih a.2 b.1 b.2 h2 x hx
theorem itI_cnt {f : Nat → itO} (hf : ∀ q ps r, f q = some (ps, r) → 1 ≤ ps.length) : ∀ m q ps r, itI f m q = some (ps, r) → m ≤ ps.length := by
  intro m
  induction m with
  | zero => intro q ps r _; exact Nat.zero_le _
  | succ m ih =>
    intro q ps r h
    rw [itI] at h
    cases h1 : f q with
    | none => rw [h1] at h; cases h
    | some a =>
      rw [h1] at h
      cases h2 : itI f m a.2 with
      | none => simp [h2] at h
      | some b =>
        simp [h2] at h
        obtain ⟨rfl, rfl⟩ := h
        have g1 := hf q a.1 a.2 h1
        have g2 := ih a.2 b.1 b.2 h2
        rw [List.length_append]
        omega
theorem itR_in : ∀ D p ps q, itR β e D p = some (ps, q) → ∀ x ∈ ps, x.1 < e ∧ itT β x.1 + itS β x.1 ≤ e := by
  intro D
  induction D with
  | zero =>
    intro p ps q h x hx
    rw [itR_eq] at h
    split at h
    next hc =>
      split at h
      · cases h
      · obtain ⟨rfl, rfl, h3⟩ := itLeaf_some h
        cases List.mem_singleton.mp hx
        exact ⟨hc.1, by show itT β p + itS β p ≤ e; omega⟩
    next => cases h
  | succ D ih =>
    intro p ps q h x hx
    rw [itR_eq] at h
    split at h
    next hc =>
      split at h
      · rw [show itL β e (D + 1) (itS β p) (itT β p) = itI (itR β e D) (itS β p) (itT β p) from rfl] at h
        cases h2 : itI (itR β e D) (itS β p) (itT β p) with
        | none => simp [h2] at h
        | some a =>
          simp [h2] at h
          obtain ⟨rfl, rfl⟩ := h
          rcases List.mem_cons.mp hx with rfl | hx
          · have g1 := itI_len (e := e) (fun q ps r z => itR_len D q ps r z) _ _ a.1 a.2 h2
            have g2 := itI_cnt (fun q ps r z => (List.getElem?_eq_some_iff.mp (itR_head D q ps r z).1).1) _ _ a.1 a.2 h2
            have g3 := g1.2 hc.2.2
            exact ⟨hc.1, by show itT β p + itS β p ≤ e; omega⟩
          · exact itI_in (fun q ps r z => ih q ps r z) _ _ a.1 a.2 h2 x hx
      · obtain ⟨rfl, rfl, h3⟩ := itLeaf_some h
        cases List.mem_singleton.mp hx
        exact ⟨hc.1, by show itT β p + itS β p ≤ e; omega⟩
    next => cases h
theorem itB_pE (hag : ∀ i, i < e → β i = β' i) (h : itB β e = some ps) : pE β β' ps := by
  have hin : ∀ x ∈ ps, x.1 < e ∧ itT β x.1 + itS β x.1 ≤ e := by
    unfold itB at h
    split at h
    · cases h
    next ps' q h1 =>
      split at h
      · cases h; exact itR_in 6 10 _ q h1
      · cases h
  have key : ∀ (i : Nat) (r : Nat × Nat), ps[i]? = some r → itF β r.1 = itF β' r.1 ∧ itS β r.1 = itS β' r.1 ∧ itT β r.1 = itT β' r.1 ∧ itT β r.1 + itS β r.1 ≤ e := by
    intro i r hr
    obtain ⟨h1, h2⟩ := hin r (List.mem_of_getElem? hr)
    obtain ⟨k1, k2, k3, k4⟩ := it_E hag h1
    exact ⟨k2, k4 (by omega), k3, h2⟩
  have hS : pS β ps = pS β' ps := by
    funext i
    unfold pS
    cases hi : ps[i]? with
    | none => rfl
    | some r => exact (key i r hi).2.1
  have hT : pT β ps = pT β' ps := by
    funext i
    unfold pT
    cases hi : ps[i]? with
    | none => rfl
    | some r => exact (key i r hi).2.2.1
  refine ⟨?_, hS, ?_⟩
  · funext i
    unfold pF
    cases hi : ps[i]? with
    | none => rfl
    | some r => exact (key i r hi).1
  · funext i k
    unfold pY
    rw [← hS, ← hT]
    by_cases hc : k < pS β ps i ∧ pT β ps i + k < 130
    · rw [if_pos hc, if_pos hc]
      apply hag
      cases hi : ps[i]? with
      | none => unfold pS at hc; rw [hi] at hc; exact absurd hc.1 (Nat.not_lt_zero _)
      | some r =>
        have h1 := (key i r hi).2.2.2
        have h2 : pS β ps i = itS β r.1 := by unfold pS; rw [hi]; rfl
        have h3 : pT β ps i = itT β r.1 := by unfold pT; rw [hi]; rfl
        rw [h2] at hc
        rw [h3]
        omega
    · rw [if_neg hc, if_neg hc]
theorem pOne_E (h : pE β β' ps) : pOne β ps = pOne β' ps := by
  funext i f
  unfold pOne
  rw [h.1, h.2.1]
theorem pLst_E (h : pE β β' ps) : pLst β ps = pLst β' ps := by
  funext i f
  unfold pLst
  rw [h.1, h.2.1]
theorem pNums_E (h : pE β β' ps) : pNums β ps = pNums β' ps := by
  funext i
  unfold pNums
  rw [h.1, h.2.1, pOne_E h]
theorem pPairs_E (h : pE β β' ps) : pPairs β ps = pPairs β' ps := by
  unfold pPairs
  rw [h.1, h.2.1, pOne_E h, pLst_E h]
theorem pTable_E (h : pE β β' ps) : pTable β ps = pTable β' ps := by
  unfold pTable
  rw [h.1, h.2.1, pOne_E h, pLst_E h, pNums_E h]
theorem pSwitch_E (h : pE β β' ps) : pSwitch β ps = pSwitch β' ps := by
  unfold pSwitch
  rw [pOne_E h, pLst_E h, pNums_E h]
theorem pCmd_E (h : pE β β' ps) : pCmd β ps = pCmd β' ps := by
  unfold pCmd
  rw [h.1, pLst_E h]
theorem pGreet_E (h : pE β β' ps) : pGreet β ps = pGreet β' ps := by
  unfold pGreet
  rw [h.1, h.2.1, h.2.2, pOne_E h]
theorem pEq_E (h : pE β β' ps) (i : Nat) : ∀ t k, pEq β ps i t k = pEq β' ps i t k := by
  intro t
  induction t with
  | nil => intro k; rfl
  | cons c t ih => intro k; rw [pEq, pEq, h.2.2, ih]
theorem pTx_E (h : pE β β' ps) (i : Nat) (t : List Nat) : pTx β ps i t = pTx β' ps i t := by
  unfold pTx
  rw [h.1, h.2.1, pEq_E h]
theorem cmdN_E (h : pE β β' ps) : cmdN β ps = cmdN β' ps := by
  unfold cmdN
  rw [pTx_E h, pTx_E h, pTx_E h, pTx_E h]
theorem pfP_E (h : pE β β' ps) : ∀ m p w, pfP β ps m p w = pfP β' ps m p w := by
  intro m
  induction m with
  | zero => intro p w; rfl
  | succ m ih => intro p w; rw [pfP, pfP, h.1, h.2.1, h.2.2, ih]
theorem vOne_E (h : pE β β' ps) : vOne β ps = vOne β' ps := by
  funext s v i
  unfold vOne pK
  rw [h.1, h.2.1, h.2.2]
theorem vAll_E (h : pE β β' ps) : ∀ m p s, vAll β ps m p s = vAll β' ps m p s := by
  intro m
  induction m with
  | zero => intro p s; rfl
  | succ m ih => intro p s; rw [vAll, vAll, h.2.2, vOne_E h, ih]
theorem dOne_E (h : pE β β' ps) : dOne β ps = dOne β' ps := by
  funext s r i
  unfold dOne
  rw [h.2.1, h.2.2]
theorem dAll_E (h : pE β β' ps) : ∀ m p s, dAll β ps m p s = dAll β' ps m p s := by
  intro m
  induction m with
  | zero => intro p s; rfl
  | succ m ih => intro p s; rw [dAll, dAll, h.2.2, dOne_E h, ih]
theorem dFin_E (h : pE β β' ps) (s : dS) : dFin β ps s = dFin β' ps s := by
  unfold dFin
  rw [h.2.1, dAll_E h]
theorem fvN_E (h : pE β β' ps) (p : Nat) : ∀ m k, fvN β ps p m k = fvN β' ps p m k := by
  intro m
  induction m with
  | zero => intro k; rfl
  | succ m ih => intro k; rw [fvN, fvN, h.2.2, ih]
theorem fR_E (h : pE β β' ps) (cv : Nat → Nat) (p : Nat) : fR β ps cv p = fR β' ps cv p := by
  unfold fR
  rw [h.2.1, h.2.2, fvN_E h]
theorem fRs_E (h : pE β β' ps) (cv : Nat → Nat) : ∀ m p, fRs β ps cv m p = fRs β' ps cv m p := by
  intro m
  induction m with
  | zero => intro p; rfl
  | succ m ih => intro p; rw [fRs, fRs, fR_E h, ih]
theorem lkOne_E (h : pE β β' ps) : lkOne β ps = lkOne β' ps := by
  funext s r i
  unfold lkOne
  rw [h.2.1, h.2.2]
theorem lkAll_E (h : pE β β' ps) : ∀ m p s, lkAll β ps m p s = lkAll β' ps m p s := by
  intro m
  induction m with
  | zero => intro p s; rfl
  | succ m ih => intro p s; rw [lkAll, lkAll, h.2.2, lkOne_E h, ih]
theorem fnN_E (h : pE β β' ps) (cv : Nat → Nat) (p : Nat) : ∀ m k, fnN β ps cv p m k = fnN β' ps cv p m k := by
  intro m
  induction m with
  | zero => intro k; rfl
  | succ m ih => intro k; rw [fnN, fnN, h.2.2, ih]
theorem fL_E (h : pE β β' ps) (cv : Nat → Nat) (p : Nat) : fL β ps cv p = fL β' ps cv p := by
  unfold fL
  rw [h.2.1, h.2.2, fnN_E h]
theorem fLs_E (h : pE β β' ps) (cv : Nat → Nat) : ∀ m p, fLs β ps cv m p = fLs β' ps cv m p := by
  intro m
  induction m with
  | zero => intro p; rfl
  | succ m ih => intro p; rw [fLs, fLs, fL_E h, ih]
theorem fEs_E (h : pE β β' ps) : ∀ m k, fEs β ps m k = fEs β' ps m k := by
  intro m
  induction m with
  | zero => intro k; rfl
  | succ m ih => intro k; rw [fEs, fEs, h.2.2, ih]
theorem enAll_E (h : pE β β' ps) (b : Bool) : ∀ m k s, enAll β ps b m k s = enAll β' ps b m k s := by
  intro m
  induction m with
  | zero => intro k s; rfl
  | succ m ih => intro k s; rw [enAll, enAll, h.2.2, ih]
theorem any_E {F : (Nat → Nat) → List (Nat × Nat) → Bool} (hF : ∀ ps, pE β β' ps → F β ps = F β' ps) (h : ∀ i, i < e → β i = β' i) : (itB β e).any (F β) = (itB β' e).any (F β') := by
  rw [← itB_E h]
  cases hB : itB β e with
  | none => rfl
  | some ps => exact hF ps (itB_pE h hB)
theorem dB_E (h : ∀ i, i < e → β i = β' i) (k : Nat) : dB β e k = dB β' e k := by
  unfold dB
  rw [any_E (F := fun β ps => pNums β ps 0) (fun ps z => by rw [pNums_E z]) h, any_E (F := pPairs) (fun ps z => pPairs_E z) h, any_E (F := pTable) (fun ps z => pTable_E z) h, any_E (F := pSwitch) (fun ps z => pSwitch_E z) h, any_E (F := pCmd) (fun ps z => pCmd_E z) h]
theorem dG_E (h : ∀ i, i < e → β i = β' i) : dG β e = dG β' e := any_E (F := pGreet) (fun ps z => pGreet_E z) h
theorem dK_E (h : ∀ i, i < e → β i = β' i) (he : 10 ≤ e) : dK β = dK β' := by
  unfold dK
  rw [h 2 (by omega), h 3 (by omega)]
end RE10
