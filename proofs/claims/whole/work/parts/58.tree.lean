/-! where the items of a body stand: the numbers of the one, the places of the other -/
section TREE
variable {β : Nat → Nat} {e : Nat} {ps : List (Nat × Nat)}
theorem itR_head : ∀ D p sub q, itR β e D p = some (sub, q) → sub[0]? = some (p, sub.length) ∧ p < e ∧ itT β p ≤ e := by
  intro D p sub q h
  rw [itR_eq] at h
  split at h
  next hc =>
    split at h
    · cases h2 : itL β e D (itS β p) (itT β p) with
      | none => simp [h2] at h
      | some a =>
        simp [h2] at h
        obtain ⟨rfl, rfl⟩ := h
        exact ⟨by simp [Nat.add_comm], hc.1, hc.2.2⟩
    · obtain ⟨rfl, rfl, -⟩ := itLeaf_some h
      exact ⟨rfl, hc.1, hc.2.2⟩
  next => cases h
theorem itI_split {f : Nat → itO} : ∀ k m q cs r, itI f (k + m) q = some (cs, r) → ∃ cs1 q1 cs2, itI f k q = some (cs1, q1) ∧ itI f m q1 = some (cs2, r) ∧ cs = cs1 ++ cs2 := by
  intro k
  induction k with
  | zero =>
    intro m q cs r h
    rw [Nat.zero_add] at h
    exact ⟨[], q, cs, rfl, h, rfl⟩
  | succ k ih =>
    intro m q cs r h
    rw [show k + 1 + m = (k + m) + 1 by omega, itI] at h
    cases h1 : f q with
    | none => rw [h1] at h; cases h
    | some a =>
      rw [h1] at h
      cases h2 : itI f (k + m) a.2 with
      | none => simp [h2] at h
      | some b =>
        simp [h2] at h
        obtain ⟨rfl, rfl⟩ := h
        obtain ⟨cs1, q1, cs2, g1, g2, g3⟩ := ih m a.2 b.1 b.2 h2
        refine ⟨a.1 ++ cs1, q1, cs2, ?_, g2, by rw [g3, List.append_assoc]⟩
        rw [itI, h1]
        simp [g1]
theorem itI_succ {f : Nat → itO} {k q q1 q2 : Nat} {cs sub : List (Nat × Nat)} (h1 : itI f k q = some (cs, q1)) (h2 : f q1 = some (sub, q2)) : itI f (k + 1) q = some (cs ++ sub, q2) := by
  induction k generalizing q cs with
  | zero =>
    cases h1
    rw [itI, h2]
    simp [itI]
  | succ k ih =>
    rw [itI] at h1
    cases h3 : f q with
    | none => rw [h3] at h1; cases h1
    | some a =>
      rw [h3] at h1
      cases h4 : itI f k a.2 with
      | none => simp [h4] at h1
      | some b =>
        simp [h4] at h1
        obtain ⟨rfl, rfl⟩ := h1
        rw [itI, h3]
        simp [ih h4]
/-- item number i stands at p, and ends at q -/
def itAt (β : Nat → Nat) (e : Nat) (ps : List (Nat × Nat)) (D i p q : Nat) : Prop := ∃ sub, itR β e D p = some (sub, q) ∧ ∀ j, j < sub.length → ps[i + j]? = sub[j]?
/-- the number of the k-th item in list i -/
def cI (ps : List (Nat × Nat)) (i : Nat) : Nat → Nat
  | 0 => i + 1
  | k + 1 => pB ps (cI ps i k)
theorem itAt.get {D i p q : Nat} (h : itAt β e ps D i p q) : ∃ n, ps[i]? = some (p, n) ∧ pF β ps i = itF β p ∧ pS β ps i = itS β p ∧ pT β ps i = itT β p ∧ pB ps i = i + n ∧ p < e ∧ itT β p ≤ e := by
  obtain ⟨sub, h1, h2⟩ := h
  obtain ⟨g1, g2, g3⟩ := itR_head D p sub q h1
  have hl : 0 < sub.length := (List.getElem?_eq_some_iff.mp g1).1
  have h3 := h2 0 hl
  rw [Nat.add_zero, g1] at h3
  refine ⟨sub.length, h3, ?_, ?_, ?_, ?_, g2, g3⟩
  · unfold pF; rw [h3]; rfl
  · unfold pS; rw [h3]; rfl
  · unfold pT; rw [h3]; rfl
  · unfold pB; rw [h3]; rfl
theorem itAt.top {q : Nat} (h : itR β e 6 10 = some (ps, q)) : itAt β e ps 6 0 10 q := ⟨ps, h, fun j hj => by rw [Nat.zero_add]⟩
/-- the k-th item of a list -/
theorem itAt.kid {D i p q : Nat} (h : itAt β e ps D i p q) (hF : itF β p = 0) : ∃ D', D = D' + 1 ∧ ∀ k, k ≤ itS β p → ∃ cs qk, itI (itR β e D') k (itT β p) = some (cs, qk) ∧ (k = itS β p → qk = q) ∧ (k < itS β p → ∃ qe, itAt β e ps D' (cI ps i k) qk qe ∧ itI (itR β e D') (k + 1) (itT β p) = some (cs ++ ((ps.drop (cI ps i k)).take (pB ps (cI ps i k) - cI ps i k)), qe)) ∧ cI ps i k = i + 1 + cs.length := by
  obtain ⟨sub, h1, h2⟩ := h
  rw [itR_eq] at h1
  split at h1
  next hc =>
    cases D with
    | zero => cases h1
    | succ D' =>
      refine ⟨D', rfl, ?_⟩
      cases h3 : itI (itR β e D') (itS β p) (itT β p) with
      | none =>
        rw [show itL β e (D' + 1) (itS β p) (itT β p) = itI (itR β e D') (itS β p) (itT β p) from rfl, h3] at h1
        cases h1
      | some a =>
        rw [show itL β e (D' + 1) (itS β p) (itT β p) = itI (itR β e D') (itS β p) (itT β p) from rfl, h3] at h1
        obtain ⟨cs0, r0⟩ := a
        simp at h1
        obtain ⟨rfl, rfl⟩ := h1
        have hblk : ∀ j, j < cs0.length → ps[i + 1 + j]? = cs0[j]? := by
          intro j hj
          have := h2 (j + 1) (by simp; omega)
          rw [show i + (j + 1) = i + 1 + j by omega] at this
          rw [this]
          rfl
        intro k
        induction k with
        | zero =>
          intro _
          refine ⟨[], itT β p, rfl, ?_, ?_, rfl⟩
          · intro hk
            rw [← hk] at h3
            cases h3
            rfl
          · intro hk
            obtain ⟨m, hm⟩ : ∃ m, itS β p = 0 + 1 + m := ⟨itS β p - 1, by omega⟩
            rw [hm] at h3
            obtain ⟨cs1, q1, cs2, g1, g2, g3⟩ := itI_split (0 + 1) m _ _ _ h3
            rw [itI] at g1
            cases h4 : itR β e D' (itT β p) with
            | none => rw [h4] at g1; cases g1
            | some b =>
              rw [h4] at g1
              simp [itI] at g1
              obtain ⟨rfl, rfl⟩ := g1
              have hat : itAt β e ps D' (cI ps i 0) (itT β p) b.2 := ⟨b.1, h4, fun j hj => by
                show ps[i + 1 + j]? = _
                rw [hblk j (by rw [g3, List.length_append]; omega), g3, List.getElem?_append_left hj]⟩
              refine ⟨b.2, hat, ?_⟩
              obtain ⟨n, e1, -, -, -, e5, -, -⟩ := hat.get
              obtain ⟨g4, -, -⟩ := itR_head D' _ _ _ h4
              have h5 := hblk 0 (by rw [g3, List.length_append]; have := (List.getElem?_eq_some_iff.mp g4).1; omega)
              rw [Nat.add_zero, g3, List.getElem?_append_left (List.getElem?_eq_some_iff.mp g4).1, g4] at h5
              have hn : n = b.1.length := by
                have : ps[i + 1]? = some (itT β p, n) := e1
                rw [h5] at this
                cases this
                rfl
              have e6 : (ps.drop (cI ps i 0)).take (pB ps (cI ps i 0) - cI ps i 0) = b.1 := by
                rw [e5, Nat.add_sub_cancel_left, hn]
                apply List.ext_getElem?
                intro j
                by_cases hj : j < b.1.length
                · rw [List.getElem?_take_of_lt hj, List.getElem?_drop]
                  show ps[i + 1 + j]? = _
                  rw [hblk j (by rw [g3, List.length_append]; omega), g3, List.getElem?_append_left hj]
                · rw [List.getElem?_eq_none (by simp; omega), List.getElem?_eq_none (by omega)]
              rw [e6]
              exact itI_succ (cs := []) rfl h4
        | succ k ih =>
          intro hk
          obtain ⟨cs, qk, g1, -, g2, g3⟩ := ih (by omega)
          obtain ⟨qe, hat, g4⟩ := g2 (by omega)
          obtain ⟨n, e1, -, -, -, e5, -, -⟩ := hat.get
          have hci : cI ps i (k + 1) = pB ps (cI ps i k) := rfl
          obtain ⟨sub, hs1, hs2⟩ := hat
          obtain ⟨hh, -, -⟩ := itR_head D' _ _ _ hs1
          have hl0 := (List.getElem?_eq_some_iff.mp hh).1
          have hn : n = sub.length := by
            have := hs2 0 hl0
            rw [Nat.add_zero, e1, hh] at this
            cases this
            rfl
          have hlen : ((ps.drop (cI ps i k)).take (pB ps (cI ps i k) - cI ps i k)) = sub := by
            rw [e5, Nat.add_sub_cancel_left, hn]
            apply List.ext_getElem?
            intro j
            by_cases hj : j < sub.length
            · rw [List.getElem?_take_of_lt hj, List.getElem?_drop, hs2 j hj]
            · rw [List.getElem?_eq_none (by simp; omega), List.getElem?_eq_none (by omega)]
          rw [hlen] at g4
          have hc2 : cI ps i (k + 1) = i + 1 + (cs ++ sub).length := by
            rw [hci, e5, g3, hn, List.length_append]
            omega
          refine ⟨cs ++ sub, qe, g4, ?_, ?_, hc2⟩
          · intro hk2
            rw [← hk2] at h3
            rw [g4] at h3
            cases h3
            rfl
          · intro hk2
            obtain ⟨m, hm⟩ : ∃ m, itS β p = k + 1 + (1 + m) := ⟨itS β p - (k + 2), by omega⟩
            rw [hm] at h3
            obtain ⟨cs1, q1, cs2, a1, a2, a3⟩ := itI_split (k + 1) (1 + m) _ _ _ h3
            rw [g4] at a1
            cases a1
            rw [show 1 + m = m + 1 by omega, itI] at a2
            cases h4 : itR β e D' qe with
            | none => rw [h4] at a2; cases a2
            | some b =>
              rw [h4] at a2
              cases h6 : itI (itR β e D') m b.2 with
              | none => simp [h6] at a2
              | some c =>
                simp [h6] at a2
                obtain ⟨a2, -⟩ := a2
                have hblk2 : ∀ j, j < b.1.length → ps[cI ps i (k + 1) + j]? = b.1[j]? := by
                  intro j hj
                  rw [hc2, show i + 1 + (cs ++ sub).length + j = i + 1 + ((cs ++ sub).length + j) by omega, hblk _ (by rw [a3, ← a2]; simp only [List.length_append]; omega), a3, List.getElem?_append_right (by omega), Nat.add_sub_cancel_left, ← a2, List.getElem?_append_left hj]
                have hat2 : itAt β e ps D' (cI ps i (k + 1)) qe b.2 := ⟨b.1, h4, hblk2⟩
                refine ⟨b.2, hat2, ?_⟩
                obtain ⟨n2, f1, -, -, -, f5, -, -⟩ := hat2.get
                obtain ⟨hh2, -, -⟩ := itR_head D' _ _ _ h4
                have hl2 := (List.getElem?_eq_some_iff.mp hh2).1
                have hn2 : n2 = b.1.length := by
                  have := hblk2 0 hl2
                  rw [Nat.add_zero, f1, hh2] at this
                  cases this
                  rfl
                have hlen2 : ((ps.drop (cI ps i (k + 1))).take (pB ps (cI ps i (k + 1)) - cI ps i (k + 1))) = b.1 := by
                  rw [f5, Nat.add_sub_cancel_left, hn2]
                  apply List.ext_getElem?
                  intro j
                  by_cases hj : j < b.1.length
                  · rw [List.getElem?_take_of_lt hj, List.getElem?_drop, hblk2 j hj]
                  · rw [List.getElem?_eq_none (by simp; omega), List.getElem?_eq_none (by omega)]
                rw [hlen2]
                exact itI_succ g4 h4
  next => cases h1
/-- the k-th item of a list, shortly -/
theorem itAt.nth {D i p q : Nat} (h : itAt β e ps D i p q) (hF : itF β p = 0) (k : Nat) (hk : k < itS β p) : ∃ D' cs qk qe, D = D' + 1 ∧ itI (itR β e D') k (itT β p) = some (cs, qk) ∧ itAt β e ps D' (cI ps i k) qk qe := by
  obtain ⟨D', hD, hA⟩ := h.kid hF
  obtain ⟨cs, qk, g1, -, g2, -⟩ := hA k (by omega)
  obtain ⟨qe, g3, -⟩ := g2 hk
  exact ⟨D', cs, qk, qe, hD, g1, g3⟩
/-- a leaf is one item -/
theorem itAt.leaf {D i p q : Nat} (h : itAt β e ps D i p q) (hF : ¬ itF β p = 0) : pB ps i = i + 1 ∧ q = itT β p + itS β p ∧ q ≤ e := by
  obtain ⟨sub, h1, h2⟩ := h
  have hl := itR_len D p sub q h1
  rw [itR_eq] at h1
  split at h1
  next hc =>
    obtain ⟨rfl, rfl, -⟩ := itLeaf_some h1
    refine ⟨?_, rfl, hl.2⟩
    have h3 := h2 0 (by simp)
    rw [Nat.add_zero] at h3
    unfold pB
    rw [h3]
    rfl
  next => cases h1
end TREE
