section XR6
variable {l : Launch} {k d rc rs pc nx r1 r2 : Nat} {pl : List (Option Value)} {st : List Value} {hp : xm_H} {Q : xm_Q} {v : Int32}
/-- several cells are made -/
theorem xm_R.pushes {G : xm_G} {U : State} {H H1 : Heap} {es : xm_H} (hG : xm_KG G) (h : xm_R G U hp H) (he : ∀ (i : Nat) (x : xm_E), es[i]? = some (some x) → xm_at G U H1 (hp.length + i) x) (hz : H1.size = H.size + es.length) (oq : ∀ q : Nat, q < H.size → H1[q]? = H[q]?) : xm_R G U (hp ++ es) H1 := by
  have hlo : G.2.2.2 ≤ H.size := by have h1 := h.1; have h2 := h.2.1; omega
  refine ⟨by rw [List.length_append]; have := h.1; omega, by rw [List.length_append, hz]; have := h.2.1; omega, fun b e' hb => ?_⟩
  by_cases hl : b < hp.length
  · rw [List.getElem?_append_left hl] at hb
    have h3 := h.2.2 b e' hb
    exact h3.kept (oq _ h3.lt) (fun q hq => oq q (by omega))
  · rw [List.getElem?_append_right (by omega)] at hb
    have h4 := he (b - hp.length) e' hb
    rw [Nat.add_sub_cancel' (by omega)] at h4
    exact h4
theorem xm_rows_outer (c : ClassId) (N h0 : Nat) : ∀ i j : Nat, j < N → (Jvm.Free.Multi.outerC c N h0 i).slots[j]? = some (if j < i then .ref (h0 + 1 + j) else .null)
  | 0, j, hj => by
    show (Array.replicate N Value.null)[j]? = _
    simp [hj]
  | i + 1, j, hj => by
    have ih := xm_rows_outer c N h0 i j hj
    obtain ⟨-, -, hs⟩ := Jvm.Free.Multi.outerC_facts c N h0 i
    show ((Jvm.Free.Multi.outerC c N h0 i).setSlot i (.ref (h0 + 1 + i))).slots[j]? = _
    by_cases e : j = i
    · subst e
      simp [Cell.setSlot, hs, hj]
    · have e2 : ¬ i = j := fun q => e q.symm
      rw [show ((Jvm.Free.Multi.outerC c N h0 i).setSlot i (.ref (h0 + 1 + i))).slots[j]? = (Jvm.Free.Multi.outerC c N h0 i).slots[j]? from by simp [Cell.setSlot, Array.getElem?_setIfInBounds_ne e2], ih]
      by_cases h : j < i
      · rw [if_pos h, if_pos (by omega)]
      · rw [if_neg h, if_neg (by omega)]
/-- new int[n][m] -/
theorem x_mna {idx N M a : Nat} {n m0 : Int32} (hf : xm_code k pc = some (.multianewarray idx 2, nx, r1, r2, v)) (hlk : xm_lk (xm_pn k) idx = some (.classLink (xm_nm k).cls idx "[[I")) (hn0 : ¬ n < 0) (hm0 : ¬ m0 < 0) (hN : n.toNatClampNeg = N) (hM : m0.toNatClampNeg = M) (hN8 : N ≤ 1000) (hM8 : M ≤ 1000) (ha : hp.length = a) (hrc : 1 + N ≤ rc) (hrs : N + N * M ≤ rs)
    (kk : XG l xm_any k d (rc - (1 + N)) (rs - (N + N * M)) nx pl (.ref a :: st) (hp ++ (xV 4 N (fun j => .ref (a + 1 + j)) :: List.replicate N (xI 0 M (fun _ => 0)))) Q) : XG l xm_any k d rc rs pc pl (.int m0 :: .int n :: st) hp Q := by
  intro G p e R s m args below meth c H locs cells slots ls hCP hR hL
  have hC := hCP.1
  obtain ⟨hd, hn, ho⟩ := xm_dec hC hf
  obtain ⟨hgd, hexec, hb, hmlk, hown, hret, hlks, hmn, hKK, hfr, hlo, hcel, hsl0, hlocs, hfrm, hsz⟩ := hC
  have hKW := hKK.2.1
  have hl := xm_top hKK.1 hR
  have eT : "[" ++ (FieldType.array FieldType.int).toString = "[[I" := by decide
  have hw1 : Cond.arrayOver (.array .int) ∈ xm_xw := by decide +kernel
  have hw2 : Cond.arrayClass .int ∈ xm_xw := by decide +kernel
  intro T hT X
  obtain ⟨vm₁, cA, comp, hWm, fA, fC, hO, hI, X', step⟩ := X.multianewarray2F hexec hown (by rw [eT]; exact hKW.at (xm_lk_mem hlk) args rfl) (over_moved (Vm.Alike.refl _) (hKW _ (xm_xw_mem hw1))) (hKW.at (xm_xw_mem hw2) args rfl) (g := F0 m pc ls (List.map (xm_tv G.1) (.int m0 :: .int n :: st))) rfl (by rw [hb]; exact hd) rfl hn0 hm0 (by rw [hN]; omega) (by rw [hM]; show M * 4 ≤ _; omega) (by rw [hM]; omega) rfl rfl (by rw [hN]; omega) (by rw [hN, hM]; omega)
  rw [hN, hM] at X' step
  have hTh : (T.setVm vm₁).heap = H := hT
  obtain ⟨f1, f2, -, -⟩ := Jvm.Free.Multi.fill_facts (T.setVm vm₁) cA comp N M (defaultValue .int) N
  have hold : ∀ x : Nat, x < H.size → (Jvm.Free.Multi.fill (T.setVm vm₁) cA comp N M (defaultValue .int) N).heap[x]? = H[x]? := fun x hx => by
    have := Jvm.Free.Multi.fill_old (T.setVm vm₁) cA comp N M (defaultValue .int) (a := x) (by rw [hTh]; exact hx) N
    rw [hTh] at this
    exact this
  have hrow : ∀ j : Nat, j < N → (Jvm.Free.Multi.fill (T.setVm vm₁) cA comp N M (defaultValue .int) N).heap[H.size + 1 + j]? = some (Jvm.Free.Multi.innerC comp M (defaultValue .int)) := fun j hj => by
    have := Jvm.Free.Multi.fill_inner (T.setVm vm₁) cA comp N M (defaultValue .int) N j hj
    rw [hTh] at this
    exact this
  rw [hTh] at f1 f2
  generalize Jvm.Free.Multi.fill (T.setVm vm₁) cA comp N M (defaultValue .int) N = F at *
  have hA4 := hKK.2.2.2.1 4 (by decide)
  have hA0 := hKK.2.2.2.1 0 (by decide)
  have hcA : cA = G.2.2.1 4 := Option.some.inj (fA.symm.trans hA4.1)
  have hcI : comp = G.2.2.1 0 := Option.some.inj (fC.symm.trans hA0.1)
  have hrho : ∀ j : Nat, G.1 (hp.length + j) = H.size + j := fun j => by
    have h1 := hKK.1.1 (hp.length + j - xm_c0)
    have h2 := hR.1
    have h3 := hR.2.1
    rw [Nat.add_sub_cancel' (by omega)] at h1
    omega
  obtain ⟨oc1, oc2, oc3⟩ := Jvm.Free.Multi.outerC_facts cA N H.size N
  have hR1 : xm_R G s (hp ++ (xV 4 N (fun j => .ref (a + 1 + j)) :: List.replicate N (xI 0 M (fun _ => 0)))) F.heap := by
    refine hR.pushes hKK.1 (fun i x hx => ?_) (by rw [f1]; simp; omega) hold
    cases i with
    | zero =>
      cases hx
      refine ⟨_, by rw [hrho]; exact f2, (hO N H.size N).1, (hO N H.size N).2, oc3, fun j hj => ?_, fun _ => by rw [oc1]; exact hcA⟩
      rw [xm_rows_outer cA N H.size N j hj, if_pos hj]
      show _ = some (Value.ref (G.1 (a + 1 + j)))
      rw [← ha, show hp.length + 1 + j = hp.length + (1 + j) by omega, hrho, Nat.add_assoc]
    | succ i =>
      rw [List.getElem?_cons_succ] at hx
      have hi : i < N := by have := (List.getElem?_eq_some_iff.mp hx).1; simpa using this
      have hx2 := List.eq_of_mem_replicate (List.mem_of_getElem? hx)
      cases hx2
      refine ⟨_, by rw [hrho]; rw [show H.size + (i + 1) = H.size + 1 + i by omega]; exact hrow i hi, (hI M (defaultValue .int)).1, (hI M (defaultValue .int)).2, by simp [Jvm.Free.Multi.innerC], fun j hj => by simp [Jvm.Free.Multi.innerC, hj, defaultValue], fun _ => hcI⟩
  have hC1 : xm_C k d (rc - (1 + N)) (rs - (N + N * M)) G p R s m meth c F.heap locs (cells + 1 + N) (slots + N + N * M) := ⟨hgd, hexec, hb, hmlk, hown, hret, hlks, hmn, hKK, hfr, hlo, by omega, by omega, hlocs, fun q hq => by rw [hold q (by have h2 := hR.1; have h3 := hR.2.1; omega)]; exact hfrm q hq, hsz⟩
  have K := kk G p e R s m args below meth c F.heap locs (cells + 1 + N) (slots + N + N * M) ls ⟨hC1, trivial⟩ hR1 hL
  rw [hn, ← ha] at K
  simp only [List.map_cons, xm_tv, hl] at K
  obtain ⟨t, a1, b1⟩ := K F rfl X'
  refine ⟨t, step t ?_, b1⟩
  have e : T.heap.size = H.size := by rw [hT]
  rw [e]
  exact a1
end XR6
