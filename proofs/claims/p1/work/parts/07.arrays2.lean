section XR5
variable {l : Launch} {k d rc rs pc nx r1 r2 : Nat} {pl : List (Option Value)} {st : List Value} {hp : xm_H} {Q : xm_Q} {v : Int32}
theorem x_newaL {at0 : ArrayType} {n : Int32} {N a : Nat} (hf : xm_code k pc = some (.newarray at0, nx, r1, r2, v)) (ht : defaultValue (xm_ty r1) = .long 0) (hn0 : ¬ n < 0) (hN : n.toNatClampNeg = N) (hN8 : N ≤ 100000) (ha : hp.length = a) (hrc : 1 ≤ rc) (hrs : N ≤ rs) (kk : XG l xm_any k d (rc - 1) (rs - N) nx pl (.ref a :: st) (hp ++ [xV r1 N (fun _ => .long 0)]) Q) : XG l xm_any k d rc rs pc pl (.int n :: st) hp Q := by
  intro G p e R s m args below meth c H locs cells slots ls hCP hR hL
  have hC := hCP.1
  obtain ⟨hd, hn, ho⟩ := xm_dec hC hf
  have ho' : (newarray.typeOf at0 = xm_ty r1 ∧ r1 < xm_nt) ∧ Cond.arrayClass (xm_ty r1) ∈ xm_xw := by simpa [xm_okI] using ho
  obtain ⟨⟨e1, e2⟩, e3⟩ := ho'
  have hKK := hC.2.2.2.2.2.2.2.2.1
  have hl := xm_top hKK.1 hR
  have hcel := hC.2.2.2.2.2.2.2.2.2.2.2.1
  have hslt := hC.2.2.2.2.2.2.2.2.2.2.2.2.1
  have hcb : componentBytes (newarray.typeOf at0) ≤ 8 := by cases at0 <;> decide
  refine W.newa hC.2.1 hC.2.2.1 (by rw [e1]; exact hKK.2.1.at (xm_xw_mem e3) args rfl) rfl hd rfl hn0 (by rw [hN]; have := Nat.mul_le_mul hN8 hcb; omega) (by omega) (by rw [hN]; omega) fun cA kA comp h1 h2 h3 => ?_
  rw [hN, e1] at *
  have hcA : cA = G.2.2.1 r1 := Option.some.inj (h1.symm.trans (hKK.2.2.2.1 r1 e2).1)
  have o1 : ∀ q : Nat, q < H.size → (H.push { cls := cA, slots := Array.replicate N (defaultValue (xm_ty r1)), vm := .none })[q]? = H[q]? := fun q hq => by rw [Array.getElem?_push, if_neg (Nat.ne_of_lt hq)]
  have hat : xm_at G s (H.push { cls := cA, slots := Array.replicate N (defaultValue (xm_ty r1)), vm := .none }) hp.length (.inr (.inl (r1, N, fun _ => .long 0))) := by
    refine ⟨{ cls := cA, slots := Array.replicate N (defaultValue (xm_ty r1)), vm := .none }, by rw [hl]; simp, ⟨fun q h => (by cases h), kA, h2, comp, h3⟩, (fun h => by cases h), by simp, fun j hj => by simp [hj, ht, xm_tv], fun _ => hcA⟩
  have K := kk G p e R s m args below meth c _ locs (cells + 1) (slots + N) ls ⟨hC.grow hR hrc hrs o1, trivial⟩ (hR.push hKK.1 (fun x hx => by cases hx; exact hat) (by simp) o1) hL
  rw [hn, ← ha] at K
  simp only [List.map_cons, xm_tv, hl] at K
  exact K
theorem x_anew {idx : Nat} {C : String} {n : Int32} {N a : Nat} (hf : xm_code k pc = some (.anewarray idx, nx, r1, r2, v)) (ht : xm_ty r1 = .object C) (hn0 : ¬ n < 0) (hN : n.toNatClampNeg = N) (hN8 : N ≤ 100000) (ha : hp.length = a) (hrc : 1 ≤ rc) (hrs : N ≤ rs) (kk : XG l xm_any k d (rc - 1) (rs - N) nx pl (.ref a :: st) (hp ++ [xV r1 N (fun _ => .null)]) Q) : XG l xm_any k d rc rs pc pl (.int n :: st) hp Q := by
  intro G p e R s m args below meth c H locs cells slots ls hCP hR hL
  have hC := hCP.1
  obtain ⟨hd, hn, ho⟩ := xm_dec hC hf
  have ho' : (xm_lk (xm_pn k) idx = some (.classLink (xm_nm k).cls idx (xm_cn (xm_ty r1))) ∧ r1 < xm_nt) ∧ Cond.arrayOver (xm_ty r1) ∈ xm_xw := by simpa [xm_okI] using ho
  obtain ⟨⟨e1, e2⟩, e3⟩ := ho'
  rw [ht] at e1 e3
  have hKK := hC.2.2.2.2.2.2.2.2.1
  have hl := xm_top hKK.1 hR
  have hcel := hC.2.2.2.2.2.2.2.2.2.2.2.1
  have hslt := hC.2.2.2.2.2.2.2.2.2.2.2.2.1
  refine W.anew (C := C) hC.2.1 hC.2.2.1 hC.2.2.2.2.1 (hKK.2.1.at (xm_lk_mem e1) args rfl) (va_AO.use (hKK.2.1 _ (xm_xw_mem e3))) rfl hd rfl hn0 (by rw [hN]; omega) (by omega) (by rw [hN]; omega) fun cA kA comp h1 h2 h3 h4 => ?_
  rw [hN]
  have hKA := hKK.2.2.2.1 r1 e2
  rw [ht] at hKA
  have hcA : cA = G.2.2.1 r1 := Option.some.inj (h1.symm.trans hKA.1)
  have o1 : ∀ q : Nat, q < H.size → (H.push { cls := cA, slots := Array.replicate N .null, vm := .none })[q]? = H[q]? := fun q hq => by rw [Array.getElem?_push, if_neg (Nat.ne_of_lt hq)]
  have hat : xm_at G s (H.push { cls := cA, slots := Array.replicate N .null, vm := .none }) hp.length (.inr (.inl (r1, N, fun _ => .null))) := by
    refine ⟨{ cls := cA, slots := Array.replicate N .null, vm := .none }, by rw [hl]; simp, ⟨fun q h => (by cases h), kA, h2, comp, by rw [ht]; exact h3⟩, (fun h => by cases h), by simp, fun j hj => by simp [hj, xm_tv], fun _ => hcA⟩
  have K := kk G p e R s m args below meth c _ locs (cells + 1) (slots + N) ls ⟨hC.grow hR hrc hrs o1, trivial⟩ (hR.push hKK.1 (fun x hx => by cases hx; exact hat) (by simp) o1) hL
  rw [hn, ← ha] at K
  simp only [List.map_cons, xm_tv, hl] at K
  exact K
/-- a reference is stored into an array: of an object of the component's class, or of an int array into an array of such -/
theorem x_aast {a b t n : Nat} {f : Nat → Value} {i : Int32} {e0 : xm_E} (hf : xm_code k pc = some (.aastore, nx, r1, r2, v)) (he : hp[a]? = some (xV t n f)) (ha : xm_c0 ≤ a) (ht : t < xm_nt) (hb : hp[b]? = some (some e0)) (hb0 : xm_c0 ≤ b)
    (hfit : (∃ c0 fs, e0 = .inr (.inr (.inl (c0, fs))) ∧ xm_cl[c0]?.map (fun r => FieldType.object r.1) = some (xm_ty t)) ∨ ∃ t0 n0 f0, e0 = .inl (t0, n0, f0) ∧ t0 < xm_nt ∧ xm_ty t = .array (xm_ty t0)) (hin : vp_in i n)
    (kk : XG l xm_any k d rc rs nx pl st (hp.set a (xV t n (updV f i.toNatClampNeg (.ref b)))) Q) : XG l xm_any k d rc rs pc pl (.ref b :: .int i :: .ref a :: st) hp Q := by
  intro G p e R s m args below meth c H locs cells slots ls hCP hR hL
  have hC := hCP.1
  obtain ⟨hd, hn, ho⟩ := xm_dec hC hf
  obtain ⟨cell, h1, h2, h3, h4, h5, h6⟩ := hR.2.2 a _ he
  have hKK := hC.2.2.2.2.2.2.2.2.1
  have hj : i.toNatClampNeg < n := Nat.not_le.mp fun q => hin (Or.inr q)
  have h0 : ¬ i < 0 := fun q => hin (Or.inl q)
  obtain ⟨hA1, kA, comp, hA2, hA3, hA4⟩ := hKK.2.2.2.1 t ht
  have hcls := h6 ha
  have hB := hR.2.2 b _ hb
  obtain ⟨cv, kv, hcv, hvs, hkv, hcomp, href⟩ : ∃ (cv : Cell) (kv : Class), H[G.1 b]? = some cv ∧ (∀ q, cv.vm ≠ .statics q) ∧ s.vm.classes[cv.cls]? = some kv ∧ comp = cv.cls ∧ (xm_ty t).isReference = true := by
    rcases hfit with ⟨c0, fs, rfl, hc0⟩ | ⟨t0, n0, f0, rfl, ht0, hty⟩
    · obtain ⟨r, g1, cv, g2, g3, g4, -⟩ := hB
      rw [g1] at hc0
      have hc1 : FieldType.object r.1 = xm_ty t := by simpa using hc0
      have hK := (hKK.2.2.1 c0 _ g1).2
      obtain ⟨kC, hkC, -⟩ := hK.2
      have hcm := hA4 (by rw [← hc1]; rfl)
      rw [← hc1] at hcm
      refine ⟨cv, kC, g2, (fun q h => by rw [g4] at h; cases h), by rw [g3]; exact hkC, ?_, by rw [← hc1]; rfl⟩
      rw [g3]
      exact Option.some.inj (hcm.symm.trans hK.1)
    · obtain ⟨cv, g2, g3, g4, g5, g6, g7⟩ := hB
      have hcm := hA4 (by rw [hty]; rfl)
      rw [hty] at hcm
      obtain ⟨hZ1, kZ, compZ, hZ2, hZ3, -⟩ := hKK.2.2.2.1 t0 ht0
      refine ⟨cv, kZ, g2, g3.1, by rw [g7 hb0]; exact hZ2, ?_, by rw [hty]; rfl⟩
      rw [g7 hb0]
      exact Option.some.inj (hcm.symm.trans hZ1)
  subst hcomp
  refine W.aast (v := G.1 b) hC.2.1 hC.2.2.1 h1 h2.1 h3 (by rw [hcls]; exact hA2) hA3 href hkv ⟨h0, by rw [h4]; exact hj⟩ hcv hvs hkv (va_asg _ _) rfl rfl hd fun H1 e1 z1 o1 => ?_
  obtain ⟨g1, g2⟩ := xm_slots_set (y := .ref (G.1 b)) h4 h5 hj
  have hat : xm_at G s H1 a (.inr (.inl (t, n, updV f i.toNatClampNeg (.ref b)))) := by
    refine ⟨_, e1, h2, h3, g1, fun j hj2 => (g2 j hj2).trans ?_, h6⟩
    by_cases hji : j = i.toNatClampNeg
    · subst hji
      simp [updV, xm_tv]
    · simp [updV, hji]
  have K := kk G p e R s m args below meth c H1 _ cells slots ls ⟨hC.put (j := i.toNatClampNeg) ha o1, trivial⟩ (hR.set hKK.1 ha hat z1 o1) hL
  rw [hn] at K
  exact K
end XR5
