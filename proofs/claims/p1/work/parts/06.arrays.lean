section XR4
variable {l : Launch} {k d rc rs pc nx r1 r2 : Nat} {pl : List (Option Value)} {st : List Value} {hp : xm_H} {Q : xm_Q} {v : Int32}
theorem xm_top {G : xm_G} {U : State} {H : Heap} (hG : xm_KG G) (hR : xm_R G U hp H) : G.1 hp.length = H.size := by
  have h1 := hG.1 (hp.length - xm_c0)
  have h2 := hR.1
  have h3 := hR.2.1
  rw [Nat.add_sub_cancel' h2] at h1
  omega
theorem xm_C.grow {G : xm_G} {p : Program} {R : Room} {s : State} {m : MethodId} {meth : Method} {c : Code} {H H1 : Heap} {locs : List Loc} {cells slots N : Nat} (hC : xm_C k d rc rs G p R s m meth c H locs cells slots) (hR : xm_R G s hp H) (hrc : 1 ≤ rc) (hrs : N ≤ rs) (o1 : ∀ q : Nat, q < H.size → H1[q]? = H[q]?) : xm_C k d (rc - 1) (rs - N) G p R s m meth c H1 locs (cells + 1) (slots + N) := by
  obtain ⟨hgd, hexec, hb, hmlk, hown, hret, hlks, hmn, hKK, hfr, hlo, hcel, hsl0, hlocs, hfrm, hsz⟩ := hC
  exact ⟨hgd, hexec, hb, hmlk, hown, hret, hlks, hmn, hKK, hfr, hlo, by omega, by omega, hlocs, fun q hq => by rw [o1 q (by have h2 := hR.1; have h3 := hR.2.1; omega)]; exact hfrm q hq, hsz⟩
theorem x_newaI {at0 : ArrayType} {n : Int32} {N a : Nat} (hf : xm_code k pc = some (.newarray at0, nx, r1, r2, v)) (ht : defaultValue (xm_ty r1) = .int 0) (hn0 : ¬ n < 0) (hN : n.toNatClampNeg = N) (hN8 : N ≤ 100000) (ha : hp.length = a) (hrc : 1 ≤ rc) (hrs : N ≤ rs) (kk : XG l xm_any k d (rc - 1) (rs - N) nx pl (.ref a :: st) (hp ++ [xI r1 N (fun _ => 0)]) Q) : XG l xm_any k d rc rs pc pl (.int n :: st) hp Q := by
  intro G p e R s m args below meth c H locs cells slots ls hCP hR hL
  have hC := hCP.1
  obtain ⟨hd, hn, ho⟩ := xm_dec hC hf
  have ho' : (newarray.typeOf at0 = xm_ty r1 ∧ r1 < xm_nt) ∧ Cond.arrayClass (xm_ty r1) ∈ xm_xw := by simpa [xm_okI] using ho
  obtain ⟨⟨e1, e2⟩, e3⟩ := ho'
  have hKK := hC.2.2.2.2.2.2.2.2.1
  have hl := xm_top hKK.1 hR
  have hcel := hC.2.2.2.2.2.2.2.2.2.2.2.1
  have hslt := hC.2.2.2.2.2.2.2.2.2.2.2.2.1
  have hcb : componentBytes (newarray.typeOf at0) ≤ 8 := by cases at0 <;> decide
  refine W.newa hC.2.1 hC.2.2.1 (by rw [e1]; exact hKK.2.1.at (xm_xw_mem e3) args rfl) rfl hd rfl hn0 (by rw [hN]; have := Nat.mul_le_mul hN8 hcb; omega) (by omega) (by rw [hN]; omega) fun cA kA comp h1 h2 h3 => ?_
  rw [hN, e1] at *
  have hcA : cA = G.2.2.1 r1 := Option.some.inj (h1.symm.trans (hKK.2.2.2.1 r1 e2).1)
  have o1 : ∀ q : Nat, q < H.size → (H.push { cls := cA, slots := Array.replicate N (defaultValue (xm_ty r1)), vm := .none })[q]? = H[q]? := fun q hq => by rw [Array.getElem?_push, if_neg (Nat.ne_of_lt hq)]
  have hat : xm_at G s (H.push { cls := cA, slots := Array.replicate N (defaultValue (xm_ty r1)), vm := .none }) hp.length (.inl (r1, N, fun _ => 0)) := by
    refine ⟨{ cls := cA, slots := Array.replicate N (defaultValue (xm_ty r1)), vm := .none }, by rw [hl]; simp, ⟨fun q h => (by cases h), kA, h2, comp, h3⟩, (fun h => by cases h), by simp, fun j hj => by simp [hj, ht], fun _ => hcA⟩
  have K := kk G p e R s m args below meth c _ locs (cells + 1) (slots + N) ls ⟨hC.grow hR hrc hrs o1, trivial⟩ (hR.push hKK.1 (fun x hx => by cases hx; exact hat) (by simp) o1) hL
  rw [hn, ← ha] at K
  simp only [List.map_cons, xm_tv, hl] at K
  exact K
theorem x_objInit {P : xm_P} {idx a : Nat} (hf : xm_code k pc = some (.invokespecial idx, nx, 900, r2, v)) (hd1 : 1 ≤ d) (hw8 : (st.map fun v => v.category).sum ≤ 8) (kk : XG l P k d rc rs nx pl st hp Q) : XG l P k d rc rs pc pl (.ref a :: st) hp Q := by
  intro G p e R s m args below meth c H locs cells slots ls hCP hR hL
  have hC := hCP.1
  obtain ⟨hd, hn, ho⟩ := xm_dec hC hf
  have K := kk G p e R s m args below meth c H locs cells slots ls hCP hR hL
  rw [hn] at K
  have hlk : xm_lk (xm_pn k) idx = some (.methodLink (xm_nm k).cls idx (xm_sp 900)) := by simpa [xm_okI, xm_spok] using ho
  have hKW := hC.2.2.2.2.2.2.2.2.1.2.1
  have hlo := hC.2.2.2.2.2.2.2.2.2.2.1
  have hfr := hC.2.2.2.2.2.2.2.2.2.1
  have hw := xm_rest (G := G) (m := m) (pc := pc) (ls := ls) (st0 := List.map (xm_tv G.1) (.ref a :: st)) hw8
  exact W.objInit hC.2.1 hC.2.2.1 hC.2.2.2.2.1 (hKW.at (xm_lk_mem hlk) args rfl) (hKW.at (xm_xw_mem xm_xw_oi1) args rfl) (hKW.at (xm_xw_mem xm_xw_oi2) args rfl) rfl (by rw [hC.2.2.2.1]; exact hL.1) rfl hd (by omega) (by omega) K
end XR4
