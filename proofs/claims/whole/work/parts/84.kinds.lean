section RE14
variable {l : Launch} {d L : Nat} {xs : Nat → Int32} {tc : Int32} {tf : (Nat → Int32)} {bl : Int32} {bf : (Nat → Int32)} {of : Int32} {oc : Int32} {ol : Int32} {on : Int32} {ml : (Nat → Int32)} {mx : (Nat → Int32)} {mb : (Nat → Nat → Int32)} {kc : Int32} {kh : (Nat → Nat)} {kr : (Nat → Nat → Int32)} {ka : (Nat → Int32)} {gl : Int32} {gx : Int32} {gb : (Nat → Int32)} {ls : Int32} {lq : Int32} {lk : Int32} {lg : Int32} {lh : Int32} {vf : (Nat → Int32)} {vs : (Nat → Int32)} {vb : (Nat → Nat → Int32)} {nv : (Nat → Int32)} {nw : (Nat → Nat → Int32)} {nr : (Nat → Int32)} {nq : (Nat → Nat → Int32)} {ne : (Nat → Int32)} {io : Int32} {sp : Int32} {ch : Int32} {wt : Int32} {xf : (Nat → Int32)} {xz : (Nat → Int32)} {xt : (Nat → Int32)} {xb : (Nat → Int32)} {xc : Int32} {th : Int32} {jl : Int32} {js : Int32} {jh : Int32} {jb : (Nat → Int32)} {jc : Int32} {jr : (Nat → Int32)} {jq : Int32} {jQ : (Nat → Int32)} {jz : (Nat → Int32)} {jf : (Nat → Int32)} {jo : Int32} {jn : Int32} {jt : Int32} {jH : (Nat → Int32)} {jA : (Nat → Int32)} {jm : Int32} {jy : (Nat → Int32)} {je : Int32} {jp : Int32} {jk : Int32} {jx : Int32} {jw : Int32} {ju : Int32} {jF : (Nat → Int32)} {jL : (Nat → Int32)} {jO : (Nat → Int32)} {jS : (Nat → Int32)} {jT : (Nat → Int32)} {jU : (Nat → Int32)} {jV : (Nat → Int32)} {jW : (Nat → Int32)} {ja : Int32} {jG : (Nat → Int32)} {ov : (Nat → Value)} {g2 : xm_H}
variable {N e : Nat} {β β' gg : Nat → Nat} {G : Prop}
theorem any_some {F : List (Nat × Nat) → Bool} (h : (itB β e).any F = true) : ∃ ps, itB β e = some ps ∧ F ps = true := by
  cases hb : itB β e with
  | none => rw [hb] at h; cases h
  | some ps => rw [hb] at h; exact ⟨ps, rfl, h⟩
theorem itB_S {ps : List (Nat × Nat)} (h : itAt β e ps 6 0 10 e) : itT β 10 + itS β 10 ≤ e := by
  obtain ⟨sub, h1, h2⟩ := h
  obtain ⟨g1, -, -⟩ := itR_head 6 10 sub e h1
  exact (itR_in 6 10 sub e h1 _ (List.mem_of_getElem? g1)).2
theorem pfP_le {ps : List (Nat × Nat)} : ∀ m p w, pfP β ps m p w ≤ 3 := by
  intro m
  induction m with
  | zero =>
    intro p w
    unfold pfP
    split <;> decide
  | succ m ih =>
    intro p w
    unfold pfP
    split
    · decide
    · exact ih _ _
theorem fR_le' {ps : List (Nat × Nat)} {cv : Nat → Nat} (p : Nat) : fR β ps cv p ≤ 4 := by
  unfold fR
  split
  · decide
  · split
    · decide
    · exact fvN_le p _ _
theorem fRs_le' {ps : List (Nat × Nat)} {cv : Nat → Nat} : ∀ m p, fRs β ps cv m p ≤ 4 := by
  intro m
  induction m with
  | zero => intro p; exact Nat.zero_le _
  | succ m ih =>
    intro p
    unfold fRs
    split
    · exact ih _
    · exact fR_le' p
theorem fLs_le' {ps : List (Nat × Nat)} {cv : Nat → Nat} : ∀ m p, fLs β ps cv m p ≤ 5 := by
  intro m
  induction m with
  | zero => intro p; exact Nat.zero_le _
  | succ m ih =>
    intro p
    unfold fLs
    split
    · exact ih _
    · exact fL_le p
theorem k_257 (hz : io = 1) (hk : dK β = 257) (hB : dB β e 257 = true)  (h : Rel (N) tc tf of oc ol on ml mx mb kc kh kr ka (nI e) gb ls lq lk lg lh vf vs vb nv nw nr nq ne io sp ch wt jl js jh jb jc jr jq jQ jz jf jo jn jt jH jA je jp jk jx jw ju jF jL jO jS jT jU jV jW (fun z1 => nI (gg z1))) (hN : N < 2 ^ 28) (hg : ∀ i, i < 130 → gb i = nI (β i)) (hβ : ∀ i, β i < 256) (hb : ∀ i, i < 130 → jb (i + 1) = nI (β' i)) (hβ' : ∀ i, β' i < 256) (hag : ∀ i, i < e → β i = β' i) (he10 : 10 ≤ e) (he : e ≤ 130) (hgg : ∀ i, gg i < 2 ^ 24) (K : ∀ {bl' : Int32} {bf' : (Nat → Int32)} {oc' : Int32} {ol' : Int32} {on' : Int32} {ml' : (Nat → Int32)} {mx' : (Nat → Int32)} {mb' : (Nat → Nat → Int32)} {kc' : Int32} {kh' : (Nat → Nat)} {ka' : (Nat → Int32)} {sp' : Int32} {vf' : (Nat → Int32)} {vs' : (Nat → Int32)} {vb' : (Nat → Nat → Int32)} {nv' : (Nat → Int32)} {nw' : (Nat → Nat → Int32)} {nr' : (Nat → Int32)} {nq' : (Nat → Nat → Int32)} {ne' : (Nat → Int32)} {wt' : Int32} {jq' : Int32} {jQ' : (Nat → Int32)} {jz' : (Nat → Int32)} {jf' : (Nat → Int32)} {jo' : Int32} {jn' : Int32} {jt' : Int32} {jH' : (Nat → Int32)} {jA' : (Nat → Int32)} {jm' : Int32} {jy' : (Nat → Int32)} {jp' : Int32} {jk' : Int32} {jw' : Int32} {ju' : Int32} {jF' : (Nat → Int32)} {jL' : (Nat → Int32)} {jO' : (Nat → Int32)} {jS' : (Nat → Int32)} {jT' : (Nat → Int32)} {jU' : (Nat → Int32)} {jV' : (Nat → Int32)} {jW' : (Nat → Int32)}, (∀ {g : xm_H}, ∀ (xf' xz' xt' xb' : Nat → Int32) (xc' : Int32), dI β e (dK β) xf' xz' xt' xb' xc' → XM l 108 40 0 0 [.ref 97] (cw L xs g tc tf bl bf of oc ol on ml mx mb kc kh kr ka (nI e) gx gb ls lq lk lg lh vf vs vb nv nw nr nq ne io sp ch wt (xf') (xz') (xt') (xb') (xc')) (xN (fun h => ∃ (xf' xz' xt' xb' : Nat → Int32) (xc' : Int32), h = (cw L xs g tc tf (bl') (bf') of (oc') (ol') (on') (ml') (mx') (mb') (kc') (kh') kr (ka') (nI e) gx gb ls lq lk lg lh (vf') (vs') (vb') (nv') (nw') (nr') (nq') (ne') io (sp') ch (wt') (xf') (xz') (xt') (xb') (xc'))))) → (∀ {L : Nat} {xs : Nat → Int32} {tc : Int32} {tf : (Nat → Int32)} {bl : Int32} {bf : (Nat → Int32)} {of : Int32} {oc : Int32} {ol : Int32} {on : Int32} {ml : (Nat → Int32)} {mx : (Nat → Int32)} {mb : (Nat → Nat → Int32)} {kc : Int32} {kh : (Nat → Nat)} {kr : (Nat → Nat → Int32)} {ka : (Nat → Int32)} {gl : Int32} {gx : Int32} {gb : (Nat → Int32)} {ls : Int32} {lq : Int32} {lk : Int32} {lg : Int32} {lh : Int32} {vf : (Nat → Int32)} {vs : (Nat → Int32)} {vb : (Nat → Nat → Int32)} {nv : (Nat → Int32)} {nw : (Nat → Nat → Int32)} {nr : (Nat → Int32)} {nq : (Nat → Nat → Int32)} {ne : (Nat → Int32)} {io : Int32} {sp : Int32} {ch : Int32} {wt : Int32} {xf : (Nat → Int32)} {xz : (Nat → Int32)} {xt : (Nat → Int32)} {xb : (Nat → Int32)} {xc : Int32} {th : Int32} {ov : (Nat → Value)}, ∀ g' : Nat → Nat, (∀ i, g' i < 2 ^ 24) → XM l 205 17 0 0 [.ref 103, .int (nI (β' 2 % 128)), .int (nI (β' 3))] (cw L xs (rw th jl js jh jb jc jr jq jQ jz jf jo jn jt jH jA jm jy je jp jk jx jw ju jF jL jO jS jT jU jV jW (nI e) (fun z1 => nI (g' z1)) ov g2) tc tf bl bf of oc ol on ml mx mb kc kh kr ka gl gx gb ls lq lk lg lh vf vs vb nv nw nr nq ne io sp ch wt xf xz xt xb xc) (xN (fun h => ∃ g' : Nat → Nat, (∀ i, g' i < 2 ^ 24) ∧ h = (cw L xs (rw th jl js jh jb jc jr (jq') (jQ') (jz') (jf') (jo') (jn') (jt') (jH') (jA') (jm') (jy') je (jp') (jk') jx (jw') (ju') (jF') (jL') (jO') (jS') (jT') (jU') (jV') (jW') (nI e) (fun z1 => nI (g' z1)) ov g2) tc tf bl bf of oc ol on ml mx mb kc kh kr ka gl gx gb ls lq lk lg lh vf vs vb nv nw nr nq ne io sp ch wt xf xz xt xb xc)))) → Rel (N + 900) tc tf of (oc') (ol') (on') (ml') (mx') (mb') (kc') (kh') kr (ka') (nI e) gb ls lq lk lg lh (vf') (vs') (vb') (nv') (nw') (nr') (nq') (ne') io (sp') ch (wt') jl js jh jb jc jr (jq') (jQ') (jz') (jf') (jo') (jn') (jt') (jH') (jA') je (jp') (jk') jx (jw') (ju') (jF') (jL') (jO') (jS') (jT') (jU') (jV') (jW') (fun z1 => nI (gg z1)) → G) : G := by
  have b3 := hβ' 3
  have b3c := hβ 3
  have hkr : dK β' = 257 := by rw [← dK_E hag he10]; exact hk
  unfold dK at hkr
  have e2 : β' 2 % 128 = 1 := by omega
  have e3 : β' 3 = 1 := by omega
  have hf1 : gb 3 + 1 = nI 2 := by rw [hg 3 (by decide), hag 3 (by omega), e3, nI_1]
  have hfn : isB (gb 3 + 1) := ⟨2, by decide, hf1⟩
  obtain ⟨hT, hQ, ho, hn, hK, hL, hZ, hV, hG, hM, hW, hGG⟩ := h
  obtain ⟨bl1, bf1, oc1, ol1, ml1, mx1, mb1, jm1, jy1, jq1, jo1, jQ1, jz1, jf1, hC, hR, r1, r2, r3⟩ := p_reply l xwho bf jy hQ ho hg hβ hb hag he10 hfn (by decide) xwho_B 2 hf1
  exact K (bl' := bl1) (bf' := bf1) (oc' := oc1) (ol' := ol1) (on' := on) (ml' := ml1) (mx' := mx1) (mb' := mb1) (kc' := kc) (kh' := kh) (ka' := ka) (sp' := sp) (vf' := vf) (vs' := vs) (vb' := vb) (nv' := nv) (nw' := nw) (nr' := nr) (nq' := nq) (ne' := ne) (wt' := wt) (jq' := jq1) (jQ' := jQ1) (jz' := jz1) (jf' := jf1) (jo' := jo1) (jn' := jn) (jt' := jt) (jH' := jH) (jA' := jA) (jm' := jm1) (jy' := jy1) (jp' := jp) (jk' := jk) (jw' := jw) (ju' := ju) (jF' := jF) (jL' := jL) (jO' := jO) (jS' := jS) (jT' := jT) (jU' := jU) (jV' := jV) (jW' := jW) (fun xf' xz' xt' xb' xc' hD => n108_257 hg hβ (by decide) (hC ⟨rfl, _, _, _, _, _, rfl⟩) hk) (by intros; rename_i g' hg'; rw [e2, e3]; exact q205_257 (dd := 5) (by decide) (by decide) (hR.n ⟨g', hg', rfl⟩)) ⟨hT.mono (by omega), r1, r2, hn, hK, hL, r3 _ hZ, hV, hG, hM, hW, hGG⟩
theorem k_269 (hz : io = 1) (hk : dK β = 269) (hB : dB β e 269 = true)  (h : Rel (N) tc tf of oc ol on ml mx mb kc kh kr ka (nI e) gb ls lq lk lg lh vf vs vb nv nw nr nq ne io sp ch wt jl js jh jb jc jr jq jQ jz jf jo jn jt jH jA je jp jk jx jw ju jF jL jO jS jT jU jV jW (fun z1 => nI (gg z1))) (hN : N < 2 ^ 28) (hg : ∀ i, i < 130 → gb i = nI (β i)) (hβ : ∀ i, β i < 256) (hb : ∀ i, i < 130 → jb (i + 1) = nI (β' i)) (hβ' : ∀ i, β' i < 256) (hag : ∀ i, i < e → β i = β' i) (he10 : 10 ≤ e) (he : e ≤ 130) (hgg : ∀ i, gg i < 2 ^ 24) (K : ∀ {bl' : Int32} {bf' : (Nat → Int32)} {oc' : Int32} {ol' : Int32} {on' : Int32} {ml' : (Nat → Int32)} {mx' : (Nat → Int32)} {mb' : (Nat → Nat → Int32)} {kc' : Int32} {kh' : (Nat → Nat)} {ka' : (Nat → Int32)} {sp' : Int32} {vf' : (Nat → Int32)} {vs' : (Nat → Int32)} {vb' : (Nat → Nat → Int32)} {nv' : (Nat → Int32)} {nw' : (Nat → Nat → Int32)} {nr' : (Nat → Int32)} {nq' : (Nat → Nat → Int32)} {ne' : (Nat → Int32)} {wt' : Int32} {jq' : Int32} {jQ' : (Nat → Int32)} {jz' : (Nat → Int32)} {jf' : (Nat → Int32)} {jo' : Int32} {jn' : Int32} {jt' : Int32} {jH' : (Nat → Int32)} {jA' : (Nat → Int32)} {jm' : Int32} {jy' : (Nat → Int32)} {jp' : Int32} {jk' : Int32} {jw' : Int32} {ju' : Int32} {jF' : (Nat → Int32)} {jL' : (Nat → Int32)} {jO' : (Nat → Int32)} {jS' : (Nat → Int32)} {jT' : (Nat → Int32)} {jU' : (Nat → Int32)} {jV' : (Nat → Int32)} {jW' : (Nat → Int32)}, (∀ {g : xm_H}, ∀ (xf' xz' xt' xb' : Nat → Int32) (xc' : Int32), dI β e (dK β) xf' xz' xt' xb' xc' → XM l 108 40 0 0 [.ref 97] (cw L xs g tc tf bl bf of oc ol on ml mx mb kc kh kr ka (nI e) gx gb ls lq lk lg lh vf vs vb nv nw nr nq ne io sp ch wt (xf') (xz') (xt') (xb') (xc')) (xN (fun h => ∃ (xf' xz' xt' xb' : Nat → Int32) (xc' : Int32), h = (cw L xs g tc tf (bl') (bf') of (oc') (ol') (on') (ml') (mx') (mb') (kc') (kh') kr (ka') (nI e) gx gb ls lq lk lg lh (vf') (vs') (vb') (nv') (nw') (nr') (nq') (ne') io (sp') ch (wt') (xf') (xz') (xt') (xb') (xc'))))) → (∀ {L : Nat} {xs : Nat → Int32} {tc : Int32} {tf : (Nat → Int32)} {bl : Int32} {bf : (Nat → Int32)} {of : Int32} {oc : Int32} {ol : Int32} {on : Int32} {ml : (Nat → Int32)} {mx : (Nat → Int32)} {mb : (Nat → Nat → Int32)} {kc : Int32} {kh : (Nat → Nat)} {kr : (Nat → Nat → Int32)} {ka : (Nat → Int32)} {gl : Int32} {gx : Int32} {gb : (Nat → Int32)} {ls : Int32} {lq : Int32} {lk : Int32} {lg : Int32} {lh : Int32} {vf : (Nat → Int32)} {vs : (Nat → Int32)} {vb : (Nat → Nat → Int32)} {nv : (Nat → Int32)} {nw : (Nat → Nat → Int32)} {nr : (Nat → Int32)} {nq : (Nat → Nat → Int32)} {ne : (Nat → Int32)} {io : Int32} {sp : Int32} {ch : Int32} {wt : Int32} {xf : (Nat → Int32)} {xz : (Nat → Int32)} {xt : (Nat → Int32)} {xb : (Nat → Int32)} {xc : Int32} {th : Int32} {ov : (Nat → Value)}, ∀ g' : Nat → Nat, (∀ i, g' i < 2 ^ 24) → XM l 205 17 0 0 [.ref 103, .int (nI (β' 2 % 128)), .int (nI (β' 3))] (cw L xs (rw th jl js jh jb jc jr jq jQ jz jf jo jn jt jH jA jm jy je jp jk jx jw ju jF jL jO jS jT jU jV jW (nI e) (fun z1 => nI (g' z1)) ov g2) tc tf bl bf of oc ol on ml mx mb kc kh kr ka gl gx gb ls lq lk lg lh vf vs vb nv nw nr nq ne io sp ch wt xf xz xt xb xc) (xN (fun h => ∃ g' : Nat → Nat, (∀ i, g' i < 2 ^ 24) ∧ h = (cw L xs (rw th jl js jh jb jc jr (jq') (jQ') (jz') (jf') (jo') (jn') (jt') (jH') (jA') (jm') (jy') je (jp') (jk') jx (jw') (ju') (jF') (jL') (jO') (jS') (jT') (jU') (jV') (jW') (nI e) (fun z1 => nI (g' z1)) ov g2) tc tf bl bf of oc ol on ml mx mb kc kh kr ka gl gx gb ls lq lk lg lh vf vs vb nv nw nr nq ne io sp ch wt xf xz xt xb xc)))) → Rel (N + 900) tc tf of (oc') (ol') (on') (ml') (mx') (mb') (kc') (kh') kr (ka') (nI e) gb ls lq lk lg lh (vf') (vs') (vb') (nv') (nw') (nr') (nq') (ne') io (sp') ch (wt') jl js jh jb jc jr (jq') (jQ') (jz') (jf') (jo') (jn') (jt') (jH') (jA') je (jp') (jk') jx (jw') (ju') (jF') (jL') (jO') (jS') (jT') (jU') (jV') (jW') (fun z1 => nI (gg z1)) → G) : G := by
  have b3 := hβ' 3
  have b3c := hβ 3
  have hkr : dK β' = 269 := by rw [← dK_E hag he10]; exact hk
  unfold dK at hkr
  have e2 : β' 2 % 128 = 1 := by omega
  have e3 : β' 3 = 13 := by omega
  have hf1 : gb 3 + 1 = nI 14 := by rw [hg 3 (by decide), hag 3 (by omega), e3, nI_1]
  have hfn : isB (gb 3 + 1) := ⟨14, by decide, hf1⟩
  obtain ⟨hT, hQ, ho, hn, hK, hL, hZ, hV, hG, hM, hW, hGG⟩ := h
  obtain ⟨bl1, bf1, oc1, ol1, ml1, mx1, mb1, jm1, jy1, jq1, jo1, jQ1, jz1, jf1, hC, hR, r1, r2, r3⟩ := p_reply l [1, 2, 33, 1, 0, 1, 0] bf jy hQ ho hg hβ hb hag he10 hfn (by decide) (two_B ⟨0, by decide, rfl⟩) 14 hf1
  exact K (bl' := bl1) (bf' := bf1) (oc' := oc1) (ol' := ol1) (on' := on) (ml' := ml1) (mx' := mx1) (mb' := mb1) (kc' := kc) (kh' := kh) (ka' := ka) (sp' := 1) (vf' := vf) (vs' := vs) (vb' := vb) (nv' := nv) (nw' := nw) (nr' := nr) (nq' := nq) (ne' := ne) (wt' := wt) (jq' := jq1) (jQ' := jQ1) (jz' := jz1) (jf' := jf1) (jo' := jo1) (jn' := jn) (jt' := jt) (jH' := jH) (jA' := jA) (jm' := jm1) (jy' := jy1) (jp' := 1) (jk' := jk) (jw' := jw) (ju' := ju) (jF' := jF) (jL' := jL) (jO' := jO) (jS' := jS) (jT' := jT) (jU' := jU) (jV' := jV) (jW' := jW) (fun xf' xz' xt' xb' xc' hD => n108_269 hg hβ (by decide) (hC ⟨rfl, _, _, _, _, _, rfl⟩) hk) (by intros; rename_i g' hg'; rw [e2, e3]; exact q205_269 (dd := 5) (by decide) (by decide) (hR.n ⟨g', hg', rfl⟩)) ⟨hT.mono (by omega), r1, r2, hn, hK, hL, r3 _ hZ, hV, hG, ⟨hM.1, rfl, hM.2.2.1, hM.2.2.2.1, hM.2.2.2.2.1, Or.inr rfl, fun _ => hz, hM.2.2.2.2.2.2.2⟩, hW, hGG⟩
theorem k_259 (hz : io = 1) (hk : dK β = 259) (hB : dB β e 259 = true)  (h : Rel (N) tc tf of oc ol on ml mx mb kc kh kr ka (nI e) gb ls lq lk lg lh vf vs vb nv nw nr nq ne io sp ch wt jl js jh jb jc jr jq jQ jz jf jo jn jt jH jA je jp jk jx jw ju jF jL jO jS jT jU jV jW (fun z1 => nI (gg z1))) (hN : N < 2 ^ 28) (hg : ∀ i, i < 130 → gb i = nI (β i)) (hβ : ∀ i, β i < 256) (hb : ∀ i, i < 130 → jb (i + 1) = nI (β' i)) (hβ' : ∀ i, β' i < 256) (hag : ∀ i, i < e → β i = β' i) (he10 : 10 ≤ e) (he : e ≤ 130) (hgg : ∀ i, gg i < 2 ^ 24) (K : ∀ {bl' : Int32} {bf' : (Nat → Int32)} {oc' : Int32} {ol' : Int32} {on' : Int32} {ml' : (Nat → Int32)} {mx' : (Nat → Int32)} {mb' : (Nat → Nat → Int32)} {kc' : Int32} {kh' : (Nat → Nat)} {ka' : (Nat → Int32)} {sp' : Int32} {vf' : (Nat → Int32)} {vs' : (Nat → Int32)} {vb' : (Nat → Nat → Int32)} {nv' : (Nat → Int32)} {nw' : (Nat → Nat → Int32)} {nr' : (Nat → Int32)} {nq' : (Nat → Nat → Int32)} {ne' : (Nat → Int32)} {wt' : Int32} {jq' : Int32} {jQ' : (Nat → Int32)} {jz' : (Nat → Int32)} {jf' : (Nat → Int32)} {jo' : Int32} {jn' : Int32} {jt' : Int32} {jH' : (Nat → Int32)} {jA' : (Nat → Int32)} {jm' : Int32} {jy' : (Nat → Int32)} {jp' : Int32} {jk' : Int32} {jw' : Int32} {ju' : Int32} {jF' : (Nat → Int32)} {jL' : (Nat → Int32)} {jO' : (Nat → Int32)} {jS' : (Nat → Int32)} {jT' : (Nat → Int32)} {jU' : (Nat → Int32)} {jV' : (Nat → Int32)} {jW' : (Nat → Int32)}, (∀ {g : xm_H}, ∀ (xf' xz' xt' xb' : Nat → Int32) (xc' : Int32), dI β e (dK β) xf' xz' xt' xb' xc' → XM l 108 40 0 0 [.ref 97] (cw L xs g tc tf bl bf of oc ol on ml mx mb kc kh kr ka (nI e) gx gb ls lq lk lg lh vf vs vb nv nw nr nq ne io sp ch wt (xf') (xz') (xt') (xb') (xc')) (xN (fun h => ∃ (xf' xz' xt' xb' : Nat → Int32) (xc' : Int32), h = (cw L xs g tc tf (bl') (bf') of (oc') (ol') (on') (ml') (mx') (mb') (kc') (kh') kr (ka') (nI e) gx gb ls lq lk lg lh (vf') (vs') (vb') (nv') (nw') (nr') (nq') (ne') io (sp') ch (wt') (xf') (xz') (xt') (xb') (xc'))))) → (∀ {L : Nat} {xs : Nat → Int32} {tc : Int32} {tf : (Nat → Int32)} {bl : Int32} {bf : (Nat → Int32)} {of : Int32} {oc : Int32} {ol : Int32} {on : Int32} {ml : (Nat → Int32)} {mx : (Nat → Int32)} {mb : (Nat → Nat → Int32)} {kc : Int32} {kh : (Nat → Nat)} {kr : (Nat → Nat → Int32)} {ka : (Nat → Int32)} {gl : Int32} {gx : Int32} {gb : (Nat → Int32)} {ls : Int32} {lq : Int32} {lk : Int32} {lg : Int32} {lh : Int32} {vf : (Nat → Int32)} {vs : (Nat → Int32)} {vb : (Nat → Nat → Int32)} {nv : (Nat → Int32)} {nw : (Nat → Nat → Int32)} {nr : (Nat → Int32)} {nq : (Nat → Nat → Int32)} {ne : (Nat → Int32)} {io : Int32} {sp : Int32} {ch : Int32} {wt : Int32} {xf : (Nat → Int32)} {xz : (Nat → Int32)} {xt : (Nat → Int32)} {xb : (Nat → Int32)} {xc : Int32} {th : Int32} {ov : (Nat → Value)}, ∀ g' : Nat → Nat, (∀ i, g' i < 2 ^ 24) → XM l 205 17 0 0 [.ref 103, .int (nI (β' 2 % 128)), .int (nI (β' 3))] (cw L xs (rw th jl js jh jb jc jr jq jQ jz jf jo jn jt jH jA jm jy je jp jk jx jw ju jF jL jO jS jT jU jV jW (nI e) (fun z1 => nI (g' z1)) ov g2) tc tf bl bf of oc ol on ml mx mb kc kh kr ka gl gx gb ls lq lk lg lh vf vs vb nv nw nr nq ne io sp ch wt xf xz xt xb xc) (xN (fun h => ∃ g' : Nat → Nat, (∀ i, g' i < 2 ^ 24) ∧ h = (cw L xs (rw th jl js jh jb jc jr (jq') (jQ') (jz') (jf') (jo') (jn') (jt') (jH') (jA') (jm') (jy') je (jp') (jk') jx (jw') (ju') (jF') (jL') (jO') (jS') (jT') (jU') (jV') (jW') (nI e) (fun z1 => nI (g' z1)) ov g2) tc tf bl bf of oc ol on ml mx mb kc kh kr ka gl gx gb ls lq lk lg lh vf vs vb nv nw nr nq ne io sp ch wt xf xz xt xb xc)))) → Rel (N + 900) tc tf of (oc') (ol') (on') (ml') (mx') (mb') (kc') (kh') kr (ka') (nI e) gb ls lq lk lg lh (vf') (vs') (vb') (nv') (nw') (nr') (nq') (ne') io (sp') ch (wt') jl js jh jb jc jr (jq') (jQ') (jz') (jf') (jo') (jn') (jt') (jH') (jA') je (jp') (jk') jx (jw') (ju') (jF') (jL') (jO') (jS') (jT') (jU') (jV') (jW') (fun z1 => nI (gg z1)) → G) : G := by
  have b3 := hβ' 3
  have b3c := hβ 3
  have hkr : dK β' = 259 := by rw [← dK_E hag he10]; exact hk
  unfold dK at hkr
  have e2 : β' 2 % 128 = 1 := by omega
  have e3 : β' 3 = 3 := by omega
  have hf1 : gb 3 + 1 = nI 4 := by rw [hg 3 (by decide), hag 3 (by omega), e3, nI_1]
  have hfn : isB (gb 3 + 1) := ⟨4, by decide, hf1⟩
  obtain ⟨hT, hQ, ho, hn, hK, hL, hZ, hV, hG, hM, hW, hGG⟩ := h
  obtain ⟨ps, hps, hpn⟩ := any_some (F := fun ps => pNums β ps 0) (by simpa [dB] using hB)
  have hE := itB_pE hag hps
  have hps' : itB β' e = some ps := by rw [← itB_E hag]; exact hps
  have hat := itB_at hps'
  have hpn' : pNums β' ps 0 = true := by rw [← pNums_E hE]; exact hpn
  have hit := itB_S hat
  obtain ⟨_, -, -, hS0, -⟩ := hat.get
  have hS : pS β ps 0 = itS β' 10 := by rw [hE.2.1]; exact hS0
  obtain ⟨sz, c, w, hv1, hv2, hv3, hv4, hv5, hv6, hv7, hv8, hv9, hv10, hv11⟩ := id hV
  have w6 : RW6 vf jF vb (rvb jk jw jO) sz := fun v h => ⟨(hv1 v h).2.2.1, (hv1 v h).2.2.2.1, (hv1 v h).2.2.2.2.1, (hv1 v h).2.2.2.2.2⟩
  have hvk : rvk jF sz := ⟨by rw [← (hv1 0 (by decide)).2.2.2.1]; exact hv4, by rw [← (hv1 1 (by decide)).2.2.2.1]; exact hv5, hv2, hv3⟩
  have hTL : [1, nI (itS β' 10)] ++ xcat (fun k => tvL jF sz (rvb jk jw jO) (pY β' ps (k + 1) 0)) (itS β' 10) = [1, nI (pS β ps 0)] ++ xcat (fun k => tvL vf sz vb (pY β ps (k + 1) 0)) (pS β ps 0) := by
    rw [hS, hE.2.2, xcat_congr (f := fun k => tvL jF sz (rvb jk jw jO) (pY β' ps (k + 1) 0)) (g := fun k => tvL vf sz vb (pY β' ps (k + 1) 0)) (itS β' 10) (fun k _ => tvL_eq w6 _)]
  have hlen : ([1, nI (pS β ps 0)] ++ xcat (fun k => tvL vf sz vb (pY β ps (k + 1) 0)) (pS β ps 0)).length < 2 ^ 30 := by
    have := xcat_len (fun k => tvL vf sz vb (pY β ps (k + 1) 0)) 10 (pS β ps 0) (fun i _ => tvL_len (fun v hv => (hv1 v hv).2.2.1) _)
    rw [List.length_append]
    simp only [List.length_cons, List.length_nil]
    omega
  have hTB : ∀ x ∈ [1, nI (pS β ps 0)] ++ xcat (fun k => tvL vf sz vb (pY β ps (k + 1) 0)) (pS β ps 0), isB x := by
    intro x hx
    rw [List.mem_append] at hx
    rcases hx with hx | hx
    · simp only [List.mem_cons, List.not_mem_nil, or_false] at hx
      rcases hx with rfl | rfl
      · exact ⟨1, by decide, rfl⟩
      · exact isB_n (by omega)
    · obtain ⟨i, -, hi⟩ := xcat_mem _ hx
      exact tvL_B w6 _ x hi
  obtain ⟨bl1, bf1, oc1, ol1, ml1, mx1, mb1, jm1, jy1, jq1, jo1, jQ1, jz1, jf1, hC, hR, r1, r2, r3⟩ := p_reply l ([1, nI (pS β ps 0)] ++ xcat (fun k => tvL vf sz vb (pY β ps (k + 1) 0)) (pS β ps 0)) bf jy hQ ho hg hβ hb hag he10 hfn hlen hTB 4 hf1
  refine K (bl' := bl1) (bf' := bf1) (oc' := oc1) (ol' := ol1) (on' := on) (ml' := ml1) (mx' := mx1) (mb' := mb1) (kc' := kc) (kh' := kh) (ka' := ka) (sp' := sp) (vf' := vf) (vs' := vs) (vb' := vb) (nv' := nv) (nw' := nw) (nr' := nr) (nq' := nq) (ne' := ne) (wt' := wt) (jq' := jq1) (jQ' := jQ1) (jz' := jz1) (jf' := jf1) (jo' := jo1) (jn' := jn) (jt' := jt) (jH' := jH) (jA' := jA) (jm' := jm1) (jy' := jy1) (jp' := jp) (jk' := jk) (jw' := jw) (ju' := ju) (jF' := jF) (jL' := jL) (jO' := jO) (jS' := jS) (jT' := jT) (jU' := jU) (jV' := jV) (jW' := jW) (fun xf' xz' xt' xb' xc' hD => by
    obtain ⟨ps2, g1, rfl, hA, hVv⟩ := hD (Or.inl hk)
    obtain rfl : ps = ps2 := Option.some.inj (hps.symm.trans g1)
    exact n108_259 (sz := sz) hg hβ hA hVv (by decide) (fun v hv => ⟨(hv1 v hv).1, (hv1 v hv).2.2.1⟩) (by omega) (hC ⟨rfl, _, _, _, _, _, rfl⟩) hk) ?_ ⟨hT.mono (by omega), r1, r2, hn, hK, hL, r3 _ hZ, hV, hG, hM, hW, hGG⟩
  intros
  rename_i g' hg'
  rw [e2, e3]
  refine q205_259 (dd := 16) (by decide) ((q207 (d := 16) (dd := 5) hb hβ' he hat hpn' (fun v hv => ⟨(hv1 v hv).2.1, (hv1 v hv).2.2.1⟩) hvk (by omega) (by decide) (by decide) (by rw [hTL]; exact hR)).n ⟨g', hg', rfl⟩)
theorem k_271 (hz : io = 1) (hk : dK β = 271) (hB : dB β e 271 = true)  (h : Rel (N) tc tf of oc ol on ml mx mb kc kh kr ka (nI e) gb ls lq lk lg lh vf vs vb nv nw nr nq ne io sp ch wt jl js jh jb jc jr jq jQ jz jf jo jn jt jH jA je jp jk jx jw ju jF jL jO jS jT jU jV jW (fun z1 => nI (gg z1))) (hN : N < 2 ^ 28) (hg : ∀ i, i < 130 → gb i = nI (β i)) (hβ : ∀ i, β i < 256) (hb : ∀ i, i < 130 → jb (i + 1) = nI (β' i)) (hβ' : ∀ i, β' i < 256) (hag : ∀ i, i < e → β i = β' i) (he10 : 10 ≤ e) (he : e ≤ 130) (hgg : ∀ i, gg i < 2 ^ 24) (K : ∀ {bl' : Int32} {bf' : (Nat → Int32)} {oc' : Int32} {ol' : Int32} {on' : Int32} {ml' : (Nat → Int32)} {mx' : (Nat → Int32)} {mb' : (Nat → Nat → Int32)} {kc' : Int32} {kh' : (Nat → Nat)} {ka' : (Nat → Int32)} {sp' : Int32} {vf' : (Nat → Int32)} {vs' : (Nat → Int32)} {vb' : (Nat → Nat → Int32)} {nv' : (Nat → Int32)} {nw' : (Nat → Nat → Int32)} {nr' : (Nat → Int32)} {nq' : (Nat → Nat → Int32)} {ne' : (Nat → Int32)} {wt' : Int32} {jq' : Int32} {jQ' : (Nat → Int32)} {jz' : (Nat → Int32)} {jf' : (Nat → Int32)} {jo' : Int32} {jn' : Int32} {jt' : Int32} {jH' : (Nat → Int32)} {jA' : (Nat → Int32)} {jm' : Int32} {jy' : (Nat → Int32)} {jp' : Int32} {jk' : Int32} {jw' : Int32} {ju' : Int32} {jF' : (Nat → Int32)} {jL' : (Nat → Int32)} {jO' : (Nat → Int32)} {jS' : (Nat → Int32)} {jT' : (Nat → Int32)} {jU' : (Nat → Int32)} {jV' : (Nat → Int32)} {jW' : (Nat → Int32)}, (∀ {g : xm_H}, ∀ (xf' xz' xt' xb' : Nat → Int32) (xc' : Int32), dI β e (dK β) xf' xz' xt' xb' xc' → XM l 108 40 0 0 [.ref 97] (cw L xs g tc tf bl bf of oc ol on ml mx mb kc kh kr ka (nI e) gx gb ls lq lk lg lh vf vs vb nv nw nr nq ne io sp ch wt (xf') (xz') (xt') (xb') (xc')) (xN (fun h => ∃ (xf' xz' xt' xb' : Nat → Int32) (xc' : Int32), h = (cw L xs g tc tf (bl') (bf') of (oc') (ol') (on') (ml') (mx') (mb') (kc') (kh') kr (ka') (nI e) gx gb ls lq lk lg lh (vf') (vs') (vb') (nv') (nw') (nr') (nq') (ne') io (sp') ch (wt') (xf') (xz') (xt') (xb') (xc'))))) → (∀ {L : Nat} {xs : Nat → Int32} {tc : Int32} {tf : (Nat → Int32)} {bl : Int32} {bf : (Nat → Int32)} {of : Int32} {oc : Int32} {ol : Int32} {on : Int32} {ml : (Nat → Int32)} {mx : (Nat → Int32)} {mb : (Nat → Nat → Int32)} {kc : Int32} {kh : (Nat → Nat)} {kr : (Nat → Nat → Int32)} {ka : (Nat → Int32)} {gl : Int32} {gx : Int32} {gb : (Nat → Int32)} {ls : Int32} {lq : Int32} {lk : Int32} {lg : Int32} {lh : Int32} {vf : (Nat → Int32)} {vs : (Nat → Int32)} {vb : (Nat → Nat → Int32)} {nv : (Nat → Int32)} {nw : (Nat → Nat → Int32)} {nr : (Nat → Int32)} {nq : (Nat → Nat → Int32)} {ne : (Nat → Int32)} {io : Int32} {sp : Int32} {ch : Int32} {wt : Int32} {xf : (Nat → Int32)} {xz : (Nat → Int32)} {xt : (Nat → Int32)} {xb : (Nat → Int32)} {xc : Int32} {th : Int32} {ov : (Nat → Value)}, ∀ g' : Nat → Nat, (∀ i, g' i < 2 ^ 24) → XM l 205 17 0 0 [.ref 103, .int (nI (β' 2 % 128)), .int (nI (β' 3))] (cw L xs (rw th jl js jh jb jc jr jq jQ jz jf jo jn jt jH jA jm jy je jp jk jx jw ju jF jL jO jS jT jU jV jW (nI e) (fun z1 => nI (g' z1)) ov g2) tc tf bl bf of oc ol on ml mx mb kc kh kr ka gl gx gb ls lq lk lg lh vf vs vb nv nw nr nq ne io sp ch wt xf xz xt xb xc) (xN (fun h => ∃ g' : Nat → Nat, (∀ i, g' i < 2 ^ 24) ∧ h = (cw L xs (rw th jl js jh jb jc jr (jq') (jQ') (jz') (jf') (jo') (jn') (jt') (jH') (jA') (jm') (jy') je (jp') (jk') jx (jw') (ju') (jF') (jL') (jO') (jS') (jT') (jU') (jV') (jW') (nI e) (fun z1 => nI (g' z1)) ov g2) tc tf bl bf of oc ol on ml mx mb kc kh kr ka gl gx gb ls lq lk lg lh vf vs vb nv nw nr nq ne io sp ch wt xf xz xt xb xc)))) → Rel (N + 900) tc tf of (oc') (ol') (on') (ml') (mx') (mb') (kc') (kh') kr (ka') (nI e) gb ls lq lk lg lh (vf') (vs') (vb') (nv') (nw') (nr') (nq') (ne') io (sp') ch (wt') jl js jh jb jc jr (jq') (jQ') (jz') (jf') (jo') (jn') (jt') (jH') (jA') je (jp') (jk') jx (jw') (ju') (jF') (jL') (jO') (jS') (jT') (jU') (jV') (jW') (fun z1 => nI (gg z1)) → G) : G := by
  have b3 := hβ' 3
  have b3c := hβ 3
  have hkr : dK β' = 271 := by rw [← dK_E hag he10]; exact hk
  unfold dK at hkr
  have e2 : β' 2 % 128 = 1 := by omega
  have e3 : β' 3 = 15 := by omega
  have hf1 : gb 3 + 1 = nI 16 := by rw [hg 3 (by decide), hag 3 (by omega), e3, nI_1]
  have hfn : isB (gb 3 + 1) := ⟨16, by decide, hf1⟩
  obtain ⟨hT, hQ, ho, hn, hK, hL, hZ, hV, hG, hM, hW, hGG⟩ := h
  obtain ⟨⟨c, hc3, hc1, hc2⟩, -⟩ := hV.c
  by_cases hx : c = 1
  · subst hx
    obtain ⟨bl1, bf1, oc1, ol1, ml1, mx1, mb1, jm1, jy1, jq1, jo1, jQ1, jz1, jf1, hC, hR, r1, r2, r3⟩ := p_one l 0 ⟨0, by decide, rfl⟩ bf jy hQ ho hg hβ hb hag he10 hfn
    exact K (bl' := bl1) (bf' := bf1) (oc' := oc1) (ol' := ol1) (on' := on) (ml' := ml1) (mx' := mx1) (mb' := mb1) (kc' := kc) (kh' := kh) (ka' := ka) (sp' := sp) (vf' := vf) (vs' := vs) (vb' := vb) (nv' := nv) (nw' := nw) (nr' := nr) (nq' := nq) (ne' := ne) (wt' := wt) (jq' := jq1) (jQ' := jQ1) (jz' := jz1) (jf' := jf1) (jo' := jo1) (jn' := jn) (jt' := jt) (jH' := jH) (jA' := jA) (jm' := jm1) (jy' := jy1) (jp' := jp) (jk' := 1) (jw' := jw) (ju' := ju) (jF' := jF) (jL' := jL) (jO' := jO) (jS' := jS) (jT' := jT) (jU' := jU) (jV' := jV) (jW' := jW) (fun xf' xz' xt' xb' xc' hD => n108_271 (dd := 20) hg hβ (by decide) (by decide) (m116a (d := 20) 1 (by decide) hc1.symm) (hC ⟨rfl, _, _, _, _, _, rfl⟩) hk) (by intros; rename_i g' hg'; rw [e2, e3]; exact q205_271 (dd := 10) (by decide) (m211a 1 hc2.symm) rfl (hR.n ⟨g', hg', rfl⟩)) ⟨hT.mono (by omega), r1, r2, hn, hK, hL, r3 _ hZ, (by rw [hc2] at hV; exact hV), hG, hM, hW, hGG⟩
  · have hV2 := hV.ctl 1 (by decide)
    obtain ⟨b0, bl', bf', on', oc', ol', ml', mx', mb', jm', jy', jn', jq', jo', jQ', jz', jf', hC0, hR0, q1, q2, q3, q4⟩ := p_happen l bl bf jm jy (e := 1) (by decide) (by decide) hQ ho hn hV2 hG hM.2.1
    obtain ⟨bl1, bf1, oc1, ol1, ml1, mx1, mb1, jm1, jy1, jq1, jo1, jQ1, jz1, jf1, hC, hR, r1, r2, r3⟩ := p_one l 0 ⟨0, by decide, rfl⟩ bf' jy' q1 q2 hg hβ hb hag he10 hfn
    exact K (bl' := bl1) (bf' := bf1) (oc' := oc1) (ol' := ol1) (on' := on') (ml' := ml1) (mx' := mx1) (mb' := mb1) (kc' := kc) (kh' := kh) (ka' := ka) (sp' := sp) (vf' := vf) (vs' := vs) (vb' := updf vb 0 (upd (vb 0) 0 1)) (nv' := nv) (nw' := nw) (nr' := nr) (nq' := nq) (ne' := ne) (wt' := wt) (jq' := jq1) (jQ' := jQ1) (jz' := jz1) (jf' := jf1) (jo' := jo1) (jn' := jn') (jt' := jt) (jH' := jH) (jA' := jA) (jm' := jm1) (jy' := jy1) (jp' := jp) (jk' := 1) (jw' := jw) (ju' := ju) (jF' := jF) (jL' := jL) (jO' := jO) (jS' := jS) (jT' := jT) (jU' := jU) (jV' := jV) (jW' := jW) (fun xf' xz' xt' xb' xc' hD => n108_271 (dd := 20) hg hβ (by decide) (by decide) (n116 (d := 20) (dd := 3) 1 (by decide) (fun z => hx ((nI_eq (b := 1) (by omega) (by decide)).mp (hc1.symm.trans z.symm))) (by decide) hC0) (hC ⟨rfl, _, _, _, _, _, rfl⟩) hk) (by intros; rename_i g' hg'; rw [e2, e3]; exact q205_271 (dd := 10) (by decide) (q211 (d := 10) (dd := 5) 1 (fun z => hx ((nI_eq (b := 1) (by omega) (by decide)).mp (hc2.symm.trans z.symm))) (by decide) hR0) rfl (hR.n ⟨g', hg', rfl⟩)) ⟨hT.mono (by omega), r1, r2, q3, hK, hL, r3 _ (q4 _ hZ), hV2, hG, hM, hW, hGG⟩
theorem k_273 (hz : io = 1) (hk : dK β = 273) (hB : dB β e 273 = true)  (h : Rel (N) tc tf of oc ol on ml mx mb kc kh kr ka (nI e) gb ls lq lk lg lh vf vs vb nv nw nr nq ne io sp ch wt jl js jh jb jc jr jq jQ jz jf jo jn jt jH jA je jp jk jx jw ju jF jL jO jS jT jU jV jW (fun z1 => nI (gg z1))) (hN : N < 2 ^ 28) (hg : ∀ i, i < 130 → gb i = nI (β i)) (hβ : ∀ i, β i < 256) (hb : ∀ i, i < 130 → jb (i + 1) = nI (β' i)) (hβ' : ∀ i, β' i < 256) (hag : ∀ i, i < e → β i = β' i) (he10 : 10 ≤ e) (he : e ≤ 130) (hgg : ∀ i, gg i < 2 ^ 24) (K : ∀ {bl' : Int32} {bf' : (Nat → Int32)} {oc' : Int32} {ol' : Int32} {on' : Int32} {ml' : (Nat → Int32)} {mx' : (Nat → Int32)} {mb' : (Nat → Nat → Int32)} {kc' : Int32} {kh' : (Nat → Nat)} {ka' : (Nat → Int32)} {sp' : Int32} {vf' : (Nat → Int32)} {vs' : (Nat → Int32)} {vb' : (Nat → Nat → Int32)} {nv' : (Nat → Int32)} {nw' : (Nat → Nat → Int32)} {nr' : (Nat → Int32)} {nq' : (Nat → Nat → Int32)} {ne' : (Nat → Int32)} {wt' : Int32} {jq' : Int32} {jQ' : (Nat → Int32)} {jz' : (Nat → Int32)} {jf' : (Nat → Int32)} {jo' : Int32} {jn' : Int32} {jt' : Int32} {jH' : (Nat → Int32)} {jA' : (Nat → Int32)} {jm' : Int32} {jy' : (Nat → Int32)} {jp' : Int32} {jk' : Int32} {jw' : Int32} {ju' : Int32} {jF' : (Nat → Int32)} {jL' : (Nat → Int32)} {jO' : (Nat → Int32)} {jS' : (Nat → Int32)} {jT' : (Nat → Int32)} {jU' : (Nat → Int32)} {jV' : (Nat → Int32)} {jW' : (Nat → Int32)}, (∀ {g : xm_H}, ∀ (xf' xz' xt' xb' : Nat → Int32) (xc' : Int32), dI β e (dK β) xf' xz' xt' xb' xc' → XM l 108 40 0 0 [.ref 97] (cw L xs g tc tf bl bf of oc ol on ml mx mb kc kh kr ka (nI e) gx gb ls lq lk lg lh vf vs vb nv nw nr nq ne io sp ch wt (xf') (xz') (xt') (xb') (xc')) (xN (fun h => ∃ (xf' xz' xt' xb' : Nat → Int32) (xc' : Int32), h = (cw L xs g tc tf (bl') (bf') of (oc') (ol') (on') (ml') (mx') (mb') (kc') (kh') kr (ka') (nI e) gx gb ls lq lk lg lh (vf') (vs') (vb') (nv') (nw') (nr') (nq') (ne') io (sp') ch (wt') (xf') (xz') (xt') (xb') (xc'))))) → (∀ {L : Nat} {xs : Nat → Int32} {tc : Int32} {tf : (Nat → Int32)} {bl : Int32} {bf : (Nat → Int32)} {of : Int32} {oc : Int32} {ol : Int32} {on : Int32} {ml : (Nat → Int32)} {mx : (Nat → Int32)} {mb : (Nat → Nat → Int32)} {kc : Int32} {kh : (Nat → Nat)} {kr : (Nat → Nat → Int32)} {ka : (Nat → Int32)} {gl : Int32} {gx : Int32} {gb : (Nat → Int32)} {ls : Int32} {lq : Int32} {lk : Int32} {lg : Int32} {lh : Int32} {vf : (Nat → Int32)} {vs : (Nat → Int32)} {vb : (Nat → Nat → Int32)} {nv : (Nat → Int32)} {nw : (Nat → Nat → Int32)} {nr : (Nat → Int32)} {nq : (Nat → Nat → Int32)} {ne : (Nat → Int32)} {io : Int32} {sp : Int32} {ch : Int32} {wt : Int32} {xf : (Nat → Int32)} {xz : (Nat → Int32)} {xt : (Nat → Int32)} {xb : (Nat → Int32)} {xc : Int32} {th : Int32} {ov : (Nat → Value)}, ∀ g' : Nat → Nat, (∀ i, g' i < 2 ^ 24) → XM l 205 17 0 0 [.ref 103, .int (nI (β' 2 % 128)), .int (nI (β' 3))] (cw L xs (rw th jl js jh jb jc jr jq jQ jz jf jo jn jt jH jA jm jy je jp jk jx jw ju jF jL jO jS jT jU jV jW (nI e) (fun z1 => nI (g' z1)) ov g2) tc tf bl bf of oc ol on ml mx mb kc kh kr ka gl gx gb ls lq lk lg lh vf vs vb nv nw nr nq ne io sp ch wt xf xz xt xb xc) (xN (fun h => ∃ g' : Nat → Nat, (∀ i, g' i < 2 ^ 24) ∧ h = (cw L xs (rw th jl js jh jb jc jr (jq') (jQ') (jz') (jf') (jo') (jn') (jt') (jH') (jA') (jm') (jy') je (jp') (jk') jx (jw') (ju') (jF') (jL') (jO') (jS') (jT') (jU') (jV') (jW') (nI e) (fun z1 => nI (g' z1)) ov g2) tc tf bl bf of oc ol on ml mx mb kc kh kr ka gl gx gb ls lq lk lg lh vf vs vb nv nw nr nq ne io sp ch wt xf xz xt xb xc)))) → Rel (N + 900) tc tf of (oc') (ol') (on') (ml') (mx') (mb') (kc') (kh') kr (ka') (nI e) gb ls lq lk lg lh (vf') (vs') (vb') (nv') (nw') (nr') (nq') (ne') io (sp') ch (wt') jl js jh jb jc jr (jq') (jQ') (jz') (jf') (jo') (jn') (jt') (jH') (jA') je (jp') (jk') jx (jw') (ju') (jF') (jL') (jO') (jS') (jT') (jU') (jV') (jW') (fun z1 => nI (gg z1)) → G) : G := by
  have b3 := hβ' 3
  have b3c := hβ 3
  have hkr : dK β' = 273 := by rw [← dK_E hag he10]; exact hk
  unfold dK at hkr
  have e2 : β' 2 % 128 = 1 := by omega
  have e3 : β' 3 = 17 := by omega
  have hf1 : gb 3 + 1 = nI 18 := by rw [hg 3 (by decide), hag 3 (by omega), e3, nI_1]
  have hfn : isB (gb 3 + 1) := ⟨18, by decide, hf1⟩
  obtain ⟨hT, hQ, ho, hn, hK, hL, hZ, hV, hG, hM, hW, hGG⟩ := h
  obtain ⟨⟨c, hc3, hc1, hc2⟩, -⟩ := hV.c
  have hcc : c = 0 ∨ c = 1 ∨ 2 ≤ c := by omega
  rcases hcc with rfl | rfl | hc
  · have hc1' : vb 0 0 = 0 := hc1
    have hc2' : jk = 0 := hc2
    obtain ⟨bl1, bf1, oc1, ol1, ml1, mx1, mb1, jm1, jy1, jq1, jo1, jQ1, jz1, jf1, hC, hR, r1, r2, r3⟩ := p_one l 1 ⟨1, by decide, rfl⟩ bf jy hQ ho hg hβ hb hag he10 hfn
    refine K (bl' := bl1) (bf' := bf1) (oc' := oc1) (ol' := ol1) (on' := on) (ml' := ml1) (mx' := mx1) (mb' := mb1) (kc' := kc) (kh' := kh) (ka' := ka) (sp' := sp) (vf' := vf) (vs' := vs) (vb' := vb) (nv' := nv) (nw' := nw) (nr' := nr) (nq' := nq) (ne' := ne) (wt' := wt) (jq' := jq1) (jQ' := jQ1) (jz' := jz1) (jf' := jf1) (jo' := jo1) (jn' := jn) (jt' := jt) (jH' := jH) (jA' := jA) (jm' := jm1) (jy' := jy1) (jp' := jp) (jk' := jk) (jw' := jw) (ju' := ju) (jF' := jF) (jL' := jL) (jO' := jO) (jS' := jS) (jT' := jT) (jU' := jU) (jV' := jV) (jW' := jW) (fun xf' xz' xt' xb' xc' hD => n108_273 (dd := 20) hg hβ (by decide) (by decide) (n121a (d := 20) (by decide) hc1') (hC ⟨rfl, _, _, _, _, _, rfl⟩) hk) ?_ ⟨hT.mono (by omega), r1, r2, hn, hK, hL, r3 _ hZ, hV, hG, hM, hW, hGG⟩
    intros
    rename_i g' hg'
    rw [e2, e3]
    exact q205_273 (dd := 16) (by decide) ((q214a (d := 16) (dd := 10) hc2' (by decide) hR).n ⟨g', hg', rfl⟩)
  · rcases hM.2.2.2.2.2.2.2 with hch | hch
    · have hch : ch = 2 := hch
      have hV2 := hV.ctl 2 (by decide)
      obtain ⟨b0, bl', bf', on', oc', ol', ml', mx', mb', jm', jy', jn', jq', jo', jQ', jz', jf', hC0, hR0, q1, q2, q3, q4⟩ := p_happen l bl bf jm jy (e := 1) (by decide) (by decide) hQ ho hn hV2 hG hM.2.1
      obtain ⟨bl1, bf1, oc1, ol1, ml1, mx1, mb1, jm1, jy1, jq1, jo1, jQ1, jz1, jf1, hC, hR, r1, r2, r3⟩ := p_one l 0 ⟨0, by decide, rfl⟩ bf' jy' q1 q2 hg hβ hb hag he10 hfn
      refine K (bl' := bl1) (bf' := bf1) (oc' := oc1) (ol' := ol1) (on' := on') (ml' := ml1) (mx' := mx1) (mb' := mb1) (kc' := kc) (kh' := kh) (ka' := ka) (sp' := sp) (vf' := vf) (vs' := vs) (vb' := updf vb 0 (upd (vb 0) 0 2)) (nv' := nv) (nw' := nw) (nr' := nr) (nq' := nq) (ne' := ne) (wt' := wt) (jq' := jq1) (jQ' := jQ1) (jz' := jz1) (jf' := jf1) (jo' := jo1) (jn' := jn') (jt' := jt) (jH' := jH) (jA' := jA) (jm' := jm1) (jy' := jy1) (jp' := jp) (jk' := 2) (jw' := jw) (ju' := ju) (jF' := jF) (jL' := jL) (jO' := jO) (jS' := jS) (jT' := jT) (jU' := jU) (jV' := jV) (jW' := jW) (fun xf' xz' xt' xb' xc' hD => n108_273 (dd := 21) hg hβ (by decide) (by decide) (n121c (d := 21) (dd := 20) (by decide) (by rw [hc1]; decide) (by rw [hc1]; decide) (by decide) (by rw [hch]; exact n116 (d := 20) (dd := 3) 2 (by decide) (by rw [hc1]; decide) (by decide) hC0)) (hC ⟨rfl, _, _, _, _, _, rfl⟩) hk) ?_ ⟨hT.mono (by omega), r1, r2, q3, hK, hL, r3 _ (q4 _ hZ), hV2, hG, hM, hW, hGG⟩
      intros
      rename_i g' hg'
      rw [e2, e3]
      refine q205_273 (dd := 16) (by decide) ((q214 (d := 16) (dd := 10) (by rw [hc2]; decide) (by rw [hc2]; decide) (by decide) (by rw [hM.2.2.1, hch]; exact q211 (d := 10) (dd := 5) 2 (by rw [hc2]; decide) (by decide) hR0) rfl hR).n ⟨g', hg', rfl⟩)
    · have hch : ch = 3 := hch
      have hV2 := hV.ctl 3 (by decide)
      obtain ⟨b0, bl', bf', on', oc', ol', ml', mx', mb', jm', jy', jn', jq', jo', jQ', jz', jf', hC0, hR0, q1, q2, q3, q4⟩ := p_happen l bl bf jm jy (e := 1) (by decide) (by decide) hQ ho hn hV2 hG hM.2.1
      obtain ⟨bl1, bf1, oc1, ol1, ml1, mx1, mb1, jm1, jy1, jq1, jo1, jQ1, jz1, jf1, hC, hR, r1, r2, r3⟩ := p_one l 0 ⟨0, by decide, rfl⟩ bf' jy' q1 q2 hg hβ hb hag he10 hfn
      refine K (bl' := bl1) (bf' := bf1) (oc' := oc1) (ol' := ol1) (on' := on') (ml' := ml1) (mx' := mx1) (mb' := mb1) (kc' := kc) (kh' := kh) (ka' := ka) (sp' := sp) (vf' := vf) (vs' := vs) (vb' := updf vb 0 (upd (vb 0) 0 3)) (nv' := nv) (nw' := nw) (nr' := nr) (nq' := nq) (ne' := ne) (wt' := wt) (jq' := jq1) (jQ' := jQ1) (jz' := jz1) (jf' := jf1) (jo' := jo1) (jn' := jn') (jt' := jt) (jH' := jH) (jA' := jA) (jm' := jm1) (jy' := jy1) (jp' := jp) (jk' := 3) (jw' := jw) (ju' := ju) (jF' := jF) (jL' := jL) (jO' := jO) (jS' := jS) (jT' := jT) (jU' := jU) (jV' := jV) (jW' := jW) (fun xf' xz' xt' xb' xc' hD => n108_273 (dd := 21) hg hβ (by decide) (by decide) (n121c (d := 21) (dd := 20) (by decide) (by rw [hc1]; decide) (by rw [hc1]; decide) (by decide) (by rw [hch]; exact n116 (d := 20) (dd := 3) 3 (by decide) (by rw [hc1]; decide) (by decide) hC0)) (hC ⟨rfl, _, _, _, _, _, rfl⟩) hk) ?_ ⟨hT.mono (by omega), r1, r2, q3, hK, hL, r3 _ (q4 _ hZ), hV2, hG, hM, hW, hGG⟩
      intros
      rename_i g' hg'
      rw [e2, e3]
      refine q205_273 (dd := 16) (by decide) ((q214 (d := 16) (dd := 10) (by rw [hc2]; decide) (by rw [hc2]; decide) (by decide) (by rw [hM.2.2.1, hch]; exact q211 (d := 10) (dd := 5) 3 (by rw [hc2]; decide) (by decide) hR0) rfl hR).n ⟨g', hg', rfl⟩)
  · have h3 : ¬ nI c = 0 := nI_ne0 (by omega) (by omega)
    have h4 : ¬ nI c ≤ 1 := nI_ge (a := 1) (by omega) (by omega)
    have h5 : ¬ xon (nI c) = 0 := (xon_ge hc3).mpr (nI_le (a := 2) hc (by omega))
    obtain ⟨bl1, bf1, oc1, ol1, ml1, mx1, mb1, jm1, jy1, jq1, jo1, jQ1, jz1, jf1, hC, hR, r1, r2, r3⟩ := p_one l 2 ⟨2, by decide, rfl⟩ bf jy hQ ho hg hβ hb hag he10 hfn
    refine K (bl' := bl1) (bf' := bf1) (oc' := oc1) (ol' := ol1) (on' := on) (ml' := ml1) (mx' := mx1) (mb' := mb1) (kc' := kc) (kh' := kh) (ka' := ka) (sp' := sp) (vf' := vf) (vs' := vs) (vb' := vb) (nv' := nv) (nw' := nw) (nr' := nr) (nq' := nq) (ne' := ne) (wt' := wt) (jq' := jq1) (jQ' := jQ1) (jz' := jz1) (jf' := jf1) (jo' := jo1) (jn' := jn) (jt' := jt) (jH' := jH) (jA' := jA) (jm' := jm1) (jy' := jy1) (jp' := jp) (jk' := jk) (jw' := jw) (ju' := ju) (jF' := jF) (jL' := jL) (jO' := jO) (jS' := jS) (jT' := jT) (jU' := jU) (jV' := jV) (jW' := jW) (fun xf' xz' xt' xb' xc' hD => n108_273 (dd := 20) hg hβ (by decide) (by decide) (n121b (d := 20) (by decide) (by rw [hc1]; exact h3) (by rw [hc1]; exact h5)) (hC ⟨rfl, _, _, _, _, _, rfl⟩) hk) ?_ ⟨hT.mono (by omega), r1, r2, hn, hK, hL, r3 _ hZ, hV, hG, hM, hW, hGG⟩
    intros
    rename_i g' hg'
    rw [e2, e3]
    exact q205_273 (dd := 16) (by decide) ((q214b (d := 16) (dd := 10) (by rw [hc2]; exact h3) (by rw [hc2]; exact h4) (by decide) hR).n ⟨g', hg', rfl⟩)

theorem k_527 (hz : io = 1) (hk : dK β = 527) (hB : dB β e 527 = true)  (h : Rel (N) tc tf of oc ol on ml mx mb kc kh kr ka (nI e) gb ls lq lk lg lh vf vs vb nv nw nr nq ne io sp ch wt jl js jh jb jc jr jq jQ jz jf jo jn jt jH jA je jp jk jx jw ju jF jL jO jS jT jU jV jW (fun z1 => nI (gg z1))) (hN : N < 2 ^ 28) (hg : ∀ i, i < 130 → gb i = nI (β i)) (hβ : ∀ i, β i < 256) (hb : ∀ i, i < 130 → jb (i + 1) = nI (β' i)) (hβ' : ∀ i, β' i < 256) (hag : ∀ i, i < e → β i = β' i) (he10 : 10 ≤ e) (he : e ≤ 130) (hgg : ∀ i, gg i < 2 ^ 24) (K : ∀ {bl' : Int32} {bf' : (Nat → Int32)} {oc' : Int32} {ol' : Int32} {on' : Int32} {ml' : (Nat → Int32)} {mx' : (Nat → Int32)} {mb' : (Nat → Nat → Int32)} {kc' : Int32} {kh' : (Nat → Nat)} {ka' : (Nat → Int32)} {sp' : Int32} {vf' : (Nat → Int32)} {vs' : (Nat → Int32)} {vb' : (Nat → Nat → Int32)} {nv' : (Nat → Int32)} {nw' : (Nat → Nat → Int32)} {nr' : (Nat → Int32)} {nq' : (Nat → Nat → Int32)} {ne' : (Nat → Int32)} {wt' : Int32} {jq' : Int32} {jQ' : (Nat → Int32)} {jz' : (Nat → Int32)} {jf' : (Nat → Int32)} {jo' : Int32} {jn' : Int32} {jt' : Int32} {jH' : (Nat → Int32)} {jA' : (Nat → Int32)} {jm' : Int32} {jy' : (Nat → Int32)} {jp' : Int32} {jk' : Int32} {jw' : Int32} {ju' : Int32} {jF' : (Nat → Int32)} {jL' : (Nat → Int32)} {jO' : (Nat → Int32)} {jS' : (Nat → Int32)} {jT' : (Nat → Int32)} {jU' : (Nat → Int32)} {jV' : (Nat → Int32)} {jW' : (Nat → Int32)}, (∀ {g : xm_H}, ∀ (xf' xz' xt' xb' : Nat → Int32) (xc' : Int32), dI β e (dK β) xf' xz' xt' xb' xc' → XM l 108 40 0 0 [.ref 97] (cw L xs g tc tf bl bf of oc ol on ml mx mb kc kh kr ka (nI e) gx gb ls lq lk lg lh vf vs vb nv nw nr nq ne io sp ch wt (xf') (xz') (xt') (xb') (xc')) (xN (fun h => ∃ (xf' xz' xt' xb' : Nat → Int32) (xc' : Int32), h = (cw L xs g tc tf (bl') (bf') of (oc') (ol') (on') (ml') (mx') (mb') (kc') (kh') kr (ka') (nI e) gx gb ls lq lk lg lh (vf') (vs') (vb') (nv') (nw') (nr') (nq') (ne') io (sp') ch (wt') (xf') (xz') (xt') (xb') (xc'))))) → (∀ {L : Nat} {xs : Nat → Int32} {tc : Int32} {tf : (Nat → Int32)} {bl : Int32} {bf : (Nat → Int32)} {of : Int32} {oc : Int32} {ol : Int32} {on : Int32} {ml : (Nat → Int32)} {mx : (Nat → Int32)} {mb : (Nat → Nat → Int32)} {kc : Int32} {kh : (Nat → Nat)} {kr : (Nat → Nat → Int32)} {ka : (Nat → Int32)} {gl : Int32} {gx : Int32} {gb : (Nat → Int32)} {ls : Int32} {lq : Int32} {lk : Int32} {lg : Int32} {lh : Int32} {vf : (Nat → Int32)} {vs : (Nat → Int32)} {vb : (Nat → Nat → Int32)} {nv : (Nat → Int32)} {nw : (Nat → Nat → Int32)} {nr : (Nat → Int32)} {nq : (Nat → Nat → Int32)} {ne : (Nat → Int32)} {io : Int32} {sp : Int32} {ch : Int32} {wt : Int32} {xf : (Nat → Int32)} {xz : (Nat → Int32)} {xt : (Nat → Int32)} {xb : (Nat → Int32)} {xc : Int32} {th : Int32} {ov : (Nat → Value)}, ∀ g' : Nat → Nat, (∀ i, g' i < 2 ^ 24) → XM l 205 17 0 0 [.ref 103, .int (nI (β' 2 % 128)), .int (nI (β' 3))] (cw L xs (rw th jl js jh jb jc jr jq jQ jz jf jo jn jt jH jA jm jy je jp jk jx jw ju jF jL jO jS jT jU jV jW (nI e) (fun z1 => nI (g' z1)) ov g2) tc tf bl bf of oc ol on ml mx mb kc kh kr ka gl gx gb ls lq lk lg lh vf vs vb nv nw nr nq ne io sp ch wt xf xz xt xb xc) (xN (fun h => ∃ g' : Nat → Nat, (∀ i, g' i < 2 ^ 24) ∧ h = (cw L xs (rw th jl js jh jb jc jr (jq') (jQ') (jz') (jf') (jo') (jn') (jt') (jH') (jA') (jm') (jy') je (jp') (jk') jx (jw') (ju') (jF') (jL') (jO') (jS') (jT') (jU') (jV') (jW') (nI e) (fun z1 => nI (g' z1)) ov g2) tc tf bl bf of oc ol on ml mx mb kc kh kr ka gl gx gb ls lq lk lg lh vf vs vb nv nw nr nq ne io sp ch wt xf xz xt xb xc)))) → Rel (N + 900) tc tf of (oc') (ol') (on') (ml') (mx') (mb') (kc') (kh') kr (ka') (nI e) gb ls lq lk lg lh (vf') (vs') (vb') (nv') (nw') (nr') (nq') (ne') io (sp') ch (wt') jl js jh jb jc jr (jq') (jQ') (jz') (jf') (jo') (jn') (jt') (jH') (jA') je (jp') (jk') jx (jw') (ju') (jF') (jL') (jO') (jS') (jT') (jU') (jV') (jW') (fun z1 => nI (gg z1)) → G) : G := by
  have b3 := hβ' 3
  have b3c := hβ 3
  have hkr : dK β' = 527 := by rw [← dK_E hag he10]; exact hk
  unfold dK at hkr
  have e2 : β' 2 % 128 = 2 := by omega
  have e3 : β' 3 = 15 := by omega
  have hf1 : gb 3 + 1 = nI 16 := by rw [hg 3 (by decide), hag 3 (by omega), e3, nI_1]
  have hfn : isB (gb 3 + 1) := ⟨16, by decide, hf1⟩
  obtain ⟨hT, hQ, ho, hn, hK, hL, hZ, hV, hG, hM, hW, hGG⟩ := h
  obtain ⟨ps, hps, hpn⟩ := any_some (F := fun ps => pPairs β ps) (by simpa [dB] using hB)
  have hE := itB_pE hag hps
  have hps' : itB β' e = some ps := by rw [← itB_E hag]; exact hps
  have hat := itB_at hps'
  have hpn' : pPairs β' ps = true := by rw [← pPairs_E hE]; exact hpn
  have hit := itB_S hat
  obtain ⟨_, -, -, hS0, -⟩ := hat.get
  have hS : pS β ps 0 = itS β' 10 := by rw [hE.2.1]; exact hS0
  have hfe : pfP β ps (pS β ps 0) 1 false = pfP β' ps (itS β' 10) 1 false := by rw [hS, pfP_E hE]
  by_cases hf : pfP β' ps (itS β' 10) 1 false = 0
  · have hva : vAll β ps (pS β ps 0) 1 (vf, vs, vb) = vAll β' ps (itS β' 10) 1 (vf, vs, vb) := by rw [hS, vAll_E hE]
    have hV2 := hV.assign hβ' he hat hpn' hf
    have hW2 : RJ wt (vAll β' ps (itS β' 10) 1 (vf, vs, vb)).2.2 := by
      obtain ⟨-, w, -, x1, x2⟩ := hV.c
      obtain ⟨-, w2, -, x3, x4⟩ := hV2.c
      obtain ⟨t, t1, t2, t3⟩ := hW
      exact ⟨t, t1, t2, by rw [x3, ← x4, x2, ← x1]; exact t3⟩
    obtain ⟨bl1, bf1, oc1, ol1, ml1, mx1, mb1, jm1, jy1, jq1, jo1, jQ1, jz1, jf1, hC, hR, r1, r2, r3⟩ := p_one l 0 ⟨0, by decide, rfl⟩ bf jy hQ ho hg hβ hb hag he10 hfn
    refine K (bl' := bl1) (bf' := bf1) (oc' := oc1) (ol' := ol1) (on' := on) (ml' := ml1) (mx' := mx1) (mb' := mb1) (kc' := kc) (kh' := kh) (ka' := ka) (sp' := sp) (vf' := (vAll β' ps (itS β' 10) 1 (vf, vs, vb)).1) (vs' := (vAll β' ps (itS β' 10) 1 (vf, vs, vb)).2.1) (vb' := (vAll β' ps (itS β' 10) 1 (vf, vs, vb)).2.2) (nv' := nv) (nw' := nw) (nr' := nr) (nq' := nq) (ne' := ne) (wt' := wt) (jq' := jq1) (jQ' := jQ1) (jz' := jz1) (jf' := jf1) (jo' := jo1) (jn' := jn) (jt' := jt) (jH' := jH) (jA' := jA) (jm' := jm1) (jy' := jy1) (jp' := jp) (jk' := jk) (jw' := jw) (ju' := ju) (jF' := (rAll β' ps (itS β' 10) 0 (jF, jL, jO)).1) (jL' := (rAll β' ps (itS β' 10) 0 (jF, jL, jO)).2.1) (jO' := (rAll β' ps (itS β' 10) 0 (jF, jL, jO)).2.2) (jS' := jS) (jT' := jT) (jU' := jU) (jV' := jV) (jW' := jW) (fun xf' xz' xt' xb' xc' hD => ?_) ?_ ⟨hT.mono (by omega), r1, r2, hn, hK, hL, r3 _ hZ, hV2, hG, hM, hW2, hGG⟩
    · obtain ⟨ps2, g1, rfl, hA, hVv⟩ := hD (Or.inr (by omega))
      obtain rfl : ps = ps2 := Option.some.inj (hps.symm.trans g1)
      have hM9 := fun (g : xm_H) => n122 (l := l) (d := 20) (L := L) (xs := xs) (g := g) (tc := tc) (tf := tf) (bl := bl) (bf := bf) (of := of) (oc := oc) (ol := ol) (on := on) (ml := ml) (mx := mx) (mb := mb) (kc := kc) (kh := kh) (kr := kr) (ka := ka) (gl := nI e) (gx := gx) (gb := gb) (ls := ls) (lq := lq) (lk := lk) (lg := lg) (lh := lh) (vf := vf) (vs := vs) (vb := vb) (nv := nv) (nw := nw) (nr := nr) (nq := nq) (ne := ne) (io := io) (sp := sp) (ch := ch) (wt := wt) (xf := xf') (xz := xz') (xt := xt') (xb := xb') hg hβ hA hVv (by decide) (by rw [hfe]; exact hf)
      rw [hva] at hM9
      exact n108_527 (dd := 20) hg hβ (by decide) (by decide) (hM9 _) (hC ⟨rfl, _, _, _, _, _, rfl⟩) hk
    · intros
      rename_i g' hg'
      rw [e2, e3]
      exact q205_527 (dd := 16) (by decide) ((q215 (d := 16) (dd := 10) hb hβ' he hat hpn' hf (by decide) (by decide) hR).n ⟨g', hg', rfl⟩)
  · have hle := pfP_le (β := β') (ps := ps) (itS β' 10) 1 false
    obtain ⟨bl1, bf1, oc1, ol1, ml1, mx1, mb1, jm1, jy1, jq1, jo1, jQ1, jz1, jf1, hC, hR, r1, r2, r3⟩ := p_one l (nI (pfP β' ps (itS β' 10) 1 false)) ⟨_, by omega, rfl⟩ bf jy hQ ho hg hβ hb hag he10 hfn
    refine K (bl' := bl1) (bf' := bf1) (oc' := oc1) (ol' := ol1) (on' := on) (ml' := ml1) (mx' := mx1) (mb' := mb1) (kc' := kc) (kh' := kh) (ka' := ka) (sp' := sp) (vf' := vf) (vs' := vs) (vb' := vb) (nv' := nv) (nw' := nw) (nr' := nr) (nq' := nq) (ne' := ne) (wt' := wt) (jq' := jq1) (jQ' := jQ1) (jz' := jz1) (jf' := jf1) (jo' := jo1) (jn' := jn) (jt' := jt) (jH' := jH) (jA' := jA) (jm' := jm1) (jy' := jy1) (jp' := jp) (jk' := jk) (jw' := jw) (ju' := ju) (jF' := jF) (jL' := jL) (jO' := jO) (jS' := jS) (jT' := jT) (jU' := jU) (jV' := jV) (jW' := jW) (fun xf' xz' xt' xb' xc' hD => ?_) ?_ ⟨hT.mono (by omega), r1, r2, hn, hK, hL, r3 _ hZ, hV, hG, hM, hW, hGG⟩
    · obtain ⟨ps2, g1, rfl, hA, hVv⟩ := hD (Or.inr (by omega))
      obtain rfl : ps = ps2 := Option.some.inj (hps.symm.trans g1)
      exact n108_527 (dd := 20) hg hβ (by decide) (by decide) (n122f (d := 20) hg hβ hA hVv _ (by decide) hfe hf (by omega)) (hC ⟨rfl, _, _, _, _, _, rfl⟩) hk
    · intros
      rename_i g' hg'
      rw [e2, e3]
      exact q205_527 (dd := 16) (by decide) ((q215f (d := 16) (dd := 10) hb hβ' he hat hpn' _ rfl hf (by decide) (by decide) hR).n ⟨g', hg', rfl⟩)
theorem k_545 (hz : io = 1) (hk : dK β = 545) (hB : dB β e 545 = true)  (h : Rel (N) tc tf of oc ol on ml mx mb kc kh kr ka (nI e) gb ls lq lk lg lh vf vs vb nv nw nr nq ne io sp ch wt jl js jh jb jc jr jq jQ jz jf jo jn jt jH jA je jp jk jx jw ju jF jL jO jS jT jU jV jW (fun z1 => nI (gg z1))) (hN : N < 2 ^ 28) (hg : ∀ i, i < 130 → gb i = nI (β i)) (hβ : ∀ i, β i < 256) (hb : ∀ i, i < 130 → jb (i + 1) = nI (β' i)) (hβ' : ∀ i, β' i < 256) (hag : ∀ i, i < e → β i = β' i) (he10 : 10 ≤ e) (he : e ≤ 130) (hgg : ∀ i, gg i < 2 ^ 24) (K : ∀ {bl' : Int32} {bf' : (Nat → Int32)} {oc' : Int32} {ol' : Int32} {on' : Int32} {ml' : (Nat → Int32)} {mx' : (Nat → Int32)} {mb' : (Nat → Nat → Int32)} {kc' : Int32} {kh' : (Nat → Nat)} {ka' : (Nat → Int32)} {sp' : Int32} {vf' : (Nat → Int32)} {vs' : (Nat → Int32)} {vb' : (Nat → Nat → Int32)} {nv' : (Nat → Int32)} {nw' : (Nat → Nat → Int32)} {nr' : (Nat → Int32)} {nq' : (Nat → Nat → Int32)} {ne' : (Nat → Int32)} {wt' : Int32} {jq' : Int32} {jQ' : (Nat → Int32)} {jz' : (Nat → Int32)} {jf' : (Nat → Int32)} {jo' : Int32} {jn' : Int32} {jt' : Int32} {jH' : (Nat → Int32)} {jA' : (Nat → Int32)} {jm' : Int32} {jy' : (Nat → Int32)} {jp' : Int32} {jk' : Int32} {jw' : Int32} {ju' : Int32} {jF' : (Nat → Int32)} {jL' : (Nat → Int32)} {jO' : (Nat → Int32)} {jS' : (Nat → Int32)} {jT' : (Nat → Int32)} {jU' : (Nat → Int32)} {jV' : (Nat → Int32)} {jW' : (Nat → Int32)}, (∀ {g : xm_H}, ∀ (xf' xz' xt' xb' : Nat → Int32) (xc' : Int32), dI β e (dK β) xf' xz' xt' xb' xc' → XM l 108 40 0 0 [.ref 97] (cw L xs g tc tf bl bf of oc ol on ml mx mb kc kh kr ka (nI e) gx gb ls lq lk lg lh vf vs vb nv nw nr nq ne io sp ch wt (xf') (xz') (xt') (xb') (xc')) (xN (fun h => ∃ (xf' xz' xt' xb' : Nat → Int32) (xc' : Int32), h = (cw L xs g tc tf (bl') (bf') of (oc') (ol') (on') (ml') (mx') (mb') (kc') (kh') kr (ka') (nI e) gx gb ls lq lk lg lh (vf') (vs') (vb') (nv') (nw') (nr') (nq') (ne') io (sp') ch (wt') (xf') (xz') (xt') (xb') (xc'))))) → (∀ {L : Nat} {xs : Nat → Int32} {tc : Int32} {tf : (Nat → Int32)} {bl : Int32} {bf : (Nat → Int32)} {of : Int32} {oc : Int32} {ol : Int32} {on : Int32} {ml : (Nat → Int32)} {mx : (Nat → Int32)} {mb : (Nat → Nat → Int32)} {kc : Int32} {kh : (Nat → Nat)} {kr : (Nat → Nat → Int32)} {ka : (Nat → Int32)} {gl : Int32} {gx : Int32} {gb : (Nat → Int32)} {ls : Int32} {lq : Int32} {lk : Int32} {lg : Int32} {lh : Int32} {vf : (Nat → Int32)} {vs : (Nat → Int32)} {vb : (Nat → Nat → Int32)} {nv : (Nat → Int32)} {nw : (Nat → Nat → Int32)} {nr : (Nat → Int32)} {nq : (Nat → Nat → Int32)} {ne : (Nat → Int32)} {io : Int32} {sp : Int32} {ch : Int32} {wt : Int32} {xf : (Nat → Int32)} {xz : (Nat → Int32)} {xt : (Nat → Int32)} {xb : (Nat → Int32)} {xc : Int32} {th : Int32} {ov : (Nat → Value)}, ∀ g' : Nat → Nat, (∀ i, g' i < 2 ^ 24) → XM l 205 17 0 0 [.ref 103, .int (nI (β' 2 % 128)), .int (nI (β' 3))] (cw L xs (rw th jl js jh jb jc jr jq jQ jz jf jo jn jt jH jA jm jy je jp jk jx jw ju jF jL jO jS jT jU jV jW (nI e) (fun z1 => nI (g' z1)) ov g2) tc tf bl bf of oc ol on ml mx mb kc kh kr ka gl gx gb ls lq lk lg lh vf vs vb nv nw nr nq ne io sp ch wt xf xz xt xb xc) (xN (fun h => ∃ g' : Nat → Nat, (∀ i, g' i < 2 ^ 24) ∧ h = (cw L xs (rw th jl js jh jb jc jr (jq') (jQ') (jz') (jf') (jo') (jn') (jt') (jH') (jA') (jm') (jy') je (jp') (jk') jx (jw') (ju') (jF') (jL') (jO') (jS') (jT') (jU') (jV') (jW') (nI e) (fun z1 => nI (g' z1)) ov g2) tc tf bl bf of oc ol on ml mx mb kc kh kr ka gl gx gb ls lq lk lg lh vf vs vb nv nw nr nq ne io sp ch wt xf xz xt xb xc)))) → Rel (N + 900) tc tf of (oc') (ol') (on') (ml') (mx') (mb') (kc') (kh') kr (ka') (nI e) gb ls lq lk lg lh (vf') (vs') (vb') (nv') (nw') (nr') (nq') (ne') io (sp') ch (wt') jl js jh jb jc jr (jq') (jQ') (jz') (jf') (jo') (jn') (jt') (jH') (jA') je (jp') (jk') jx (jw') (ju') (jF') (jL') (jO') (jS') (jT') (jU') (jV') (jW') (fun z1 => nI (gg z1)) → G) : G := by
  have b3 := hβ' 3
  have b3c := hβ 3
  have hkr : dK β' = 545 := by rw [← dK_E hag he10]; exact hk
  unfold dK at hkr
  have e2 : β' 2 % 128 = 2 := by omega
  have e3 : β' 3 = 33 := by omega
  have hf1 : gb 3 + 1 = nI 34 := by rw [hg 3 (by decide), hag 3 (by omega), e3, nI_1]
  have hfn : isB (gb 3 + 1) := ⟨34, by decide, hf1⟩
  obtain ⟨hT, hQ, ho, hn, hK, hL, hZ, hV, hG, hM, hW, hGG⟩ := h
  obtain ⟨ps, hps, hpn⟩ := any_some (F := fun ps => pTable β ps) (by simpa [dB] using hB)
  have hE := itB_pE hag hps
  have hps' : itB β' e = some ps := by rw [← itB_E hag]; exact hps
  have hat := itB_at hps'
  have hpn' : pTable β' ps = true := by rw [← pTable_E hE]; exact hpn
  have hit := itB_S hat
  obtain ⟨_, -, -, hS0, -⟩ := hat.get
  have hS : pS β ps 0 = itS β' 10 := by rw [hE.2.1]; exact hS0
  obtain ⟨⟨s, hks, rfl, rfl, rfl, rfl, rfl, rfl, rfl, rfl⟩, ene, h01⟩ := hG
  have hG : RG (fun z1 => nI (s.1 z1)) (fun z1 z2 => nI (s.2.1 z1 z2)) (fun z1 => nI (s.2.2.1 z1)) (fun z1 z2 => nI (s.2.2.2 z1 z2)) ne (fun z1 => nI (s.1 z1)) (fun z1 => nI (rt s.2.1 z1)) (fun z1 => nI (s.2.2.1 z1)) (fun z1 => nI (rf s.2.2.2 z1)) jW := ⟨⟨s, hks, rfl, rfl, rfl, rfl, rfl, rfl, rfl, rfl⟩, ene, h01⟩
  have hcv : ∀ r, s.1 r < 2 ^ 20 := fun r => Nat.lt_of_le_of_lt (hks.1 r) (by decide)
  have hfe : fRs β ps s.1 (pS β ps 2) 3 = fRs β' ps s.1 (pS β' ps 2) 3 := by rw [hE.2.1, fRs_E hE]
  have hle : fRs β' ps s.1 (pS β' ps 2) 3 ≤ 5 := Nat.le_trans (fRs_le' _ _) (by decide)
  by_cases hf : fRs β' ps s.1 (pS β' ps 2) 3 = 0
  · have hks2 : kOk (dFin β' ps s) := kOk_fin hks hf
    obtain ⟨bl1, bf1, oc1, ol1, ml1, mx1, mb1, jm1, jy1, jq1, jo1, jQ1, jz1, jf1, hC, hR, r1, r2, r3⟩ := p_one l 0 ⟨0, by decide, rfl⟩ bf jy hQ ho hg hβ hb hag he10 hfn
    refine K (bl' := bl1) (bf' := bf1) (oc' := oc1) (ol' := ol1) (on' := on) (ml' := ml1) (mx' := mx1) (mb' := mb1) (kc' := kc) (kh' := kh) (ka' := ka) (sp' := sp) (vf' := vf) (vs' := vs) (vb' := vb) (nv' := fun z1 => nI (((dFin β' ps s)).1 z1)) (nw' := fun z1 z2 => nI (((dFin β' ps s)).2.1 z1 z2)) (nr' := fun z1 => nI (((dFin β' ps s)).2.2.1 z1)) (nq' := fun z1 z2 => nI (((dFin β' ps s)).2.2.2 z1 z2)) (ne' := ne) (wt' := wt) (jq' := jq1) (jQ' := jQ1) (jz' := jz1) (jf' := jf1) (jo' := jo1) (jn' := jn) (jt' := jt) (jH' := jH) (jA' := jA) (jm' := jm1) (jy' := jy1) (jp' := jp) (jk' := jk) (jw' := jw) (ju' := ju) (jF' := jF) (jL' := jL) (jO' := jO) (jS' := fun z1 => nI (((dFin β' ps s)).1 z1)) (jT' := fun z1 => nI (rt ((dFin β' ps s)).2.1 z1)) (jU' := fun z1 => nI (((dFin β' ps s)).2.2.1 z1)) (jV' := fun z1 => nI (rf ((dFin β' ps s)).2.2.2 z1)) (jW' := jW) (fun xf' xz' xt' xb' xc' hD => ?_) ?_ ⟨hT.mono (by omega), r1, r2, hn, hK, hL, r3 _ hZ, hV, ⟨⟨(dFin β' ps s), hks2, rfl, rfl, rfl, rfl, rfl, rfl, rfl, rfl⟩, ene, h01⟩, hM, hW, hGG⟩
    · obtain ⟨ps2, g1, rfl, hA, hVv⟩ := hD (Or.inr (by omega))
      obtain rfl : ps = ps2 := Option.some.inj (hps.symm.trans g1)
      refine n108_545 (bl' := bl) (dd := 20) hg hβ (by decide) (by decide) ((n126 (d := 20) hg hβ hA hVv s (by decide) hcv hks.2.2.1).mono (fun v h z => ?_)) (hC ⟨rfl, _, _, _, _, _, rfl⟩) hk
      rcases z with z | z
      · rw [dFin_E hE] at z
        exact ⟨z.2.1, z.2.2⟩
      · exact absurd (hfe.trans hf) z.1
    · intros
      rename_i g' hg'
      rw [e2, e3]
      exact q205_545 (dd := 16) (by decide) ((q216 (d := 16) (dd := 10) hb hβ' he hat hpn' s hcv hks.2.2.1 hf (by decide) (by decide) hR).n ⟨g', hg', rfl⟩)
  · skip
    obtain ⟨bl1, bf1, oc1, ol1, ml1, mx1, mb1, jm1, jy1, jq1, jo1, jQ1, jz1, jf1, hC, hR, r1, r2, r3⟩ := p_one l (nI (fRs β' ps s.1 (pS β' ps 2) 3)) ⟨_, by omega, rfl⟩ bf jy hQ ho hg hβ hb hag he10 hfn
    refine K (bl' := bl1) (bf' := bf1) (oc' := oc1) (ol' := ol1) (on' := on) (ml' := ml1) (mx' := mx1) (mb' := mb1) (kc' := kc) (kh' := kh) (ka' := ka) (sp' := sp) (vf' := vf) (vs' := vs) (vb' := vb) (nv' := fun z1 => nI ((s).1 z1)) (nw' := fun z1 z2 => nI ((s).2.1 z1 z2)) (nr' := fun z1 => nI ((s).2.2.1 z1)) (nq' := fun z1 z2 => nI ((s).2.2.2 z1 z2)) (ne' := ne) (wt' := wt) (jq' := jq1) (jQ' := jQ1) (jz' := jz1) (jf' := jf1) (jo' := jo1) (jn' := jn) (jt' := jt) (jH' := jH) (jA' := jA) (jm' := jm1) (jy' := jy1) (jp' := jp) (jk' := jk) (jw' := jw) (ju' := ju) (jF' := jF) (jL' := jL) (jO' := jO) (jS' := fun z1 => nI ((s).1 z1)) (jT' := fun z1 => nI (rt (s).2.1 z1)) (jU' := fun z1 => nI ((s).2.2.1 z1)) (jV' := fun z1 => nI (rf (s).2.2.2 z1)) (jW' := jW) (fun xf' xz' xt' xb' xc' hD => ?_) ?_ ⟨hT.mono (by omega), r1, r2, hn, hK, hL, r3 _ hZ, hV, hG, hM, hW, hGG⟩
    · obtain ⟨ps2, g1, rfl, hA, hVv⟩ := hD (Or.inr (by omega))
      obtain rfl : ps = ps2 := Option.some.inj (hps.symm.trans g1)
      refine n108_545 (bl' := bl) (dd := 20) hg hβ (by decide) (by decide) ((n126 (d := 20) hg hβ hA hVv s (by decide) hcv hks.2.2.1).mono (fun v h z => ?_)) (hC ⟨rfl, _, _, _, _, _, rfl⟩) hk
      rcases z with z | z
      · exact absurd (hfe.symm.trans z.1) hf
      · rw [hfe] at z
        exact ⟨z.2.1, z.2.2⟩
    · intros
      rename_i g' hg'
      rw [e2, e3]
      exact q205_545 (dd := 16) (by decide) ((q216f (d := 16) (dd := 10) hb hβ' he hat hpn' s _ hcv rfl hf (by omega) (by decide) (by decide) hR).n ⟨g', hg', rfl⟩)
theorem k_547 (hz : io = 1) (hk : dK β = 547) (hB : dB β e 547 = true)  (h : Rel (N) tc tf of oc ol on ml mx mb kc kh kr ka (nI e) gb ls lq lk lg lh vf vs vb nv nw nr nq ne io sp ch wt jl js jh jb jc jr jq jQ jz jf jo jn jt jH jA je jp jk jx jw ju jF jL jO jS jT jU jV jW (fun z1 => nI (gg z1))) (hN : N < 2 ^ 28) (hg : ∀ i, i < 130 → gb i = nI (β i)) (hβ : ∀ i, β i < 256) (hb : ∀ i, i < 130 → jb (i + 1) = nI (β' i)) (hβ' : ∀ i, β' i < 256) (hag : ∀ i, i < e → β i = β' i) (he10 : 10 ≤ e) (he : e ≤ 130) (hgg : ∀ i, gg i < 2 ^ 24) (K : ∀ {bl' : Int32} {bf' : (Nat → Int32)} {oc' : Int32} {ol' : Int32} {on' : Int32} {ml' : (Nat → Int32)} {mx' : (Nat → Int32)} {mb' : (Nat → Nat → Int32)} {kc' : Int32} {kh' : (Nat → Nat)} {ka' : (Nat → Int32)} {sp' : Int32} {vf' : (Nat → Int32)} {vs' : (Nat → Int32)} {vb' : (Nat → Nat → Int32)} {nv' : (Nat → Int32)} {nw' : (Nat → Nat → Int32)} {nr' : (Nat → Int32)} {nq' : (Nat → Nat → Int32)} {ne' : (Nat → Int32)} {wt' : Int32} {jq' : Int32} {jQ' : (Nat → Int32)} {jz' : (Nat → Int32)} {jf' : (Nat → Int32)} {jo' : Int32} {jn' : Int32} {jt' : Int32} {jH' : (Nat → Int32)} {jA' : (Nat → Int32)} {jm' : Int32} {jy' : (Nat → Int32)} {jp' : Int32} {jk' : Int32} {jw' : Int32} {ju' : Int32} {jF' : (Nat → Int32)} {jL' : (Nat → Int32)} {jO' : (Nat → Int32)} {jS' : (Nat → Int32)} {jT' : (Nat → Int32)} {jU' : (Nat → Int32)} {jV' : (Nat → Int32)} {jW' : (Nat → Int32)}, (∀ {g : xm_H}, ∀ (xf' xz' xt' xb' : Nat → Int32) (xc' : Int32), dI β e (dK β) xf' xz' xt' xb' xc' → XM l 108 40 0 0 [.ref 97] (cw L xs g tc tf bl bf of oc ol on ml mx mb kc kh kr ka (nI e) gx gb ls lq lk lg lh vf vs vb nv nw nr nq ne io sp ch wt (xf') (xz') (xt') (xb') (xc')) (xN (fun h => ∃ (xf' xz' xt' xb' : Nat → Int32) (xc' : Int32), h = (cw L xs g tc tf (bl') (bf') of (oc') (ol') (on') (ml') (mx') (mb') (kc') (kh') kr (ka') (nI e) gx gb ls lq lk lg lh (vf') (vs') (vb') (nv') (nw') (nr') (nq') (ne') io (sp') ch (wt') (xf') (xz') (xt') (xb') (xc'))))) → (∀ {L : Nat} {xs : Nat → Int32} {tc : Int32} {tf : (Nat → Int32)} {bl : Int32} {bf : (Nat → Int32)} {of : Int32} {oc : Int32} {ol : Int32} {on : Int32} {ml : (Nat → Int32)} {mx : (Nat → Int32)} {mb : (Nat → Nat → Int32)} {kc : Int32} {kh : (Nat → Nat)} {kr : (Nat → Nat → Int32)} {ka : (Nat → Int32)} {gl : Int32} {gx : Int32} {gb : (Nat → Int32)} {ls : Int32} {lq : Int32} {lk : Int32} {lg : Int32} {lh : Int32} {vf : (Nat → Int32)} {vs : (Nat → Int32)} {vb : (Nat → Nat → Int32)} {nv : (Nat → Int32)} {nw : (Nat → Nat → Int32)} {nr : (Nat → Int32)} {nq : (Nat → Nat → Int32)} {ne : (Nat → Int32)} {io : Int32} {sp : Int32} {ch : Int32} {wt : Int32} {xf : (Nat → Int32)} {xz : (Nat → Int32)} {xt : (Nat → Int32)} {xb : (Nat → Int32)} {xc : Int32} {th : Int32} {ov : (Nat → Value)}, ∀ g' : Nat → Nat, (∀ i, g' i < 2 ^ 24) → XM l 205 17 0 0 [.ref 103, .int (nI (β' 2 % 128)), .int (nI (β' 3))] (cw L xs (rw th jl js jh jb jc jr jq jQ jz jf jo jn jt jH jA jm jy je jp jk jx jw ju jF jL jO jS jT jU jV jW (nI e) (fun z1 => nI (g' z1)) ov g2) tc tf bl bf of oc ol on ml mx mb kc kh kr ka gl gx gb ls lq lk lg lh vf vs vb nv nw nr nq ne io sp ch wt xf xz xt xb xc) (xN (fun h => ∃ g' : Nat → Nat, (∀ i, g' i < 2 ^ 24) ∧ h = (cw L xs (rw th jl js jh jb jc jr (jq') (jQ') (jz') (jf') (jo') (jn') (jt') (jH') (jA') (jm') (jy') je (jp') (jk') jx (jw') (ju') (jF') (jL') (jO') (jS') (jT') (jU') (jV') (jW') (nI e) (fun z1 => nI (g' z1)) ov g2) tc tf bl bf of oc ol on ml mx mb kc kh kr ka gl gx gb ls lq lk lg lh vf vs vb nv nw nr nq ne io sp ch wt xf xz xt xb xc)))) → Rel (N + 900) tc tf of (oc') (ol') (on') (ml') (mx') (mb') (kc') (kh') kr (ka') (nI e) gb ls lq lk lg lh (vf') (vs') (vb') (nv') (nw') (nr') (nq') (ne') io (sp') ch (wt') jl js jh jb jc jr (jq') (jQ') (jz') (jf') (jo') (jn') (jt') (jH') (jA') je (jp') (jk') jx (jw') (ju') (jF') (jL') (jO') (jS') (jT') (jU') (jV') (jW') (fun z1 => nI (gg z1)) → G) : G := by
  have b3 := hβ' 3
  have b3c := hβ 3
  have hkr : dK β' = 547 := by rw [← dK_E hag he10]; exact hk
  unfold dK at hkr
  have e2 : β' 2 % 128 = 2 := by omega
  have e3 : β' 3 = 35 := by omega
  have hf1 : gb 3 + 1 = nI 36 := by rw [hg 3 (by decide), hag 3 (by omega), e3, nI_1]
  have hfn : isB (gb 3 + 1) := ⟨36, by decide, hf1⟩
  obtain ⟨hT, hQ, ho, hn, hK, hL, hZ, hV, hG, hM, hW, hGG⟩ := h
  obtain ⟨ps, hps, hpn⟩ := any_some (F := fun ps => pTable β ps) (by simpa [dB] using hB)
  have hE := itB_pE hag hps
  have hps' : itB β' e = some ps := by rw [← itB_E hag]; exact hps
  have hat := itB_at hps'
  have hpn' : pTable β' ps = true := by rw [← pTable_E hE]; exact hpn
  have hit := itB_S hat
  obtain ⟨_, -, -, hS0, -⟩ := hat.get
  have hS : pS β ps 0 = itS β' 10 := by rw [hE.2.1]; exact hS0
  obtain ⟨⟨s, hks, rfl, rfl, rfl, rfl, rfl, rfl, rfl, rfl⟩, ene, h01⟩ := hG
  have hG : RG (fun z1 => nI (s.1 z1)) (fun z1 z2 => nI (s.2.1 z1 z2)) (fun z1 => nI (s.2.2.1 z1)) (fun z1 z2 => nI (s.2.2.2 z1 z2)) ne (fun z1 => nI (s.1 z1)) (fun z1 => nI (rt s.2.1 z1)) (fun z1 => nI (s.2.2.1 z1)) (fun z1 => nI (rf s.2.2.2 z1)) jW := ⟨⟨s, hks, rfl, rfl, rfl, rfl, rfl, rfl, rfl, rfl⟩, ene, h01⟩
  have hcv : ∀ r, s.1 r < 2 ^ 20 := fun r => Nat.lt_of_le_of_lt (hks.1 r) (by decide)
  have hfe : fLs β ps s.1 (pS β ps 2) 3 = fLs β' ps s.1 (pS β' ps 2) 3 := by rw [hE.2.1, fLs_E hE]
  have hle : fLs β' ps s.1 (pS β' ps 2) 3 ≤ 5 := fLs_le' _ _
  by_cases hf : fLs β' ps s.1 (pS β' ps 2) 3 = 0
  · have hks2 : kOk (s.1, s.2.1, lkAll β' ps (pS β' ps 2) 3 s.2.2) := kOk_lk _ _ s.2.2 hks hf
    obtain ⟨bl1, bf1, oc1, ol1, ml1, mx1, mb1, jm1, jy1, jq1, jo1, jQ1, jz1, jf1, hC, hR, r1, r2, r3⟩ := p_one l 0 ⟨0, by decide, rfl⟩ bf jy hQ ho hg hβ hb hag he10 hfn
    refine K (bl' := bl1) (bf' := bf1) (oc' := oc1) (ol' := ol1) (on' := on) (ml' := ml1) (mx' := mx1) (mb' := mb1) (kc' := kc) (kh' := kh) (ka' := ka) (sp' := sp) (vf' := vf) (vs' := vs) (vb' := vb) (nv' := fun z1 => nI (((s.1, s.2.1, lkAll β' ps (pS β' ps 2) 3 s.2.2)).1 z1)) (nw' := fun z1 z2 => nI (((s.1, s.2.1, lkAll β' ps (pS β' ps 2) 3 s.2.2)).2.1 z1 z2)) (nr' := fun z1 => nI (((s.1, s.2.1, lkAll β' ps (pS β' ps 2) 3 s.2.2)).2.2.1 z1)) (nq' := fun z1 z2 => nI (((s.1, s.2.1, lkAll β' ps (pS β' ps 2) 3 s.2.2)).2.2.2 z1 z2)) (ne' := ne) (wt' := wt) (jq' := jq1) (jQ' := jQ1) (jz' := jz1) (jf' := jf1) (jo' := jo1) (jn' := jn) (jt' := jt) (jH' := jH) (jA' := jA) (jm' := jm1) (jy' := jy1) (jp' := jp) (jk' := jk) (jw' := jw) (ju' := ju) (jF' := jF) (jL' := jL) (jO' := jO) (jS' := fun z1 => nI (((s.1, s.2.1, lkAll β' ps (pS β' ps 2) 3 s.2.2)).1 z1)) (jT' := fun z1 => nI (rt ((s.1, s.2.1, lkAll β' ps (pS β' ps 2) 3 s.2.2)).2.1 z1)) (jU' := fun z1 => nI (((s.1, s.2.1, lkAll β' ps (pS β' ps 2) 3 s.2.2)).2.2.1 z1)) (jV' := fun z1 => nI (rf ((s.1, s.2.1, lkAll β' ps (pS β' ps 2) 3 s.2.2)).2.2.2 z1)) (jW' := jW) (fun xf' xz' xt' xb' xc' hD => ?_) ?_ ⟨hT.mono (by omega), r1, r2, hn, hK, hL, r3 _ hZ, hV, ⟨⟨(s.1, s.2.1, lkAll β' ps (pS β' ps 2) 3 s.2.2), hks2, rfl, rfl, rfl, rfl, rfl, rfl, rfl, rfl⟩, ene, h01⟩, hM, hW, hGG⟩
    · obtain ⟨ps2, g1, rfl, hA, hVv⟩ := hD (Or.inr (by omega))
      obtain rfl : ps = ps2 := Option.some.inj (hps.symm.trans g1)
      refine n108_547 (bl' := bl) (dd := 20) hg hβ (by decide) (by decide) ((n132 (d := 20) hg hβ hA hVv s.2.2 (by decide) hcv).mono (fun v h z => ?_)) (hC ⟨rfl, _, _, _, _, _, rfl⟩) hk
      rcases z with z | z
      · rw [hE.2.1, lkAll_E hE] at z
        exact ⟨z.2.1, z.2.2⟩
      · exact absurd (hfe.trans hf) z.1
    · intros
      rename_i g' hg'
      rw [e2, e3]
      exact q205_547 (dd := 16) (by decide) ((q218 (d := 16) (dd := 10) hb hβ' he hat hpn' s.2.2 hcv hf (by decide) (by decide) hR).n ⟨g', hg', rfl⟩)
  · skip
    obtain ⟨bl1, bf1, oc1, ol1, ml1, mx1, mb1, jm1, jy1, jq1, jo1, jQ1, jz1, jf1, hC, hR, r1, r2, r3⟩ := p_one l (nI (fLs β' ps s.1 (pS β' ps 2) 3)) ⟨_, by omega, rfl⟩ bf jy hQ ho hg hβ hb hag he10 hfn
    refine K (bl' := bl1) (bf' := bf1) (oc' := oc1) (ol' := ol1) (on' := on) (ml' := ml1) (mx' := mx1) (mb' := mb1) (kc' := kc) (kh' := kh) (ka' := ka) (sp' := sp) (vf' := vf) (vs' := vs) (vb' := vb) (nv' := fun z1 => nI ((s).1 z1)) (nw' := fun z1 z2 => nI ((s).2.1 z1 z2)) (nr' := fun z1 => nI ((s).2.2.1 z1)) (nq' := fun z1 z2 => nI ((s).2.2.2 z1 z2)) (ne' := ne) (wt' := wt) (jq' := jq1) (jQ' := jQ1) (jz' := jz1) (jf' := jf1) (jo' := jo1) (jn' := jn) (jt' := jt) (jH' := jH) (jA' := jA) (jm' := jm1) (jy' := jy1) (jp' := jp) (jk' := jk) (jw' := jw) (ju' := ju) (jF' := jF) (jL' := jL) (jO' := jO) (jS' := fun z1 => nI ((s).1 z1)) (jT' := fun z1 => nI (rt (s).2.1 z1)) (jU' := fun z1 => nI ((s).2.2.1 z1)) (jV' := fun z1 => nI (rf (s).2.2.2 z1)) (jW' := jW) (fun xf' xz' xt' xb' xc' hD => ?_) ?_ ⟨hT.mono (by omega), r1, r2, hn, hK, hL, r3 _ hZ, hV, hG, hM, hW, hGG⟩
    · obtain ⟨ps2, g1, rfl, hA, hVv⟩ := hD (Or.inr (by omega))
      obtain rfl : ps = ps2 := Option.some.inj (hps.symm.trans g1)
      refine n108_547 (bl' := bl) (dd := 20) hg hβ (by decide) (by decide) ((n132 (d := 20) hg hβ hA hVv s.2.2 (by decide) hcv).mono (fun v h z => ?_)) (hC ⟨rfl, _, _, _, _, _, rfl⟩) hk
      rcases z with z | z
      · exact absurd (hfe.symm.trans z.1) hf
      · rw [hfe] at z
        exact ⟨z.2.1, z.2.2⟩
    · intros
      rename_i g' hg'
      rw [e2, e3]
      exact q205_547 (dd := 16) (by decide) ((q218f (d := 16) (dd := 10) hb hβ' he hat hpn' s.2.2 _ hcv rfl hf (by omega) (by decide) (by decide) hR).n ⟨g', hg', rfl⟩)
theorem k_549 (hz : io = 1) (hk : dK β = 549) (hB : dB β e 549 = true)  (h : Rel (N) tc tf of oc ol on ml mx mb kc kh kr ka (nI e) gb ls lq lk lg lh vf vs vb nv nw nr nq ne io sp ch wt jl js jh jb jc jr jq jQ jz jf jo jn jt jH jA je jp jk jx jw ju jF jL jO jS jT jU jV jW (fun z1 => nI (gg z1))) (hN : N < 2 ^ 28) (hg : ∀ i, i < 130 → gb i = nI (β i)) (hβ : ∀ i, β i < 256) (hb : ∀ i, i < 130 → jb (i + 1) = nI (β' i)) (hβ' : ∀ i, β' i < 256) (hag : ∀ i, i < e → β i = β' i) (he10 : 10 ≤ e) (he : e ≤ 130) (hgg : ∀ i, gg i < 2 ^ 24) (K : ∀ {bl' : Int32} {bf' : (Nat → Int32)} {oc' : Int32} {ol' : Int32} {on' : Int32} {ml' : (Nat → Int32)} {mx' : (Nat → Int32)} {mb' : (Nat → Nat → Int32)} {kc' : Int32} {kh' : (Nat → Nat)} {ka' : (Nat → Int32)} {sp' : Int32} {vf' : (Nat → Int32)} {vs' : (Nat → Int32)} {vb' : (Nat → Nat → Int32)} {nv' : (Nat → Int32)} {nw' : (Nat → Nat → Int32)} {nr' : (Nat → Int32)} {nq' : (Nat → Nat → Int32)} {ne' : (Nat → Int32)} {wt' : Int32} {jq' : Int32} {jQ' : (Nat → Int32)} {jz' : (Nat → Int32)} {jf' : (Nat → Int32)} {jo' : Int32} {jn' : Int32} {jt' : Int32} {jH' : (Nat → Int32)} {jA' : (Nat → Int32)} {jm' : Int32} {jy' : (Nat → Int32)} {jp' : Int32} {jk' : Int32} {jw' : Int32} {ju' : Int32} {jF' : (Nat → Int32)} {jL' : (Nat → Int32)} {jO' : (Nat → Int32)} {jS' : (Nat → Int32)} {jT' : (Nat → Int32)} {jU' : (Nat → Int32)} {jV' : (Nat → Int32)} {jW' : (Nat → Int32)}, (∀ {g : xm_H}, ∀ (xf' xz' xt' xb' : Nat → Int32) (xc' : Int32), dI β e (dK β) xf' xz' xt' xb' xc' → XM l 108 40 0 0 [.ref 97] (cw L xs g tc tf bl bf of oc ol on ml mx mb kc kh kr ka (nI e) gx gb ls lq lk lg lh vf vs vb nv nw nr nq ne io sp ch wt (xf') (xz') (xt') (xb') (xc')) (xN (fun h => ∃ (xf' xz' xt' xb' : Nat → Int32) (xc' : Int32), h = (cw L xs g tc tf (bl') (bf') of (oc') (ol') (on') (ml') (mx') (mb') (kc') (kh') kr (ka') (nI e) gx gb ls lq lk lg lh (vf') (vs') (vb') (nv') (nw') (nr') (nq') (ne') io (sp') ch (wt') (xf') (xz') (xt') (xb') (xc'))))) → (∀ {L : Nat} {xs : Nat → Int32} {tc : Int32} {tf : (Nat → Int32)} {bl : Int32} {bf : (Nat → Int32)} {of : Int32} {oc : Int32} {ol : Int32} {on : Int32} {ml : (Nat → Int32)} {mx : (Nat → Int32)} {mb : (Nat → Nat → Int32)} {kc : Int32} {kh : (Nat → Nat)} {kr : (Nat → Nat → Int32)} {ka : (Nat → Int32)} {gl : Int32} {gx : Int32} {gb : (Nat → Int32)} {ls : Int32} {lq : Int32} {lk : Int32} {lg : Int32} {lh : Int32} {vf : (Nat → Int32)} {vs : (Nat → Int32)} {vb : (Nat → Nat → Int32)} {nv : (Nat → Int32)} {nw : (Nat → Nat → Int32)} {nr : (Nat → Int32)} {nq : (Nat → Nat → Int32)} {ne : (Nat → Int32)} {io : Int32} {sp : Int32} {ch : Int32} {wt : Int32} {xf : (Nat → Int32)} {xz : (Nat → Int32)} {xt : (Nat → Int32)} {xb : (Nat → Int32)} {xc : Int32} {th : Int32} {ov : (Nat → Value)}, ∀ g' : Nat → Nat, (∀ i, g' i < 2 ^ 24) → XM l 205 17 0 0 [.ref 103, .int (nI (β' 2 % 128)), .int (nI (β' 3))] (cw L xs (rw th jl js jh jb jc jr jq jQ jz jf jo jn jt jH jA jm jy je jp jk jx jw ju jF jL jO jS jT jU jV jW (nI e) (fun z1 => nI (g' z1)) ov g2) tc tf bl bf of oc ol on ml mx mb kc kh kr ka gl gx gb ls lq lk lg lh vf vs vb nv nw nr nq ne io sp ch wt xf xz xt xb xc) (xN (fun h => ∃ g' : Nat → Nat, (∀ i, g' i < 2 ^ 24) ∧ h = (cw L xs (rw th jl js jh jb jc jr (jq') (jQ') (jz') (jf') (jo') (jn') (jt') (jH') (jA') (jm') (jy') je (jp') (jk') jx (jw') (ju') (jF') (jL') (jO') (jS') (jT') (jU') (jV') (jW') (nI e) (fun z1 => nI (g' z1)) ov g2) tc tf bl bf of oc ol on ml mx mb kc kh kr ka gl gx gb ls lq lk lg lh vf vs vb nv nw nr nq ne io sp ch wt xf xz xt xb xc)))) → Rel (N + 900) tc tf of (oc') (ol') (on') (ml') (mx') (mb') (kc') (kh') kr (ka') (nI e) gb ls lq lk lg lh (vf') (vs') (vb') (nv') (nw') (nr') (nq') (ne') io (sp') ch (wt') jl js jh jb jc jr (jq') (jQ') (jz') (jf') (jo') (jn') (jt') (jH') (jA') je (jp') (jk') jx (jw') (ju') (jF') (jL') (jO') (jS') (jT') (jU') (jV') (jW') (fun z1 => nI (gg z1)) → G) : G := by
  have b3 := hβ' 3
  have b3c := hβ 3
  have hkr : dK β' = 549 := by rw [← dK_E hag he10]; exact hk
  unfold dK at hkr
  have e2 : β' 2 % 128 = 2 := by omega
  have e3 : β' 3 = 37 := by omega
  have hf1 : gb 3 + 1 = nI 38 := by rw [hg 3 (by decide), hag 3 (by omega), e3, nI_1]
  have hfn : isB (gb 3 + 1) := ⟨38, by decide, hf1⟩
  obtain ⟨hT, hQ, ho, hn, hK, hL, hZ, hV, hG, hM, hW, hGG⟩ := h
  obtain ⟨ps, hps, hpn⟩ := any_some (F := fun ps => pSwitch β ps) (by simpa [dB] using hB)
  have hE := itB_pE hag hps
  have hps' : itB β' e = some ps := by rw [← itB_E hag]; exact hps
  have hat := itB_at hps'
  have hpn' : pSwitch β' ps = true := by rw [← pSwitch_E hE]; exact hpn
  have hit := itB_S hat
  obtain ⟨_, -, -, hS0, -⟩ := hat.get
  have hS : pS β ps 0 = itS β' 10 := by rw [hE.2.1]; exact hS0
  obtain ⟨hGs, ene, h01⟩ := hG
  have hfe : fEs β ps (pS β ps 2) 0 = fEs β' ps (pS β' ps 2) 0 := by rw [hE.2.1, fEs_E hE]
  have hee : (if pS β' ps 2 = 0 then enFive ne (!(pY β' ps 1 0 == 0)) else enAll β' ps (!(pY β' ps 1 0 == 0)) (pS β' ps 2) 0 ne) = (if pS β' ps 2 = 0 then enFive (enAll β' ps (!(pY β' ps 1 0 == 0)) (pS β' ps 2) 0 jW) (!(pY β' ps 1 0 == 0)) else enAll β' ps (!(pY β' ps 1 0 == 0)) (pS β' ps 2) 0 jW) := by
    rw [ene]
    by_cases z : pS β' ps 2 = 0
    · rw [if_pos z, if_pos z, z]
      rfl
    · rw [if_neg z, if_neg z]
  have h02 : ∀ x, (if pS β' ps 2 = 0 then enFive ne (!(pY β' ps 1 0 == 0)) else enAll β' ps (!(pY β' ps 1 0 == 0)) (pS β' ps 2) 0 ne) x = 0 ∨ (if pS β' ps 2 = 0 then enFive ne (!(pY β' ps 1 0 == 0)) else enAll β' ps (!(pY β' ps 1 0 == 0)) (pS β' ps 2) 0 ne) x = 1 := by
    by_cases z : pS β' ps 2 = 0
    · rw [if_pos z]; exact enFive_01 _ _ h01
    · rw [if_neg z]; exact enAll_01 _ _ _ _ h01
  cases hf : fEs β' ps (pS β' ps 2) 0 with
  | true =>
    obtain ⟨bl1, bf1, oc1, ol1, ml1, mx1, mb1, jm1, jy1, jq1, jo1, jQ1, jz1, jf1, hC, hR, r1, r2, r3⟩ := p_one l 0 ⟨0, by decide, rfl⟩ bf jy hQ ho hg hβ hb hag he10 hfn
    refine K (bl' := bl1) (bf' := bf1) (oc' := oc1) (ol' := ol1) (on' := on) (ml' := ml1) (mx' := mx1) (mb' := mb1) (kc' := kc) (kh' := kh) (ka' := ka) (sp' := sp) (vf' := vf) (vs' := vs) (vb' := vb) (nv' := nv) (nw' := nw) (nr' := nr) (nq' := nq) (ne' := (if pS β' ps 2 = 0 then enFive ne (!(pY β' ps 1 0 == 0)) else enAll β' ps (!(pY β' ps 1 0 == 0)) (pS β' ps 2) 0 ne)) (wt' := wt) (jq' := jq1) (jQ' := jQ1) (jz' := jz1) (jf' := jf1) (jo' := jo1) (jn' := jn) (jt' := jt) (jH' := jH) (jA' := jA) (jm' := jm1) (jy' := jy1) (jp' := jp) (jk' := jk) (jw' := jw) (ju' := ju) (jF' := jF) (jL' := jL) (jO' := jO) (jS' := jS) (jT' := jT) (jU' := jU) (jV' := jV) (jW' := (if pS β' ps 2 = 0 then enFive (enAll β' ps (!(pY β' ps 1 0 == 0)) (pS β' ps 2) 0 jW) (!(pY β' ps 1 0 == 0)) else enAll β' ps (!(pY β' ps 1 0 == 0)) (pS β' ps 2) 0 jW)) (fun xf' xz' xt' xb' xc' hD => ?_) ?_ ⟨hT.mono (by omega), r1, r2, hn, hK, hL, r3 _ hZ, hV, ⟨hGs, hee, h02⟩, hM, hW, hGG⟩
    · obtain ⟨ps2, g1, rfl, hA, hVv⟩ := hD (Or.inr (by omega))
      obtain rfl : ps = ps2 := Option.some.inj (hps.symm.trans g1)
      refine n108_549 (bl' := bl) (dd := 20) hg hβ (by decide) (by decide) ((n135 (d := 20) hg hβ hA hVv (by decide)).mono (fun v h z => ?_)) (hC ⟨rfl, _, _, _, _, _, rfl⟩) hk
      rcases z with z | z
      · rw [hE.2.1, hE.2.2, enAll_E hE] at z
        exact ⟨z.2.1, z.2.2⟩
      · exact absurd (z.1.symm.trans (hfe.trans hf)) (by decide)
    · intros
      rename_i g' hg'
      rw [e2, e3]
      exact q205_549 (dd := 16) (by decide) ((q221 (d := 16) (dd := 10) hb hβ' he hat hpn' hf (by decide) (by decide) hR).n ⟨g', hg', rfl⟩)
  | false =>
    obtain ⟨bl1, bf1, oc1, ol1, ml1, mx1, mb1, jm1, jy1, jq1, jo1, jQ1, jz1, jf1, hC, hR, r1, r2, r3⟩ := p_one l 1 ⟨1, by decide, rfl⟩ bf jy hQ ho hg hβ hb hag he10 hfn
    refine K (bl' := bl1) (bf' := bf1) (oc' := oc1) (ol' := ol1) (on' := on) (ml' := ml1) (mx' := mx1) (mb' := mb1) (kc' := kc) (kh' := kh) (ka' := ka) (sp' := sp) (vf' := vf) (vs' := vs) (vb' := vb) (nv' := nv) (nw' := nw) (nr' := nr) (nq' := nq) (ne' := ne) (wt' := wt) (jq' := jq1) (jQ' := jQ1) (jz' := jz1) (jf' := jf1) (jo' := jo1) (jn' := jn) (jt' := jt) (jH' := jH) (jA' := jA) (jm' := jm1) (jy' := jy1) (jp' := jp) (jk' := jk) (jw' := jw) (ju' := ju) (jF' := jF) (jL' := jL) (jO' := jO) (jS' := jS) (jT' := jT) (jU' := jU) (jV' := jV) (jW' := jW) (fun xf' xz' xt' xb' xc' hD => ?_) ?_ ⟨hT.mono (by omega), r1, r2, hn, hK, hL, r3 _ hZ, hV, ⟨hGs, ene, h01⟩, hM, hW, hGG⟩
    · obtain ⟨ps2, g1, rfl, hA, hVv⟩ := hD (Or.inr (by omega))
      obtain rfl : ps = ps2 := Option.some.inj (hps.symm.trans g1)
      refine n108_549 (bl' := bl) (dd := 20) hg hβ (by decide) (by decide) ((n135 (d := 20) hg hβ hA hVv (by decide)).mono (fun v h z => ?_)) (hC ⟨rfl, _, _, _, _, _, rfl⟩) hk
      rcases z with z | z
      · exact absurd (z.1.symm.trans (hfe.trans hf)) (by decide)
      · exact ⟨z.2.1, z.2.2⟩
    · intros
      rename_i g' hg'
      rw [e2, e3]
      exact q205_549 (dd := 16) (by decide) ((q221f (d := 16) (dd := 10) hb hβ' he hat hpn' hf (by decide) (by decide) hR).n ⟨g', hg', rfl⟩)
end RE14
