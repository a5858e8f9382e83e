section RE13
variable {l : Launch} {d L : Nat} {xs : Nat → Int32} {tc : Int32} {tf : (Nat → Int32)} {bl : Int32} {bf : (Nat → Int32)} {of : Int32} {oc : Int32} {ol : Int32} {on : Int32} {ml : (Nat → Int32)} {mx : (Nat → Int32)} {mb : (Nat → Nat → Int32)} {kc : Int32} {kh : (Nat → Nat)} {kr : (Nat → Nat → Int32)} {ka : (Nat → Int32)} {gl : Int32} {gx : Int32} {gb : (Nat → Int32)} {ls : Int32} {lq : Int32} {lk : Int32} {lg : Int32} {lh : Int32} {vf : (Nat → Int32)} {vs : (Nat → Int32)} {vb : (Nat → Nat → Int32)} {nv : (Nat → Int32)} {nw : (Nat → Nat → Int32)} {nr : (Nat → Int32)} {nq : (Nat → Nat → Int32)} {ne : (Nat → Int32)} {io : Int32} {sp : Int32} {ch : Int32} {wt : Int32} {xf : (Nat → Int32)} {xz : (Nat → Int32)} {xt : (Nat → Int32)} {xb : (Nat → Int32)} {xc : Int32} {th : Int32} {jl : Int32} {js : Int32} {jh : Int32} {jb : (Nat → Int32)} {jc : Int32} {jr : (Nat → Int32)} {jq : Int32} {jQ : (Nat → Int32)} {jz : (Nat → Int32)} {jf : (Nat → Int32)} {jo : Int32} {jn : Int32} {jt : Int32} {jH : (Nat → Int32)} {jA : (Nat → Int32)} {jm : Int32} {jy : (Nat → Int32)} {je : Int32} {jp : Int32} {jk : Int32} {jx : Int32} {jw : Int32} {ju : Int32} {jF : (Nat → Int32)} {jL : (Nat → Int32)} {jO : (Nat → Int32)} {jS : (Nat → Int32)} {jT : (Nat → Int32)} {jU : (Nat → Int32)} {jV : (Nat → Int32)} {jW : (Nat → Int32)} {ja : Int32} {jG : (Nat → Int32)} {ov : (Nat → Value)} {g2 : xm_H}
variable {N e : Nat} {β β' gg : Nat → Nat} {G : Prop}
/-- a reply on both sides -/
theorem p_reply (l : Launch) (B : List Int32) (bf : (Nat → Int32)) (jy : (Nat → Int32)) {oc : Int32} {ol : Int32} {ml : (Nat → Int32)} {mx : (Nat → Int32)} {mb : (Nat → Nat → Int32)} {of : Int32} {gb : (Nat → Int32)} {jq : Int32} {jo : Int32} {jQ : (Nat → Int32)} {jz : (Nat → Int32)} {jf : (Nat → Int32)} {jb : (Nat → Int32)} {e : Nat} {β β' : Nat → Nat} (hq : RQ of oc ml mx mb jq jQ jz jf) (ho : jo = ol) (hg : ∀ i, i < 130 → gb i = nI (β i)) (hβ : ∀ i, β i < 256) (hb : ∀ i, i < 130 → jb (i + 1) = nI (β' i)) (hag : ∀ i, i < e → β i = β' i) (he10 : 10 ≤ e) (hfn : isB (gb 3 + 1)) (hB2 : B.length < 2 ^ 30) (hbB : ∀ x ∈ B, isB x) (fn : Int32) (hfe : gb 3 + 1 = fn) : ∃ (bl' : Int32) (bf' : (Nat → Int32)) (oc' : Int32) (ol' : Int32) (ml' : (Nat → Int32)) (mx' : (Nat → Int32)) (mb' : (Nat → Nat → Int32)) (jm' : Int32) (jy' : (Nat → Int32)) (jq' : Int32) (jo' : Int32) (jQ' : (Nat → Int32)) (jz' : (Nat → Int32)) (jf' : (Nat → Int32)),  (∀ {L : Nat} {xs : Nat → Int32} {g : xm_H} {tc : Int32} {tf : (Nat → Int32)} {on : Int32} {kc : Int32} {kh : (Nat → Nat)} {kr : (Nat → Nat → Int32)} {ka : (Nat → Int32)} {gl : Int32} {gx : Int32} {ls : Int32} {lq : Int32} {lk : Int32} {lg : Int32} {lh : Int32} {vf : (Nat → Int32)} {vs : (Nat → Int32)} {vb : (Nat → Nat → Int32)} {nv : (Nat → Int32)} {nw : (Nat → Nat → Int32)} {nr : (Nat → Int32)} {nq : (Nat → Nat → Int32)} {ne : (Nat → Int32)} {io : Int32} {sp : Int32} {ch : Int32} {wt : Int32} {xf : (Nat → Int32)} {xz : (Nat → Int32)} {xt : (Nat → Int32)} {xb : (Nat → Int32)} {xc : Int32}, ∀ {Q : Option Value → xm_H → Prop}, Q none (cw L xs g tc tf (bl') (bf') of (oc') (ol') on (ml') (mx') (mb') kc kh kr ka gl gx gb ls lq lk lg lh vf vs vb nv nw nr nq ne io sp ch wt xf xz xt xb xc) → XW l 108 40 0 0 264 [some (.ref 97)] [] (cw L xs g tc tf (nI (B).length) (xbd bf (B)) of oc ol on ml mx mb kc kh kr ka gl gx gb ls lq lk lg lh vf vs vb nv nw nr nq ne io sp ch wt xf xz xt xb xc) Q) ∧ (∀ {L : Nat} {xs : Nat → Int32} {tc : Int32} {tf : (Nat → Int32)} {bl : Int32} {bf : (Nat → Int32)} {of : Int32} {oc : Int32} {ol : Int32} {on : Int32} {ml : (Nat → Int32)} {mx : (Nat → Int32)} {mb : (Nat → Nat → Int32)} {kc : Int32} {kh : (Nat → Nat)} {kr : (Nat → Nat → Int32)} {ka : (Nat → Int32)} {gl : Int32} {gx : Int32} {gb : (Nat → Int32)} {ls : Int32} {lq : Int32} {lk : Int32} {lg : Int32} {lh : Int32} {vf : (Nat → Int32)} {vs : (Nat → Int32)} {vb : (Nat → Nat → Int32)} {nv : (Nat → Int32)} {nw : (Nat → Nat → Int32)} {nr : (Nat → Int32)} {nq : (Nat → Nat → Int32)} {ne : (Nat → Int32)} {io : Int32} {sp : Int32} {ch : Int32} {wt : Int32} {xf : (Nat → Int32)} {xz : (Nat → Int32)} {xt : (Nat → Int32)} {xb : (Nat → Int32)} {xc : Int32} {th : Int32} {jl : Int32} {js : Int32} {jh : Int32} {jc : Int32} {jr : (Nat → Int32)} {jn : Int32} {jt : Int32} {jH : (Nat → Int32)} {jA : (Nat → Int32)} {je : Int32} {jp : Int32} {jk : Int32} {jx : Int32} {jw : Int32} {ju : Int32} {jF : (Nat → Int32)} {jL : (Nat → Int32)} {jO : (Nat → Int32)} {jS : (Nat → Int32)} {jT : (Nat → Int32)} {jU : (Nat → Int32)} {jV : (Nat → Int32)} {jW : (Nat → Int32)} {ja : Int32} {jG : (Nat → Int32)} {ov : (Nat → Value)} {g2 : xm_H}, XM l 195 5 0 0 [.ref 103, .int fn] (cw L xs (rw th jl js jh jb jc jr jq jQ jz jf jo jn jt jH jA (nI (B).length) (xrbd jy (B)) je jp jk jx jw ju jF jL jO jS jT jU jV jW ja jG ov g2) tc tf bl bf of oc ol on ml mx mb kc kh kr ka gl gx gb ls lq lk lg lh vf vs vb nv nw nr nq ne io sp ch wt xf xz xt xb xc) (xm_is none (cw L xs (rw th jl js jh jb jc jr (jq') (jQ') (jz') (jf') (jo') jn jt jH jA (jm') (jy') je jp jk jx jw ju jF jL jO jS jT jU jV jW ja jG ov g2) tc tf bl bf of oc ol on ml mx mb kc kh kr ka gl gx gb ls lq lk lg lh vf vs vb nv nw nr nq ne io sp ch wt xf xz xt xb xc))) ∧ RQ of oc' ml' mx' mb' jq' jQ' jz' jf' ∧ jo' = ol' ∧ ∀ ls : Int32, RZ ls oc → RZ ls oc' := by
  subst hfe
  obtain ⟨q, hq8, hq1, hq2⟩ := hq.q
  have b2 := hβ 2
  have b6 := hβ 6
  have b7 := hβ 7
  have b8 := hβ 8
  have b9 := hβ 9
  have j3 : jb 3 = gb 2 := by rw [show jb 3 = nI (β' 2) from hb 2 (by decide), hg 2 (by decide), hag 2 (by omega)]
  have j4 : jb 4 = gb 3 := by rw [show jb 4 = nI (β' 3) from hb 3 (by decide), hg 3 (by decide), hag 3 (by omega)]
  have j7 : jb 7 = nI (β 6) := by rw [show jb 7 = nI (β' 6) from hb 6 (by decide), hag 6 (by omega)]
  have j8 : jb 8 = nI (β 7) := by rw [show jb 8 = nI (β' 7) from hb 7 (by decide), hag 7 (by omega)]
  have j9 : jb 9 = nI (β 8) := by rw [show jb 9 = nI (β' 8) from hb 8 (by decide), hag 8 (by omega)]
  have j10 : jb 10 = nI (β 9) := by rw [show jb 10 = nI (β' 9) from hb 9 (by decide), hag 9 (by omega)]
  have hsb : isB (gb 2 &&& 127) := ⟨β 2 % 128, by omega, by rw [hg 2 (by decide)]; exact b127 _ b2⟩
  have hsy : gb 6 <<< ((24 : Int32) &&& 31) ||| gb 7 <<< ((16 : Int32) &&& 31) ||| gb 8 <<< ((8 : Int32) &&& 31) ||| gb 9 = nI (2 ^ 8 * (2 ^ 8 * (2 ^ 8 * β 6 + β 7) + β 8) + β 9) := by
    rw [hg 6 (by decide), hg 7 (by decide), hg 8 (by decide), hg 9 (by decide)]
    exact sy_nI b6 b7 b8 b9
  by_cases hw : β 2 < 128
  · refine ⟨nI B.length, xbd bf B, oc, ol, ml, mx, mb, nI B.length, xrbd jy B, jq, jo, jQ, jz, jf, ?_, ?_, hq, ho, fun ls hz => hz⟩
    · intros; exact n108_n (by decide) (by rw [hg 2 (by decide)]; exact (b128 b2).mpr hw) (by assumption)
    · intros; exact q195n _ (by rw [j3, hg 2 (by decide), le128 b2]; omega)
  · by_cases hB : B.length ≤ 120
    · refine ⟨(nI (B).length), (xbd bf (B)), (xoc oc), (xol oc ol), (xml of oc ml (nI (B).length)), (xmx of oc mx), (xmb of oc mb (xbd bf (B)) (nI (B).length) (gb 2 &&& 127) (gb 3 + 1) (gb 6 <<< ((24 : Int32) &&& 31) ||| gb 7 <<< ((16 : Int32) &&& 31) ||| gb 8 <<< ((8 : Int32) &&& 31) ||| gb 9)), (nI (B).length), (xrbd jy (B)), (nI (xrq q)), (xro q jo), (xrQ q jQ (xrbd jy (B)) (B).length (jb 3 &&& 127) (gb 3 + 1) (jb 7) (jb 8) (jb 9) (jb 10)), (xrz q jz (B).length), (xrf q jf), ?_, ?_, ?_, ?_, fun ls hz => hz.send⟩
      · intros; exact n108_r B (by decide) (by rw [hg 2 (by decide)]; exact fun z => hw ((b128 b2).mp z)) hB hq.hi (by assumption)
      · intros; rw [hq2]; exact q195 B q _ (by decide) hq8 (by rw [j3, hg 2 (by decide)]; exact (le128 b2).mpr (by omega)) hB
      · rw [hsy, j3]; exact hq.send hq2 hq8 B bf jy _ _ _ _ _ _ hB hbB (n := 2 ^ 8 * (2 ^ 8 * (2 ^ 8 * β 6 + β 7) + β 8) + β 9) (by omega) hsb hfn (by rw [j7]; congr 1; omega) (by rw [j8]; congr 1; omega) (by rw [j9]; congr 1; omega) (by rw [j10]; congr 1; omega)
      · rw [ho, hq1]; exact xol_eq hq8 ol
    · refine ⟨(nI (([] : List Int32)).length), (xbd (xbd bf B) (([] : List Int32))), (xoc oc), (xol oc ol), (xml of oc ml (nI (([] : List Int32)).length)), (xmx of oc mx), (xmb of oc mb (xbd (xbd bf B) (([] : List Int32))) (nI (([] : List Int32)).length) (gb 2 &&& 127) (0) (gb 6 <<< ((24 : Int32) &&& 31) ||| gb 7 <<< ((16 : Int32) &&& 31) ||| gb 8 <<< ((8 : Int32) &&& 31) ||| gb 9)), (nI (([] : List Int32)).length), (xrbd (xrbd jy B) (([] : List Int32))), (nI (xrq q)), (xro q jo), (xrQ q jQ (xrbd (xrbd jy B) (([] : List Int32))) (([] : List Int32)).length (jb 3 &&& 127) (0) (jb 7) (jb 8) (jb 9) (jb 10)), (xrz q jz (([] : List Int32)).length), (xrf q jf), ?_, ?_, ?_, ?_, fun ls hz => hz.send⟩
      · intros; exact n108_a B (by decide) (by rw [hg 2 (by decide)]; exact fun z => hw ((b128 b2).mp z)) (by omega) hB2 hq.hi (by assumption)
      · intros; rw [hq2]; exact q195a B q _ (by decide) hq8 (by rw [j3, hg 2 (by decide)]; exact (le128 b2).mpr (by omega)) (by omega) hB2
      · rw [hsy, j3]; exact hq.send hq2 hq8 ([] : List Int32) (xbd bf B) (xrbd jy B) _ _ _ _ _ _ (by decide) (fun x hx => absurd hx List.not_mem_nil) (n := 2 ^ 8 * (2 ^ 8 * (2 ^ 8 * β 6 + β 7) + β 8) + β 9) (by omega) hsb ⟨0, by decide, rfl⟩ (by rw [j7]; congr 1; omega) (by rw [j8]; congr 1; omega) (by rw [j9]; congr 1; omega) (by rw [j10]; congr 1; omega)
      · rw [ho, hq1]; exact xol_eq hq8 ol
theorem one_B {x : Int32} (h : isB x) : ∀ y ∈ [33, 1, x], isB y := by
  intro y hy
  simp only [List.mem_cons, List.not_mem_nil, or_false] at hy
  rcases hy with rfl | rfl | rfl
  · exact ⟨33, by decide, rfl⟩
  · exact ⟨1, by decide, rfl⟩
  · exact h
theorem two_B {x : Int32} (h : isB x) : ∀ y ∈ [1, 2, 33, 1, x, 1, 0], isB y := by
  intro y hy
  simp only [List.mem_cons, List.not_mem_nil, or_false] at hy
  rcases hy with rfl | rfl | rfl | rfl | rfl | rfl | rfl
  · exact ⟨1, by decide, rfl⟩
  · exact ⟨2, by decide, rfl⟩
  · exact ⟨33, by decide, rfl⟩
  · exact ⟨1, by decide, rfl⟩
  · exact h
  · exact ⟨1, by decide, rfl⟩
  · exact ⟨0, by decide, rfl⟩
/-- a reply of one byte on both sides -/
theorem p_one (l : Launch) (x : Int32) (hx : isB x) (bf : (Nat → Int32)) (jy : (Nat → Int32)) {oc : Int32} {ol : Int32} {ml : (Nat → Int32)} {mx : (Nat → Int32)} {mb : (Nat → Nat → Int32)} {of : Int32} {gb : (Nat → Int32)} {jq : Int32} {jo : Int32} {jQ : (Nat → Int32)} {jz : (Nat → Int32)} {jf : (Nat → Int32)} {jb : (Nat → Int32)} {e : Nat} {β β' : Nat → Nat} (hq : RQ of oc ml mx mb jq jQ jz jf) (ho : jo = ol) (hg : ∀ i, i < 130 → gb i = nI (β i)) (hβ : ∀ i, β i < 256) (hb : ∀ i, i < 130 → jb (i + 1) = nI (β' i)) (hag : ∀ i, i < e → β i = β' i) (he10 : 10 ≤ e) (hfn : isB (gb 3 + 1)) : ∃ (bl' : Int32) (bf' : (Nat → Int32)) (oc' : Int32) (ol' : Int32) (ml' : (Nat → Int32)) (mx' : (Nat → Int32)) (mb' : (Nat → Nat → Int32)) (jm' : Int32) (jy' : (Nat → Int32)) (jq' : Int32) (jo' : Int32) (jQ' : (Nat → Int32)) (jz' : (Nat → Int32)) (jf' : (Nat → Int32)),  (∀ {L : Nat} {xs : Nat → Int32} {g : xm_H} {tc : Int32} {tf : (Nat → Int32)} {on : Int32} {kc : Int32} {kh : (Nat → Nat)} {kr : (Nat → Nat → Int32)} {ka : (Nat → Int32)} {gl : Int32} {gx : Int32} {ls : Int32} {lq : Int32} {lk : Int32} {lg : Int32} {lh : Int32} {vf : (Nat → Int32)} {vs : (Nat → Int32)} {vb : (Nat → Nat → Int32)} {nv : (Nat → Int32)} {nw : (Nat → Nat → Int32)} {nr : (Nat → Int32)} {nq : (Nat → Nat → Int32)} {ne : (Nat → Int32)} {io : Int32} {sp : Int32} {ch : Int32} {wt : Int32} {xf : (Nat → Int32)} {xz : (Nat → Int32)} {xt : (Nat → Int32)} {xb : (Nat → Int32)} {xc : Int32}, ∀ {Q : Option Value → xm_H → Prop}, Q none (cw L xs g tc tf (bl') (bf') of (oc') (ol') on (ml') (mx') (mb') kc kh kr ka gl gx gb ls lq lk lg lh vf vs vb nv nw nr nq ne io sp ch wt xf xz xt xb xc) → XW l 108 40 0 0 264 [some (.ref 97)] [] (cw L xs g tc tf (nI ([33, 1, x]).length) (xbd bf ([33, 1, x])) of oc ol on ml mx mb kc kh kr ka gl gx gb ls lq lk lg lh vf vs vb nv nw nr nq ne io sp ch wt xf xz xt xb xc) Q) ∧ (∀ {L : Nat} {xs : Nat → Int32} {tc : Int32} {tf : (Nat → Int32)} {bl : Int32} {bf : (Nat → Int32)} {of : Int32} {oc : Int32} {ol : Int32} {on : Int32} {ml : (Nat → Int32)} {mx : (Nat → Int32)} {mb : (Nat → Nat → Int32)} {kc : Int32} {kh : (Nat → Nat)} {kr : (Nat → Nat → Int32)} {ka : (Nat → Int32)} {gl : Int32} {gx : Int32} {gb : (Nat → Int32)} {ls : Int32} {lq : Int32} {lk : Int32} {lg : Int32} {lh : Int32} {vf : (Nat → Int32)} {vs : (Nat → Int32)} {vb : (Nat → Nat → Int32)} {nv : (Nat → Int32)} {nw : (Nat → Nat → Int32)} {nr : (Nat → Int32)} {nq : (Nat → Nat → Int32)} {ne : (Nat → Int32)} {io : Int32} {sp : Int32} {ch : Int32} {wt : Int32} {xf : (Nat → Int32)} {xz : (Nat → Int32)} {xt : (Nat → Int32)} {xb : (Nat → Int32)} {xc : Int32} {th : Int32} {jl : Int32} {js : Int32} {jh : Int32} {jc : Int32} {jr : (Nat → Int32)} {jn : Int32} {jt : Int32} {jH : (Nat → Int32)} {jA : (Nat → Int32)} {jm : Int32} {je : Int32} {jp : Int32} {jk : Int32} {jx : Int32} {jw : Int32} {ju : Int32} {jF : (Nat → Int32)} {jL : (Nat → Int32)} {jO : (Nat → Int32)} {jS : (Nat → Int32)} {jT : (Nat → Int32)} {jU : (Nat → Int32)} {jV : (Nat → Int32)} {jW : (Nat → Int32)} {ja : Int32} {jG : (Nat → Int32)} {ov : (Nat → Value)} {g2 : xm_H}, XM l 213 10 0 0 [.ref 103, .int x] (cw L xs (rw th jl js jh jb jc jr jq jQ jz jf jo jn jt jH jA jm jy je jp jk jx jw ju jF jL jO jS jT jU jV jW ja jG ov g2) tc tf bl bf of oc ol on ml mx mb kc kh kr ka gl gx gb ls lq lk lg lh vf vs vb nv nw nr nq ne io sp ch wt xf xz xt xb xc) (xm_is none (cw L xs (rw th jl js jh jb jc jr (jq') (jQ') (jz') (jf') (jo') jn jt jH jA (jm') (jy') je jp jk jx jw ju jF jL jO jS jT jU jV jW ja jG ov g2) tc tf bl bf of oc ol on ml mx mb kc kh kr ka gl gx gb ls lq lk lg lh vf vs vb nv nw nr nq ne io sp ch wt xf xz xt xb xc))) ∧ RQ of oc' ml' mx' mb' jq' jQ' jz' jf' ∧ jo' = ol' ∧ ∀ ls : Int32, RZ ls oc → RZ ls oc' := by
  obtain ⟨q, hq8, hq1, hq2⟩ := hq.q
  have b2 := hβ 2
  have b6 := hβ 6
  have b7 := hβ 7
  have b8 := hβ 8
  have b9 := hβ 9
  have j3 : jb 3 = gb 2 := by rw [show jb 3 = nI (β' 2) from hb 2 (by decide), hg 2 (by decide), hag 2 (by omega)]
  have j4 : jb 4 = gb 3 := by rw [show jb 4 = nI (β' 3) from hb 3 (by decide), hg 3 (by decide), hag 3 (by omega)]
  have j7 : jb 7 = nI (β 6) := by rw [show jb 7 = nI (β' 6) from hb 6 (by decide), hag 6 (by omega)]
  have j8 : jb 8 = nI (β 7) := by rw [show jb 8 = nI (β' 7) from hb 7 (by decide), hag 7 (by omega)]
  have j9 : jb 9 = nI (β 8) := by rw [show jb 9 = nI (β' 8) from hb 8 (by decide), hag 8 (by omega)]
  have j10 : jb 10 = nI (β 9) := by rw [show jb 10 = nI (β' 9) from hb 9 (by decide), hag 9 (by omega)]
  have hsb : isB (gb 2 &&& 127) := ⟨β 2 % 128, by omega, by rw [hg 2 (by decide)]; exact b127 _ b2⟩
  have hsy : gb 6 <<< ((24 : Int32) &&& 31) ||| gb 7 <<< ((16 : Int32) &&& 31) ||| gb 8 <<< ((8 : Int32) &&& 31) ||| gb 9 = nI (2 ^ 8 * (2 ^ 8 * (2 ^ 8 * β 6 + β 7) + β 8) + β 9) := by
    rw [hg 6 (by decide), hg 7 (by decide), hg 8 (by decide), hg 9 (by decide)]
    exact sy_nI b6 b7 b8 b9
  by_cases hw : β 2 < 128
  · refine ⟨nI ([33, 1, x]).length, xbd bf [33, 1, x], oc, ol, ml, mx, mb, nI ([33, 1, x]).length, xrbd jy [33, 1, x], jq, jo, jQ, jz, jf, ?_, ?_, hq, ho, fun ls hz => hz⟩
    · intros; exact n108_n (by decide) (by rw [hg 2 (by decide)]; exact (b128 b2).mpr hw) (by assumption)
    · intros; exact q213n _ (by decide) (by rw [j3, hg 2 (by decide), le128 b2]; omega)
  · refine ⟨(nI ([33, 1, x]).length), (xbd bf ([33, 1, x])), (xoc oc), (xol oc ol), (xml of oc ml (nI ([33, 1, x]).length)), (xmx of oc mx), (xmb of oc mb (xbd bf ([33, 1, x])) (nI ([33, 1, x]).length) (gb 2 &&& 127) (gb 3 + 1) (gb 6 <<< ((24 : Int32) &&& 31) ||| gb 7 <<< ((16 : Int32) &&& 31) ||| gb 8 <<< ((8 : Int32) &&& 31) ||| gb 9)), (nI ([33, 1, x]).length), (xrbd jy ([33, 1, x])), (nI (xrq q)), (xro q jo), (xrQ q jQ (xrbd jy ([33, 1, x])) ([33, 1, x]).length (jb 3 &&& 127) (jb 4 + 1) (jb 7) (jb 8) (jb 9) (jb 10)), (xrz q jz ([33, 1, x]).length), (xrf q jf), ?_, ?_, ?_, ?_, fun ls hz => hz.send⟩
    · intros; exact n108_r [33, 1, x] (by decide) (by rw [hg 2 (by decide)]; exact fun z => hw ((b128 b2).mp z)) (Nat.le_of_ble_eq_true rfl) hq.hi (by assumption)
    · intros; rw [hq2]; exact q213 q _ (by decide) hq8 (by rw [j3, hg 2 (by decide)]; exact (le128 b2).mpr (by omega))
    · rw [hsy, j3, j4]; exact hq.send hq2 hq8 [33, 1, x] bf jy _ _ _ _ _ _ (Nat.le_of_ble_eq_true rfl) (one_B hx) (n := 2 ^ 8 * (2 ^ 8 * (2 ^ 8 * β 6 + β 7) + β 8) + β 9) (by omega) hsb hfn (by rw [j7]; congr 1; omega) (by rw [j8]; congr 1; omega) (by rw [j9]; congr 1; omega) (by rw [j10]; congr 1; omega)
    · rw [ho, hq1]; exact xol_eq hq8 ol
theorem q195e (q : Nat) (hd : 1 ≤ d) (hq : q ≤ 8) (hw : 128 ≤ jb 3) : XM l 195 d 0 0 [.ref 103, .int 0] (cw L xs (rw th jl js jh jb jc jr (nI q) jQ jz jf jo jn jt jH jA (0) jy je jp jk jx jw ju jF jL jO jS jT jU jV jW ja jG ov g2) tc tf bl bf of oc ol on ml mx mb kc kh kr ka gl gx gb ls lq lk lg lh vf vs vb nv nw nr nq ne io sp ch wt xf xz xt xb xc) (xm_is none (cw L xs (rw th jl js jh jb jc jr (nI (xrq q)) (xrQ q jQ jy 0 (jb 3 &&& 127) 0 (jb 7) (jb 8) (jb 9) (jb 10)) (xrz q jz 0) (xrf q jf) (xro q jo) jn jt jH jA (0) jy je jp jk jx jw ju jF jL jO jS jT jU jV jW ja jG ov g2) tc tf bl bf of oc ol on ml mx mb kc kh kr ka gl gx gb ls lq lk lg lh vf vs vb nv nw nr nq ne io sp ch wt xf xz xt xb xc)) := by
  have h := q195 (l := l) (d := d) (L := L) (xs := xs) (tc := tc) (tf := tf) (bl := bl) (bf := bf) (of := of) (oc := oc) (ol := ol) (on := on) (ml := ml) (mx := mx) (mb := mb) (kc := kc) (kh := kh) (kr := kr) (ka := ka) (gl := gl) (gx := gx) (gb := gb) (ls := ls) (lq := lq) (lk := lk) (lg := lg) (lh := lh) (vf := vf) (vs := vs) (vb := vb) (nv := nv) (nw := nw) (nr := nr) (nq := nq) (ne := ne) (io := io) (sp := sp) (ch := ch) (wt := wt) (xf := xf) (xz := xz) (xt := xt) (xb := xb) (xc := xc) (th := th) (jl := jl) (js := js) (jh := jh) (jb := jb) (jc := jc) (jr := jr) (jQ := jQ) (jz := jz) (jf := jf) (jo := jo) (jn := jn) (jt := jt) (jH := jH) (jA := jA) (jy := jy) (je := je) (jp := jp) (jk := jk) (jx := jx) (jw := jw) (ju := ju) (jF := jF) (jL := jL) (jO := jO) (jS := jS) (jT := jT) (jU := jU) (jV := jV) (jW := jW) (ja := ja) (jG := jG) (ov := ov) (g2 := g2) [] q 0 hd hq hw (by decide)
  rw [xrbd_nil] at h
  exact h
theorem m_off (hz : io = 1) (h0 : β 0 = 0) (h1 : β 1 = 1) (h4 : β 4 = 128) (h5 : β 5 = 1) (hodd : β 3 % 2 = 1) (hs : sp = 0 → dK β = 269) (hst : β 2 % 128 = 1 ∨ β 2 % 128 = 2) (hn : dN (dK β) = true) (hoff : xon (vb 0 0) = 0) (hk1 : dK β ≠ 269) (hk2n : dK β ≠ 273) (h : Rel (N) tc tf of oc ol on ml mx mb kc kh kr ka (nI e) gb ls lq lk lg lh vf vs vb nv nw nr nq ne io sp ch wt jl js jh jb jc jr jq jQ jz jf jo jn jt jH jA je jp jk jx jw ju jF jL jO jS jT jU jV jW (fun z1 => nI (gg z1))) (hN : N < 2 ^ 28) (hg : ∀ i, i < 130 → gb i = nI (β i)) (hβ : ∀ i, β i < 256) (hb : ∀ i, i < 130 → jb (i + 1) = nI (β' i)) (hβ' : ∀ i, β' i < 256) (hag : ∀ i, i < e → β i = β' i) (he10 : 10 ≤ e) (he : e ≤ 130) (hgg : ∀ i, gg i < 2 ^ 24) (K : ∀ {bl' : Int32} {bf' : (Nat → Int32)} {oc' : Int32} {ol' : Int32} {on' : Int32} {ml' : (Nat → Int32)} {mx' : (Nat → Int32)} {mb' : (Nat → Nat → Int32)} {kc' : Int32} {kh' : (Nat → Nat)} {ka' : (Nat → Int32)} {sp' : Int32} {vf' : (Nat → Int32)} {vs' : (Nat → Int32)} {vb' : (Nat → Nat → Int32)} {nv' : (Nat → Int32)} {nw' : (Nat → Nat → Int32)} {nr' : (Nat → Int32)} {nq' : (Nat → Nat → Int32)} {ne' : (Nat → Int32)} {wt' : Int32} {jq' : Int32} {jQ' : (Nat → Int32)} {jz' : (Nat → Int32)} {jf' : (Nat → Int32)} {jo' : Int32} {jn' : Int32} {jt' : Int32} {jH' : (Nat → Int32)} {jA' : (Nat → Int32)} {jm' : Int32} {jy' : (Nat → Int32)} {jp' : Int32} {jk' : Int32} {jw' : Int32} {ju' : Int32} {jF' : (Nat → Int32)} {jL' : (Nat → Int32)} {jO' : (Nat → Int32)} {jS' : (Nat → Int32)} {jT' : (Nat → Int32)} {jU' : (Nat → Int32)} {jV' : (Nat → Int32)} {jW' : (Nat → Int32)}, (∀ {g : xm_H}, (XM l 64 40 0 0 [.ref 97] (cw L xs g tc tf bl bf of oc ol on ml mx mb kc kh kr ka (nI e) gx gb ls lq lk lg lh vf vs vb nv nw nr nq ne io sp ch wt xf xz xt xb xc) (xR 0 (fun h => ∃ (xf' xz' xt' xb' : Nat → Int32) (xc' : Int32), h = (cw L xs g tc tf (bl') (bf') of (oc') (ol') (on') (ml') (mx') (mb') (kc') (kh') kr (ka') (nI e) gx gb ls lq lk lg lh (vf') (vs') (vb') (nv') (nw') (nr') (nq') (ne') io (sp') ch (wt') (xf') (xz') (xt') (xb') (xc'))))) ∨ XM l 64 40 0 0 [.ref 97] (cw L xs g tc tf bl bf of oc ol on ml mx mb kc kh kr ka (nI e) gx gb ls lq lk lg lh vf vs vb nv nw nr nq ne io sp ch wt xf xz xt xb xc) (xR 1 (fun h => ∃ (xf' xz' xt' xb' : Nat → Int32) (xc' : Int32), h = (cw L xs g tc tf bl bf of oc ol on ml mx mb kc kh kr ka (nI e) gx gb ls lq lk lg lh vf vs vb nv nw nr nq ne io sp ch wt (xf') (xz') (xt') (xb') (xc')) ∧ XM l 108 40 0 0 [.ref 97] (cw L xs g tc tf bl bf of oc ol on ml mx mb kc kh kr ka (nI e) gx gb ls lq lk lg lh vf vs vb nv nw nr nq ne io sp ch wt (xf') (xz') (xt') (xb') (xc')) (xN (fun h => ∃ (xf' xz' xt' xb' : Nat → Int32) (xc' : Int32), h = (cw L xs g tc tf (bl') (bf') of (oc') (ol') (on') (ml') (mx') (mb') (kc') (kh') kr (ka') (nI e) gx gb ls lq lk lg lh (vf') (vs') (vb') (nv') (nw') (nr') (nq') (ne') io (sp') ch (wt') (xf') (xz') (xt') (xb') (xc'))))))) → (∀ {L : Nat} {xs : Nat → Int32} {tc : Int32} {tf : (Nat → Int32)} {bl : Int32} {bf : (Nat → Int32)} {of : Int32} {oc : Int32} {ol : Int32} {on : Int32} {ml : (Nat → Int32)} {mx : (Nat → Int32)} {mb : (Nat → Nat → Int32)} {kc : Int32} {kh : (Nat → Nat)} {kr : (Nat → Nat → Int32)} {ka : (Nat → Int32)} {gl : Int32} {gx : Int32} {gb : (Nat → Int32)} {ls : Int32} {lq : Int32} {lk : Int32} {lg : Int32} {lh : Int32} {vf : (Nat → Int32)} {vs : (Nat → Int32)} {vb : (Nat → Nat → Int32)} {nv : (Nat → Int32)} {nw : (Nat → Nat → Int32)} {nr : (Nat → Int32)} {nq : (Nat → Nat → Int32)} {ne : (Nat → Int32)} {io : Int32} {sp : Int32} {ch : Int32} {wt : Int32} {xf : (Nat → Int32)} {xz : (Nat → Int32)} {xt : (Nat → Int32)} {xb : (Nat → Int32)} {xc : Int32} {th : Int32} {ov : (Nat → Value)}, XM l 176 19 0 0 [.ref 103] (cw L xs (rw th jl js jh jb jc jr jq jQ jz jf jo jn jt jH jA jm jy je jp jk jx jw ju jF jL jO jS jT jU jV jW (nI e) (fun z1 => nI (gg z1)) ov g2) tc tf bl bf of oc ol on ml mx mb kc kh kr ka gl gx gb ls lq lk lg lh vf vs vb nv nw nr nq ne io sp ch wt xf xz xt xb xc) (xN (fun h => ∃ g' : Nat → Nat, (∀ i, g' i < 2 ^ 24) ∧ h = (cw L xs (rw th jl js jh jb jc jr (jq') (jQ') (jz') (jf') (jo') (jn') (jt') (jH') (jA') (jm') (jy') je (jp') (jk') jx (jw') (ju') (jF') (jL') (jO') (jS') (jT') (jU') (jV') (jW') (nI e) (fun z1 => nI (g' z1)) ov g2) tc tf bl bf of oc ol on ml mx mb kc kh kr ka gl gx gb ls lq lk lg lh vf vs vb nv nw nr nq ne io sp ch wt xf xz xt xb xc)))) → Rel (N + 900) tc tf of (oc') (ol') (on') (ml') (mx') (mb') (kc') (kh') kr (ka') (nI e) gb ls lq lk lg lh (vf') (vs') (vb') (nv') (nw') (nr') (nq') (ne') io (sp') ch (wt') jl js jh jb jc jr (jq') (jQ') (jz') (jf') (jo') (jn') (jt') (jH') (jA') je (jp') (jk') jx (jw') (ju') (jF') (jL') (jO') (jS') (jT') (jU') (jV') (jW') (fun z1 => nI (gg z1)) → G) : G := by
  have hM := h.2.2.2.2.2.2.2.2.2.1
  have b3 := hβ' 3
  have b2 := hβ' 2
  have a0 := hag 0 (by omega)
  have a1 := hag 1 (by omega)
  have a4 := hag 4 (by omega)
  have a5 := hag 5 (by omega)
  have a3 := hag 3 (by omega)
  have a2 := hag 2 (by omega)
  have hk2 : dK β = 256 * (β' 2 % 128) + β' 3 := dK_E hag he10
  obtain ⟨l13, l17⟩ := hl_of hk2 b3
  have hp : ¬ jp = 0 ∨ (if β' 2 % 128 = 1 ∧ β' 3 = 13 then 1 else 0) = 1 := by
    by_cases z : sp = 0
    · exact Or.inr (if_pos (l13.mpr (hs z)))
    · exact Or.inl (by rw [hM.2.1]; exact z)
  obtain ⟨hT, hQ, ho, hnr, hK, hL, hZ, hV, hG, hM, hW, hGG⟩ := h
  have hq := hQ
  obtain ⟨q, hq8, hq1, hq2⟩ := hq.q
  have b2c := hβ 2
  have b6 := hβ 6
  have b7 := hβ 7
  have b8 := hβ 8
  have b9 := hβ 9
  have j3 : jb 3 = gb 2 := by rw [show jb 3 = nI (β' 2) from hb 2 (by decide), hg 2 (by decide), hag 2 (by omega)]
  have j4 : jb 4 = gb 3 := by rw [show jb 4 = nI (β' 3) from hb 3 (by decide), hg 3 (by decide), hag 3 (by omega)]
  have j7 : jb 7 = nI (β 6) := by rw [show jb 7 = nI (β' 6) from hb 6 (by decide), hag 6 (by omega)]
  have j8 : jb 8 = nI (β 7) := by rw [show jb 8 = nI (β' 7) from hb 7 (by decide), hag 7 (by omega)]
  have j9 : jb 9 = nI (β 8) := by rw [show jb 9 = nI (β' 8) from hb 8 (by decide), hag 8 (by omega)]
  have j10 : jb 10 = nI (β 9) := by rw [show jb 10 = nI (β' 9) from hb 9 (by decide), hag 9 (by omega)]
  have hsb : isB (gb 2 &&& 127) := ⟨β 2 % 128, by omega, by rw [hg 2 (by decide)]; exact b127 _ b2c⟩
  have hsy : gb 6 <<< ((24 : Int32) &&& 31) ||| gb 7 <<< ((16 : Int32) &&& 31) ||| gb 8 <<< ((8 : Int32) &&& 31) ||| gb 9 = nI (2 ^ 8 * (2 ^ 8 * (2 ^ 8 * β 6 + β 7) + β 8) + β 9) := by
    rw [hg 6 (by decide), hg 7 (by decide), hg 8 (by decide), hg 9 (by decide)]
    exact sy_nI b6 b7 b8 b9
  have hJ : ¬ 2 ≤ jk := (by obtain ⟨⟨c, hc3, hc1, hc2⟩, -⟩ := hV.c; rw [hc2]; rw [hc1] at hoff; exact fun z => (xon_ge hc3).mpr z hoff)
  by_cases hw : β 2 < 128
  · refine K (bl' := bl) (bf' := bf) (oc' := oc) (ol' := ol) (on' := on) (ml' := ml) (mx' := mx) (mb' := mb) (kc' := kc) (kh' := kh) (ka' := ka) (sp' := sp) (vf' := vf) (vs' := vs) (vb' := vb) (nv' := nv) (nw' := nw) (nr' := nr) (nq' := nq) (ne' := ne) (wt' := wt) (jq' := jq) (jQ' := jQ) (jz' := jz) (jf' := jf) (jo' := jo) (jn' := jn) (jt' := jt) (jH' := jH) (jA' := jA) (jm' := 0) (jy' := jy) (jp' := jp) (jk' := jk) (jw' := jw) (ju' := ju) (jF' := jF) (jL' := jL) (jO' := jO) (jS' := jS) (jT' := jT) (jU' := jU) (jV' := jV) (jW' := jW) (Or.inl (m_q hg hβ hz h0 h1 h4 h5 hodd ((n91d (d := 39) (dd := 38) hg hβ (by decide) (by rcases hM.2.2.2.2.2.1 with z | z <;> rw [z] <;> rfl) hs hst hn hoff hk1 hk2n (by decide) (n96b (by decide) (by rw [hg 2 (by decide)]; exact (b128 b2c).mpr hw))).r ⟨xf, xz, xt, xb, xc, rfl⟩))) ?_ ⟨hT.mono (by omega), hQ, ho, hnr, hK, hL, hZ, hV, hG, hM, hW, hGG⟩
    intros
    exact q176_q (dd := 18) hb hβ' (by rw [hM.1, hz]; decide) (by omega) ⟨by omega, by omega⟩ ⟨by omega, by omega⟩ (by omega) (by decide) (q193_0 (dd := 17) _ _ _ (by omega) (by omega) rfl hp (by omega) (by rw [← hk2]; exact hn) (by decide) (by decide) hJ (if_neg (fun z => hk1 (l13.mp z))) (fun z => hk2n (l17.mp z)) ((q195n 0 (by rw [j3, hg 2 (by decide), le128 b2c]; omega)).n ⟨gg, hgg, rfl⟩))
  · refine K (bl' := nI ([] : List Int32).length) (bf' := xbd bf ([] : List Int32)) (oc' := xoc oc) (ol' := xol oc ol) (on' := on) (ml' := xml of oc ml (nI (([] : List Int32)).length)) (mx' := xmx of oc mx) (mb' := xmb of oc mb (xbd bf (([] : List Int32))) (nI (([] : List Int32)).length) (gb 2 &&& 127) (0) (gb 6 <<< ((24 : Int32) &&& 31) ||| gb 7 <<< ((16 : Int32) &&& 31) ||| gb 8 <<< ((8 : Int32) &&& 31) ||| gb 9)) (kc' := kc) (kh' := kh) (ka' := ka) (sp' := sp) (vf' := vf) (vs' := vs) (vb' := vb) (nv' := nv) (nw' := nw) (nr' := nr) (nq' := nq) (ne' := ne) (wt' := wt) (jq' := nI (xrq q)) (jQ' := xrQ q jQ jy 0 (jb 3 &&& 127) 0 (jb 7) (jb 8) (jb 9) (jb 10)) (jz' := xrz q jz 0) (jf' := xrf q jf) (jo' := xro q jo) (jn' := jn) (jt' := jt) (jH' := jH) (jA' := jA) (jm' := 0) (jy' := jy) (jp' := jp) (jk' := jk) (jw' := jw) (ju' := ju) (jF' := jF) (jL' := jL) (jO' := jO) (jS' := jS) (jT' := jT) (jU' := jU) (jV' := jV) (jW' := jW) (Or.inl (m_q hg hβ hz h0 h1 h4 h5 hodd ((n91d (d := 39) (dd := 38) hg hβ (by decide) (by rcases hM.2.2.2.2.2.1 with z | z <;> rw [z] <;> rfl) hs hst hn hoff hk1 hk2n (by decide) (n96a (by decide) (by rw [hg 2 (by decide)]; exact fun z => hw ((b128 b2c).mp z)) hQ.hi)).r ⟨xf, xz, xt, xb, xc, rfl⟩))) ?_ ⟨hT.mono (by omega), ?_, ?_, hnr, hK, hL, hZ.send, hV, hG, hM, hW, hGG⟩
    · intros
      refine q176_q (dd := 18) hb hβ' (by rw [hM.1, hz]; decide) (by omega) ⟨by omega, by omega⟩ ⟨by omega, by omega⟩ (by omega) (by decide) (q193_0 (dd := 17) _ _ _ (by omega) (by omega) rfl hp (by omega) (by rw [← hk2]; exact hn) (by decide) (by decide) hJ (if_neg (fun z => hk1 (l13.mp z))) (fun z => hk2n (l17.mp z)) ?_)
      rw [hq2]
      exact (q195e q (by decide) hq8 (by rw [j3, hg 2 (by decide)]; exact (le128 b2c).mpr (by omega))).n ⟨gg, hgg, rfl⟩
    · have hx := hq.send hq2 hq8 ([] : List Int32) bf jy (gb 2 &&& 127) 0 (jb 7) (jb 8) (jb 9) (jb 10) (by decide) (fun x hx => absurd hx List.not_mem_nil) (n := 2 ^ 8 * (2 ^ 8 * (2 ^ 8 * β 6 + β 7) + β 8) + β 9) (by omega) hsb ⟨0, by decide, rfl⟩ (by rw [j7]; congr 1; omega) (by rw [j8]; congr 1; omega) (by rw [j9]; congr 1; omega) (by rw [j10]; congr 1; omega)
      rw [xrbd_nil] at hx
      rw [hsy, j3]
      exact hx
    · rw [ho, hq1]; exact xol_eq hq8 ol
theorem least_of {P : Nat → Prop} : ∀ c, P c → ∃ c0, c0 ≤ c ∧ P c0 ∧ ∀ i, i < c0 → ¬ P i := by
  intro c
  induction c using Nat.strongRecOn with
  | _ c ih =>
    intro h
    by_cases hx : ∃ i, i < c ∧ P i
    · obtain ⟨i, h1, h2⟩ := hx
      obtain ⟨c0, g1, g2, g3⟩ := ih i h1 h2
      exact ⟨c0, by omega, g2, g3⟩
    · exact ⟨c, Nat.le_refl _, h, fun i hi hp => hx ⟨i, hi, hp⟩⟩
theorem an_iff {k : Nat} {r : Nat → Int32} {s f : Nat} (hr : ∀ i, i < 10 → r i = jH (10 * k + i)) (hg : ∀ i, i < 130 → gb i = nI (β i)) (hβ : ∀ i, β i < 256) (hj : ∀ i, i < 10 → jb (i + 1) = gb i) (hs : s = β 2 % 128) (hf : f = β 3) : xanP r gb ↔ raP jH jb s f k := by
  have b2 := hβ 2
  have b3 := hβ 3
  have j7 : jb 7 = gb 6 := hj 6 (by decide)
  have j8 : jb 8 = gb 7 := hj 7 (by decide)
  have j9 : jb 9 = gb 8 := hj 8 (by decide)
  have j10 : jb 10 = gb 9 := hj 9 (by decide)
  have e3 : (gb 3 = 0) ↔ f = 0 := by
    rw [hg 3 (by decide), hf]
    exact nI_eq (b := 0) (by omega) (by decide)
  have e4 : (gb 3 = r 3 + 1) ↔ r 3 = nI f - 1 := by
    rw [hg 3 (by decide), hf]
    constructor
    · intro z; rw [z, Int32.add_sub_cancel]
    · intro z; rw [z, Int32.sub_add_cancel]
  have e2 : gb 2 &&& 127 = nI s := by
    rw [hg 2 (by decide), hs]
    exact b127 _ b2
  unfold xanP raP
  rw [j7, j8, j9, j10, ← hr 2 (by decide), ← hr 3 (by decide), ← hr 6 (by decide), ← hr 7 (by decide), ← hr 8 (by decide), ← hr 9 (by decide), e2, e3, e4]
  exact ⟨fun z => ⟨z.2.2.2.2.2, z.2.2.2.2.1, z.1, z.2.1, z.2.2.1, z.2.2.2.1⟩, fun z => ⟨z.2.2.1, z.2.2.2.1, z.2.2.2.2.1, z.2.2.2.2.2, z.2.1, z.1⟩⟩
theorem m_ans (hz : io = 1) (h0 : β 0 = 0) (h1 : β 1 = 1) (h4 : β 4 = 128) (h5 : β 5 = 1) (hev : β 3 % 2 = 0) (h : Rel (N) tc tf of oc ol on ml mx mb kc kh kr ka (nI e) gb ls lq lk lg lh vf vs vb nv nw nr nq ne io sp ch wt jl js jh jb jc jr jq jQ jz jf jo jn jt jH jA je jp jk jx jw ju jF jL jO jS jT jU jV jW (fun z1 => nI (gg z1))) (hN : N < 2 ^ 28) (hg : ∀ i, i < 130 → gb i = nI (β i)) (hβ : ∀ i, β i < 256) (hb : ∀ i, i < 130 → jb (i + 1) = nI (β' i)) (hβ' : ∀ i, β' i < 256) (hag : ∀ i, i < e → β i = β' i) (he10 : 10 ≤ e) (he : e ≤ 130) (hgg : ∀ i, gg i < 2 ^ 24) (K : ∀ {bl' : Int32} {bf' : (Nat → Int32)} {oc' : Int32} {ol' : Int32} {on' : Int32} {ml' : (Nat → Int32)} {mx' : (Nat → Int32)} {mb' : (Nat → Nat → Int32)} {kc' : Int32} {kh' : (Nat → Nat)} {ka' : (Nat → Int32)} {sp' : Int32} {vf' : (Nat → Int32)} {vs' : (Nat → Int32)} {vb' : (Nat → Nat → Int32)} {nv' : (Nat → Int32)} {nw' : (Nat → Nat → Int32)} {nr' : (Nat → Int32)} {nq' : (Nat → Nat → Int32)} {ne' : (Nat → Int32)} {wt' : Int32} {jq' : Int32} {jQ' : (Nat → Int32)} {jz' : (Nat → Int32)} {jf' : (Nat → Int32)} {jo' : Int32} {jn' : Int32} {jt' : Int32} {jH' : (Nat → Int32)} {jA' : (Nat → Int32)} {jm' : Int32} {jy' : (Nat → Int32)} {jp' : Int32} {jk' : Int32} {jw' : Int32} {ju' : Int32} {jF' : (Nat → Int32)} {jL' : (Nat → Int32)} {jO' : (Nat → Int32)} {jS' : (Nat → Int32)} {jT' : (Nat → Int32)} {jU' : (Nat → Int32)} {jV' : (Nat → Int32)} {jW' : (Nat → Int32)}, (∀ {g : xm_H}, (XM l 64 40 0 0 [.ref 97] (cw L xs g tc tf bl bf of oc ol on ml mx mb kc kh kr ka (nI e) gx gb ls lq lk lg lh vf vs vb nv nw nr nq ne io sp ch wt xf xz xt xb xc) (xR 0 (fun h => ∃ (xf' xz' xt' xb' : Nat → Int32) (xc' : Int32), h = (cw L xs g tc tf (bl') (bf') of (oc') (ol') (on') (ml') (mx') (mb') (kc') (kh') kr (ka') (nI e) gx gb ls lq lk lg lh (vf') (vs') (vb') (nv') (nw') (nr') (nq') (ne') io (sp') ch (wt') (xf') (xz') (xt') (xb') (xc'))))) ∨ XM l 64 40 0 0 [.ref 97] (cw L xs g tc tf bl bf of oc ol on ml mx mb kc kh kr ka (nI e) gx gb ls lq lk lg lh vf vs vb nv nw nr nq ne io sp ch wt xf xz xt xb xc) (xR 1 (fun h => ∃ (xf' xz' xt' xb' : Nat → Int32) (xc' : Int32), h = (cw L xs g tc tf bl bf of oc ol on ml mx mb kc kh kr ka (nI e) gx gb ls lq lk lg lh vf vs vb nv nw nr nq ne io sp ch wt (xf') (xz') (xt') (xb') (xc')) ∧ XM l 108 40 0 0 [.ref 97] (cw L xs g tc tf bl bf of oc ol on ml mx mb kc kh kr ka (nI e) gx gb ls lq lk lg lh vf vs vb nv nw nr nq ne io sp ch wt (xf') (xz') (xt') (xb') (xc')) (xN (fun h => ∃ (xf' xz' xt' xb' : Nat → Int32) (xc' : Int32), h = (cw L xs g tc tf (bl') (bf') of (oc') (ol') (on') (ml') (mx') (mb') (kc') (kh') kr (ka') (nI e) gx gb ls lq lk lg lh (vf') (vs') (vb') (nv') (nw') (nr') (nq') (ne') io (sp') ch (wt') (xf') (xz') (xt') (xb') (xc'))))))) → (∀ {L : Nat} {xs : Nat → Int32} {tc : Int32} {tf : (Nat → Int32)} {bl : Int32} {bf : (Nat → Int32)} {of : Int32} {oc : Int32} {ol : Int32} {on : Int32} {ml : (Nat → Int32)} {mx : (Nat → Int32)} {mb : (Nat → Nat → Int32)} {kc : Int32} {kh : (Nat → Nat)} {kr : (Nat → Nat → Int32)} {ka : (Nat → Int32)} {gl : Int32} {gx : Int32} {gb : (Nat → Int32)} {ls : Int32} {lq : Int32} {lk : Int32} {lg : Int32} {lh : Int32} {vf : (Nat → Int32)} {vs : (Nat → Int32)} {vb : (Nat → Nat → Int32)} {nv : (Nat → Int32)} {nw : (Nat → Nat → Int32)} {nr : (Nat → Int32)} {nq : (Nat → Nat → Int32)} {ne : (Nat → Int32)} {io : Int32} {sp : Int32} {ch : Int32} {wt : Int32} {xf : (Nat → Int32)} {xz : (Nat → Int32)} {xt : (Nat → Int32)} {xb : (Nat → Int32)} {xc : Int32} {th : Int32} {ov : (Nat → Value)}, XM l 176 19 0 0 [.ref 103] (cw L xs (rw th jl js jh jb jc jr jq jQ jz jf jo jn jt jH jA jm jy je jp jk jx jw ju jF jL jO jS jT jU jV jW (nI e) (fun z1 => nI (gg z1)) ov g2) tc tf bl bf of oc ol on ml mx mb kc kh kr ka gl gx gb ls lq lk lg lh vf vs vb nv nw nr nq ne io sp ch wt xf xz xt xb xc) (xN (fun h => ∃ g' : Nat → Nat, (∀ i, g' i < 2 ^ 24) ∧ h = (cw L xs (rw th jl js jh jb jc jr (jq') (jQ') (jz') (jf') (jo') (jn') (jt') (jH') (jA') (jm') (jy') je (jp') (jk') jx (jw') (ju') (jF') (jL') (jO') (jS') (jT') (jU') (jV') (jW') (nI e) (fun z1 => nI (g' z1)) ov g2) tc tf bl bf of oc ol on ml mx mb kc kh kr ka gl gx gb ls lq lk lg lh vf vs vb nv nw nr nq ne io sp ch wt xf xz xt xb xc)))) → Rel (N + 900) tc tf of (oc') (ol') (on') (ml') (mx') (mb') (kc') (kh') kr (ka') (nI e) gb ls lq lk lg lh (vf') (vs') (vb') (nv') (nw') (nr') (nq') (ne') io (sp') ch (wt') jl js jh jb jc jr (jq') (jQ') (jz') (jf') (jo') (jn') (jt') (jH') (jA') je (jp') (jk') jx (jw') (ju') (jF') (jL') (jO') (jS') (jT') (jU') (jV') (jW') (fun z1 => nI (gg z1)) → G) : G := by
  have a0 := hag 0 (by omega)
  have a1 := hag 1 (by omega)
  have a4 := hag 4 (by omega)
  have a5 := hag 5 (by omega)
  have a3 := hag 3 (by omega)
  have a2 := hag 2 (by omega)
  have b2 := hβ' 2
  have b3 := hβ' 3
  have hMM := h.2.2.2.2.2.2.2.2.2.1
  have hj : ∀ i, i < 10 → jb (i + 1) = gb i := fun i hi => by rw [hb i (by omega), hg i (by omega), hag i (by omega)]
  obtain ⟨hT, hQ, ho, hn, hK, hL, hZ, hV, hG, hM, hW, hGG⟩ := id h
  have hM := hMM
  have hK' := hK
  obtain ⟨t0, a, k1, k2, k3, k4, k5, k6, k7⟩ := hK'
  have hiff : ∀ k, k < t0 → (xanP (kr (kh k)) gb ↔ raP jH jb (β' 2 % 128) (β' 3) k) := fun k hk => an_iff (fun i hi => ((k6 k hk).2.2.2 i hi).1) hg hβ hj (by rw [a2]) a3.symm
  by_cases hx : ∃ c, c < t0 ∧ xanP (kr (kh c)) gb
  · obtain ⟨c1, hc1, hx1⟩ := hx
    obtain ⟨c, hc2, hy, hno⟩ := least_of (P := fun c => xanP (kr (kh c)) gb) c1 hx1
    obtain ⟨t, rfl⟩ : ∃ t, t0 = t + 1 := ⟨t0 - 1, by omega⟩
    have hyr := (hiff c (by omega)).mp hy
    have hnr : ∀ i, i < c → ¬ raP jH jb (β' 2 % 128) (β' 3) i := fun i hi z => hno i hi ((hiff i (by omega)).mpr z)
    have hK2 := hK
    rw [k2, k3] at hK2
    have hK3 := hK2.close (t := t) (c := c) (by omega) (by omega)
    by_cases hgr : β' 2 % 128 = 1 ∧ β' 3 = 14
    · have y2 : kr (kh c) 2 &&& 127 = 1 := by
        rw [hy.2.2.2.2.2, hg 2 (by decide), b127 _ (hβ 2), a2, hgr.1]; rfl
      have y3 : gb 3 = 14 := by rw [hg 3 (by decide), a3, hgr.2]; rfl
      have y4 : kr (kh c) 3 = 13 := by
        rcases hy.2.2.2.2.1 with z | z
        · rw [y3] at z; exact absurd z (by decide)
        · rw [y3] at z
          have z2 : kr (kh c) 3 = 14 - 1 := by rw [z, Int32.add_sub_cancel]
          exact z2
      refine K (bl' := bl) (bf' := bf) (oc' := oc) (ol' := ol) (on' := on) (ml' := ml) (mx' := mx) (mb' := mb) (kc' := nI t) (kh' := updn (xsh kh c (t - c)) t (kh c)) (ka' := xsh ka c (t - c)) (sp' := if dG β e then 1 else sp) (vf' := vf) (vs' := vs) (vb' := vb) (nv' := nv) (nw' := nw) (nr' := nr) (nq' := nq) (ne' := ne) (wt' := wt) (jq' := jq) (jQ' := jQ) (jz' := jz) (jf' := jf) (jo' := jo) (jn' := jn) (jt' := nI t) (jH' := xshk jH (10 * c) (10 * (t - c)) 10) (jA' := xshk jA c (t - c) 1) (jm' := jm) (jy' := jy) (jp' := if dG β' e then 1 else jp) (jk' := jk) (jw' := jw) (ju' := ju) (jF' := jF) (jL' := jL) (jO' := jO) (jS' := jS) (jT' := jT) (jU' := jU) (jV' := jV) (jW' := jW) (fun {g} => Or.inl ?_) ?_ ⟨hT.mono (by omega), hQ, ho, hn, hK3, hL, hZ, hV, hG, ?_, hW, hGG⟩
      · rw [k2]
        exact n64e (Q := xR 0 (fun h => ∃ (xf' xz' xt' xb' : Nat → Int32) (xc' : Int32), h = (cw L xs g tc tf bl bf of oc ol on ml mx mb (nI t) (updn (xsh kh c (t - c)) t (kh c)) kr (xsh ka c (t - c)) (nI e) gx gb ls lq lk lg lh vf vs vb nv nw nr nq ne io (if dG β e then 1 else sp) ch wt (xf') (xz') (xt') (xb') (xc')))) (dd := 39) hg hβ (by decide) hz (by rw [hg 0 (by decide), h0]; decide) ⟨by rw [hg 0 (by decide), h0]; rfl, by rw [hg 1 (by decide), h1]; rfl⟩ ⟨by rw [hg 4 (by decide), h4]; rfl, by rw [hg 5 (by decide), h5]; rfl⟩ hev (by decide) (n73c (d := 39) hg hβ t c (by decide) (by omega) (by omega) k4 hno hy he y2 y4 y3 (fun xf' xz' xt' xb' xc' => ⟨rfl, rfl, xf', xz', xt', xb', xc', rfl⟩))
      · intros
        rw [k3]
        exact q176_a (dd := 18) hb hβ' (by rw [hM.1, hz]; decide) (by omega) ⟨by omega, by omega⟩ ⟨by omega, by omega⟩ (by omega) (by decide) (q182_g hb hβ' he gg hgg _ _ t c (by omega) (by omega) (by omega) (by omega) hnr hyr (by decide) hgr.1 hgr.2 (fun g' hg' => ⟨g', hg', rfl⟩))
      · rw [dG_E hag]
        by_cases hd : dG β' e = true
        · rw [if_pos hd, if_pos hd]
          exact ⟨hM.1, rfl, hM.2.2.1, hM.2.2.2.1, hM.2.2.2.2.1, Or.inr rfl, fun _ => hz, hM.2.2.2.2.2.2.2⟩
        · rw [if_neg hd, if_neg hd]
          exact hM
    · refine K (bl' := bl) (bf' := bf) (oc' := oc) (ol' := ol) (on' := on) (ml' := ml) (mx' := mx) (mb' := mb) (kc' := nI t) (kh' := updn (xsh kh c (t - c)) t (kh c)) (ka' := xsh ka c (t - c)) (sp' := sp) (vf' := vf) (vs' := vs) (vb' := vb) (nv' := nv) (nw' := nw) (nr' := nr) (nq' := nq) (ne' := ne) (wt' := wt) (jq' := jq) (jQ' := jQ) (jz' := jz) (jf' := jf) (jo' := jo) (jn' := jn) (jt' := nI t) (jH' := xshk jH (10 * c) (10 * (t - c)) 10) (jA' := xshk jA c (t - c) 1) (jm' := jm) (jy' := jy) (jp' := jp) (jk' := jk) (jw' := jw) (ju' := ju) (jF' := jF) (jL' := jL) (jO' := jO) (jS' := jS) (jT' := jT) (jU' := jU) (jV' := jV) (jW' := jW) (fun {g} => Or.inl ?_) ?_ ⟨hT.mono (by omega), hQ, ho, hn, hK3, hL, hZ, hV, hG, hM, hW, hGG⟩
      · rw [k2]
        refine n64e (Q := xR 0 (fun h => ∃ (xf' xz' xt' xb' : Nat → Int32) (xc' : Int32), h = (cw L xs g tc tf bl bf of oc ol on ml mx mb (nI t) (updn (xsh kh c (t - c)) t (kh c)) kr (xsh ka c (t - c)) (nI e) gx gb ls lq lk lg lh vf vs vb nv nw nr nq ne io sp ch wt (xf') (xz') (xt') (xb') (xc')))) (dd := 39) hg hβ (by decide) hz (by rw [hg 0 (by decide), h0]; decide) ⟨by rw [hg 0 (by decide), h0]; rfl, by rw [hg 1 (by decide), h1]; rfl⟩ ⟨by rw [hg 4 (by decide), h4]; rfl, by rw [hg 5 (by decide), h5]; rfl⟩ hev (by decide) (XM.mono (Q := xm_is none (cw L xs g tc tf bl bf of oc ol on ml mx mb (nI t) (updn (xsh kh c (t - c)) t (kh c)) kr (xsh ka c (t - c)) (nI e) gx gb ls lq lk lg lh vf vs vb nv nw nr nq ne io sp ch wt xf xz xt xb xc)) ?_ (fun v h z => ⟨z.1, rfl, xf, xz, xt, xb, xc, z.2⟩))
        by_cases hc3 : kr (kh c) 2 &&& 127 = 1 ∧ kr (kh c) 3 = 13
        · refine n73b (d := 39) t c (by decide) (by omega) (by omega) k4 hno hy hc3.1 hc3.2 (fun z => hgr ⟨?_, ?_⟩)
          · have y := hc3.1
            rw [hy.2.2.2.2.2, hg 2 (by decide), b127 _ (hβ 2), a2] at y
            exact (nI_eq (b := 1) (by omega) (by decide)).mp y
          · rw [hg 3 (by decide), a3] at z
            exact (nI_eq (b := 14) (by omega) (by decide)).mp z
        · exact n73a (d := 39) t c (by decide) (by omega) (by omega) k4 hno hy hc3
      · intros
        rw [k3]
        exact q176_a (dd := 18) hb hβ' (by rw [hM.1, hz]; decide) (by omega) ⟨by omega, by omega⟩ ⟨by omega, by omega⟩ (by omega) (by decide) (q182_d _ _ t c (by omega) (by omega) (by omega) (by omega) hnr hyr (by decide) hgr ⟨gg, hgg, rfl⟩)
  · refine m_same (fun {g} => ?_) ?_ h hN hg hβ hb hβ' hag he10 he hgg K
    · rw [k2]
      exact n64e (Q := xm_is (some (.int 0)) (cw L xs g tc tf bl bf of oc ol on ml mx mb (nI t0) kh kr ka (nI e) gx gb ls lq lk lg lh vf vs vb nv nw nr nq ne io sp ch wt xf xz xt xb xc)) (dd := 39) hg hβ (by decide) hz (by rw [hg 0 (by decide), h0]; decide) ⟨by rw [hg 0 (by decide), h0]; rfl, by rw [hg 1 (by decide), h1]; rfl⟩ ⟨by rw [hg 4 (by decide), h4]; rfl, by rw [hg 5 (by decide), h5]; rfl⟩ hev (by decide) ((n73m (d := 39) t0 (by decide) k1 k4 (fun i hi z => hx ⟨i, hi, z⟩)).mono (fun v h z => ⟨z.1, rfl, z.2⟩))
    · intros
      rename_i Q hq
      rw [k3] at hq ⊢
      exact q176_a (dd := 18) hb hβ' (by rw [hM.1, hz]; decide) (by omega) ⟨by omega, by omega⟩ ⟨by omega, by omega⟩ (by omega) (by decide) (q182_m _ _ t0 (by omega) (by omega) k1 (fun i hi z => hx ⟨i, hi, (hiff i hi).mpr z⟩) hq)
end RE13
