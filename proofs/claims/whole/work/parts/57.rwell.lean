section ER5
variable {l : Launch} {d L : Nat} {xs : Nat → Int32} {tc : Int32} {tf : (Nat → Int32)} {bl : Int32} {bf : (Nat → Int32)} {of : Int32} {oc : Int32} {ol : Int32} {on : Int32} {ml : (Nat → Int32)} {mx : (Nat → Int32)} {mb : (Nat → Nat → Int32)} {kc : Int32} {kh : (Nat → Nat)} {kr : (Nat → Nat → Int32)} {ka : (Nat → Int32)} {gl : Int32} {gx : Int32} {gb : (Nat → Int32)} {ls : Int32} {lq : Int32} {lk : Int32} {lg : Int32} {lh : Int32} {vf : (Nat → Int32)} {vs : (Nat → Int32)} {vb : (Nat → Nat → Int32)} {nv : (Nat → Int32)} {nw : (Nat → Nat → Int32)} {nr : (Nat → Int32)} {nq : (Nat → Nat → Int32)} {ne : (Nat → Int32)} {io : Int32} {sp : Int32} {ch : Int32} {wt : Int32} {xf : (Nat → Int32)} {xz : (Nat → Int32)} {xt : (Nat → Int32)} {xb : (Nat → Int32)} {xc : Int32} {th : Int32} {jl : Int32} {js : Int32} {jh : Int32} {jb : (Nat → Int32)} {jc : Int32} {jr : (Nat → Int32)} {jq : Int32} {jQ : (Nat → Int32)} {jz : (Nat → Int32)} {jf : (Nat → Int32)} {jo : Int32} {jn : Int32} {jt : Int32} {jH : (Nat → Int32)} {jA : (Nat → Int32)} {jm : Int32} {jy : (Nat → Int32)} {je : Int32} {jp : Int32} {jk : Int32} {jx : Int32} {jw : Int32} {ju : Int32} {jF : (Nat → Int32)} {jL : (Nat → Int32)} {jO : (Nat → Int32)} {jS : (Nat → Int32)} {jT : (Nat → Int32)} {jU : (Nat → Int32)} {jV : (Nat → Int32)} {jW : (Nat → Int32)} {ja : Int32} {jG : (Nat → Int32)} {ov : (Nat → Value)} {g2 : xm_H}
variable {β : Nat → Nat} {e : Nat}
/-- one less in the innermost list -/
def wD (g : Nat → Nat) (n : Nat) : Nat → Nat := updn g (n - 1) (g (n - 1) - 1)
/-- n lists, g i items left in list i: where the outermost ends, from q on -/
def wG (β : Nat → Nat) (e : Nat) : Nat → (Nat → Nat) → Nat → Option Nat
  | 0, _, q => some q
  | n + 1, g, q => (itI (itR β e (5 - n)) (g n) q).bind fun r => wG β e n (wD g n) r.2
theorem wG_congr : ∀ (n : Nat) (g h : Nat → Nat) (q : Nat), (∀ i, i < n → g i = h i) → wG β e n g q = wG β e n h q := by
  intro n
  induction n with
  | zero => intro g h q _; rfl
  | succ n ih =>
    intro g h q hg
    rw [wG, wG, hg n (by omega)]
    congr 1
    funext r
    refine ih _ _ _ (fun i hi => ?_)
    unfold wD updn
    split
    · rw [hg (n - 1) (by omega)]
    · exact hg i (by omega)
theorem wG_push (n S T : Nat) (g : Nat → Nat) : wG β e (n + 1) (updn g n S) T = (itI (itR β e (5 - n)) S T).bind fun r => wG β e n (wD g n) r.2 := by
  rw [wG, updn_same]
  congr 1
  funext r
  refine wG_congr n _ _ _ (fun i hi => ?_)
  unfold wD updn
  by_cases h : i = n - 1
  · rw [if_pos h, if_pos h, if_neg (by omega)]
  · rw [if_neg h, if_neg h, if_neg (by omega)]
theorem wG_next (m q : Nat) (g : Nat → Nat) (h : 1 ≤ g m) : wG β e (m + 1) g q = (itR β e (5 - m) q).bind fun r => wG β e (m + 1) (wD g (m + 1)) r.2 := by
  obtain ⟨c, hc⟩ : ∃ c, g m = c + 1 := ⟨g m - 1, by omega⟩
  rw [wG, hc, itI]
  cases h1 : itR β e (5 - m) q with
  | none => rfl
  | some a =>
    show ((itI (itR β e (5 - m)) c a.2).map fun s => (a.1 ++ s.1, s.2)).bind (fun r => wG β e m (wD g m) r.2) = wG β e (m + 1) (wD g (m + 1)) a.2
    have e1 : wD g (m + 1) = updn g m c := by
      unfold wD
      rw [Nat.add_sub_cancel, hc, Nat.add_sub_cancel]
    rw [e1, wG_push]
    cases itI (itR β e (5 - m)) c a.2 with
    | none => rfl
    | some b => rfl
theorem upd_nIx (g : Nat → Nat) (j x : Nat) : upd (fun z1 => nI (g z1)) j (nI x) = fun z1 => nI (updn g j x z1) := upd_nI g j x
theorem q185_pop {Q : xm_Q} (q : Nat) (o3 o4 o5 o6 : Option Value) : ∀ (n : Nat) (g : Nat → Nat), n ≤ 7 → (∀ i, i + 1 < n → 1 ≤ g i) → (∀ i, g i < 2 ^ 24) → (∀ (n' : Nat) (g' : Nat → Nat), n' ≤ n → (∀ i, i < n' → 1 ≤ g' i) → (∀ i, g' i < 2 ^ 24) → wG β e n' g' q = wG β e n g q → XG l xm_any 185 d 0 0 192 [some (.ref 103), some (.int (nI (q + 1))), some (.int (nI n')), o3, o4, o5, o6] [] (cw L xs (rw th jl js jh jb jc jr jq jQ jz jf jo jn jt jH jA jm jy je jp jk jx jw ju jF jL jO jS jT jU jV jW (nI e) ((fun z1 => nI ((g') z1))) ov g2) tc tf bl bf of oc ol on ml mx mb kc kh kr ka gl gx gb ls lq lk lg lh vf vs vb nv nw nr nq ne io sp ch wt xf xz xt xb xc) Q) → XG l xm_any 185 d 0 0 155 [some (.ref 103), some (.int (nI (q + 1))), some (.int (nI n)), o3, o4, o5, o6] [] (cw L xs (rw th jl js jh jb jc jr jq jQ jz jf jo jn jt jH jA jm jy je jp jk jx jw ju jF jL jO jS jT jU jV jW (nI e) ((fun z1 => nI ((g) z1))) ov g2) tc tf bl bf of oc ol on ml mx mb kc kh kr ka gl gx gb ls lq lk lg lh vf vs vb nv nw nr nq ne io sp ch wt xf xz xt xb xc) Q := by
  intro n
  induction n with
  | zero =>
    intro g hn h1 h2 hK
    refine x_step rfl ?_
    refine x_ifN_le (0) rfl rfl (fun _ => ?_) (fun q => False.elim (by omega))
    exact hK 0 g (Nat.le_refl _) (fun i hi => by omega) h2 rfl
  | succ n ih =>
    intro g hn h1 h2 hK
    have hgn := h2 n
    refine x_step rfl ?_
    refine x_ifN_le (n + 1) rfl rfl (fun q => False.elim (by omega)) (fun _ => ?_)
    iterate 5 refine x_step rfl ?_
    refine x_ialdN (n) rfl rfl (nI_pred n) (by omega) ?_
    refine x_ifN_ne (g n) rfl rfl (fun h => ?_) (fun h => ?_)
    · exact hK (n + 1) g (Nat.le_refl _) (fun i hi => by rcases Nat.lt_or_ge (i + 1) (n + 1) with z | z; exact h1 i z; have hin : i = n := (by omega); rw [hin]; omega) h2 rfl
    · have e0 : wG β e (n + 1) g q = wG β e n (wD g n) q := by rw [wG, h]; rfl
      refine x_step rfl ?_
      refine xm_ls (pl' := [some (.ref 103), some (.int (nI (q + 1))), some (.int (nI n)), o3, o4, o5, o6]) (by rw [show nI (n + 1) + (-1) = nI n from pk_m1 n] <;> rfl) ?_
      refine x_step rfl ?_
      refine x_ifN_le (n) rfl rfl (fun h0 => ?_) (fun h0 => ?_)
      · obtain rfl : n = 0 := by omega
        exact ih g (by omega) (fun i hi => by omega) h2 (fun n' g' a1 a2 a3 a4 => hK n' g' (by omega) a2 a3 (a4.trans e0.symm))
      · have hg1 := h1 (n - 1) (by omega)
        have hg2 := h2 (n - 1)
        iterate 6 refine x_step rfl ?_
        refine x_ialdN (n - 1) rfl rfl (pk_sub (a := n) (b := 1) (by omega)) (by omega) ?_
        iterate 2 refine x_step rfl ?_
        refine x_iastN (n - 1) rfl rfl (pk_sub (a := n) (b := 1) (by omega)) (by omega) ?_
        refine x_step rfl ?_
        refine xm_hs (hp' := (cw L xs (rw th jl js jh jb jc jr jq jQ jz jf jo jn jt jH jA jm jy je jp jk jx jw ju jF jL jO jS jT jU jV jW (nI e) ((fun z1 => nI ((wD g n) z1))) ov g2) tc tf bl bf of oc ol on ml mx mb kc kh kr ka gl gx gb ls lq lk lg lh vf vs vb nv nw nr nq ne io sp ch wt xf xz xt xb xc)) (by rw [show nI (g (n - 1)) - 1 = nI (g (n - 1) - 1) from pk_sub (b := 1) hg1, upd_nIx] <;> rfl) ?_
        exact ih (wD g n) (by omega) (fun i hi => by unfold wD updn; rw [if_neg (by omega)]; exact h1 i (by omega)) (fun i => by unfold wD updn; split; omega; exact h2 i) (fun n' g' a1 a2 a3 a4 => hK n' g' (by omega) a2 a3 (a4.trans e0.symm))
theorem q185_loop (hb : ∀ i, i < 130 → jb (i + 1) = nI (β i)) (hβ : ∀ i, β i < 256) (he : e ≤ 130) (hd : 1 ≤ d) : ∀ (k p n : Nat) (g : Nat → Nat) (o4 o5 o6 : Option Value), e - p < k → 10 ≤ p → p < 2 ^ 20 → n ≤ 6 → (∀ i, i < n → 1 ≤ g i) → (∀ i, g i < 2 ^ 24) → XW l 185 d 0 0 7 [some (.ref 103), some (.int (nI (p + 1))), some (.int (nI n)), some (.int 1), o4, o5, o6] [] (cw L xs (rw th jl js jh jb jc jr jq jQ jz jf jo jn jt jH jA jm jy je jp jk jx jw ju jF jL jO jS jT jU jV jW (nI e) ((fun z1 => nI ((g) z1))) ov g2) tc tf bl bf of oc ol on ml mx mb kc kh kr ka gl gx gb ls lq lk lg lh vf vs vb nv nw nr nq ne io sp ch wt xf xz xt xb xc) (fun v h => ∃ gz : Nat → Nat, (∀ i, gz i < 2 ^ 24) ∧ h = (cw L xs (rw th jl js jh jb jc jr jq jQ jz jf jo jn jt jH jA jm jy je jp jk jx jw ju jF jL jO jS jT jU jV jW (nI e) ((fun z1 => nI ((gz) z1))) ov g2) tc tf bl bf of oc ol on ml mx mb kc kh kr ka gl gx gb ls lq lk lg lh vf vs vb nv nw nr nq ne io sp ch wt xf xz xt xb xc) ∧ v = some (.int (bI (((itR β e (6 - n) p).bind fun r => wG β e n (wD g n) r.2) == some e)))) := by
  intro k
  induction k with
  | zero => intro p n g o4 o5 o6 hk; exact absurd hk (by omega)
  | succ k ih =>
    intro p n g o4 o5 o6 hk hp hp2 hn h1 h2
    have hTe : itT β p = p + 1 + itK β p := rfl
    have hK3 : itK β p ≤ 3 := by unfold itK; omega
    have hF := itF_lt hβ p
    have hS := itS_lt hβ p
    have hgn := h2 (n - 1)
    have cont : ∀ (q n' : Nat) (g' : Nat → Nat) (o3 o4 o5 o6 : Option Value), p < q → p < e → q ≤ e → n' ≤ 6 → (∀ i, i < n' → 1 ≤ g' i) → (∀ i, g' i < 2 ^ 24) → XW l 185 d 0 0 192 [some (.ref 103), some (.int (nI (q + 1))), some (.int (nI n')), o3, o4, o5, o6] [] (cw L xs (rw th jl js jh jb jc jr jq jQ jz jf jo jn jt jH jA jm jy je jp jk jx jw ju jF jL jO jS jT jU jV jW (nI e) ((fun z1 => nI ((g') z1))) ov g2) tc tf bl bf of oc ol on ml mx mb kc kh kr ka gl gx gb ls lq lk lg lh vf vs vb nv nw nr nq ne io sp ch wt xf xz xt xb xc) (fun v h => ∃ gz : Nat → Nat, (∀ i, gz i < 2 ^ 24) ∧ h = (cw L xs (rw th jl js jh jb jc jr jq jQ jz jf jo jn jt jH jA jm jy je jp jk jx jw ju jF jL jO jS jT jU jV jW (nI e) ((fun z1 => nI ((gz) z1))) ov g2) tc tf bl bf of oc ol on ml mx mb kc kh kr ka gl gx gb ls lq lk lg lh vf vs vb nv nw nr nq ne io sp ch wt xf xz xt xb xc) ∧ v = some (.int (bI (wG β e n' g' q == some e)))) := by
      intro q n' g' o3 o4 o5 o6 hq hpe hqe hn' a1 a2
      refine x_step rfl ?_
      refine x_ifN_le (n') rfl rfl (fun h => ?_) (fun h => ?_)
      · obtain rfl : n' = 0 := by omega
        iterate 3 refine x_step rfl ?_
        refine xm_ls (pl' := [some (.ref 103), some (.int (nI (q + 1))), some (.int (nI 0)), some (.int 0), o4, o5, o6]) rfl ?_
        refine x_step rfl ?_
        refine x_if_eq rfl (fun _ => ?_) (fun q => absurd (by decide) q)
        iterate 2 refine x_step rfl ?_
        refine x_callvE rfl (q186 (d := 0)) rfl rfl rfl ?_
        refine x_icmpN_ne (q + 1) (e + 1) rfl rfl rfl (fun hz => ?_) (fun hz => ?_)
        · refine x_step rfl ?_
          exact x_iret rfl rfl rfl ⟨g', a2, rfl, by rw [wG, show (some q == some e) = false from by simp; omega]; rfl⟩
        · obtain rfl : q = e := by omega
          iterate 2 refine x_step rfl ?_
          exact x_iret rfl rfl rfl ⟨g', a2, rfl, by rw [wG, show (some q == some q) = true from by simp]; rfl⟩
      · obtain ⟨m, rfl⟩ : ∃ m, n' = m + 1 := ⟨n' - 1, by omega⟩
        iterate 4 refine x_step rfl ?_
        refine xm_ls (pl' := [some (.ref 103), some (.int (nI (q + 1))), some (.int (nI (m + 1))), some (.int 1), o4, o5, o6]) rfl ?_
        rw [wG_next m q g' (a1 m (by omega))]
        have hh := ih q (m + 1) g' o4 o5 o6 (by omega) (by omega) (by omega) (by omega) a1 a2
        rw [show 6 - (m + 1) = 5 - m by omega] at hh
        exact hh
    refine x_step rfl ?_
    refine x_if_eq rfl (fun q => absurd q (by decide)) (fun _ => ?_)
    iterate 2 refine x_step rfl ?_
    refine x_callvE rfl (q186 (d := 0)) rfl rfl rfl ?_
    refine x_icmpN_ge (p + 1) (e + 1) rfl rfl rfl (fun h => ?_) (fun h => ?_)
    · iterate 3 refine x_step rfl ?_
      refine x_if_eq rfl (fun _ => ?_) (fun q => absurd (by decide) q)
      have hno : itR β e (6 - n) p = none := by rw [itR_eq, if_neg (by omega)]
      refine x_step rfl ?_
      exact x_iret rfl rfl rfl ⟨g, h2, rfl, by rw [hno]; rfl⟩
    · iterate 3 refine x_step rfl ?_
      refine x_ialdN (p + 1) rfl rfl rfl (by omega) ?_
      iterate 4 refine x_step rfl ?_
      refine xm_ls (pl' := [some (.ref 103), some (.int (nI (p + 1))), some (.int (nI n)), some (.int 1), some (.int (nI (itK β p))), o5, o6]) (by rw [hb p (by omega), n79_and _ (hβ p)] <;> rfl) ?_
      refine x_step rfl ?_
      refine x_ifN_eq (itK β p) rfl rfl (fun hk0 => ?_) (fun hk0 => ?_)
      · have hno : itR β e (6 - n) p = none := by rw [itR_eq, if_neg (by omega)]
        refine x_step rfl ?_
        exact x_iret rfl rfl rfl ⟨g, h2, rfl, by rw [hno]; rfl⟩
      · iterate 6 refine x_step rfl ?_
        refine x_callvE rfl (q186 (d := 0)) rfl rfl rfl ?_
        refine x_icmpN_le (itT β p + 1) (e + 1) rfl (by rw [nI_1, nI_add]; congr 1; omega) rfl (fun hT => ?_) (fun hT => ?_)
        · iterate 2 refine x_step rfl ?_
          refine x_callvE rfl (q187 (d := 0) hb hβ p (by omega)) rfl rfl rfl ?_
          iterate 3 refine x_step rfl ?_
          refine x_callvE rfl (q188 (d := 0) hb hβ p (by omega)) rfl rfl rfl ?_
          iterate 3 refine x_step rfl ?_
          refine x_callvE rfl (q189 (d := 0) hb hβ p (by omega)) rfl rfl rfl ?_
          refine x_step rfl ?_
          refine xm_ls (pl' := [some (.ref 103), some (.int (nI (itT β p + 1))), some (.int (nI n)), some (.int 1), some (.int (nI (itK β p))), some (.int (nI (itF β p))), some (.int (nI (itS β p)))]) rfl ?_
          rw [itR_eq, if_pos ⟨by omega, hk0, by omega⟩]
          refine x_step rfl ?_
          refine x_ifN_ne (itF β p) rfl rfl (fun hf => ?_) (fun hf => ?_)
          · rw [if_neg hf]
            have hW := itW_le (itF β p)
            iterate 2 refine x_step rfl ?_
            refine x_callvE rfl (q190 (d := 0) (itF β p) hF) rfl rfl rfl ?_
            refine x_ifN_eq (itW (itF β p)) rfl rfl (fun hw => ?_) (fun hw => ?_)
            · refine x_step rfl ?_
              exact x_iret rfl rfl rfl ⟨g, h2, rfl, by rw [itLeaf, if_neg (by omega)]; rfl⟩
            · iterate 3 refine x_step rfl ?_
              refine x_callvE rfl (q190 (d := 0) (itF β p) hF) rfl rfl rfl ?_
              refine x_iremN (itS β p) (itW (itF β p)) rfl rfl rfl ?_
              have hm : itS β p % itW (itF β p) ≤ itS β p := Nat.mod_le _ _
              refine x_ifN_ne (itS β p % itW (itF β p)) rfl rfl (fun hz => ?_) (fun hz => ?_)
              · refine x_step rfl ?_
                exact x_iret rfl rfl rfl ⟨g, h2, rfl, by rw [itLeaf, if_neg (by omega)]; rfl⟩
              · iterate 2 refine x_step rfl ?_
                refine x_callvE rfl (q186 (d := 0)) rfl rfl rfl ?_
                iterate 2 refine x_step rfl ?_
                refine x_icmpN_le (itS β p) (e - itT β p) rfl rfl (by rw [pk_sub (by omega)]; congr 1; omega) (fun hl => ?_) (fun hl => ?_)
                · rw [show itLeaf β e p = some ([(p, 1)], itT β p + itS β p) from by rw [itLeaf, if_pos ⟨by omega, hz, hl⟩]]
                  iterate 4 refine x_step rfl ?_
                  refine xm_ls (pl' := [some (.ref 103), some (.int (nI ((itT β p + itS β p) + 1))), some (.int (nI n)), some (.int 1), some (.int (nI (itK β p))), some (.int (nI (itF β p))), some (.int (nI (itS β p)))]) (by rw [nI_add, show itT β p + 1 + itS β p = itT β p + itS β p + 1 by omega] <;> rfl) ?_
                  refine x_step rfl ?_
                  refine x_ifN_le (n) rfl rfl (fun hn0 => ?_) (fun hn0 => ?_)
                  · obtain rfl : n = 0 := by omega
                    refine q185_pop (β := β) (e := e) (itT β p + itS β p) _ _ _ _ 0 g (by omega) (fun i hi => by omega) h2 (fun n' g' a1 a2 a3 a4 => ?_)
                    have hc := cont (itT β p + itS β p) n' g' (some (.int 1)) (some (.int (nI (itK β p)))) (some (.int (nI (itF β p)))) (some (.int (nI (itS β p)))) (by omega) (by omega) (by omega) (by omega) a2 a3
                    rw [a4] at hc
                    exact hc
                  · have hg1 := h1 (n - 1) (by omega)
                    iterate 6 refine x_step rfl ?_
                    refine x_ialdN (n - 1) rfl rfl (pk_sub (a := n) (b := 1) (by omega)) (by omega) ?_
                    iterate 2 refine x_step rfl ?_
                    refine x_iastN (n - 1) rfl rfl (pk_sub (a := n) (b := 1) (by omega)) (by omega) ?_
                    refine xm_hs (hp' := (cw L xs (rw th jl js jh jb jc jr jq jQ jz jf jo jn jt jH jA jm jy je jp jk jx jw ju jF jL jO jS jT jU jV jW (nI e) ((fun z1 => nI ((wD g n) z1))) ov g2) tc tf bl bf of oc ol on ml mx mb kc kh kr ka gl gx gb ls lq lk lg lh vf vs vb nv nw nr nq ne io sp ch wt xf xz xt xb xc)) (by rw [show nI (g (n - 1)) - 1 = nI (g (n - 1) - 1) from pk_sub (b := 1) hg1, upd_nIx] <;> rfl) ?_
                    refine q185_pop (β := β) (e := e) (itT β p + itS β p) _ _ _ _ n (wD g n) (by omega) (fun i hi => by unfold wD updn; rw [if_neg (by omega)]; exact h1 i (by omega)) (fun i => by unfold wD updn; split; omega; exact h2 i) (fun n' g' a1 a2 a3 a4 => ?_)
                    have hc := cont (itT β p + itS β p) n' g' (some (.int 1)) (some (.int (nI (itK β p)))) (some (.int (nI (itF β p)))) (some (.int (nI (itS β p)))) (by omega) (by omega) (by omega) (by omega) a2 a3
                    rw [a4] at hc
                    exact hc
                · refine x_step rfl ?_
                  exact x_iret rfl rfl rfl ⟨g, h2, rfl, by rw [itLeaf, if_neg (by omega)]; rfl⟩
          · rw [if_pos hf]
            iterate 2 refine x_step rfl ?_
            refine x_icmpN_ne (n) (6) rfl rfl rfl (fun h6 => ?_) (fun h6 => ?_)
            · obtain ⟨D, hD⟩ : ∃ D, 6 - n = D + 1 := ⟨5 - n, by omega⟩
              have hD2 : D = 5 - n := by omega
              iterate 4 refine x_step rfl ?_
              refine x_iastN (n) rfl rfl rfl (by omega) ?_
              iterate 2 refine x_step rfl ?_
              refine xm_ls (pl' := [some (.ref 103), some (.int (nI (itT β p + 1))), some (.int (nI (n + 1))), some (.int 1), some (.int (nI (itK β p))), some (.int (nI (itF β p))), some (.int (nI (itS β p)))]) (by rw [nI_succ n] <;> rfl) ?_
              refine xm_hs (hp' := (cw L xs (rw th jl js jh jb jc jr jq jQ jz jf jo jn jt jH jA jm jy je jp jk jx jw ju jF jL jO jS jT jU jV jW (nI e) ((fun z1 => nI ((updn g n (itS β p)) z1))) ov g2) tc tf bl bf of oc ol on ml mx mb kc kh kr ka gl gx gb ls lq lk lg lh vf vs vb nv nw nr nq ne io sp ch wt xf xz xt xb xc)) (by rw [upd_nIx] <;> rfl) ?_
              refine q185_pop (β := β) (e := e) (itT β p) _ _ _ _ (n + 1) (updn g n (itS β p)) (by omega) (fun i hi => by unfold updn; rw [if_neg (by omega)]; exact h1 i (by omega)) (fun i => by unfold updn; split; omega; exact h2 i) (fun n' g' a1 a2 a3 a4 => ?_)
              have hc := cont (itT β p) n' g' (some (.int 1)) (some (.int (nI (itK β p)))) (some (.int (nI (itF β p)))) (some (.int (nI (itS β p)))) (by omega) (by omega) (by omega) (by omega) a2 a3
              rw [a4, wG_push] at hc
              rw [hD, show itL β e (D + 1) (itS β p) (itT β p) = itI (itR β e (5 - n)) (itS β p) (itT β p) from by rw [hD2]; rfl]
              have e3 : ((Option.map (fun r => ((p, 1 + r.1.length) :: r.1, r.2)) (itI (itR β e (5 - n)) (itS β p) (itT β p))).bind fun r => wG β e n (wD g n) r.2) = (itI (itR β e (5 - n)) (itS β p) (itT β p)).bind fun r => wG β e n (wD g n) r.2 := by cases itI (itR β e (5 - n)) (itS β p) (itT β p) <;> rfl
              rw [e3]
              exact hc
            · refine x_step rfl ?_
              exact x_iret rfl rfl rfl ⟨g, h2, rfl, by rw [show 6 - n = 0 by omega]; rfl⟩
        · have hno : itR β e (6 - n) p = none := by rw [itR_eq, if_neg (by omega)]
          refine x_step rfl ?_
          exact x_iret rfl rfl rfl ⟨g, h2, rfl, by rw [hno]; rfl⟩
/-- wellFormed -/
theorem q185 (hb : ∀ i, i < 130 → jb (i + 1) = nI (β i)) (hβ : ∀ i, β i < 256) (he : e ≤ 130) (g : Nat → Nat) (hg : ∀ i, g i < 2 ^ 24) (hd : 1 ≤ d) : XM l 185 d 0 0 [.ref 103] (cw L xs (rw th jl js jh jb jc jr jq jQ jz jf jo jn jt jH jA jm jy je jp jk jx jw ju jF jL jO jS jT jU jV jW (nI e) ((fun z1 => nI ((g) z1))) ov g2) tc tf bl bf of oc ol on ml mx mb kc kh kr ka gl gx gb ls lq lk lg lh vf vs vb nv nw nr nq ne io sp ch wt xf xz xt xb xc) (fun v h => ∃ g' : Nat → Nat, (∀ i, g' i < 2 ^ 24) ∧ h = (cw L xs (rw th jl js jh jb jc jr jq jQ jz jf jo jn jt jH jA jm jy je jp jk jx jw ju jF jL jO jS jT jU jV jW (nI e) ((fun z1 => nI ((g') z1))) ov g2) tc tf bl bf of oc ol on ml mx mb kc kh kr ka gl gx gb ls lq lk lg lh vf vs vb nv nw nr nq ne io sp ch wt xf xz xt xb xc) ∧ v = some (.int (bI (itB β e).isSome))) := by
  refine XEq (pl := [some (.ref 103), none, none, none, none, none, none]) xg185 rfl ?_
  iterate 6 refine x_step rfl ?_
  refine xm_ls (pl' := [some (.ref 103), some (.int (nI (10 + 1))), some (.int (nI 0)), some (.int 1), none, none, none]) rfl ?_
  refine (q185_loop hb hβ he hd (e + 1) 10 0 g none none none (by omega) (by decide) (by decide) (by decide) (fun i hi => by omega) hg).mono ?_
  rintro v h ⟨g', hg', rfl, rfl⟩
  refine ⟨g', hg', rfl, ?_⟩
  congr 3
  unfold itB
  show (((itR β e 6 10).bind fun r => some r.2) == some e) = _
  cases h1 : itR β e 6 10 with
  | none => rfl
  | some a =>
    obtain ⟨ps, q⟩ := a
    show (some q == some e) = _
    by_cases hq : q = e
    · subst hq; simp
    · simp [hq]
end ER5
