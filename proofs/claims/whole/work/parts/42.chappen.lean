section EC2
variable {l : Launch} {d L : Nat} {xs : Nat → Int32} {g : xm_H} {tc : Int32} {tf : (Nat → Int32)} {bl : Int32} {bf : (Nat → Int32)} {of : Int32} {oc : Int32} {ol : Int32} {on : Int32} {ml : (Nat → Int32)} {mx : (Nat → Int32)} {mb : (Nat → Nat → Int32)} {kc : Int32} {kh : (Nat → Nat)} {kr : (Nat → Nat → Int32)} {ka : (Nat → Int32)} {gl : Int32} {gx : Int32} {gb : (Nat → Int32)} {ls : Int32} {lq : Int32} {lk : Int32} {lg : Int32} {lh : Int32} {vf : (Nat → Int32)} {vs : (Nat → Int32)} {vb : (Nat → Nat → Int32)} {nv : (Nat → Int32)} {nw : (Nat → Nat → Int32)} {nr : (Nat → Int32)} {nq : (Nat → Nat → Int32)} {ne : (Nat → Int32)} {io : Int32} {sp : Int32} {ch : Int32} {wt : Int32} {xf : (Nat → Int32)} {xz : (Nat → Int32)} {xt : (Nat → Int32)} {xb : (Nat → Int32)} {xc : Int32}
variable {cr cv sz : Nat → Nat} {rp vp : Nat → Nat → Nat}
/-- reports, events and variables as numbers -/
def xlk (nr : Nat → Int32) (nq : Nat → Nat → Int32) (nv : Nat → Int32) (nw : Nat → Nat → Int32) (vs : Nat → Int32) (cr : Nat → Nat) (rp : Nat → Nat → Nat) (cv : Nat → Nat) (vp : Nat → Nat → Nat) (sz : Nat → Nat) : Prop :=
  (∀ e, 1 ≤ e → e ≤ 5 → nr e = nI (cr e) ∧ cr e ≤ 2 ∧ ∀ i, i < cr e → nq e i = nI (rp e i) ∧ 1 ≤ rp e i ∧ rp e i ≤ 4) ∧ (∀ r, 1 ≤ r → r ≤ 4 → nv r = nI (cv r) ∧ cv r ≤ 3 ∧ ∀ i, i < cv r → nw r i = nI (vp r i) ∧ vp r i < 6) ∧ ∀ v, v < 6 → vs v = nI (sz v) ∧ sz v ≤ 8
def rpL (vf : Nat → Int32) (sz : Nat → Nat) (vb : Nat → Nat → Int32) (cv : Nat → Nat) (vp : Nat → Nat → Nat) (r : Nat) : List Int32 := [1, 2, 165, 1, nI r, 1, nI (cv r)] ++ xcat (fun i => wvL vf sz vb (vp r i)) (cv r)
def evL (vf : Nat → Int32) (sz : Nat → Nat) (vb : Nat → Nat → Int32) (cv : Nat → Nat) (vp : Nat → Nat → Nat) (cr : Nat → Nat) (rp : Nat → Nat → Nat) (e : Nat) : List Int32 := [1, 3, 165, 1, 0, 165, 1, nI e, 1, nI (cr e)] ++ xcat (fun i => rpL vf sz vb cv vp (rp e i)) (cr e)
theorem rpL_len (h : xlk nr nq nv nw vs cr rp cv vp sz) {r : Nat} (h1 : 1 ≤ r) (h4 : r ≤ 4) : (rpL vf sz vb cv vp r).length ≤ 37 := by
  obtain ⟨-, h2, h3⟩ := h.2.1 r h1 h4
  have e := xcat_len (fun i => wvL vf sz vb (vp r i)) 10 (cv r) (fun i hi => by
    show (wvL vf sz vb (vp r i)).length ≤ 10
    rw [wvL_len]
    have := (h.2.2 _ (h3 i hi).2).2
    omega)
  rw [rpL, List.length_append]
  simp only [List.length_cons, List.length_nil]
  omega
theorem evL_len (h : xlk nr nq nv nw vs cr rp cv vp sz) {e : Nat} (h1 : 1 ≤ e) (h5 : e ≤ 5) : (evL vf sz vb cv vp cr rp e).length ≤ 84 := by
  obtain ⟨-, h2, h3⟩ := h.1 e h1 h5
  have e2 := xcat_len (fun i => rpL vf sz vb cv vp (rp e i)) 37 (cr e) (fun i hi => rpL_len h (h3 i hi).2.1 (h3 i hi).2.2)
  rw [evL, List.length_append]
  simp only [List.length_cons, List.length_nil]
  omega
theorem n14_in {Q : xm_Q} (h : xlk nr nq nv nw vs cr rp cv vp sz) (B : List Int32) (e i r : Nat) (hd : 2 ≤ d) (h1 : 1 ≤ r) (h4 : r ≤ 4) (hB : B.length < 2 ^ 25) (hK : XG l xm_any 14 d 0 0 156 [some (.ref 69), some (.int (nI e)), some (.ref 37), some (.int (nI i)), some (.int (nI r)), some (.int (nI (cv r)))] [] (cw L xs g tc tf (nI (B ++ xcat (fun i => wvL vf sz vb (vp r i)) (cv r)).length) (xbd bf (B ++ xcat (fun i => wvL vf sz vb (vp r i)) (cv r))) of oc ol on ml mx mb kc kh kr ka gl gx gb ls lq lk lg lh vf vs vb nv nw nr nq ne io sp ch wt xf xz xt xb xc) Q) : ∀ (m j : Nat), j + m = cv r → XG l xm_any 14 d 0 0 117 [some (.ref 69), some (.int (nI e)), some (.ref 37), some (.int (nI i)), some (.int (nI r)), some (.int (nI j))] [] (cw L xs g tc tf (nI (B ++ xcat (fun i => wvL vf sz vb (vp r i)) j).length) (xbd bf (B ++ xcat (fun i => wvL vf sz vb (vp r i)) j)) of oc ol on ml mx mb kc kh kr ka gl gx gb ls lq lk lg lh vf vs vb nv nw nr nq ne io sp ch wt xf xz xt xb xc) Q := by
  obtain ⟨g1, g2, g3⟩ := h.2.1 r h1 h4
  intro m
  induction m with
  | zero =>
    intro j hj
    obtain rfl : j = cv r := by omega
    iterate 4 refine x_step rfl ?_
    refine x_callvE rfl (n25 (d := 1) r (by omega) h1 h4) rfl rfl rfl ?_
    refine x_icmpN_ge (cv r) (cv r) rfl rfl g1 (fun _ => ?_) (fun q => False.elim (by omega))
    exact hK
  | succ m ih =>
    intro j hj
    obtain ⟨g4, g5⟩ := g3 j (by omega)
    obtain ⟨g6, g7⟩ := h.2.2 _ g5
    iterate 4 refine x_step rfl ?_
    refine x_callvE rfl (n25 (d := 1) r (by omega) h1 h4) rfl rfl rfl ?_
    refine x_icmpN_ge (j) (cv r) rfl rfl g1 (fun q => False.elim (by omega)) (fun _ => ?_)
    iterate 7 refine x_step rfl ?_
    refine x_callvE rfl (n27 (d := 1) r j (cv r) (by omega) h1 h4 (by omega) g2 g1) rfl rfl rfl ?_
    refine xm_ss (st' := [.int (nI (vp r j)), .ref 37, .ref 70]) (by rw [g4] <;> rfl) ?_
    refine x_callvE rfl (n28 (d := 1) (B ++ xcat (fun i => wvL vf sz vb (vp r i)) j) (vp r j) (sz := sz) (by omega) g5 g7 g6 (by have := xcat_len (fun i => wvL vf sz vb (vp r i)) 10 j (fun i hi => by show (wvL vf sz vb (vp r i)).length ≤ 10; rw [wvL_len]; have := (h.2.2 _ (g3 i (by omega)).2).2; omega); rw [List.length_append]; omega)) rfl rfl rfl ?_
    iterate 2 refine x_step rfl ?_
    refine xm_ls (pl' := [some (.ref 69), some (.int (nI e)), some (.ref 37), some (.int (nI i)), some (.int (nI r)), some (.int (nI (j + 1)))]) (by rw [nI_succ] <;> rfl) ?_
    refine xm_hs (hp' := (cw L xs g tc tf (nI (B ++ xcat (fun i => wvL vf sz vb (vp r i)) (j + 1)).length) (xbd bf (B ++ xcat (fun i => wvL vf sz vb (vp r i)) (j + 1))) of oc ol on ml mx mb kc kh kr ka gl gx gb ls lq lk lg lh vf vs vb nv nw nr nq ne io sp ch wt xf xz xt xb xc)) (by rw [List.append_assoc] <;> rfl) ?_
    exact ih (j + 1) (by omega)
theorem n14_loop {Q : xm_Q} (h : xlk nr nq nv nw vs cr rp cv vp sz) (B : List Int32) (e : Nat) (hd : 2 ≤ d) (h1 : 1 ≤ e) (h5 : e ≤ 5) (hB : B.length < 2 ^ 20) (hK : ∀ o4 o5 : Option Value, XG l xm_any 14 d 0 0 162 [some (.ref 69), some (.int (nI e)), some (.ref 37), some (.int (nI (cr e))), o4, o5] [] (cw L xs g tc tf (nI (B ++ xcat (fun i => rpL vf sz vb cv vp (rp e i)) (cr e)).length) (xbd bf (B ++ xcat (fun i => rpL vf sz vb cv vp (rp e i)) (cr e))) of oc ol on ml mx mb kc kh kr ka gl gx gb ls lq lk lg lh vf vs vb nv nw nr nq ne io sp ch wt xf xz xt xb xc) Q) : ∀ (m i : Nat) (o4 o5 : Option Value), i + m = cr e → XG l xm_any 14 d 0 0 67 [some (.ref 69), some (.int (nI e)), some (.ref 37), some (.int (nI i)), o4, o5] [] (cw L xs g tc tf (nI (B ++ xcat (fun i => rpL vf sz vb cv vp (rp e i)) i).length) (xbd bf (B ++ xcat (fun i => rpL vf sz vb cv vp (rp e i)) i)) of oc ol on ml mx mb kc kh kr ka gl gx gb ls lq lk lg lh vf vs vb nv nw nr nq ne io sp ch wt xf xz xt xb xc) Q := by
  obtain ⟨g1, g2, g3⟩ := h.1 e h1 h5
  intro m
  induction m with
  | zero =>
    intro i o4 o5 hi
    obtain rfl : i = cr e := by omega
    iterate 4 refine x_step rfl ?_
    refine x_callvE rfl (n23 (d := 1) e (by omega) h1 h5) rfl rfl rfl ?_
    refine x_icmpN_ge (cr e) (cr e) rfl rfl g1 (fun _ => ?_) (fun q => False.elim (by omega))
    exact hK _ _
  | succ m ih =>
    intro i o4 o5 hi
    obtain ⟨g4, g5, g6⟩ := g3 i (by omega)
    obtain ⟨g7, g8, g9⟩ := h.2.1 _ g5 g6
    have hlen : (B ++ xcat (fun i => rpL vf sz vb cv vp (rp e i)) i).length < 2 ^ 21 := by
      have := xcat_len (fun i => rpL vf sz vb cv vp (rp e i)) 37 i (fun k hk => rpL_len h (g3 k (by omega)).2.1 (g3 k (by omega)).2.2)
      rw [List.length_append]
      omega
    iterate 4 refine x_step rfl ?_
    refine x_callvE rfl (n23 (d := 1) e (by omega) h1 h5) rfl rfl rfl ?_
    refine x_icmpN_ge (i) (cr e) rfl rfl g1 (fun q => False.elim (by omega)) (fun _ => ?_)
    iterate 4 refine x_step rfl ?_
    refine x_callvE rfl (n24 (d := 1) e i (cr e) (by omega) h1 h5 (by omega) g2 g1) rfl rfl rfl ?_
    refine x_step rfl ?_
    refine xm_ls (pl' := [some (.ref 69), some (.int (nI e)), some (.ref 37), some (.int (nI i)), some (.int (nI (rp e i))), o5]) (by rw [g4] <;> rfl) ?_
    iterate 2 refine x_step rfl ?_
    refine x_callvE rfl (n20 (d := 1) (B ++ xcat (fun i => rpL vf sz vb cv vp (rp e i)) i) 2 (by omega) (by omega)) rfl rfl rfl ?_
    iterate 2 refine x_step rfl ?_
    refine x_callvE rfl (n22 (d := 1) ((B ++ xcat (fun i => rpL vf sz vb cv vp (rp e i)) i) ++ [1, 2]) (nI (rp e i)) (by omega) (by rw [List.length_append]; simp only [List.length_cons, List.length_nil]; omega)) rfl rfl rfl ?_
    iterate 4 refine x_step rfl ?_
    refine x_callvE rfl (n25 (d := 1) (rp e i) (by omega) g5 g6) rfl rfl rfl ?_
    refine x_callvE rfl (n20 (d := 1) ((B ++ xcat (fun i => rpL vf sz vb cv vp (rp e i)) i) ++ [1, 2] ++ [165, 1, nI (rp e i)]) (nv (rp e i)) (by omega) (by rw [List.length_append, List.length_append]; simp only [List.length_cons, List.length_nil]; omega)) rfl rfl rfl ?_
    iterate 2 refine x_step rfl ?_
    refine xm_ls (pl' := [some (.ref 69), some (.int (nI e)), some (.ref 37), some (.int (nI i)), some (.int (nI (rp e i))), some (.int (nI 0))]) rfl ?_
    refine xm_hs (hp' := (cw L xs g tc tf (nI ((B ++ xcat (fun i => rpL vf sz vb cv vp (rp e i)) i) ++ [1, 2, 165, 1, nI (rp e i), 1, nI (cv (rp e i))] ++ xcat (fun k => wvL vf sz vb (vp (rp e i) k)) 0).length) (xbd bf ((B ++ xcat (fun i => rpL vf sz vb cv vp (rp e i)) i) ++ [1, 2, 165, 1, nI (rp e i), 1, nI (cv (rp e i))] ++ xcat (fun k => wvL vf sz vb (vp (rp e i) k)) 0)) of oc ol on ml mx mb kc kh kr ka gl gx gb ls lq lk lg lh vf vs vb nv nw nr nq ne io sp ch wt xf xz xt xb xc)) (by rw [g7, xcat_nil, List.append_assoc, List.append_assoc] <;> rfl) ?_
    refine n14_in h ((B ++ xcat (fun i => rpL vf sz vb cv vp (rp e i)) i) ++ [1, 2, 165, 1, nI (rp e i), 1, nI (cv (rp e i))]) e i (rp e i) hd g5 g6 (by rw [List.length_append]; simp only [List.length_cons, List.length_nil]; omega) ?_ (cv (rp e i)) 0 (by omega)
    iterate 2 refine x_step rfl ?_
    refine xm_ls (pl' := [some (.ref 69), some (.int (nI e)), some (.ref 37), some (.int (nI (i + 1))), some (.int (nI (rp e i))), some (.int (nI (cv (rp e i))))]) (by rw [nI_succ] <;> rfl) ?_
    refine xm_hs (hp' := (cw L xs g tc tf (nI (B ++ xcat (fun i => rpL vf sz vb cv vp (rp e i)) (i + 1)).length) (xbd bf (B ++ xcat (fun i => rpL vf sz vb cv vp (rp e i)) (i + 1))) of oc ol on ml mx mb kc kh kr ka gl gx gb ls lq lk lg lh vf vs vb nv nw nr nq ne io sp ch wt xf xz xt xb xc)) (by rw [List.append_assoc, List.append_assoc] <;> rfl) ?_
    exact ih (i + 1) _ _ (by omega)
/-- Machine.happen -/
theorem n14 (h : xlk nr nq nv nw vs cr rp cv vp sz) (e : Nat) (hd : 3 ≤ d) (h1 : 1 ≤ e) (h5 : e ≤ 5) (hg : xgo ne nr sp (vb 0 0) (nI e)) (hi : ¬ 8 ≤ oc → vp_in (of + oc - (of + oc) / 8 * 8) 8) : XM l 14 d 0 0 [.ref 69, .int (nI e)] (cw L xs g tc tf bl bf of oc ol on ml mx mb kc kh kr ka gl gx gb ls lq lk lg lh vf vs vb nv nw nr nq ne io sp ch wt xf xz xt xb xc) (xm_is (some (.int 1)) (cw L xs g tc tf (nI (evL vf sz vb cv vp cr rp e).length) (xbd bf (evL vf sz vb cv vp cr rp e)) of (xoc oc) (xol oc ol) (on + 1 &&& 65535) (xml of oc ml (nI (evL vf sz vb cv vp cr rp e).length)) (xmx of oc mx) (xmb of oc mb (xbd bf (evL vf sz vb cv vp cr rp e)) (nI (evL vf sz vb cv vp cr rp e).length) (134) (11) (on + 1 &&& 65535)) kc kh kr ka gl gx gb ls lq lk lg lh vf vs vb nv nw nr nq ne io sp ch wt xf xz xt xb xc)) := by
  refine XE (pl := [some (.ref 69), some (.int (nI e)), none, none, none, none]) xg14 rfl ?_
  iterate 3 refine x_step rfl ?_
  refine x_callvE rfl ((r15 (d := 1) (nI e) (by omega)).xm) rfl rfl rfl ?_
  refine x_if_eq rfl (fun q => absurd q hg.1) (fun _ => ?_)
  iterate 2 refine x_step rfl ?_
  refine x_if_eq rfl (fun q => absurd q hg.2.1) (fun _ => ?_)
  iterate 2 refine x_step rfl ?_
  refine x_callvE rfl ((r17 (d := 0)).xm) rfl rfl rfl ?_
  refine x_if_ne rfl (fun _ => ?_) (fun q => absurd q hg.2.2)
  iterate 2 refine x_step rfl ?_
  refine x_callvE rfl (m18 (d := 1) (by omega)) rfl rfl rfl ?_
  refine xm_hs (hp' := (cw L xs g tc tf (nI ([] : List Int32).length) (xbd bf ([] : List Int32)) of oc ol on ml mx mb kc kh kr ka gl gx gb ls lq lk lg lh vf vs vb nv nw nr nq ne io sp ch wt xf xz xt xb xc)) (by rw [xbd_nil] <;> rfl) ?_
  iterate 3 refine x_step rfl ?_
  refine x_callvE rfl (n20 (d := 1) [] 3 (by omega) (by decide)) rfl rfl rfl ?_
  iterate 2 refine x_step rfl ?_
  refine x_callvE rfl (n22 (d := 1) [1, 3] 0 (by omega) (by decide)) rfl rfl rfl ?_
  iterate 2 refine x_step rfl ?_
  refine x_callvE rfl (n22 (d := 1) [1, 3, 165, 1, 0] (nI e) (by omega) (by decide)) rfl rfl rfl ?_
  iterate 4 refine x_step rfl ?_
  refine x_callvE rfl (n23 (d := 1) e (by omega) h1 h5) rfl rfl rfl ?_
  refine x_callvE rfl (n20 (d := 1) [1, 3, 165, 1, 0, 165, 1, nI e] (nr e) (by omega) (by simp only [List.length_cons, List.length_nil]; decide)) rfl rfl rfl ?_
  iterate 2 refine x_step rfl ?_
  refine xm_ls (pl' := [some (.ref 69), some (.int (nI e)), some (.ref 37), some (.int (nI 0)), none, none]) rfl ?_
  refine xm_hs (hp' := (cw L xs g tc tf (nI ([1, 3, 165, 1, 0, 165, 1, nI e, 1, nI (cr e)] ++ xcat (fun i => rpL vf sz vb cv vp (rp e i)) 0).length) (xbd bf ([1, 3, 165, 1, 0, 165, 1, nI e, 1, nI (cr e)] ++ xcat (fun i => rpL vf sz vb cv vp (rp e i)) 0)) of oc ol on ml mx mb kc kh kr ka gl gx gb ls lq lk lg lh vf vs vb nv nw nr nq ne io sp ch wt xf xz xt xb xc)) (by rw [(h.1 e h1 h5).1] <;> rfl) ?_
  refine n14_loop h [1, 3, 165, 1, 0, 165, 1, nI e, 1, nI (cr e)] e (by omega) h1 h5 (by simp only [List.length_cons, List.length_nil]; decide) (fun o4 o5 => ?_) (cr e) 0 none none (by omega)
  refine xm_hs (hp' := (cw L xs g tc tf (nI (evL vf sz vb cv vp cr rp e).length) (xbd bf (evL vf sz vb cv vp cr rp e)) of oc ol on ml mx mb kc kh kr ka gl gx gb ls lq lk lg lh vf vs vb nv nw nr nq ne io sp ch wt xf xz xt xb xc)) rfl ?_
  iterate 6 refine x_step rfl ?_
  refine x_callvE rfl (m30 (d := 0)) rfl rfl rfl ?_
  refine x_callvE rfl (n31 (d := 1) (evL vf sz vb cv vp cr rp e) 134 11 (on + 1 &&& 65535) (by omega) (by have := evL_len (vf := vf) (vb := vb) h h1 h5; omega) hi) rfl rfl rfl ?_
  refine x_step rfl ?_
  exact x_iret rfl rfl rfl ⟨rfl, rfl⟩
end EC2
