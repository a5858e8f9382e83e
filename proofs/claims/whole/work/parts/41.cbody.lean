section EC1
variable {l : Launch} {d L : Nat} {xs : Nat → Int32} {g : xm_H} {tc : Int32} {tf : (Nat → Int32)} {bl : Int32} {bf : (Nat → Int32)} {of : Int32} {oc : Int32} {ol : Int32} {on : Int32} {ml : (Nat → Int32)} {mx : (Nat → Int32)} {mb : (Nat → Nat → Int32)} {kc : Int32} {kh : (Nat → Nat)} {kr : (Nat → Nat → Int32)} {ka : (Nat → Int32)} {gl : Int32} {gx : Int32} {gb : (Nat → Int32)} {ls : Int32} {lq : Int32} {lk : Int32} {lg : Int32} {lh : Int32} {vf : (Nat → Int32)} {vs : (Nat → Int32)} {vb : (Nat → Nat → Int32)} {nv : (Nat → Int32)} {nw : (Nat → Nat → Int32)} {nr : (Nat → Int32)} {nq : (Nat → Nat → Int32)} {ne : (Nat → Int32)} {io : Int32} {sp : Int32} {ch : Int32} {wt : Int32} {xf : (Nat → Int32)} {xz : (Nat → Int32)} {xt : (Nat → Int32)} {xb : (Nat → Int32)} {xc : Int32}
/-- the body's bytes, those of the list B in front -/
def xbd (f : Nat → Int32) (B : List Int32) : Nat → Int32 := fun j => if j < B.length ∧ j < 120 then B.getD j 0 else f j
theorem xbd_nil (f : Nat → Int32) : xbd f [] = f := by
  funext j
  unfold xbd
  rw [if_neg (fun h => absurd h.1 (Nat.not_lt_zero j))]
theorem xbd_snoc (f : Nat → Int32) (B : List Int32) (x : Int32) (h : B.length < 2 ^ 30) : xput (nI B.length) (xbd f B) x = xbd f (B ++ [x]) := by
  unfold xput
  funext j
  by_cases hb : B.length < 120
  · rw [if_pos (show nI B.length < 120 from nI_lt (b := 120) hb (by decide)), nI_clamp (by omega)]
    by_cases hj : j = B.length
    · subst hj
      rw [pk_us]
      unfold xbd
      rw [if_pos ⟨by simp, hb⟩]
      simp
    · rw [pk_un hj]
      unfold xbd
      by_cases h1 : j < B.length ∧ j < 120
      · rw [if_pos h1, if_pos ⟨by simp; omega, h1.2⟩, List.getD_eq_getElem?_getD, List.getD_eq_getElem?_getD, List.getElem?_append_left h1.1]
      · rw [if_neg h1, if_neg (fun q => h1 ⟨by have := q.1; simp at this; omega, q.2⟩)]
  · rw [if_neg (show ¬ nI B.length < 120 from nI_nlt (a := B.length) (b := 120) (by omega) (by omega))]
    unfold xbd
    by_cases h1 : j < B.length ∧ j < 120
    · rw [if_pos h1, if_pos ⟨by simp; omega, h1.2⟩, List.getD_eq_getElem?_getD, List.getD_eq_getElem?_getD, List.getElem?_append_left h1.1]
    · rw [if_neg h1, if_neg (fun q => h1 ⟨by omega, q.2⟩)]
def xcat (f : Nat → List Int32) : Nat → List Int32
  | 0 => []
  | n + 1 => xcat f n ++ f n
theorem xcat_nil (B : List Int32) (f : Nat → List Int32) : B ++ xcat f 0 = B := List.append_nil B
theorem xcat_len (f : Nat → List Int32) (c : Nat) : ∀ n, (∀ i, i < n → (f i).length ≤ c) → (xcat f n).length ≤ n * c := by
  intro n
  induction n with
  | zero => intro _; simp [xcat]
  | succ n ih =>
    intro h
    have h1 := ih (fun i hi => h i (by omega))
    have h2 := h n (by omega)
    rw [xcat, List.length_append, Nat.succ_mul]
    omega
theorem xcat_one (g : Nat → Int32) (n : Nat) : (xcat (fun k => [g k]) n).length = n := by
  induction n with
  | zero => rfl
  | succ n ih => rw [xcat, List.length_append, ih]; rfl
theorem xcat_congr {f g : Nat → List Int32} : ∀ n, (∀ i, i < n → f i = g i) → xcat f n = xcat g n := by
  intro n
  induction n with
  | zero => intro _; rfl
  | succ n ih => intro h; rw [xcat, xcat, ih (fun i hi => h i (by omega)), h n (by omega)]
theorem xvr_ne {v : Nat} (h : v < 6) : ¬ xvr (nI v) = 0 := by
  unfold xvr
  rw [if_neg (nI_pos (by omega)), if_neg (show ¬ 6 ≤ nI v from nI_ge (a := v) (b := 6) h (by decide))]
  decide
theorem xev_ne {v : Nat} (h1 : 1 ≤ v) (h : v ≤ 5) : ¬ xev (nI v) = 0 := by
  unfold xev
  rw [if_neg (show ¬ nI v < 1 from nI_nlt (b := 1) h1 (by omega)), if_neg (show ¬ 5 < nI v from nI_nlt (a := 5) h (by decide))]
  decide
theorem xrp_ne {v : Nat} (h1 : 1 ≤ v) (h : v ≤ 4) : ¬ xrp (nI v) = 0 := by
  unfold xrp
  rw [if_neg (show ¬ nI v < 1 from nI_nlt (b := 1) h1 (by omega)), if_neg (show ¬ 4 < nI v from nI_nlt (a := 4) h (by decide))]
  decide
theorem cw_nw {j : Nat} (hj : j < 5) : ((cw L xs g tc tf bl bf of oc ol on ml mx mb kc kh kr ka gl gx gb ls lq lk lg lh vf vs vb nv nw nr nq ne io sp ch wt xf xz xt xb xc))[83 + j]? = some (xI 0 3 (nw j)) := by
  match j, hj with
  | 0, _ => rfl
  | 1, _ => rfl
  | 2, _ => rfl
  | 3, _ => rfl
  | 4, _ => rfl
  | j + 5, h => exact absurd h (by omega)
theorem cw_nq {j : Nat} (hj : j < 6) : ((cw L xs g tc tf bl bf of oc ol on ml mx mb kc kh kr ka gl gx gb ls lq lk lg lh vf vs vb nv nw nr nq ne io sp ch wt xf xz xt xb xc))[90 + j]? = some (xI 0 2 (nq j)) := by
  match j, hj with
  | 0, _ => rfl
  | 1, _ => rfl
  | 2, _ => rfl
  | 3, _ => rfl
  | 4, _ => rfl
  | 5, _ => rfl
  | j + 6, h => exact absurd h (by omega)
/-- Body.put -/
theorem n21 (B : List Int32) (x : Int32) (hB : B.length < 2 ^ 30) : XM l 21 d 0 0 [.ref 37, .int x] (cw L xs g tc tf (nI (B).length) (xbd bf (B)) of oc ol on ml mx mb kc kh kr ka gl gx gb ls lq lk lg lh vf vs vb nv nw nr nq ne io sp ch wt xf xz xt xb xc) (xm_is none (cw L xs g tc tf (nI (B ++ [x]).length) (xbd bf (B ++ [x])) of oc ol on ml mx mb kc kh kr ka gl gx gb ls lq lk lg lh vf vs vb nv nw nr nq ne io sp ch wt xf xz xt xb xc)) := by
  refine XE (pl := [some (.ref 37), some (.int x)]) xg21 rfl ?_
  refine xm_hs (hp' := (cw L xs g tc tf (nI B.length) (xbd bf B) of oc ol on ml mx mb kc kh kr ka gl gx gb ls lq lk lg lh vf vs vb nv nw nr nq ne io sp ch wt xf xz xt xb xc)) rfl ?_
  iterate 3 refine x_step rfl ?_
  refine x_icmp_ge rfl (fun h => ?_) (fun h => ?_)
  · iterate 6 refine x_step rfl ?_
    exact x_ret rfl rfl ⟨rfl, by rw [← xbd_snoc _ _ _ hB, xput, if_neg (Int32.not_lt.mpr h), List.length_append, List.length_singleton, nI_succ]; rfl⟩
  · iterate 5 refine x_step rfl ?_
    refine x_iast rfl rfl (by decide) rfl (xm_in (nI_pos' (by omega)) (Int32.not_le.mp h) rfl) ?_
    iterate 6 refine x_step rfl ?_
    exact x_ret rfl rfl ⟨rfl, by rw [← xbd_snoc _ _ _ hB, xput, if_pos (Int32.not_le.mp h), List.length_append, List.length_singleton, nI_succ]; rfl⟩
/-- Body.putList -/
theorem n20 (B : List Int32) (x : Int32) (hd : 1 ≤ d) (hB : B.length < 2 ^ 29) : XM l 20 d 0 0 [.ref 37, .int x] (cw L xs g tc tf (nI (B).length) (xbd bf (B)) of oc ol on ml mx mb kc kh kr ka gl gx gb ls lq lk lg lh vf vs vb nv nw nr nq ne io sp ch wt xf xz xt xb xc) (xm_is none (cw L xs g tc tf (nI (B ++ [1, x]).length) (xbd bf (B ++ [1, x])) of oc ol on ml mx mb kc kh kr ka gl gx gb ls lq lk lg lh vf vs vb nv nw nr nq ne io sp ch wt xf xz xt xb xc)) := by
  refine XE (pl := [some (.ref 37), some (.int x)]) xg20 rfl ?_
  iterate 2 refine x_step rfl ?_
  refine x_callvE rfl (n21 (d := 0) B 1 (by omega)) rfl rfl rfl ?_
  iterate 2 refine x_step rfl ?_
  refine x_callvE rfl (n21 (d := 0) (B ++ [1]) x (by (try simp only [List.length_append, List.length_cons, List.length_nil]); omega)) rfl rfl rfl ?_
  exact x_ret rfl rfl ⟨rfl, by rw [List.append_assoc]; rfl⟩
/-- Body.putNumber -/
theorem n22 (B : List Int32) (x : Int32) (hd : 1 ≤ d) (hB : B.length < 2 ^ 29) : XM l 22 d 0 0 [.ref 37, .int x] (cw L xs g tc tf (nI (B).length) (xbd bf (B)) of oc ol on ml mx mb kc kh kr ka gl gx gb ls lq lk lg lh vf vs vb nv nw nr nq ne io sp ch wt xf xz xt xb xc) (xm_is none (cw L xs g tc tf (nI (B ++ [165, 1, x]).length) (xbd bf (B ++ [165, 1, x])) of oc ol on ml mx mb kc kh kr ka gl gx gb ls lq lk lg lh vf vs vb nv nw nr nq ne io sp ch wt xf xz xt xb xc)) := by
  refine XE (pl := [some (.ref 37), some (.int x)]) xg22 rfl ?_
  iterate 2 refine x_step rfl ?_
  refine x_callvE rfl (n21 (d := 0) B 165 (by omega)) rfl rfl rfl ?_
  iterate 2 refine x_step rfl ?_
  refine x_callvE rfl (n21 (d := 0) (B ++ [165]) 1 (by (try simp only [List.length_append, List.length_cons, List.length_nil]); omega)) rfl rfl rfl ?_
  iterate 2 refine x_step rfl ?_
  refine x_callvE rfl (n21 (d := 0) (B ++ [165] ++ [1]) x (by (try simp only [List.length_append, List.length_cons, List.length_nil]); omega)) rfl rfl rfl ?_
  exact x_ret rfl rfl ⟨rfl, by rw [List.append_assoc, List.append_assoc]; rfl⟩
/-- Body.putBinary -/
theorem n115 (B : List Int32) (x : Int32) (hd : 1 ≤ d) (hB : B.length < 2 ^ 29) : XM l 115 d 0 0 [.ref 37, .int x] (cw L xs g tc tf (nI (B).length) (xbd bf (B)) of oc ol on ml mx mb kc kh kr ka gl gx gb ls lq lk lg lh vf vs vb nv nw nr nq ne io sp ch wt xf xz xt xb xc) (xm_is none (cw L xs g tc tf (nI (B ++ [33, 1, x]).length) (xbd bf (B ++ [33, 1, x])) of oc ol on ml mx mb kc kh kr ka gl gx gb ls lq lk lg lh vf vs vb nv nw nr nq ne io sp ch wt xf xz xt xb xc)) := by
  refine XE (pl := [some (.ref 37), some (.int x)]) xg115 rfl ?_
  iterate 2 refine x_step rfl ?_
  refine x_callvE rfl (n21 (d := 0) B 33 (by omega)) rfl rfl rfl ?_
  iterate 2 refine x_step rfl ?_
  refine x_callvE rfl (n21 (d := 0) (B ++ [33]) 1 (by (try simp only [List.length_append, List.length_cons, List.length_nil]); omega)) rfl rfl rfl ?_
  iterate 2 refine x_step rfl ?_
  refine x_callvE rfl (n21 (d := 0) (B ++ [33] ++ [1]) x (by (try simp only [List.length_append, List.length_cons, List.length_nil]); omega)) rfl rfl rfl ?_
  exact x_ret rfl rfl ⟨rfl, by rw [List.append_assoc, List.append_assoc]; rfl⟩
/-- what a variable is written as -/
def wvL (vf : Nat → Int32) (sz : Nat → Nat) (vb : Nat → Nat → Int32) (v : Nat) : List Int32 := [4 * vf v + 1, nI (sz v)] ++ xcat (fun k => [vb v k]) (sz v)
theorem wvL_len (vf : Nat → Int32) (sz : Nat → Nat) (vb : Nat → Nat → Int32) (v : Nat) : (wvL vf sz vb v).length = 2 + sz v := by
  rw [wvL, List.length_append, xcat_one]
  rfl
theorem n28_loop (B : List Int32) (v n : Nat) (hd : 1 ≤ d) (hv : v < 6) (hn : n ≤ 8) (hs : vs v = nI n) (hB : B.length < 2 ^ 28) : ∀ (r i : Nat), i + r = n → XW l 28 d 0 0 34 [some (.ref 70), some (.ref 37), some (.int (nI v)), some (.int (nI i))] [] (cw L xs g tc tf (nI (B ++ xcat (fun k => [vb v k]) i).length) (xbd bf (B ++ xcat (fun k => [vb v k]) i)) of oc ol on ml mx mb kc kh kr ka gl gx gb ls lq lk lg lh vf vs vb nv nw nr nq ne io sp ch wt xf xz xt xb xc) (xm_is none (cw L xs g tc tf (nI (B ++ xcat (fun k => [vb v k]) n).length) (xbd bf (B ++ xcat (fun k => [vb v k]) n)) of oc ol on ml mx mb kc kh kr ka gl gx gb ls lq lk lg lh vf vs vb nv nw nr nq ne io sp ch wt xf xz xt xb xc)) := by
  intro r
  induction r with
  | zero =>
    intro i hi
    obtain rfl : i = n := by omega
    iterate 4 refine x_step rfl ?_
    refine x_ialdN (v) rfl rfl rfl (by omega) ?_
    refine x_icmpN_ge (i) (i) rfl rfl hs (fun _ => ?_) (fun q => False.elim (by omega))
    exact x_ret rfl rfl ⟨rfl, rfl⟩
  | succ r ih =>
    intro i hi
    iterate 4 refine x_step rfl ?_
    refine x_ialdN (v) rfl rfl rfl (by omega) ?_
    refine x_icmpN_ge (i) (n) rfl rfl hs (fun q => False.elim (by omega)) (fun _ => ?_)
    iterate 2 refine x_step rfl ?_
    refine x_icmpN_ge (i) (8) rfl rfl rfl (fun q => False.elim (by omega)) (fun _ => ?_)
    iterate 4 refine x_step rfl ?_
    refine x_aaldN (v) rfl rfl rfl (by omega) rfl ?_
    refine x_step rfl ?_
    refine x_ialdN (i) rfl (cw_vb hv) rfl (by omega) ?_
    refine x_callvE rfl (n21 (d := 0) (B ++ xcat (fun k => [vb v k]) i) (vb v i) (by rw [List.length_append, xcat_one]; omega)) rfl rfl rfl ?_
    iterate 2 refine x_step rfl ?_
    refine xm_ls (pl' := [some (.ref 70), some (.ref 37), some (.int (nI v)), some (.int (nI (i + 1)))]) (by rw [nI_succ] <;> rfl) ?_
    refine xm_hs (hp' := (cw L xs g tc tf (nI (B ++ xcat (fun k => [vb v k]) (i + 1)).length) (xbd bf (B ++ xcat (fun k => [vb v k]) (i + 1))) of oc ol on ml mx mb kc kh kr ka gl gx gb ls lq lk lg lh vf vs vb nv nw nr nq ne io sp ch wt xf xz xt xb xc)) (by rw [List.append_assoc] <;> rfl) ?_
    exact ih (i + 1) (by omega)
/-- Variables.writeTo -/
theorem n28 (B : List Int32) (v : Nat) {sz : Nat → Nat} (hd : 1 ≤ d) (hv : v < 6) (hn : sz v ≤ 8) (hs : vs v = nI (sz v)) (hB : B.length < 2 ^ 27) : XM l 28 d 0 0 [.ref 70, .ref 37, .int (nI v)] (cw L xs g tc tf (nI (B).length) (xbd bf (B)) of oc ol on ml mx mb kc kh kr ka gl gx gb ls lq lk lg lh vf vs vb nv nw nr nq ne io sp ch wt xf xz xt xb xc) (xm_is none (cw L xs g tc tf (nI (B ++ wvL vf sz vb v).length) (xbd bf (B ++ wvL vf sz vb v)) of oc ol on ml mx mb kc kh kr ka gl gx gb ls lq lk lg lh vf vs vb nv nw nr nq ne io sp ch wt xf xz xt xb xc)) := by
  refine XE (pl := [some (.ref 70), some (.ref 37), some (.int (nI v)), none]) xg28 rfl ?_
  refine x_step rfl ?_
  refine x_callsE rfl ((r29 (d := 0) (nI v)).xm) rfl rfl ?_
  refine x_if_ne rfl (fun _ => ?_) (fun q => absurd q (xvr_ne hv))
  iterate 5 refine x_step rfl ?_
  refine x_ialdN (v) rfl rfl rfl (by omega) ?_
  iterate 3 refine x_step rfl ?_
  refine x_callvE rfl (n21 (d := 0) B (4 * vf v + 1) (by omega)) rfl rfl rfl ?_
  iterate 4 refine x_step rfl ?_
  refine x_ialdN (v) rfl rfl rfl (by omega) ?_
  refine x_callvE rfl (n21 (d := 0) (B ++ [4 * vf v + 1]) (vs v) (by (try simp only [List.length_append, List.length_cons, List.length_nil]); omega)) rfl rfl rfl ?_
  iterate 2 refine x_step rfl ?_
  refine xm_ls (pl' := [some (.ref 70), some (.ref 37), some (.int (nI v)), some (.int (nI 0))]) rfl ?_
  refine xm_hs (hp' := (cw L xs g tc tf (nI ((B ++ [4 * vf v + 1, nI (sz v)]) ++ xcat (fun k => [vb v k]) 0).length) (xbd bf ((B ++ [4 * vf v + 1, nI (sz v)]) ++ xcat (fun k => [vb v k]) 0)) of oc ol on ml mx mb kc kh kr ka gl gx gb ls lq lk lg lh vf vs vb nv nw nr nq ne io sp ch wt xf xz xt xb xc)) (by rw [xcat_nil, List.append_assoc, hs] <;> rfl) ?_
  rw [show B ++ wvL vf sz vb v = (B ++ [4 * vf v + 1, nI (sz v)]) ++ xcat (fun k => [vb v k]) (sz v) from by rw [wvL, List.append_assoc]]
  exact n28_loop (B ++ [4 * vf v + 1, nI (sz v)]) v (sz v) hd hv hn hs (by (try simp only [List.length_append, List.length_cons, List.length_nil]); omega) (sz v) 0 (by omega)
/-- Links.reportsOf -/
theorem n23 (e : Nat) (hd : 1 ≤ d) (h1 : 1 ≤ e) (h2 : e ≤ 5) : XM l 23 d 0 0 [.ref 80, .int (nI e)] (cw L xs g tc tf bl bf of oc ol on ml mx mb kc kh kr ka gl gx gb ls lq lk lg lh vf vs vb nv nw nr nq ne io sp ch wt xf xz xt xb xc) (xm_is (some (.int (nr e))) (cw L xs g tc tf bl bf of oc ol on ml mx mb kc kh kr ka gl gx gb ls lq lk lg lh vf vs vb nv nw nr nq ne io sp ch wt xf xz xt xb xc)) := by
  refine XE (pl := [some (.ref 80), some (.int (nI e))]) xg23 rfl ?_
  refine x_step rfl ?_
  refine x_callsE rfl ((r16 (d := 0) (nI e)).xm) rfl rfl ?_
  refine x_if_eq rfl (fun q => absurd q (xev_ne h1 h2)) (fun _ => ?_)
  iterate 3 refine x_step rfl ?_
  refine x_ialdN (e) rfl rfl rfl (by omega) ?_
  refine x_step rfl ?_
  exact x_iret rfl rfl rfl ⟨rfl, rfl⟩
/-- Links.variablesOf -/
theorem n25 (r : Nat) (hd : 1 ≤ d) (h1 : 1 ≤ r) (h2 : r ≤ 4) : XM l 25 d 0 0 [.ref 80, .int (nI r)] (cw L xs g tc tf bl bf of oc ol on ml mx mb kc kh kr ka gl gx gb ls lq lk lg lh vf vs vb nv nw nr nq ne io sp ch wt xf xz xt xb xc) (xm_is (some (.int (nv r))) (cw L xs g tc tf bl bf of oc ol on ml mx mb kc kh kr ka gl gx gb ls lq lk lg lh vf vs vb nv nw nr nq ne io sp ch wt xf xz xt xb xc)) := by
  refine XE (pl := [some (.ref 80), some (.int (nI r))]) xg25 rfl ?_
  refine x_step rfl ?_
  refine x_callsE rfl ((r26 (d := 0) (nI r)).xm) rfl rfl ?_
  refine x_if_eq rfl (fun q => absurd q (xrp_ne h1 h2)) (fun _ => ?_)
  iterate 3 refine x_step rfl ?_
  refine x_ialdN (r) rfl rfl rfl (by omega) ?_
  refine x_step rfl ?_
  exact x_iret rfl rfl rfl ⟨rfl, rfl⟩
/-- Links.reportOf -/
theorem n24 (e i c : Nat) (hd : 1 ≤ d) (h1 : 1 ≤ e) (h2 : e ≤ 5) (hi : i < c) (hc : c ≤ 2) (hr : nr e = nI c) : XM l 24 d 0 0 [.ref 80, .int (nI e), .int (nI i)] (cw L xs g tc tf bl bf of oc ol on ml mx mb kc kh kr ka gl gx gb ls lq lk lg lh vf vs vb nv nw nr nq ne io sp ch wt xf xz xt xb xc) (xm_is (some (.int (nq e i))) (cw L xs g tc tf bl bf of oc ol on ml mx mb kc kh kr ka gl gx gb ls lq lk lg lh vf vs vb nv nw nr nq ne io sp ch wt xf xz xt xb xc)) := by
  refine XE (pl := [some (.ref 80), some (.int (nI e)), some (.int (nI i))]) xg24 rfl ?_
  refine x_step rfl ?_
  refine x_callsE rfl ((r16 (d := 0) (nI e)).xm) rfl rfl ?_
  refine x_if_eq rfl (fun q => absurd q (xev_ne h1 h2)) (fun _ => ?_)
  refine x_step rfl ?_
  refine x_ifN_lt (i) rfl rfl (fun q => False.elim (by omega)) (fun _ => ?_)
  iterate 4 refine x_step rfl ?_
  refine x_ialdN (e) rfl rfl rfl (by omega) ?_
  refine x_icmpN_ge (i) (c) rfl rfl hr (fun q => False.elim (by omega)) (fun _ => ?_)
  iterate 3 refine x_step rfl ?_
  refine x_aaldN (e) rfl rfl rfl (by omega) rfl ?_
  refine x_step rfl ?_
  refine x_ialdN (i) rfl (cw_nq (by omega)) rfl (by omega) ?_
  refine x_step rfl ?_
  exact x_iret rfl rfl rfl ⟨rfl, rfl⟩
/-- Links.variableOf -/
theorem n27 (e i c : Nat) (hd : 1 ≤ d) (h1 : 1 ≤ e) (h2 : e ≤ 4) (hi : i < c) (hc : c ≤ 3) (hr : nv e = nI c) : XM l 27 d 0 0 [.ref 80, .int (nI e), .int (nI i)] (cw L xs g tc tf bl bf of oc ol on ml mx mb kc kh kr ka gl gx gb ls lq lk lg lh vf vs vb nv nw nr nq ne io sp ch wt xf xz xt xb xc) (xm_is (some (.int (nw e i))) (cw L xs g tc tf bl bf of oc ol on ml mx mb kc kh kr ka gl gx gb ls lq lk lg lh vf vs vb nv nw nr nq ne io sp ch wt xf xz xt xb xc)) := by
  refine XE (pl := [some (.ref 80), some (.int (nI e)), some (.int (nI i))]) xg27 rfl ?_
  refine x_step rfl ?_
  refine x_callsE rfl ((r26 (d := 0) (nI e)).xm) rfl rfl ?_
  refine x_if_eq rfl (fun q => absurd q (xrp_ne h1 h2)) (fun _ => ?_)
  refine x_step rfl ?_
  refine x_ifN_lt (i) rfl rfl (fun q => False.elim (by omega)) (fun _ => ?_)
  iterate 4 refine x_step rfl ?_
  refine x_ialdN (e) rfl rfl rfl (by omega) ?_
  refine x_icmpN_ge (i) (c) rfl rfl hr (fun q => False.elim (by omega)) (fun _ => ?_)
  iterate 3 refine x_step rfl ?_
  refine x_aaldN (e) rfl rfl rfl (by omega) rfl ?_
  refine x_step rfl ?_
  refine x_ialdN (i) rfl (cw_nw (by omega)) rfl (by omega) ?_
  refine x_step rfl ?_
  exact x_iret rfl rfl rfl ⟨rfl, rfl⟩
/-- what a send does, whether there is room or not -/
def xoc (oc : Int32) : Int32 := if 8 ≤ oc then oc else oc + 1
def xol (oc ol : Int32) : Int32 := if 8 ≤ oc then ol + 1 else ol
def xml (of oc : Int32) (ml : Nat → Int32) (n : Int32) : Nat → Int32 := if 8 ≤ oc then ml else upd ml (xslot of oc) (10 + n)
def xmx (of oc : Int32) (mx : Nat → Int32) : Nat → Int32 := if 8 ≤ oc then mx else upd mx (xslot of oc) 0
def xmb (of oc : Int32) (mb : Nat → Nat → Int32) (bf : Nat → Int32) (n sb fn sy : Int32) : Nat → Nat → Int32 := if 8 ≤ oc then mb else updf mb (xslot of oc) (xcopy bf n (xhead (mb (xslot of oc)) sb fn sy))
/-- Outbox.send of a body that fits -/
theorem n31 (B : List Int32) (sb fn sy : Int32) (hd : 1 ≤ d) (hB : B.length ≤ 120) (hi : ¬ 8 ≤ oc → vp_in (of + oc - (of + oc) / 8 * 8) 8) : XM l 31 d 0 0 [.ref 35, .int sb, .int fn, .int sy] (cw L xs g tc tf (nI (B).length) (xbd bf (B)) of oc ol on ml mx mb kc kh kr ka gl gx gb ls lq lk lg lh vf vs vb nv nw nr nq ne io sp ch wt xf xz xt xb xc) (xm_is none (cw L xs g tc tf (nI (B).length) (xbd bf (B)) of (xoc oc) (xol oc ol) on (xml of oc ml (nI (B).length)) (xmx of oc mx) (xmb of oc mb (xbd bf (B)) (nI (B).length) (sb) (fn) (sy)) kc kh kr ka gl gx gb ls lq lk lg lh vf vs vb nv nw nr nq ne io sp ch wt xf xz xt xb xc)) := by
  by_cases h8 : 8 ≤ oc
  · rw [xoc, xol, xml, xmx, xmb, if_pos h8, if_pos h8, if_pos h8, if_pos h8, if_pos h8]
    exact m31l sb fn sy hd (fun q => q.1 h8)
  · rw [xoc, xol, xml, xmx, xmb, if_neg h8, if_neg h8, if_neg h8, if_neg h8, if_neg h8]
    exact m31s sb fn sy hd ⟨h8, nI_nlt (a := 120) hB (by decide)⟩ (hi h8)
/-- what settle does -/
def xsT (ls oc tc : Int32) : Int32 := if ls = 0 ∧ ¬ oc ≤ 0 then tc + 1 else tc
def xsF (ls oc : Int32) (tf : Nat → Int32) (tc : Int32) : Nat → Int32 := if ls = 0 ∧ ¬ oc ≤ 0 then xsay tf tc 5 else tf
def xsL (ls oc : Int32) : Int32 := if ls = 0 ∧ ¬ oc ≤ 0 then 2 else ls
def xsQ (ls oc lq : Int32) : Int32 := if ls = 0 ∧ ¬ oc ≤ 0 then 0 else lq
theorem n38 (hd : 2 ≤ d) (hc : vp_in (xfm tc 501) 501) : XM l 38 d 0 0 [.ref 66] (cw L xs g tc tf bl bf of oc ol on ml mx mb kc kh kr ka gl gx gb ls lq lk lg lh vf vs vb nv nw nr nq ne io sp ch wt xf xz xt xb xc) (xm_is none (cw L xs g (xsT ls oc tc) (xsF ls oc tf tc) bl bf of oc ol on ml mx mb kc kh kr ka gl gx gb (xsL ls oc) (xsQ ls oc lq) lk lg lh vf vs vb nv nw nr nq ne io sp ch wt xf xz xt xb xc)) := by
  by_cases h : ls = 0 ∧ ¬ oc ≤ 0
  · rw [xsT, xsF, xsL, xsQ, if_pos h, if_pos h, if_pos h, if_pos h]
    exact m38b hd h.1 h.2 hc
  · rw [xsT, xsF, xsL, xsQ, if_neg h, if_neg h, if_neg h, if_neg h]
    exact m38a hd h
/-- [FL, 1] -/
def xwho : List Int32 := [1, 2, 65, 2, 70, 76, 65, 1, 49]

/-- Body.putText -/
theorem n110a (B : List Int32) (hd : 4 ≤ d) (hB : B.length < 2 ^ 28) : XM l 110 d 0 0 [.ref 37, .ref 2] (cw L xs g tc tf (nI (B).length) (xbd bf (B)) of oc ol on ml mx mb kc kh kr ka gl gx gb ls lq lk lg lh vf vs vb nv nw nr nq ne io sp ch wt xf xz xt xb xc) (xm_is none (cw L xs g tc tf (nI (B ++ [65, 2, 70, 76]).length) (xbd bf (B ++ [65, 2, 70, 76])) of oc ol on ml mx mb kc kh kr ka gl gx gb ls lq lk lg lh vf vs vb nv nw nr nq ne io sp ch wt xf xz xt xb xc)) := by
  refine XE (pl := [some (.ref 37), some (.ref 2), none]) xg110 rfl ?_
  iterate 2 refine x_step rfl ?_
  refine x_callvE rfl (n21 (d := 0) (B) 65 (by (try simp only [List.length_append, List.length_cons, List.length_nil]); omega)) rfl rfl rfl ?_
  iterate 2 refine x_step rfl ?_
  refine x_strlen (n := 1) rfl rfl rfl ?_
  refine x_callvE rfl (n21 (d := 0) (B ++ [65]) 2 (by (try simp only [List.length_append, List.length_cons, List.length_nil]); omega)) rfl rfl rfl ?_
  iterate 2 refine x_step rfl ?_
  refine xm_ls (pl' := [some (.ref 37), some (.ref 2), some (.int 0)]) rfl ?_
  iterate 2 refine x_step rfl ?_
  refine x_strlen (n := 1) rfl rfl rfl ?_
  refine x_icmp_ge rfl (fun q => absurd q (by decide)) (fun _ => ?_)
  iterate 3 refine x_step rfl ?_
  refine x_charAt (n := 1) (i := 0) (b' := 70) rfl rfl rfl (by decide) rfl rfl ?_
  refine x_callvE rfl (n21 (d := 0) (B ++ [65] ++ [2]) 70 (by (try simp only [List.length_append, List.length_cons, List.length_nil]); omega)) rfl rfl rfl ?_
  iterate 2 refine x_step rfl ?_
  refine xm_ls (pl' := [some (.ref 37), some (.ref 2), some (.int 1)]) rfl ?_
  iterate 2 refine x_step rfl ?_
  refine x_strlen (n := 1) rfl rfl rfl ?_
  refine x_icmp_ge rfl (fun q => absurd q (by decide)) (fun _ => ?_)
  iterate 3 refine x_step rfl ?_
  refine x_charAt (n := 1) (i := 1) (b' := 76) rfl rfl rfl (by decide) rfl rfl ?_
  refine x_callvE rfl (n21 (d := 0) (B ++ [65] ++ [2] ++ [70]) 76 (by (try simp only [List.length_append, List.length_cons, List.length_nil]); omega)) rfl rfl rfl ?_
  iterate 2 refine x_step rfl ?_
  refine xm_ls (pl' := [some (.ref 37), some (.ref 2), some (.int 2)]) rfl ?_
  iterate 2 refine x_step rfl ?_
  refine x_strlen (n := 1) rfl rfl rfl ?_
  refine x_icmp_ge rfl (fun _ => ?_) (fun q => absurd (by decide) q)
  exact x_ret rfl rfl ⟨rfl, by simp only [List.append_assoc] <;> rfl⟩
/-- Body.putText -/
theorem n110b (B : List Int32) (hd : 4 ≤ d) (hB : B.length < 2 ^ 28) : XM l 110 d 0 0 [.ref 37, .ref 3] (cw L xs g tc tf (nI (B).length) (xbd bf (B)) of oc ol on ml mx mb kc kh kr ka gl gx gb ls lq lk lg lh vf vs vb nv nw nr nq ne io sp ch wt xf xz xt xb xc) (xm_is none (cw L xs g tc tf (nI (B ++ [65, 1, 49]).length) (xbd bf (B ++ [65, 1, 49])) of oc ol on ml mx mb kc kh kr ka gl gx gb ls lq lk lg lh vf vs vb nv nw nr nq ne io sp ch wt xf xz xt xb xc)) := by
  refine XE (pl := [some (.ref 37), some (.ref 3), none]) xg110 rfl ?_
  iterate 2 refine x_step rfl ?_
  refine x_callvE rfl (n21 (d := 0) (B) 65 (by (try simp only [List.length_append, List.length_cons, List.length_nil]); omega)) rfl rfl rfl ?_
  iterate 2 refine x_step rfl ?_
  refine x_strlen (n := 2) rfl rfl rfl ?_
  refine x_callvE rfl (n21 (d := 0) (B ++ [65]) 1 (by (try simp only [List.length_append, List.length_cons, List.length_nil]); omega)) rfl rfl rfl ?_
  iterate 2 refine x_step rfl ?_
  refine xm_ls (pl' := [some (.ref 37), some (.ref 3), some (.int 0)]) rfl ?_
  iterate 2 refine x_step rfl ?_
  refine x_strlen (n := 2) rfl rfl rfl ?_
  refine x_icmp_ge rfl (fun q => absurd q (by decide)) (fun _ => ?_)
  iterate 3 refine x_step rfl ?_
  refine x_charAt (n := 2) (i := 0) (b' := 49) rfl rfl rfl (by decide) rfl rfl ?_
  refine x_callvE rfl (n21 (d := 0) (B ++ [65] ++ [1]) 49 (by (try simp only [List.length_append, List.length_cons, List.length_nil]); omega)) rfl rfl rfl ?_
  iterate 2 refine x_step rfl ?_
  refine xm_ls (pl' := [some (.ref 37), some (.ref 3), some (.int 1)]) rfl ?_
  iterate 2 refine x_step rfl ?_
  refine x_strlen (n := 2) rfl rfl rfl ?_
  refine x_icmp_ge rfl (fun _ => ?_) (fun q => absurd (by decide) q)
  exact x_ret rfl rfl ⟨rfl, by simp only [List.append_assoc] <;> rfl⟩
/-- Body.putName -/
theorem n109 (hd : 5 ≤ d) : XM l 109 d 0 0 [.ref 37] (cw L xs g tc tf (nI ([] : List Int32).length) (xbd bf ([] : List Int32)) of oc ol on ml mx mb kc kh kr ka gl gx gb ls lq lk lg lh vf vs vb nv nw nr nq ne io sp ch wt xf xz xt xb xc) (xm_is none (cw L xs g tc tf (nI (xwho).length) (xbd bf (xwho)) of oc ol on ml mx mb kc kh kr ka gl gx gb ls lq lk lg lh vf vs vb nv nw nr nq ne io sp ch wt xf xz xt xb xc)) := by
  refine XE (pl := [some (.ref 37)]) xg109 rfl ?_
  iterate 2 refine x_step rfl ?_
  refine x_callvE rfl (n20 (d := 1) [] 2 (by omega) (by decide)) rfl rfl rfl ?_
  refine x_step rfl ?_
  refine x_ldcS rfl ?_
  refine x_callvE rfl (n110a (d := 4) [1, 2] (by omega) (by decide)) rfl rfl rfl ?_
  refine x_step rfl ?_
  refine x_ldcS rfl ?_
  refine x_callvE rfl (n110b (d := 4) [1, 2, 65, 2, 70, 76] (by omega) (by decide)) rfl rfl rfl ?_
  exact x_ret rfl rfl ⟨rfl, rfl⟩
/-- Machine.turn -/
theorem n150 (hd : 6 ≤ d) (hi : ¬ 8 ≤ oc → vp_in (of + oc - (of + oc) / 8 * 8) 8) : XM l 150 d 0 0 [.ref 69, .int 1] (cw L xs g tc tf bl bf of oc ol on ml mx mb kc kh kr ka gl gx gb ls lq lk lg lh vf vs vb nv nw nr nq ne io sp ch wt xf xz xt xb xc) (xm_is none (cw L xs g tc tf (nI (xwho).length) (xbd bf (xwho)) of (xoc oc) (xol oc ol) (on + 1 &&& 65535) (xml of oc ml (nI (xwho).length)) (xmx of oc mx) (xmb of oc mb (xbd bf (xwho)) (nI (xwho).length) (129) (13) (on + 1 &&& 65535)) kc kh kr ka gl gx gb ls lq lk lg lh vf vs vb nv nw nr nq ne (1) (0) ch wt xf xz xt xb xc)) := by
  refine XE (pl := [some (.ref 69), some (.int 1)]) xg150 rfl ?_
  iterate 2 refine x_step rfl ?_
  refine x_putf rfl rfl (Nat.le_of_ble_eq_true rfl) (by decide) rfl rfl ?_
  iterate 2 refine x_step rfl ?_
  refine x_putf rfl rfl (Nat.le_of_ble_eq_true rfl) (by decide) rfl rfl ?_
  refine x_step rfl ?_
  refine x_if_eq rfl (fun q => absurd q (by decide)) (fun _ => ?_)
  refine xm_hs (hp' := (cw L xs g tc tf bl bf of oc ol on ml mx mb kc kh kr ka gl gx gb ls lq lk lg lh vf vs vb nv nw nr nq ne (1) (0) ch wt xf xz xt xb xc)) rfl ?_
  iterate 2 refine x_step rfl ?_
  refine x_callvE rfl (m18 (d := 1) (by omega)) rfl rfl rfl ?_
  refine xm_hs (hp' := (cw L xs g tc tf (nI ([] : List Int32).length) (xbd bf ([] : List Int32)) of oc ol on ml mx mb kc kh kr ka gl gx gb ls lq lk lg lh vf vs vb nv nw nr nq ne (1) (0) ch wt xf xz xt xb xc)) (by rw [xbd_nil] <;> rfl) ?_
  refine x_callvE rfl (n109 (d := 5) (by omega)) rfl rfl rfl ?_
  iterate 6 refine x_step rfl ?_
  refine x_callvE rfl (m30 (d := 0)) rfl rfl rfl ?_
  refine x_callvE rfl (n31 (d := 1) xwho 129 13 (on + 1 &&& 65535) (by omega) (by decide) hi) rfl rfl rfl ?_
  exact x_ret rfl rfl ⟨rfl, rfl⟩
/-- FabLink.enable -/
theorem n149 (hd : 7 ≤ d) (h : io = 0) (hi : ¬ 8 ≤ oc → vp_in (of + oc - (of + oc) / 8 * 8) 8) (hc : vp_in (xfm tc 501) 501) : XM l 149 d 1 6 [.ref 32, .int 1] (cw L xs g tc tf bl bf of oc ol on ml mx mb kc kh kr ka gl gx gb ls lq lk lg lh vf vs vb nv nw nr nq ne io sp ch wt xf xz xt xb xc) (xm_is none (cw L xs g (xsT ls (xoc oc) tc) (xsF ls (xoc oc) tf tc) (nI (xwho).length) (xbd bf (xwho)) of (xoc oc) (xol oc ol) (on + 1 &&& 65535) (xml of oc ml (nI (xwho).length)) (xmx of oc mx) (xmb of oc mb (xbd bf (xwho)) (nI (xwho).length) (129) (13) (on + 1 &&& 65535)) kc kh kr ka gl gx gb (xsL ls (xoc oc)) (xsQ ls (xoc oc) lq) lk lg lh vf vs vb nv nw nr nq ne (1) (0) ch wt xf xz xt xb xc)) := by
  refine XE (pl := [some (.ref 32), some (.int 1)]) xg149 rfl ?_
  iterate 3 refine x_step rfl ?_
  refine x_callvE rfl ((r65 (d := 0) (by rw [h]; rfl)).xm) rfl rfl rfl ?_
  refine x_icmp_ne rfl (fun _ => ?_) (fun q => absurd q (by rw [h]; decide))
  iterate 3 refine x_step rfl ?_
  refine x_callvE rfl (n150 (d := 6) (by omega) hi) rfl rfl rfl ?_
  iterate 2 refine x_step rfl ?_
  refine x_callvE rfl (n38 (d := 2) (by omega) hc) rfl rfl rfl ?_
  exact x_ret rfl rfl ⟨rfl, rfl⟩
/-- Body.putHeader -/
theorem n70a (hd : 1 ≤ d) : XM l 70 d 0 0 [.ref 37, .ref 68] (cw L xs g tc tf (nI ([] : List Int32).length) (xbd bf ([] : List Int32)) of oc ol on ml mx mb kc kh kr ka gl gx gb ls lq lk lg lh vf vs vb nv nw nr nq ne io sp ch wt xf xz xt xb xc) (xm_is none (cw L xs g tc tf (nI ([33, 10, gb 0, gb 1, gb 2, gb 3, gb 4, gb 5, gb 6, gb 7, gb 8, gb 9]).length) (xbd bf ([33, 10, gb 0, gb 1, gb 2, gb 3, gb 4, gb 5, gb 6, gb 7, gb 8, gb 9])) of oc ol on ml mx mb kc kh kr ka gl gx gb ls lq lk lg lh vf vs vb nv nw nr nq ne io sp ch wt xf xz xt xb xc)) := by
  refine XE (pl := [some (.ref 37), some (.ref 68), none]) xg70 rfl ?_
  iterate 2 refine x_step rfl ?_
  refine x_callvE rfl (n21 (d := 0) [] 33 (by decide)) rfl rfl rfl ?_
  iterate 2 refine x_step rfl ?_
  refine x_callvE rfl (n21 (d := 0) [33] 10 (by decide)) rfl rfl rfl ?_
  iterate 2 refine x_step rfl ?_
  refine xm_ls (pl' := [some (.ref 37), some (.ref 68), some (.int 0)]) rfl ?_
  iterate 2 refine x_step rfl ?_
  refine x_icmp_ge rfl (fun q => absurd q (by decide)) (fun _ => ?_)
  iterate 2 refine x_step rfl ?_
  refine x_alen rfl rfl (Or.inl ⟨_, _, rfl⟩) rfl ?_
  refine x_icmp_ge rfl (fun q => absurd q (by decide)) (fun _ => ?_)
  iterate 3 refine x_step rfl ?_
  refine x_ialdN (0) rfl rfl rfl (by omega) ?_
  refine x_callvE rfl (n21 (d := 0) ([33, 10]) (gb 0) (by simp only [List.length_cons, List.length_nil]; decide)) rfl rfl rfl ?_
  iterate 2 refine x_step rfl ?_
  refine xm_ls (pl' := [some (.ref 37), some (.ref 68), some (.int 1)]) rfl ?_
  iterate 2 refine x_step rfl ?_
  refine x_icmp_ge rfl (fun q => absurd q (by decide)) (fun _ => ?_)
  iterate 2 refine x_step rfl ?_
  refine x_alen rfl rfl (Or.inl ⟨_, _, rfl⟩) rfl ?_
  refine x_icmp_ge rfl (fun q => absurd q (by decide)) (fun _ => ?_)
  iterate 3 refine x_step rfl ?_
  refine x_ialdN (1) rfl rfl rfl (by omega) ?_
  refine x_callvE rfl (n21 (d := 0) ([33, 10, gb 0]) (gb 1) (by simp only [List.length_cons, List.length_nil]; decide)) rfl rfl rfl ?_
  iterate 2 refine x_step rfl ?_
  refine xm_ls (pl' := [some (.ref 37), some (.ref 68), some (.int 2)]) rfl ?_
  iterate 2 refine x_step rfl ?_
  refine x_icmp_ge rfl (fun q => absurd q (by decide)) (fun _ => ?_)
  iterate 2 refine x_step rfl ?_
  refine x_alen rfl rfl (Or.inl ⟨_, _, rfl⟩) rfl ?_
  refine x_icmp_ge rfl (fun q => absurd q (by decide)) (fun _ => ?_)
  iterate 3 refine x_step rfl ?_
  refine x_ialdN (2) rfl rfl rfl (by omega) ?_
  refine x_callvE rfl (n21 (d := 0) ([33, 10, gb 0, gb 1]) (gb 2) (by simp only [List.length_cons, List.length_nil]; decide)) rfl rfl rfl ?_
  iterate 2 refine x_step rfl ?_
  refine xm_ls (pl' := [some (.ref 37), some (.ref 68), some (.int 3)]) rfl ?_
  iterate 2 refine x_step rfl ?_
  refine x_icmp_ge rfl (fun q => absurd q (by decide)) (fun _ => ?_)
  iterate 2 refine x_step rfl ?_
  refine x_alen rfl rfl (Or.inl ⟨_, _, rfl⟩) rfl ?_
  refine x_icmp_ge rfl (fun q => absurd q (by decide)) (fun _ => ?_)
  iterate 3 refine x_step rfl ?_
  refine x_ialdN (3) rfl rfl rfl (by omega) ?_
  refine x_callvE rfl (n21 (d := 0) ([33, 10, gb 0, gb 1, gb 2]) (gb 3) (by simp only [List.length_cons, List.length_nil]; decide)) rfl rfl rfl ?_
  iterate 2 refine x_step rfl ?_
  refine xm_ls (pl' := [some (.ref 37), some (.ref 68), some (.int 4)]) rfl ?_
  iterate 2 refine x_step rfl ?_
  refine x_icmp_ge rfl (fun q => absurd q (by decide)) (fun _ => ?_)
  iterate 2 refine x_step rfl ?_
  refine x_alen rfl rfl (Or.inl ⟨_, _, rfl⟩) rfl ?_
  refine x_icmp_ge rfl (fun q => absurd q (by decide)) (fun _ => ?_)
  iterate 3 refine x_step rfl ?_
  refine x_ialdN (4) rfl rfl rfl (by omega) ?_
  refine x_callvE rfl (n21 (d := 0) ([33, 10, gb 0, gb 1, gb 2, gb 3]) (gb 4) (by simp only [List.length_cons, List.length_nil]; decide)) rfl rfl rfl ?_
  iterate 2 refine x_step rfl ?_
  refine xm_ls (pl' := [some (.ref 37), some (.ref 68), some (.int 5)]) rfl ?_
  iterate 2 refine x_step rfl ?_
  refine x_icmp_ge rfl (fun q => absurd q (by decide)) (fun _ => ?_)
  iterate 2 refine x_step rfl ?_
  refine x_alen rfl rfl (Or.inl ⟨_, _, rfl⟩) rfl ?_
  refine x_icmp_ge rfl (fun q => absurd q (by decide)) (fun _ => ?_)
  iterate 3 refine x_step rfl ?_
  refine x_ialdN (5) rfl rfl rfl (by omega) ?_
  refine x_callvE rfl (n21 (d := 0) ([33, 10, gb 0, gb 1, gb 2, gb 3, gb 4]) (gb 5) (by simp only [List.length_cons, List.length_nil]; decide)) rfl rfl rfl ?_
  iterate 2 refine x_step rfl ?_
  refine xm_ls (pl' := [some (.ref 37), some (.ref 68), some (.int 6)]) rfl ?_
  iterate 2 refine x_step rfl ?_
  refine x_icmp_ge rfl (fun q => absurd q (by decide)) (fun _ => ?_)
  iterate 2 refine x_step rfl ?_
  refine x_alen rfl rfl (Or.inl ⟨_, _, rfl⟩) rfl ?_
  refine x_icmp_ge rfl (fun q => absurd q (by decide)) (fun _ => ?_)
  iterate 3 refine x_step rfl ?_
  refine x_ialdN (6) rfl rfl rfl (by omega) ?_
  refine x_callvE rfl (n21 (d := 0) ([33, 10, gb 0, gb 1, gb 2, gb 3, gb 4, gb 5]) (gb 6) (by simp only [List.length_cons, List.length_nil]; decide)) rfl rfl rfl ?_
  iterate 2 refine x_step rfl ?_
  refine xm_ls (pl' := [some (.ref 37), some (.ref 68), some (.int 7)]) rfl ?_
  iterate 2 refine x_step rfl ?_
  refine x_icmp_ge rfl (fun q => absurd q (by decide)) (fun _ => ?_)
  iterate 2 refine x_step rfl ?_
  refine x_alen rfl rfl (Or.inl ⟨_, _, rfl⟩) rfl ?_
  refine x_icmp_ge rfl (fun q => absurd q (by decide)) (fun _ => ?_)
  iterate 3 refine x_step rfl ?_
  refine x_ialdN (7) rfl rfl rfl (by omega) ?_
  refine x_callvE rfl (n21 (d := 0) ([33, 10, gb 0, gb 1, gb 2, gb 3, gb 4, gb 5, gb 6]) (gb 7) (by simp only [List.length_cons, List.length_nil]; decide)) rfl rfl rfl ?_
  iterate 2 refine x_step rfl ?_
  refine xm_ls (pl' := [some (.ref 37), some (.ref 68), some (.int 8)]) rfl ?_
  iterate 2 refine x_step rfl ?_
  refine x_icmp_ge rfl (fun q => absurd q (by decide)) (fun _ => ?_)
  iterate 2 refine x_step rfl ?_
  refine x_alen rfl rfl (Or.inl ⟨_, _, rfl⟩) rfl ?_
  refine x_icmp_ge rfl (fun q => absurd q (by decide)) (fun _ => ?_)
  iterate 3 refine x_step rfl ?_
  refine x_ialdN (8) rfl rfl rfl (by omega) ?_
  refine x_callvE rfl (n21 (d := 0) ([33, 10, gb 0, gb 1, gb 2, gb 3, gb 4, gb 5, gb 6, gb 7]) (gb 8) (by simp only [List.length_cons, List.length_nil]; decide)) rfl rfl rfl ?_
  iterate 2 refine x_step rfl ?_
  refine xm_ls (pl' := [some (.ref 37), some (.ref 68), some (.int 9)]) rfl ?_
  iterate 2 refine x_step rfl ?_
  refine x_icmp_ge rfl (fun q => absurd q (by decide)) (fun _ => ?_)
  iterate 2 refine x_step rfl ?_
  refine x_alen rfl rfl (Or.inl ⟨_, _, rfl⟩) rfl ?_
  refine x_icmp_ge rfl (fun q => absurd q (by decide)) (fun _ => ?_)
  iterate 3 refine x_step rfl ?_
  refine x_ialdN (9) rfl rfl rfl (by omega) ?_
  refine x_callvE rfl (n21 (d := 0) ([33, 10, gb 0, gb 1, gb 2, gb 3, gb 4, gb 5, gb 6, gb 7, gb 8]) (gb 9) (by simp only [List.length_cons, List.length_nil]; decide)) rfl rfl rfl ?_
  iterate 2 refine x_step rfl ?_
  refine xm_ls (pl' := [some (.ref 37), some (.ref 68), some (.int 10)]) rfl ?_
  iterate 2 refine x_step rfl ?_
  refine x_icmp_ge rfl (fun _ => ?_) (fun q => absurd (by decide) q)
  exact x_ret rfl rfl ⟨rfl, rfl⟩
/-- Body.putHeader -/
theorem n70b (hd : 1 ≤ d) {j : Nat} (hj : j < 8) : XM l 70 d 0 0 [.ref 37, .ref (57 + j)] (cw L xs g tc tf (nI ([] : List Int32).length) (xbd bf ([] : List Int32)) of oc ol on ml mx mb kc kh kr ka gl gx gb ls lq lk lg lh vf vs vb nv nw nr nq ne io sp ch wt xf xz xt xb xc) (xm_is none (cw L xs g tc tf (nI ([33, 10, kr j 0, kr j 1, kr j 2, kr j 3, kr j 4, kr j 5, kr j 6, kr j 7, kr j 8, kr j 9]).length) (xbd bf ([33, 10, kr j 0, kr j 1, kr j 2, kr j 3, kr j 4, kr j 5, kr j 6, kr j 7, kr j 8, kr j 9])) of oc ol on ml mx mb kc kh kr ka gl gx gb ls lq lk lg lh vf vs vb nv nw nr nq ne io sp ch wt xf xz xt xb xc)) := by
  refine XE (pl := [some (.ref 37), some (.ref (57 + j)), none]) xg70 rfl ?_
  iterate 2 refine x_step rfl ?_
  refine x_callvE rfl (n21 (d := 0) [] 33 (by decide)) rfl rfl rfl ?_
  iterate 2 refine x_step rfl ?_
  refine x_callvE rfl (n21 (d := 0) [33] 10 (by decide)) rfl rfl rfl ?_
  iterate 2 refine x_step rfl ?_
  refine xm_ls (pl' := [some (.ref 37), some (.ref (57 + j)), some (.int 0)]) rfl ?_
  iterate 2 refine x_step rfl ?_
  refine x_icmp_ge rfl (fun q => absurd q (by decide)) (fun _ => ?_)
  iterate 2 refine x_step rfl ?_
  refine x_alen rfl (cw_talk hj) (Or.inl ⟨_, _, rfl⟩) rfl ?_
  refine x_icmp_ge rfl (fun q => absurd q (by decide)) (fun _ => ?_)
  iterate 3 refine x_step rfl ?_
  refine x_ialdN (0) rfl (cw_talk hj) rfl (by omega) ?_
  refine x_callvE rfl (n21 (d := 0) ([33, 10]) (kr j 0) (by simp only [List.length_cons, List.length_nil]; decide)) rfl rfl rfl ?_
  iterate 2 refine x_step rfl ?_
  refine xm_ls (pl' := [some (.ref 37), some (.ref (57 + j)), some (.int 1)]) rfl ?_
  iterate 2 refine x_step rfl ?_
  refine x_icmp_ge rfl (fun q => absurd q (by decide)) (fun _ => ?_)
  iterate 2 refine x_step rfl ?_
  refine x_alen rfl (cw_talk hj) (Or.inl ⟨_, _, rfl⟩) rfl ?_
  refine x_icmp_ge rfl (fun q => absurd q (by decide)) (fun _ => ?_)
  iterate 3 refine x_step rfl ?_
  refine x_ialdN (1) rfl (cw_talk hj) rfl (by omega) ?_
  refine x_callvE rfl (n21 (d := 0) ([33, 10, kr j 0]) (kr j 1) (by simp only [List.length_cons, List.length_nil]; decide)) rfl rfl rfl ?_
  iterate 2 refine x_step rfl ?_
  refine xm_ls (pl' := [some (.ref 37), some (.ref (57 + j)), some (.int 2)]) rfl ?_
  iterate 2 refine x_step rfl ?_
  refine x_icmp_ge rfl (fun q => absurd q (by decide)) (fun _ => ?_)
  iterate 2 refine x_step rfl ?_
  refine x_alen rfl (cw_talk hj) (Or.inl ⟨_, _, rfl⟩) rfl ?_
  refine x_icmp_ge rfl (fun q => absurd q (by decide)) (fun _ => ?_)
  iterate 3 refine x_step rfl ?_
  refine x_ialdN (2) rfl (cw_talk hj) rfl (by omega) ?_
  refine x_callvE rfl (n21 (d := 0) ([33, 10, kr j 0, kr j 1]) (kr j 2) (by simp only [List.length_cons, List.length_nil]; decide)) rfl rfl rfl ?_
  iterate 2 refine x_step rfl ?_
  refine xm_ls (pl' := [some (.ref 37), some (.ref (57 + j)), some (.int 3)]) rfl ?_
  iterate 2 refine x_step rfl ?_
  refine x_icmp_ge rfl (fun q => absurd q (by decide)) (fun _ => ?_)
  iterate 2 refine x_step rfl ?_
  refine x_alen rfl (cw_talk hj) (Or.inl ⟨_, _, rfl⟩) rfl ?_
  refine x_icmp_ge rfl (fun q => absurd q (by decide)) (fun _ => ?_)
  iterate 3 refine x_step rfl ?_
  refine x_ialdN (3) rfl (cw_talk hj) rfl (by omega) ?_
  refine x_callvE rfl (n21 (d := 0) ([33, 10, kr j 0, kr j 1, kr j 2]) (kr j 3) (by simp only [List.length_cons, List.length_nil]; decide)) rfl rfl rfl ?_
  iterate 2 refine x_step rfl ?_
  refine xm_ls (pl' := [some (.ref 37), some (.ref (57 + j)), some (.int 4)]) rfl ?_
  iterate 2 refine x_step rfl ?_
  refine x_icmp_ge rfl (fun q => absurd q (by decide)) (fun _ => ?_)
  iterate 2 refine x_step rfl ?_
  refine x_alen rfl (cw_talk hj) (Or.inl ⟨_, _, rfl⟩) rfl ?_
  refine x_icmp_ge rfl (fun q => absurd q (by decide)) (fun _ => ?_)
  iterate 3 refine x_step rfl ?_
  refine x_ialdN (4) rfl (cw_talk hj) rfl (by omega) ?_
  refine x_callvE rfl (n21 (d := 0) ([33, 10, kr j 0, kr j 1, kr j 2, kr j 3]) (kr j 4) (by simp only [List.length_cons, List.length_nil]; decide)) rfl rfl rfl ?_
  iterate 2 refine x_step rfl ?_
  refine xm_ls (pl' := [some (.ref 37), some (.ref (57 + j)), some (.int 5)]) rfl ?_
  iterate 2 refine x_step rfl ?_
  refine x_icmp_ge rfl (fun q => absurd q (by decide)) (fun _ => ?_)
  iterate 2 refine x_step rfl ?_
  refine x_alen rfl (cw_talk hj) (Or.inl ⟨_, _, rfl⟩) rfl ?_
  refine x_icmp_ge rfl (fun q => absurd q (by decide)) (fun _ => ?_)
  iterate 3 refine x_step rfl ?_
  refine x_ialdN (5) rfl (cw_talk hj) rfl (by omega) ?_
  refine x_callvE rfl (n21 (d := 0) ([33, 10, kr j 0, kr j 1, kr j 2, kr j 3, kr j 4]) (kr j 5) (by simp only [List.length_cons, List.length_nil]; decide)) rfl rfl rfl ?_
  iterate 2 refine x_step rfl ?_
  refine xm_ls (pl' := [some (.ref 37), some (.ref (57 + j)), some (.int 6)]) rfl ?_
  iterate 2 refine x_step rfl ?_
  refine x_icmp_ge rfl (fun q => absurd q (by decide)) (fun _ => ?_)
  iterate 2 refine x_step rfl ?_
  refine x_alen rfl (cw_talk hj) (Or.inl ⟨_, _, rfl⟩) rfl ?_
  refine x_icmp_ge rfl (fun q => absurd q (by decide)) (fun _ => ?_)
  iterate 3 refine x_step rfl ?_
  refine x_ialdN (6) rfl (cw_talk hj) rfl (by omega) ?_
  refine x_callvE rfl (n21 (d := 0) ([33, 10, kr j 0, kr j 1, kr j 2, kr j 3, kr j 4, kr j 5]) (kr j 6) (by simp only [List.length_cons, List.length_nil]; decide)) rfl rfl rfl ?_
  iterate 2 refine x_step rfl ?_
  refine xm_ls (pl' := [some (.ref 37), some (.ref (57 + j)), some (.int 7)]) rfl ?_
  iterate 2 refine x_step rfl ?_
  refine x_icmp_ge rfl (fun q => absurd q (by decide)) (fun _ => ?_)
  iterate 2 refine x_step rfl ?_
  refine x_alen rfl (cw_talk hj) (Or.inl ⟨_, _, rfl⟩) rfl ?_
  refine x_icmp_ge rfl (fun q => absurd q (by decide)) (fun _ => ?_)
  iterate 3 refine x_step rfl ?_
  refine x_ialdN (7) rfl (cw_talk hj) rfl (by omega) ?_
  refine x_callvE rfl (n21 (d := 0) ([33, 10, kr j 0, kr j 1, kr j 2, kr j 3, kr j 4, kr j 5, kr j 6]) (kr j 7) (by simp only [List.length_cons, List.length_nil]; decide)) rfl rfl rfl ?_
  iterate 2 refine x_step rfl ?_
  refine xm_ls (pl' := [some (.ref 37), some (.ref (57 + j)), some (.int 8)]) rfl ?_
  iterate 2 refine x_step rfl ?_
  refine x_icmp_ge rfl (fun q => absurd q (by decide)) (fun _ => ?_)
  iterate 2 refine x_step rfl ?_
  refine x_alen rfl (cw_talk hj) (Or.inl ⟨_, _, rfl⟩) rfl ?_
  refine x_icmp_ge rfl (fun q => absurd q (by decide)) (fun _ => ?_)
  iterate 3 refine x_step rfl ?_
  refine x_ialdN (8) rfl (cw_talk hj) rfl (by omega) ?_
  refine x_callvE rfl (n21 (d := 0) ([33, 10, kr j 0, kr j 1, kr j 2, kr j 3, kr j 4, kr j 5, kr j 6, kr j 7]) (kr j 8) (by simp only [List.length_cons, List.length_nil]; decide)) rfl rfl rfl ?_
  iterate 2 refine x_step rfl ?_
  refine xm_ls (pl' := [some (.ref 37), some (.ref (57 + j)), some (.int 9)]) rfl ?_
  iterate 2 refine x_step rfl ?_
  refine x_icmp_ge rfl (fun q => absurd q (by decide)) (fun _ => ?_)
  iterate 2 refine x_step rfl ?_
  refine x_alen rfl (cw_talk hj) (Or.inl ⟨_, _, rfl⟩) rfl ?_
  refine x_icmp_ge rfl (fun q => absurd q (by decide)) (fun _ => ?_)
  iterate 3 refine x_step rfl ?_
  refine x_ialdN (9) rfl (cw_talk hj) rfl (by omega) ?_
  refine x_callvE rfl (n21 (d := 0) ([33, 10, kr j 0, kr j 1, kr j 2, kr j 3, kr j 4, kr j 5, kr j 6, kr j 7, kr j 8]) (kr j 9) (by simp only [List.length_cons, List.length_nil]; decide)) rfl rfl rfl ?_
  iterate 2 refine x_step rfl ?_
  refine xm_ls (pl' := [some (.ref 37), some (.ref (57 + j)), some (.int 10)]) rfl ?_
  iterate 2 refine x_step rfl ?_
  refine x_icmp_ge rfl (fun _ => ?_) (fun q => absurd (by decide) q)
  exact x_ret rfl rfl ⟨rfl, rfl⟩
/-- Outbox.sendComplaint -/
theorem n69a (fn : Int32) (hd : 2 ≤ d) (hi : ¬ 8 ≤ oc → vp_in (of + oc - (of + oc) / 8 * 8) 8) : XM l 69 d 0 0 [.ref 35, .int fn, .ref 68] (cw L xs g tc tf bl bf of oc ol on ml mx mb kc kh kr ka gl gx gb ls lq lk lg lh vf vs vb nv nw nr nq ne io sp ch wt xf xz xt xb xc) (xm_is none (cw L xs g tc tf (nI ([33, 10, gb 0, gb 1, gb 2, gb 3, gb 4, gb 5, gb 6, gb 7, gb 8, gb 9]).length) (xbd bf ([33, 10, gb 0, gb 1, gb 2, gb 3, gb 4, gb 5, gb 6, gb 7, gb 8, gb 9])) of (xoc oc) (xol oc ol) (on + 1 &&& 65535) (xml of oc ml (nI ([33, 10, gb 0, gb 1, gb 2, gb 3, gb 4, gb 5, gb 6, gb 7, gb 8, gb 9]).length)) (xmx of oc mx) (xmb of oc mb (xbd bf ([33, 10, gb 0, gb 1, gb 2, gb 3, gb 4, gb 5, gb 6, gb 7, gb 8, gb 9])) (nI ([33, 10, gb 0, gb 1, gb 2, gb 3, gb 4, gb 5, gb 6, gb 7, gb 8, gb 9]).length) (9) (fn) (on + 1 &&& 65535)) kc kh kr ka gl gx gb ls lq lk lg lh vf vs vb nv nw nr nq ne io sp ch wt xf xz xt xb xc)) := by
  refine XE (pl := [some (.ref 35), some (.int fn), some (.ref 68)]) xg69 rfl ?_
  refine x_step rfl ?_
  refine x_callvE rfl (m18 (d := 1) (by omega)) rfl rfl rfl ?_
  refine xm_hs (hp' := (cw L xs g tc tf (nI ([] : List Int32).length) (xbd bf ([] : List Int32)) of oc ol on ml mx mb kc kh kr ka gl gx gb ls lq lk lg lh vf vs vb nv nw nr nq ne io sp ch wt xf xz xt xb xc)) (by rw [xbd_nil] <;> rfl) ?_
  refine x_step rfl ?_
  refine x_callvE rfl (n70a (d := 1) (by omega)) rfl rfl rfl ?_
  iterate 4 refine x_step rfl ?_
  refine x_callvE rfl (m30 (d := 0)) rfl rfl rfl ?_
  refine x_callvE rfl (n31 (d := 1) [33, 10, gb 0, gb 1, gb 2, gb 3, gb 4, gb 5, gb 6, gb 7, gb 8, gb 9] 9 fn (on + 1 &&& 65535) (by omega) (by simp only [List.length_cons, List.length_nil]; decide) hi) rfl rfl rfl ?_
  exact x_ret rfl rfl ⟨rfl, rfl⟩
/-- Outbox.sendComplaint -/
theorem n69b (fn : Int32) (hd : 2 ≤ d) (hi : ¬ 8 ≤ oc → vp_in (of + oc - (of + oc) / 8 * 8) 8) {j : Nat} (hj : j < 8) : XM l 69 d 0 0 [.ref 35, .int fn, .ref (57 + j)] (cw L xs g tc tf bl bf of oc ol on ml mx mb kc kh kr ka gl gx gb ls lq lk lg lh vf vs vb nv nw nr nq ne io sp ch wt xf xz xt xb xc) (xm_is none (cw L xs g tc tf (nI ([33, 10, kr j 0, kr j 1, kr j 2, kr j 3, kr j 4, kr j 5, kr j 6, kr j 7, kr j 8, kr j 9]).length) (xbd bf ([33, 10, kr j 0, kr j 1, kr j 2, kr j 3, kr j 4, kr j 5, kr j 6, kr j 7, kr j 8, kr j 9])) of (xoc oc) (xol oc ol) (on + 1 &&& 65535) (xml of oc ml (nI ([33, 10, kr j 0, kr j 1, kr j 2, kr j 3, kr j 4, kr j 5, kr j 6, kr j 7, kr j 8, kr j 9]).length)) (xmx of oc mx) (xmb of oc mb (xbd bf ([33, 10, kr j 0, kr j 1, kr j 2, kr j 3, kr j 4, kr j 5, kr j 6, kr j 7, kr j 8, kr j 9])) (nI ([33, 10, kr j 0, kr j 1, kr j 2, kr j 3, kr j 4, kr j 5, kr j 6, kr j 7, kr j 8, kr j 9]).length) (9) (fn) (on + 1 &&& 65535)) kc kh kr ka gl gx gb ls lq lk lg lh vf vs vb nv nw nr nq ne io sp ch wt xf xz xt xb xc)) := by
  refine XE (pl := [some (.ref 35), some (.int fn), some (.ref (57 + j))]) xg69 rfl ?_
  refine x_step rfl ?_
  refine x_callvE rfl (m18 (d := 1) (by omega)) rfl rfl rfl ?_
  refine xm_hs (hp' := (cw L xs g tc tf (nI ([] : List Int32).length) (xbd bf ([] : List Int32)) of oc ol on ml mx mb kc kh kr ka gl gx gb ls lq lk lg lh vf vs vb nv nw nr nq ne io sp ch wt xf xz xt xb xc)) (by rw [xbd_nil] <;> rfl) ?_
  refine x_step rfl ?_
  refine x_callvE rfl (n70b (d := 1) (by omega) hj) rfl rfl rfl ?_
  iterate 4 refine x_step rfl ?_
  refine x_callvE rfl (m30 (d := 0)) rfl rfl rfl ?_
  refine x_callvE rfl (n31 (d := 1) [33, 10, kr j 0, kr j 1, kr j 2, kr j 3, kr j 4, kr j 5, kr j 6, kr j 7, kr j 8, kr j 9] 9 fn (on + 1 &&& 65535) (by omega) (by simp only [List.length_cons, List.length_nil]; decide) hi) rfl rfl rfl ?_
  exact x_ret rfl rfl ⟨rfl, rfl⟩
/-- Outbox.sendAbort -/
theorem n97 (hd : 2 ≤ d) (hi : ¬ 8 ≤ oc → vp_in (of + oc - (of + oc) / 8 * 8) 8) : XM l 97 d 0 0 [.ref 35, .ref 67] (cw L xs g tc tf bl bf of oc ol on ml mx mb kc kh kr ka gl gx gb ls lq lk lg lh vf vs vb nv nw nr nq ne io sp ch wt xf xz xt xb xc) (xm_is none (cw L xs g tc tf (nI ([] : List Int32).length) (xbd bf ([] : List Int32)) of (xoc oc) (xol oc ol) on (xml of oc ml (nI ([] : List Int32).length)) (xmx of oc mx) (xmb of oc mb (xbd bf ([] : List Int32)) (nI ([] : List Int32).length) (gb 2 &&& 127) (0) (gb 6 <<< ((24 : Int32) &&& 31) ||| gb 7 <<< ((16 : Int32) &&& 31) ||| gb 8 <<< ((8 : Int32) &&& 31) ||| gb 9)) kc kh kr ka gl gx gb ls lq lk lg lh vf vs vb nv nw nr nq ne io sp ch wt xf xz xt xb xc)) := by
  refine XE (pl := [some (.ref 35), some (.ref 67)]) xg97 rfl ?_
  iterate 2 refine x_step rfl ?_
  refine x_callvE rfl (m19 (d := 0)) rfl rfl rfl ?_
  refine xm_hs (hp' := (cw L xs g tc tf (nI ([] : List Int32).length) (xbd bf []) of oc ol on ml mx mb kc kh kr ka gl gx gb ls lq lk lg lh vf vs vb nv nw nr nq ne io sp ch wt xf xz xt xb xc)) (by rw [xbd_nil] <;> rfl) ?_
  iterate 2 refine x_step rfl ?_
  refine x_callvE rfl (m76 (d := 0) rfl rfl) rfl rfl rfl ?_
  iterate 2 refine x_step rfl ?_
  refine x_callvE rfl (m98 (d := 0) rfl rfl) rfl rfl rfl ?_
  refine x_callvE rfl (n31 (d := 1) [] (gb 2 &&& 127) 0 (gb 6 <<< ((24 : Int32) &&& 31) ||| gb 7 <<< ((16 : Int32) &&& 31) ||| gb 8 <<< ((8 : Int32) &&& 31) ||| gb 9) (by omega) (by decide) hi) rfl rfl rfl ?_
  exact x_ret rfl rfl ⟨rfl, rfl⟩
/-- Outbox.sendReply -/
theorem n144 (B : List Int32) (fn : Int32) (hd : 3 ≤ d) (hB : B.length ≤ 120) (hi : ¬ 8 ≤ oc → vp_in (of + oc - (of + oc) / 8 * 8) 8) : XM l 144 d 0 0 [.ref 35, .ref 67, .int fn] (cw L xs g tc tf (nI (B).length) (xbd bf (B)) of oc ol on ml mx mb kc kh kr ka gl gx gb ls lq lk lg lh vf vs vb nv nw nr nq ne io sp ch wt xf xz xt xb xc) (xm_is none (cw L xs g tc tf (nI (B).length) (xbd bf (B)) of (xoc oc) (xol oc ol) on (xml of oc ml (nI (B).length)) (xmx of oc mx) (xmb of oc mb (xbd bf (B)) (nI (B).length) (gb 2 &&& 127) (fn) (gb 6 <<< ((24 : Int32) &&& 31) ||| gb 7 <<< ((16 : Int32) &&& 31) ||| gb 8 <<< ((8 : Int32) &&& 31) ||| gb 9)) kc kh kr ka gl gx gb ls lq lk lg lh vf vs vb nv nw nr nq ne io sp ch wt xf xz xt xb xc)) := by
  refine XE (pl := [some (.ref 35), some (.ref 67), some (.int fn)]) xg144 rfl ?_
  iterate 2 refine x_step rfl ?_
  refine x_callvE rfl (m32 (d := 0)) rfl rfl rfl ?_
  refine x_if_eq rfl (fun q => absurd q (by rw [if_neg (show ¬ 120 < nI B.length from nI_nlt (a := 120) hB (by decide))]; decide)) (fun _ => ?_)
  iterate 2 refine x_step rfl ?_
  refine x_callvE rfl (m76 (d := 0) rfl rfl) rfl rfl rfl ?_
  iterate 2 refine x_step rfl ?_
  refine x_callvE rfl (m98 (d := 0) rfl rfl) rfl rfl rfl ?_
  refine x_callvE rfl (n31 (d := 1) B (gb 2 &&& 127) fn (gb 6 <<< ((24 : Int32) &&& 31) ||| gb 7 <<< ((16 : Int32) &&& 31) ||| gb 8 <<< ((8 : Int32) &&& 31) ||| gb 9) (by omega) hB hi) rfl rfl rfl ?_
  refine x_step rfl ?_
  exact x_ret rfl rfl ⟨rfl, rfl⟩
/-- Outbox.sendReply -/
theorem n144a (B : List Int32) (fn : Int32) (hd : 3 ≤ d) (hB : 120 < B.length) (hB2 : B.length < 2 ^ 30) (hi : ¬ 8 ≤ oc → vp_in (of + oc - (of + oc) / 8 * 8) 8) : XM l 144 d 0 0 [.ref 35, .ref 67, .int fn] (cw L xs g tc tf (nI (B).length) (xbd bf (B)) of oc ol on ml mx mb kc kh kr ka gl gx gb ls lq lk lg lh vf vs vb nv nw nr nq ne io sp ch wt xf xz xt xb xc) (xm_is none (cw L xs g tc tf (nI ([] : List Int32).length) (xbd (xbd bf B) []) of (xoc oc) (xol oc ol) on (xml of oc ml (nI ([] : List Int32).length)) (xmx of oc mx) (xmb of oc mb (xbd (xbd bf B) ([] : List Int32)) (nI ([] : List Int32).length) (gb 2 &&& 127) (0) (gb 6 <<< ((24 : Int32) &&& 31) ||| gb 7 <<< ((16 : Int32) &&& 31) ||| gb 8 <<< ((8 : Int32) &&& 31) ||| gb 9)) kc kh kr ka gl gx gb ls lq lk lg lh vf vs vb nv nw nr nq ne io sp ch wt xf xz xt xb xc)) := by
  refine XE (pl := [some (.ref 35), some (.ref 67), some (.int fn)]) xg144 rfl ?_
  iterate 2 refine x_step rfl ?_
  refine x_callvE rfl (m32 (d := 0)) rfl rfl rfl ?_
  refine x_if_eq rfl (fun _ => ?_) (fun q => absurd (by rw [if_pos (show 120 < nI B.length from nI_lt (a := 120) hB (by omega))]) q)
  iterate 2 refine x_step rfl ?_
  refine x_callvE rfl (n97 (d := 2) (by omega) hi) rfl rfl rfl ?_
  exact x_ret rfl rfl ⟨rfl, rfl⟩
/-- Desk.answer -/
theorem n120 (x : Int32) (hd : 2 ≤ d) : XM l 120 d 0 0 [.ref 97, .int x] (cw L xs g tc tf bl bf of oc ol on ml mx mb kc kh kr ka gl gx gb ls lq lk lg lh vf vs vb nv nw nr nq ne io sp ch wt xf xz xt xb xc) (xm_is none (cw L xs g tc tf (nI ([33, 1, x]).length) (xbd bf ([33, 1, x])) of oc ol on ml mx mb kc kh kr ka gl gx gb ls lq lk lg lh vf vs vb nv nw nr nq ne io sp ch wt xf xz xt xb xc)) := by
  refine XE (pl := [some (.ref 97), some (.int x)]) xg120 rfl ?_
  iterate 2 refine x_step rfl ?_
  refine x_callvE rfl (m18 (d := 1) (by omega)) rfl rfl rfl ?_
  refine xm_hs (hp' := (cw L xs g tc tf (nI ([] : List Int32).length) (xbd bf ([] : List Int32)) of oc ol on ml mx mb kc kh kr ka gl gx gb ls lq lk lg lh vf vs vb nv nw nr nq ne io sp ch wt xf xz xt xb xc)) (by rw [xbd_nil] <;> rfl) ?_
  refine x_step rfl ?_
  refine x_callvE rfl (n115 (d := 1) [] x (by omega) (by decide)) rfl rfl rfl ?_
  exact x_ret rfl rfl ⟨rfl, rfl⟩
/-- Desk.answerInList -/
theorem n114 (x : Int32) (hd : 2 ≤ d) : XM l 114 d 0 0 [.ref 97, .int x] (cw L xs g tc tf bl bf of oc ol on ml mx mb kc kh kr ka gl gx gb ls lq lk lg lh vf vs vb nv nw nr nq ne io sp ch wt xf xz xt xb xc) (xm_is none (cw L xs g tc tf (nI ([1, 2, 33, 1, x, 1, 0]).length) (xbd bf ([1, 2, 33, 1, x, 1, 0])) of oc ol on ml mx mb kc kh kr ka gl gx gb ls lq lk lg lh vf vs vb nv nw nr nq ne io sp ch wt xf xz xt xb xc)) := by
  refine XE (pl := [some (.ref 97), some (.int x), none]) xg114 rfl ?_
  iterate 2 refine x_step rfl ?_
  refine x_callvE rfl (m18 (d := 1) (by omega)) rfl rfl rfl ?_
  refine xm_hs (hp' := (cw L xs g tc tf (nI ([] : List Int32).length) (xbd bf ([] : List Int32)) of oc ol on ml mx mb kc kh kr ka gl gx gb ls lq lk lg lh vf vs vb nv nw nr nq ne io sp ch wt xf xz xt xb xc)) (by rw [xbd_nil] <;> rfl) ?_
  iterate 3 refine x_step rfl ?_
  refine x_callvE rfl (n20 (d := 1) [] 2 (by omega) (by decide)) rfl rfl rfl ?_
  iterate 2 refine x_step rfl ?_
  refine x_callvE rfl (n115 (d := 1) [1, 2] x (by omega) (by decide)) rfl rfl rfl ?_
  iterate 2 refine x_step rfl ?_
  refine x_callvE rfl (n20 (d := 1) [1, 2, 33, 1, x] 0 (by omega) (by simp only [List.length_cons, List.length_nil]; decide)) rfl rfl rfl ?_
  exact x_ret rfl rfl ⟨rfl, rfl⟩
/-- Desk.refuse -/
theorem n68 (fn : Int32) (hd : 3 ≤ d) (hi : ¬ 8 ≤ oc → vp_in (of + oc - (of + oc) / 8 * 8) 8) : XM l 68 d 0 0 [.ref 97, .int fn] (cw L xs g tc tf bl bf of oc ol on ml mx mb kc kh kr ka gl gx gb ls lq lk lg lh vf vs vb nv nw nr nq ne io sp ch wt xf xz xt xb xc) (xm_is (some (.int 0)) (cw L xs g tc tf (nI ([33, 10, gb 0, gb 1, gb 2, gb 3, gb 4, gb 5, gb 6, gb 7, gb 8, gb 9]).length) (xbd bf ([33, 10, gb 0, gb 1, gb 2, gb 3, gb 4, gb 5, gb 6, gb 7, gb 8, gb 9])) of (xoc oc) (xol oc ol) (on + 1 &&& 65535) (xml of oc ml (nI ([33, 10, gb 0, gb 1, gb 2, gb 3, gb 4, gb 5, gb 6, gb 7, gb 8, gb 9]).length)) (xmx of oc mx) (xmb of oc mb (xbd bf ([33, 10, gb 0, gb 1, gb 2, gb 3, gb 4, gb 5, gb 6, gb 7, gb 8, gb 9])) (nI ([33, 10, gb 0, gb 1, gb 2, gb 3, gb 4, gb 5, gb 6, gb 7, gb 8, gb 9]).length) (9) (fn) (on + 1 &&& 65535)) kc kh kr ka gl gx gb ls lq lk lg lh vf vs vb nv nw nr nq ne io sp ch wt xf xz xt xb xc)) := by
  refine XE (pl := [some (.ref 97), some (.int fn)]) xg68 rfl ?_
  iterate 5 refine x_step rfl ?_
  refine x_callvE rfl (m36 (d := 0) rfl) rfl rfl rfl ?_
  refine x_callvE rfl (n69a (d := 2) fn (by omega) hi) rfl rfl rfl ?_
  refine x_step rfl ?_
  exact x_iret rfl rfl rfl ⟨rfl, rfl⟩
/-- Desk.abort -/
theorem n96a (hd : 3 ≤ d) (h : ¬ gb 2 &&& 128 = 0) (hi : ¬ 8 ≤ oc → vp_in (of + oc - (of + oc) / 8 * 8) 8) : XM l 96 d 0 0 [.ref 97] (cw L xs g tc tf bl bf of oc ol on ml mx mb kc kh kr ka gl gx gb ls lq lk lg lh vf vs vb nv nw nr nq ne io sp ch wt xf xz xt xb xc) (xm_is (some (.int 0)) (cw L xs g tc tf (nI ([] : List Int32).length) (xbd bf ([] : List Int32)) of (xoc oc) (xol oc ol) on (xml of oc ml (nI ([] : List Int32).length)) (xmx of oc mx) (xmb of oc mb (xbd bf ([] : List Int32)) (nI ([] : List Int32).length) (gb 2 &&& 127) (0) (gb 6 <<< ((24 : Int32) &&& 31) ||| gb 7 <<< ((16 : Int32) &&& 31) ||| gb 8 <<< ((8 : Int32) &&& 31) ||| gb 9)) kc kh kr ka gl gx gb ls lq lk lg lh vf vs vb nv nw nr nq ne io sp ch wt xf xz xt xb xc)) := by
  refine XE (pl := [some (.ref 97)]) xg96 rfl ?_
  iterate 2 refine x_step rfl ?_
  refine x_callvE rfl (m61 (d := 0) rfl rfl) rfl rfl rfl ?_
  refine x_if_eq rfl (fun q => absurd q (by rw [if_neg h]; decide)) (fun _ => ?_)
  iterate 4 refine x_step rfl ?_
  refine x_callvE rfl (n97 (d := 2) (by omega) hi) rfl rfl rfl ?_
  refine x_step rfl ?_
  exact x_iret rfl rfl rfl ⟨rfl, rfl⟩
/-- Desk.abort -/
theorem n96b (hd : 3 ≤ d) (h : gb 2 &&& 128 = 0) : XM l 96 d 0 0 [.ref 97] (cw L xs g tc tf bl bf of oc ol on ml mx mb kc kh kr ka gl gx gb ls lq lk lg lh vf vs vb nv nw nr nq ne io sp ch wt xf xz xt xb xc) (xm_is (some (.int 0)) (cw L xs g tc tf bl bf of oc ol on ml mx mb kc kh kr ka gl gx gb ls lq lk lg lh vf vs vb nv nw nr nq ne io sp ch wt xf xz xt xb xc)) := by
  refine XE (pl := [some (.ref 97)]) xg96 rfl ?_
  iterate 2 refine x_step rfl ?_
  refine x_callvE rfl (m61 (d := 0) rfl rfl) rfl rfl rfl ?_
  refine x_if_eq rfl (fun _ => ?_) (fun q => absurd (by rw [if_pos h]) q)
  refine x_step rfl ?_
  exact x_iret rfl rfl rfl ⟨rfl, rfl⟩
end EC1
