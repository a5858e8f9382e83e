section EC4
variable {l : Launch} {d L : Nat} {xs : Nat → Int32} {g : xm_H} {tc : Int32} {tf : (Nat → Int32)} {bl : Int32} {bf : (Nat → Int32)} {of : Int32} {oc : Int32} {ol : Int32} {on : Int32} {ml : (Nat → Int32)} {mx : (Nat → Int32)} {mb : (Nat → Nat → Int32)} {kc : Int32} {kh : (Nat → Nat)} {kr : (Nat → Nat → Int32)} {ka : (Nat → Int32)} {gl : Int32} {gx : Int32} {gb : (Nat → Int32)} {ls : Int32} {lq : Int32} {lk : Int32} {lg : Int32} {lh : Int32} {vf : (Nat → Int32)} {vs : (Nat → Int32)} {vb : (Nat → Nat → Int32)} {nv : (Nat → Int32)} {nw : (Nat → Nat → Int32)} {nr : (Nat → Int32)} {nq : (Nat → Nat → Int32)} {ne : (Nat → Int32)} {io : Int32} {sp : Int32} {ch : Int32} {wt : Int32} {xf : (Nat → Int32)} {xz : (Nat → Int32)} {xt : (Nat → Int32)} {xb : (Nat → Int32)} {xc : Int32}
/-- one place to the left: m entries from c on -/
def xsh {α : Type} (f : Nat → α) (c m : Nat) : Nat → α := fun j => if c ≤ j ∧ j < c + m then f (j + 1) else f j
def updn (f : Nat → Nat) (i x : Nat) : Nat → Nat := fun j => if j = i then x else f j
theorem xsh_0 {α : Type} (f : Nat → α) (c : Nat) : xsh f c 0 = f := by
  funext j
  unfold xsh
  rw [if_neg (by omega)]
theorem xsh_at {α : Type} (f : Nat → α) (c m : Nat) : xsh f c m (c + m + 1) = f (c + m + 1) := by
  unfold xsh
  rw [if_neg (by omega)]
theorem xsh_s (f : Nat → Int32) (c m : Nat) : upd (xsh f c m) (c + m) (f (c + m + 1)) = xsh f c (m + 1) := by
  funext j
  by_cases h : j = c + m
  · subst h
    rw [pk_us]
    unfold xsh
    rw [if_pos (by omega)]
  · rw [pk_un h]
    unfold xsh
    by_cases h2 : c ≤ j ∧ j < c + m
    · rw [if_pos h2, if_pos (by omega)]
    · rw [if_neg h2, if_neg (by omega)]
theorem xsh_n (f : Nat → Nat) (c m : Nat) : updn (xsh f c m) (c + m) (f (c + m + 1)) = xsh f c (m + 1) := by
  funext j
  unfold updn
  by_cases h : j = c + m
  · subst h
    rw [if_pos rfl]
    unfold xsh
    rw [if_pos (by omega)]
  · rw [if_neg h]
    unfold xsh
    by_cases h2 : c ≤ j ∧ j < c + m
    · rw [if_pos h2, if_pos (by omega)]
    · rw [if_neg h2, if_neg (by omega)]
theorem updV_ref (f : Nat → Nat) (i x : Nat) : updV (fun j => Value.ref (57 + f j)) i (.ref (57 + x)) = fun j => Value.ref (57 + updn f i x j) := by
  funext j
  unfold updV updn
  by_cases h : j = i
  · rw [if_pos h, if_pos h]
  · rw [if_neg h, if_neg h]
theorem n90_loop (t c : Nat) (ht : t < 8) (hc : c ≤ t) (hk : ∀ j, j < 8 → kh j < 8) : ∀ (r m : Nat), c + m + r = t → XW l 90 d 0 0 22 [some (.ref 55), some (.int (nI c)), some (.ref (57 + kh c)), some (.int (nI (c + m)))] [] (cw L xs g tc tf bl bf of oc ol on ml mx mb (nI (t + 1)) (xsh kh c m) kr (xsh ka c m) gl gx gb ls lq lk lg lh vf vs vb nv nw nr nq ne io sp ch wt xf xz xt xb xc) (xm_is none (cw L xs g tc tf bl bf of oc ol on ml mx mb (nI t) (updn (xsh kh c (t - c)) t (kh c)) kr (xsh ka c (t - c)) gl gx gb ls lq lk lg lh vf vs vb nv nw nr nq ne io sp ch wt xf xz xt xb xc)) := by
  intro r
  induction r with
  | zero =>
    intro m hm
    obtain rfl : t = c + m := by omega
    have hkc := hk c (by omega)
    rw [Nat.add_sub_cancel_left]
    iterate 5 refine x_step rfl ?_
    refine x_icmpN_ge (c + m + 1) (c + m + 1) rfl (nI_1 (c + m)) rfl (fun _ => ?_) (fun q => False.elim (by omega))
    iterate 6 refine x_step rfl ?_
    refine xm_hs (hp' := (cw L xs g tc tf bl bf of oc ol on ml mx mb (nI (c + m)) (xsh kh c m) kr (xsh ka c m) gl gx gb ls lq lk lg lh vf vs vb nv nw nr nq ne io sp ch wt xf xz xt xb xc)) (by rw [nI_pred] <;> rfl) ?_
    iterate 5 refine x_step rfl ?_
    refine x_aast rfl rfl (by decide) (by decide) (cw_talk hkc) (by show 32 ≤ 57 + kh c; omega) (Or.inr ⟨_, _, _, rfl, by decide, rfl⟩) (vp_in_nI (n := c + m) (by omega) (by decide)) ?_
    exact x_ret rfl rfl ⟨rfl, by rw [nI_clamp (by omega), updV_ref]; rfl⟩
  | succ r ih =>
    intro m hm
    have hkm := hk (c + m + 1) (by omega)
    have e1 : xsh kh c m (c + m + 1) = kh (c + m + 1) := xsh_at kh c m
    iterate 5 refine x_step rfl ?_
    refine x_icmpN_ge (c + m + 1) (t + 1) rfl (nI_1 (c + m)) rfl (fun q => False.elim (by omega)) (fun _ => ?_)
    iterate 8 refine x_step rfl ?_
    refine x_aaldN (c + m + 1) rfl rfl (nI_1 (c + m)) (by omega) (congrArg (fun z => Value.ref (57 + z)) e1) ?_
    refine x_aast rfl rfl (by decide) (by decide) (cw_talk hkm) (by show 32 ≤ 57 + kh (c + m + 1); omega) (Or.inr ⟨_, _, _, rfl, by decide, rfl⟩) (vp_in_nI (n := c + m) (by omega) (by decide)) ?_
    refine xm_hs (hp' := (cw L xs g tc tf bl bf of oc ol on ml mx mb (nI (t + 1)) (xsh kh c (m + 1)) kr (xsh ka c m) gl gx gb ls lq lk lg lh vf vs vb nv nw nr nq ne io sp ch wt xf xz xt xb xc)) (by rw [nI_clamp (by omega), updV_ref, xsh_n] <;> rfl) ?_
    iterate 8 refine x_step rfl ?_
    refine x_ialdN (c + m + 1) rfl rfl (nI_1 (c + m)) (by omega) ?_
    refine x_iastN (c + m) rfl rfl rfl (by omega) ?_
    iterate 2 refine x_step rfl ?_
    refine xm_ls (pl' := [some (.ref 55), some (.int (nI c)), some (.ref (57 + kh c)), some (.int (nI (c + (m + 1))))]) (by rw [← Nat.add_assoc, nI_succ] <;> rfl) ?_
    refine xm_hs (hp' := (cw L xs g tc tf bl bf of oc ol on ml mx mb (nI (t + 1)) (xsh kh c (m + 1)) kr (xsh ka c (m + 1)) gl gx gb ls lq lk lg lh vf vs vb nv nw nr nq ne io sp ch wt xf xz xt xb xc)) (by rw [xsh_at, xsh_s] <;> rfl) ?_
    exact ih (m + 1) (by omega)
/-- Talks.close -/
theorem n90 (t c : Nat) (ht : t < 8) (hc : c ≤ t) (hk : ∀ j, j < 8 → kh j < 8) : XM l 90 d 0 0 [.ref 55, .int (nI c)] (cw L xs g tc tf bl bf of oc ol on ml mx mb (nI (t + 1)) kh kr ka gl gx gb ls lq lk lg lh vf vs vb nv nw nr nq ne io sp ch wt xf xz xt xb xc) (xm_is none (cw L xs g tc tf bl bf of oc ol on ml mx mb (nI t) (updn (xsh kh c (t - c)) t (kh c)) kr (xsh ka c (t - c)) gl gx gb ls lq lk lg lh vf vs vb nv nw nr nq ne io sp ch wt xf xz xt xb xc)) := by
  refine XE (pl := [some (.ref 55), some (.int (nI c)), none, none]) xg90 rfl ?_
  refine x_step rfl ?_
  refine x_ifN_lt (c) rfl rfl (fun q => False.elim (by omega)) (fun _ => ?_)
  iterate 3 refine x_step rfl ?_
  refine x_icmpN_lt (c) (t + 1) rfl rfl rfl (fun _ => ?_) (fun q => False.elim (by omega))
  iterate 3 refine x_step rfl ?_
  refine x_aaldN (c) rfl rfl rfl (by omega) rfl ?_
  iterate 3 refine x_step rfl ?_
  refine xm_ls (pl' := [some (.ref 55), some (.int (nI c)), some (.ref (57 + kh c)), some (.int (nI (c + 0)))]) rfl ?_
  refine xm_hs (hp' := (cw L xs g tc tf bl bf of oc ol on ml mx mb (nI (t + 1)) (xsh kh c 0) kr (xsh ka c 0) gl gx gb ls lq lk lg lh vf vs vb nv nw nr nq ne io sp ch wt xf xz xt xb xc)) (by rw [xsh_0, xsh_0] <;> rfl) ?_
  exact n90_loop t c ht hc hk (t - c) 0 (by omega)
/-- Talks.close -/
theorem n90m  : XM l 90 d 0 0 [.ref 55, .int (-1)] (cw L xs g tc tf bl bf of oc ol on ml mx mb kc kh kr ka gl gx gb ls lq lk lg lh vf vs vb nv nw nr nq ne io sp ch wt xf xz xt xb xc) (xm_is none (cw L xs g tc tf bl bf of oc ol on ml mx mb kc kh kr ka gl gx gb ls lq lk lg lh vf vs vb nv nw nr nq ne io sp ch wt xf xz xt xb xc)) := by
  refine XE (pl := [some (.ref 55), some (.int (-1)), none, none]) xg90 rfl ?_
  refine x_step rfl ?_
  refine x_if_lt rfl (fun _ => ?_) (fun q => absurd (by decide) q)
  exact x_ret rfl rfl ⟨rfl, rfl⟩
/-- the first i ages one more -/
def xinc (f : Nat → Int32) (i : Nat) : Nat → Int32 := fun j => if j < i then f j + 1 else f j
theorem xinc_0 (f : Nat → Int32) : xinc f 0 = f := by
  funext j
  unfold xinc
  rw [if_neg (by omega)]
theorem xinc_s (f : Nat → Int32) (i : Nat) : upd (xinc f i) i (xinc f i i + 1) = xinc f (i + 1) := by
  funext j
  by_cases h : j = i
  · subst h
    rw [pk_us]
    unfold xinc
    rw [if_neg (by omega), if_pos (by omega)]
  · rw [pk_un h]
    unfold xinc
    by_cases h2 : j < i
    · rw [if_pos h2, if_pos (by omega)]
    · rw [if_neg h2, if_neg (by omega)]
theorem n146_ages {Q : xm_Q} (t : Nat) (ht : t ≤ 8) (hK : XG l xm_any 146 d 0 0 31 [some (.ref 55), some (.ref 35), some (.int (nI t))] [] (cw L xs g tc tf bl bf of oc ol on ml mx mb (nI t) kh kr (xinc ka t) gl gx gb ls lq lk lg lh vf vs vb nv nw nr nq ne io sp ch wt xf xz xt xb xc) Q) : ∀ (r i : Nat), i + r = t → XG l xm_any 146 d 0 0 2 [some (.ref 55), some (.ref 35), some (.int (nI i))] [] (cw L xs g tc tf bl bf of oc ol on ml mx mb (nI t) kh kr (xinc ka i) gl gx gb ls lq lk lg lh vf vs vb nv nw nr nq ne io sp ch wt xf xz xt xb xc) Q := by
  intro r
  induction r with
  | zero =>
    intro i hi
    obtain rfl : i = t := by omega
    iterate 3 refine x_step rfl ?_
    refine x_icmpN_ge (i) (i) rfl rfl rfl (fun _ => ?_) (fun q => False.elim (by omega))
    iterate 3 refine x_step rfl ?_
    refine xm_ls (pl' := [some (.ref 55), some (.ref 35), some (.int (nI i))]) rfl ?_
    exact hK
  | succ r ih =>
    intro i hi
    iterate 3 refine x_step rfl ?_
    refine x_icmpN_ge (i) (t) rfl rfl rfl (fun q => False.elim (by omega)) (fun _ => ?_)
    iterate 4 refine x_step rfl ?_
    refine x_ialdN (i) rfl rfl rfl (by omega) ?_
    iterate 2 refine x_step rfl ?_
    refine x_iastN (i) rfl rfl rfl (by omega) ?_
    iterate 2 refine x_step rfl ?_
    refine xm_ls (pl' := [some (.ref 55), some (.ref 35), some (.int (nI (i + 1)))]) (by rw [nI_succ] <;> rfl) ?_
    refine xm_hs (hp' := (cw L xs g tc tf bl bf of oc ol on ml mx mb (nI t) kh kr (xinc ka (i + 1)) gl gx gb ls lq lk lg lh vf vs vb nv nw nr nq ne io sp ch wt xf xz xt xb xc)) (by rw [← xinc_s] <;> rfl) ?_
    exact ih (i + 1) (by omega)
theorem n146_of {Q : Option Value → xm_H → Prop} (t : Nat) (ht : t ≤ 8) (hK : XW l 146 d 0 0 31 [some (.ref 55), some (.ref 35), some (.int (nI t))] [] (cw L xs g tc tf bl bf of oc ol on ml mx mb (nI t) kh kr (xinc ka t) gl gx gb ls lq lk lg lh vf vs vb nv nw nr nq ne io sp ch wt xf xz xt xb xc) Q) : XM l 146 d 0 0 [.ref 55, .ref 35] (cw L xs g tc tf bl bf of oc ol on ml mx mb (nI t) kh kr ka gl gx gb ls lq lk lg lh vf vs vb nv nw nr nq ne io sp ch wt xf xz xt xb xc) Q := by
  refine XE (pl := [some (.ref 55), some (.ref 35), none]) xg146 rfl ?_
  iterate 2 refine x_step rfl ?_
  refine xm_ls (pl' := [some (.ref 55), some (.ref 35), some (.int (nI 0))]) rfl ?_
  refine xm_hs (hp' := (cw L xs g tc tf bl bf of oc ol on ml mx mb (nI t) kh kr (xinc ka 0) gl gx gb ls lq lk lg lh vf vs vb nv nw nr nq ne io sp ch wt xf xz xt xb xc)) (by rw [xinc_0] <;> rfl) ?_
  exact n146_ages t ht hK t 0 (by omega)
theorem n146_step {Q : xm_Q} (t k a : Nat) (hd : 3 ≤ d) (ht : t < 8) (hk8 : k < 8) (hk : ∀ j, j < 8 → kh j < 8) (ha : ka 0 = nI a) (ha2 : 45 ≤ a) (ha3 : a < 2 ^ 30) (hi : ¬ 8 ≤ oc → vp_in (of + oc - (of + oc) / 8 * 8) 8) (hK : XG l xm_any 146 d 0 0 31 [some (.ref 55), some (.ref 35), some (.int (nI k))] [] (cw L xs g tc tf (nI ([33, 10, kr (kh 0) 0, kr (kh 0) 1, kr (kh 0) 2, kr (kh 0) 3, kr (kh 0) 4, kr (kh 0) 5, kr (kh 0) 6, kr (kh 0) 7, kr (kh 0) 8, kr (kh 0) 9]).length) (xbd bf ([33, 10, kr (kh 0) 0, kr (kh 0) 1, kr (kh 0) 2, kr (kh 0) 3, kr (kh 0) 4, kr (kh 0) 5, kr (kh 0) 6, kr (kh 0) 7, kr (kh 0) 8, kr (kh 0) 9])) of (xoc oc) (xol oc ol) (on + 1 &&& 65535) (xml of oc ml (nI ([33, 10, kr (kh 0) 0, kr (kh 0) 1, kr (kh 0) 2, kr (kh 0) 3, kr (kh 0) 4, kr (kh 0) 5, kr (kh 0) 6, kr (kh 0) 7, kr (kh 0) 8, kr (kh 0) 9]).length)) (xmx of oc mx) (xmb of oc mb (xbd bf ([33, 10, kr (kh 0) 0, kr (kh 0) 1, kr (kh 0) 2, kr (kh 0) 3, kr (kh 0) 4, kr (kh 0) 5, kr (kh 0) 6, kr (kh 0) 7, kr (kh 0) 8, kr (kh 0) 9])) (nI ([33, 10, kr (kh 0) 0, kr (kh 0) 1, kr (kh 0) 2, kr (kh 0) 3, kr (kh 0) 4, kr (kh 0) 5, kr (kh 0) 6, kr (kh 0) 7, kr (kh 0) 8, kr (kh 0) 9]).length) (9) (9) (on + 1 &&& 65535)) (nI t) (updn (xsh kh 0 t) t (kh 0)) kr (xsh ka 0 t) gl gx gb ls lq lk lg lh vf vs vb nv nw nr nq ne io sp ch wt xf xz xt xb xc) Q) : XG l xm_any 146 d 0 0 31 [some (.ref 55), some (.ref 35), some (.int (nI (k + 1)))] [] (cw L xs g tc tf bl bf of oc ol on ml mx mb (nI (t + 1)) kh kr ka gl gx gb ls lq lk lg lh vf vs vb nv nw nr nq ne io sp ch wt xf xz xt xb xc) Q := by
  refine x_step rfl ?_
  refine x_ifN_le (k + 1) rfl rfl (fun q => False.elim (by omega)) (fun _ => ?_)
  iterate 3 refine x_step rfl ?_
  refine x_ialdN (0) rfl rfl rfl (by omega) ?_
  refine x_step rfl ?_
  refine x_icmpN_lt (a) (45) rfl ha rfl (fun q => False.elim (by omega)) (fun _ => ?_)
  iterate 5 refine x_step rfl ?_
  refine x_aaldN (0) rfl rfl rfl (by omega) rfl ?_
  refine x_callvE rfl (n69b (d := 2) 9 (by omega) hi (hk 0 (by decide))) rfl rfl rfl ?_
  iterate 2 refine x_step rfl ?_
  refine x_callvE rfl (n90 (d := 0) t 0 ht (by omega) hk) rfl rfl rfl ?_
  iterate 2 refine x_step rfl ?_
  refine xm_ls (pl' := [some (.ref 55), some (.ref 35), some (.int (nI k))]) (by rw [show nI (k + 1) + (-1) = nI k from pk_m1 k] <;> rfl) ?_
  refine xm_hs (hp' := (cw L xs g tc tf (nI ([33, 10, kr (kh 0) 0, kr (kh 0) 1, kr (kh 0) 2, kr (kh 0) 3, kr (kh 0) 4, kr (kh 0) 5, kr (kh 0) 6, kr (kh 0) 7, kr (kh 0) 8, kr (kh 0) 9]).length) (xbd bf ([33, 10, kr (kh 0) 0, kr (kh 0) 1, kr (kh 0) 2, kr (kh 0) 3, kr (kh 0) 4, kr (kh 0) 5, kr (kh 0) 6, kr (kh 0) 7, kr (kh 0) 8, kr (kh 0) 9])) of (xoc oc) (xol oc ol) (on + 1 &&& 65535) (xml of oc ml (nI ([33, 10, kr (kh 0) 0, kr (kh 0) 1, kr (kh 0) 2, kr (kh 0) 3, kr (kh 0) 4, kr (kh 0) 5, kr (kh 0) 6, kr (kh 0) 7, kr (kh 0) 8, kr (kh 0) 9]).length)) (xmx of oc mx) (xmb of oc mb (xbd bf ([33, 10, kr (kh 0) 0, kr (kh 0) 1, kr (kh 0) 2, kr (kh 0) 3, kr (kh 0) 4, kr (kh 0) 5, kr (kh 0) 6, kr (kh 0) 7, kr (kh 0) 8, kr (kh 0) 9])) (nI ([33, 10, kr (kh 0) 0, kr (kh 0) 1, kr (kh 0) 2, kr (kh 0) 3, kr (kh 0) 4, kr (kh 0) 5, kr (kh 0) 6, kr (kh 0) 7, kr (kh 0) 8, kr (kh 0) 9]).length) (9) (9) (on + 1 &&& 65535)) (nI t) (updn (xsh kh 0 t) t (kh 0)) kr (xsh ka 0 t) gl gx gb ls lq lk lg lh vf vs vb nv nw nr nq ne io sp ch wt xf xz xt xb xc)) rfl ?_
  exact hK
theorem n146_endz (k : Nat) (hk : k = 0) : XW l 146 d 0 0 31 [some (.ref 55), some (.ref 35), some (.int (nI k))] [] (cw L xs g tc tf bl bf of oc ol on ml mx mb kc kh kr ka gl gx gb ls lq lk lg lh vf vs vb nv nw nr nq ne io sp ch wt xf xz xt xb xc) (xm_is none (cw L xs g tc tf bl bf of oc ol on ml mx mb kc kh kr ka gl gx gb ls lq lk lg lh vf vs vb nv nw nr nq ne io sp ch wt xf xz xt xb xc)) := by
  subst hk
  refine x_step rfl ?_
  refine x_if_le rfl (fun _ => ?_) (fun q => absurd (by decide) q)
  exact x_ret rfl rfl ⟨rfl, rfl⟩
theorem n146_endy (k a : Nat) (hk : k < 8) (ha : ka 0 = nI a) (ha2 : a < 45) : XW l 146 d 0 0 31 [some (.ref 55), some (.ref 35), some (.int (nI k))] [] (cw L xs g tc tf bl bf of oc ol on ml mx mb kc kh kr ka gl gx gb ls lq lk lg lh vf vs vb nv nw nr nq ne io sp ch wt xf xz xt xb xc) (xm_is none (cw L xs g tc tf bl bf of oc ol on ml mx mb kc kh kr ka gl gx gb ls lq lk lg lh vf vs vb nv nw nr nq ne io sp ch wt xf xz xt xb xc)) := by
  refine x_step rfl ?_
  refine x_if_le rfl (fun h => ?_) (fun h => ?_)
  · exact x_ret rfl rfl ⟨rfl, rfl⟩
  · iterate 3 refine x_step rfl ?_
    refine x_ialdN (0) rfl rfl rfl (by omega) ?_
    refine x_step rfl ?_
    refine x_icmpN_lt (a) (45) rfl ha rfl (fun _ => ?_) (fun q => False.elim (by omega))
    exact x_ret rfl rfl ⟨rfl, rfl⟩
def xanP (h g : Nat → Int32) : Prop := h 6 = g 6 ∧ h 7 = g 7 ∧ h 8 = g 8 ∧ h 9 = g 9 ∧ (g 3 = 0 ∨ g 3 = h 3 + 1) ∧ h 2 &&& 127 = g 2 &&& 127
/-- Talks.isAnswer -/
theorem n75y {j : Nat} (hj : j < 8) (hd : 1 ≤ d) (h : xanP (kr j) gb) : XM l 75 d 0 0 [.ref (57 + j), .ref 67] (cw L xs g tc tf bl bf of oc ol on ml mx mb kc kh kr ka gl gx gb ls lq lk lg lh vf vs vb nv nw nr nq ne io sp ch wt xf xz xt xb xc) (xm_is (some (.int 1)) (cw L xs g tc tf bl bf of oc ol on ml mx mb kc kh kr ka gl gx gb ls lq lk lg lh vf vs vb nv nw nr nq ne io sp ch wt xf xz xt xb xc)) := by
  refine XE (pl := [some (.ref (57 + j)), some (.ref 67), none, none]) xg75 rfl ?_
  refine x_step rfl ?_
  refine x_callvE rfl (m36 (d := 0) rfl) rfl rfl rfl ?_
  iterate 3 refine x_step rfl ?_
  refine xm_ls (pl' := [some (.ref (57 + j)), some (.ref 67), some (.ref 68), some (.int 6)]) rfl ?_
  iterate 2 refine x_step rfl ?_
  refine x_icmp_ge rfl (fun q => absurd q (by decide)) (fun _ => ?_)
  iterate 2 refine x_step rfl ?_
  refine x_ialdN (6) rfl (cw_talk hj) rfl (by omega) ?_
  iterate 2 refine x_step rfl ?_
  refine x_ialdN (6) rfl rfl rfl (by omega) ?_
  refine x_icmp_eq rfl (fun _ => ?_) (fun q => absurd h.1 q)
  iterate 2 refine x_step rfl ?_
  refine xm_ls (pl' := [some (.ref (57 + j)), some (.ref 67), some (.ref 68), some (.int 7)]) rfl ?_
  iterate 2 refine x_step rfl ?_
  refine x_icmp_ge rfl (fun q => absurd q (by decide)) (fun _ => ?_)
  iterate 2 refine x_step rfl ?_
  refine x_ialdN (7) rfl (cw_talk hj) rfl (by omega) ?_
  iterate 2 refine x_step rfl ?_
  refine x_ialdN (7) rfl rfl rfl (by omega) ?_
  refine x_icmp_eq rfl (fun _ => ?_) (fun q => absurd h.2.1 q)
  iterate 2 refine x_step rfl ?_
  refine xm_ls (pl' := [some (.ref (57 + j)), some (.ref 67), some (.ref 68), some (.int 8)]) rfl ?_
  iterate 2 refine x_step rfl ?_
  refine x_icmp_ge rfl (fun q => absurd q (by decide)) (fun _ => ?_)
  iterate 2 refine x_step rfl ?_
  refine x_ialdN (8) rfl (cw_talk hj) rfl (by omega) ?_
  iterate 2 refine x_step rfl ?_
  refine x_ialdN (8) rfl rfl rfl (by omega) ?_
  refine x_icmp_eq rfl (fun _ => ?_) (fun q => absurd h.2.2.1 q)
  iterate 2 refine x_step rfl ?_
  refine xm_ls (pl' := [some (.ref (57 + j)), some (.ref 67), some (.ref 68), some (.int 9)]) rfl ?_
  iterate 2 refine x_step rfl ?_
  refine x_icmp_ge rfl (fun q => absurd q (by decide)) (fun _ => ?_)
  iterate 2 refine x_step rfl ?_
  refine x_ialdN (9) rfl (cw_talk hj) rfl (by omega) ?_
  iterate 2 refine x_step rfl ?_
  refine x_ialdN (9) rfl rfl rfl (by omega) ?_
  refine x_icmp_eq rfl (fun _ => ?_) (fun q => absurd h.2.2.2.1 q)
  iterate 2 refine x_step rfl ?_
  refine xm_ls (pl' := [some (.ref (57 + j)), some (.ref 67), some (.ref 68), some (.int 10)]) rfl ?_
  iterate 2 refine x_step rfl ?_
  refine x_icmp_ge rfl (fun _ => ?_) (fun q => absurd (by decide) q)
  refine x_step rfl ?_
  refine x_callvE rfl (m72 (d := 0) rfl rfl) rfl rfl rfl ?_
  refine x_if_eq rfl (fun h3 => ?_) (fun h3 => ?_)
  · have e5 := h.2.2.2.2.2
    iterate 4 refine x_step rfl ?_
    refine x_if_eq rfl (fun q => absurd q (by decide)) (fun _ => ?_)
    iterate 2 refine x_step rfl ?_
    refine x_ialdN (2) rfl (cw_talk hj) rfl (by omega) ?_
    iterate 3 refine x_step rfl ?_
    refine x_callvE rfl (m76 (d := 0) rfl rfl) rfl rfl rfl ?_
    refine x_icmp_ne rfl (fun q => absurd e5 q) (fun _ => ?_)
    iterate 2 refine x_step rfl ?_
    exact x_iret rfl rfl rfl ⟨rfl, rfl⟩
  · refine x_step rfl ?_
    refine x_callvE rfl (m72 (d := 0) rfl rfl) rfl rfl rfl ?_
    iterate 2 refine x_step rfl ?_
    refine x_ialdN (3) rfl (cw_talk hj) rfl (by omega) ?_
    iterate 2 refine x_step rfl ?_
    refine x_icmp_ne rfl (fun q => absurd (h.2.2.2.2.1.resolve_left h3) q) (fun _ => ?_)
    have e5 := h.2.2.2.2.2
    iterate 4 refine x_step rfl ?_
    refine x_if_eq rfl (fun q => absurd q (by decide)) (fun _ => ?_)
    iterate 2 refine x_step rfl ?_
    refine x_ialdN (2) rfl (cw_talk hj) rfl (by omega) ?_
    iterate 3 refine x_step rfl ?_
    refine x_callvE rfl (m76 (d := 0) rfl rfl) rfl rfl rfl ?_
    refine x_icmp_ne rfl (fun q => absurd e5 q) (fun _ => ?_)
    iterate 2 refine x_step rfl ?_
    exact x_iret rfl rfl rfl ⟨rfl, rfl⟩
/-- Talks.isAnswer -/
theorem n75n {j : Nat} (hj : j < 8) (hd : 1 ≤ d) (h : ¬ xanP (kr j) gb) : XM l 75 d 0 0 [.ref (57 + j), .ref 67] (cw L xs g tc tf bl bf of oc ol on ml mx mb kc kh kr ka gl gx gb ls lq lk lg lh vf vs vb nv nw nr nq ne io sp ch wt xf xz xt xb xc) (xm_is (some (.int 0)) (cw L xs g tc tf bl bf of oc ol on ml mx mb kc kh kr ka gl gx gb ls lq lk lg lh vf vs vb nv nw nr nq ne io sp ch wt xf xz xt xb xc)) := by
  refine XE (pl := [some (.ref (57 + j)), some (.ref 67), none, none]) xg75 rfl ?_
  refine x_step rfl ?_
  refine x_callvE rfl (m36 (d := 0) rfl) rfl rfl rfl ?_
  iterate 3 refine x_step rfl ?_
  refine xm_ls (pl' := [some (.ref (57 + j)), some (.ref 67), some (.ref 68), some (.int 6)]) rfl ?_
  iterate 2 refine x_step rfl ?_
  refine x_icmp_ge rfl (fun q => absurd q (by decide)) (fun _ => ?_)
  iterate 2 refine x_step rfl ?_
  refine x_ialdN (6) rfl (cw_talk hj) rfl (by omega) ?_
  iterate 2 refine x_step rfl ?_
  refine x_ialdN (6) rfl rfl rfl (by omega) ?_
  refine x_icmp_eq rfl (fun h6 => ?_) (fun h6 => ?_)
  · iterate 2 refine x_step rfl ?_
    refine xm_ls (pl' := [some (.ref (57 + j)), some (.ref 67), some (.ref 68), some (.int 7)]) rfl ?_
    iterate 2 refine x_step rfl ?_
    refine x_icmp_ge rfl (fun q => absurd q (by decide)) (fun _ => ?_)
    iterate 2 refine x_step rfl ?_
    refine x_ialdN (7) rfl (cw_talk hj) rfl (by omega) ?_
    iterate 2 refine x_step rfl ?_
    refine x_ialdN (7) rfl rfl rfl (by omega) ?_
    refine x_icmp_eq rfl (fun h7 => ?_) (fun h7 => ?_)
    · iterate 2 refine x_step rfl ?_
      refine xm_ls (pl' := [some (.ref (57 + j)), some (.ref 67), some (.ref 68), some (.int 8)]) rfl ?_
      iterate 2 refine x_step rfl ?_
      refine x_icmp_ge rfl (fun q => absurd q (by decide)) (fun _ => ?_)
      iterate 2 refine x_step rfl ?_
      refine x_ialdN (8) rfl (cw_talk hj) rfl (by omega) ?_
      iterate 2 refine x_step rfl ?_
      refine x_ialdN (8) rfl rfl rfl (by omega) ?_
      refine x_icmp_eq rfl (fun h8 => ?_) (fun h8 => ?_)
      · iterate 2 refine x_step rfl ?_
        refine xm_ls (pl' := [some (.ref (57 + j)), some (.ref 67), some (.ref 68), some (.int 9)]) rfl ?_
        iterate 2 refine x_step rfl ?_
        refine x_icmp_ge rfl (fun q => absurd q (by decide)) (fun _ => ?_)
        iterate 2 refine x_step rfl ?_
        refine x_ialdN (9) rfl (cw_talk hj) rfl (by omega) ?_
        iterate 2 refine x_step rfl ?_
        refine x_ialdN (9) rfl rfl rfl (by omega) ?_
        refine x_icmp_eq rfl (fun h9 => ?_) (fun h9 => ?_)
        · iterate 2 refine x_step rfl ?_
          refine xm_ls (pl' := [some (.ref (57 + j)), some (.ref 67), some (.ref 68), some (.int 10)]) rfl ?_
          iterate 2 refine x_step rfl ?_
          refine x_icmp_ge rfl (fun _ => ?_) (fun q => absurd (by decide) q)
          refine x_step rfl ?_
          refine x_callvE rfl (m72 (d := 0) rfl rfl) rfl rfl rfl ?_
          refine x_if_eq rfl (fun h3 => ?_) (fun h3 => ?_)
          · iterate 4 refine x_step rfl ?_
            refine x_if_eq rfl (fun q => absurd q (by decide)) (fun _ => ?_)
            iterate 2 refine x_step rfl ?_
            refine x_ialdN (2) rfl (cw_talk hj) rfl (by omega) ?_
            iterate 3 refine x_step rfl ?_
            refine x_callvE rfl (m76 (d := 0) rfl rfl) rfl rfl rfl ?_
            refine x_icmp_ne rfl (fun e5 => ?_) (fun e5 => ?_)
            · refine x_step rfl ?_
              exact x_iret rfl rfl rfl ⟨rfl, rfl⟩
            · exact absurd ⟨h6, h7, h8, h9, Or.inl h3, e5⟩ h
          · refine x_step rfl ?_
            refine x_callvE rfl (m72 (d := 0) rfl rfl) rfl rfl rfl ?_
            iterate 2 refine x_step rfl ?_
            refine x_ialdN (3) rfl (cw_talk hj) rfl (by omega) ?_
            iterate 2 refine x_step rfl ?_
            refine x_icmp_ne rfl (fun h4 => ?_) (fun h4 => ?_)
            · iterate 3 refine x_step rfl ?_
              refine x_if_eq rfl (fun _ => ?_) (fun q => absurd (by decide) q)
              refine x_step rfl ?_
              exact x_iret rfl rfl rfl ⟨rfl, rfl⟩
            · iterate 4 refine x_step rfl ?_
              refine x_if_eq rfl (fun q => absurd q (by decide)) (fun _ => ?_)
              iterate 2 refine x_step rfl ?_
              refine x_ialdN (2) rfl (cw_talk hj) rfl (by omega) ?_
              iterate 3 refine x_step rfl ?_
              refine x_callvE rfl (m76 (d := 0) rfl rfl) rfl rfl rfl ?_
              refine x_icmp_ne rfl (fun e5 => ?_) (fun e5 => ?_)
              · refine x_step rfl ?_
                exact x_iret rfl rfl rfl ⟨rfl, rfl⟩
              · exact absurd ⟨h6, h7, h8, h9, Or.inr h4, e5⟩ h
        · refine x_step rfl ?_
          exact x_iret rfl rfl rfl ⟨rfl, rfl⟩
      · refine x_step rfl ?_
        exact x_iret rfl rfl rfl ⟨rfl, rfl⟩
    · refine x_step rfl ?_
      exact x_iret rfl rfl rfl ⟨rfl, rfl⟩
  · refine x_step rfl ?_
    exact x_iret rfl rfl rfl ⟨rfl, rfl⟩
theorem n74_loop {v0 : Option Value} (t i : Nat) (hd : 2 ≤ d) (ht : t ≤ 8) (hit : i ≤ t) (hk : ∀ j, j < 8 → kh j < 8) (hn : ∀ j, j < i → ¬ xanP (kr (kh j)) gb) (hK : XW l 74 d 0 0 2 [some (.ref 55), some (.ref 67), some (.int (nI i))] [] (cw L xs g tc tf bl bf of oc ol on ml mx mb (nI t) kh kr ka gl gx gb ls lq lk lg lh vf vs vb nv nw nr nq ne io sp ch wt xf xz xt xb xc) (xm_is v0 (cw L xs g tc tf bl bf of oc ol on ml mx mb (nI t) kh kr ka gl gx gb ls lq lk lg lh vf vs vb nv nw nr nq ne io sp ch wt xf xz xt xb xc))) : ∀ (r j : Nat), j + r = i → XW l 74 d 0 0 2 [some (.ref 55), some (.ref 67), some (.int (nI j))] [] (cw L xs g tc tf bl bf of oc ol on ml mx mb (nI t) kh kr ka gl gx gb ls lq lk lg lh vf vs vb nv nw nr nq ne io sp ch wt xf xz xt xb xc) (xm_is v0 (cw L xs g tc tf bl bf of oc ol on ml mx mb (nI t) kh kr ka gl gx gb ls lq lk lg lh vf vs vb nv nw nr nq ne io sp ch wt xf xz xt xb xc)) := by
  intro r
  induction r with
  | zero =>
    intro j hj
    obtain rfl : j = i := by omega
    exact hK
  | succ r ih =>
    intro j hj
    iterate 3 refine x_step rfl ?_
    refine x_icmpN_ge (j) (t) rfl rfl rfl (fun q => False.elim (by omega)) (fun _ => ?_)
    iterate 3 refine x_step rfl ?_
    refine x_aaldN (j) rfl rfl rfl (by omega) rfl ?_
    refine x_step rfl ?_
    refine x_callsE rfl (n75n (d := 1) (hk j (by omega)) (by omega) (hn j (by omega))) rfl rfl ?_
    refine x_if_eq rfl (fun _ => ?_) (fun q => absurd (by decide) q)
    iterate 2 refine x_step rfl ?_
    refine xm_ls (pl' := [some (.ref 55), some (.ref 67), some (.int (nI (j + 1)))]) (by rw [nI_succ] <;> rfl) ?_
    exact ih (j + 1) (by omega)
/-- Talks.find -/
theorem n74f (t i : Nat) (hd : 2 ≤ d) (ht : t ≤ 8) (hit : i < t) (hk : ∀ j, j < 8 → kh j < 8) (hn : ∀ j, j < i → ¬ xanP (kr (kh j)) gb) (hy : xanP (kr (kh i)) gb) : XM l 74 d 0 0 [.ref 55, .ref 67] (cw L xs g tc tf bl bf of oc ol on ml mx mb (nI t) kh kr ka gl gx gb ls lq lk lg lh vf vs vb nv nw nr nq ne io sp ch wt xf xz xt xb xc) (xm_is (some (.int (nI i))) (cw L xs g tc tf bl bf of oc ol on ml mx mb (nI t) kh kr ka gl gx gb ls lq lk lg lh vf vs vb nv nw nr nq ne io sp ch wt xf xz xt xb xc)) := by
  refine XE (pl := [some (.ref 55), some (.ref 67), none]) xg74 rfl ?_
  iterate 2 refine x_step rfl ?_
  refine xm_ls (pl' := [some (.ref 55), some (.ref 67), some (.int (nI 0))]) rfl ?_
  refine n74_loop t i hd ht (by omega) hk hn ?_ i 0 (by omega)
  iterate 3 refine x_step rfl ?_
  refine x_icmpN_ge (i) (t) rfl rfl rfl (fun q => False.elim (by omega)) (fun _ => ?_)
  iterate 3 refine x_step rfl ?_
  refine x_aaldN (i) rfl rfl rfl (by omega) rfl ?_
  refine x_step rfl ?_
  refine x_callsE rfl (n75y (d := 1) (hk i (by omega)) (by omega) hy) rfl rfl ?_
  refine x_if_eq rfl (fun q => absurd q (by decide)) (fun _ => ?_)
  refine x_step rfl ?_
  exact x_iret rfl rfl rfl ⟨rfl, rfl⟩
/-- Talks.find -/
theorem n74m (t : Nat) (hd : 2 ≤ d) (ht : t ≤ 8) (hk : ∀ j, j < 8 → kh j < 8) (hn : ∀ j, j < t → ¬ xanP (kr (kh j)) gb) : XM l 74 d 0 0 [.ref 55, .ref 67] (cw L xs g tc tf bl bf of oc ol on ml mx mb (nI t) kh kr ka gl gx gb ls lq lk lg lh vf vs vb nv nw nr nq ne io sp ch wt xf xz xt xb xc) (xm_is (some (.int (-1))) (cw L xs g tc tf bl bf of oc ol on ml mx mb (nI t) kh kr ka gl gx gb ls lq lk lg lh vf vs vb nv nw nr nq ne io sp ch wt xf xz xt xb xc)) := by
  refine XE (pl := [some (.ref 55), some (.ref 67), none]) xg74 rfl ?_
  iterate 2 refine x_step rfl ?_
  refine xm_ls (pl' := [some (.ref 55), some (.ref 67), some (.int (nI 0))]) rfl ?_
  refine n74_loop t t hd ht (by omega) hk hn ?_ t 0 (by omega)
  iterate 3 refine x_step rfl ?_
  refine x_icmpN_ge (t) (t) rfl rfl rfl (fun _ => ?_) (fun q => False.elim (by omega))
  refine x_step rfl ?_
  exact x_iret rfl rfl rfl ⟨rfl, rfl⟩
/-- Talks.isGreeting -/
theorem n77y (t i : Nat) (ht : t ≤ 8) (hit : i < t) (hk : ∀ j, j < 8 → kh j < 8) (h1 : kr (kh i) 2 &&& 127 = 1) (h2 : kr (kh i) 3 = 13) : XM l 77 d 0 0 [.ref 55, .int (nI i)] (cw L xs g tc tf bl bf of oc ol on ml mx mb (nI t) kh kr ka gl gx gb ls lq lk lg lh vf vs vb nv nw nr nq ne io sp ch wt xf xz xt xb xc) (xm_is (some (.int 1)) (cw L xs g tc tf bl bf of oc ol on ml mx mb (nI t) kh kr ka gl gx gb ls lq lk lg lh vf vs vb nv nw nr nq ne io sp ch wt xf xz xt xb xc)) := by
  refine XE (pl := [some (.ref 55), some (.int (nI i))]) xg77 rfl ?_
  refine x_step rfl ?_
  refine x_ifN_lt (i) rfl rfl (fun q => False.elim (by omega)) (fun _ => ?_)
  iterate 3 refine x_step rfl ?_
  refine x_icmpN_ge (i) (t) rfl rfl rfl (fun q => False.elim (by omega)) (fun _ => ?_)
  iterate 3 refine x_step rfl ?_
  refine x_aaldN (i) rfl rfl rfl (by omega) rfl ?_
  refine x_step rfl ?_
  refine x_ialdN (2) rfl (cw_talk (hk i (by omega))) rfl (by omega) ?_
  iterate 3 refine x_step rfl ?_
  refine x_icmp_ne rfl (fun q => absurd h1 q) (fun _ => ?_)
  iterate 3 refine x_step rfl ?_
  refine x_aaldN (i) rfl rfl rfl (by omega) rfl ?_
  refine x_step rfl ?_
  refine x_ialdN (3) rfl (cw_talk (hk i (by omega))) rfl (by omega) ?_
  refine x_step rfl ?_
  refine x_icmp_ne rfl (fun q => absurd h2 q) (fun _ => ?_)
  iterate 2 refine x_step rfl ?_
  exact x_iret rfl rfl rfl ⟨rfl, rfl⟩
/-- Talks.isGreeting -/
theorem n77n (t i : Nat) (ht : t ≤ 8) (hit : i < t) (hk : ∀ j, j < 8 → kh j < 8) (h : ¬ (kr (kh i) 2 &&& 127 = 1 ∧ kr (kh i) 3 = 13)) : XM l 77 d 0 0 [.ref 55, .int (nI i)] (cw L xs g tc tf bl bf of oc ol on ml mx mb (nI t) kh kr ka gl gx gb ls lq lk lg lh vf vs vb nv nw nr nq ne io sp ch wt xf xz xt xb xc) (xm_is (some (.int 0)) (cw L xs g tc tf bl bf of oc ol on ml mx mb (nI t) kh kr ka gl gx gb ls lq lk lg lh vf vs vb nv nw nr nq ne io sp ch wt xf xz xt xb xc)) := by
  refine XE (pl := [some (.ref 55), some (.int (nI i))]) xg77 rfl ?_
  refine x_step rfl ?_
  refine x_ifN_lt (i) rfl rfl (fun q => False.elim (by omega)) (fun _ => ?_)
  iterate 3 refine x_step rfl ?_
  refine x_icmpN_ge (i) (t) rfl rfl rfl (fun q => False.elim (by omega)) (fun _ => ?_)
  iterate 3 refine x_step rfl ?_
  refine x_aaldN (i) rfl rfl rfl (by omega) rfl ?_
  refine x_step rfl ?_
  refine x_ialdN (2) rfl (cw_talk (hk i (by omega))) rfl (by omega) ?_
  iterate 3 refine x_step rfl ?_
  refine x_icmp_ne rfl (fun h1 => ?_) (fun h1 => ?_)
  · refine x_step rfl ?_
    exact x_iret rfl rfl rfl ⟨rfl, rfl⟩
  · iterate 3 refine x_step rfl ?_
    refine x_aaldN (i) rfl rfl rfl (by omega) rfl ?_
    refine x_step rfl ?_
    refine x_ialdN (3) rfl (cw_talk (hk i (by omega))) rfl (by omega) ?_
    refine x_step rfl ?_
    refine x_icmp_ne rfl (fun _ => ?_) (fun q => absurd ⟨h1, q⟩ h)
    refine x_step rfl ?_
    exact x_iret rfl rfl rfl ⟨rfl, rfl⟩
/-- Talks.isGreeting -/
theorem n77m  : XM l 77 d 0 0 [.ref 55, .int (-1)] (cw L xs g tc tf bl bf of oc ol on ml mx mb kc kh kr ka gl gx gb ls lq lk lg lh vf vs vb nv nw nr nq ne io sp ch wt xf xz xt xb xc) (xm_is (some (.int 0)) (cw L xs g tc tf bl bf of oc ol on ml mx mb kc kh kr ka gl gx gb ls lq lk lg lh vf vs vb nv nw nr nq ne io sp ch wt xf xz xt xb xc)) := by
  refine XE (pl := [some (.ref 55), some (.int (-1))]) xg77 rfl ?_
  refine x_step rfl ?_
  refine x_if_lt rfl (fun _ => ?_) (fun q => absurd (by decide) q)
  refine x_step rfl ?_
  exact x_iret rfl rfl rfl ⟨rfl, rfl⟩
end EC4
