section EC6
variable {l : Launch} {d L : Nat} {xs : Nat → Int32} {g : xm_H} {tc : Int32} {tf : (Nat → Int32)} {bl : Int32} {bf : (Nat → Int32)} {of : Int32} {oc : Int32} {ol : Int32} {on : Int32} {ml : (Nat → Int32)} {mx : (Nat → Int32)} {mb : (Nat → Nat → Int32)} {kc : Int32} {kh : (Nat → Nat)} {kr : (Nat → Nat → Int32)} {ka : (Nat → Int32)} {gl : Int32} {gx : Int32} {gb : (Nat → Int32)} {ls : Int32} {lq : Int32} {lk : Int32} {lg : Int32} {lh : Int32} {vf : (Nat → Int32)} {vs : (Nat → Int32)} {vb : (Nat → Nat → Int32)} {nv : (Nat → Int32)} {nw : (Nat → Nat → Int32)} {nr : (Nat → Int32)} {nq : (Nat → Nat → Int32)} {ne : (Nat → Int32)} {io : Int32} {sp : Int32} {ch : Int32} {wt : Int32} {xf : (Nat → Int32)} {xz : (Nat → Int32)} {xt : (Nat → Int32)} {xb : (Nat → Int32)} {xc : Int32}
variable {β : Nat → Nat} {e : Nat}
theorem XW.mono {k rc rs pc : Nat} {pl : List (Option Value)} {st : List Value} {hp : xm_H} {Q Q' : Option Value → xm_H → Prop} (h : XW l k d rc rs pc pl st hp Q) (hq : ∀ v h, Q v h → Q' v h) : XW l k d rc rs pc pl st hp Q' := by
  intro G p e R s m args below meth c H locs cells slots ls hCP hR hL T hT X
  obtain ⟨t, a1, o, b1, b2, ⟨v, hp1, hv, ho⟩, rest⟩ := h G p e R s m args below meth c H locs cells slots ls hCP hR hL T hT X
  exact ⟨t, a1, o, b1, b2, ⟨v, hp1, hq _ _ hv, ho⟩, rest⟩
theorem XEq {k mc ms : Nat} {as : List Value} {pl : List (Option Value)} {hp : xm_H} {Q : Option Value → xm_H → Prop} (hg : xm_good k) (hpl : as.map some ++ List.replicate (xm_ml k - as.length) none = pl) (h : XW l k d mc ms 0 pl [] hp Q) (hpn : plainFor (xm_nm k) = true := by decide +kernel) (hca : as.all (fun v => Nat.beq v.category 1) = true := by rfl) (hle : Nat.ble as.length (xm_ml k) = true := by rfl) : XM l k d mc ms as hp Q :=
  XM_of hg hpn (fun v hv => Nat.eq_of_beq_eq_true (List.all_eq_true.mp hca v hv)) (Nat.le_of_ble_eq_true hle) hpl h
theorem sz_step (z b : Nat) : nI z * 256 + nI b = nI (z * 256 + b) := by
  rw [← nI_add, ← pk_mul]
  rfl
theorem nI_ne_m1 {q : Nat} (h : q < 2 ^ 31) : ¬ nI q = -1 := fun z => nI_pos h (by rw [z]; decide)
def itL (β : Nat → Nat) (e : Nat) (D S T : Nat) : itO := match D with
  | 0 => none
  | D + 1 => itI (itR β e D) S T
theorem itR_eq (D p : Nat) : itR β e D p = if p < e ∧ ¬ itK β p = 0 ∧ itT β p ≤ e then (if itF β p = 0 then (itL β e D (itS β p) (itT β p)).map fun r => ((p, 1 + r.1.length) :: r.1, r.2) else itLeaf β e p) else none := by
  cases D <;> rfl
theorem itP_app {f : Nat → itO} {m q c q' : Nat} {ps : List (Nat × Nat)} {xf xz xt xb xf' xz' xt' xb' xf'' xz'' xt'' xb'' : Nat → Int32} {xc' : Int32} {v : Option Value} (h1 : f q = some (ps, q')) (g1 : itE c xf' xf) (g2 : itE c xz' xz) (g3 : itE c xt' xt) (g4 : itE c xb' xb) (hA : itA β xf' xz' xt' xb' c ps) (h2 : itP β (itI f m q') (c + ps.length) xf' xz' xt' xb' xf'' xz'' xt'' xb'' xc' v) : itP β (itI f (m + 1) q) c xf xz xt xb xf'' xz'' xt'' xb'' xc' v := by
  have e1 : itI f (m + 1) q = (itI f m q').map fun s => (ps ++ s.1, s.2) := by
    rw [itI, h1]
    rfl
  rw [e1]
  rcases h2 with ⟨a, b⟩ | ⟨qs, r, a, b, c2, k1, k2, k3, k4, kA⟩
  · exact Or.inl ⟨by rw [a]; rfl, b⟩
  · refine Or.inr ⟨ps ++ qs, r, by rw [a]; rfl, b, by rw [c2, List.length_append, Nat.add_assoc], k1.trans g1 (by omega), k2.trans g2 (by omega), k3.trans g3 (by omega), k4.trans g4 (by omega), ?_⟩
    exact (hA.keep (Nat.le_refl _) k1 k2 k3 k4).app kA
theorem n79_sz {Q : xm_Q} (hg : ∀ i, i < 130 → gb i = nI (β i)) (hβ : ∀ i, β i < 256) (he : e ≤ 130) (p : Nat) (dp : Int32) (hT : itT β p ≤ e) (hK : XG l xm_any 79 d 0 0 105 [some (.ref 98), some (.int (nI p)), some (.int dp), some (.ref 68), some (.int (nI e)), some (.int (nI (itT β p))), some (.int (nI (itS β p))), some (.int (nI (itT β p))), none] [] (cw L xs g tc tf bl bf of oc ol on ml mx mb kc kh kr ka gl gx gb ls lq lk lg lh vf vs vb nv nw nr nq ne io sp ch wt xf xz xt xb xc) Q) : ∀ (r k : Nat), k + r = itK β p → XG l xm_any 79 d 0 0 79 [some (.ref 98), some (.int (nI p)), some (.int dp), some (.ref 68), some (.int (nI e)), some (.int (nI (itT β p))), some (.int (nI (itZ β p k))), some (.int (nI (p + 1 + k))), none] [] (cw L xs g tc tf bl bf of oc ol on ml mx mb kc kh kr ka gl gx gb ls lq lk lg lh vf vs vb nv nw nr nq ne io sp ch wt xf xz xt xb xc) Q := by
  have hTe : itT β p = p + 1 + itK β p := rfl
  intro r
  induction r with
  | zero =>
    intro k hk
    obtain rfl : k = itK β p := by omega
    iterate 2 refine x_step rfl ?_
    refine x_icmpN_ge (p + 1 + itK β p) (itT β p) rfl rfl rfl (fun _ => ?_) (fun q => False.elim (by omega))
    exact hK
  | succ r ih =>
    intro k hk
    iterate 2 refine x_step rfl ?_
    refine x_icmpN_ge (p + 1 + k) (itT β p) rfl rfl rfl (fun q => False.elim (by omega)) (fun _ => ?_)
    iterate 5 refine x_step rfl ?_
    refine x_ialdN (p + 1 + k) rfl rfl rfl (by omega) ?_
    iterate 4 refine x_step rfl ?_
    refine xm_ls (pl' := [some (.ref 98), some (.int (nI p)), some (.int dp), some (.ref 68), some (.int (nI e)), some (.int (nI (itT β p))), some (.int (nI (itZ β p (k + 1)))), some (.int (nI (p + 1 + (k + 1)))), none]) (by rw [hg (p + 1 + k) (by omega), sz_step, show nI (p + 1 + k) + 1 = nI (p + 1 + (k + 1)) from nI_1 _] <;> rfl) ?_
    exact ih (k + 1) (by omega)
theorem n81_loop (hg : ∀ i, i < 130 → gb i = nI (β i)) (hβ : ∀ i, β i < 256) (he : e ≤ 130) (D c0 S : Nat) (hD : D < 6) (hS : S < 2 ^ 24) (hc60 : c0 < 60) (hI : (∀ (p c : Nat) (xf xz xt xb : Nat → Int32), 10 + 2 * c ≤ p → p < 2 ^ 20 → XM l 79 (2 * D + 3) 0 0 [.ref 98, .int (nI p), .int (nI (6 - D))] (cw L xs g tc tf bl bf of oc ol on ml mx mb kc kh kr ka (nI e) gx gb ls lq lk lg lh vf vs vb nv nw nr nq ne io sp ch wt xf xz xt xb (nI c)) (fun v h => ∃ (xf' xz' xt' xb' : Nat → Int32) (xc' : Int32), h = (cw L xs g tc tf bl bf of oc ol on ml mx mb kc kh kr ka (nI e) gx gb ls lq lk lg lh vf vs vb nv nw nr nq ne io sp ch wt (xf') (xz') (xt') (xb') (xc')) ∧ itP β (itR β e D p) c xf xz xt xb xf' xz' xt' xb' xc' v))) : ∀ (m i q c : Nat) (xf xz xt xb : Nat → Int32), i + m = S → c0 < c → xz c0 = nI S → 10 + 2 * c ≤ q → q ≤ e → XW l 81 (2 * D + 4) 0 0 18 [some (.ref 98), some (.int (nI c0)), some (.int (nI (5 - D))), some (.int (nI q)), some (.int (nI i))] [] (cw L xs g tc tf bl bf of oc ol on ml mx mb kc kh kr ka (nI e) gx gb ls lq lk lg lh vf vs vb nv nw nr nq ne io sp ch wt xf xz xt xb (nI c)) (fun v h => ∃ (xf' xz' xt' xb' : Nat → Int32) (xc' : Int32), h = (cw L xs g tc tf bl bf of oc ol on ml mx mb kc kh kr ka (nI e) gx gb ls lq lk lg lh vf vs vb nv nw nr nq ne io sp ch wt (xf') (xz') (xt') (xb') (xc')) ∧ itP β (itI (itR β e D) m q) c xf xz xt xb xf' xz' xt' xb' xc' v) := by
  intro m
  induction m with
  | zero =>
    intro i q c xf xz xt xb hi hc hz hq hqe
    obtain rfl : i = S := by omega
    iterate 4 refine x_step rfl ?_
    refine x_ialdN (c0) rfl rfl rfl (by omega) ?_
    refine x_icmpN_ge (i) (i) rfl rfl hz (fun _ => ?_) (fun q => False.elim (by omega))
    refine x_step rfl ?_
    exact x_iret rfl rfl rfl ⟨xf, xz, xt, xb, nI c, rfl, Or.inr ⟨[], q, rfl, rfl, rfl, fun _ _ => rfl, fun _ _ => rfl, fun _ _ => rfl, fun _ _ => rfl, fun i r hr => by cases hr⟩⟩
  | succ m ih =>
    intro i q c xf xz xt xb hi hc hz hq hqe
    iterate 4 refine x_step rfl ?_
    refine x_ialdN (c0) rfl rfl rfl (by omega) ?_
    refine x_icmpN_ge (i) (S) rfl rfl hz (fun q => False.elim (by omega)) (fun _ => ?_)
    iterate 2 refine x_step rfl ?_
    refine x_icmp_eq rfl (fun q => absurd q (nI_ne_m1 (by omega))) (fun _ => ?_)
    iterate 5 refine x_step rfl ?_
    refine xm_ss (st' := [.int (nI (6 - D)), .int (nI q), .ref 98]) (by rw [show nI (5 - D) + 1 = nI (6 - D) from by rw [nI_1]; congr 1; omega] <;> rfl) ?_
    refine x_callv (a := 98) (as := [.int (nI q), .int (nI (6 - D))]) (rest := []) rfl (by decide) (hI q c xf xz xt xb hq (by omega)) (by omega) (Nat.zero_le _) (Nat.zero_le _) rfl rfl (by decide) rfl rfl ?_
    rintro v h ⟨xf', xz', xt', xb', xc', rfl, hP⟩
    rcases hP with ⟨h1, rfl⟩ | ⟨ps, q', h1, rfl, rfl, g1, g2, g3, g4, hA⟩
    · have hn : itI (itR β e D) (m + 1) q = none := by rw [itI, h1]; rfl
      rw [hn]
      iterate 3 refine x_step rfl ?_
      iterate 4 refine x_step rfl ?_
      refine x_ialdN (c0) rfl rfl rfl (by omega) ?_
      refine x_icmp_ge rfl (fun _ => ?_) (fun _ => ?_)
      · refine x_step rfl ?_
        exact x_iret rfl rfl rfl ⟨xf', xz', xt', xb', xc', rfl, Or.inl ⟨rfl, rfl⟩⟩
      · iterate 2 refine x_step rfl ?_
        refine x_icmp_eq rfl (fun _ => ?_) (fun q => absurd rfl q)
        refine x_step rfl ?_
        exact x_iret rfl rfl rfl ⟨xf', xz', xt', xb', xc', rfl, Or.inl ⟨rfl, rfl⟩⟩
    have hlen := itR_len D q ps q' h1
    iterate 3 refine x_step rfl ?_
    refine xm_ls (pl' := [some (.ref 98), some (.int (nI c0)), some (.int (nI (5 - D))), some (.int (nI q')), some (.int (nI (i + 1)))]) (by rw [nI_succ] <;> rfl) ?_
    refine (ih (i + 1) q' (c + ps.length) xf' xz' xt' xb' (by omega) (by omega) ((g2 c0 hc).trans hz) (by omega) hlen.2).mono ?_
    rintro v h ⟨xf2, xz2, xt2, xb2, xc2, rfl, hP2⟩
    exact ⟨xf2, xz2, xt2, xb2, xc2, rfl, itP_app h1 g1 g2 g3 g4 hA hP2⟩
theorem n81 (hg : ∀ i, i < 130 → gb i = nI (β i)) (hβ : ∀ i, β i < 256) (he : e ≤ 130) (D c0 S T c : Nat) (hD : D ≤ 6) (hS : S < 2 ^ 24) (hc60 : c0 < 60) (hI : ∀ D', D = D' + 1 → (∀ (p c : Nat) (xf xz xt xb : Nat → Int32), 10 + 2 * c ≤ p → p < 2 ^ 20 → XM l 79 (2 * D' + 3) 0 0 [.ref 98, .int (nI p), .int (nI (6 - D'))] (cw L xs g tc tf bl bf of oc ol on ml mx mb kc kh kr ka (nI e) gx gb ls lq lk lg lh vf vs vb nv nw nr nq ne io sp ch wt xf xz xt xb (nI c)) (fun v h => ∃ (xf' xz' xt' xb' : Nat → Int32) (xc' : Int32), h = (cw L xs g tc tf bl bf of oc ol on ml mx mb kc kh kr ka (nI e) gx gb ls lq lk lg lh vf vs vb nv nw nr nq ne io sp ch wt (xf') (xz') (xt') (xb') (xc')) ∧ itP β (itR β e D' p) c xf xz xt xb xf' xz' xt' xb' xc' v))) (hc : c0 < c) (hz : xz c0 = nI S) (ht : xt c0 = nI T) (hq : 10 + 2 * c ≤ T) (hT : T ≤ e) : XM l 81 (2 * D + 2) 0 0 [.ref 98, .int (nI c0), .int (nI (6 - D))] (cw L xs g tc tf bl bf of oc ol on ml mx mb kc kh kr ka (nI e) gx gb ls lq lk lg lh vf vs vb nv nw nr nq ne io sp ch wt xf xz xt xb (nI c)) (fun v h => ∃ (xf' xz' xt' xb' : Nat → Int32) (xc' : Int32), h = (cw L xs g tc tf bl bf of oc ol on ml mx mb kc kh kr ka (nI e) gx gb ls lq lk lg lh vf vs vb nv nw nr nq ne io sp ch wt (xf') (xz') (xt') (xb') (xc')) ∧ itP β (itL β e D S T) c xf xz xt xb xf' xz' xt' xb' xc' v) := by
  cases D with
  | zero =>
    refine XEq (pl := [some (.ref 98), some (.int (nI c0)), some (.int (nI (6 - 0))), none, none]) xg81 rfl ?_
    iterate 2 refine x_step rfl ?_
    refine x_icmpN_lt (6) (6) rfl rfl rfl (fun q => False.elim (by omega)) (fun _ => ?_)
    refine x_step rfl ?_
    exact x_iret rfl rfl rfl ⟨xf, xz, xt, xb, nI c, rfl, Or.inl ⟨rfl, rfl⟩⟩
  | succ D =>
    refine XEq (pl := [some (.ref 98), some (.int (nI c0)), some (.int (nI (6 - (D + 1)))), none, none]) xg81 rfl ?_
    iterate 2 refine x_step rfl ?_
    refine x_icmpN_lt (6 - (D + 1)) (6) rfl rfl rfl (fun _ => ?_) (fun q => False.elim (by omega))
    iterate 3 refine x_step rfl ?_
    refine x_ialdN (c0) rfl rfl rfl (by omega) ?_
    iterate 3 refine x_step rfl ?_
    refine xm_ls (pl' := [some (.ref 98), some (.int (nI c0)), some (.int (nI (5 - D))), some (.int (nI T)), some (.int (nI 0))]) (by rw [ht, show 6 - (D + 1) = 5 - D by omega] <;> rfl) ?_
    exact n81_loop hg hβ he D c0 S (by omega) hS hc60 (hI D rfl) S 0 T c xf xz xt xb (by omega) hc hz hq hT
theorem n79_and (b : Nat) (h : b < 256) : nI b &&& 3 = nI (b % 4) := pk_andN (by omega) (m := 3) 2 (by decide)
theorem n79_shr (b : Nat) (h : b < 256) : nI b >>> ((2 : Int32) &&& 31) = nI (b / 4) := pk_shrN (by omega) ((2 : Int32) &&& 31) 2 (by decide)
theorem itA_cons {xf xz xt xf' xz' xt' xb' : Nat → Int32} {c p n : Nat} {ps : List (Nat × Nat)} (hn : n = 1 + ps.length) (g1 : itE (c + 1) xf' (upd xf c (nI (itF β p)))) (g2 : itE (c + 1) xz' (upd xz c (nI (itS β p)))) (g3 : itE (c + 1) xt' (upd xt c (nI (itT β p)))) (hA : itA β xf' xz' xt' xb' (c + 1) ps) : itA β xf' xz' xt' (upd xb' c (nI (c + n))) c ((p, n) :: ps) := by
  intro i r hr
  cases i with
  | zero =>
    cases hr
    rw [Nat.add_zero, g1 c (by omega), g2 c (by omega), g3 c (by omega), pk_us, pk_us, pk_us, pk_us]
    exact ⟨rfl, rfl, rfl, rfl⟩
  | succ i =>
    have h := hA i r hr
    rw [pk_un (by omega), show c + (i + 1) = c + 1 + i by omega]
    exact h
theorem itE_upd {c : Nat} {f f' : Nat → Int32} {x : Int32} (h : itE (c + 1) f' (upd f c x)) : itE c f' f := fun j hj => (h j (by omega)).trans (pk_un (by omega))
theorem itE_back {c : Nat} {f f' : Nat → Int32} {x : Int32} (h : itE (c + 1) f' f) : itE c (upd f' c x) f := fun j hj => (pk_un (by omega)).trans (h j (by omega))
theorem itW_le (f : Nat) : itW f ≤ 8 := by
  unfold itW
  split
  · decide
  · split
    · decide
    · split
      · decide
      · split <;> decide
theorem n79_one (hg : ∀ i, i < 130 → gb i = nI (β i)) (hβ : ∀ i, β i < 256) (he : e ≤ 130) (D : Nat) (hD : D ≤ 6) (hI : ∀ D', D = D' + 1 → (∀ (p c : Nat) (xf xz xt xb : Nat → Int32), 10 + 2 * c ≤ p → p < 2 ^ 20 → XM l 79 (2 * D' + 3) 0 0 [.ref 98, .int (nI p), .int (nI (6 - D'))] (cw L xs g tc tf bl bf of oc ol on ml mx mb kc kh kr ka (nI e) gx gb ls lq lk lg lh vf vs vb nv nw nr nq ne io sp ch wt xf xz xt xb (nI c)) (fun v h => ∃ (xf' xz' xt' xb' : Nat → Int32) (xc' : Int32), h = (cw L xs g tc tf bl bf of oc ol on ml mx mb kc kh kr ka (nI e) gx gb ls lq lk lg lh vf vs vb nv nw nr nq ne io sp ch wt (xf') (xz') (xt') (xb') (xc')) ∧ itP β (itR β e D' p) c xf xz xt xb xf' xz' xt' xb' xc' v))) (p c : Nat) (hc : 10 + 2 * c ≤ p) (hp : p < 2 ^ 20) : XM l 79 (2 * D + 3) 0 0 [.ref 98, .int (nI p), .int (nI (6 - D))] (cw L xs g tc tf bl bf of oc ol on ml mx mb kc kh kr ka (nI e) gx gb ls lq lk lg lh vf vs vb nv nw nr nq ne io sp ch wt xf xz xt xb (nI c)) (fun v h => ∃ (xf' xz' xt' xb' : Nat → Int32) (xc' : Int32), h = (cw L xs g tc tf bl bf of oc ol on ml mx mb kc kh kr ka (nI e) gx gb ls lq lk lg lh vf vs vb nv nw nr nq ne io sp ch wt (xf') (xz') (xt') (xb') (xc')) ∧ itP β (itR β e D p) c xf xz xt xb xf' xz' xt' xb' xc' v) := by
  rw [itR_eq]
  have hTe : itT β p = p + 1 + itK β p := rfl
  have hK3 : itK β p ≤ 3 := by unfold itK; omega
  have hSl := itS_lt hβ p
  have hFl : itF β p < 64 := by have := hβ p; unfold itF; omega
  refine XEq (pl := [some (.ref 98), some (.int (nI p)), some (.int (nI (6 - D))), none, none, none, none, none, none]) xg79 rfl ?_
  iterate 2 refine x_step rfl ?_
  refine x_callvE rfl (m36 (d := 0) rfl) rfl rfl rfl ?_
  iterate 3 refine x_step rfl ?_
  refine x_callvE rfl (m51 (d := 0) rfl) rfl rfl rfl ?_
  refine x_step rfl ?_
  refine x_alen rfl rfl (Or.inl ⟨_, _, rfl⟩) rfl ?_
  refine x_callsE rfl (n80 (d := 0) e 130 (by omega) (by decide)) rfl rfl ?_
  refine x_step rfl ?_
  refine xm_ls (pl' := [some (.ref 98), some (.int (nI p)), some (.int (nI (6 - D))), some (.ref 68), some (.int (nI e)), none, none, none, none]) (by rw [Nat.min_eq_left he] <;> rfl) ?_
  refine x_step rfl ?_
  refine x_ifN_lt (p) rfl rfl (fun q => False.elim (by omega)) (fun _ => ?_)
  iterate 2 refine x_step rfl ?_
  refine x_icmpN_ge (p) (e) rfl rfl rfl (fun h1 => ?_) (fun h1 => ?_)
  · refine x_step rfl ?_
    exact x_iret rfl rfl rfl ⟨xf, xz, xt, xb, nI c, rfl, Or.inl ⟨by rw [if_neg (by omega)], rfl⟩⟩
  · iterate 3 refine x_step rfl ?_
    refine x_icmpN_lt (c) (60) rfl rfl rfl (fun _ => ?_) (fun q => False.elim (by omega))
    iterate 5 refine x_step rfl ?_
    refine x_ialdN (p) rfl rfl rfl (by omega) ?_
    iterate 4 refine x_step rfl ?_
    refine xm_ls (pl' := [some (.ref 98), some (.int (nI p)), some (.int (nI (6 - D))), some (.ref 68), some (.int (nI e)), some (.int (nI (itT β p))), none, none, none]) (by rw [hg p (by omega), n79_and _ (hβ p), nI_1, nI_add] <;> rfl) ?_
    iterate 4 refine x_step rfl ?_
    refine x_icmpN_eq (itT β p) (p + 1) rfl rfl (nI_1 p) (fun h2 => ?_) (fun h2 => ?_)
    · refine x_step rfl ?_
      exact x_iret rfl rfl rfl ⟨xf, xz, xt, xb, nI c, rfl, Or.inl ⟨by rw [if_neg (by omega)], rfl⟩⟩
    · iterate 2 refine x_step rfl ?_
      refine x_icmpN_le (itT β p) (e) rfl rfl rfl (fun h3 => ?_) (fun h3 => ?_)
      · iterate 6 refine x_step rfl ?_
        refine xm_ls (pl' := [some (.ref 98), some (.int (nI p)), some (.int (nI (6 - D))), some (.ref 68), some (.int (nI e)), some (.int (nI (itT β p))), some (.int (nI (itZ β p 0))), some (.int (nI (p + 1 + 0))), none]) (by rw [nI_1] <;> rfl) ?_
        refine n79_sz hg hβ he p (nI (6 - D)) h3 ?_ (itK β p) 0 (by omega)
        iterate 3 refine x_step rfl ?_
        refine xm_ls (pl' := [some (.ref 98), some (.int (nI p)), some (.int (nI (6 - D))), some (.ref 68), some (.int (nI e)), some (.int (nI (itT β p))), some (.int (nI (itS β p))), some (.int (nI c)), none]) rfl ?_
        iterate 6 refine x_step rfl ?_
        refine xm_hs (hp' := (cw L xs g tc tf bl bf of oc ol on ml mx mb kc kh kr ka (nI e) gx gb ls lq lk lg lh vf vs vb nv nw nr nq ne io sp ch wt xf xz xt xb (nI (c + 1)))) (by rw [nI_succ] <;> rfl) ?_
        iterate 5 refine x_step rfl ?_
        refine x_ialdN (p) rfl rfl rfl (by omega) ?_
        iterate 2 refine x_step rfl ?_
        refine x_iastN (c) rfl rfl rfl (by omega) ?_
        refine xm_hs (hp' := (cw L xs g tc tf bl bf of oc ol on ml mx mb kc kh kr ka (nI e) gx gb ls lq lk lg lh vf vs vb nv nw nr nq ne io sp ch wt (upd xf c (nI (itF β p))) xz xt xb (nI (c + 1)))) (by rw [hg p (by omega), n79_shr _ (hβ p)] <;> rfl) ?_
        iterate 4 refine x_step rfl ?_
        refine x_iastN (c) rfl rfl rfl (by omega) ?_
        iterate 4 refine x_step rfl ?_
        refine x_iastN (c) rfl rfl rfl (by omega) ?_
        refine xm_hs (hp' := (cw L xs g tc tf bl bf of oc ol on ml mx mb kc kh kr ka (nI e) gx gb ls lq lk lg lh vf vs vb nv nw nr nq ne io sp ch wt (upd xf c (nI (itF β p))) (upd xz c (nI (itS β p))) (upd xt c (nI (itT β p))) xb (nI (c + 1)))) rfl ?_
        iterate 3 refine x_step rfl ?_
        refine x_ialdN (c) rfl rfl rfl (by omega) ?_
        rw [if_pos ⟨h1, by omega, h3⟩]
        refine x_ifN_ne (itF β p) rfl pk_us (fun h4 => ?_) (fun h4 => ?_)
        · iterate 5 refine x_step rfl ?_
          refine x_ialdN (c) rfl rfl rfl (by omega) ?_
          refine xm_ss (st' := [.int (nI (itF β p)), .int (nI (itS β p)), .int (nI (itT β p))]) (by rw [pk_us] <;> rfl) ?_
          refine x_callsE rfl (n82 (d := 0) (itF β p) hFl) rfl rfl ?_
          rw [if_neg h4]
          by_cases h5 : 0 < itW (itF β p) ∧ itS β p % itW (itF β p) = 0 ∧ itS β p ≤ e - itT β p
          · refine x_step rfl ?_
            refine x_callsE rfl (n83y (d := 0) (itT β p) (itS β p) (itW (itF β p)) e h5.1 h5.2.1 h5.2.2 h3 (by omega) (itW_le _)) rfl rfl ?_
            iterate 6 refine x_step rfl ?_
            refine x_iastN (c) rfl rfl rfl (by omega) ?_
            refine x_step rfl ?_
            refine x_iret rfl rfl rfl ⟨_, _, _, _, _, rfl, Or.inr ⟨[(p, 1)], itT β p + itS β p, by rw [itLeaf, if_pos h5], rfl, rfl, fun j hj => pk_un (by omega), fun j hj => pk_un (by omega), fun j hj => pk_un (by omega), fun j hj => pk_un (by omega), ?_⟩⟩
            exact itA_cons (n := 1) (ps := []) rfl (fun _ _ => rfl) (fun _ _ => rfl) (fun _ _ => rfl) (fun i r hr => by cases hr)
          · refine x_step rfl ?_
            refine x_callsE rfl (n83n (d := 0) (itT β p) (itS β p) (itW (itF β p)) e h5 h3 (by omega) (by omega) (itW_le _)) rfl rfl ?_
            iterate 6 refine x_step rfl ?_
            refine x_iastN (c) rfl rfl rfl (by omega) ?_
            refine x_step rfl ?_
            exact x_iret rfl rfl rfl ⟨_, _, _, _, _, rfl, Or.inl ⟨by rw [itLeaf, if_neg h5], rfl⟩⟩
        · iterate 3 refine x_step rfl ?_
          rw [if_pos h4]
          refine x_callv (a := 98) (as := [.int (nI c), .int (nI (6 - D))]) (rest := []) rfl (by decide) (n81 hg hβ he D c (itS β p) (itT β p) (c + 1) hD hSl (by omega) hI (by omega) pk_us pk_us (by omega) h3) (by omega) (Nat.zero_le _) (Nat.zero_le _) rfl rfl (by decide) rfl rfl ?_
          rintro v h ⟨xf', xz', xt', xb', xc', rfl, hP⟩
          rcases hP with ⟨g0, rfl⟩ | ⟨ps, q, g0, rfl, rfl, g1, g2, g3, g4, hA⟩
          · iterate 7 refine x_step rfl ?_
            refine x_iastN (c) rfl rfl rfl (by omega) ?_
            refine x_step rfl ?_
            exact x_iret rfl rfl rfl ⟨_, _, _, _, _, rfl, Or.inl ⟨by rw [g0]; rfl, rfl⟩⟩
          · iterate 7 refine x_step rfl ?_
            refine x_iastN (c) rfl rfl rfl (by omega) ?_
            refine x_step rfl ?_
            refine x_iret rfl rfl rfl ⟨_, _, _, _, _, rfl, Or.inr ⟨(p, 1 + ps.length) :: ps, q, by rw [g0]; rfl, rfl, by rw [List.length_cons]; congr 1; omega, itE_upd g1, itE_upd g2, itE_upd g3, itE_back g4, ?_⟩⟩
            rw [show c + 1 + ps.length = c + (1 + ps.length) by omega]
            exact itA_cons rfl g1 g2 g3 hA
      · refine x_step rfl ?_
        exact x_iret rfl rfl rfl ⟨xf, xz, xt, xb, nI c, rfl, Or.inl ⟨by rw [if_neg (by omega)], rfl⟩⟩
theorem n79 (hg : ∀ i, i < 130 → gb i = nI (β i)) (hβ : ∀ i, β i < 256) (he : e ≤ 130) : ∀ (D : Nat), D ≤ 6 → (∀ (p c : Nat) (xf xz xt xb : Nat → Int32), 10 + 2 * c ≤ p → p < 2 ^ 20 → XM l 79 (2 * D + 3) 0 0 [.ref 98, .int (nI p), .int (nI (6 - D))] (cw L xs g tc tf bl bf of oc ol on ml mx mb kc kh kr ka (nI e) gx gb ls lq lk lg lh vf vs vb nv nw nr nq ne io sp ch wt xf xz xt xb (nI c)) (fun v h => ∃ (xf' xz' xt' xb' : Nat → Int32) (xc' : Int32), h = (cw L xs g tc tf bl bf of oc ol on ml mx mb kc kh kr ka (nI e) gx gb ls lq lk lg lh vf vs vb nv nw nr nq ne io sp ch wt (xf') (xz') (xt') (xb') (xc')) ∧ itP β (itR β e D p) c xf xz xt xb xf' xz' xt' xb' xc' v)) := by
  intro D
  induction D with
  | zero => exact fun hD p c xf xz xt xb hc hp => n79_one hg hβ he 0 hD (fun D' h => absurd h (by omega)) p c hc hp
  | succ D ih => exact fun hD p c xf xz xt xb hc hp => n79_one hg hβ he (D + 1) hD (fun D' h => by obtain rfl : D = D' := (by omega); exact ih (by omega)) p c hc hp
end EC6
