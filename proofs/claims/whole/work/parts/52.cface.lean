section EC12
variable {l : Launch} {d L : Nat} {xs : Nat → Int32} {g : xm_H} {tc : Int32} {tf : (Nat → Int32)} {bl : Int32} {bf : (Nat → Int32)} {of : Int32} {oc : Int32} {ol : Int32} {on : Int32} {ml : (Nat → Int32)} {mx : (Nat → Int32)} {mb : (Nat → Nat → Int32)} {kc : Int32} {kh : (Nat → Nat)} {kr : (Nat → Nat → Int32)} {ka : (Nat → Int32)} {gl : Int32} {gx : Int32} {gb : (Nat → Int32)} {ls : Int32} {lq : Int32} {lk : Int32} {lg : Int32} {lh : Int32} {vf : (Nat → Int32)} {vs : (Nat → Int32)} {vb : (Nat → Nat → Int32)} {nv : (Nat → Int32)} {nw : (Nat → Nat → Int32)} {nr : (Nat → Int32)} {nq : (Nat → Nat → Int32)} {ne : (Nat → Int32)} {io : Int32} {sp : Int32} {ch : Int32} {wt : Int32} {xf : (Nat → Int32)} {xz : (Nat → Int32)} {xt : (Nat → Int32)} {xb : (Nat → Int32)} {xc : Int32}
variable {β : Nat → Nat} {e : Nat} {ps : List (Nat × Nat)}
/-- Desk.closeTalk -/
theorem n73m (t : Nat) (hd : 3 ≤ d) (ht : t ≤ 8) (hk : ∀ j, j < 8 → kh j < 8) (hn : ∀ j, j < t → ¬ xanP (kr (kh j)) gb) : XM l 73 d 0 0 [.ref 97] (cw L xs g tc tf bl bf of oc ol on ml mx mb (nI t) kh kr ka gl gx gb ls lq lk lg lh vf vs vb nv nw nr nq ne io sp ch wt xf xz xt xb xc) (xm_is none (cw L xs g tc tf bl bf of oc ol on ml mx mb (nI t) kh kr ka gl gx gb ls lq lk lg lh vf vs vb nv nw nr nq ne io sp ch wt xf xz xt xb xc)) := by
  refine XE (pl := [some (.ref 97), none]) xg73 rfl ?_
  iterate 4 refine x_step rfl ?_
  refine x_callvE rfl (n74m (d := 2) t (by omega) ht hk hn) rfl rfl rfl ?_
  iterate 4 refine x_step rfl ?_
  refine x_callvE rfl (n77m (d := 0)) rfl rfl rfl ?_
  refine x_if_eq rfl (fun _ => ?_) (fun q => absurd (by decide) q)
  iterate 3 refine x_step rfl ?_
  refine x_callvE rfl (n90m (d := 0)) rfl rfl rfl ?_
  exact x_ret rfl rfl ⟨rfl, rfl⟩
/-- Desk.closeTalk -/
theorem n73a (t c : Nat) (hd : 18 ≤ d) (ht : t < 8) (hc : c ≤ t) (hk : ∀ j, j < 8 → kh j < 8) (hn : ∀ j, j < c → ¬ xanP (kr (kh j)) gb) (hy : xanP (kr (kh c)) gb) (h : ¬ (kr (kh c) 2 &&& 127 = 1 ∧ kr (kh c) 3 = 13)) : XM l 73 d 0 0 [.ref 97] (cw L xs g tc tf bl bf of oc ol on ml mx mb (nI (t + 1)) kh kr ka gl gx gb ls lq lk lg lh vf vs vb nv nw nr nq ne io sp ch wt xf xz xt xb xc) (xm_is none (cw L xs g tc tf bl bf of oc ol on ml mx mb (nI t) (updn (xsh kh c (t - c)) t (kh c)) kr (xsh ka c (t - c)) gl gx gb ls lq lk lg lh vf vs vb nv nw nr nq ne io sp ch wt xf xz xt xb xc)) := by
  refine XE (pl := [some (.ref 97), none]) xg73 rfl ?_
  iterate 4 refine x_step rfl ?_
  refine x_callvE rfl (n74f (d := 2) (t + 1) c (by omega) (by omega) (by omega) hk hn hy) rfl rfl rfl ?_
  iterate 4 refine x_step rfl ?_
  refine x_callvE rfl (n77n (d := 0) (t + 1) c (by omega) (by omega) hk h) rfl rfl rfl ?_
  refine x_if_eq rfl (fun _ => ?_) (fun q => absurd (by decide) q)
  iterate 3 refine x_step rfl ?_
  refine x_callvE rfl (n90 (d := 0) t c ht hc hk) rfl rfl rfl ?_
  exact x_ret rfl rfl ⟨rfl, rfl⟩
/-- Desk.closeTalk -/
theorem n73b (t c : Nat) (hd : 18 ≤ d) (ht : t < 8) (hc : c ≤ t) (hk : ∀ j, j < 8 → kh j < 8) (hn : ∀ j, j < c → ¬ xanP (kr (kh j)) gb) (hy : xanP (kr (kh c)) gb) (h1 : kr (kh c) 2 &&& 127 = 1) (h2 : kr (kh c) 3 = 13) (h3 : ¬ gb 3 = 14) : XM l 73 d 0 0 [.ref 97] (cw L xs g tc tf bl bf of oc ol on ml mx mb (nI (t + 1)) kh kr ka gl gx gb ls lq lk lg lh vf vs vb nv nw nr nq ne io sp ch wt xf xz xt xb xc) (xm_is none (cw L xs g tc tf bl bf of oc ol on ml mx mb (nI t) (updn (xsh kh c (t - c)) t (kh c)) kr (xsh ka c (t - c)) gl gx gb ls lq lk lg lh vf vs vb nv nw nr nq ne io sp ch wt xf xz xt xb xc)) := by
  refine XE (pl := [some (.ref 97), none]) xg73 rfl ?_
  iterate 4 refine x_step rfl ?_
  refine x_callvE rfl (n74f (d := 2) (t + 1) c (by omega) (by omega) (by omega) hk hn hy) rfl rfl rfl ?_
  iterate 4 refine x_step rfl ?_
  refine x_callvE rfl (n77y (d := 0) (t + 1) c (by omega) (by omega) hk h1 h2) rfl rfl rfl ?_
  refine x_if_eq rfl (fun q => absurd q (by decide)) (fun _ => ?_)
  iterate 2 refine x_step rfl ?_
  refine x_callvE rfl (m72 (d := 0) rfl rfl) rfl rfl rfl ?_
  refine x_step rfl ?_
  refine x_icmp_ne rfl (fun _ => ?_) (fun q => absurd q h3)
  iterate 3 refine x_step rfl ?_
  refine x_callvE rfl (n90 (d := 0) t c ht hc hk) rfl rfl rfl ?_
  exact x_ret rfl rfl ⟨rfl, rfl⟩
/-- does the answer's body take the greeting -/
def dG (β : Nat → Nat) (e : Nat) : Bool := (itB β e).any (pGreet β)
/-- Desk.closeTalk: an answer to the greeting -/
theorem n73c {Q : Option Value → xm_H → Prop} (hg : ∀ i, i < 130 → gb i = nI (β i)) (hβ : ∀ i, β i < 256) (t c : Nat) (hd : 18 ≤ d) (ht : t < 8) (hc : c ≤ t) (hk : ∀ j, j < 8 → kh j < 8) (hn : ∀ j, j < c → ¬ xanP (kr (kh j)) gb) (hy : xanP (kr (kh c)) gb) (he : e ≤ 130) (h1 : kr (kh c) 2 &&& 127 = 1) (h2 : kr (kh c) 3 = 13) (h3 : gb 3 = 14) (hQ : ∀ (xf' xz' xt' xb' : Nat → Int32) (xc' : Int32), Q none (cw L xs g tc tf bl bf of oc ol on ml mx mb (nI t) (updn (xsh kh c (t - c)) t (kh c)) kr (xsh ka c (t - c)) (nI e) gx gb ls lq lk lg lh vf vs vb nv nw nr nq ne io (if dG β e then 1 else sp) ch wt (xf') (xz') (xt') (xb') (xc'))) : XM l 73 d 0 0 [.ref 97] (cw L xs g tc tf bl bf of oc ol on ml mx mb (nI (t + 1)) kh kr ka (nI e) gx gb ls lq lk lg lh vf vs vb nv nw nr nq ne io sp ch wt xf xz xt xb xc) Q := by
  refine XEq (pl := [some (.ref 97), none]) xg73 rfl ?_
  iterate 4 refine x_step rfl ?_
  refine x_callvE rfl (n74f (d := 2) (t + 1) c (by omega) (by omega) (by omega) hk hn hy) rfl rfl rfl ?_
  iterate 4 refine x_step rfl ?_
  refine x_callvE rfl (n77y (d := 0) (t + 1) c (by omega) (by omega) hk h1 h2) rfl rfl rfl ?_
  refine x_if_eq rfl (fun q => absurd q (by decide)) (fun _ => ?_)
  iterate 2 refine x_step rfl ?_
  refine x_callvE rfl (m72 (d := 0) rfl rfl) rfl rfl rfl ?_
  refine x_step rfl ?_
  refine x_icmp_ne rfl (fun q => absurd h3 q) (fun _ => ?_)
  iterate 2 refine x_step rfl ?_
  refine x_callv (a := 98) (as := []) (rest := []) rfl (by decide) (n78 (d := 16) hg hβ he (by omega)) (by omega) (Nat.zero_le _) (Nat.zero_le _) rfl rfl (by decide) rfl rfl ?_
  rintro v h ⟨xf', xz', xt', xb', xc', rfl, hP⟩
  rcases hP with ⟨g1, rfl⟩ | ⟨ps, g1, rfl, rfl, hA⟩
  · have hn : dG β e = false := by simp [dG, g1]
    have hq := hQ xf' xz' xt' xb' xc'
    rw [hn] at hq
    refine x_if_eq rfl (fun _ => ?_) (fun q => absurd rfl q)
    iterate 3 refine x_step rfl ?_
    refine x_callvE rfl (n90 (d := 0) t c ht hc hk) rfl rfl rfl ?_
    exact x_ret rfl rfl hq
  have hV := itB_V g1 he
  have hn : dG β e = pGreet β ps := by simp [dG, g1]
  refine x_if_eq rfl (fun q => absurd q (by decide)) (fun _ => ?_)
  iterate 2 refine x_step rfl ?_
  refine x_callvE rfl (n84 (d := 2) hg hβ hA hV (by omega)) rfl rfl rfl ?_
  refine x_if_eq rfl (fun h => ?_) (fun h => ?_)
  · have hq := hQ xf' xz' xt' xb' (nI ps.length)
    rw [hn, bI_f h] at hq
    iterate 3 refine x_step rfl ?_
    refine x_callvE rfl (n90 (d := 0) t c ht hc hk) rfl rfl rfl ?_
    exact x_ret rfl rfl hq
  have hq := hQ xf' xz' xt' xb' (nI ps.length)
  rw [hn, bI_t h] at hq
  iterate 2 refine x_step rfl ?_
  refine x_callvE rfl (n89 (d := 0)) rfl rfl rfl ?_
  iterate 3 refine x_step rfl ?_
  refine x_callvE rfl (n90 (d := 0) t c ht hc hk) rfl rfl rfl ?_
  exact x_ret rfl rfl hq
/-- Desk.carryOut behind its switch: the answer goes out, if one is wanted and it fits -/
theorem n108_r {Q : Option Value → xm_H → Prop} (B : List Int32) (hd : 4 ≤ d) (hw : ¬ gb 2 &&& 128 = 0) (hB : B.length ≤ 120) (hi : ¬ 8 ≤ oc → vp_in (of + oc - (of + oc) / 8 * 8) 8) (hQ : Q none (cw L xs g tc tf (nI (B).length) (xbd bf (B)) of (xoc oc) (xol oc ol) on (xml of oc ml (nI (B).length)) (xmx of oc mx) (xmb of oc mb (xbd bf (B)) (nI (B).length) (gb 2 &&& 127) (gb 3 + 1) (gb 6 <<< ((24 : Int32) &&& 31) ||| gb 7 <<< ((16 : Int32) &&& 31) ||| gb 8 <<< ((8 : Int32) &&& 31) ||| gb 9)) kc kh kr ka gl gx gb ls lq lk lg lh vf vs vb nv nw nr nq ne io sp ch wt xf xz xt xb xc)) : XW l 108 d 0 0 264 [some (.ref 97)] [] (cw L xs g tc tf (nI (B).length) (xbd bf (B)) of oc ol on ml mx mb kc kh kr ka gl gx gb ls lq lk lg lh vf vs vb nv nw nr nq ne io sp ch wt xf xz xt xb xc) Q := by
  iterate 2 refine x_step rfl ?_
  refine x_callvE rfl (m61 (d := 0) rfl rfl) rfl rfl rfl ?_
  refine x_if_eq rfl (fun q => absurd q (by rw [if_neg hw]; decide)) (fun _ => ?_)
  iterate 6 refine x_step rfl ?_
  refine x_callvE rfl (m72 (d := 0) rfl rfl) rfl rfl rfl ?_
  iterate 2 refine x_step rfl ?_
  refine x_callvE rfl (n144 (d := 3) B (gb 3 + 1) (by omega) hB hi) rfl rfl rfl ?_
  exact x_ret rfl rfl hQ
theorem n108_a {Q : Option Value → xm_H → Prop} (B : List Int32) (hd : 4 ≤ d) (hw : ¬ gb 2 &&& 128 = 0) (hB : 120 < B.length) (hB2 : B.length < 2 ^ 30) (hi : ¬ 8 ≤ oc → vp_in (of + oc - (of + oc) / 8 * 8) 8) (hQ : Q none (cw L xs g tc tf (nI ([] : List Int32).length) (xbd (xbd bf B) []) of (xoc oc) (xol oc ol) on (xml of oc ml (nI ([] : List Int32).length)) (xmx of oc mx) (xmb of oc mb (xbd (xbd bf B) ([] : List Int32)) (nI ([] : List Int32).length) (gb 2 &&& 127) (0) (gb 6 <<< ((24 : Int32) &&& 31) ||| gb 7 <<< ((16 : Int32) &&& 31) ||| gb 8 <<< ((8 : Int32) &&& 31) ||| gb 9)) kc kh kr ka gl gx gb ls lq lk lg lh vf vs vb nv nw nr nq ne io sp ch wt xf xz xt xb xc)) : XW l 108 d 0 0 264 [some (.ref 97)] [] (cw L xs g tc tf (nI (B).length) (xbd bf (B)) of oc ol on ml mx mb kc kh kr ka gl gx gb ls lq lk lg lh vf vs vb nv nw nr nq ne io sp ch wt xf xz xt xb xc) Q := by
  iterate 2 refine x_step rfl ?_
  refine x_callvE rfl (m61 (d := 0) rfl rfl) rfl rfl rfl ?_
  refine x_if_eq rfl (fun q => absurd q (by rw [if_neg hw]; decide)) (fun _ => ?_)
  iterate 6 refine x_step rfl ?_
  refine x_callvE rfl (m72 (d := 0) rfl rfl) rfl rfl rfl ?_
  iterate 2 refine x_step rfl ?_
  refine x_callvE rfl (n144a (d := 3) B (gb 3 + 1) (by omega) hB hB2 hi) rfl rfl rfl ?_
  exact x_ret rfl rfl hQ
theorem n108_n {Q : Option Value → xm_H → Prop} (hd : 1 ≤ d) (hw : gb 2 &&& 128 = 0) (hQ : Q none (cw L xs g tc tf bl bf of oc ol on ml mx mb kc kh kr ka gl gx gb ls lq lk lg lh vf vs vb nv nw nr nq ne io sp ch wt xf xz xt xb xc)) : XW l 108 d 0 0 264 [some (.ref 97)] [] (cw L xs g tc tf bl bf of oc ol on ml mx mb kc kh kr ka gl gx gb ls lq lk lg lh vf vs vb nv nw nr nq ne io sp ch wt xf xz xt xb xc) Q := by
  iterate 2 refine x_step rfl ?_
  refine x_callvE rfl (m61 (d := 0) rfl rfl) rfl rfl rfl ?_
  refine x_if_eq rfl (fun _ => ?_) (fun q => absurd (by rw [if_pos hw]) q)
  exact x_ret rfl rfl hQ
theorem n108_257 {Q : Option Value → xm_H → Prop} (hg : ∀ i, i < 130 → gb i = nI (β i)) (hβ : ∀ i, β i < 256) (hd : 6 ≤ d) (hK : XW l 108 d 0 0 264 [some (.ref 97)] [] (cw L xs g tc tf (nI (xwho).length) (xbd bf (xwho)) of oc ol on ml mx mb kc kh kr ka gl gx gb ls lq lk lg lh vf vs vb nv nw nr nq ne io sp ch wt xf xz xt xb xc) Q) (hk : dK β = 257) : XM l 108 d 0 0 [.ref 97] (cw L xs g tc tf bl bf of oc ol on ml mx mb kc kh kr ka gl gx gb ls lq lk lg lh vf vs vb nv nw nr nq ne io sp ch wt xf xz xt xb xc) Q := by
  refine XEq (pl := [some (.ref 97)]) xg108 rfl ?_
  refine x_step rfl ?_
  refine x_callvE rfl (n92 (d := 1) hg hβ (by omega)) rfl rfl rfl ?_
  rw [hk]
  refine x_lsw rfl (t := 96) (by decide) ?_
  iterate 2 refine x_step rfl ?_
  refine x_callvE rfl (m18 (d := 1) (by omega)) rfl rfl rfl ?_
  refine xm_hs (hp' := (cw L xs g tc tf (nI ([] : List Int32).length) (xbd bf ([] : List Int32)) of oc ol on ml mx mb kc kh kr ka gl gx gb ls lq lk lg lh vf vs vb nv nw nr nq ne io sp ch wt xf xz xt xb xc)) (by rw [xbd_nil] <;> rfl) ?_
  refine x_callvE rfl (n109 (d := 5) (by omega)) rfl rfl rfl ?_
  refine x_step rfl ?_
  exact hK
theorem n108_259 {Q : Option Value → xm_H → Prop} (hg : ∀ i, i < 130 → gb i = nI (β i)) (hβ : ∀ i, β i < 256) (hA : itA β xf xz xt xb 0 ps) (hV : itV β ps) {sz : Nat → Nat} (hd : 6 ≤ d) (hz : ∀ v, v < 6 → vs v = nI (sz v) ∧ sz v ≤ 8) (hn : pS β ps 0 < 2 ^ 18) (hK : XW l 108 d 0 0 264 [some (.ref 97)] [] (cw L xs g tc tf (nI ([1, nI (pS β ps 0)] ++ xcat (fun k => tvL vf sz vb (pY β ps (k + 1) 0)) (pS β ps 0)).length) (xbd bf ([1, nI (pS β ps 0)] ++ xcat (fun k => tvL vf sz vb (pY β ps (k + 1) 0)) (pS β ps 0))) of oc ol on ml mx mb kc kh kr ka gl gx gb ls lq lk lg lh vf vs vb nv nw nr nq ne io sp ch wt xf xz xt xb (nI ps.length)) Q) (hk : dK β = 259) : XM l 108 d 0 0 [.ref 97] (cw L xs g tc tf bl bf of oc ol on ml mx mb kc kh kr ka gl gx gb ls lq lk lg lh vf vs vb nv nw nr nq ne io sp ch wt xf xz xt xb (nI ps.length)) Q := by
  refine XEq (pl := [some (.ref 97)]) xg108 rfl ?_
  refine x_step rfl ?_
  refine x_callvE rfl (n92 (d := 1) hg hβ (by omega)) rfl rfl rfl ?_
  rw [hk]
  refine x_lsw rfl (t := 109) (by decide) ?_
  refine x_step rfl ?_
  refine x_callvE rfl (n111 (d := 3) hg hβ hA hV (by omega) hz hn) rfl rfl rfl ?_
  refine x_step rfl ?_
  exact hK
theorem n108_269 {Q : Option Value → xm_H → Prop} (hg : ∀ i, i < 130 → gb i = nI (β i)) (hβ : ∀ i, β i < 256) (hd : 6 ≤ d) (hK : XW l 108 d 0 0 264 [some (.ref 97)] [] (cw L xs g tc tf (nI ([1, 2, 33, 1, 0, 1, 0]).length) (xbd bf ([1, 2, 33, 1, 0, 1, 0])) of oc ol on ml mx mb kc kh kr ka gl gx gb ls lq lk lg lh vf vs vb nv nw nr nq ne io (1) ch wt xf xz xt xb xc) Q) (hk : dK β = 269) : XM l 108 d 0 0 [.ref 97] (cw L xs g tc tf bl bf of oc ol on ml mx mb kc kh kr ka gl gx gb ls lq lk lg lh vf vs vb nv nw nr nq ne io sp ch wt xf xz xt xb xc) Q := by
  refine XEq (pl := [some (.ref 97)]) xg108 rfl ?_
  refine x_step rfl ?_
  refine x_callvE rfl (n92 (d := 1) hg hβ (by omega)) rfl rfl rfl ?_
  rw [hk]
  refine x_lsw rfl (t := 116) (by decide) ?_
  iterate 2 refine x_step rfl ?_
  refine x_callvE rfl (n89 (d := 0)) rfl rfl rfl ?_
  iterate 2 refine x_step rfl ?_
  refine x_callvE rfl (n114 (d := 2) 0 (by omega)) rfl rfl rfl ?_
  refine x_step rfl ?_
  exact hK
theorem n108_271 {Q : Option Value → xm_H → Prop} (hg : ∀ i, i < 130 → gb i = nI (β i)) (hβ : ∀ i, β i < 256) {bl' : Int32} {bf' : Nat → Int32} {on' : Int32} {oc' : Int32} {ol' : Int32} {ml' : Nat → Int32} {mx' : Nat → Int32} {mb' : Nat → Nat → Int32} {vf' : Nat → Int32} {vs' : Nat → Int32} {vb' : Nat → Nat → Int32} {nv' : Nat → Int32} {nw' : Nat → Nat → Int32} {nr' : Nat → Int32} {nq' : Nat → Nat → Int32} {ne' : Nat → Int32} {wt' : Int32} {dd : Nat} (hd : 6 ≤ d) (hdd : dd < d) (hM : XM l 116 dd 0 0 [.ref 69, .int 1] (cw L xs g tc tf bl bf of oc ol on ml mx mb kc kh kr ka gl gx gb ls lq lk lg lh vf vs vb nv nw nr nq ne io sp ch wt xf xz xt xb xc) (xm_is none (cw L xs g tc tf (bl') (bf') of (oc') (ol') (on') (ml') (mx') (mb') kc kh kr ka gl gx gb ls lq lk lg lh (vf') (vs') (vb') (nv') (nw') (nr') (nq') (ne') io sp ch (wt') xf xz xt xb xc))) (hK : XW l 108 d 0 0 264 [some (.ref 97)] [] (cw L xs g tc tf (nI ([33, 1, 0]).length) (xbd bf' ([33, 1, 0])) of (oc') (ol') (on') (ml') (mx') (mb') kc kh kr ka gl gx gb ls lq lk lg lh (vf') (vs') (vb') (nv') (nw') (nr') (nq') (ne') io sp ch (wt') xf xz xt xb xc) Q) (hk : dK β = 271) : XM l 108 d 0 0 [.ref 97] (cw L xs g tc tf bl bf of oc ol on ml mx mb kc kh kr ka gl gx gb ls lq lk lg lh vf vs vb nv nw nr nq ne io sp ch wt xf xz xt xb xc) Q := by
  refine XEq (pl := [some (.ref 97)]) xg108 rfl ?_
  refine x_step rfl ?_
  refine x_callvE rfl (n92 (d := 1) hg hβ (by omega)) rfl rfl rfl ?_
  rw [hk]
  refine x_lsw rfl (t := 131) (by decide) ?_
  iterate 3 refine x_step rfl ?_
  refine x_callvE rfl (hM) rfl rfl rfl ?_
  iterate 2 refine x_step rfl ?_
  refine x_callvE rfl (n120 (d := 2) 0 (by omega)) rfl rfl rfl ?_
  refine x_step rfl ?_
  exact hK
theorem n108_273 {Q : Option Value → xm_H → Prop} (hg : ∀ i, i < 130 → gb i = nI (β i)) (hβ : ∀ i, β i < 256) {bl' : Int32} {bf' : Nat → Int32} {on' : Int32} {oc' : Int32} {ol' : Int32} {ml' : Nat → Int32} {mx' : Nat → Int32} {mb' : Nat → Nat → Int32} {vf' : Nat → Int32} {vs' : Nat → Int32} {vb' : Nat → Nat → Int32} {nv' : Nat → Int32} {nw' : Nat → Nat → Int32} {nr' : Nat → Int32} {nq' : Nat → Nat → Int32} {ne' : Nat → Int32} {wt' : Int32} {r : Int32} {dd : Nat} (hd : 6 ≤ d) (hdd : dd < d) (hM : XM l 121 dd 0 0 [.ref 69] (cw L xs g tc tf bl bf of oc ol on ml mx mb kc kh kr ka gl gx gb ls lq lk lg lh vf vs vb nv nw nr nq ne io sp ch wt xf xz xt xb xc) (xm_is (some (.int r)) (cw L xs g tc tf (bl') (bf') of (oc') (ol') (on') (ml') (mx') (mb') kc kh kr ka gl gx gb ls lq lk lg lh (vf') (vs') (vb') (nv') (nw') (nr') (nq') (ne') io sp ch (wt') xf xz xt xb xc))) (hK : XW l 108 d 0 0 264 [some (.ref 97)] [] (cw L xs g tc tf (nI ([33, 1, r]).length) (xbd bf' ([33, 1, r])) of (oc') (ol') (on') (ml') (mx') (mb') kc kh kr ka gl gx gb ls lq lk lg lh (vf') (vs') (vb') (nv') (nw') (nr') (nq') (ne') io sp ch (wt') xf xz xt xb xc) Q) (hk : dK β = 273) : XM l 108 d 0 0 [.ref 97] (cw L xs g tc tf bl bf of oc ol on ml mx mb kc kh kr ka gl gx gb ls lq lk lg lh vf vs vb nv nw nr nq ne io sp ch wt xf xz xt xb xc) Q := by
  refine XEq (pl := [some (.ref 97)]) xg108 rfl ?_
  refine x_step rfl ?_
  refine x_callvE rfl (n92 (d := 1) hg hβ (by omega)) rfl rfl rfl ?_
  rw [hk]
  refine x_lsw rfl (t := 147) (by decide) ?_
  iterate 3 refine x_step rfl ?_
  refine x_callvE rfl (hM) rfl rfl rfl ?_
  refine x_callvE rfl (n120 (d := 2) r (by omega)) rfl rfl rfl ?_
  refine x_step rfl ?_
  exact hK
theorem n108_527 {Q : Option Value → xm_H → Prop} (hg : ∀ i, i < 130 → gb i = nI (β i)) (hβ : ∀ i, β i < 256) {bl' : Int32} {bf' : Nat → Int32} {on' : Int32} {oc' : Int32} {ol' : Int32} {ml' : Nat → Int32} {mx' : Nat → Int32} {mb' : Nat → Nat → Int32} {vf' : Nat → Int32} {vs' : Nat → Int32} {vb' : Nat → Nat → Int32} {nv' : Nat → Int32} {nw' : Nat → Nat → Int32} {nr' : Nat → Int32} {nq' : Nat → Nat → Int32} {ne' : Nat → Int32} {wt' : Int32} {r : Int32} {dd : Nat} (hd : 6 ≤ d) (hdd : dd < d) (hM : XM l 122 dd 0 0 [.ref 70, .ref 98] (cw L xs g tc tf bl bf of oc ol on ml mx mb kc kh kr ka gl gx gb ls lq lk lg lh vf vs vb nv nw nr nq ne io sp ch wt xf xz xt xb xc) (xm_is (some (.int r)) (cw L xs g tc tf (bl') (bf') of (oc') (ol') (on') (ml') (mx') (mb') kc kh kr ka gl gx gb ls lq lk lg lh (vf') (vs') (vb') (nv') (nw') (nr') (nq') (ne') io sp ch (wt') xf xz xt xb xc))) (hK : XW l 108 d 0 0 264 [some (.ref 97)] [] (cw L xs g tc tf (nI ([33, 1, r]).length) (xbd bf' ([33, 1, r])) of (oc') (ol') (on') (ml') (mx') (mb') kc kh kr ka gl gx gb ls lq lk lg lh (vf') (vs') (vb') (nv') (nw') (nr') (nq') (ne') io sp ch (wt') xf xz xt xb xc) Q) (hk : dK β = 527) : XM l 108 d 0 0 [.ref 97] (cw L xs g tc tf bl bf of oc ol on ml mx mb kc kh kr ka gl gx gb ls lq lk lg lh vf vs vb nv nw nr nq ne io sp ch wt xf xz xt xb xc) Q := by
  refine XEq (pl := [some (.ref 97)]) xg108 rfl ?_
  refine x_step rfl ?_
  refine x_callvE rfl (n92 (d := 1) hg hβ (by omega)) rfl rfl rfl ?_
  rw [hk]
  refine x_lsw rfl (t := 161) (by decide) ?_
  iterate 3 refine x_step rfl ?_
  refine x_callvE rfl ((r113 (d := 0)).xm) rfl rfl rfl ?_
  iterate 2 refine x_step rfl ?_
  refine x_callvE rfl (hM) rfl rfl rfl ?_
  refine x_callvE rfl (n120 (d := 2) r (by omega)) rfl rfl rfl ?_
  refine x_step rfl ?_
  exact hK
theorem n108_545 {Q : Option Value → xm_H → Prop} (hg : ∀ i, i < 130 → gb i = nI (β i)) (hβ : ∀ i, β i < 256) {bl' : Int32} {bf' : Nat → Int32} {on' : Int32} {oc' : Int32} {ol' : Int32} {ml' : Nat → Int32} {mx' : Nat → Int32} {mb' : Nat → Nat → Int32} {vf' : Nat → Int32} {vs' : Nat → Int32} {vb' : Nat → Nat → Int32} {nv' : Nat → Int32} {nw' : Nat → Nat → Int32} {nr' : Nat → Int32} {nq' : Nat → Nat → Int32} {ne' : Nat → Int32} {wt' : Int32} {r : Int32} {dd : Nat} (hd : 6 ≤ d) (hdd : dd < d) (hM : XM l 126 dd 0 0 [.ref 80, .ref 98] (cw L xs g tc tf bl bf of oc ol on ml mx mb kc kh kr ka gl gx gb ls lq lk lg lh vf vs vb nv nw nr nq ne io sp ch wt xf xz xt xb xc) (xm_is (some (.int r)) (cw L xs g tc tf (bl') (bf') of (oc') (ol') (on') (ml') (mx') (mb') kc kh kr ka gl gx gb ls lq lk lg lh (vf') (vs') (vb') (nv') (nw') (nr') (nq') (ne') io sp ch (wt') xf xz xt xb xc))) (hK : XW l 108 d 0 0 264 [some (.ref 97)] [] (cw L xs g tc tf (nI ([33, 1, r]).length) (xbd bf' ([33, 1, r])) of (oc') (ol') (on') (ml') (mx') (mb') kc kh kr ka gl gx gb ls lq lk lg lh (vf') (vs') (vb') (nv') (nw') (nr') (nq') (ne') io sp ch (wt') xf xz xt xb xc) Q) (hk : dK β = 545) : XM l 108 d 0 0 [.ref 97] (cw L xs g tc tf bl bf of oc ol on ml mx mb kc kh kr ka gl gx gb ls lq lk lg lh vf vs vb nv nw nr nq ne io sp ch wt xf xz xt xb xc) Q := by
  refine XEq (pl := [some (.ref 97)]) xg108 rfl ?_
  refine x_step rfl ?_
  refine x_callvE rfl (n92 (d := 1) hg hβ (by omega)) rfl rfl rfl ?_
  rw [hk]
  refine x_lsw rfl (t := 182) (by decide) ?_
  iterate 3 refine x_step rfl ?_
  refine x_callvE rfl ((r125 (d := 0)).xm) rfl rfl rfl ?_
  iterate 2 refine x_step rfl ?_
  refine x_callvE rfl (hM) rfl rfl rfl ?_
  refine x_callvE rfl (n120 (d := 2) r (by omega)) rfl rfl rfl ?_
  refine x_step rfl ?_
  exact hK
theorem n108_547 {Q : Option Value → xm_H → Prop} (hg : ∀ i, i < 130 → gb i = nI (β i)) (hβ : ∀ i, β i < 256) {bl' : Int32} {bf' : Nat → Int32} {on' : Int32} {oc' : Int32} {ol' : Int32} {ml' : Nat → Int32} {mx' : Nat → Int32} {mb' : Nat → Nat → Int32} {vf' : Nat → Int32} {vs' : Nat → Int32} {vb' : Nat → Nat → Int32} {nv' : Nat → Int32} {nw' : Nat → Nat → Int32} {nr' : Nat → Int32} {nq' : Nat → Nat → Int32} {ne' : Nat → Int32} {wt' : Int32} {r : Int32} {dd : Nat} (hd : 6 ≤ d) (hdd : dd < d) (hM : XM l 132 dd 0 0 [.ref 80, .ref 98] (cw L xs g tc tf bl bf of oc ol on ml mx mb kc kh kr ka gl gx gb ls lq lk lg lh vf vs vb nv nw nr nq ne io sp ch wt xf xz xt xb xc) (xm_is (some (.int r)) (cw L xs g tc tf (bl') (bf') of (oc') (ol') (on') (ml') (mx') (mb') kc kh kr ka gl gx gb ls lq lk lg lh (vf') (vs') (vb') (nv') (nw') (nr') (nq') (ne') io sp ch (wt') xf xz xt xb xc))) (hK : XW l 108 d 0 0 264 [some (.ref 97)] [] (cw L xs g tc tf (nI ([33, 1, r]).length) (xbd bf' ([33, 1, r])) of (oc') (ol') (on') (ml') (mx') (mb') kc kh kr ka gl gx gb ls lq lk lg lh (vf') (vs') (vb') (nv') (nw') (nr') (nq') (ne') io sp ch (wt') xf xz xt xb xc) Q) (hk : dK β = 547) : XM l 108 d 0 0 [.ref 97] (cw L xs g tc tf bl bf of oc ol on ml mx mb kc kh kr ka gl gx gb ls lq lk lg lh vf vs vb nv nw nr nq ne io sp ch wt xf xz xt xb xc) Q := by
  refine XEq (pl := [some (.ref 97)]) xg108 rfl ?_
  refine x_step rfl ?_
  refine x_callvE rfl (n92 (d := 1) hg hβ (by omega)) rfl rfl rfl ?_
  rw [hk]
  refine x_lsw rfl (t := 203) (by decide) ?_
  iterate 3 refine x_step rfl ?_
  refine x_callvE rfl ((r125 (d := 0)).xm) rfl rfl rfl ?_
  iterate 2 refine x_step rfl ?_
  refine x_callvE rfl (hM) rfl rfl rfl ?_
  refine x_callvE rfl (n120 (d := 2) r (by omega)) rfl rfl rfl ?_
  refine x_step rfl ?_
  exact hK
theorem n108_549 {Q : Option Value → xm_H → Prop} (hg : ∀ i, i < 130 → gb i = nI (β i)) (hβ : ∀ i, β i < 256) {bl' : Int32} {bf' : Nat → Int32} {on' : Int32} {oc' : Int32} {ol' : Int32} {ml' : Nat → Int32} {mx' : Nat → Int32} {mb' : Nat → Nat → Int32} {vf' : Nat → Int32} {vs' : Nat → Int32} {vb' : Nat → Nat → Int32} {nv' : Nat → Int32} {nw' : Nat → Nat → Int32} {nr' : Nat → Int32} {nq' : Nat → Nat → Int32} {ne' : Nat → Int32} {wt' : Int32} {r : Int32} {dd : Nat} (hd : 6 ≤ d) (hdd : dd < d) (hM : XM l 135 dd 0 0 [.ref 80, .ref 98] (cw L xs g tc tf bl bf of oc ol on ml mx mb kc kh kr ka gl gx gb ls lq lk lg lh vf vs vb nv nw nr nq ne io sp ch wt xf xz xt xb xc) (xm_is (some (.int r)) (cw L xs g tc tf (bl') (bf') of (oc') (ol') (on') (ml') (mx') (mb') kc kh kr ka gl gx gb ls lq lk lg lh (vf') (vs') (vb') (nv') (nw') (nr') (nq') (ne') io sp ch (wt') xf xz xt xb xc))) (hK : XW l 108 d 0 0 264 [some (.ref 97)] [] (cw L xs g tc tf (nI ([33, 1, r]).length) (xbd bf' ([33, 1, r])) of (oc') (ol') (on') (ml') (mx') (mb') kc kh kr ka gl gx gb ls lq lk lg lh (vf') (vs') (vb') (nv') (nw') (nr') (nq') (ne') io sp ch (wt') xf xz xt xb xc) Q) (hk : dK β = 549) : XM l 108 d 0 0 [.ref 97] (cw L xs g tc tf bl bf of oc ol on ml mx mb kc kh kr ka gl gx gb ls lq lk lg lh vf vs vb nv nw nr nq ne io sp ch wt xf xz xt xb xc) Q := by
  refine XEq (pl := [some (.ref 97)]) xg108 rfl ?_
  refine x_step rfl ?_
  refine x_callvE rfl (n92 (d := 1) hg hβ (by omega)) rfl rfl rfl ?_
  rw [hk]
  refine x_lsw rfl (t := 224) (by decide) ?_
  iterate 3 refine x_step rfl ?_
  refine x_callvE rfl ((r125 (d := 0)).xm) rfl rfl rfl ?_
  iterate 2 refine x_step rfl ?_
  refine x_callvE rfl (hM) rfl rfl rfl ?_
  refine x_callvE rfl (n120 (d := 2) r (by omega)) rfl rfl rfl ?_
  refine x_step rfl ?_
  exact hK
theorem n108_553 {Q : Option Value → xm_H → Prop} (hg : ∀ i, i < 130 → gb i = nI (β i)) (hβ : ∀ i, β i < 256) {bl' : Int32} {bf' : Nat → Int32} {on' : Int32} {oc' : Int32} {ol' : Int32} {ml' : Nat → Int32} {mx' : Nat → Int32} {mb' : Nat → Nat → Int32} {vf' : Nat → Int32} {vs' : Nat → Int32} {vb' : Nat → Nat → Int32} {nv' : Nat → Int32} {nw' : Nat → Nat → Int32} {nr' : Nat → Int32} {nq' : Nat → Nat → Int32} {ne' : Nat → Int32} {wt' : Int32} {r : Int32} {dd : Nat} (hd : 6 ≤ d) (hdd : dd < d) (hM : XM l 138 dd 0 0 [.ref 69, .ref 98] (cw L xs g tc tf bl bf of oc ol on ml mx mb kc kh kr ka gl gx gb ls lq lk lg lh vf vs vb nv nw nr nq ne io sp ch wt xf xz xt xb xc) (xm_is (some (.int r)) (cw L xs g tc tf (bl') (bf') of (oc') (ol') (on') (ml') (mx') (mb') kc kh kr ka gl gx gb ls lq lk lg lh (vf') (vs') (vb') (nv') (nw') (nr') (nq') (ne') io sp ch (wt') xf xz xt xb xc))) (hK : XW l 108 d 0 0 264 [some (.ref 97)] [] (cw L xs g tc tf (nI ([1, 2, 33, 1, r, 1, 0]).length) (xbd bf' ([1, 2, 33, 1, r, 1, 0])) of (oc') (ol') (on') (ml') (mx') (mb') kc kh kr ka gl gx gb ls lq lk lg lh (vf') (vs') (vb') (nv') (nw') (nr') (nq') (ne') io sp ch (wt') xf xz xt xb xc) Q) (hk : dK β = 553) : XM l 108 d 0 0 [.ref 97] (cw L xs g tc tf bl bf of oc ol on ml mx mb kc kh kr ka gl gx gb ls lq lk lg lh vf vs vb nv nw nr nq ne io sp ch wt xf xz xt xb xc) Q := by
  refine XEq (pl := [some (.ref 97)]) xg108 rfl ?_
  refine x_step rfl ?_
  refine x_callvE rfl (n92 (d := 1) hg hβ (by omega)) rfl rfl rfl ?_
  rw [hk]
  refine x_lsw rfl (t := 245) (by decide) ?_
  iterate 5 refine x_step rfl ?_
  refine x_callvE rfl (hM) rfl rfl rfl ?_
  refine x_callvE rfl (n114 (d := 2) r (by omega)) rfl rfl rfl ?_
  refine x_step rfl ?_
  exact hK
/-- FabLink.hear: no message was taken -/
theorem n45n {Q : Option Value → xm_H → Prop} {h0 h1 : xm_H} {f0 f1 f2 f3 : List Value} {n n1 : Int32} {dd : Nat} (x : Int32) (h0x : ¬ x < 0) (h255 : x ≤ 255) (hd : 1 ≤ d) (hdd : dd < d) (hM : XM l 46 dd 0 0 [.ref 66, .int x] (cw L xs g tc tf bl bf of oc ol on ml mx mb kc kh kr ka gl gx gb ls lq lk lg lh vf vs vb nv nw nr nq ne io sp ch wt xf xz xt xb xc) (xm_is (some (.int 0)) h0)) (e0 : h0[32]? = some (xO 0 f0)) (e03 : f0[3]? = some (.ref 66)) (e1 : h0[66]? = some (xO 6 f1)) (hS : XM l 38 dd 0 0 [.ref 66] h0 (xm_is none h1)) (e2 : h1[32]? = some (xO 0 f2)) (e20 : f2[0]? = some (.ref 33)) (e3 : h1[33]? = some (xO 1 f3)) (hT : XM l 44 0 0 0 [.ref 33] h1 (xm_is (some (.int n1)) h1)) (hQ : Q (some (.int (n1 - tc))) h1) : XM l 45 d 1 6 [.ref 32, .int x] (cw L xs g tc tf bl bf of oc ol on ml mx mb kc kh kr ka gl gx gb ls lq lk lg lh vf vs vb nv nw nr nq ne io sp ch wt xf xz xt xb xc) Q := by
  refine XEq (pl := [some (.ref 32), some (.int x), none]) xg45 rfl ?_
  refine x_step rfl ?_
  refine x_if_lt rfl (fun q => absurd q h0x) (fun _ => ?_)
  iterate 2 refine x_step rfl ?_
  refine x_icmp_le rfl (fun _ => ?_) (fun q => absurd h255 q)
  iterate 2 refine x_step rfl ?_
  refine x_callvE rfl (m44 (d := 0)) rfl rfl rfl ?_
  iterate 4 refine x_step rfl ?_
  refine x_callvE rfl hM rfl rfl rfl ?_
  refine x_if_eq rfl (fun _ => ?_) (fun q => absurd rfl q)
  refine x_step rfl ?_
  refine x_getf rfl e0 e03 ?_
  refine x_callvE rfl hS rfl rfl e1 ?_
  refine x_step rfl ?_
  refine x_getf rfl e2 e20 ?_
  refine x_callvE rfl hT rfl rfl e3 ?_
  iterate 2 refine x_step rfl ?_
  exact x_iret rfl rfl rfl hQ
end EC12
