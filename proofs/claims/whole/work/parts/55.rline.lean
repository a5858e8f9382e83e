section ER3
variable {l : Launch} {d L : Nat} {xs : Nat → Int32} {tc : Int32} {tf : (Nat → Int32)} {bl : Int32} {bf : (Nat → Int32)} {of : Int32} {oc : Int32} {ol : Int32} {on : Int32} {ml : (Nat → Int32)} {mx : (Nat → Int32)} {mb : (Nat → Nat → Int32)} {kc : Int32} {kh : (Nat → Nat)} {kr : (Nat → Nat → Int32)} {ka : (Nat → Int32)} {gl : Int32} {gx : Int32} {gb : (Nat → Int32)} {ls : Int32} {lq : Int32} {lk : Int32} {lg : Int32} {lh : Int32} {vf : (Nat → Int32)} {vs : (Nat → Int32)} {vb : (Nat → Nat → Int32)} {nv : (Nat → Int32)} {nw : (Nat → Nat → Int32)} {nr : (Nat → Int32)} {nq : (Nat → Nat → Int32)} {ne : (Nat → Int32)} {io : Int32} {sp : Int32} {ch : Int32} {wt : Int32} {xf : (Nat → Int32)} {xz : (Nat → Int32)} {xt : (Nat → Int32)} {xb : (Nat → Int32)} {xc : Int32} {th : Int32} {jl : Int32} {js : Int32} {jh : Int32} {jb : (Nat → Int32)} {jc : Int32} {jr : (Nat → Int32)} {jq : Int32} {jQ : (Nat → Int32)} {jz : (Nat → Int32)} {jf : (Nat → Int32)} {jo : Int32} {jn : Int32} {jt : Int32} {jH : (Nat → Int32)} {jA : (Nat → Int32)} {jm : Int32} {jy : (Nat → Int32)} {je : Int32} {jp : Int32} {jk : Int32} {jx : Int32} {jw : Int32} {ju : Int32} {jF : (Nat → Int32)} {jL : (Nat → Int32)} {jO : (Nat → Int32)} {jS : (Nat → Int32)} {jT : (Nat → Int32)} {jU : (Nat → Int32)} {jV : (Nat → Int32)} {jW : (Nat → Int32)} {ja : Int32} {jG : (Nat → Int32)} {ov : (Nat → Value)} {g2 : xm_H}
/-- s places to the left: m entries from c on -/
def xshk (f : Nat → Int32) (c m s : Nat) : Nat → Int32 := fun j => if c ≤ j ∧ j < c + m then f (j + s) else f j
theorem xshk_0 (f : Nat → Int32) (c s : Nat) : xshk f c 0 s = f := by
  funext j
  unfold xshk
  rw [if_neg (by omega)]
theorem xshk_at (f : Nat → Int32) (c m s : Nat) : xshk f c m s (c + m + s) = f (c + m + s) := by
  unfold xshk
  rw [if_neg (by omega)]
theorem xshk_s (f : Nat → Int32) (c m s : Nat) : upd (xshk f c m s) (c + m) (f (c + m + s)) = xshk f c (m + 1) s := by
  funext j
  by_cases h : j = c + m
  · subst h
    rw [pk_us]
    unfold xshk
    rw [if_pos (by omega)]
  · rw [pk_un h]
    unfold xshk
    by_cases h2 : c ≤ j ∧ j < c + m
    · rw [if_pos h2, if_pos (by omega)]
    · rw [if_neg h2, if_neg (by omega)]
/-- say -/
theorem q173 (n : Nat) (x : Int32) (h : n < 2 ^ 30) : XM l 173 d 0 0 [.ref 103, .int x] (cw L xs (rw th jl js jh jb (nI n) jr jq jQ jz jf jo jn jt jH jA jm jy je jp jk jx jw ju jF jL jO jS jT jU jV jW ja jG ov g2) tc tf bl bf of oc ol on ml mx mb kc kh kr ka gl gx gb ls lq lk lg lh vf vs vb nv nw nr nq ne io sp ch wt xf xz xt xb xc) (xm_is none (cw L xs (rw th jl js jh jb (nI (n + 1)) (upd jr (n % 512) (x &&& 255)) jq jQ jz jf jo jn jt jH jA jm jy je jp jk jx jw ju jF jL jO jS jT jU jV jW ja jG ov g2) tc tf bl bf of oc ol on ml mx mb kc kh kr ka gl gx gb ls lq lk lg lh vf vs vb nv nw nr nq ne io sp ch wt xf xz xt xb xc)) := by
  have e : nI n - nI n / 512 * 512 = nI (n % 512) := pk_rem (d := 512) (by omega) (by decide) (by decide)
  have h1 : xrsay jr (nI n) x = upd jr (n % 512) (x &&& 255) := by
    unfold xrsay
    rw [e, nI_clamp (by omega)]
  rw [nI_succ, ← h1]
  exact m173 x (nI_pos (by omega))
theorem q226_b (q : Nat) (hq : q < 8) : ∀ (r i : Nat), i + r = q → XW l 226 d 0 0 48 [some (.ref 103), some (.int (nI i))] [] (cw L xs (rw th jl js jh jb jc jr (nI q) (xshk jQ 0 (130 * q) 130) (xshk jz 0 i 1) (xshk jf 0 i 1) jo jn jt jH jA jm jy je jp jk jx jw ju jF jL jO jS jT jU jV jW ja jG ov g2) tc tf bl bf of oc ol on ml mx mb kc kh kr ka gl gx gb ls lq lk lg lh vf vs vb nv nw nr nq ne io sp ch wt xf xz xt xb xc) (xm_is none (cw L xs (rw th jl js jh jb jc jr (nI q) (xshk jQ 0 (130 * q) 130) (xshk jz 0 q 1) (xshk jf 0 q 1) jo jn jt jH jA jm jy je jp jk jx jw ju jF jL jO jS jT jU jV jW ja jG ov g2) tc tf bl bf of oc ol on ml mx mb kc kh kr ka gl gx gb ls lq lk lg lh vf vs vb nv nw nr nq ne io sp ch wt xf xz xt xb xc)) := by
  intro r
  induction r with
  | zero =>
    intro i hi
    obtain rfl : i = q := by omega
    iterate 3 refine x_step rfl ?_
    refine x_icmpN_ge (i) (i) rfl rfl rfl (fun _ => ?_) (fun q => False.elim (by omega))
    exact x_ret rfl rfl ⟨rfl, rfl⟩
  | succ r ih =>
    intro i hi
    iterate 3 refine x_step rfl ?_
    refine x_icmpN_ge (i) (q) rfl rfl rfl (fun q => False.elim (by omega)) (fun _ => ?_)
    iterate 8 refine x_step rfl ?_
    refine x_ialdN (i + 1) rfl rfl (nI_1 i) (by omega) ?_
    refine x_iastN (i) rfl rfl rfl (by omega) ?_
    refine xm_hs (hp' := (cw L xs (rw th jl js jh jb jc jr (nI q) (xshk jQ 0 (130 * q) 130) (xshk jz 0 (i + 1) 1) (xshk jf 0 i 1) jo jn jt jH jA jm jy je jp jk jx jw ju jF jL jO jS jT jU jV jW ja jG ov g2) tc tf bl bf of oc ol on ml mx mb kc kh kr ka gl gx gb ls lq lk lg lh vf vs vb nv nw nr nq ne io sp ch wt xf xz xt xb xc)) (by rw [← xshk_s jz 0 i 1, ← xshk_at jz 0 i 1, Nat.zero_add] <;> rfl) ?_
    iterate 8 refine x_step rfl ?_
    refine x_ialdN (i + 1) rfl rfl (nI_1 i) (by omega) ?_
    refine x_iastN (i) rfl rfl rfl (by omega) ?_
    iterate 2 refine x_step rfl ?_
    refine xm_ls (pl' := [some (.ref 103), some (.int (nI (i + 1)))]) (by rw [nI_succ] <;> rfl) ?_
    refine xm_hs (hp' := (cw L xs (rw th jl js jh jb jc jr (nI q) (xshk jQ 0 (130 * q) 130) (xshk jz 0 (i + 1) 1) (xshk jf 0 (i + 1) 1) jo jn jt jH jA jm jy je jp jk jx jw ju jF jL jO jS jT jU jV jW ja jG ov g2) tc tf bl bf of oc ol on ml mx mb kc kh kr ka gl gx gb ls lq lk lg lh vf vs vb nv nw nr nq ne io sp ch wt xf xz xt xb xc)) (by rw [← xshk_s jf 0 i 1, ← xshk_at jf 0 i 1, Nat.zero_add] <;> rfl) ?_
    exact ih (i + 1) (by omega)
theorem q226_a (q : Nat) (hq : q < 8) : ∀ (r i : Nat), i + r = 130 * q → XW l 226 d 0 0 12 [some (.ref 103), some (.int (nI i))] [] (cw L xs (rw th jl js jh jb jc jr (nI q) (xshk jQ 0 i 130) jz jf jo jn jt jH jA jm jy je jp jk jx jw ju jF jL jO jS jT jU jV jW ja jG ov g2) tc tf bl bf of oc ol on ml mx mb kc kh kr ka gl gx gb ls lq lk lg lh vf vs vb nv nw nr nq ne io sp ch wt xf xz xt xb xc) (xm_is none (cw L xs (rw th jl js jh jb jc jr (nI q) (xshk jQ 0 (130 * q) 130) (xshk jz 0 q 1) (xshk jf 0 q 1) jo jn jt jH jA jm jy je jp jk jx jw ju jF jL jO jS jT jU jV jW ja jG ov g2) tc tf bl bf of oc ol on ml mx mb kc kh kr ka gl gx gb ls lq lk lg lh vf vs vb nv nw nr nq ne io sp ch wt xf xz xt xb xc)) := by
  intro r
  induction r with
  | zero =>
    intro i hi
    obtain rfl : i = 130 * q := by omega
    iterate 5 refine x_step rfl ?_
    refine x_icmpN_ge (130 * q) (130 * q) rfl rfl (pk_mul 130 q) (fun _ => ?_) (fun q => False.elim (by omega))
    iterate 2 refine x_step rfl ?_
    refine xm_ls (pl' := [some (.ref 103), some (.int (nI 0))]) rfl ?_
    refine xm_hs (hp' := (cw L xs (rw th jl js jh jb jc jr (nI q) (xshk jQ 0 (130 * q) 130) (xshk jz 0 0 1) (xshk jf 0 0 1) jo jn jt jH jA jm jy je jp jk jx jw ju jF jL jO jS jT jU jV jW ja jG ov g2) tc tf bl bf of oc ol on ml mx mb kc kh kr ka gl gx gb ls lq lk lg lh vf vs vb nv nw nr nq ne io sp ch wt xf xz xt xb xc)) (by rw [xshk_0, xshk_0] <;> rfl) ?_
    exact q226_b q hq q 0 (by omega)
  | succ r ih =>
    intro i hi
    iterate 5 refine x_step rfl ?_
    refine x_icmpN_ge (i) (130 * q) rfl rfl (pk_mul 130 q) (fun q => False.elim (by omega)) (fun _ => ?_)
    iterate 8 refine x_step rfl ?_
    refine x_ialdN (i + 130) rfl rfl (nI_add i 130) (by omega) ?_
    refine x_iastN (i) rfl rfl rfl (by omega) ?_
    iterate 2 refine x_step rfl ?_
    refine xm_ls (pl' := [some (.ref 103), some (.int (nI (i + 1)))]) (by rw [nI_succ] <;> rfl) ?_
    refine xm_hs (hp' := (cw L xs (rw th jl js jh jb jc jr (nI q) (xshk jQ 0 (i + 1) 130) jz jf jo jn jt jH jA jm jy je jp jk jx jw ju jF jL jO jS jT jU jV jW ja jG ov g2) tc tf bl bf of oc ol on ml mx mb kc kh kr ka gl gx gb ls lq lk lg lh vf vs vb nv nw nr nq ne io sp ch wt xf xz xt xb xc)) (by rw [← xshk_s jQ 0 i 130, ← xshk_at jQ 0 i 130, Nat.zero_add] <;> rfl) ?_
    exact ih (i + 1) (by omega)
/-- FabLinkModel.dropFirst -/
theorem q226 (q : Nat) (hq : q < 8) : XM l 226 d 0 0 [.ref 103] (cw L xs (rw th jl js jh jb jc jr (nI (q + 1)) jQ jz jf jo jn jt jH jA jm jy je jp jk jx jw ju jF jL jO jS jT jU jV jW ja jG ov g2) tc tf bl bf of oc ol on ml mx mb kc kh kr ka gl gx gb ls lq lk lg lh vf vs vb nv nw nr nq ne io sp ch wt xf xz xt xb xc) (xm_is none (cw L xs (rw th jl js jh jb jc jr (nI q) (xshk jQ 0 (130 * q) 130) (xshk jz 0 q 1) (xshk jf 0 q 1) jo jn jt jH jA jm jy je jp jk jx jw ju jF jL jO jS jT jU jV jW ja jG ov g2) tc tf bl bf of oc ol on ml mx mb kc kh kr ka gl gx gb ls lq lk lg lh vf vs vb nv nw nr nq ne io sp ch wt xf xz xt xb xc)) := by
  refine XE (pl := [some (.ref 103), none]) xg226 rfl ?_
  iterate 8 refine x_step rfl ?_
  refine xm_ls (pl' := [some (.ref 103), some (.int (nI 0))]) rfl ?_
  refine xm_hs (hp' := (cw L xs (rw th jl js jh jb jc jr (nI q) (xshk jQ 0 0 130) jz jf jo jn jt jH jA jm jy je jp jk jx jw ju jF jL jO jS jT jU jV jW ja jG ov g2) tc tf bl bf of oc ol on ml mx mb kc kh kr ka gl gx gb ls lq lk lg lh vf vs vb nv nw nr nq ne io sp ch wt xf xz xt xb xc)) (by rw [xshk_0, nI_pred] <;> rfl) ?_
  exact q226_a q hq (130 * q) 0 (by omega)
/-- FabLinkModel.fail -/
theorem q227a (x : Nat) (hd : 1 ≤ d) (hx : jf 0 = nI x) (h3 : x < 3) : XM l 227 d 0 0 [.ref 103] (cw L xs (rw th jl js jh jb jc jr jq jQ jz jf jo jn jt jH jA jm jy je jp jk jx jw ju jF jL jO jS jT jU jV jW ja jG ov g2) tc tf bl bf of oc ol on ml mx mb kc kh kr ka gl gx gb ls lq lk lg lh vf vs vb nv nw nr nq ne io sp ch wt xf xz xt xb xc) (xm_is none (cw L xs (rw th (0) (0) jh jb jc jr jq jQ jz (upd jf 0 (nI (x + 1))) jo jn jt jH jA jm jy je jp jk jx jw ju jF jL jO jS jT jU jV jW ja jG ov g2) tc tf bl bf of oc ol on ml mx mb kc kh kr ka gl gx gb ls lq lk lg lh vf vs vb nv nw nr nq ne io sp ch wt xf xz xt xb xc)) := by
  refine XE (pl := [some (.ref 103)]) xg227 rfl ?_
  iterate 2 refine x_step rfl ?_
  refine x_callvE rfl (m174 (d := 0) 0) rfl rfl rfl ?_
  iterate 4 refine x_step rfl ?_
  refine x_ialdN (0) rfl rfl rfl (by omega) ?_
  iterate 2 refine x_step rfl ?_
  refine x_iastN (0) rfl rfl rfl (by omega) ?_
  refine xm_hs (hp' := (cw L xs (rw th (0) (0) jh jb jc jr jq jQ jz (upd jf 0 (nI (x + 1))) jo jn jt jH jA jm jy je jp jk jx jw ju jF jL jO jS jT jU jV jW ja jG ov g2) tc tf bl bf of oc ol on ml mx mb kc kh kr ka gl gx gb ls lq lk lg lh vf vs vb nv nw nr nq ne io sp ch wt xf xz xt xb xc)) (by rw [hx, nI_succ] <;> rfl) ?_
  iterate 3 refine x_step rfl ?_
  refine x_ialdN (0) rfl rfl rfl (by omega) ?_
  refine x_step rfl ?_
  refine x_icmpN_ne (x + 1) (4) rfl pk_us rfl (fun _ => ?_) (fun q => False.elim (by omega))
  exact x_ret rfl rfl ⟨rfl, rfl⟩
/-- FabLinkModel.fail -/
theorem q227b (q : Nat) (hq : q < 8) (hd : 1 ≤ d) (hx : jf 0 = nI 3) : XM l 227 d 0 0 [.ref 103] (cw L xs (rw th jl js jh jb jc jr (nI (q + 1)) jQ jz jf jo jn jt jH jA jm jy je jp jk jx jw ju jF jL jO jS jT jU jV jW ja jG ov g2) tc tf bl bf of oc ol on ml mx mb kc kh kr ka gl gx gb ls lq lk lg lh vf vs vb nv nw nr nq ne io sp ch wt xf xz xt xb xc) (xm_is none (cw L xs (rw th (0) (0) jh jb jc jr (nI q) (xshk jQ 0 (130 * q) 130) (xshk jz 0 q 1) (xshk (upd jf 0 (nI 4)) 0 q 1) (jo + 1) jn jt jH jA jm jy je jp jk jx jw ju jF jL jO jS jT jU jV jW ja jG ov g2) tc tf bl bf of oc ol on ml mx mb kc kh kr ka gl gx gb ls lq lk lg lh vf vs vb nv nw nr nq ne io sp ch wt xf xz xt xb xc)) := by
  refine XE (pl := [some (.ref 103)]) xg227 rfl ?_
  iterate 2 refine x_step rfl ?_
  refine x_callvE rfl (m174 (d := 0) 0) rfl rfl rfl ?_
  iterate 4 refine x_step rfl ?_
  refine x_ialdN (0) rfl rfl rfl (by omega) ?_
  iterate 2 refine x_step rfl ?_
  refine x_iastN (0) rfl rfl rfl (by omega) ?_
  refine xm_hs (hp' := (cw L xs (rw th (0) (0) jh jb jc jr (nI (q + 1)) jQ jz (upd jf 0 (nI 4)) jo jn jt jH jA jm jy je jp jk jx jw ju jF jL jO jS jT jU jV jW ja jG ov g2) tc tf bl bf of oc ol on ml mx mb kc kh kr ka gl gx gb ls lq lk lg lh vf vs vb nv nw nr nq ne io sp ch wt xf xz xt xb xc)) (by rw [hx] <;> rfl) ?_
  iterate 3 refine x_step rfl ?_
  refine x_ialdN (0) rfl rfl rfl (by omega) ?_
  refine x_step rfl ?_
  refine x_icmpN_ne (4) (4) rfl pk_us rfl (fun q => False.elim (by omega)) (fun _ => ?_)
  iterate 6 refine x_step rfl ?_
  refine xm_hs (hp' := (cw L xs (rw th (0) (0) jh jb jc jr (nI (q + 1)) jQ jz (upd jf 0 (nI 4)) (jo + 1) jn jt jH jA jm jy je jp jk jx jw ju jF jL jO jS jT jU jV jW ja jG ov g2) tc tf bl bf of oc ol on ml mx mb kc kh kr ka gl gx gb ls lq lk lg lh vf vs vb nv nw nr nq ne io sp ch wt xf xz xt xb xc)) rfl ?_
  refine x_step rfl ?_
  refine x_callvE rfl (q226 (d := 0) q hq) rfl rfl rfl ?_
  exact x_ret rfl rfl ⟨rfl, rfl⟩
def rsum (f : Nat → Int32) : Nat → Int32
  | 0 => 0
  | i + 1 => rsum f i + f i
def xrtp (jr : Nat → Int32) (n : Nat) (f : Nat → Int32) : Nat → Nat → Int32
  | 0 => jr
  | i + 1 => upd (xrtp jr n f i) ((n + i) % 512) (f i &&& 255)
theorem q224_loop (n m : Nat) (hd : 1 ≤ d) (hm : m ≤ 130) (hn : n < 2 ^ 29) : ∀ (r i : Nat), i + r = m → XW l 224 d 0 0 16 [some (.ref 103), some (.int (nI m)), some (.int (rsum jQ i)), some (.int (nI i))] [] (cw L xs (rw th jl js jh jb (nI (n + i)) (xrtp jr n jQ i) jq jQ jz jf jo jn jt jH jA jm jy je jp jk jx jw ju jF jL jO jS jT jU jV jW ja jG ov g2) tc tf bl bf of oc ol on ml mx mb kc kh kr ka gl gx gb ls lq lk lg lh vf vs vb nv nw nr nq ne io sp ch wt xf xz xt xb xc) (xm_is none (cw L xs (rw th (3) (0) jh jb (nI (n + m + 2)) (upd (upd (xrtp jr n jQ m) ((n + m) % 512) (rsum jQ m >>> ((8 : Int32) &&& 31) &&& 255)) ((n + m + 1) % 512) (rsum jQ m &&& 255)) jq jQ jz jf jo jn jt jH jA jm jy je jp jk jx jw ju jF jL jO jS jT jU jV jW ja jG ov g2) tc tf bl bf of oc ol on ml mx mb kc kh kr ka gl gx gb ls lq lk lg lh vf vs vb nv nw nr nq ne io sp ch wt xf xz xt xb xc)) := by
  intro r
  induction r with
  | zero =>
    intro i hi
    obtain rfl : i = m := by omega
    iterate 2 refine x_step rfl ?_
    refine x_icmpN_ge (i) (i) rfl rfl rfl (fun _ => ?_) (fun q => False.elim (by omega))
    iterate 4 refine x_step rfl ?_
    refine x_callvE rfl (q173 (d := 0) (n + i) (rsum jQ i >>> ((8 : Int32) &&& 31)) (by omega)) rfl rfl rfl ?_
    iterate 2 refine x_step rfl ?_
    refine x_callvE rfl (q173 (d := 0) (n + i + 1) (rsum jQ i) (by omega)) rfl rfl rfl ?_
    iterate 2 refine x_step rfl ?_
    refine x_callvE rfl (m174 (d := 0) 3) rfl rfl rfl ?_
    exact x_ret rfl rfl ⟨rfl, rfl⟩
  | succ r ih =>
    intro i hi
    iterate 2 refine x_step rfl ?_
    refine x_icmpN_ge (i) (m) rfl rfl rfl (fun q => False.elim (by omega)) (fun _ => ?_)
    iterate 4 refine x_step rfl ?_
    refine x_ialdN (i) rfl rfl rfl (by omega) ?_
    refine x_callvE rfl (q173 (d := 0) (n + i) (jQ i) (by omega)) rfl rfl rfl ?_
    iterate 4 refine x_step rfl ?_
    refine x_ialdN (i) rfl rfl rfl (by omega) ?_
    iterate 4 refine x_step rfl ?_
    refine xm_ls (pl' := [some (.ref 103), some (.int (nI m)), some (.int (rsum jQ (i + 1))), some (.int (nI (i + 1)))]) (by rw [nI_succ] <;> rfl) ?_
    refine xm_hs (hp' := (cw L xs (rw th jl js jh jb (nI (n + (i + 1))) (xrtp jr n jQ (i + 1)) jq jQ jz jf jo jn jt jH jA jm jy je jp jk jx jw ju jF jL jO jS jT jU jV jW ja jG ov g2) tc tf bl bf of oc ol on ml mx mb kc kh kr ka gl gx gb ls lq lk lg lh vf vs vb nv nw nr nq ne io sp ch wt xf xz xt xb xc)) rfl ?_
    exact ih (i + 1) (by omega)
/-- FabLinkModel.sayBlock -/
theorem q224 (n m : Nat) (hd : 1 ≤ d) (hm : m ≤ 130) (hz : jz 0 = nI m) (hn : n < 2 ^ 28) : XM l 224 d 0 0 [.ref 103] (cw L xs (rw th jl js jh jb (nI n) jr jq jQ jz jf jo jn jt jH jA jm jy je jp jk jx jw ju jF jL jO jS jT jU jV jW ja jG ov g2) tc tf bl bf of oc ol on ml mx mb kc kh kr ka gl gx gb ls lq lk lg lh vf vs vb nv nw nr nq ne io sp ch wt xf xz xt xb xc) (xm_is none (cw L xs (rw th (3) (0) jh jb (nI (n + 1 + m + 2)) (upd (upd (xrtp (upd jr (n % 512) (nI m &&& 255)) (n + 1) jQ m) ((n + 1 + m) % 512) (rsum jQ m >>> ((8 : Int32) &&& 31) &&& 255)) ((n + 1 + m + 1) % 512) (rsum jQ m &&& 255)) jq jQ jz jf jo jn jt jH jA jm jy je jp jk jx jw ju jF jL jO jS jT jU jV jW ja jG ov g2) tc tf bl bf of oc ol on ml mx mb kc kh kr ka gl gx gb ls lq lk lg lh vf vs vb nv nw nr nq ne io sp ch wt xf xz xt xb xc)) := by
  refine XE (pl := [some (.ref 103), none, none, none]) xg224 rfl ?_
  iterate 3 refine x_step rfl ?_
  refine x_ialdN (0) rfl rfl rfl (by omega) ?_
  iterate 3 refine x_step rfl ?_
  refine xm_ls (pl' := [some (.ref 103), some (.int (nI m)), some (.int 0), none]) (by rw [hz] <;> rfl) ?_
  iterate 2 refine x_step rfl ?_
  refine x_callvE rfl (q173 (d := 0) n (nI m) (by omega)) rfl rfl rfl ?_
  iterate 2 refine x_step rfl ?_
  refine xm_ls (pl' := [some (.ref 103), some (.int (nI m)), some (.int (rsum jQ 0)), some (.int (nI 0))]) rfl ?_
  refine xm_hs (hp' := (cw L xs (rw th jl js jh jb (nI (n + 1 + 0)) (xrtp (upd jr (n % 512) (nI m &&& 255)) (n + 1) jQ 0) jq jQ jz jf jo jn jt jH jA jm jy je jp jk jx jw ju jF jL jO jS jT jU jV jW ja jG ov g2) tc tf bl bf of oc ol on ml mx mb kc kh kr ka gl gx gb ls lq lk lg lh vf vs vb nv nw nr nq ne io sp ch wt xf xz xt xb xc)) rfl ?_
  exact q224_loop (n + 1) m hd hm (by omega) m 0 (by omega)
theorem q225_loop (q t : Nat) (hd : 1 ≤ d) (hq : q < 8) (ht : t < 8) : ∀ (r i : Nat), i + r = 10 → XW l 225 d 0 0 23 [some (.ref 103), some (.int (nI i))] [] (cw L xs (rw th jl js jh jb jc jr (nI (q + 1)) jQ jz jf jo jn (nI t) (xrcp jH jQ (10 * t) i) jA jm jy je jp jk jx jw ju jF jL jO jS jT jU jV jW ja jG ov g2) tc tf bl bf of oc ol on ml mx mb kc kh kr ka gl gx gb ls lq lk lg lh vf vs vb nv nw nr nq ne io sp ch wt xf xz xt xb xc) (xm_is none (cw L xs (rw th (0) (0) jh jb jc jr (nI q) (xshk jQ 0 (130 * q) 130) (xshk jz 0 q 1) (xshk jf 0 q 1) jo jn (nI (t + 1)) (xrcp jH jQ (10 * t) 10) (upd jA t 0) jm jy je jp jk jx jw ju jF jL jO jS jT jU jV jW ja jG ov g2) tc tf bl bf of oc ol on ml mx mb kc kh kr ka gl gx gb ls lq lk lg lh vf vs vb nv nw nr nq ne io sp ch wt xf xz xt xb xc)) := by
  intro r
  induction r with
  | zero =>
    intro i hi
    obtain rfl : i = 10 := by omega
    iterate 2 refine x_step rfl ?_
    refine x_icmpN_ge (10) (10) rfl rfl rfl (fun _ => ?_) (fun q => False.elim (by omega))
    iterate 5 refine x_step rfl ?_
    refine x_iastN (t) rfl rfl rfl (by omega) ?_
    iterate 6 refine x_step rfl ?_
    refine xm_hs (hp' := (cw L xs (rw th jl js jh jb jc jr (nI (q + 1)) jQ jz jf jo jn (nI (t + 1)) (xrcp jH jQ (10 * t) 10) (upd jA t 0) jm jy je jp jk jx jw ju jF jL jO jS jT jU jV jW ja jG ov g2) tc tf bl bf of oc ol on ml mx mb kc kh kr ka gl gx gb ls lq lk lg lh vf vs vb nv nw nr nq ne io sp ch wt xf xz xt xb xc)) (by rw [nI_succ t] <;> rfl) ?_
    refine x_step rfl ?_
    refine x_callvE rfl (q226 (d := 0) q hq) rfl rfl rfl ?_
    iterate 2 refine x_step rfl ?_
    refine x_callvE rfl (m174 (d := 0) 0) rfl rfl rfl ?_
    exact x_ret rfl rfl ⟨rfl, rfl⟩
  | succ r ih =>
    intro i hi
    iterate 2 refine x_step rfl ?_
    refine x_icmpN_ge (i) (10) rfl rfl rfl (fun q => False.elim (by omega)) (fun _ => ?_)
    iterate 11 refine x_step rfl ?_
    refine x_ialdN (i) rfl rfl rfl (by omega) ?_
    refine x_iastN (10 * t + i) rfl rfl (by rw [← nI_add, ← pk_mul] <;> rfl) (by omega) ?_
    iterate 2 refine x_step rfl ?_
    refine xm_ls (pl' := [some (.ref 103), some (.int (nI (i + 1)))]) (by rw [nI_succ] <;> rfl) ?_
    refine xm_hs (hp' := (cw L xs (rw th jl js jh jb jc jr (nI (q + 1)) jQ jz jf jo jn (nI t) (xrcp jH jQ (10 * t) (i + 1)) jA jm jy je jp jk jx jw ju jF jL jO jS jT jU jV jW ja jG ov g2) tc tf bl bf of oc ol on ml mx mb kc kh kr ka gl gx gb ls lq lk lg lh vf vs vb nv nw nr nq ne io sp ch wt xf xz xt xb xc)) (by rw [← xrcp_s] <;> rfl) ?_
    exact ih (i + 1) (by omega)
/-- FabLinkModel.wasSent -/
theorem q225r (q t : Nat) (hd : 1 ≤ d) (hq : q < 8) (ht : t < 8) (hw : 128 ≤ jQ 2) : XM l 225 d 0 0 [.ref 103] (cw L xs (rw th jl js jh jb jc jr (nI (q + 1)) jQ jz jf jo jn (nI t) jH jA jm jy je jp jk jx jw ju jF jL jO jS jT jU jV jW ja jG ov g2) tc tf bl bf of oc ol on ml mx mb kc kh kr ka gl gx gb ls lq lk lg lh vf vs vb nv nw nr nq ne io sp ch wt xf xz xt xb xc) (xm_is none (cw L xs (rw th (0) (0) jh jb jc jr (nI q) (xshk jQ 0 (130 * q) 130) (xshk jz 0 q 1) (xshk jf 0 q 1) jo jn (nI (t + 1)) (xrcp jH jQ (10 * t) 10) (upd jA t 0) jm jy je jp jk jx jw ju jF jL jO jS jT jU jV jW ja jG ov g2) tc tf bl bf of oc ol on ml mx mb kc kh kr ka gl gx gb ls lq lk lg lh vf vs vb nv nw nr nq ne io sp ch wt xf xz xt xb xc)) := by
  refine XE (pl := [some (.ref 103), none]) xg225 rfl ?_
  iterate 3 refine x_step rfl ?_
  refine x_ialdN (2) rfl rfl rfl (by omega) ?_
  refine x_step rfl ?_
  refine x_icmp_lt rfl (fun z => absurd z (Int32.not_lt.mpr hw)) (fun _ => ?_)
  iterate 3 refine x_step rfl ?_
  refine x_icmpN_ge (t) (8) rfl rfl rfl (fun q => False.elim (by omega)) (fun _ => ?_)
  iterate 2 refine x_step rfl ?_
  refine xm_ls (pl' := [some (.ref 103), some (.int (nI 0))]) rfl ?_
  refine xm_hs (hp' := (cw L xs (rw th jl js jh jb jc jr (nI (q + 1)) jQ jz jf jo jn (nI t) (xrcp jH jQ (10 * t) 0) jA jm jy je jp jk jx jw ju jF jL jO jS jT jU jV jW ja jG ov g2) tc tf bl bf of oc ol on ml mx mb kc kh kr ka gl gx gb ls lq lk lg lh vf vs vb nv nw nr nq ne io sp ch wt xf xz xt xb xc)) (by rw [xrcp_0] <;> rfl) ?_
  exact q225_loop q t hd hq ht 10 0 (by omega)
/-- FabLinkModel.wasSent -/
theorem q225x (q : Nat) (hd : 1 ≤ d) (hq : q < 8) (hw : 128 ≤ jQ 2) : XM l 225 d 0 0 [.ref 103] (cw L xs (rw th jl js jh jb jc jr (nI (q + 1)) jQ jz jf jo jn (8) jH jA jm jy je jp jk jx jw ju jF jL jO jS jT jU jV jW ja jG ov g2) tc tf bl bf of oc ol on ml mx mb kc kh kr ka gl gx gb ls lq lk lg lh vf vs vb nv nw nr nq ne io sp ch wt xf xz xt xb xc) (xm_is none (cw L xs (rw th (0) (0) jh jb jc jr (nI q) (xshk jQ 0 (130 * q) 130) (xshk jz 0 q 1) (xshk jf 0 q 1) jo jn (8) jH jA jm jy je jp jk jx jw ju jF jL jO jS jT jU jV jW ja jG ov g2) tc tf bl bf of oc ol on ml mx mb kc kh kr ka gl gx gb ls lq lk lg lh vf vs vb nv nw nr nq ne io sp ch wt xf xz xt xb xc)) := by
  refine XE (pl := [some (.ref 103), none]) xg225 rfl ?_
  iterate 3 refine x_step rfl ?_
  refine x_ialdN (2) rfl rfl rfl (by omega) ?_
  refine x_step rfl ?_
  refine x_icmp_lt rfl (fun z => absurd z (Int32.not_lt.mpr hw)) (fun _ => ?_)
  iterate 3 refine x_step rfl ?_
  refine x_icmp_ge rfl (fun _ => ?_) (fun q => absurd (by decide) q)
  refine x_step rfl ?_
  refine x_callvE rfl (q226 (d := 0) q hq) rfl rfl rfl ?_
  iterate 2 refine x_step rfl ?_
  refine x_callvE rfl (m174 (d := 0) 0) rfl rfl rfl ?_
  exact x_ret rfl rfl ⟨rfl, rfl⟩
/-- FabLinkModel.wasSent -/
theorem q225n (q : Nat) (hd : 1 ≤ d) (hq : q < 8) (hw : jQ 2 < 128) : XM l 225 d 0 0 [.ref 103] (cw L xs (rw th jl js jh jb jc jr (nI (q + 1)) jQ jz jf jo jn jt jH jA jm jy je jp jk jx jw ju jF jL jO jS jT jU jV jW ja jG ov g2) tc tf bl bf of oc ol on ml mx mb kc kh kr ka gl gx gb ls lq lk lg lh vf vs vb nv nw nr nq ne io sp ch wt xf xz xt xb xc) (xm_is none (cw L xs (rw th (0) (0) jh jb jc jr (nI q) (xshk jQ 0 (130 * q) 130) (xshk jz 0 q 1) (xshk jf 0 q 1) jo jn jt jH jA jm jy je jp jk jx jw ju jF jL jO jS jT jU jV jW ja jG ov g2) tc tf bl bf of oc ol on ml mx mb kc kh kr ka gl gx gb ls lq lk lg lh vf vs vb nv nw nr nq ne io sp ch wt xf xz xt xb xc)) := by
  refine XE (pl := [some (.ref 103), none]) xg225 rfl ?_
  iterate 3 refine x_step rfl ?_
  refine x_ialdN (2) rfl rfl rfl (by omega) ?_
  refine x_step rfl ?_
  refine x_icmp_lt rfl (fun _ => ?_) (fun z => absurd hw z)
  refine x_step rfl ?_
  refine x_callvE rfl (q226 (d := 0) q hq) rfl rfl rfl ?_
  iterate 2 refine x_step rfl ?_
  refine x_callvE rfl (m174 (d := 0) 0) rfl rfl rfl ?_
  exact x_ret rfl rfl ⟨rfl, rfl⟩
theorem q183_b (t c : Nat) (ht : t < 8) (hc : c ≤ t) : ∀ (r i : Nat), i + r = t - c → XW l 183 d 0 0 49 [some (.ref 103), some (.int (nI c)), some (.int (nI (c + i)))] [] (cw L xs (rw th jl js jh jb jc jr jq jQ jz jf jo jn (nI t) (xshk jH (10 * c) (10 * (t - c)) 10) (xshk jA c i 1) jm jy je jp jk jx jw ju jF jL jO jS jT jU jV jW ja jG ov g2) tc tf bl bf of oc ol on ml mx mb kc kh kr ka gl gx gb ls lq lk lg lh vf vs vb nv nw nr nq ne io sp ch wt xf xz xt xb xc) (xm_is none (cw L xs (rw th jl js jh jb jc jr jq jQ jz jf jo jn (nI t) (xshk jH (10 * c) (10 * (t - c)) 10) (xshk jA c (t - c) 1) jm jy je jp jk jx jw ju jF jL jO jS jT jU jV jW ja jG ov g2) tc tf bl bf of oc ol on ml mx mb kc kh kr ka gl gx gb ls lq lk lg lh vf vs vb nv nw nr nq ne io sp ch wt xf xz xt xb xc)) := by
  intro r
  induction r with
  | zero =>
    intro i hi
    obtain rfl : i = t - c := by omega
    iterate 3 refine x_step rfl ?_
    refine x_icmpN_ge (c + (t - c)) (t) rfl rfl rfl (fun _ => ?_) (fun q => False.elim (by omega))
    exact x_ret rfl rfl ⟨rfl, rfl⟩
  | succ r ih =>
    intro i hi
    iterate 3 refine x_step rfl ?_
    refine x_icmpN_ge (c + i) (t) rfl rfl rfl (fun q => False.elim (by omega)) (fun _ => ?_)
    iterate 8 refine x_step rfl ?_
    refine x_ialdN (c + i + 1) rfl rfl (nI_1 (c + i)) (by omega) ?_
    refine x_iastN (c + i) rfl rfl rfl (by omega) ?_
    iterate 2 refine x_step rfl ?_
    refine xm_ls (pl' := [some (.ref 103), some (.int (nI c)), some (.int (nI (c + (i + 1))))]) (by rw [← Nat.add_assoc, nI_succ] <;> rfl) ?_
    refine xm_hs (hp' := (cw L xs (rw th jl js jh jb jc jr jq jQ jz jf jo jn (nI t) (xshk jH (10 * c) (10 * (t - c)) 10) (xshk jA c (i + 1) 1) jm jy je jp jk jx jw ju jF jL jO jS jT jU jV jW ja jG ov g2) tc tf bl bf of oc ol on ml mx mb kc kh kr ka gl gx gb ls lq lk lg lh vf vs vb nv nw nr nq ne io sp ch wt xf xz xt xb xc)) (by rw [← xshk_s jA c i 1, ← xshk_at jA c i 1] <;> rfl) ?_
    exact ih (i + 1) (by omega)
theorem q183_a (t c : Nat) (ht : t < 8) (hc : c ≤ t) : ∀ (r i : Nat), i + r = 10 * (t - c) → XW l 183 d 0 0 15 [some (.ref 103), some (.int (nI c)), some (.int (nI (10 * c + i)))] [] (cw L xs (rw th jl js jh jb jc jr jq jQ jz jf jo jn (nI t) (xshk jH (10 * c) i 10) jA jm jy je jp jk jx jw ju jF jL jO jS jT jU jV jW ja jG ov g2) tc tf bl bf of oc ol on ml mx mb kc kh kr ka gl gx gb ls lq lk lg lh vf vs vb nv nw nr nq ne io sp ch wt xf xz xt xb xc) (xm_is none (cw L xs (rw th jl js jh jb jc jr jq jQ jz jf jo jn (nI t) (xshk jH (10 * c) (10 * (t - c)) 10) (xshk jA c (t - c) 1) jm jy je jp jk jx jw ju jF jL jO jS jT jU jV jW ja jG ov g2) tc tf bl bf of oc ol on ml mx mb kc kh kr ka gl gx gb ls lq lk lg lh vf vs vb nv nw nr nq ne io sp ch wt xf xz xt xb xc)) := by
  intro r
  induction r with
  | zero =>
    intro i hi
    obtain rfl : i = 10 * (t - c) := by omega
    iterate 5 refine x_step rfl ?_
    refine x_icmpN_ge (10 * c + 10 * (t - c)) (10 * t) rfl rfl (pk_mul 10 t) (fun _ => ?_) (fun q => False.elim (by omega))
    iterate 2 refine x_step rfl ?_
    refine xm_ls (pl' := [some (.ref 103), some (.int (nI c)), some (.int (nI (c + 0)))]) rfl ?_
    refine xm_hs (hp' := (cw L xs (rw th jl js jh jb jc jr jq jQ jz jf jo jn (nI t) (xshk jH (10 * c) (10 * (t - c)) 10) (xshk jA c 0 1) jm jy je jp jk jx jw ju jF jL jO jS jT jU jV jW ja jG ov g2) tc tf bl bf of oc ol on ml mx mb kc kh kr ka gl gx gb ls lq lk lg lh vf vs vb nv nw nr nq ne io sp ch wt xf xz xt xb xc)) (by rw [xshk_0] <;> rfl) ?_
    exact q183_b t c ht hc (t - c) 0 (by omega)
  | succ r ih =>
    intro i hi
    iterate 5 refine x_step rfl ?_
    refine x_icmpN_ge (10 * c + i) (10 * t) rfl rfl (pk_mul 10 t) (fun q => False.elim (by omega)) (fun _ => ?_)
    iterate 8 refine x_step rfl ?_
    refine x_ialdN (10 * c + i + 10) rfl rfl (nI_add (10 * c + i) 10) (by omega) ?_
    refine x_iastN (10 * c + i) rfl rfl rfl (by omega) ?_
    iterate 2 refine x_step rfl ?_
    refine xm_ls (pl' := [some (.ref 103), some (.int (nI c)), some (.int (nI (10 * c + (i + 1))))]) (by rw [← Nat.add_assoc, nI_succ] <;> rfl) ?_
    refine xm_hs (hp' := (cw L xs (rw th jl js jh jb jc jr jq jQ jz jf jo jn (nI t) (xshk jH (10 * c) (i + 1) 10) jA jm jy je jp jk jx jw ju jF jL jO jS jT jU jV jW ja jG ov g2) tc tf bl bf of oc ol on ml mx mb kc kh kr ka gl gx gb ls lq lk lg lh vf vs vb nv nw nr nq ne io sp ch wt xf xz xt xb xc)) (by rw [← xshk_s jH (10 * c) i 10, ← xshk_at jH (10 * c) i 10] <;> rfl) ?_
    exact ih (i + 1) (by omega)
/-- FabLinkModel.dropTalk -/
theorem q183 (t c : Nat) (ht : t < 8) (hc : c ≤ t) : XM l 183 d 0 0 [.ref 103, .int (nI c)] (cw L xs (rw th jl js jh jb jc jr jq jQ jz jf jo jn (nI (t + 1)) jH jA jm jy je jp jk jx jw ju jF jL jO jS jT jU jV jW ja jG ov g2) tc tf bl bf of oc ol on ml mx mb kc kh kr ka gl gx gb ls lq lk lg lh vf vs vb nv nw nr nq ne io sp ch wt xf xz xt xb xc) (xm_is none (cw L xs (rw th jl js jh jb jc jr jq jQ jz jf jo jn (nI t) (xshk jH (10 * c) (10 * (t - c)) 10) (xshk jA c (t - c) 1) jm jy je jp jk jx jw ju jF jL jO jS jT jU jV jW ja jG ov g2) tc tf bl bf of oc ol on ml mx mb kc kh kr ka gl gx gb ls lq lk lg lh vf vs vb nv nw nr nq ne io sp ch wt xf xz xt xb xc)) := by
  refine XE (pl := [some (.ref 103), some (.int (nI c)), none]) xg183 rfl ?_
  iterate 10 refine x_step rfl ?_
  refine xm_ls (pl' := [some (.ref 103), some (.int (nI c)), some (.int (nI (10 * c + 0)))]) (by rw [show (10 : Int32) * nI c = nI (10 * c) from pk_mul 10 c] <;> rfl) ?_
  refine xm_hs (hp' := (cw L xs (rw th jl js jh jb jc jr jq jQ jz jf jo jn (nI t) (xshk jH (10 * c) 0 10) jA jm jy je jp jk jx jw ju jF jL jO jS jT jU jV jW ja jG ov g2) tc tf bl bf of oc ol on ml mx mb kc kh kr ka gl gx gb ls lq lk lg lh vf vs vb nv nw nr nq ne io sp ch wt xf xz xt xb xc)) (by rw [xshk_0, nI_pred] <;> rfl) ?_
  exact q183_a t c ht hc (10 * (t - c)) 0 (by omega)
end ER3
