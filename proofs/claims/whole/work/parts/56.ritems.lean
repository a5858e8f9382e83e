section ER4
variable {l : Launch} {d L : Nat} {xs : Nat → Int32} {tc : Int32} {tf : (Nat → Int32)} {bl : Int32} {bf : (Nat → Int32)} {of : Int32} {oc : Int32} {ol : Int32} {on : Int32} {ml : (Nat → Int32)} {mx : (Nat → Int32)} {mb : (Nat → Nat → Int32)} {kc : Int32} {kh : (Nat → Nat)} {kr : (Nat → Nat → Int32)} {ka : (Nat → Int32)} {gl : Int32} {gx : Int32} {gb : (Nat → Int32)} {ls : Int32} {lq : Int32} {lk : Int32} {lg : Int32} {lh : Int32} {vf : (Nat → Int32)} {vs : (Nat → Int32)} {vb : (Nat → Nat → Int32)} {nv : (Nat → Int32)} {nw : (Nat → Nat → Int32)} {nr : (Nat → Int32)} {nq : (Nat → Nat → Int32)} {ne : (Nat → Int32)} {io : Int32} {sp : Int32} {ch : Int32} {wt : Int32} {xf : (Nat → Int32)} {xz : (Nat → Int32)} {xt : (Nat → Int32)} {xb : (Nat → Int32)} {xc : Int32} {th : Int32} {jl : Int32} {js : Int32} {jh : Int32} {jb : (Nat → Int32)} {jc : Int32} {jr : (Nat → Int32)} {jq : Int32} {jQ : (Nat → Int32)} {jz : (Nat → Int32)} {jf : (Nat → Int32)} {jo : Int32} {jn : Int32} {jt : Int32} {jH : (Nat → Int32)} {jA : (Nat → Int32)} {jm : Int32} {jy : (Nat → Int32)} {je : Int32} {jp : Int32} {jk : Int32} {jx : Int32} {jw : Int32} {ju : Int32} {jF : (Nat → Int32)} {jL : (Nat → Int32)} {jO : (Nat → Int32)} {jS : (Nat → Int32)} {jT : (Nat → Int32)} {jU : (Nat → Int32)} {jV : (Nat → Int32)} {jW : (Nat → Int32)} {ja : Int32} {jG : (Nat → Int32)} {ov : (Nat → Value)} {g2 : xm_H}
variable {β : Nat → Nat} {e : Nat}
/-- FabLinkModel.end -/
theorem q186  : XM l 186 d 0 0 [.ref 103] (cw L xs (rw th jl js jh jb jc jr jq jQ jz jf jo jn jt jH jA jm jy je jp jk jx jw ju jF jL jO jS jT jU jV jW (nI e) jG ov g2) tc tf bl bf of oc ol on ml mx mb kc kh kr ka gl gx gb ls lq lk lg lh vf vs vb nv nw nr nq ne io sp ch wt xf xz xt xb xc) (xm_is (some (.int (nI (e + 1)))) (cw L xs (rw th jl js jh jb jc jr jq jQ jz jf jo jn jt jH jA jm jy je jp jk jx jw ju jF jL jO jS jT jU jV jW (nI e) jG ov g2) tc tf bl bf of oc ol on ml mx mb kc kh kr ka gl gx gb ls lq lk lg lh vf vs vb nv nw nr nq ne io sp ch wt xf xz xt xb xc)) := by
  refine XE (pl := [some (.ref 103)]) xg186 rfl ?_
  iterate 4 refine x_step rfl ?_
  exact x_iret rfl rfl rfl ⟨by rw [show (1 : Int32) + nI e = nI (1 + e) from nI_add 1 e, Nat.add_comm], rfl⟩
/-- FabLinkModel.formatAt -/
theorem q187 (hb : ∀ i, i < 130 → jb (i + 1) = nI (β i)) (hβ : ∀ i, β i < 256) (p : Nat) (hp : p < 130) : XM l 187 d 0 0 [.ref 103, .int (nI (p + 1))] (cw L xs (rw th jl js jh jb jc jr jq jQ jz jf jo jn jt jH jA jm jy je jp jk jx jw ju jF jL jO jS jT jU jV jW ja jG ov g2) tc tf bl bf of oc ol on ml mx mb kc kh kr ka gl gx gb ls lq lk lg lh vf vs vb nv nw nr nq ne io sp ch wt xf xz xt xb xc) (xm_is (some (.int (nI (itF β p)))) (cw L xs (rw th jl js jh jb jc jr jq jQ jz jf jo jn jt jH jA jm jy je jp jk jx jw ju jF jL jO jS jT jU jV jW ja jG ov g2) tc tf bl bf of oc ol on ml mx mb kc kh kr ka gl gx gb ls lq lk lg lh vf vs vb nv nw nr nq ne io sp ch wt xf xz xt xb xc)) := by
  refine XE (pl := [some (.ref 103), some (.int (nI (p + 1)))]) xg187 rfl ?_
  iterate 3 refine x_step rfl ?_
  refine x_ialdN (p + 1) rfl rfl rfl (by omega) ?_
  iterate 2 refine x_step rfl ?_
  exact x_iret rfl rfl rfl ⟨by rw [hb p hp, n79_shr _ (hβ p)]; rfl, rfl⟩
/-- FabLinkModel.inside -/
theorem q189 (hb : ∀ i, i < 130 → jb (i + 1) = nI (β i)) (hβ : ∀ i, β i < 256) (p : Nat) (hp : p < 130) : XM l 189 d 0 0 [.ref 103, .int (nI (p + 1))] (cw L xs (rw th jl js jh jb jc jr jq jQ jz jf jo jn jt jH jA jm jy je jp jk jx jw ju jF jL jO jS jT jU jV jW ja jG ov g2) tc tf bl bf of oc ol on ml mx mb kc kh kr ka gl gx gb ls lq lk lg lh vf vs vb nv nw nr nq ne io sp ch wt xf xz xt xb xc) (xm_is (some (.int (nI (itT β p + 1)))) (cw L xs (rw th jl js jh jb jc jr jq jQ jz jf jo jn jt jH jA jm jy je jp jk jx jw ju jF jL jO jS jT jU jV jW ja jG ov g2) tc tf bl bf of oc ol on ml mx mb kc kh kr ka gl gx gb ls lq lk lg lh vf vs vb nv nw nr nq ne io sp ch wt xf xz xt xb xc)) := by
  refine XE (pl := [some (.ref 103), some (.int (nI (p + 1)))]) xg189 rfl ?_
  iterate 6 refine x_step rfl ?_
  refine x_ialdN (p + 1) rfl rfl rfl (by omega) ?_
  iterate 3 refine x_step rfl ?_
  exact x_iret rfl rfl rfl ⟨by rw [hb p hp, n79_and _ (hβ p), nI_1, nI_add, show itT β p + 1 = p + 1 + 1 + β p % 4 by unfold itT itK; omega], rfl⟩
theorem q188_loop (hb : ∀ i, i < 130 → jb (i + 1) = nI (β i)) (hβ : ∀ i, β i < 256) (p : Nat) (hT : itT β p ≤ 130) : ∀ (r k : Nat), k + r = itK β p → XW l 188 d 0 0 14 [some (.ref 103), some (.int (nI (p + 1))), some (.int (nI (itK β p))), some (.int (nI (itZ β p k))), some (.int (nI (k + 1)))] [] (cw L xs (rw th jl js jh jb jc jr jq jQ jz jf jo jn jt jH jA jm jy je jp jk jx jw ju jF jL jO jS jT jU jV jW ja jG ov g2) tc tf bl bf of oc ol on ml mx mb kc kh kr ka gl gx gb ls lq lk lg lh vf vs vb nv nw nr nq ne io sp ch wt xf xz xt xb xc) (xm_is (some (.int (nI (itS β p)))) (cw L xs (rw th jl js jh jb jc jr jq jQ jz jf jo jn jt jH jA jm jy je jp jk jx jw ju jF jL jO jS jT jU jV jW ja jG ov g2) tc tf bl bf of oc ol on ml mx mb kc kh kr ka gl gx gb ls lq lk lg lh vf vs vb nv nw nr nq ne io sp ch wt xf xz xt xb xc)) := by
  have hTe : itT β p = p + 1 + itK β p := rfl
  intro r
  induction r with
  | zero =>
    intro k hk
    obtain rfl : k = itK β p := by omega
    iterate 2 refine x_step rfl ?_
    refine x_icmpN_gt (itK β p + 1) (itK β p) rfl rfl rfl (fun _ => ?_) (fun q => False.elim (by omega))
    refine x_step rfl ?_
    exact x_iret rfl rfl rfl ⟨rfl, rfl⟩
  | succ r ih =>
    intro k hk
    iterate 2 refine x_step rfl ?_
    refine x_icmpN_gt (k + 1) (itK β p) rfl rfl rfl (fun q => False.elim (by omega)) (fun _ => ?_)
    iterate 8 refine x_step rfl ?_
    refine x_ialdN (p + 1 + k + 1) rfl rfl (by rw [nI_add]; congr 1) (by omega) ?_
    iterate 4 refine x_step rfl ?_
    refine xm_ls (pl' := [some (.ref 103), some (.int (nI (p + 1))), some (.int (nI (itK β p))), some (.int (nI (itZ β p (k + 1)))), some (.int (nI ((k + 1) + 1)))]) (by rw [hb (p + 1 + k) (by omega), show (256 : Int32) * nI (itZ β p k) + nI (β (p + 1 + k)) = nI (itZ β p (k + 1)) from by rw [show (256 : Int32) * nI (itZ β p k) = nI (256 * itZ β p k) from pk_mul 256 _, nI_add, itZ, Nat.mul_comm], ← nI_succ] <;> rfl) ?_
    exact ih (k + 1) (by omega)
/-- FabLinkModel.sizeAt -/
theorem q188 (hb : ∀ i, i < 130 → jb (i + 1) = nI (β i)) (hβ : ∀ i, β i < 256) (p : Nat) (hT : itT β p ≤ 130) : XM l 188 d 0 0 [.ref 103, .int (nI (p + 1))] (cw L xs (rw th jl js jh jb jc jr jq jQ jz jf jo jn jt jH jA jm jy je jp jk jx jw ju jF jL jO jS jT jU jV jW ja jG ov g2) tc tf bl bf of oc ol on ml mx mb kc kh kr ka gl gx gb ls lq lk lg lh vf vs vb nv nw nr nq ne io sp ch wt xf xz xt xb xc) (xm_is (some (.int (nI (itS β p)))) (cw L xs (rw th jl js jh jb jc jr jq jQ jz jf jo jn jt jH jA jm jy je jp jk jx jw ju jF jL jO jS jT jU jV jW ja jG ov g2) tc tf bl bf of oc ol on ml mx mb kc kh kr ka gl gx gb ls lq lk lg lh vf vs vb nv nw nr nq ne io sp ch wt xf xz xt xb xc)) := by
  refine XE (pl := [some (.ref 103), some (.int (nI (p + 1))), none, none, none]) xg188 rfl ?_
  have hTe : itT β p = p + 1 + itK β p := rfl
  iterate 3 refine x_step rfl ?_
  refine x_ialdN (p + 1) rfl rfl rfl (by omega) ?_
  iterate 7 refine x_step rfl ?_
  refine xm_ls (pl' := [some (.ref 103), some (.int (nI (p + 1))), some (.int (nI (itK β p))), some (.int (nI (itZ β p 0))), some (.int (nI (0 + 1)))]) (by rw [hb p (by omega), n79_and _ (hβ p)] <;> rfl) ?_
  exact q188_loop hb hβ p hT (itK β p) 0 (by omega)
theorem q190i (f : Nat) (h8 : 8 ≤ f) (h44 : f ≤ 44) : XM l 190 d 0 0 [.ref 103, .int (nI f)] (cw L xs (rw th jl js jh jb jc jr jq jQ jz jf jo jn jt jH jA jm jy je jp jk jx jw ju jF jL jO jS jT jU jV jW ja jG ov g2) tc tf bl bf of oc ol on ml mx mb kc kh kr ka gl gx gb ls lq lk lg lh vf vs vb nv nw nr nq ne io sp ch wt xf xz xt xb xc) (xm_is (some (.int (nI (itW f)))) (cw L xs (rw th jl js jh jb jc jr jq jQ jz jf jo jn jt jH jA jm jy je jp jk jx jw ju jF jL jO jS jT jU jV jW ja jG ov g2) tc tf bl bf of oc ol on ml mx mb kc kh kr ka gl gx gb ls lq lk lg lh vf vs vb nv nw nr nq ne io sp ch wt xf xz xt xb xc)) := by
  match f, h8, h44 with
  | 8, _, _ =>
    refine XE (pl := [some (.ref 103), some (.int (nI 8))]) xg190 rfl ?_
    refine x_step rfl ?_
    refine x_tswIn rfl (by decide) (by decide) rfl (t := 164) (by decide) ?_
    refine x_step rfl ?_
    exact x_iret rfl rfl rfl ⟨rfl, rfl⟩
  | 9, _, _ =>
    refine XE (pl := [some (.ref 103), some (.int (nI 9))]) xg190 rfl ?_
    refine x_step rfl ?_
    refine x_tswIn rfl (by decide) (by decide) rfl (t := 164) (by decide) ?_
    refine x_step rfl ?_
    exact x_iret rfl rfl rfl ⟨rfl, rfl⟩
  | 10, _, _ =>
    refine XE (pl := [some (.ref 103), some (.int (nI 10))]) xg190 rfl ?_
    refine x_step rfl ?_
    refine x_tswIn rfl (by decide) (by decide) rfl (t := 173) (by decide) ?_
    refine x_step rfl ?_
    exact x_iret rfl rfl rfl ⟨rfl, rfl⟩
  | 11, _, _ =>
    refine XE (pl := [some (.ref 103), some (.int (nI 11))]) xg190 rfl ?_
    refine x_step rfl ?_
    refine x_tswIn rfl (by decide) (by decide) rfl (t := 173) (by decide) ?_
    refine x_step rfl ?_
    exact x_iret rfl rfl rfl ⟨rfl, rfl⟩
  | 12, _, _ =>
    refine XE (pl := [some (.ref 103), some (.int (nI 12))]) xg190 rfl ?_
    refine x_step rfl ?_
    refine x_tswIn rfl (by decide) (by decide) rfl (t := 173) (by decide) ?_
    refine x_step rfl ?_
    exact x_iret rfl rfl rfl ⟨rfl, rfl⟩
  | 13, _, _ =>
    refine XE (pl := [some (.ref 103), some (.int (nI 13))]) xg190 rfl ?_
    refine x_step rfl ?_
    refine x_tswIn rfl (by decide) (by decide) rfl (t := 173) (by decide) ?_
    refine x_step rfl ?_
    exact x_iret rfl rfl rfl ⟨rfl, rfl⟩
  | 14, _, _ =>
    refine XE (pl := [some (.ref 103), some (.int (nI 14))]) xg190 rfl ?_
    refine x_step rfl ?_
    refine x_tswIn rfl (by decide) (by decide) rfl (t := 173) (by decide) ?_
    refine x_step rfl ?_
    exact x_iret rfl rfl rfl ⟨rfl, rfl⟩
  | 15, _, _ =>
    refine XE (pl := [some (.ref 103), some (.int (nI 15))]) xg190 rfl ?_
    refine x_step rfl ?_
    refine x_tswIn rfl (by decide) (by decide) rfl (t := 173) (by decide) ?_
    refine x_step rfl ?_
    exact x_iret rfl rfl rfl ⟨rfl, rfl⟩
  | 16, _, _ =>
    refine XE (pl := [some (.ref 103), some (.int (nI 16))]) xg190 rfl ?_
    refine x_step rfl ?_
    refine x_tswIn rfl (by decide) (by decide) rfl (t := 164) (by decide) ?_
    refine x_step rfl ?_
    exact x_iret rfl rfl rfl ⟨rfl, rfl⟩
  | 17, _, _ =>
    refine XE (pl := [some (.ref 103), some (.int (nI 17))]) xg190 rfl ?_
    refine x_step rfl ?_
    refine x_tswIn rfl (by decide) (by decide) rfl (t := 173) (by decide) ?_
    refine x_step rfl ?_
    exact x_iret rfl rfl rfl ⟨rfl, rfl⟩
  | 18, _, _ =>
    refine XE (pl := [some (.ref 103), some (.int (nI 18))]) xg190 rfl ?_
    refine x_step rfl ?_
    refine x_tswIn rfl (by decide) (by decide) rfl (t := 173) (by decide) ?_
    refine x_step rfl ?_
    exact x_iret rfl rfl rfl ⟨rfl, rfl⟩
  | 19, _, _ =>
    refine XE (pl := [some (.ref 103), some (.int (nI 19))]) xg190 rfl ?_
    refine x_step rfl ?_
    refine x_tswIn rfl (by decide) (by decide) rfl (t := 173) (by decide) ?_
    refine x_step rfl ?_
    exact x_iret rfl rfl rfl ⟨rfl, rfl⟩
  | 20, _, _ =>
    refine XE (pl := [some (.ref 103), some (.int (nI 20))]) xg190 rfl ?_
    refine x_step rfl ?_
    refine x_tswIn rfl (by decide) (by decide) rfl (t := 173) (by decide) ?_
    refine x_step rfl ?_
    exact x_iret rfl rfl rfl ⟨rfl, rfl⟩
  | 21, _, _ =>
    refine XE (pl := [some (.ref 103), some (.int (nI 21))]) xg190 rfl ?_
    refine x_step rfl ?_
    refine x_tswIn rfl (by decide) (by decide) rfl (t := 173) (by decide) ?_
    refine x_step rfl ?_
    exact x_iret rfl rfl rfl ⟨rfl, rfl⟩
  | 22, _, _ =>
    refine XE (pl := [some (.ref 103), some (.int (nI 22))]) xg190 rfl ?_
    refine x_step rfl ?_
    refine x_tswIn rfl (by decide) (by decide) rfl (t := 173) (by decide) ?_
    refine x_step rfl ?_
    exact x_iret rfl rfl rfl ⟨rfl, rfl⟩
  | 23, _, _ =>
    refine XE (pl := [some (.ref 103), some (.int (nI 23))]) xg190 rfl ?_
    refine x_step rfl ?_
    refine x_tswIn rfl (by decide) (by decide) rfl (t := 173) (by decide) ?_
    refine x_step rfl ?_
    exact x_iret rfl rfl rfl ⟨rfl, rfl⟩
  | 24, _, _ =>
    refine XE (pl := [some (.ref 103), some (.int (nI 24))]) xg190 rfl ?_
    refine x_step rfl ?_
    refine x_tswIn rfl (by decide) (by decide) rfl (t := 173) (by decide) ?_
    refine x_step rfl ?_
    exact x_iret rfl rfl rfl ⟨rfl, rfl⟩
  | 25, _, _ =>
    refine XE (pl := [some (.ref 103), some (.int (nI 25))]) xg190 rfl ?_
    refine x_step rfl ?_
    refine x_tswIn rfl (by decide) (by decide) rfl (t := 164) (by decide) ?_
    refine x_step rfl ?_
    exact x_iret rfl rfl rfl ⟨rfl, rfl⟩
  | 26, _, _ =>
    refine XE (pl := [some (.ref 103), some (.int (nI 26))]) xg190 rfl ?_
    refine x_step rfl ?_
    refine x_tswIn rfl (by decide) (by decide) rfl (t := 166) (by decide) ?_
    refine x_step rfl ?_
    exact x_iret rfl rfl rfl ⟨rfl, rfl⟩
  | 27, _, _ =>
    refine XE (pl := [some (.ref 103), some (.int (nI 27))]) xg190 rfl ?_
    refine x_step rfl ?_
    refine x_tswIn rfl (by decide) (by decide) rfl (t := 173) (by decide) ?_
    refine x_step rfl ?_
    exact x_iret rfl rfl rfl ⟨rfl, rfl⟩
  | 28, _, _ =>
    refine XE (pl := [some (.ref 103), some (.int (nI 28))]) xg190 rfl ?_
    refine x_step rfl ?_
    refine x_tswIn rfl (by decide) (by decide) rfl (t := 168) (by decide) ?_
    refine x_step rfl ?_
    exact x_iret rfl rfl rfl ⟨rfl, rfl⟩
  | 29, _, _ =>
    refine XE (pl := [some (.ref 103), some (.int (nI 29))]) xg190 rfl ?_
    refine x_step rfl ?_
    refine x_tswIn rfl (by decide) (by decide) rfl (t := 173) (by decide) ?_
    refine x_step rfl ?_
    exact x_iret rfl rfl rfl ⟨rfl, rfl⟩
  | 30, _, _ =>
    refine XE (pl := [some (.ref 103), some (.int (nI 30))]) xg190 rfl ?_
    refine x_step rfl ?_
    refine x_tswIn rfl (by decide) (by decide) rfl (t := 173) (by decide) ?_
    refine x_step rfl ?_
    exact x_iret rfl rfl rfl ⟨rfl, rfl⟩
  | 31, _, _ =>
    refine XE (pl := [some (.ref 103), some (.int (nI 31))]) xg190 rfl ?_
    refine x_step rfl ?_
    refine x_tswIn rfl (by decide) (by decide) rfl (t := 173) (by decide) ?_
    refine x_step rfl ?_
    exact x_iret rfl rfl rfl ⟨rfl, rfl⟩
  | 32, _, _ =>
    refine XE (pl := [some (.ref 103), some (.int (nI 32))]) xg190 rfl ?_
    refine x_step rfl ?_
    refine x_tswIn rfl (by decide) (by decide) rfl (t := 170) (by decide) ?_
    refine x_step rfl ?_
    exact x_iret rfl rfl rfl ⟨rfl, rfl⟩
  | 33, _, _ =>
    refine XE (pl := [some (.ref 103), some (.int (nI 33))]) xg190 rfl ?_
    refine x_step rfl ?_
    refine x_tswIn rfl (by decide) (by decide) rfl (t := 173) (by decide) ?_
    refine x_step rfl ?_
    exact x_iret rfl rfl rfl ⟨rfl, rfl⟩
  | 34, _, _ =>
    refine XE (pl := [some (.ref 103), some (.int (nI 34))]) xg190 rfl ?_
    refine x_step rfl ?_
    refine x_tswIn rfl (by decide) (by decide) rfl (t := 173) (by decide) ?_
    refine x_step rfl ?_
    exact x_iret rfl rfl rfl ⟨rfl, rfl⟩
  | 35, _, _ =>
    refine XE (pl := [some (.ref 103), some (.int (nI 35))]) xg190 rfl ?_
    refine x_step rfl ?_
    refine x_tswIn rfl (by decide) (by decide) rfl (t := 173) (by decide) ?_
    refine x_step rfl ?_
    exact x_iret rfl rfl rfl ⟨rfl, rfl⟩
  | 36, _, _ =>
    refine XE (pl := [some (.ref 103), some (.int (nI 36))]) xg190 rfl ?_
    refine x_step rfl ?_
    refine x_tswIn rfl (by decide) (by decide) rfl (t := 168) (by decide) ?_
    refine x_step rfl ?_
    exact x_iret rfl rfl rfl ⟨rfl, rfl⟩
  | 37, _, _ =>
    refine XE (pl := [some (.ref 103), some (.int (nI 37))]) xg190 rfl ?_
    refine x_step rfl ?_
    refine x_tswIn rfl (by decide) (by decide) rfl (t := 173) (by decide) ?_
    refine x_step rfl ?_
    exact x_iret rfl rfl rfl ⟨rfl, rfl⟩
  | 38, _, _ =>
    refine XE (pl := [some (.ref 103), some (.int (nI 38))]) xg190 rfl ?_
    refine x_step rfl ?_
    refine x_tswIn rfl (by decide) (by decide) rfl (t := 173) (by decide) ?_
    refine x_step rfl ?_
    exact x_iret rfl rfl rfl ⟨rfl, rfl⟩
  | 39, _, _ =>
    refine XE (pl := [some (.ref 103), some (.int (nI 39))]) xg190 rfl ?_
    refine x_step rfl ?_
    refine x_tswIn rfl (by decide) (by decide) rfl (t := 173) (by decide) ?_
    refine x_step rfl ?_
    exact x_iret rfl rfl rfl ⟨rfl, rfl⟩
  | 40, _, _ =>
    refine XE (pl := [some (.ref 103), some (.int (nI 40))]) xg190 rfl ?_
    refine x_step rfl ?_
    refine x_tswIn rfl (by decide) (by decide) rfl (t := 173) (by decide) ?_
    refine x_step rfl ?_
    exact x_iret rfl rfl rfl ⟨rfl, rfl⟩
  | 41, _, _ =>
    refine XE (pl := [some (.ref 103), some (.int (nI 41))]) xg190 rfl ?_
    refine x_step rfl ?_
    refine x_tswIn rfl (by decide) (by decide) rfl (t := 164) (by decide) ?_
    refine x_step rfl ?_
    exact x_iret rfl rfl rfl ⟨rfl, rfl⟩
  | 42, _, _ =>
    refine XE (pl := [some (.ref 103), some (.int (nI 42))]) xg190 rfl ?_
    refine x_step rfl ?_
    refine x_tswIn rfl (by decide) (by decide) rfl (t := 166) (by decide) ?_
    refine x_step rfl ?_
    exact x_iret rfl rfl rfl ⟨rfl, rfl⟩
  | 43, _, _ =>
    refine XE (pl := [some (.ref 103), some (.int (nI 43))]) xg190 rfl ?_
    refine x_step rfl ?_
    refine x_tswIn rfl (by decide) (by decide) rfl (t := 173) (by decide) ?_
    refine x_step rfl ?_
    exact x_iret rfl rfl rfl ⟨rfl, rfl⟩
  | 44, _, _ =>
    refine XE (pl := [some (.ref 103), some (.int (nI 44))]) xg190 rfl ?_
    refine x_step rfl ?_
    refine x_tswIn rfl (by decide) (by decide) rfl (t := 168) (by decide) ?_
    refine x_step rfl ?_
    exact x_iret rfl rfl rfl ⟨rfl, rfl⟩
  | n + 45, _, h => exact absurd h (by omega)
  | 0, h, _ => exact absurd h (by omega)
  | 1, h, _ => exact absurd h (by omega)
  | 2, h, _ => exact absurd h (by omega)
  | 3, h, _ => exact absurd h (by omega)
  | 4, h, _ => exact absurd h (by omega)
  | 5, h, _ => exact absurd h (by omega)
  | 6, h, _ => exact absurd h (by omega)
  | 7, h, _ => exact absurd h (by omega)
theorem q190 (f : Nat) (hf : f < 64) : XM l 190 d 0 0 [.ref 103, .int (nI f)] (cw L xs (rw th jl js jh jb jc jr jq jQ jz jf jo jn jt jH jA jm jy je jp jk jx jw ju jF jL jO jS jT jU jV jW ja jG ov g2) tc tf bl bf of oc ol on ml mx mb kc kh kr ka gl gx gb ls lq lk lg lh vf vs vb nv nw nr nq ne io sp ch wt xf xz xt xb xc) (xm_is (some (.int (nI (itW f)))) (cw L xs (rw th jl js jh jb jc jr jq jQ jz jf jo jn jt jH jA jm jy je jp jk jx jw ju jF jL jO jS jT jU jV jW ja jG ov g2) tc tf bl bf of oc ol on ml mx mb kc kh kr ka gl gx gb ls lq lk lg lh vf vs vb nv nw nr nq ne io sp ch wt xf xz xt xb xc)) := by
  by_cases h8 : 8 ≤ f
  · by_cases h44 : f ≤ 44
    · exact q190i f h8 h44
    · have e : itW f = 0 := by
        unfold itW
        rw [if_neg (by omega), if_neg (by omega), if_neg (by omega), if_neg (by omega)]
      rw [e]
      refine XE (pl := [some (.ref 103), some (.int (nI f))]) xg190 rfl ?_
      refine x_step rfl ?_
      refine x_tswOut rfl (Or.inr (by rw [nI_toInt (by omega)]; omega)) (t := 173) (by decide) ?_
      refine x_step rfl ?_
      exact x_iret rfl rfl rfl ⟨rfl, rfl⟩
  · have e : itW f = 0 := by
      unfold itW
      rw [if_neg (by omega), if_neg (by omega), if_neg (by omega), if_neg (by omega)]
    rw [e]
    refine XE (pl := [some (.ref 103), some (.int (nI f))]) xg190 rfl ?_
    refine x_step rfl ?_
    refine x_tswOut rfl (Or.inl (by rw [nI_toInt (by omega)]; omega)) (t := 173) (by decide) ?_
    refine x_step rfl ?_
    exact x_iret rfl rfl rfl ⟨rfl, rfl⟩
theorem itF_lt (hβ : ∀ i, β i < 256) (p : Nat) : itF β p < 64 := by have := hβ p; unfold itF; omega
/-- FabLinkModel.isList -/
theorem q191 (hb : ∀ i, i < 130 → jb (i + 1) = nI (β i)) (hβ : ∀ i, β i < 256) (p n : Nat) (hd : 1 ≤ d) (hT : itT β p ≤ 130) (hn : n < 2 ^ 20) : XM l 191 d 0 0 [.ref 103, .int (nI (p + 1)), .int (nI n)] (cw L xs (rw th jl js jh jb jc jr jq jQ jz jf jo jn jt jH jA jm jy je jp jk jx jw ju jF jL jO jS jT jU jV jW ja jG ov g2) tc tf bl bf of oc ol on ml mx mb kc kh kr ka gl gx gb ls lq lk lg lh vf vs vb nv nw nr nq ne io sp ch wt xf xz xt xb xc) (xm_is (some (.int (bI (itF β p == 0 && itS β p == n)))) (cw L xs (rw th jl js jh jb jc jr jq jQ jz jf jo jn jt jH jA jm jy je jp jk jx jw ju jF jL jO jS jT jU jV jW ja jG ov g2) tc tf bl bf of oc ol on ml mx mb kc kh kr ka gl gx gb ls lq lk lg lh vf vs vb nv nw nr nq ne io sp ch wt xf xz xt xb xc)) := by
  refine XE (pl := [some (.ref 103), some (.int (nI (p + 1))), some (.int (nI n))]) xg191 rfl ?_
  have hTe : itT β p = p + 1 + itK β p := rfl
  have hF := itF_lt hβ p
  have hS := itS_lt hβ p
  iterate 2 refine x_step rfl ?_
  refine x_callvE rfl (q187 (d := 0) hb hβ p (by omega)) rfl rfl rfl ?_
  refine x_ifN_ne (itF β p) rfl rfl (fun h => ?_) (fun h => ?_)
  · refine x_step rfl ?_
    exact x_iret rfl rfl rfl ⟨by rw [show (itF β p == 0) = false from by simpa using h]; rfl, rfl⟩
  · refine x_step rfl ?_
    refine x_ifN_lt (n) rfl rfl (fun q => False.elim (by omega)) (fun _ => ?_)
    iterate 2 refine x_step rfl ?_
    refine x_callvE rfl (q188 (d := 0) hb hβ p hT) rfl rfl rfl ?_
    refine x_step rfl ?_
    refine x_icmpN_ne (itS β p) (n) rfl rfl rfl (fun h2 => ?_) (fun h2 => ?_)
    · refine x_step rfl ?_
      exact x_iret rfl rfl rfl ⟨by rw [show (itS β p == n) = false from by simpa using h2, Bool.and_false]; rfl, rfl⟩
    · iterate 2 refine x_step rfl ?_
      exact x_iret rfl rfl rfl ⟨by rw [h, h2, show (n == n) = true from beq_self_eq_true n]; rfl, rfl⟩
/-- FabLinkModel.isList -/
theorem q191m (hb : ∀ i, i < 130 → jb (i + 1) = nI (β i)) (hβ : ∀ i, β i < 256) (p : Nat) (hd : 1 ≤ d) (hp : p < 130) : XM l 191 d 0 0 [.ref 103, .int (nI (p + 1)), .int (-1)] (cw L xs (rw th jl js jh jb jc jr jq jQ jz jf jo jn jt jH jA jm jy je jp jk jx jw ju jF jL jO jS jT jU jV jW ja jG ov g2) tc tf bl bf of oc ol on ml mx mb kc kh kr ka gl gx gb ls lq lk lg lh vf vs vb nv nw nr nq ne io sp ch wt xf xz xt xb xc) (xm_is (some (.int (bI (itF β p == 0)))) (cw L xs (rw th jl js jh jb jc jr jq jQ jz jf jo jn jt jH jA jm jy je jp jk jx jw ju jF jL jO jS jT jU jV jW ja jG ov g2) tc tf bl bf of oc ol on ml mx mb kc kh kr ka gl gx gb ls lq lk lg lh vf vs vb nv nw nr nq ne io sp ch wt xf xz xt xb xc)) := by
  refine XE (pl := [some (.ref 103), some (.int (nI (p + 1))), some (.int (-1))]) xg191 rfl ?_
  have hF := itF_lt hβ p
  iterate 2 refine x_step rfl ?_
  refine x_callvE rfl (q187 (d := 0) hb hβ p (by omega)) rfl rfl rfl ?_
  refine x_ifN_ne (itF β p) rfl rfl (fun h => ?_) (fun h => ?_)
  · refine x_step rfl ?_
    exact x_iret rfl rfl rfl ⟨by rw [show (itF β p == 0) = false from by simpa using h]; rfl, rfl⟩
  · refine x_step rfl ?_
    refine x_if_lt rfl (fun _ => ?_) (fun q => absurd (by decide) q)
    iterate 2 refine x_step rfl ?_
    exact x_iret rfl rfl rfl ⟨by rw [h]; rfl, rfl⟩
/-- FabLinkModel.isNumber -/
theorem q200 (hb : ∀ i, i < 130 → jb (i + 1) = nI (β i)) (hβ : ∀ i, β i < 256) (p : Nat) (hd : 1 ≤ d) (hT : itT β p ≤ 130) : XM l 200 d 0 0 [.ref 103, .int (nI (p + 1))] (cw L xs (rw th jl js jh jb jc jr jq jQ jz jf jo jn jt jH jA jm jy je jp jk jx jw ju jF jL jO jS jT jU jV jW ja jG ov g2) tc tf bl bf of oc ol on ml mx mb kc kh kr ka gl gx gb ls lq lk lg lh vf vs vb nv nw nr nq ne io sp ch wt xf xz xt xb xc) (xm_is (some (.int (bI (itF β p == 41 && itS β p == 1)))) (cw L xs (rw th jl js jh jb jc jr jq jQ jz jf jo jn jt jH jA jm jy je jp jk jx jw ju jF jL jO jS jT jU jV jW ja jG ov g2) tc tf bl bf of oc ol on ml mx mb kc kh kr ka gl gx gb ls lq lk lg lh vf vs vb nv nw nr nq ne io sp ch wt xf xz xt xb xc)) := by
  refine XE (pl := [some (.ref 103), some (.int (nI (p + 1)))]) xg200 rfl ?_
  have hTe : itT β p = p + 1 + itK β p := rfl
  have hF := itF_lt hβ p
  have hS := itS_lt hβ p
  iterate 2 refine x_step rfl ?_
  refine x_callvE rfl (q187 (d := 0) hb hβ p (by omega)) rfl rfl rfl ?_
  refine x_step rfl ?_
  refine x_icmpN_ne (itF β p) (41) rfl rfl rfl (fun h => ?_) (fun h => ?_)
  · refine x_step rfl ?_
    exact x_iret rfl rfl rfl ⟨by rw [show (itF β p == 41) = false from by simpa using h]; rfl, rfl⟩
  · iterate 2 refine x_step rfl ?_
    refine x_callvE rfl (q188 (d := 0) hb hβ p hT) rfl rfl rfl ?_
    refine x_step rfl ?_
    refine x_icmpN_ne (itS β p) (1) rfl rfl rfl (fun h2 => ?_) (fun h2 => ?_)
    · refine x_step rfl ?_
      exact x_iret rfl rfl rfl ⟨by rw [show (itS β p == 1) = false from by simpa using h2, Bool.and_false]; rfl, rfl⟩
    · iterate 2 refine x_step rfl ?_
      exact x_iret rfl rfl rfl ⟨by rw [h, h2]; rfl, rfl⟩
/-- FabLinkModel.number -/
theorem q192 (hb : ∀ i, i < 130 → jb (i + 1) = nI (β i)) (hβ : ∀ i, β i < 256) (p : Nat) (hd : 1 ≤ d) (hT : itT β p < 130) : XM l 192 d 0 0 [.ref 103, .int (nI (p + 1))] (cw L xs (rw th jl js jh jb jc jr jq jQ jz jf jo jn jt jH jA jm jy je jp jk jx jw ju jF jL jO jS jT jU jV jW ja jG ov g2) tc tf bl bf of oc ol on ml mx mb kc kh kr ka gl gx gb ls lq lk lg lh vf vs vb nv nw nr nq ne io sp ch wt xf xz xt xb xc) (xm_is (some (.int (nI (β (itT β p))))) (cw L xs (rw th jl js jh jb jc jr jq jQ jz jf jo jn jt jH jA jm jy je jp jk jx jw ju jF jL jO jS jT jU jV jW ja jG ov g2) tc tf bl bf of oc ol on ml mx mb kc kh kr ka gl gx gb ls lq lk lg lh vf vs vb nv nw nr nq ne io sp ch wt xf xz xt xb xc)) := by
  refine XE (pl := [some (.ref 103), some (.int (nI (p + 1)))]) xg192 rfl ?_
  have hTe : itT β p = p + 1 + itK β p := rfl
  iterate 4 refine x_step rfl ?_
  refine x_callvE rfl (q189 (d := 0) hb hβ p (by omega)) rfl rfl rfl ?_
  refine x_ialdN (itT β p + 1) rfl rfl rfl (by omega) ?_
  exact x_iret rfl rfl rfl ⟨by rw [hb _ hT], rfl⟩
theorem q199_one {Q : xm_Q} (hb : ∀ i, i < 130 → jb (i + 1) = nI (β i)) (hβ : ∀ i, β i < 256) (fr : Int32) (p Lf : Nat) (hd : 1 ≤ d) (hT : itT β p ≤ 130) (hL : Lf + 2 ^ 24 < 2 ^ 30) (hK : ∀ o4 o5 : Option Value, XG l xm_any 199 d 0 0 4 [some (.ref 103), some (.int fr), some (.int (nI ((if itF β p = 0 then itT β p else itT β p + itS β p) + 1))), some (.int (nI (Lf + (if itF β p = 0 then itS β p else 0)))), o4, o5] [] (cw L xs (rw th jl js jh jb jc jr jq jQ jz jf jo jn jt jH jA jm jy je jp jk jx jw ju jF jL jO jS jT jU jV jW ja jG ov g2) tc tf bl bf of oc ol on ml mx mb kc kh kr ka gl gx gb ls lq lk lg lh vf vs vb nv nw nr nq ne io sp ch wt xf xz xt xb xc) Q) : ∀ o4 o5 : Option Value, XG l xm_any 199 d 0 0 4 [some (.ref 103), some (.int fr), some (.int (nI (p + 1))), some (.int (nI (Lf + 1))), o4, o5] [] (cw L xs (rw th jl js jh jb jc jr jq jQ jz jf jo jn jt jH jA jm jy je jp jk jx jw ju jF jL jO jS jT jU jV jW ja jG ov g2) tc tf bl bf of oc ol on ml mx mb kc kh kr ka gl gx gb ls lq lk lg lh vf vs vb nv nw nr nq ne io sp ch wt xf xz xt xb xc) Q := by
  have hTe : itT β p = p + 1 + itK β p := rfl
  have hF := itF_lt hβ p
  have hS := itS_lt hβ p
  intro o4 o5
  refine x_step rfl ?_
  refine x_ifN_le (Lf + 1) rfl rfl (fun q => False.elim (by omega)) (fun _ => ?_)
  iterate 2 refine x_step rfl ?_
  refine x_callvE rfl (q188 (d := 0) hb hβ p hT) rfl rfl rfl ?_
  iterate 3 refine x_step rfl ?_
  refine x_callvE rfl (q187 (d := 0) hb hβ p (by omega)) rfl rfl rfl ?_
  refine x_ifN_ne (itF β p) rfl rfl (fun h => ?_) (fun h => ?_)
  · iterate 4 refine x_step rfl ?_
    refine x_callvE rfl (q189 (d := 0) hb hβ p (by omega)) rfl rfl rfl ?_
    iterate 5 refine x_step rfl ?_
    refine x_if_eq rfl (fun _ => ?_) (fun q => absurd (by decide) q)
    iterate 4 refine x_step rfl ?_
    refine x_if_eq rfl (fun _ => ?_) (fun q => absurd (by decide) q)
    iterate 5 refine x_step rfl ?_
    refine xm_ls (pl' := [some (.ref 103), some (.int fr), some (.int (nI ((if itF β p = 0 then itT β p else itT β p + itS β p) + 1))), some (.int (nI (Lf + (if itF β p = 0 then itS β p else 0)))), some (.int (nI (itS β p))), some (.int 0)]) (by rw [if_neg h, if_neg h, nI_pred, nI_add (itT β p + 1), show itT β p + 1 + itS β p = itT β p + itS β p + 1 by omega, Nat.add_zero, show nI Lf + 0 = nI Lf from nI_add Lf 0] <;> rfl) ?_
    exact hK _ _
  · iterate 5 refine x_step rfl ?_
    refine x_callvE rfl (q189 (d := 0) hb hβ p (by omega)) rfl rfl rfl ?_
    iterate 5 refine x_step rfl ?_
    refine x_if_eq rfl (fun q => absurd q (by decide)) (fun _ => ?_)
    iterate 5 refine x_step rfl ?_
    refine x_if_eq rfl (fun q => absurd q (by decide)) (fun _ => ?_)
    iterate 4 refine x_step rfl ?_
    refine xm_ls (pl' := [some (.ref 103), some (.int fr), some (.int (nI ((if itF β p = 0 then itT β p else itT β p + itS β p) + 1))), some (.int (nI (Lf + (if itF β p = 0 then itS β p else 0)))), some (.int (nI (itS β p))), some (.int 1)]) (by rw [if_pos h, if_pos h, nI_pred, nI_add] <;> rfl) ?_
    exact hK _ _
theorem q199_run {Q : xm_Q} (hb : ∀ i, i < 130 → jb (i + 1) = nI (β i)) (hβ : ∀ i, β i < 256) (fr : Int32) (he : e ≤ 130) (hd : 1 ≤ d) : ∀ (D p : Nat) (ps : List (Nat × Nat)) (q Lf : Nat), itR β e D p = some (ps, q) → Lf + (D + 1) * 2 ^ 24 < 2 ^ 30 → (∀ o4 o5 : Option Value, XG l xm_any 199 d 0 0 4 [some (.ref 103), some (.int fr), some (.int (nI (q + 1))), some (.int (nI (Lf))), o4, o5] [] (cw L xs (rw th jl js jh jb jc jr jq jQ jz jf jo jn jt jH jA jm jy je jp jk jx jw ju jF jL jO jS jT jU jV jW ja jG ov g2) tc tf bl bf of oc ol on ml mx mb kc kh kr ka gl gx gb ls lq lk lg lh vf vs vb nv nw nr nq ne io sp ch wt xf xz xt xb xc) Q) → ∀ o4 o5 : Option Value, XG l xm_any 199 d 0 0 4 [some (.ref 103), some (.int fr), some (.int (nI (p + 1))), some (.int (nI (Lf + 1))), o4, o5] [] (cw L xs (rw th jl js jh jb jc jr jq jQ jz jf jo jn jt jH jA jm jy je jp jk jx jw ju jF jL jO jS jT jU jV jW ja jG ov g2) tc tf bl bf of oc ol on ml mx mb kc kh kr ka gl gx gb ls lq lk lg lh vf vs vb nv nw nr nq ne io sp ch wt xf xz xt xb xc) Q := by
  intro D
  induction D with
  | zero =>
    intro p ps q Lf h hL hK
    rw [itR] at h
    split at h
    next hc =>
      split at h
      · cases h
      next hF =>
        obtain ⟨-, rfl, -⟩ := itLeaf_some h
        refine q199_one hb hβ fr p Lf hd (by omega) (by omega) ?_
        rw [if_neg hF, if_neg hF]
        exact hK
    next => cases h
  | succ D ih =>
    intro p ps q Lf h hL hK
    rw [itR] at h
    split at h
    next hc =>
      split at h
      next hF =>
        cases h2 : itI (itR β e D) (itS β p) (itT β p) with
        | none => simp [h2] at h
        | some a =>
          simp [h2] at h
          obtain ⟨-, rfl⟩ := h
          have hS := itS_lt hβ p
          refine q199_one hb hβ fr p Lf hd (by omega) (by omega) ?_
          rw [if_pos hF, if_pos hF]
          have seq : ∀ (m q0 : Nat) (cs : List (Nat × Nat)) (r : Nat), m ≤ itS β p → itI (itR β e D) m q0 = some (cs, r) → (∀ o4 o5 : Option Value, XG l xm_any 199 d 0 0 4 [some (.ref 103), some (.int fr), some (.int (nI (r + 1))), some (.int (nI (Lf))), o4, o5] [] (cw L xs (rw th jl js jh jb jc jr jq jQ jz jf jo jn jt jH jA jm jy je jp jk jx jw ju jF jL jO jS jT jU jV jW ja jG ov g2) tc tf bl bf of oc ol on ml mx mb kc kh kr ka gl gx gb ls lq lk lg lh vf vs vb nv nw nr nq ne io sp ch wt xf xz xt xb xc) Q) → ∀ o4 o5 : Option Value, XG l xm_any 199 d 0 0 4 [some (.ref 103), some (.int fr), some (.int (nI (q0 + 1))), some (.int (nI (Lf + m))), o4, o5] [] (cw L xs (rw th jl js jh jb jc jr jq jQ jz jf jo jn jt jH jA jm jy je jp jk jx jw ju jF jL jO jS jT jU jV jW ja jG ov g2) tc tf bl bf of oc ol on ml mx mb kc kh kr ka gl gx gb ls lq lk lg lh vf vs vb nv nw nr nq ne io sp ch wt xf xz xt xb xc) Q := by
            intro m
            induction m with
            | zero =>
              intro q0 cs r _ h3 hk
              cases h3
              exact hk
            | succ m ih2 =>
              intro q0 cs r hm h3 hk
              rw [itI] at h3
              cases h4 : itR β e D q0 with
              | none => rw [h4] at h3; cases h3
              | some b =>
                rw [h4] at h3
                cases h5 : itI (itR β e D) m b.2 with
                | none => simp [h5] at h3
                | some c =>
                  simp [h5] at h3
                  obtain ⟨-, rfl⟩ := h3
                  exact ih q0 b.1 b.2 (Lf + m) h4 (by omega) (ih2 b.2 c.1 c.2 (by omega) h5 hk)
          exact seq (itS β p) (itT β p) a.1 a.2 (Nat.le_refl _) h2 hK
      next hF =>
        obtain ⟨-, rfl, -⟩ := itLeaf_some h
        refine q199_one hb hβ fr p Lf hd (by omega) (by omega) ?_
        rw [if_neg hF, if_neg hF]
        exact hK
    next => cases h
/-- FabLinkModel.behind -/
theorem q199 (hb : ∀ i, i < 130 → jb (i + 1) = nI (β i)) (hβ : ∀ i, β i < 256) (he : e ≤ 130) (D p q : Nat) (ps : List (Nat × Nat)) (hd : 1 ≤ d) (hD : D ≤ 6) (h : itR β e D p = some (ps, q)) : XM l 199 d 0 0 [.ref 103, .int (nI (p + 1))] (cw L xs (rw th jl js jh jb jc jr jq jQ jz jf jo jn jt jH jA jm jy je jp jk jx jw ju jF jL jO jS jT jU jV jW ja jG ov g2) tc tf bl bf of oc ol on ml mx mb kc kh kr ka gl gx gb ls lq lk lg lh vf vs vb nv nw nr nq ne io sp ch wt xf xz xt xb xc) (xm_is (some (.int (nI (q + 1)))) (cw L xs (rw th jl js jh jb jc jr jq jQ jz jf jo jn jt jH jA jm jy je jp jk jx jw ju jF jL jO jS jT jU jV jW ja jG ov g2) tc tf bl bf of oc ol on ml mx mb kc kh kr ka gl gx gb ls lq lk lg lh vf vs vb nv nw nr nq ne io sp ch wt xf xz xt xb xc)) := by
  refine XE (pl := [some (.ref 103), some (.int (nI (p + 1))), none, none, none, none]) xg199 rfl ?_
  iterate 4 refine x_step rfl ?_
  refine xm_ls (pl' := [some (.ref 103), some (.int (nI (p + 1))), some (.int (nI (p + 1))), some (.int (nI (0 + 1))), none, none]) rfl ?_
  refine q199_run hb hβ (nI (p + 1)) he hd D p ps q 0 h (by omega) (fun o4 o5 => ?_) none none
  refine x_step rfl ?_
  refine x_ifN_le (0) rfl rfl (fun _ => ?_) (fun q => False.elim (by omega))
  refine x_step rfl ?_
  exact x_iret rfl rfl rfl ⟨rfl, rfl⟩
theorem q198_loop (hb : ∀ i, i < 130 → jb (i + 1) = nI (β i)) (hβ : ∀ i, β i < 256) (he : e ≤ 130) (D p n q : Nat) (hd : 2 ≤ d) (hD : D ≤ 6) (hn : n < 2 ^ 24) : ∀ (m i q0 : Nat) (cs : List (Nat × Nat)), i + m = n → itI (itR β e D) m q0 = some (cs, q) → XW l 198 d 0 0 9 [some (.ref 103), some (.int (nI (p + 1))), some (.int (nI n)), some (.int (nI (q0 + 1))), some (.int (nI i))] [] (cw L xs (rw th jl js jh jb jc jr jq jQ jz jf jo jn jt jH jA jm jy je jp jk jx jw ju jF jL jO jS jT jU jV jW ja jG ov g2) tc tf bl bf of oc ol on ml mx mb kc kh kr ka gl gx gb ls lq lk lg lh vf vs vb nv nw nr nq ne io sp ch wt xf xz xt xb xc) (xm_is (some (.int (nI (q + 1)))) (cw L xs (rw th jl js jh jb jc jr jq jQ jz jf jo jn jt jH jA jm jy je jp jk jx jw ju jF jL jO jS jT jU jV jW ja jG ov g2) tc tf bl bf of oc ol on ml mx mb kc kh kr ka gl gx gb ls lq lk lg lh vf vs vb nv nw nr nq ne io sp ch wt xf xz xt xb xc)) := by
  intro m
  induction m with
  | zero =>
    intro i q0 cs hi h
    cases h
    iterate 2 refine x_step rfl ?_
    refine x_icmpN_ge (i) (n) rfl rfl rfl (fun _ => ?_) (fun q => False.elim (by omega))
    refine x_step rfl ?_
    exact x_iret rfl rfl rfl ⟨rfl, rfl⟩
  | succ m ih =>
    intro i q0 cs hi h
    rw [itI] at h
    cases h4 : itR β e D q0 with
    | none => rw [h4] at h; cases h
    | some b =>
      rw [h4] at h
      cases h5 : itI (itR β e D) m b.2 with
      | none => simp [h5] at h
      | some c =>
        simp [h5] at h
        obtain ⟨-, rfl⟩ := h
        iterate 2 refine x_step rfl ?_
        refine x_icmpN_ge (i) (n) rfl rfl rfl (fun q => False.elim (by omega)) (fun _ => ?_)
        iterate 2 refine x_step rfl ?_
        refine x_callvE rfl (q199 (d := 1) hb hβ he D q0 b.2 b.1 (by omega) hD h4) rfl rfl rfl ?_
        iterate 3 refine x_step rfl ?_
        refine xm_ls (pl' := [some (.ref 103), some (.int (nI (p + 1))), some (.int (nI n)), some (.int (nI (b.2 + 1))), some (.int (nI (i + 1)))]) (by rw [nI_succ i] <;> rfl) ?_
        exact ih (i + 1) b.2 c.1 (by omega) h5
/-- FabLinkModel.nth -/
theorem q198 (hb : ∀ i, i < 130 → jb (i + 1) = nI (β i)) (hβ : ∀ i, β i < 256) (he : e ≤ 130) (D p n q : Nat) (cs : List (Nat × Nat)) (hd : 2 ≤ d) (hD : D ≤ 6) (hn : n < 2 ^ 24) (hp : p < 130) (h : itI (itR β e D) n (itT β p) = some (cs, q)) : XM l 198 d 0 0 [.ref 103, .int (nI (p + 1)), .int (nI n)] (cw L xs (rw th jl js jh jb jc jr jq jQ jz jf jo jn jt jH jA jm jy je jp jk jx jw ju jF jL jO jS jT jU jV jW ja jG ov g2) tc tf bl bf of oc ol on ml mx mb kc kh kr ka gl gx gb ls lq lk lg lh vf vs vb nv nw nr nq ne io sp ch wt xf xz xt xb xc) (xm_is (some (.int (nI (q + 1)))) (cw L xs (rw th jl js jh jb jc jr jq jQ jz jf jo jn jt jH jA jm jy je jp jk jx jw ju jF jL jO jS jT jU jV jW ja jG ov g2) tc tf bl bf of oc ol on ml mx mb kc kh kr ka gl gx gb ls lq lk lg lh vf vs vb nv nw nr nq ne io sp ch wt xf xz xt xb xc)) := by
  refine XE (pl := [some (.ref 103), some (.int (nI (p + 1))), some (.int (nI n)), none, none]) xg198 rfl ?_
  iterate 2 refine x_step rfl ?_
  refine x_callvE rfl (q189 (d := 0) hb hβ p hp) rfl rfl rfl ?_
  iterate 3 refine x_step rfl ?_
  refine xm_ls (pl' := [some (.ref 103), some (.int (nI (p + 1))), some (.int (nI n)), some (.int (nI (itT β p + 1))), some (.int (nI 0))]) rfl ?_
  exact q198_loop hb hβ he D p n q hd hD hn n 0 (itT β p) cs (by omega) h
end ER4
