section ER15
variable {l : Launch} {d L : Nat} {xs : Nat → Int32} {tc : Int32} {tf : (Nat → Int32)} {bl : Int32} {bf : (Nat → Int32)} {of : Int32} {oc : Int32} {ol : Int32} {on : Int32} {ml : (Nat → Int32)} {mx : (Nat → Int32)} {mb : (Nat → Nat → Int32)} {kc : Int32} {kh : (Nat → Nat)} {kr : (Nat → Nat → Int32)} {ka : (Nat → Int32)} {gl : Int32} {gx : Int32} {gb : (Nat → Int32)} {ls : Int32} {lq : Int32} {lk : Int32} {lg : Int32} {lh : Int32} {vf : (Nat → Int32)} {vs : (Nat → Int32)} {vb : (Nat → Nat → Int32)} {nv : (Nat → Int32)} {nw : (Nat → Nat → Int32)} {nr : (Nat → Int32)} {nq : (Nat → Nat → Int32)} {ne : (Nat → Int32)} {io : Int32} {sp : Int32} {ch : Int32} {wt : Int32} {xf : (Nat → Int32)} {xz : (Nat → Int32)} {xt : (Nat → Int32)} {xb : (Nat → Int32)} {xc : Int32} {th : Int32} {jl : Int32} {js : Int32} {jh : Int32} {jb : (Nat → Int32)} {jc : Int32} {jr : (Nat → Int32)} {jq : Int32} {jQ : (Nat → Int32)} {jz : (Nat → Int32)} {jf : (Nat → Int32)} {jo : Int32} {jn : Int32} {jt : Int32} {jH : (Nat → Int32)} {jA : (Nat → Int32)} {jm : Int32} {jy : (Nat → Int32)} {je : Int32} {jp : Int32} {jk : Int32} {jx : Int32} {jw : Int32} {ju : Int32} {jF : (Nat → Int32)} {jL : (Nat → Int32)} {jO : (Nat → Int32)} {jS : (Nat → Int32)} {jT : (Nat → Int32)} {jU : (Nat → Int32)} {jV : (Nat → Int32)} {jW : (Nat → Int32)} {ja : Int32} {jG : (Nat → Int32)} {ov : (Nat → Value)} {g2 : xm_H}
variable {β : Nat → Nat} {e : Nat} {ps : List (Nat × Nat)} {sz : Nat → Nat}
def raP (jH jb : Nat → Int32) (s f : Nat) (k : Nat) : Prop := jH (10 * k + 2) &&& 127 = nI s ∧ (f = 0 ∨ jH (10 * k + 3) = nI f - 1) ∧ jH (10 * k + 6) = jb 7 ∧ jH (10 * k + 7) = jb 8 ∧ jH (10 * k + 8) = jb 9 ∧ jH (10 * k + 9) = jb 10
theorem q182_z10 {Q : xm_Q} (s f k : Nat) (tv : Int32) (hK : ∀ o5 o6 o7 : Option Value, XG l xm_any 182 d 0 0 10 [some (.ref 103), some (.int (nI s)), some (.int (nI f)), some (.int tv), some (.int (nI k + (-1))), o5, o6, o7] [] (cw L xs (rw th jl js jh jb jc jr jq jQ jz jf jo jn jt jH jA jm jy je jp jk jx jw ju jF jL jO jS jT jU jV jW ja jG ov g2) tc tf bl bf of oc ol on ml mx mb kc kh kr ka gl gx gb ls lq lk lg lh vf vs vb nv nw nr nq ne io sp ch wt xf xz xt xb xc) Q) : XG l xm_any 182 d 0 0 68 [some (.ref 103), some (.int (nI s)), some (.int (nI f)), some (.int tv), some (.int (nI k)), some (.int (nI (10 * k))), some (.int 0), some (.int 10)] [] (cw L xs (rw th jl js jh jb jc jr jq jQ jz jf jo jn jt jH jA jm jy je jp jk jx jw ju jF jL jO jS jT jU jV jW ja jG ov g2) tc tf bl bf of oc ol on ml mx mb kc kh kr ka gl gx gb ls lq lk lg lh vf vs vb nv nw nr nq ne io sp ch wt xf xz xt xb xc) Q := by
  iterate 2 refine x_step rfl ?_
  refine x_icmp_ge rfl (fun _ => ?_) (fun q => absurd (by decide) q)
  refine x_step rfl ?_
  refine x_if_eq rfl (fun _ => ?_) (fun q => absurd (by decide) q)
  iterate 4 refine x_step rfl ?_
  exact hK _ _ _
theorem q182_z9 {Q : xm_Q} (s f k : Nat) (tv : Int32) (hK : ∀ o5 o6 o7 : Option Value, XG l xm_any 182 d 0 0 10 [some (.ref 103), some (.int (nI s)), some (.int (nI f)), some (.int tv), some (.int (nI k + (-1))), o5, o6, o7] [] (cw L xs (rw th jl js jh jb jc jr jq jQ jz jf jo jn jt jH jA jm jy je jp jk jx jw ju jF jL jO jS jT jU jV jW ja jG ov g2) tc tf bl bf of oc ol on ml mx mb kc kh kr ka gl gx gb ls lq lk lg lh vf vs vb nv nw nr nq ne io sp ch wt xf xz xt xb xc) Q) : XG l xm_any 182 d 0 0 68 [some (.ref 103), some (.int (nI s)), some (.int (nI f)), some (.int tv), some (.int (nI k)), some (.int (nI (10 * k))), some (.int 0), some (.int 9)] [] (cw L xs (rw th jl js jh jb jc jr jq jQ jz jf jo jn jt jH jA jm jy je jp jk jx jw ju jF jL jO jS jT jU jV jW ja jG ov g2) tc tf bl bf of oc ol on ml mx mb kc kh kr ka gl gx gb ls lq lk lg lh vf vs vb nv nw nr nq ne io sp ch wt xf xz xt xb xc) Q := by
  iterate 2 refine x_step rfl ?_
  refine x_icmp_ge rfl (fun q => absurd q (by decide)) (fun _ => ?_)
  refine x_step rfl ?_
  refine x_if_eq rfl (fun _ => ?_) (fun q => absurd (by decide) q)
  iterate 4 refine x_step rfl ?_
  exact q182_z10 s f k tv hK
theorem q182_z8 {Q : xm_Q} (s f k : Nat) (tv : Int32) (hK : ∀ o5 o6 o7 : Option Value, XG l xm_any 182 d 0 0 10 [some (.ref 103), some (.int (nI s)), some (.int (nI f)), some (.int tv), some (.int (nI k + (-1))), o5, o6, o7] [] (cw L xs (rw th jl js jh jb jc jr jq jQ jz jf jo jn jt jH jA jm jy je jp jk jx jw ju jF jL jO jS jT jU jV jW ja jG ov g2) tc tf bl bf of oc ol on ml mx mb kc kh kr ka gl gx gb ls lq lk lg lh vf vs vb nv nw nr nq ne io sp ch wt xf xz xt xb xc) Q) : XG l xm_any 182 d 0 0 68 [some (.ref 103), some (.int (nI s)), some (.int (nI f)), some (.int tv), some (.int (nI k)), some (.int (nI (10 * k))), some (.int 0), some (.int 8)] [] (cw L xs (rw th jl js jh jb jc jr jq jQ jz jf jo jn jt jH jA jm jy je jp jk jx jw ju jF jL jO jS jT jU jV jW ja jG ov g2) tc tf bl bf of oc ol on ml mx mb kc kh kr ka gl gx gb ls lq lk lg lh vf vs vb nv nw nr nq ne io sp ch wt xf xz xt xb xc) Q := by
  iterate 2 refine x_step rfl ?_
  refine x_icmp_ge rfl (fun q => absurd q (by decide)) (fun _ => ?_)
  refine x_step rfl ?_
  refine x_if_eq rfl (fun _ => ?_) (fun q => absurd (by decide) q)
  iterate 4 refine x_step rfl ?_
  exact q182_z9 s f k tv hK
theorem q182_z7 {Q : xm_Q} (s f k : Nat) (tv : Int32) (hK : ∀ o5 o6 o7 : Option Value, XG l xm_any 182 d 0 0 10 [some (.ref 103), some (.int (nI s)), some (.int (nI f)), some (.int tv), some (.int (nI k + (-1))), o5, o6, o7] [] (cw L xs (rw th jl js jh jb jc jr jq jQ jz jf jo jn jt jH jA jm jy je jp jk jx jw ju jF jL jO jS jT jU jV jW ja jG ov g2) tc tf bl bf of oc ol on ml mx mb kc kh kr ka gl gx gb ls lq lk lg lh vf vs vb nv nw nr nq ne io sp ch wt xf xz xt xb xc) Q) : XG l xm_any 182 d 0 0 68 [some (.ref 103), some (.int (nI s)), some (.int (nI f)), some (.int tv), some (.int (nI k)), some (.int (nI (10 * k))), some (.int 0), some (.int 7)] [] (cw L xs (rw th jl js jh jb jc jr jq jQ jz jf jo jn jt jH jA jm jy je jp jk jx jw ju jF jL jO jS jT jU jV jW ja jG ov g2) tc tf bl bf of oc ol on ml mx mb kc kh kr ka gl gx gb ls lq lk lg lh vf vs vb nv nw nr nq ne io sp ch wt xf xz xt xb xc) Q := by
  iterate 2 refine x_step rfl ?_
  refine x_icmp_ge rfl (fun q => absurd q (by decide)) (fun _ => ?_)
  refine x_step rfl ?_
  refine x_if_eq rfl (fun _ => ?_) (fun q => absurd (by decide) q)
  iterate 4 refine x_step rfl ?_
  exact q182_z8 s f k tv hK
theorem q182_z6 {Q : xm_Q} (s f k : Nat) (tv : Int32) (hK : ∀ o5 o6 o7 : Option Value, XG l xm_any 182 d 0 0 10 [some (.ref 103), some (.int (nI s)), some (.int (nI f)), some (.int tv), some (.int (nI k + (-1))), o5, o6, o7] [] (cw L xs (rw th jl js jh jb jc jr jq jQ jz jf jo jn jt jH jA jm jy je jp jk jx jw ju jF jL jO jS jT jU jV jW ja jG ov g2) tc tf bl bf of oc ol on ml mx mb kc kh kr ka gl gx gb ls lq lk lg lh vf vs vb nv nw nr nq ne io sp ch wt xf xz xt xb xc) Q) : XG l xm_any 182 d 0 0 68 [some (.ref 103), some (.int (nI s)), some (.int (nI f)), some (.int tv), some (.int (nI k)), some (.int (nI (10 * k))), some (.int 0), some (.int 6)] [] (cw L xs (rw th jl js jh jb jc jr jq jQ jz jf jo jn jt jH jA jm jy je jp jk jx jw ju jF jL jO jS jT jU jV jW ja jG ov g2) tc tf bl bf of oc ol on ml mx mb kc kh kr ka gl gx gb ls lq lk lg lh vf vs vb nv nw nr nq ne io sp ch wt xf xz xt xb xc) Q := by
  iterate 2 refine x_step rfl ?_
  refine x_icmp_ge rfl (fun q => absurd q (by decide)) (fun _ => ?_)
  refine x_step rfl ?_
  refine x_if_eq rfl (fun _ => ?_) (fun q => absurd (by decide) q)
  iterate 4 refine x_step rfl ?_
  exact q182_z7 s f k tv hK
theorem q182_y {Q : xm_Q} (s f k : Nat) (tv : Int32) (o5 o6 o7 : Option Value) (hf : f < 256) (hk : k < 8) (h : raP jH jb s f k) (hK : ∀ o5 o6 o7 : Option Value, XG l xm_any 182 d 0 0 10 [some (.ref 103), some (.int (nI s)), some (.int (nI f)), some (.int (nI k)), some (.int (nI k + (-1))), o5, o6, o7] [] (cw L xs (rw th jl js jh jb jc jr jq jQ jz jf jo jn jt jH jA jm jy je jp jk jx jw ju jF jL jO jS jT jU jV jW ja jG ov g2) tc tf bl bf of oc ol on ml mx mb kc kh kr ka gl gx gb ls lq lk lg lh vf vs vb nv nw nr nq ne io sp ch wt xf xz xt xb xc) Q) : XG l xm_any 182 d 0 0 10 [some (.ref 103), some (.int (nI s)), some (.int (nI f)), some (.int tv), some (.int (nI k)), o5, o6, o7] [] (cw L xs (rw th jl js jh jb jc jr jq jQ jz jf jo jn jt jH jA jm jy je jp jk jx jw ju jF jL jO jS jT jU jV jW ja jG ov g2) tc tf bl bf of oc ol on ml mx mb kc kh kr ka gl gx gb ls lq lk lg lh vf vs vb nv nw nr nq ne io sp ch wt xf xz xt xb xc) Q := by
  refine x_step rfl ?_
  refine x_ifN_lt (k) rfl rfl (fun q => False.elim (by omega)) (fun _ => ?_)
  iterate 4 refine x_step rfl ?_
  refine xm_ls (pl' := [some (.ref 103), some (.int (nI s)), some (.int (nI f)), some (.int tv), some (.int (nI k)), some (.int (nI (10 * k))), o6, o7]) (by rw [show (10 : Int32) * nI k = nI (10 * k) from pk_mul 10 k] <;> rfl) ?_
  iterate 5 refine x_step rfl ?_
  refine x_ialdN (10 * k + 2) rfl rfl (nI_add (10 * k) 2) (by omega) ?_
  iterate 3 refine x_step rfl ?_
  refine x_icmp_ne rfl (fun q => absurd h.1 q) (fun _ => ?_)
  refine x_step rfl ?_
  refine x_ifN_eq (f) rfl rfl (fun hf0 => ?_) (fun hf0 => ?_)
  · iterate 5 refine x_step rfl ?_
    refine xm_ls (pl' := [some (.ref 103), some (.int (nI s)), some (.int (nI f)), some (.int tv), some (.int (nI k)), some (.int (nI (10 * k))), some (.int 1), some (.int 6)]) rfl ?_
    iterate 2 refine x_step rfl ?_
    refine x_icmp_ge rfl (fun q => absurd q (by decide)) (fun _ => ?_)
    refine x_step rfl ?_
    refine x_if_eq rfl (fun q => absurd q (by decide)) (fun _ => ?_)
    iterate 5 refine x_step rfl ?_
    refine x_ialdN (10 * k + 6) rfl rfl (nI_add (10 * k) 6) (by omega) ?_
    iterate 5 refine x_step rfl ?_
    refine x_ialdN (7) rfl rfl rfl (by omega) ?_
    refine x_icmp_ne rfl (fun q => absurd h.2.2.1 q) (fun _ => ?_)
    iterate 5 refine x_step rfl ?_
    refine xm_ls (pl' := [some (.ref 103), some (.int (nI s)), some (.int (nI f)), some (.int tv), some (.int (nI k)), some (.int (nI (10 * k))), some (.int 1), some (.int 7)]) rfl ?_
    iterate 2 refine x_step rfl ?_
    refine x_icmp_ge rfl (fun q => absurd q (by decide)) (fun _ => ?_)
    refine x_step rfl ?_
    refine x_if_eq rfl (fun q => absurd q (by decide)) (fun _ => ?_)
    iterate 5 refine x_step rfl ?_
    refine x_ialdN (10 * k + 7) rfl rfl (nI_add (10 * k) 7) (by omega) ?_
    iterate 5 refine x_step rfl ?_
    refine x_ialdN (8) rfl rfl rfl (by omega) ?_
    refine x_icmp_ne rfl (fun q => absurd h.2.2.2.1 q) (fun _ => ?_)
    iterate 5 refine x_step rfl ?_
    refine xm_ls (pl' := [some (.ref 103), some (.int (nI s)), some (.int (nI f)), some (.int tv), some (.int (nI k)), some (.int (nI (10 * k))), some (.int 1), some (.int 8)]) rfl ?_
    iterate 2 refine x_step rfl ?_
    refine x_icmp_ge rfl (fun q => absurd q (by decide)) (fun _ => ?_)
    refine x_step rfl ?_
    refine x_if_eq rfl (fun q => absurd q (by decide)) (fun _ => ?_)
    iterate 5 refine x_step rfl ?_
    refine x_ialdN (10 * k + 8) rfl rfl (nI_add (10 * k) 8) (by omega) ?_
    iterate 5 refine x_step rfl ?_
    refine x_ialdN (9) rfl rfl rfl (by omega) ?_
    refine x_icmp_ne rfl (fun q => absurd h.2.2.2.2.1 q) (fun _ => ?_)
    iterate 5 refine x_step rfl ?_
    refine xm_ls (pl' := [some (.ref 103), some (.int (nI s)), some (.int (nI f)), some (.int tv), some (.int (nI k)), some (.int (nI (10 * k))), some (.int 1), some (.int 9)]) rfl ?_
    iterate 2 refine x_step rfl ?_
    refine x_icmp_ge rfl (fun q => absurd q (by decide)) (fun _ => ?_)
    refine x_step rfl ?_
    refine x_if_eq rfl (fun q => absurd q (by decide)) (fun _ => ?_)
    iterate 5 refine x_step rfl ?_
    refine x_ialdN (10 * k + 9) rfl rfl (nI_add (10 * k) 9) (by omega) ?_
    iterate 5 refine x_step rfl ?_
    refine x_ialdN (10) rfl rfl rfl (by omega) ?_
    refine x_icmp_ne rfl (fun q => absurd h.2.2.2.2.2 q) (fun _ => ?_)
    iterate 5 refine x_step rfl ?_
    refine xm_ls (pl' := [some (.ref 103), some (.int (nI s)), some (.int (nI f)), some (.int tv), some (.int (nI k)), some (.int (nI (10 * k))), some (.int 1), some (.int 10)]) rfl ?_
    iterate 2 refine x_step rfl ?_
    refine x_icmp_ge rfl (fun _ => ?_) (fun q => absurd (by decide) q)
    refine x_step rfl ?_
    refine x_if_eq rfl (fun q => absurd q (by decide)) (fun _ => ?_)
    iterate 5 refine x_step rfl ?_
    exact hK _ _ _
  · have h3 := h.2.1.resolve_left hf0
    iterate 5 refine x_step rfl ?_
    refine x_ialdN (10 * k + 3) rfl rfl (nI_add (10 * k) 3) (by omega) ?_
    iterate 3 refine x_step rfl ?_
    refine x_icmp_ne rfl (fun q => absurd h3 q) (fun _ => ?_)
    iterate 5 refine x_step rfl ?_
    refine xm_ls (pl' := [some (.ref 103), some (.int (nI s)), some (.int (nI f)), some (.int tv), some (.int (nI k)), some (.int (nI (10 * k))), some (.int 1), some (.int 6)]) rfl ?_
    iterate 2 refine x_step rfl ?_
    refine x_icmp_ge rfl (fun q => absurd q (by decide)) (fun _ => ?_)
    refine x_step rfl ?_
    refine x_if_eq rfl (fun q => absurd q (by decide)) (fun _ => ?_)
    iterate 5 refine x_step rfl ?_
    refine x_ialdN (10 * k + 6) rfl rfl (nI_add (10 * k) 6) (by omega) ?_
    iterate 5 refine x_step rfl ?_
    refine x_ialdN (7) rfl rfl rfl (by omega) ?_
    refine x_icmp_ne rfl (fun q => absurd h.2.2.1 q) (fun _ => ?_)
    iterate 5 refine x_step rfl ?_
    refine xm_ls (pl' := [some (.ref 103), some (.int (nI s)), some (.int (nI f)), some (.int tv), some (.int (nI k)), some (.int (nI (10 * k))), some (.int 1), some (.int 7)]) rfl ?_
    iterate 2 refine x_step rfl ?_
    refine x_icmp_ge rfl (fun q => absurd q (by decide)) (fun _ => ?_)
    refine x_step rfl ?_
    refine x_if_eq rfl (fun q => absurd q (by decide)) (fun _ => ?_)
    iterate 5 refine x_step rfl ?_
    refine x_ialdN (10 * k + 7) rfl rfl (nI_add (10 * k) 7) (by omega) ?_
    iterate 5 refine x_step rfl ?_
    refine x_ialdN (8) rfl rfl rfl (by omega) ?_
    refine x_icmp_ne rfl (fun q => absurd h.2.2.2.1 q) (fun _ => ?_)
    iterate 5 refine x_step rfl ?_
    refine xm_ls (pl' := [some (.ref 103), some (.int (nI s)), some (.int (nI f)), some (.int tv), some (.int (nI k)), some (.int (nI (10 * k))), some (.int 1), some (.int 8)]) rfl ?_
    iterate 2 refine x_step rfl ?_
    refine x_icmp_ge rfl (fun q => absurd q (by decide)) (fun _ => ?_)
    refine x_step rfl ?_
    refine x_if_eq rfl (fun q => absurd q (by decide)) (fun _ => ?_)
    iterate 5 refine x_step rfl ?_
    refine x_ialdN (10 * k + 8) rfl rfl (nI_add (10 * k) 8) (by omega) ?_
    iterate 5 refine x_step rfl ?_
    refine x_ialdN (9) rfl rfl rfl (by omega) ?_
    refine x_icmp_ne rfl (fun q => absurd h.2.2.2.2.1 q) (fun _ => ?_)
    iterate 5 refine x_step rfl ?_
    refine xm_ls (pl' := [some (.ref 103), some (.int (nI s)), some (.int (nI f)), some (.int tv), some (.int (nI k)), some (.int (nI (10 * k))), some (.int 1), some (.int 9)]) rfl ?_
    iterate 2 refine x_step rfl ?_
    refine x_icmp_ge rfl (fun q => absurd q (by decide)) (fun _ => ?_)
    refine x_step rfl ?_
    refine x_if_eq rfl (fun q => absurd q (by decide)) (fun _ => ?_)
    iterate 5 refine x_step rfl ?_
    refine x_ialdN (10 * k + 9) rfl rfl (nI_add (10 * k) 9) (by omega) ?_
    iterate 5 refine x_step rfl ?_
    refine x_ialdN (10) rfl rfl rfl (by omega) ?_
    refine x_icmp_ne rfl (fun q => absurd h.2.2.2.2.2 q) (fun _ => ?_)
    iterate 5 refine x_step rfl ?_
    refine xm_ls (pl' := [some (.ref 103), some (.int (nI s)), some (.int (nI f)), some (.int tv), some (.int (nI k)), some (.int (nI (10 * k))), some (.int 1), some (.int 10)]) rfl ?_
    iterate 2 refine x_step rfl ?_
    refine x_icmp_ge rfl (fun _ => ?_) (fun q => absurd (by decide) q)
    refine x_step rfl ?_
    refine x_if_eq rfl (fun q => absurd q (by decide)) (fun _ => ?_)
    iterate 5 refine x_step rfl ?_
    exact hK _ _ _
theorem q182_n {Q : xm_Q} (s f k : Nat) (tv : Int32) (o5 o6 o7 : Option Value) (hf : f < 256) (hk : k < 8) (h : ¬ raP jH jb s f k) (hK : ∀ o5 o6 o7 : Option Value, XG l xm_any 182 d 0 0 10 [some (.ref 103), some (.int (nI s)), some (.int (nI f)), some (.int tv), some (.int (nI k + (-1))), o5, o6, o7] [] (cw L xs (rw th jl js jh jb jc jr jq jQ jz jf jo jn jt jH jA jm jy je jp jk jx jw ju jF jL jO jS jT jU jV jW ja jG ov g2) tc tf bl bf of oc ol on ml mx mb kc kh kr ka gl gx gb ls lq lk lg lh vf vs vb nv nw nr nq ne io sp ch wt xf xz xt xb xc) Q) : XG l xm_any 182 d 0 0 10 [some (.ref 103), some (.int (nI s)), some (.int (nI f)), some (.int tv), some (.int (nI k)), o5, o6, o7] [] (cw L xs (rw th jl js jh jb jc jr jq jQ jz jf jo jn jt jH jA jm jy je jp jk jx jw ju jF jL jO jS jT jU jV jW ja jG ov g2) tc tf bl bf of oc ol on ml mx mb kc kh kr ka gl gx gb ls lq lk lg lh vf vs vb nv nw nr nq ne io sp ch wt xf xz xt xb xc) Q := by
  refine x_step rfl ?_
  refine x_ifN_lt (k) rfl rfl (fun q => False.elim (by omega)) (fun _ => ?_)
  iterate 4 refine x_step rfl ?_
  refine xm_ls (pl' := [some (.ref 103), some (.int (nI s)), some (.int (nI f)), some (.int tv), some (.int (nI k)), some (.int (nI (10 * k))), o6, o7]) (by rw [show (10 : Int32) * nI k = nI (10 * k) from pk_mul 10 k] <;> rfl) ?_
  iterate 5 refine x_step rfl ?_
  refine x_ialdN (10 * k + 2) rfl rfl (nI_add (10 * k) 2) (by omega) ?_
  iterate 3 refine x_step rfl ?_
  refine x_icmp_ne rfl (fun h2 => ?_) (fun h2 => ?_)
  · iterate 4 refine x_step rfl ?_
    exact q182_z6 s f k tv hK
  · refine x_step rfl ?_
    refine x_ifN_eq (f) rfl rfl (fun hf0 => ?_) (fun hf0 => ?_)
    · iterate 5 refine x_step rfl ?_
      refine xm_ls (pl' := [some (.ref 103), some (.int (nI s)), some (.int (nI f)), some (.int tv), some (.int (nI k)), some (.int (nI (10 * k))), some (.int 1), some (.int 6)]) rfl ?_
      iterate 2 refine x_step rfl ?_
      refine x_icmp_ge rfl (fun q => absurd q (by decide)) (fun _ => ?_)
      refine x_step rfl ?_
      refine x_if_eq rfl (fun q => absurd q (by decide)) (fun _ => ?_)
      iterate 5 refine x_step rfl ?_
      refine x_ialdN (10 * k + 6) rfl rfl (nI_add (10 * k) 6) (by omega) ?_
      iterate 5 refine x_step rfl ?_
      refine x_ialdN (7) rfl rfl rfl (by omega) ?_
      refine x_icmp_ne rfl (fun h6 => ?_) (fun h6 => ?_)
      · iterate 4 refine x_step rfl ?_
        exact q182_z7 s f k tv hK
      · iterate 5 refine x_step rfl ?_
        refine xm_ls (pl' := [some (.ref 103), some (.int (nI s)), some (.int (nI f)), some (.int tv), some (.int (nI k)), some (.int (nI (10 * k))), some (.int 1), some (.int 7)]) rfl ?_
        iterate 2 refine x_step rfl ?_
        refine x_icmp_ge rfl (fun q => absurd q (by decide)) (fun _ => ?_)
        refine x_step rfl ?_
        refine x_if_eq rfl (fun q => absurd q (by decide)) (fun _ => ?_)
        iterate 5 refine x_step rfl ?_
        refine x_ialdN (10 * k + 7) rfl rfl (nI_add (10 * k) 7) (by omega) ?_
        iterate 5 refine x_step rfl ?_
        refine x_ialdN (8) rfl rfl rfl (by omega) ?_
        refine x_icmp_ne rfl (fun h7 => ?_) (fun h7 => ?_)
        · iterate 4 refine x_step rfl ?_
          exact q182_z8 s f k tv hK
        · iterate 5 refine x_step rfl ?_
          refine xm_ls (pl' := [some (.ref 103), some (.int (nI s)), some (.int (nI f)), some (.int tv), some (.int (nI k)), some (.int (nI (10 * k))), some (.int 1), some (.int 8)]) rfl ?_
          iterate 2 refine x_step rfl ?_
          refine x_icmp_ge rfl (fun q => absurd q (by decide)) (fun _ => ?_)
          refine x_step rfl ?_
          refine x_if_eq rfl (fun q => absurd q (by decide)) (fun _ => ?_)
          iterate 5 refine x_step rfl ?_
          refine x_ialdN (10 * k + 8) rfl rfl (nI_add (10 * k) 8) (by omega) ?_
          iterate 5 refine x_step rfl ?_
          refine x_ialdN (9) rfl rfl rfl (by omega) ?_
          refine x_icmp_ne rfl (fun h8 => ?_) (fun h8 => ?_)
          · iterate 4 refine x_step rfl ?_
            exact q182_z9 s f k tv hK
          · iterate 5 refine x_step rfl ?_
            refine xm_ls (pl' := [some (.ref 103), some (.int (nI s)), some (.int (nI f)), some (.int tv), some (.int (nI k)), some (.int (nI (10 * k))), some (.int 1), some (.int 9)]) rfl ?_
            iterate 2 refine x_step rfl ?_
            refine x_icmp_ge rfl (fun q => absurd q (by decide)) (fun _ => ?_)
            refine x_step rfl ?_
            refine x_if_eq rfl (fun q => absurd q (by decide)) (fun _ => ?_)
            iterate 5 refine x_step rfl ?_
            refine x_ialdN (10 * k + 9) rfl rfl (nI_add (10 * k) 9) (by omega) ?_
            iterate 5 refine x_step rfl ?_
            refine x_ialdN (10) rfl rfl rfl (by omega) ?_
            refine x_icmp_ne rfl (fun h9 => ?_) (fun h9 => ?_)
            · iterate 4 refine x_step rfl ?_
              exact q182_z10 s f k tv hK
            · iterate 5 refine x_step rfl ?_
              refine xm_ls (pl' := [some (.ref 103), some (.int (nI s)), some (.int (nI f)), some (.int tv), some (.int (nI k)), some (.int (nI (10 * k))), some (.int 1), some (.int 10)]) rfl ?_
              exact absurd ⟨h2, Or.inl hf0, h6, h7, h8, h9⟩ h
    · iterate 5 refine x_step rfl ?_
      refine x_ialdN (10 * k + 3) rfl rfl (nI_add (10 * k) 3) (by omega) ?_
      iterate 3 refine x_step rfl ?_
      refine x_icmp_ne rfl (fun h3 => ?_) (fun h3 => ?_)
      · iterate 4 refine x_step rfl ?_
        exact q182_z6 s f k tv hK
      · iterate 5 refine x_step rfl ?_
        refine xm_ls (pl' := [some (.ref 103), some (.int (nI s)), some (.int (nI f)), some (.int tv), some (.int (nI k)), some (.int (nI (10 * k))), some (.int 1), some (.int 6)]) rfl ?_
        iterate 2 refine x_step rfl ?_
        refine x_icmp_ge rfl (fun q => absurd q (by decide)) (fun _ => ?_)
        refine x_step rfl ?_
        refine x_if_eq rfl (fun q => absurd q (by decide)) (fun _ => ?_)
        iterate 5 refine x_step rfl ?_
        refine x_ialdN (10 * k + 6) rfl rfl (nI_add (10 * k) 6) (by omega) ?_
        iterate 5 refine x_step rfl ?_
        refine x_ialdN (7) rfl rfl rfl (by omega) ?_
        refine x_icmp_ne rfl (fun h6 => ?_) (fun h6 => ?_)
        · iterate 4 refine x_step rfl ?_
          exact q182_z7 s f k tv hK
        · iterate 5 refine x_step rfl ?_
          refine xm_ls (pl' := [some (.ref 103), some (.int (nI s)), some (.int (nI f)), some (.int tv), some (.int (nI k)), some (.int (nI (10 * k))), some (.int 1), some (.int 7)]) rfl ?_
          iterate 2 refine x_step rfl ?_
          refine x_icmp_ge rfl (fun q => absurd q (by decide)) (fun _ => ?_)
          refine x_step rfl ?_
          refine x_if_eq rfl (fun q => absurd q (by decide)) (fun _ => ?_)
          iterate 5 refine x_step rfl ?_
          refine x_ialdN (10 * k + 7) rfl rfl (nI_add (10 * k) 7) (by omega) ?_
          iterate 5 refine x_step rfl ?_
          refine x_ialdN (8) rfl rfl rfl (by omega) ?_
          refine x_icmp_ne rfl (fun h7 => ?_) (fun h7 => ?_)
          · iterate 4 refine x_step rfl ?_
            exact q182_z8 s f k tv hK
          · iterate 5 refine x_step rfl ?_
            refine xm_ls (pl' := [some (.ref 103), some (.int (nI s)), some (.int (nI f)), some (.int tv), some (.int (nI k)), some (.int (nI (10 * k))), some (.int 1), some (.int 8)]) rfl ?_
            iterate 2 refine x_step rfl ?_
            refine x_icmp_ge rfl (fun q => absurd q (by decide)) (fun _ => ?_)
            refine x_step rfl ?_
            refine x_if_eq rfl (fun q => absurd q (by decide)) (fun _ => ?_)
            iterate 5 refine x_step rfl ?_
            refine x_ialdN (10 * k + 8) rfl rfl (nI_add (10 * k) 8) (by omega) ?_
            iterate 5 refine x_step rfl ?_
            refine x_ialdN (9) rfl rfl rfl (by omega) ?_
            refine x_icmp_ne rfl (fun h8 => ?_) (fun h8 => ?_)
            · iterate 4 refine x_step rfl ?_
              exact q182_z9 s f k tv hK
            · iterate 5 refine x_step rfl ?_
              refine xm_ls (pl' := [some (.ref 103), some (.int (nI s)), some (.int (nI f)), some (.int tv), some (.int (nI k)), some (.int (nI (10 * k))), some (.int 1), some (.int 9)]) rfl ?_
              iterate 2 refine x_step rfl ?_
              refine x_icmp_ge rfl (fun q => absurd q (by decide)) (fun _ => ?_)
              refine x_step rfl ?_
              refine x_if_eq rfl (fun q => absurd q (by decide)) (fun _ => ?_)
              iterate 5 refine x_step rfl ?_
              refine x_ialdN (10 * k + 9) rfl rfl (nI_add (10 * k) 9) (by omega) ?_
              iterate 5 refine x_step rfl ?_
              refine x_ialdN (10) rfl rfl rfl (by omega) ?_
              refine x_icmp_ne rfl (fun h9 => ?_) (fun h9 => ?_)
              · iterate 4 refine x_step rfl ?_
                exact q182_z10 s f k tv hK
              · iterate 5 refine x_step rfl ?_
                refine xm_ls (pl' := [some (.ref 103), some (.int (nI s)), some (.int (nI f)), some (.int tv), some (.int (nI k)), some (.int (nI (10 * k))), some (.int 1), some (.int 10)]) rfl ?_
                exact absurd ⟨h2, Or.inr h3, h6, h7, h8, h9⟩ h
theorem q182_down {Q : xm_Q} (s f c : Nat) (tv : Int32) (hf : f < 256) (hn : ∀ j, j < c → ¬ raP jH jb s f j) (hc : c ≤ 8) (hK : ∀ o5 o6 o7 : Option Value, XG l xm_any 182 d 0 0 10 [some (.ref 103), some (.int (nI s)), some (.int (nI f)), some (.int tv), some (.int (nI 0 + (-1))), o5, o6, o7] [] (cw L xs (rw th jl js jh jb jc jr jq jQ jz jf jo jn jt jH jA jm jy je jp jk jx jw ju jF jL jO jS jT jU jV jW ja jG ov g2) tc tf bl bf of oc ol on ml mx mb kc kh kr ka gl gx gb ls lq lk lg lh vf vs vb nv nw nr nq ne io sp ch wt xf xz xt xb xc) Q) : ∀ (m : Nat) (o5 o6 o7 : Option Value), m ≤ c → XG l xm_any 182 d 0 0 10 [some (.ref 103), some (.int (nI s)), some (.int (nI f)), some (.int tv), some (.int (nI m + (-1))), o5, o6, o7] [] (cw L xs (rw th jl js jh jb jc jr jq jQ jz jf jo jn jt jH jA jm jy je jp jk jx jw ju jF jL jO jS jT jU jV jW ja jG ov g2) tc tf bl bf of oc ol on ml mx mb kc kh kr ka gl gx gb ls lq lk lg lh vf vs vb nv nw nr nq ne io sp ch wt xf xz xt xb xc) Q := by
  intro m
  induction m with
  | zero => intro o5 o6 o7 _; exact hK o5 o6 o7
  | succ m ih =>
    intro o5 o6 o7 hm
    rw [show nI (m + 1) + (-1) = nI m from pk_m1 m]
    exact q182_n s f m tv o5 o6 o7 hf (by omega) (hn m (by omega)) (fun o5 o6 o7 => ih o5 o6 o7 (by omega))
theorem q182_up {Q : xm_Q} (s f c : Nat) (hf : f < 256) (hy : raP jH jb s f c) (hK : ∀ o5 o6 o7 : Option Value, XG l xm_any 182 d 0 0 10 [some (.ref 103), some (.int (nI s)), some (.int (nI f)), some (.int (nI c)), some (.int (nI c + (-1))), o5, o6, o7] [] (cw L xs (rw th jl js jh jb jc jr jq jQ jz jf jo jn jt jH jA jm jy je jp jk jx jw ju jF jL jO jS jT jU jV jW ja jG ov g2) tc tf bl bf of oc ol on ml mx mb kc kh kr ka gl gx gb ls lq lk lg lh vf vs vb nv nw nr nq ne io sp ch wt xf xz xt xb xc) Q) : ∀ (m : Nat) (tv : Int32) (o5 o6 o7 : Option Value), c + m < 8 → XG l xm_any 182 d 0 0 10 [some (.ref 103), some (.int (nI s)), some (.int (nI f)), some (.int tv), some (.int (nI (c + m))), o5, o6, o7] [] (cw L xs (rw th jl js jh jb jc jr jq jQ jz jf jo jn jt jH jA jm jy je jp jk jx jw ju jF jL jO jS jT jU jV jW ja jG ov g2) tc tf bl bf of oc ol on ml mx mb kc kh kr ka gl gx gb ls lq lk lg lh vf vs vb nv nw nr nq ne io sp ch wt xf xz xt xb xc) Q := by
  intro m
  induction m with
  | zero => intro tv o5 o6 o7 h8; exact q182_y s f c tv o5 o6 o7 hf h8 hy hK
  | succ m ih =>
    intro tv o5 o6 o7 h8
    have hst : ∀ tv' : Int32, ∀ o5 o6 o7 : Option Value, XG l xm_any 182 d 0 0 10 [some (.ref 103), some (.int (nI s)), some (.int (nI f)), some (.int tv'), some (.int (nI (c + (m + 1)) + (-1))), o5, o6, o7] [] (cw L xs (rw th jl js jh jb jc jr jq jQ jz jf jo jn jt jH jA jm jy je jp jk jx jw ju jF jL jO jS jT jU jV jW ja jG ov g2) tc tf bl bf of oc ol on ml mx mb kc kh kr ka gl gx gb ls lq lk lg lh vf vs vb nv nw nr nq ne io sp ch wt xf xz xt xb xc) Q := by
      intro tv' o5 o6 o7
      rw [show nI (c + (m + 1)) + (-1) = nI (c + m) from pk_m1 (c + m)]
      exact ih tv' o5 o6 o7 (by omega)
    by_cases hr : raP jH jb s f (c + (m + 1))
    · exact q182_y s f _ tv o5 o6 o7 hf h8 hr (hst _)
    · exact q182_n s f _ tv o5 o6 o7 hf h8 hr (hst _)
/-- FabLinkModel.answered -/
theorem q182_m {Q : xm_H → Prop} (s f t : Nat) (hs : s < 128) (hf : f < 256) (ht : t ≤ 8) (hn : ∀ j, j < t → ¬ raP jH jb s f j) (hq : Q (cw L xs (rw th jl js jh jb jc jr jq jQ jz jf jo jn (nI t) jH jA jm jy je jp jk jx jw ju jF jL jO jS jT jU jV jW ja jG ov g2) tc tf bl bf of oc ol on ml mx mb kc kh kr ka gl gx gb ls lq lk lg lh vf vs vb nv nw nr nq ne io sp ch wt xf xz xt xb xc)) : XM l 182 d 0 0 [.ref 103, .int (nI s), .int (nI f)] (cw L xs (rw th jl js jh jb jc jr jq jQ jz jf jo jn (nI t) jH jA jm jy je jp jk jx jw ju jF jL jO jS jT jU jV jW ja jG ov g2) tc tf bl bf of oc ol on ml mx mb kc kh kr ka gl gx gb ls lq lk lg lh vf vs vb nv nw nr nq ne io sp ch wt xf xz xt xb xc) (xN Q) := by
  refine XE (pl := [some (.ref 103), some (.int (nI s)), some (.int (nI f)), none, none, none, none, none]) xg182 rfl ?_
  iterate 7 refine x_step rfl ?_
  refine xm_ls (pl' := [some (.ref 103), some (.int (nI s)), some (.int (nI f)), some (.int (-1)), some (.int (nI t + (-1))), none, none, none]) (by rw [← Int32.sub_eq_add_neg] <;> rfl) ?_
  refine q182_down s f t (-1) hf hn ht (fun o5 o6 o7 => ?_) t none none none (by omega)
  refine x_step rfl ?_
  refine x_if_lt rfl (fun _ => ?_) (fun q => absurd (by decide) q)
  refine x_step rfl ?_
  refine x_if_ge rfl (fun q => absurd q (by decide)) (fun _ => ?_)
  exact x_ret rfl rfl ⟨rfl, hq⟩
theorem q182_f {Q : xm_H → Prop} (s f t c : Nat) (hs : s < 128) (hf : f < 256) (ht : t < 8) (hc : c ≤ t) (hn : ∀ j, j < c → ¬ raP jH jb s f j) (hy : raP jH jb s f c) (hK : ∀ o4 o5 o6 o7 : Option Value, XW l 182 d 0 0 133 [some (.ref 103), some (.int (nI s)), some (.int (nI f)), some (.int (nI c)), o4, o5, o6, o7] [] (cw L xs (rw th jl js jh jb jc jr jq jQ jz jf jo jn (nI (t + 1)) jH jA jm jy je jp jk jx jw ju jF jL jO jS jT jU jV jW ja jG ov g2) tc tf bl bf of oc ol on ml mx mb kc kh kr ka gl gx gb ls lq lk lg lh vf vs vb nv nw nr nq ne io sp ch wt xf xz xt xb xc) (xN Q)) : XM l 182 d 0 0 [.ref 103, .int (nI s), .int (nI f)] (cw L xs (rw th jl js jh jb jc jr jq jQ jz jf jo jn (nI (t + 1)) jH jA jm jy je jp jk jx jw ju jF jL jO jS jT jU jV jW ja jG ov g2) tc tf bl bf of oc ol on ml mx mb kc kh kr ka gl gx gb ls lq lk lg lh vf vs vb nv nw nr nq ne io sp ch wt xf xz xt xb xc) (xN Q) := by
  refine XE (pl := [some (.ref 103), some (.int (nI s)), some (.int (nI f)), none, none, none, none, none]) xg182 rfl ?_
  iterate 7 refine x_step rfl ?_
  refine xm_ls (pl' := [some (.ref 103), some (.int (nI s)), some (.int (nI f)), some (.int (-1)), some (.int (nI (c + (t - c)))), none, none, none]) (by rw [show c + (t - c) = t by omega, ← nI_pred t] <;> rfl) ?_
  refine q182_up s f c hf hy (fun o5 o6 o7 => ?_) (t - c) (-1) none none none (by omega)
  refine q182_down s f c (nI c) hf hn (by omega) (fun o5 o6 o7 => ?_) c o5 o6 o7 (by omega)
  refine x_step rfl ?_
  refine x_if_lt rfl (fun _ => ?_) (fun q => absurd (by decide) q)
  exact hK _ _ _ _
theorem q182_d {Q : xm_H → Prop} (s f t c : Nat) (hs : s < 128) (hf : f < 256) (ht : t < 8) (hc : c ≤ t) (hn : ∀ j, j < c → ¬ raP jH jb s f j) (hy : raP jH jb s f c) (hd : 1 ≤ d) (hh : ¬ (s = 1 ∧ f = 14)) (hq : Q (cw L xs (rw th jl js jh jb jc jr jq jQ jz jf jo jn (nI t) (xshk jH (10 * c) (10 * (t - c)) 10) (xshk jA c (t - c) 1) jm jy je jp jk jx jw ju jF jL jO jS jT jU jV jW ja jG ov g2) tc tf bl bf of oc ol on ml mx mb kc kh kr ka gl gx gb ls lq lk lg lh vf vs vb nv nw nr nq ne io sp ch wt xf xz xt xb xc)) : XM l 182 d 0 0 [.ref 103, .int (nI s), .int (nI f)] (cw L xs (rw th jl js jh jb jc jr jq jQ jz jf jo jn (nI (t + 1)) jH jA jm jy je jp jk jx jw ju jF jL jO jS jT jU jV jW ja jG ov g2) tc tf bl bf of oc ol on ml mx mb kc kh kr ka gl gx gb ls lq lk lg lh vf vs vb nv nw nr nq ne io sp ch wt xf xz xt xb xc) (xN Q) := by
  refine q182_f s f t c hs hf ht hc hn hy (fun o4 o5 o6 o7 => ?_)
  refine x_step rfl ?_
  refine x_ifN_ge (c) rfl rfl (fun _ => ?_) (fun q => False.elim (by omega))
  iterate 2 refine x_step rfl ?_
  refine x_icmpN_ne (s) (1) rfl rfl rfl (fun h1 => ?_) (fun h1 => ?_)
  · iterate 4 refine x_step rfl ?_
    refine x_callvE rfl (q183 (d := 0) t c ht hc) rfl rfl rfl ?_
    refine x_step rfl ?_
    refine x_if_eq rfl (fun _ => ?_) (fun q => absurd (by decide) q)
    exact x_ret rfl rfl ⟨rfl, hq⟩
  · iterate 2 refine x_step rfl ?_
    refine x_icmpN_ne (f) (14) rfl rfl rfl (fun _ => ?_) (fun q => False.elim (by omega))
    iterate 4 refine x_step rfl ?_
    refine x_callvE rfl (q183 (d := 0) t c ht hc) rfl rfl rfl ?_
    refine x_step rfl ?_
    refine x_if_eq rfl (fun _ => ?_) (fun q => absurd (by decide) q)
    exact x_ret rfl rfl ⟨rfl, hq⟩
theorem q182_g {Q : xm_H → Prop} (hb : ∀ i, i < 130 → jb (i + 1) = nI (β i)) (hβ : ∀ i, β i < 256) (he : e ≤ 130) (g : Nat → Nat) (hg : ∀ i, g i < 2 ^ 24) (s f t c : Nat) (hs : s < 128) (hf : f < 256) (ht : t < 8) (hc : c ≤ t) (hn : ∀ j, j < c → ¬ raP jH jb s f j) (hy : raP jH jb s f c) (hd : 3 ≤ d) (hs1 : s = 1) (hf14 : f = 14) (hq : ∀ g' : Nat → Nat, (∀ i, g' i < 2 ^ 24) → Q (cw L xs (rw th jl js jh jb jc jr jq jQ jz jf jo jn (nI t) (xshk jH (10 * c) (10 * (t - c)) 10) (xshk jA c (t - c) 1) jm jy je (if dG β e then 1 else jp) jk jx jw ju jF jL jO jS jT jU jV jW (nI e) (fun z1 => nI ((g') z1)) ov g2) tc tf bl bf of oc ol on ml mx mb kc kh kr ka gl gx gb ls lq lk lg lh vf vs vb nv nw nr nq ne io sp ch wt xf xz xt xb xc)) : XM l 182 d 0 0 [.ref 103, .int (nI s), .int (nI f)] (cw L xs (rw th jl js jh jb jc jr jq jQ jz jf jo jn (nI (t + 1)) jH jA jm jy je jp jk jx jw ju jF jL jO jS jT jU jV jW (nI e) (fun z1 => nI ((g) z1)) ov g2) tc tf bl bf of oc ol on ml mx mb kc kh kr ka gl gx gb ls lq lk lg lh vf vs vb nv nw nr nq ne io sp ch wt xf xz xt xb xc) (xN Q) := by
  refine q182_f s f t c hs hf ht hc hn hy (fun o4 o5 o6 o7 => ?_)
  refine x_step rfl ?_
  refine x_ifN_ge (c) rfl rfl (fun _ => ?_) (fun q => False.elim (by omega))
  iterate 2 refine x_step rfl ?_
  refine x_icmpN_ne (s) (1) rfl rfl rfl (fun q => False.elim (by omega)) (fun _ => ?_)
  iterate 2 refine x_step rfl ?_
  refine x_icmpN_ne (f) (14) rfl rfl rfl (fun q => False.elim (by omega)) (fun _ => ?_)
  iterate 5 refine x_step rfl ?_
  refine x_callvE rfl (q183 (d := 0) t c ht hc) rfl rfl rfl ?_
  refine x_step rfl ?_
  refine x_if_eq rfl (fun q => absurd q (by decide)) (fun _ => ?_)
  refine x_step rfl ?_
  refine x_callv (a := 103) (as := []) (rest := []) rfl (by decide) (q184 (Q := fun v h => v = some (.int (bI (dG β e))) ∧ ∃ g' : Nat → Nat, (∀ i, g' i < 2 ^ 24) ∧ h = (cw L xs (rw th jl js jh jb jc jr jq jQ jz jf jo jn (nI t) (xshk jH (10 * c) (10 * (t - c)) 10) (xshk jA c (t - c) 1) jm jy je jp jk jx jw ju jF jL jO jS jT jU jV jW (nI e) (fun z1 => nI ((g') z1)) ov g2) tc tf bl bf of oc ol on ml mx mb kc kh kr ka gl gx gb ls lq lk lg lh vf vs vb nv nw nr nq ne io sp ch wt xf xz xt xb xc)) (d := 2) hb hβ he g hg (by omega) (fun g' hg' => ⟨rfl, g', hg', rfl⟩)) (by omega) (Nat.zero_le _) (Nat.zero_le _) rfl rfl (by decide) rfl rfl ?_
  rintro _ _ ⟨rfl, g', hg', rfl⟩
  have hq2 := hq g' hg'
  refine x_if_eq rfl (fun h1 => ?_) (fun h1 => ?_)
  · rw [if_neg (by rw [bI_f h1]; decide)] at hq2
    exact x_ret rfl rfl ⟨rfl, hq2⟩
  · rw [if_pos (bI_t h1)] at hq2
    iterate 2 refine x_step rfl ?_
    refine x_putf rfl rfl (Nat.le_of_ble_eq_true rfl) (by decide) rfl rfl ?_
    exact x_ret rfl rfl ⟨rfl, hq2⟩
/-- FabLinkModel.read -/
theorem q175_x {Q : xm_H → Prop} {jb' : Nat → Int32} (h b : Nat) (h139 : h < 140) (hb8 : b < 256) (hj : upd jb h (nI b) = jb') (n : Nat) (h0 : h = 0) (hb1 : b < 10 ∨ 130 < b) (hd : 1 ≤ d) (hn : n < 2 ^ 30) (hq : Q (cw L xs (rw th (0) (0) (nI (h + 1)) (jb') (nI (n + 1)) (upd jr (n % 512) 21) jq jQ jz jf jo jn jt jH jA jm jy je jp jk jx jw ju jF jL jO jS jT jU jV jW ja jG ov g2) tc tf bl bf of oc ol on ml mx mb kc kh kr ka gl gx gb ls lq lk lg lh vf vs vb nv nw nr nq ne io sp ch wt xf xz xt xb xc)) : XM l 175 d 0 0 [.ref 103, .int (nI b)] (cw L xs (rw th jl js (nI h) jb (nI n) jr jq jQ jz jf jo jn jt jH jA jm jy je jp jk jx jw ju jF jL jO jS jT jU jV jW ja jG ov g2) tc tf bl bf of oc ol on ml mx mb kc kh kr ka gl gx gb ls lq lk lg lh vf vs vb nv nw nr nq ne io sp ch wt xf xz xt xb xc) (xN Q) := by
  refine XE (pl := [some (.ref 103), some (.int (nI b)), none, none, none]) xg175 rfl ?_
  iterate 5 refine x_step rfl ?_
  refine x_iastN (h) rfl rfl rfl (by omega) ?_
  iterate 9 refine x_step rfl ?_
  refine xm_hs (hp' := (cw L xs (rw th jl (0) (nI (h + 1)) (jb') (nI n) jr jq jQ jz jf jo jn jt jH jA jm jy je jp jk jx jw ju jF jL jO jS jT jU jV jW ja jG ov g2) tc tf bl bf of oc ol on ml mx mb kc kh kr ka gl gx gb ls lq lk lg lh vf vs vb nv nw nr nq ne io sp ch wt xf xz xt xb xc)) (by rw [← hj, nI_succ h] <;> rfl) ?_
  iterate 3 refine x_step rfl ?_
  refine x_icmpN_ne (h + 1) (1) rfl rfl rfl (fun q => False.elim (by omega)) (fun _ => ?_)
  iterate 2 refine x_step rfl ?_
  refine x_icmpN_lt (b) (10) rfl rfl rfl (fun h1 => ?_) (fun h1 => ?_)
  · iterate 2 refine x_step rfl ?_
    refine x_callvE rfl (q173 (d := 0) n 21 hn) rfl rfl rfl ?_
    iterate 2 refine x_step rfl ?_
    refine x_callvE rfl (m174 (d := 0) 0) rfl rfl rfl ?_
    refine x_step rfl ?_
    exact x_ret rfl rfl ⟨rfl, hq⟩
  · iterate 2 refine x_step rfl ?_
    refine x_icmpN_le (b) (130) rfl rfl rfl (fun q => False.elim (by omega)) (fun _ => ?_)
    iterate 2 refine x_step rfl ?_
    refine x_callvE rfl (q173 (d := 0) n 21 hn) rfl rfl rfl ?_
    iterate 2 refine x_step rfl ?_
    refine x_callvE rfl (m174 (d := 0) 0) rfl rfl rfl ?_
    refine x_step rfl ?_
    exact x_ret rfl rfl ⟨rfl, hq⟩
/-- FabLinkModel.read -/
theorem q175_k {Q : xm_H → Prop} {jb' : Nat → Int32} (h b : Nat) (h139 : h < 140) (hb8 : b < 256) (hj : upd jb h (nI b) = jb') (n : Nat) (h0 : h = 0) (hb1 : 10 ≤ b) (hb2 : b ≤ 130) (hq : Q (cw L xs (rw th jl (0) (nI (h + 1)) (jb') (nI n) jr jq jQ jz jf jo jn jt jH jA jm jy je jp jk jx jw ju jF jL jO jS jT jU jV jW ja jG ov g2) tc tf bl bf of oc ol on ml mx mb kc kh kr ka gl gx gb ls lq lk lg lh vf vs vb nv nw nr nq ne io sp ch wt xf xz xt xb xc)) : XM l 175 d 0 0 [.ref 103, .int (nI b)] (cw L xs (rw th jl js (nI h) jb (nI n) jr jq jQ jz jf jo jn jt jH jA jm jy je jp jk jx jw ju jF jL jO jS jT jU jV jW ja jG ov g2) tc tf bl bf of oc ol on ml mx mb kc kh kr ka gl gx gb ls lq lk lg lh vf vs vb nv nw nr nq ne io sp ch wt xf xz xt xb xc) (xN Q) := by
  refine XE (pl := [some (.ref 103), some (.int (nI b)), none, none, none]) xg175 rfl ?_
  have hj0 : jb' 0 = nI b := by rw [← hj, h0, pk_us]
  iterate 5 refine x_step rfl ?_
  refine x_iastN (h) rfl rfl rfl (by omega) ?_
  iterate 9 refine x_step rfl ?_
  refine xm_hs (hp' := (cw L xs (rw th jl (0) (nI (h + 1)) (jb') (nI n) jr jq jQ jz jf jo jn jt jH jA jm jy je jp jk jx jw ju jF jL jO jS jT jU jV jW ja jG ov g2) tc tf bl bf of oc ol on ml mx mb kc kh kr ka gl gx gb ls lq lk lg lh vf vs vb nv nw nr nq ne io sp ch wt xf xz xt xb xc)) (by rw [← hj, nI_succ h] <;> rfl) ?_
  iterate 3 refine x_step rfl ?_
  refine x_icmpN_ne (h + 1) (1) rfl rfl rfl (fun q => False.elim (by omega)) (fun _ => ?_)
  iterate 2 refine x_step rfl ?_
  refine x_icmpN_lt (b) (10) rfl rfl rfl (fun q => False.elim (by omega)) (fun _ => ?_)
  iterate 2 refine x_step rfl ?_
  refine x_icmpN_le (b) (130) rfl rfl rfl (fun _ => ?_) (fun q => False.elim (by omega))
  iterate 5 refine x_step rfl ?_
  refine x_ialdN (0) rfl rfl rfl (by omega) ?_
  iterate 2 refine x_step rfl ?_
  refine x_icmpN_ne (h + 1) (b + 3) rfl rfl (by rw [hj0]; exact nI_add b 3) (fun _ => ?_) (fun q => False.elim (by omega))
  exact x_ret rfl rfl ⟨rfl, hq⟩
/-- FabLinkModel.read -/
theorem q175_g {Q : xm_H → Prop} {jb' : Nat → Int32} (h b : Nat) (h139 : h < 140) (hb8 : b < 256) (hj : upd jb h (nI b) = jb') (n len : Nat) (h0 : 1 ≤ h) (hl : jb 0 = nI len) (hl2 : len ≤ 130) (hne : h ≠ len + 2) (hq : Q (cw L xs (rw th jl (0) (nI (h + 1)) (jb') (nI n) jr jq jQ jz jf jo jn jt jH jA jm jy je jp jk jx jw ju jF jL jO jS jT jU jV jW ja jG ov g2) tc tf bl bf of oc ol on ml mx mb kc kh kr ka gl gx gb ls lq lk lg lh vf vs vb nv nw nr nq ne io sp ch wt xf xz xt xb xc)) : XM l 175 d 0 0 [.ref 103, .int (nI b)] (cw L xs (rw th jl js (nI h) jb (nI n) jr jq jQ jz jf jo jn jt jH jA jm jy je jp jk jx jw ju jF jL jO jS jT jU jV jW ja jG ov g2) tc tf bl bf of oc ol on ml mx mb kc kh kr ka gl gx gb ls lq lk lg lh vf vs vb nv nw nr nq ne io sp ch wt xf xz xt xb xc) (xN Q) := by
  refine XE (pl := [some (.ref 103), some (.int (nI b)), none, none, none]) xg175 rfl ?_
  have hj0 : jb' 0 = nI len := by rw [← hj, pk_un (by omega), hl]
  iterate 5 refine x_step rfl ?_
  refine x_iastN (h) rfl rfl rfl (by omega) ?_
  iterate 9 refine x_step rfl ?_
  refine xm_hs (hp' := (cw L xs (rw th jl (0) (nI (h + 1)) (jb') (nI n) jr jq jQ jz jf jo jn jt jH jA jm jy je jp jk jx jw ju jF jL jO jS jT jU jV jW ja jG ov g2) tc tf bl bf of oc ol on ml mx mb kc kh kr ka gl gx gb ls lq lk lg lh vf vs vb nv nw nr nq ne io sp ch wt xf xz xt xb xc)) (by rw [← hj, nI_succ h] <;> rfl) ?_
  iterate 3 refine x_step rfl ?_
  refine x_icmpN_ne (h + 1) (1) rfl rfl rfl (fun _ => ?_) (fun q => False.elim (by omega))
  iterate 5 refine x_step rfl ?_
  refine x_ialdN (0) rfl rfl rfl (by omega) ?_
  iterate 2 refine x_step rfl ?_
  refine x_icmpN_ne (h + 1) (len + 3) rfl rfl (by rw [hj0]; exact nI_add len 3) (fun _ => ?_) (fun q => False.elim (by omega))
  exact x_ret rfl rfl ⟨rfl, hq⟩
def bsum (β : Nat → Nat) : Nat → Nat
  | 0 => 0
  | i + 1 => bsum β i + β i
theorem bsum_le (hβ : ∀ i, β i < 256) : ∀ n, bsum β n ≤ n * 255 := by
  intro n
  induction n with
  | zero => exact Nat.le_refl 0
  | succ n ih =>
    have := hβ n
    rw [bsum, Nat.succ_mul]
    omega
theorem q175_sum {Q : xm_Q} (b len : Nat) (hl : len ≤ 130) (hb : ∀ i, i < len → jb (i + 1) = nI (β i)) (hβ : ∀ i, β i < 256) (hK : XG l xm_any 175 d 0 0 109 [some (.ref 103), some (.int (nI b)), some (.int (nI len)), some (.int (nI (bsum β len))), some (.int (nI (len + 1)))] [] (cw L xs (rw th jl js jh jb jc jr jq jQ jz jf jo jn jt jH jA jm jy je jp jk jx jw ju jF jL jO jS jT jU jV jW ja jG ov g2) tc tf bl bf of oc ol on ml mx mb kc kh kr ka gl gx gb ls lq lk lg lh vf vs vb nv nw nr nq ne io sp ch wt xf xz xt xb xc) Q) : ∀ (m i : Nat), i + m = len → XG l xm_any 175 d 0 0 87 [some (.ref 103), some (.int (nI b)), some (.int (nI len)), some (.int (nI (bsum β i))), some (.int (nI (i + 1)))] [] (cw L xs (rw th jl js jh jb jc jr jq jQ jz jf jo jn jt jH jA jm jy je jp jk jx jw ju jF jL jO jS jT jU jV jW ja jG ov g2) tc tf bl bf of oc ol on ml mx mb kc kh kr ka gl gx gb ls lq lk lg lh vf vs vb nv nw nr nq ne io sp ch wt xf xz xt xb xc) Q := by
  intro m
  induction m with
  | zero =>
    intro i hi
    obtain rfl : i = len := by omega
    iterate 2 refine x_step rfl ?_
    refine x_icmpN_gt (i + 1) (i) rfl rfl rfl (fun _ => ?_) (fun q => False.elim (by omega))
    exact hK
  | succ m ih =>
    intro i hi
    have h1 := bsum_le hβ i
    have h2 := hβ i
    iterate 2 refine x_step rfl ?_
    refine x_icmpN_gt (i + 1) (len) rfl rfl rfl (fun q => False.elim (by omega)) (fun _ => ?_)
    iterate 4 refine x_step rfl ?_
    refine x_ialdN (i + 1) rfl rfl rfl (by omega) ?_
    iterate 4 refine x_step rfl ?_
    refine xm_ls (pl' := [some (.ref 103), some (.int (nI b)), some (.int (nI len)), some (.int (nI (bsum β (i + 1)))), some (.int (nI ((i + 1) + 1)))]) (by rw [hb i (by omega), nI_succ (i + 1), show nI (bsum β i) + nI (β i) = nI (bsum β (i + 1)) from nI_add _ _] <;> rfl) ?_
    exact ih (i + 1) (by omega)
/-- FabLinkModel.read -/
theorem q175_r {Q : xm_H → Prop} {jb' : Nat → Int32} (h b : Nat) (h139 : h < 140) (hb8 : b < 256) (hj : upd jb h (nI b) = jb') (n len x : Nat) (hh : h = len + 2) (hl1 : 10 ≤ len) (hl2 : len ≤ 130) (hl : jb' 0 = nI len) (hb : ∀ i, i < len → jb' (i + 1) = nI (β i)) (hβ : ∀ i, β i < 256) (hx : jb' (len + 1) = nI x) (hx8 : x < 256) (hy : jb' (len + 2) = nI b) (hd : 1 ≤ d) (hn : n < 2 ^ 30) {dd : Nat} (hs : bsum β len = 256 * x + b) (hdd : dd < d) (hR : XM l 176 dd 0 0 [.ref 103] (cw L xs (rw th (0) (0) (nI (h + 1)) (jb') (nI (n + 1)) (upd jr (n % 512) 6) jq jQ jz jf jo jn jt jH jA jm jy je jp jk jx jw ju jF jL jO jS jT jU jV jW (nI len) jG ov g2) tc tf bl bf of oc ol on ml mx mb kc kh kr ka gl gx gb ls lq lk lg lh vf vs vb nv nw nr nq ne io sp ch wt xf xz xt xb xc) (xN Q)) : XM l 175 d 0 0 [.ref 103, .int (nI b)] (cw L xs (rw th jl js (nI h) jb (nI n) jr jq jQ jz jf jo jn jt jH jA jm jy je jp jk jx jw ju jF jL jO jS jT jU jV jW ja jG ov g2) tc tf bl bf of oc ol on ml mx mb kc kh kr ka gl gx gb ls lq lk lg lh vf vs vb nv nw nr nq ne io sp ch wt xf xz xt xb xc) (xN Q) := by
  refine XE (pl := [some (.ref 103), some (.int (nI b)), none, none, none]) xg175 rfl ?_
  have hS := bsum_le hβ len
  iterate 5 refine x_step rfl ?_
  refine x_iastN (h) rfl rfl rfl (by omega) ?_
  iterate 9 refine x_step rfl ?_
  refine xm_hs (hp' := (cw L xs (rw th jl (0) (nI (h + 1)) (jb') (nI n) jr jq jQ jz jf jo jn jt jH jA jm jy je jp jk jx jw ju jF jL jO jS jT jU jV jW ja jG ov g2) tc tf bl bf of oc ol on ml mx mb kc kh kr ka gl gx gb ls lq lk lg lh vf vs vb nv nw nr nq ne io sp ch wt xf xz xt xb xc)) (by rw [← hj, nI_succ h] <;> rfl) ?_
  iterate 3 refine x_step rfl ?_
  refine x_icmpN_ne (h + 1) (1) rfl rfl rfl (fun _ => ?_) (fun q => False.elim (by omega))
  iterate 5 refine x_step rfl ?_
  refine x_ialdN (0) rfl rfl rfl (by omega) ?_
  iterate 2 refine x_step rfl ?_
  refine x_icmpN_ne (h + 1) (len + 3) rfl rfl (by rw [hl]; exact nI_add len 3) (fun q => False.elim (by omega)) (fun _ => ?_)
  iterate 3 refine x_step rfl ?_
  refine x_ialdN (0) rfl rfl rfl (by omega) ?_
  iterate 5 refine x_step rfl ?_
  refine xm_ls (pl' := [some (.ref 103), some (.int (nI b)), some (.int (nI len)), some (.int (nI (bsum β 0))), some (.int (nI (0 + 1)))]) (by rw [hl] <;> rfl) ?_
  refine q175_sum b len hl2 hb hβ ?_ len 0 (by omega)
  refine x_step rfl ?_
  refine x_ldc rfl (by decide) ?_
  refine x_iremN (bsum β len) (65536) rfl rfl rfl ?_
  iterate 6 refine x_step rfl ?_
  refine x_ialdN (len + 1) rfl rfl (nI_add len 1) (by omega) ?_
  iterate 6 refine x_step rfl ?_
  refine x_ialdN (len + 2) rfl rfl (nI_add len 2) (by omega) ?_
  refine x_step rfl ?_
  refine x_icmpN_ne (bsum β len % 65536) (256 * x + b) rfl rfl (by rw [hx, hy, ← nI_add, ← pk_mul] <;> rfl) (fun q => False.elim (by omega)) (fun _ => ?_)
  iterate 5 refine x_step rfl ?_
  refine x_if_eq rfl (fun q => absurd q (by decide)) (fun _ => ?_)
  iterate 2 refine x_step rfl ?_
  refine x_callvE rfl (q173 (d := 0) n 6 hn) rfl rfl rfl ?_
  iterate 2 refine x_step rfl ?_
  refine x_callvE rfl (m174 (d := 0) 0) rfl rfl rfl ?_
  iterate 4 refine x_step rfl ?_
  refine x_if_eq rfl (fun q => absurd q (by decide)) (fun _ => ?_)
  refine xm_hs (hp' := (cw L xs (rw th (0) (0) (nI (h + 1)) (jb') (nI (n + 1)) (upd jr (n % 512) 6) jq jQ jz jf jo jn jt jH jA jm jy je jp jk jx jw ju jF jL jO jS jT jU jV jW (nI len) jG ov g2) tc tf bl bf of oc ol on ml mx mb kc kh kr ka gl gx gb ls lq lk lg lh vf vs vb nv nw nr nq ne io sp ch wt xf xz xt xb xc)) rfl ?_
  refine x_step rfl ?_
  refine x_callvQ rfl (hR) rfl rfl rfl (fun h9 hq => ?_)
  exact x_ret rfl rfl ⟨rfl, hq⟩
/-- FabLinkModel.read -/
theorem q175_w {Q : xm_H → Prop} {jb' : Nat → Int32} (h b : Nat) (h139 : h < 140) (hb8 : b < 256) (hj : upd jb h (nI b) = jb') (n len x : Nat) (hh : h = len + 2) (hl1 : 10 ≤ len) (hl2 : len ≤ 130) (hl : jb' 0 = nI len) (hb : ∀ i, i < len → jb' (i + 1) = nI (β i)) (hβ : ∀ i, β i < 256) (hx : jb' (len + 1) = nI x) (hx8 : x < 256) (hy : jb' (len + 2) = nI b) (hd : 1 ≤ d) (hn : n < 2 ^ 30) (hs : ¬ bsum β len = 256 * x + b) (hq : Q (cw L xs (rw th (0) (0) (nI (h + 1)) (jb') (nI (n + 1)) (upd jr (n % 512) 21) jq jQ jz jf jo jn jt jH jA jm jy je jp jk jx jw ju jF jL jO jS jT jU jV jW (nI len) jG ov g2) tc tf bl bf of oc ol on ml mx mb kc kh kr ka gl gx gb ls lq lk lg lh vf vs vb nv nw nr nq ne io sp ch wt xf xz xt xb xc)) : XM l 175 d 0 0 [.ref 103, .int (nI b)] (cw L xs (rw th jl js (nI h) jb (nI n) jr jq jQ jz jf jo jn jt jH jA jm jy je jp jk jx jw ju jF jL jO jS jT jU jV jW ja jG ov g2) tc tf bl bf of oc ol on ml mx mb kc kh kr ka gl gx gb ls lq lk lg lh vf vs vb nv nw nr nq ne io sp ch wt xf xz xt xb xc) (xN Q) := by
  refine XE (pl := [some (.ref 103), some (.int (nI b)), none, none, none]) xg175 rfl ?_
  have hS := bsum_le hβ len
  iterate 5 refine x_step rfl ?_
  refine x_iastN (h) rfl rfl rfl (by omega) ?_
  iterate 9 refine x_step rfl ?_
  refine xm_hs (hp' := (cw L xs (rw th jl (0) (nI (h + 1)) (jb') (nI n) jr jq jQ jz jf jo jn jt jH jA jm jy je jp jk jx jw ju jF jL jO jS jT jU jV jW ja jG ov g2) tc tf bl bf of oc ol on ml mx mb kc kh kr ka gl gx gb ls lq lk lg lh vf vs vb nv nw nr nq ne io sp ch wt xf xz xt xb xc)) (by rw [← hj, nI_succ h] <;> rfl) ?_
  iterate 3 refine x_step rfl ?_
  refine x_icmpN_ne (h + 1) (1) rfl rfl rfl (fun _ => ?_) (fun q => False.elim (by omega))
  iterate 5 refine x_step rfl ?_
  refine x_ialdN (0) rfl rfl rfl (by omega) ?_
  iterate 2 refine x_step rfl ?_
  refine x_icmpN_ne (h + 1) (len + 3) rfl rfl (by rw [hl]; exact nI_add len 3) (fun q => False.elim (by omega)) (fun _ => ?_)
  iterate 3 refine x_step rfl ?_
  refine x_ialdN (0) rfl rfl rfl (by omega) ?_
  iterate 5 refine x_step rfl ?_
  refine xm_ls (pl' := [some (.ref 103), some (.int (nI b)), some (.int (nI len)), some (.int (nI (bsum β 0))), some (.int (nI (0 + 1)))]) (by rw [hl] <;> rfl) ?_
  refine q175_sum b len hl2 hb hβ ?_ len 0 (by omega)
  refine x_step rfl ?_
  refine x_ldc rfl (by decide) ?_
  refine x_iremN (bsum β len) (65536) rfl rfl rfl ?_
  iterate 6 refine x_step rfl ?_
  refine x_ialdN (len + 1) rfl rfl (nI_add len 1) (by omega) ?_
  iterate 6 refine x_step rfl ?_
  refine x_ialdN (len + 2) rfl rfl (nI_add len 2) (by omega) ?_
  refine x_step rfl ?_
  refine x_icmpN_ne (bsum β len % 65536) (256 * x + b) rfl rfl (by rw [hx, hy, ← nI_add, ← pk_mul] <;> rfl) (fun _ => ?_) (fun q => False.elim (by omega))
  iterate 4 refine x_step rfl ?_
  refine x_if_eq rfl (fun _ => ?_) (fun q => absurd (by decide) q)
  refine x_step rfl ?_
  refine x_callvE rfl (q173 (d := 0) n 21 hn) rfl rfl rfl ?_
  iterate 2 refine x_step rfl ?_
  refine x_callvE rfl (m174 (d := 0) 0) rfl rfl rfl ?_
  iterate 4 refine x_step rfl ?_
  refine x_if_eq rfl (fun _ => ?_) (fun q => absurd (by decide) q)
  exact x_ret rfl rfl ⟨rfl, hq⟩
theorem q172_1 {Q : Int32 → xm_H → Prop} {Q1 : xm_H → Prop} {dd : Nat} (x : Int32) (h0 : ¬ x < 0) (h255 : x ≤ 255) (hl : jl = 1) (hdd : dd < d) (hM : XM l 175 dd 0 0 [.ref 103, .int x] (cw L xs (rw (0) jl js jh jb jc jr jq jQ jz jf jo jn jt jH jA jm jy je jp jk jx jw ju jF jL jO jS jT jU jV jW ja jG ov g2) tc tf bl bf of oc ol on ml mx mb kc kh kr ka gl gx gb ls lq lk lg lh vf vs vb nv nw nr nq ne io sp ch wt xf xz xt xb xc) (xN Q1)) (hS : ∀ h : xm_H, Q1 h → (∃ fs : List Value, h[103]? = some (xO 12 fs)) ∧ XM l 228 dd 0 0 [.ref 103] h (xN (fun h2 => ∃ (fs : List Value) (c : Int32), h2[103]? = some (xO 12 fs) ∧ fs[5]? = some (.int c) ∧ Q (c - jc) h2))) : XM l 172 d 0 0 [.ref 103, .int x] (cw L xs (rw th jl js jh jb jc jr jq jQ jz jf jo jn jt jH jA jm jy je jp jk jx jw ju jF jL jO jS jT jU jV jW ja jG ov g2) tc tf bl bf of oc ol on ml mx mb kc kh kr ka gl gx gb ls lq lk lg lh vf vs vb nv nw nr nq ne io sp ch wt xf xz xt xb xc) (fun v h => ∃ r : Int32, v = some (.int r) ∧ Q r h) := by
  refine XE (pl := [some (.ref 103), some (.int x), none]) xg172 rfl ?_
  iterate 2 refine x_step rfl ?_
  refine x_if_lt rfl (fun q => absurd q h0) (fun _ => ?_)
  iterate 2 refine x_step rfl ?_
  refine x_icmp_le rfl (fun _ => ?_) (fun q => absurd h255 q)
  iterate 4 refine x_step rfl ?_
  refine x_if_eq rfl (fun _ => ?_) (fun q => absurd (by decide) q)
  iterate 5 refine x_step rfl ?_
  refine x_if_ne rfl (fun _ => ?_) (fun q => absurd q (by rw [hl]; decide))
  iterate 3 refine x_step rfl ?_
  refine x_icmp_ne rfl (fun q => absurd hl q) (fun _ => ?_)
  iterate 2 refine x_step rfl ?_
  refine x_callvQ rfl (hM) rfl rfl rfl (fun h9 hq => ?_)
  obtain ⟨⟨fs, e8⟩, hS2⟩ := hS _ hq
  iterate 2 refine x_step rfl ?_
  refine x_callvQ rfl hS2 rfl rfl e8 (fun h9 hq => ?_)
  obtain ⟨fs, c, e9, e5, hQ⟩ := hq
  refine x_step rfl ?_
  refine x_getf rfl e9 e5 ?_
  iterate 2 refine x_step rfl ?_
  exact x_iret rfl rfl rfl ⟨_, rfl, hQ⟩
theorem q172_2 {Q : Int32 → xm_H → Prop} {Q1 : xm_H → Prop} {dd : Nat} (x : Int32) (h0 : ¬ x < 0) (h255 : x ≤ 255) (hl : jl = 2) (hx : x = 4) (hdd : dd < d) (hM : XM l 224 dd 0 0 [.ref 103] (cw L xs (rw (0) jl js jh jb jc jr jq jQ jz jf jo jn jt jH jA jm jy je jp jk jx jw ju jF jL jO jS jT jU jV jW ja jG ov g2) tc tf bl bf of oc ol on ml mx mb kc kh kr ka gl gx gb ls lq lk lg lh vf vs vb nv nw nr nq ne io sp ch wt xf xz xt xb xc) (xN Q1)) (hS : ∀ h : xm_H, Q1 h → (∃ fs : List Value, h[103]? = some (xO 12 fs)) ∧ XM l 228 dd 0 0 [.ref 103] h (xN (fun h2 => ∃ (fs : List Value) (c : Int32), h2[103]? = some (xO 12 fs) ∧ fs[5]? = some (.int c) ∧ Q (c - jc) h2))) : XM l 172 d 0 0 [.ref 103, .int x] (cw L xs (rw th jl js jh jb jc jr jq jQ jz jf jo jn jt jH jA jm jy je jp jk jx jw ju jF jL jO jS jT jU jV jW ja jG ov g2) tc tf bl bf of oc ol on ml mx mb kc kh kr ka gl gx gb ls lq lk lg lh vf vs vb nv nw nr nq ne io sp ch wt xf xz xt xb xc) (fun v h => ∃ r : Int32, v = some (.int r) ∧ Q r h) := by
  refine XE (pl := [some (.ref 103), some (.int x), none]) xg172 rfl ?_
  iterate 2 refine x_step rfl ?_
  refine x_if_lt rfl (fun q => absurd q h0) (fun _ => ?_)
  iterate 2 refine x_step rfl ?_
  refine x_icmp_le rfl (fun _ => ?_) (fun q => absurd h255 q)
  iterate 4 refine x_step rfl ?_
  refine x_if_eq rfl (fun _ => ?_) (fun q => absurd (by decide) q)
  iterate 5 refine x_step rfl ?_
  refine x_if_ne rfl (fun _ => ?_) (fun q => absurd q (by rw [hl]; decide))
  iterate 3 refine x_step rfl ?_
  refine x_icmp_ne rfl (fun _ => ?_) (fun q => absurd q (by rw [hl]; decide))
  iterate 3 refine x_step rfl ?_
  refine x_icmp_ne rfl (fun q => absurd hl q) (fun _ => ?_)
  iterate 2 refine x_step rfl ?_
  refine x_icmp_ne rfl (fun q => absurd hx q) (fun _ => ?_)
  refine x_step rfl ?_
  refine x_callvQ rfl (hM) rfl rfl rfl (fun h9 hq => ?_)
  obtain ⟨⟨fs, e8⟩, hS2⟩ := hS _ hq
  iterate 2 refine x_step rfl ?_
  refine x_callvQ rfl hS2 rfl rfl e8 (fun h9 hq => ?_)
  obtain ⟨fs, c, e9, e5, hQ⟩ := hq
  refine x_step rfl ?_
  refine x_getf rfl e9 e5 ?_
  iterate 2 refine x_step rfl ?_
  exact x_iret rfl rfl rfl ⟨_, rfl, hQ⟩
theorem q172_2n {Q : Int32 → xm_H → Prop} {Q1 : xm_H → Prop} {dd : Nat} (x : Int32) (h0 : ¬ x < 0) (h255 : x ≤ 255) (hl : jl = 2) (hx : ¬ x = 4) (hdd : dd < d) (hq : Q1 (cw L xs (rw (0) jl js jh jb jc jr jq jQ jz jf jo jn jt jH jA jm jy je jp jk jx jw ju jF jL jO jS jT jU jV jW ja jG ov g2) tc tf bl bf of oc ol on ml mx mb kc kh kr ka gl gx gb ls lq lk lg lh vf vs vb nv nw nr nq ne io sp ch wt xf xz xt xb xc)) (hS : ∀ h : xm_H, Q1 h → (∃ fs : List Value, h[103]? = some (xO 12 fs)) ∧ XM l 228 dd 0 0 [.ref 103] h (xN (fun h2 => ∃ (fs : List Value) (c : Int32), h2[103]? = some (xO 12 fs) ∧ fs[5]? = some (.int c) ∧ Q (c - jc) h2))) : XM l 172 d 0 0 [.ref 103, .int x] (cw L xs (rw th jl js jh jb jc jr jq jQ jz jf jo jn jt jH jA jm jy je jp jk jx jw ju jF jL jO jS jT jU jV jW ja jG ov g2) tc tf bl bf of oc ol on ml mx mb kc kh kr ka gl gx gb ls lq lk lg lh vf vs vb nv nw nr nq ne io sp ch wt xf xz xt xb xc) (fun v h => ∃ r : Int32, v = some (.int r) ∧ Q r h) := by
  refine XE (pl := [some (.ref 103), some (.int x), none]) xg172 rfl ?_
  iterate 2 refine x_step rfl ?_
  refine x_if_lt rfl (fun q => absurd q h0) (fun _ => ?_)
  iterate 2 refine x_step rfl ?_
  refine x_icmp_le rfl (fun _ => ?_) (fun q => absurd h255 q)
  iterate 4 refine x_step rfl ?_
  refine x_if_eq rfl (fun _ => ?_) (fun q => absurd (by decide) q)
  iterate 5 refine x_step rfl ?_
  refine x_if_ne rfl (fun _ => ?_) (fun q => absurd q (by rw [hl]; decide))
  iterate 3 refine x_step rfl ?_
  refine x_icmp_ne rfl (fun _ => ?_) (fun q => absurd q (by rw [hl]; decide))
  iterate 3 refine x_step rfl ?_
  refine x_icmp_ne rfl (fun q => absurd hl q) (fun _ => ?_)
  iterate 2 refine x_step rfl ?_
  refine x_icmp_ne rfl (fun _ => ?_) (fun q => absurd q hx)
  obtain ⟨⟨fs, e8⟩, hS2⟩ := hS _ hq
  refine x_step rfl ?_
  refine x_callvQ rfl hS2 rfl rfl e8 (fun h9 hq => ?_)
  obtain ⟨fs, c, e9, e5, hQ⟩ := hq
  refine x_step rfl ?_
  refine x_getf rfl e9 e5 ?_
  iterate 2 refine x_step rfl ?_
  exact x_iret rfl rfl rfl ⟨_, rfl, hQ⟩
theorem q172_3 {Q : Int32 → xm_H → Prop} {Q1 : xm_H → Prop} {dd : Nat} (x : Int32) (h0 : ¬ x < 0) (h255 : x ≤ 255) (hl : jl = 3) (hx : x = 6) (hdd : dd < d) (hM : XM l 225 dd 0 0 [.ref 103] (cw L xs (rw (0) jl js jh jb jc jr jq jQ jz jf jo jn jt jH jA jm jy je jp jk jx jw ju jF jL jO jS jT jU jV jW ja jG ov g2) tc tf bl bf of oc ol on ml mx mb kc kh kr ka gl gx gb ls lq lk lg lh vf vs vb nv nw nr nq ne io sp ch wt xf xz xt xb xc) (xN Q1)) (hS : ∀ h : xm_H, Q1 h → (∃ fs : List Value, h[103]? = some (xO 12 fs)) ∧ XM l 228 dd 0 0 [.ref 103] h (xN (fun h2 => ∃ (fs : List Value) (c : Int32), h2[103]? = some (xO 12 fs) ∧ fs[5]? = some (.int c) ∧ Q (c - jc) h2))) : XM l 172 d 0 0 [.ref 103, .int x] (cw L xs (rw th jl js jh jb jc jr jq jQ jz jf jo jn jt jH jA jm jy je jp jk jx jw ju jF jL jO jS jT jU jV jW ja jG ov g2) tc tf bl bf of oc ol on ml mx mb kc kh kr ka gl gx gb ls lq lk lg lh vf vs vb nv nw nr nq ne io sp ch wt xf xz xt xb xc) (fun v h => ∃ r : Int32, v = some (.int r) ∧ Q r h) := by
  refine XE (pl := [some (.ref 103), some (.int x), none]) xg172 rfl ?_
  iterate 2 refine x_step rfl ?_
  refine x_if_lt rfl (fun q => absurd q h0) (fun _ => ?_)
  iterate 2 refine x_step rfl ?_
  refine x_icmp_le rfl (fun _ => ?_) (fun q => absurd h255 q)
  iterate 4 refine x_step rfl ?_
  refine x_if_eq rfl (fun _ => ?_) (fun q => absurd (by decide) q)
  iterate 5 refine x_step rfl ?_
  refine x_if_ne rfl (fun _ => ?_) (fun q => absurd q (by rw [hl]; decide))
  iterate 3 refine x_step rfl ?_
  refine x_icmp_ne rfl (fun _ => ?_) (fun q => absurd q (by rw [hl]; decide))
  iterate 3 refine x_step rfl ?_
  refine x_icmp_ne rfl (fun _ => ?_) (fun q => absurd q (by rw [hl]; decide))
  iterate 2 refine x_step rfl ?_
  refine x_icmp_ne rfl (fun q => absurd hx q) (fun _ => ?_)
  refine x_step rfl ?_
  refine x_callvQ rfl (hM) rfl rfl rfl (fun h9 hq => ?_)
  obtain ⟨⟨fs, e8⟩, hS2⟩ := hS _ hq
  iterate 2 refine x_step rfl ?_
  refine x_callvQ rfl hS2 rfl rfl e8 (fun h9 hq => ?_)
  obtain ⟨fs, c, e9, e5, hQ⟩ := hq
  refine x_step rfl ?_
  refine x_getf rfl e9 e5 ?_
  iterate 2 refine x_step rfl ?_
  exact x_iret rfl rfl rfl ⟨_, rfl, hQ⟩
theorem q172_3n {Q : Int32 → xm_H → Prop} {Q1 : xm_H → Prop} {dd : Nat} (x : Int32) (h0 : ¬ x < 0) (h255 : x ≤ 255) (hl : jl = 3) (hx : ¬ x = 6) (hdd : dd < d) (hM : XM l 227 dd 0 0 [.ref 103] (cw L xs (rw (0) jl js jh jb jc jr jq jQ jz jf jo jn jt jH jA jm jy je jp jk jx jw ju jF jL jO jS jT jU jV jW ja jG ov g2) tc tf bl bf of oc ol on ml mx mb kc kh kr ka gl gx gb ls lq lk lg lh vf vs vb nv nw nr nq ne io sp ch wt xf xz xt xb xc) (xN Q1)) (hS : ∀ h : xm_H, Q1 h → (∃ fs : List Value, h[103]? = some (xO 12 fs)) ∧ XM l 228 dd 0 0 [.ref 103] h (xN (fun h2 => ∃ (fs : List Value) (c : Int32), h2[103]? = some (xO 12 fs) ∧ fs[5]? = some (.int c) ∧ Q (c - jc) h2))) : XM l 172 d 0 0 [.ref 103, .int x] (cw L xs (rw th jl js jh jb jc jr jq jQ jz jf jo jn jt jH jA jm jy je jp jk jx jw ju jF jL jO jS jT jU jV jW ja jG ov g2) tc tf bl bf of oc ol on ml mx mb kc kh kr ka gl gx gb ls lq lk lg lh vf vs vb nv nw nr nq ne io sp ch wt xf xz xt xb xc) (fun v h => ∃ r : Int32, v = some (.int r) ∧ Q r h) := by
  refine XE (pl := [some (.ref 103), some (.int x), none]) xg172 rfl ?_
  iterate 2 refine x_step rfl ?_
  refine x_if_lt rfl (fun q => absurd q h0) (fun _ => ?_)
  iterate 2 refine x_step rfl ?_
  refine x_icmp_le rfl (fun _ => ?_) (fun q => absurd h255 q)
  iterate 4 refine x_step rfl ?_
  refine x_if_eq rfl (fun _ => ?_) (fun q => absurd (by decide) q)
  iterate 5 refine x_step rfl ?_
  refine x_if_ne rfl (fun _ => ?_) (fun q => absurd q (by rw [hl]; decide))
  iterate 3 refine x_step rfl ?_
  refine x_icmp_ne rfl (fun _ => ?_) (fun q => absurd q (by rw [hl]; decide))
  iterate 3 refine x_step rfl ?_
  refine x_icmp_ne rfl (fun _ => ?_) (fun q => absurd q (by rw [hl]; decide))
  iterate 2 refine x_step rfl ?_
  refine x_icmp_ne rfl (fun _ => ?_) (fun q => absurd q hx)
  refine x_step rfl ?_
  refine x_callvQ rfl (hM) rfl rfl rfl (fun h9 hq => ?_)
  obtain ⟨⟨fs, e8⟩, hS2⟩ := hS _ hq
  refine x_step rfl ?_
  refine x_callvQ rfl hS2 rfl rfl e8 (fun h9 hq => ?_)
  obtain ⟨fs, c, e9, e5, hQ⟩ := hq
  refine x_step rfl ?_
  refine x_getf rfl e9 e5 ?_
  iterate 2 refine x_step rfl ?_
  exact x_iret rfl rfl rfl ⟨_, rfl, hQ⟩
end ER15
