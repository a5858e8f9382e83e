section ER16
variable {l : Launch} {d L : Nat} {xs : Nat → Int32} {tc : Int32} {tf : (Nat → Int32)} {bl : Int32} {bf : (Nat → Int32)} {of : Int32} {oc : Int32} {ol : Int32} {on : Int32} {ml : (Nat → Int32)} {mx : (Nat → Int32)} {mb : (Nat → Nat → Int32)} {kc : Int32} {kh : (Nat → Nat)} {kr : (Nat → Nat → Int32)} {ka : (Nat → Int32)} {gl : Int32} {gx : Int32} {gb : (Nat → Int32)} {ls : Int32} {lq : Int32} {lk : Int32} {lg : Int32} {lh : Int32} {vf : (Nat → Int32)} {vs : (Nat → Int32)} {vb : (Nat → Nat → Int32)} {nv : (Nat → Int32)} {nw : (Nat → Nat → Int32)} {nr : (Nat → Int32)} {nq : (Nat → Nat → Int32)} {ne : (Nat → Int32)} {io : Int32} {sp : Int32} {ch : Int32} {wt : Int32} {xf : (Nat → Int32)} {xz : (Nat → Int32)} {xt : (Nat → Int32)} {xb : (Nat → Int32)} {xc : Int32} {th : Int32} {jl : Int32} {js : Int32} {jh : Int32} {jb : (Nat → Int32)} {jc : Int32} {jr : (Nat → Int32)} {jq : Int32} {jQ : (Nat → Int32)} {jz : (Nat → Int32)} {jf : (Nat → Int32)} {jo : Int32} {jn : Int32} {jt : Int32} {jH : (Nat → Int32)} {jA : (Nat → Int32)} {jm : Int32} {jy : (Nat → Int32)} {je : Int32} {jp : Int32} {jk : Int32} {jx : Int32} {jw : Int32} {ju : Int32} {jF : (Nat → Int32)} {jL : (Nat → Int32)} {jO : (Nat → Int32)} {jS : (Nat → Int32)} {jT : (Nat → Int32)} {jU : (Nat → Int32)} {jV : (Nat → Int32)} {jW : (Nat → Int32)} {ja : Int32} {jG : (Nat → Int32)} {ov : (Nat → Value)} {g2 : xm_H}
theorem q230_ages {Q : xm_Q} (t : Nat) (ht : t ≤ 8) (hK : ∀ o1 : Option Value, XG l xm_any 230 d 0 0 26 [some (.ref 103), o1] [] (cw L xs (rw th jl js jh jb jc jr jq jQ jz jf jo jn (nI t) jH (xinc jA t) jm jy je jp jk jx jw ju jF jL jO jS jT jU jV jW ja jG ov g2) tc tf bl bf of oc ol on ml mx mb kc kh kr ka gl gx gb ls lq lk lg lh vf vs vb nv nw nr nq ne io sp ch wt xf xz xt xb xc) Q) : ∀ (r i : Nat), i + r = t → XG l xm_any 230 d 0 0 2 [some (.ref 103), some (.int (nI i))] [] (cw L xs (rw th jl js jh jb jc jr jq jQ jz jf jo jn (nI t) jH (xinc jA i) jm jy je jp jk jx jw ju jF jL jO jS jT jU jV jW ja jG ov g2) tc tf bl bf of oc ol on ml mx mb kc kh kr ka gl gx gb ls lq lk lg lh vf vs vb nv nw nr nq ne io sp ch wt xf xz xt xb xc) Q := by
  intro r
  induction r with
  | zero =>
    intro i hi
    obtain rfl : i = t := by omega
    iterate 3 refine x_step rfl ?_
    refine x_icmpN_ge (i) (i) rfl rfl rfl (fun _ => ?_) (fun q => False.elim (by omega))
    exact hK _
  | succ r ih =>
    intro i hi
    iterate 3 refine x_step rfl ?_
    refine x_icmpN_ge (i) (t) rfl rfl rfl (fun q => False.elim (by omega)) (fun _ => ?_)
    iterate 4 refine x_step rfl ?_
    refine x_ialdN (i) rfl rfl rfl (by omega) ?_
    iterate 2 refine x_step rfl ?_
    refine x_iastN (i) rfl rfl rfl (by omega) ?_
    iterate 2 refine x_step rfl ?_
    refine xm_ls (pl' := [some (.ref 103), some (.int (nI (i + 1)))]) (by rw [nI_succ] <;> rfl) ?_
    refine xm_hs (hp' := (cw L xs (rw th jl js jh jb jc jr jq jQ jz jf jo jn (nI t) jH (xinc jA (i + 1)) jm jy je jp jk jx jw ju jF jL jO jS jT jU jV jW ja jG ov g2) tc tf bl bf of oc ol on ml mx mb kc kh kr ka gl gx gb ls lq lk lg lh vf vs vb nv nw nr nq ne io sp ch wt xf xz xt xb xc)) (by rw [← xinc_s] <;> rfl) ?_
    exact ih (i + 1) (by omega)
theorem q230_of {Q : Option Value → xm_H → Prop} (t : Nat) (ht : t ≤ 8) (hK : ∀ o1 : Option Value, XW l 230 d 0 0 26 [some (.ref 103), o1] [] (cw L xs (rw th jl js jh jb jc jr jq jQ jz jf jo jn (nI t) jH (xinc jA t) jm jy je jp jk jx jw ju jF jL jO jS jT jU jV jW ja jG ov g2) tc tf bl bf of oc ol on ml mx mb kc kh kr ka gl gx gb ls lq lk lg lh vf vs vb nv nw nr nq ne io sp ch wt xf xz xt xb xc) Q) : XM l 230 d 0 0 [.ref 103] (cw L xs (rw th jl js jh jb jc jr jq jQ jz jf jo jn (nI t) jH jA jm jy je jp jk jx jw ju jF jL jO jS jT jU jV jW ja jG ov g2) tc tf bl bf of oc ol on ml mx mb kc kh kr ka gl gx gb ls lq lk lg lh vf vs vb nv nw nr nq ne io sp ch wt xf xz xt xb xc) Q := by
  refine XE (pl := [some (.ref 103), none]) xg230 rfl ?_
  iterate 2 refine x_step rfl ?_
  refine xm_ls (pl' := [some (.ref 103), some (.int (nI 0))]) rfl ?_
  refine xm_hs (hp' := (cw L xs (rw th jl js jh jb jc jr jq jQ jz jf jo jn (nI t) jH (xinc jA 0) jm jy je jp jk jx jw ju jF jL jO jS jT jU jV jW ja jG ov g2) tc tf bl bf of oc ol on ml mx mb kc kh kr ka gl gx gb ls lq lk lg lh vf vs vb nv nw nr nq ne io sp ch wt xf xz xt xb xc)) (by rw [xinc_0] <;> rfl) ?_
  exact q230_ages t ht hK t 0 (by omega)
theorem q230_step {Q : xm_Q} (t q n : Nat) (o1 : Option Value) (hd : 3 ≤ d) (ht : t < 8) (hq : q ≤ 8) (hn : n < 65536) (ha : jA 0 = nI 45) (hK : XG l xm_any 230 d 0 0 26 [some (.ref 103), o1] [] (cw L xs (rw th jl js jh jb jc jr (nI (xrq q)) (xrQ q jQ (xrbd jy ([33, 10, jH (0 + 0), jH (0 + 1), jH (0 + 2), jH (0 + 3), jH (0 + 4), jH (0 + 5), jH (0 + 6), jH (0 + 7), jH (0 + 8), jH (0 + 9)])) ([33, 10, jH (0 + 0), jH (0 + 1), jH (0 + 2), jH (0 + 3), jH (0 + 4), jH (0 + 5), jH (0 + 6), jH (0 + 7), jH (0 + 8), jH (0 + 9)]).length (9) (9) (0) (0) (nI ((n + 1) % 65536 / 256)) (nI ((n + 1) % 65536 % 256))) (xrz q jz ([33, 10, jH (0 + 0), jH (0 + 1), jH (0 + 2), jH (0 + 3), jH (0 + 4), jH (0 + 5), jH (0 + 6), jH (0 + 7), jH (0 + 8), jH (0 + 9)]).length) (xrf q jf) (xro q jo) (nI ((n + 1) % 65536)) (nI t) (xshk jH (10 * 0) (10 * (t - 0)) 10) (xshk jA 0 (t - 0) 1) (nI ([33, 10, jH (0 + 0), jH (0 + 1), jH (0 + 2), jH (0 + 3), jH (0 + 4), jH (0 + 5), jH (0 + 6), jH (0 + 7), jH (0 + 8), jH (0 + 9)]).length) (xrbd jy ([33, 10, jH (0 + 0), jH (0 + 1), jH (0 + 2), jH (0 + 3), jH (0 + 4), jH (0 + 5), jH (0 + 6), jH (0 + 7), jH (0 + 8), jH (0 + 9)])) je jp jk jx jw ju jF jL jO jS jT jU jV jW ja jG ov g2) tc tf bl bf of oc ol on ml mx mb kc kh kr ka gl gx gb ls lq lk lg lh vf vs vb nv nw nr nq ne io sp ch wt xf xz xt xb xc) Q) : XG l xm_any 230 d 0 0 26 [some (.ref 103), o1] [] (cw L xs (rw th jl js jh jb jc jr (nI q) jQ jz jf jo (nI n) (nI (t + 1)) jH jA jm jy je jp jk jx jw ju jF jL jO jS jT jU jV jW ja jG ov g2) tc tf bl bf of oc ol on ml mx mb kc kh kr ka gl gx gb ls lq lk lg lh vf vs vb nv nw nr nq ne io sp ch wt xf xz xt xb xc) Q := by
  iterate 2 refine x_step rfl ?_
  refine x_ifN_le (t + 1) rfl rfl (fun q => False.elim (by omega)) (fun _ => ?_)
  iterate 3 refine x_step rfl ?_
  refine x_ialdN (0) rfl rfl rfl (by omega) ?_
  refine x_step rfl ?_
  refine x_icmpN_ne (45) (45) rfl ha rfl (fun q => False.elim (by omega)) (fun _ => ?_)
  iterate 3 refine x_step rfl ?_
  refine x_callvE rfl (q177b (d := 2) q n 9 (by omega) hq hn 0 (by decide)) rfl rfl rfl ?_
  iterate 2 refine x_step rfl ?_
  refine x_callvE rfl (q183 (d := 0) t 0 ht (by omega)) rfl rfl rfl ?_
  refine x_step rfl ?_
  exact hK
theorem q230_z {Q : xm_Q} (o1 : Option Value)  (hK : XG l xm_any 230 d 0 0 59 [some (.ref 103), o1] [] (cw L xs (rw th jl js jh jb jc jr jq jQ jz jf jo jn (nI 0) jH jA jm jy je jp jk jx jw ju jF jL jO jS jT jU jV jW ja jG ov g2) tc tf bl bf of oc ol on ml mx mb kc kh kr ka gl gx gb ls lq lk lg lh vf vs vb nv nw nr nq ne io sp ch wt xf xz xt xb xc) Q) : XG l xm_any 230 d 0 0 26 [some (.ref 103), o1] [] (cw L xs (rw th jl js jh jb jc jr jq jQ jz jf jo jn (nI 0) jH jA jm jy je jp jk jx jw ju jF jL jO jS jT jU jV jW ja jG ov g2) tc tf bl bf of oc ol on ml mx mb kc kh kr ka gl gx gb ls lq lk lg lh vf vs vb nv nw nr nq ne io sp ch wt xf xz xt xb xc) Q := by
  iterate 2 refine x_step rfl ?_
  refine x_ifN_le (0) rfl rfl (fun _ => ?_) (fun q => False.elim (by omega))
  exact hK
theorem q230_y {Q : xm_Q} (o1 : Option Value) (t a : Nat) (ht : t < 8) (ha : jA 0 = nI a) (ha2 : a < 45) (hK : XG l xm_any 230 d 0 0 59 [some (.ref 103), o1] [] (cw L xs (rw th jl js jh jb jc jr jq jQ jz jf jo jn (nI (t + 1)) jH jA jm jy je jp jk jx jw ju jF jL jO jS jT jU jV jW ja jG ov g2) tc tf bl bf of oc ol on ml mx mb kc kh kr ka gl gx gb ls lq lk lg lh vf vs vb nv nw nr nq ne io sp ch wt xf xz xt xb xc) Q) : XG l xm_any 230 d 0 0 26 [some (.ref 103), o1] [] (cw L xs (rw th jl js jh jb jc jr jq jQ jz jf jo jn (nI (t + 1)) jH jA jm jy je jp jk jx jw ju jF jL jO jS jT jU jV jW ja jG ov g2) tc tf bl bf of oc ol on ml mx mb kc kh kr ka gl gx gb ls lq lk lg lh vf vs vb nv nw nr nq ne io sp ch wt xf xz xt xb xc) Q := by
  iterate 2 refine x_step rfl ?_
  refine x_ifN_le (t + 1) rfl rfl (fun q => False.elim (by omega)) (fun _ => ?_)
  iterate 3 refine x_step rfl ?_
  refine x_ialdN (0) rfl rfl rfl (by omega) ?_
  refine x_step rfl ?_
  refine x_icmpN_ne (a) (45) rfl ha rfl (fun _ => ?_) (fun q => False.elim (by omega))
  exact hK
theorem q230_w0 {Q : xm_Q} (o1 : Option Value) (h : ¬ jw = 1) (hK : XG l xm_any 230 d 0 0 97 [some (.ref 103), o1] [] (cw L xs (rw th jl js jh jb jc jr jq jQ jz jf jo jn jt jH jA jm jy je jp jk jx jw ju jF jL jO jS jT jU jV jW ja jG ov g2) tc tf bl bf of oc ol on ml mx mb kc kh kr ka gl gx gb ls lq lk lg lh vf vs vb nv nw nr nq ne io sp ch wt xf xz xt xb xc) Q) : XG l xm_any 230 d 0 0 59 [some (.ref 103), o1] [] (cw L xs (rw th jl js jh jb jc jr jq jQ jz jf jo jn jt jH jA jm jy je jp jk jx jw ju jF jL jO jS jT jU jV jW ja jG ov g2) tc tf bl bf of oc ol on ml mx mb kc kh kr ka gl gx gb ls lq lk lg lh vf vs vb nv nw nr nq ne io sp ch wt xf xz xt xb xc) Q := by
  iterate 3 refine x_step rfl ?_
  refine x_icmp_ne rfl (fun _ => ?_) (fun q => absurd q h)
  exact hK
theorem q230_w1 {Q : xm_Q} (o1 : Option Value) (u : Nat) (h : jw = 1) (hu : u + 1 < 30) (hK : XG l xm_any 230 d 0 0 97 [some (.ref 103), o1] [] (cw L xs (rw th jl js jh jb jc jr jq jQ jz jf jo jn jt jH jA jm jy je jp jk jx jw (nI (u + 1)) jF jL jO jS jT jU jV jW ja jG ov g2) tc tf bl bf of oc ol on ml mx mb kc kh kr ka gl gx gb ls lq lk lg lh vf vs vb nv nw nr nq ne io sp ch wt xf xz xt xb xc) Q) : XG l xm_any 230 d 0 0 59 [some (.ref 103), o1] [] (cw L xs (rw th jl js jh jb jc jr jq jQ jz jf jo jn jt jH jA jm jy je jp jk jx jw (nI u) jF jL jO jS jT jU jV jW ja jG ov g2) tc tf bl bf of oc ol on ml mx mb kc kh kr ka gl gx gb ls lq lk lg lh vf vs vb nv nw nr nq ne io sp ch wt xf xz xt xb xc) Q := by
  iterate 3 refine x_step rfl ?_
  refine x_icmp_ne rfl (fun q => absurd h q) (fun _ => ?_)
  iterate 6 refine x_step rfl ?_
  refine xm_hs (hp' := (cw L xs (rw th jl js jh jb jc jr jq jQ jz jf jo jn jt jH jA jm jy je jp jk jx jw (nI (u + 1)) jF jL jO jS jT jU jV jW ja jG ov g2) tc tf bl bf of oc ol on ml mx mb kc kh kr ka gl gx gb ls lq lk lg lh vf vs vb nv nw nr nq ne io sp ch wt xf xz xt xb xc)) (by rw [nI_succ] <;> rfl) ?_
  iterate 3 refine x_step rfl ?_
  refine x_icmpN_ne (u + 1) (30) rfl rfl rfl (fun _ => ?_) (fun q => False.elim (by omega))
  exact hK
theorem q230_w2 {Q : xm_Q} {jm' : Int32} {jy' : Nat → Int32} {jn' : Int32} {jq' : Int32} {jo' : Int32} {jQ' : Nat → Int32} {jz' : Nat → Int32} {jf' : Nat → Int32} {dd : Nat} {r : Int32} (o1 : Option Value) (u : Nat) (h : jw = 1) (hu : u + 1 = 30) (hdd : dd < d) (hM : XM l 212 dd 0 0 [.ref 103, .int 3] (cw L xs (rw th jl js jh jb jc jr jq jQ jz jf jo jn jt jH jA jm jy je jp jk jx (0) (nI (u + 1)) jF jL jO jS jT jU jV jW ja jG ov g2) tc tf bl bf of oc ol on ml mx mb kc kh kr ka gl gx gb ls lq lk lg lh vf vs vb nv nw nr nq ne io sp ch wt xf xz xt xb xc) (xm_is (some (.int r)) (cw L xs (rw th jl js jh jb jc jr (jq') (jQ') (jz') (jf') (jo') (jn') jt jH jA (jm') (jy') je jp jk jx (0) (nI (u + 1)) jF jL jO jS jT jU jV jW ja jG ov g2) tc tf bl bf of oc ol on ml mx mb kc kh kr ka gl gx gb ls lq lk lg lh vf vs vb nv nw nr nq ne io sp ch wt xf xz xt xb xc))) (hK : ∀ o1 : Option Value, XG l xm_any 230 d 0 0 97 [some (.ref 103), o1] [] (cw L xs (rw th jl js jh jb jc jr (jq') (jQ') (jz') (jf') (jo') (jn') jt jH jA (jm') (jy') je jp jk jx (0) (nI (u + 1)) jF jL jO jS jT jU jV jW ja jG ov g2) tc tf bl bf of oc ol on ml mx mb kc kh kr ka gl gx gb ls lq lk lg lh vf vs vb nv nw nr nq ne io sp ch wt xf xz xt xb xc) Q) : XG l xm_any 230 d 0 0 59 [some (.ref 103), o1] [] (cw L xs (rw th jl js jh jb jc jr jq jQ jz jf jo jn jt jH jA jm jy je jp jk jx jw (nI u) jF jL jO jS jT jU jV jW ja jG ov g2) tc tf bl bf of oc ol on ml mx mb kc kh kr ka gl gx gb ls lq lk lg lh vf vs vb nv nw nr nq ne io sp ch wt xf xz xt xb xc) Q := by
  iterate 3 refine x_step rfl ?_
  refine x_icmp_ne rfl (fun q => absurd h q) (fun _ => ?_)
  iterate 6 refine x_step rfl ?_
  refine xm_hs (hp' := (cw L xs (rw th jl js jh jb jc jr jq jQ jz jf jo jn jt jH jA jm jy je jp jk jx jw (nI (u + 1)) jF jL jO jS jT jU jV jW ja jG ov g2) tc tf bl bf of oc ol on ml mx mb kc kh kr ka gl gx gb ls lq lk lg lh vf vs vb nv nw nr nq ne io sp ch wt xf xz xt xb xc)) (by rw [nI_succ] <;> rfl) ?_
  iterate 3 refine x_step rfl ?_
  refine x_icmpN_ne (u + 1) (30) rfl rfl rfl (fun q => False.elim (by omega)) (fun _ => ?_)
  iterate 3 refine x_step rfl ?_
  refine xm_hs (hp' := (cw L xs (rw th jl js jh jb jc jr jq jQ jz jf jo jn jt jH jA jm jy je jp jk jx (0) (nI (u + 1)) jF jL jO jS jT jU jV jW ja jG ov g2) tc tf bl bf of oc ol on ml mx mb kc kh kr ka gl gx gb ls lq lk lg lh vf vs vb nv nw nr nq ne io sp ch wt xf xz xt xb xc)) rfl ?_
  iterate 2 refine x_step rfl ?_
  refine x_callvE rfl (hM) rfl rfl rfl ?_
  refine x_step rfl ?_
  exact hK _
theorem q230_l0 {Q : xm_Q} (o1 : Option Value) (h : jl = 0) (hK : XG l xm_any 230 d 0 0 177 [some (.ref 103), o1] [] (cw L xs (rw th jl js jh jb jc jr jq jQ jz jf jo jn jt jH jA jm jy je jp jk jx jw ju jF jL jO jS jT jU jV jW ja jG ov g2) tc tf bl bf of oc ol on ml mx mb kc kh kr ka gl gx gb ls lq lk lg lh vf vs vb nv nw nr nq ne io sp ch wt xf xz xt xb xc) Q) : XG l xm_any 230 d 0 0 97 [some (.ref 103), o1] [] (cw L xs (rw th jl js jh jb jc jr jq jQ jz jf jo jn jt jH jA jm jy je jp jk jx jw ju jF jL jO jS jT jU jV jW ja jG ov g2) tc tf bl bf of oc ol on ml mx mb kc kh kr ka gl gx gb ls lq lk lg lh vf vs vb nv nw nr nq ne io sp ch wt xf xz xt xb xc) Q := by
  iterate 2 refine x_step rfl ?_
  refine x_if_eq rfl (fun _ => ?_) (fun q => absurd h q)
  exact hK
theorem q230_rk {Q : xm_Q} (o1 : Option Value) (u h : Nat) (hh : 0 < h) (h139 : h < 200) (hu : u + 1 < 2) (hK : ∀ o1 : Option Value, XG l xm_any 230 d 0 0 177 [some (.ref 103), o1] [] (cw L xs (rw th (1) (nI (u + 1)) (nI h) jb jc jr jq jQ jz jf jo jn jt jH jA jm jy je jp jk jx jw ju jF jL jO jS jT jU jV jW ja jG ov g2) tc tf bl bf of oc ol on ml mx mb kc kh kr ka gl gx gb ls lq lk lg lh vf vs vb nv nw nr nq ne io sp ch wt xf xz xt xb xc) Q) : XG l xm_any 230 d 0 0 97 [some (.ref 103), o1] [] (cw L xs (rw th (1) (nI u) (nI h) jb jc jr jq jQ jz jf jo jn jt jH jA jm jy je jp jk jx jw ju jF jL jO jS jT jU jV jW ja jG ov g2) tc tf bl bf of oc ol on ml mx mb kc kh kr ka gl gx gb ls lq lk lg lh vf vs vb nv nw nr nq ne io sp ch wt xf xz xt xb xc) Q := by
  iterate 2 refine x_step rfl ?_
  refine x_if_eq rfl (fun q => absurd q (by decide)) (fun _ => ?_)
  iterate 6 refine x_step rfl ?_
  refine xm_hs (hp' := (cw L xs (rw th (1) (nI (u + 1)) (nI h) jb jc jr jq jQ jz jf jo jn jt jH jA jm jy je jp jk jx jw ju jF jL jO jS jT jU jV jW ja jG ov g2) tc tf bl bf of oc ol on ml mx mb kc kh kr ka gl gx gb ls lq lk lg lh vf vs vb nv nw nr nq ne io sp ch wt xf xz xt xb xc)) (by rw [nI_succ] <;> rfl) ?_
  iterate 3 refine x_step rfl ?_
  refine x_icmp_ne rfl (fun q => absurd (by decide) q) (fun _ => ?_)
  iterate 2 refine x_step rfl ?_
  refine x_ifN_le (h) rfl rfl (fun q => False.elim (by omega)) (fun _ => ?_)
  iterate 6 refine x_step rfl ?_
  refine x_icmpN_ne (u + 1) (2) rfl rfl rfl (fun _ => ?_) (fun q => False.elim (by omega))
  iterate 3 refine x_step rfl ?_
  refine x_icmpN_ne (u + 1) (2) rfl rfl rfl (fun _ => ?_) (fun q => False.elim (by omega))
  exact hK _
theorem q230_tk {Q : xm_Q} (o1 : Option Value) (u h n : Nat) (hh : 0 < h) (h139 : h < 200) (hu : u + 1 = 2) (hd : 1 ≤ d) (hn : n < 2 ^ 30) (hK : ∀ o1 : Option Value, XG l xm_any 230 d 0 0 177 [some (.ref 103), o1] [] (cw L xs (rw th (0) (0) (nI h) jb (nI (n + 1)) (upd jr (n % 512) 21) jq jQ jz jf jo jn jt jH jA jm jy je jp jk jx jw ju jF jL jO jS jT jU jV jW ja jG ov g2) tc tf bl bf of oc ol on ml mx mb kc kh kr ka gl gx gb ls lq lk lg lh vf vs vb nv nw nr nq ne io sp ch wt xf xz xt xb xc) Q) : XG l xm_any 230 d 0 0 97 [some (.ref 103), o1] [] (cw L xs (rw th (1) (nI u) (nI h) jb (nI n) jr jq jQ jz jf jo jn jt jH jA jm jy je jp jk jx jw ju jF jL jO jS jT jU jV jW ja jG ov g2) tc tf bl bf of oc ol on ml mx mb kc kh kr ka gl gx gb ls lq lk lg lh vf vs vb nv nw nr nq ne io sp ch wt xf xz xt xb xc) Q := by
  iterate 2 refine x_step rfl ?_
  refine x_if_eq rfl (fun q => absurd q (by decide)) (fun _ => ?_)
  iterate 6 refine x_step rfl ?_
  refine xm_hs (hp' := (cw L xs (rw th (1) (nI (u + 1)) (nI h) jb (nI n) jr jq jQ jz jf jo jn jt jH jA jm jy je jp jk jx jw ju jF jL jO jS jT jU jV jW ja jG ov g2) tc tf bl bf of oc ol on ml mx mb kc kh kr ka gl gx gb ls lq lk lg lh vf vs vb nv nw nr nq ne io sp ch wt xf xz xt xb xc)) (by rw [nI_succ] <;> rfl) ?_
  iterate 3 refine x_step rfl ?_
  refine x_icmp_ne rfl (fun q => absurd (by decide) q) (fun _ => ?_)
  iterate 2 refine x_step rfl ?_
  refine x_ifN_le (h) rfl rfl (fun q => False.elim (by omega)) (fun _ => ?_)
  iterate 6 refine x_step rfl ?_
  refine x_icmpN_ne (u + 1) (2) rfl rfl rfl (fun q => False.elim (by omega)) (fun _ => ?_)
  iterate 3 refine x_step rfl ?_
  refine x_icmp_ne rfl (fun q => absurd (by decide) q) (fun _ => ?_)
  iterate 2 refine x_step rfl ?_
  refine x_callvE rfl (q173 (d := 0) n 21 hn) rfl rfl rfl ?_
  iterate 2 refine x_step rfl ?_
  refine x_callvE rfl (m174 (d := 0) 0) rfl rfl rfl ?_
  refine x_step rfl ?_
  exact hK _
theorem q230_ru {Q : xm_Q} (o1 : Option Value) (u h : Nat) (hh : h = 0) (h139 : h < 200) (hu : u + 1 < 5) (hK : ∀ o1 : Option Value, XG l xm_any 230 d 0 0 177 [some (.ref 103), o1] [] (cw L xs (rw th (1) (nI (u + 1)) (nI h) jb jc jr jq jQ jz jf jo jn jt jH jA jm jy je jp jk jx jw ju jF jL jO jS jT jU jV jW ja jG ov g2) tc tf bl bf of oc ol on ml mx mb kc kh kr ka gl gx gb ls lq lk lg lh vf vs vb nv nw nr nq ne io sp ch wt xf xz xt xb xc) Q) : XG l xm_any 230 d 0 0 97 [some (.ref 103), o1] [] (cw L xs (rw th (1) (nI u) (nI h) jb jc jr jq jQ jz jf jo jn jt jH jA jm jy je jp jk jx jw ju jF jL jO jS jT jU jV jW ja jG ov g2) tc tf bl bf of oc ol on ml mx mb kc kh kr ka gl gx gb ls lq lk lg lh vf vs vb nv nw nr nq ne io sp ch wt xf xz xt xb xc) Q := by
  iterate 2 refine x_step rfl ?_
  refine x_if_eq rfl (fun q => absurd q (by decide)) (fun _ => ?_)
  iterate 6 refine x_step rfl ?_
  refine xm_hs (hp' := (cw L xs (rw th (1) (nI (u + 1)) (nI h) jb jc jr jq jQ jz jf jo jn jt jH jA jm jy je jp jk jx jw ju jF jL jO jS jT jU jV jW ja jG ov g2) tc tf bl bf of oc ol on ml mx mb kc kh kr ka gl gx gb ls lq lk lg lh vf vs vb nv nw nr nq ne io sp ch wt xf xz xt xb xc)) (by rw [nI_succ] <;> rfl) ?_
  iterate 3 refine x_step rfl ?_
  refine x_icmp_ne rfl (fun q => absurd (by decide) q) (fun _ => ?_)
  iterate 2 refine x_step rfl ?_
  refine x_ifN_le (h) rfl rfl (fun _ => ?_) (fun q => False.elim (by omega))
  iterate 5 refine x_step rfl ?_
  refine x_icmpN_ne (u + 1) (5) rfl rfl rfl (fun _ => ?_) (fun q => False.elim (by omega))
  iterate 3 refine x_step rfl ?_
  refine x_icmpN_ne (u + 1) (5) rfl rfl rfl (fun _ => ?_) (fun q => False.elim (by omega))
  exact hK _
theorem q230_tu {Q : xm_Q} (o1 : Option Value) (u h n : Nat) (hh : h = 0) (h139 : h < 200) (hu : u + 1 = 5) (hd : 1 ≤ d) (hn : n < 2 ^ 30) (hK : ∀ o1 : Option Value, XG l xm_any 230 d 0 0 177 [some (.ref 103), o1] [] (cw L xs (rw th (0) (0) (nI h) jb (nI (n + 1)) (upd jr (n % 512) 21) jq jQ jz jf jo jn jt jH jA jm jy je jp jk jx jw ju jF jL jO jS jT jU jV jW ja jG ov g2) tc tf bl bf of oc ol on ml mx mb kc kh kr ka gl gx gb ls lq lk lg lh vf vs vb nv nw nr nq ne io sp ch wt xf xz xt xb xc) Q) : XG l xm_any 230 d 0 0 97 [some (.ref 103), o1] [] (cw L xs (rw th (1) (nI u) (nI h) jb (nI n) jr jq jQ jz jf jo jn jt jH jA jm jy je jp jk jx jw ju jF jL jO jS jT jU jV jW ja jG ov g2) tc tf bl bf of oc ol on ml mx mb kc kh kr ka gl gx gb ls lq lk lg lh vf vs vb nv nw nr nq ne io sp ch wt xf xz xt xb xc) Q := by
  iterate 2 refine x_step rfl ?_
  refine x_if_eq rfl (fun q => absurd q (by decide)) (fun _ => ?_)
  iterate 6 refine x_step rfl ?_
  refine xm_hs (hp' := (cw L xs (rw th (1) (nI (u + 1)) (nI h) jb (nI n) jr jq jQ jz jf jo jn jt jH jA jm jy je jp jk jx jw ju jF jL jO jS jT jU jV jW ja jG ov g2) tc tf bl bf of oc ol on ml mx mb kc kh kr ka gl gx gb ls lq lk lg lh vf vs vb nv nw nr nq ne io sp ch wt xf xz xt xb xc)) (by rw [nI_succ] <;> rfl) ?_
  iterate 3 refine x_step rfl ?_
  refine x_icmp_ne rfl (fun q => absurd (by decide) q) (fun _ => ?_)
  iterate 2 refine x_step rfl ?_
  refine x_ifN_le (h) rfl rfl (fun _ => ?_) (fun q => False.elim (by omega))
  iterate 5 refine x_step rfl ?_
  refine x_icmpN_ne (u + 1) (5) rfl rfl rfl (fun q => False.elim (by omega)) (fun _ => ?_)
  iterate 3 refine x_step rfl ?_
  refine x_icmp_ne rfl (fun q => absurd (by decide) q) (fun _ => ?_)
  iterate 2 refine x_step rfl ?_
  refine x_callvE rfl (q173 (d := 0) n 21 hn) rfl rfl rfl ?_
  iterate 2 refine x_step rfl ?_
  refine x_callvE rfl (m174 (d := 0) 0) rfl rfl rfl ?_
  refine x_step rfl ?_
  exact hK _
theorem q230_o {Q : xm_Q} (o1 : Option Value) (u : Nat) (h0 : ¬ jl = 0) (h1 : ¬ jl = 1) (hu : u + 1 < 5) (hK : ∀ o1 : Option Value, XG l xm_any 230 d 0 0 177 [some (.ref 103), o1] [] (cw L xs (rw th jl (nI (u + 1)) jh jb jc jr jq jQ jz jf jo jn jt jH jA jm jy je jp jk jx jw ju jF jL jO jS jT jU jV jW ja jG ov g2) tc tf bl bf of oc ol on ml mx mb kc kh kr ka gl gx gb ls lq lk lg lh vf vs vb nv nw nr nq ne io sp ch wt xf xz xt xb xc) Q) : XG l xm_any 230 d 0 0 97 [some (.ref 103), o1] [] (cw L xs (rw th jl (nI u) jh jb jc jr jq jQ jz jf jo jn jt jH jA jm jy je jp jk jx jw ju jF jL jO jS jT jU jV jW ja jG ov g2) tc tf bl bf of oc ol on ml mx mb kc kh kr ka gl gx gb ls lq lk lg lh vf vs vb nv nw nr nq ne io sp ch wt xf xz xt xb xc) Q := by
  iterate 2 refine x_step rfl ?_
  refine x_if_eq rfl (fun q => absurd q h0) (fun _ => ?_)
  iterate 6 refine x_step rfl ?_
  refine xm_hs (hp' := (cw L xs (rw th jl (nI (u + 1)) jh jb jc jr jq jQ jz jf jo jn jt jH jA jm jy je jp jk jx jw ju jF jL jO jS jT jU jV jW ja jG ov g2) tc tf bl bf of oc ol on ml mx mb kc kh kr ka gl gx gb ls lq lk lg lh vf vs vb nv nw nr nq ne io sp ch wt xf xz xt xb xc)) (by rw [nI_succ] <;> rfl) ?_
  iterate 3 refine x_step rfl ?_
  refine x_icmp_ne rfl (fun _ => ?_) (fun q => absurd q h1)
  iterate 5 refine x_step rfl ?_
  refine x_icmpN_ne (u + 1) (5) rfl rfl rfl (fun _ => ?_) (fun q => False.elim (by omega))
  iterate 3 refine x_step rfl ?_
  refine x_icmpN_ne (u + 1) (5) rfl rfl rfl (fun _ => ?_) (fun q => False.elim (by omega))
  exact hK _
theorem q230_f {Q : xm_Q} {dd : Nat} {h9 : xm_H} (o1 : Option Value) (u : Nat) (h0 : ¬ jl = 0) (h1 : ¬ jl = 1) (hu : u + 1 = 5) (hdd : dd < d) (hM : XM l 227 dd 0 0 [.ref 103] (cw L xs (rw th jl (nI (u + 1)) jh jb jc jr jq jQ jz jf jo jn jt jH jA jm jy je jp jk jx jw ju jF jL jO jS jT jU jV jW ja jG ov g2) tc tf bl bf of oc ol on ml mx mb kc kh kr ka gl gx gb ls lq lk lg lh vf vs vb nv nw nr nq ne io sp ch wt xf xz xt xb xc) (xm_is none h9)) (hK : ∀ o1 : Option Value, XG l xm_any 230 d 0 0 177 [some (.ref 103), o1] [] h9 Q) : XG l xm_any 230 d 0 0 97 [some (.ref 103), o1] [] (cw L xs (rw th jl (nI u) jh jb jc jr jq jQ jz jf jo jn jt jH jA jm jy je jp jk jx jw ju jF jL jO jS jT jU jV jW ja jG ov g2) tc tf bl bf of oc ol on ml mx mb kc kh kr ka gl gx gb ls lq lk lg lh vf vs vb nv nw nr nq ne io sp ch wt xf xz xt xb xc) Q := by
  iterate 2 refine x_step rfl ?_
  refine x_if_eq rfl (fun q => absurd q h0) (fun _ => ?_)
  iterate 6 refine x_step rfl ?_
  refine xm_hs (hp' := (cw L xs (rw th jl (nI (u + 1)) jh jb jc jr jq jQ jz jf jo jn jt jH jA jm jy je jp jk jx jw ju jF jL jO jS jT jU jV jW ja jG ov g2) tc tf bl bf of oc ol on ml mx mb kc kh kr ka gl gx gb ls lq lk lg lh vf vs vb nv nw nr nq ne io sp ch wt xf xz xt xb xc)) (by rw [nI_succ] <;> rfl) ?_
  iterate 3 refine x_step rfl ?_
  refine x_icmp_ne rfl (fun _ => ?_) (fun q => absurd q h1)
  iterate 5 refine x_step rfl ?_
  refine x_icmpN_ne (u + 1) (5) rfl rfl rfl (fun q => False.elim (by omega)) (fun _ => ?_)
  iterate 3 refine x_step rfl ?_
  refine x_icmp_ne rfl (fun _ => ?_) (fun q => absurd q h1)
  iterate 3 refine x_step rfl ?_
  refine x_icmpN_ne (u + 1) (5) rfl rfl rfl (fun q => False.elim (by omega)) (fun _ => ?_)
  refine x_step rfl ?_
  refine x_callvE rfl (hM) rfl rfl rfl ?_
  exact hK _
theorem q230_e {h9 : xm_H} {dd : Nat} (o1 : Option Value) (hdd : dd < d) (hM : XM l 228 dd 0 0 [.ref 103] (cw L xs (rw th jl js jh jb jc jr jq jQ jz jf jo jn jt jH jA jm jy je jp jk jx jw ju jF jL jO jS jT jU jV jW ja jG ov g2) tc tf bl bf of oc ol on ml mx mb kc kh kr ka gl gx gb ls lq lk lg lh vf vs vb nv nw nr nq ne io sp ch wt xf xz xt xb xc) (xm_is none h9)) : XW l 230 d 0 0 177 [some (.ref 103), o1] [] (cw L xs (rw th jl js jh jb jc jr jq jQ jz jf jo jn jt jH jA jm jy je jp jk jx jw ju jF jL jO jS jT jU jV jW ja jG ov g2) tc tf bl bf of oc ol on ml mx mb kc kh kr ka gl gx gb ls lq lk lg lh vf vs vb nv nw nr nq ne io sp ch wt xf xz xt xb xc) (xm_is none h9) := by
  refine x_step rfl ?_
  refine x_callvE rfl (hM) rfl rfl rfl ?_
  exact x_ret rfl rfl ⟨rfl, rfl⟩
theorem q229_of {Q : Option Value → xm_H → Prop} (n : Nat) (h1 : 1 ≤ n) (h2 : n ≤ 60) (hK : XW l 229 d 0 0 27 [some (.ref 103), some (.int (nI n)), some (.int jc), some (.int (nI 0))] [] (cw L xs (rw (0) jl js jh jb jc jr jq jQ jz jf jo jn jt jH jA jm jy je jp jk jx jw ju jF jL jO jS jT jU jV jW ja jG ov g2) tc tf bl bf of oc ol on ml mx mb kc kh kr ka gl gx gb ls lq lk lg lh vf vs vb nv nw nr nq ne io sp ch wt xf xz xt xb xc) Q) : XM l 229 d 0 0 [.ref 103, .int (nI n)] (cw L xs (rw th jl js jh jb jc jr jq jQ jz jf jo jn jt jH jA jm jy je jp jk jx jw ju jF jL jO jS jT jU jV jW ja jG ov g2) tc tf bl bf of oc ol on ml mx mb kc kh kr ka gl gx gb ls lq lk lg lh vf vs vb nv nw nr nq ne io sp ch wt xf xz xt xb xc) Q := by
  refine XE (pl := [some (.ref 103), some (.int (nI n)), none, none]) xg229 rfl ?_
  iterate 3 refine x_step rfl ?_
  refine x_icmpN_lt (n) (1) rfl rfl rfl (fun q => False.elim (by omega)) (fun _ => ?_)
  iterate 2 refine x_step rfl ?_
  refine x_icmpN_le (n) (60) rfl rfl rfl (fun _ => ?_) (fun q => False.elim (by omega))
  iterate 7 refine x_step rfl ?_
  refine xm_ls (pl' := [some (.ref 103), some (.int (nI n)), some (.int jc), some (.int (nI 0))]) rfl ?_
  exact hK
theorem q229_step {Q : Option Value → xm_H → Prop} {h9 : xm_H} {dd : Nat} (n i : Nat) (c0 : Int32) (hi : i < n) (h2 : n ≤ 60) (hdd : dd < d) (hM : XM l 230 dd 0 0 [.ref 103] (cw L xs (rw (0) jl js jh jb jc jr jq jQ jz jf jo jn jt jH jA jm jy je jp jk jx jw ju jF jL jO jS jT jU jV jW ja jG ov g2) tc tf bl bf of oc ol on ml mx mb kc kh kr ka gl gx gb ls lq lk lg lh vf vs vb nv nw nr nq ne io sp ch wt xf xz xt xb xc) (xm_is none h9)) (hK : XW l 229 d 0 0 27 [some (.ref 103), some (.int (nI n)), some (.int c0), some (.int (nI (i + 1)))] [] h9 Q) : XW l 229 d 0 0 27 [some (.ref 103), some (.int (nI n)), some (.int c0), some (.int (nI i))] [] (cw L xs (rw (0) jl js jh jb jc jr jq jQ jz jf jo jn jt jH jA jm jy je jp jk jx jw ju jF jL jO jS jT jU jV jW ja jG ov g2) tc tf bl bf of oc ol on ml mx mb kc kh kr ka gl gx gb ls lq lk lg lh vf vs vb nv nw nr nq ne io sp ch wt xf xz xt xb xc) Q := by
  iterate 2 refine x_step rfl ?_
  refine x_icmpN_ge (i) (n) rfl rfl rfl (fun q => False.elim (by omega)) (fun _ => ?_)
  iterate 2 refine x_step rfl ?_
  refine x_if_ne rfl (fun q => absurd (by decide) q) (fun _ => ?_)
  refine x_step rfl ?_
  refine x_callvE rfl (hM) rfl rfl rfl ?_
  iterate 2 refine x_step rfl ?_
  refine xm_ls (pl' := [some (.ref 103), some (.int (nI n)), some (.int c0), some (.int (nI (i + 1)))]) (by rw [nI_succ] <;> rfl) ?_
  exact hK
theorem q229_end {Q : Option Value → xm_H → Prop} (n : Nat) (c0 : Int32) (h2 : n ≤ 60) (hQ : Q (some (.int (jc - c0))) (cw L xs (rw (0) jl js jh jb jc jr jq jQ jz jf jo jn jt jH jA jm jy je jp jk jx jw ju jF jL jO jS jT jU jV jW ja jG ov g2) tc tf bl bf of oc ol on ml mx mb kc kh kr ka gl gx gb ls lq lk lg lh vf vs vb nv nw nr nq ne io sp ch wt xf xz xt xb xc)) : XW l 229 d 0 0 27 [some (.ref 103), some (.int (nI n)), some (.int c0), some (.int (nI n))] [] (cw L xs (rw (0) jl js jh jb jc jr jq jQ jz jf jo jn jt jH jA jm jy je jp jk jx jw ju jF jL jO jS jT jU jV jW ja jG ov g2) tc tf bl bf of oc ol on ml mx mb kc kh kr ka gl gx gb ls lq lk lg lh vf vs vb nv nw nr nq ne io sp ch wt xf xz xt xb xc) Q := by
  iterate 2 refine x_step rfl ?_
  refine x_icmpN_ge (n) (n) rfl rfl rfl (fun _ => ?_) (fun q => False.elim (by omega))
  iterate 4 refine x_step rfl ?_
  exact x_iret rfl rfl rfl hQ
theorem q231y {Q : xm_H → Prop} {dd : Nat} {h0 : xm_H} {fs : List Value} (hd : 3 ≤ d) (h : je = 0) (hdd : dd < d) (hM : XM l 180 dd 0 0 [.ref 103, .int 129, .int 13] (cw L xs (rw (0) jl js jh jb jc jr jq jQ jz jf jo jn jt jH jA (nI (xwho).length) (xrbd jy (xwho)) (1) (0) jk jx jw ju jF jL jO jS jT jU jV jW ja jG ov g2) tc tf bl bf of oc ol on ml mx mb kc kh kr ka gl gx gb ls lq lk lg lh vf vs vb nv nw nr nq ne io sp ch wt xf xz xt xb xc) (xm_is none h0)) (e0 : h0[103]? = some (xO 12 fs)) (hS : XM l 228 dd 0 0 [.ref 103] h0 (xN Q)) : XM l 231 d 0 0 [.ref 103, .int 1] (cw L xs (rw th jl js jh jb jc jr jq jQ jz jf jo jn jt jH jA jm jy je jp jk jx jw ju jF jL jO jS jT jU jV jW ja jG ov g2) tc tf bl bf of oc ol on ml mx mb kc kh kr ka gl gx gb ls lq lk lg lh vf vs vb nv nw nr nq ne io sp ch wt xf xz xt xb xc) (xN Q) := by
  refine XE (pl := [some (.ref 103), some (.int 1)]) xg231 rfl ?_
  iterate 4 refine x_step rfl ?_
  refine x_icmp_ne rfl (fun _ => ?_) (fun q => absurd q (by rw [h]; decide))
  iterate 4 refine x_step rfl ?_
  refine x_if_eq rfl (fun _ => ?_) (fun q => absurd (by decide) q)
  iterate 2 refine x_step rfl ?_
  refine x_putf rfl rfl (Nat.le_of_ble_eq_true rfl) (by decide) rfl rfl ?_
  iterate 2 refine x_step rfl ?_
  refine x_putf rfl rfl (Nat.le_of_ble_eq_true rfl) (by decide) rfl rfl ?_
  refine x_step rfl ?_
  refine x_if_eq rfl (fun q => absurd q (by decide)) (fun _ => ?_)
  iterate 3 refine x_step rfl ?_
  refine xm_hs (hp' := (cw L xs (rw (0) jl js jh jb jc jr jq jQ jz jf jo jn jt jH jA (nI ([] : List Int32).length) (xrbd jy ([] : List Int32)) (1) (0) jk jx jw ju jF jL jO jS jT jU jV jW ja jG ov g2) tc tf bl bf of oc ol on ml mx mb kc kh kr ka gl gx gb ls lq lk lg lh vf vs vb nv nw nr nq ne io sp ch wt xf xz xt xb xc)) (by rw [xrbd_nil] <;> rfl) ?_
  refine x_step rfl ?_
  refine x_callvE rfl (q206 (d := 2) (by omega)) rfl rfl rfl ?_
  iterate 3 refine x_step rfl ?_
  refine x_callvE rfl (hM) rfl rfl rfl ?_
  refine x_step rfl ?_
  refine x_callvQ rfl hS rfl rfl e0 (fun h9 hq => ?_)
  exact x_ret rfl rfl ⟨rfl, hq⟩
theorem q231n {Q : xm_H → Prop} {dd : Nat} (h : je = 1) (hdd : dd < d) (hS : XM l 228 dd 0 0 [.ref 103] (cw L xs (rw (0) jl js jh jb jc jr jq jQ jz jf jo jn jt jH jA jm jy (0) (0) jk jx jw ju jF jL jO jS jT jU jV jW ja jG ov g2) tc tf bl bf of oc ol on ml mx mb kc kh kr ka gl gx gb ls lq lk lg lh vf vs vb nv nw nr nq ne io sp ch wt xf xz xt xb xc) (xN Q)) : XM l 231 d 0 0 [.ref 103, .int 0] (cw L xs (rw th jl js jh jb jc jr jq jQ jz jf jo jn jt jH jA jm jy je jp jk jx jw ju jF jL jO jS jT jU jV jW ja jG ov g2) tc tf bl bf of oc ol on ml mx mb kc kh kr ka gl gx gb ls lq lk lg lh vf vs vb nv nw nr nq ne io sp ch wt xf xz xt xb xc) (xN Q) := by
  refine XE (pl := [some (.ref 103), some (.int 0)]) xg231 rfl ?_
  iterate 4 refine x_step rfl ?_
  refine x_icmp_ne rfl (fun _ => ?_) (fun q => absurd q (by rw [h]; decide))
  iterate 4 refine x_step rfl ?_
  refine x_if_eq rfl (fun _ => ?_) (fun q => absurd (by decide) q)
  iterate 2 refine x_step rfl ?_
  refine x_putf rfl rfl (Nat.le_of_ble_eq_true rfl) (by decide) rfl rfl ?_
  iterate 2 refine x_step rfl ?_
  refine x_putf rfl rfl (Nat.le_of_ble_eq_true rfl) (by decide) rfl rfl ?_
  refine x_step rfl ?_
  refine x_if_eq rfl (fun _ => ?_) (fun q => absurd (by decide) q)
  refine x_step rfl ?_
  refine x_callvQ rfl (hS) rfl rfl rfl (fun h9 hq => ?_)
  exact x_ret rfl rfl ⟨rfl, hq⟩
theorem q233 {Q : xm_H → Prop} {dd : Nat} {h0 : xm_H} {fs : List Value} {b : Bool} (hdd : dd < d) (hM : XM l 212 dd 0 0 [.ref 103, .int 5] (cw L xs (rw (0) jl js jh jb jc jr jq jQ jz jf jo jn jt jH jA jm jy je jp jk jx jw ju jF jL jO jS jT jU jV jW ja jG ov g2) tc tf bl bf of oc ol on ml mx mb kc kh kr ka gl gx gb ls lq lk lg lh vf vs vb nv nw nr nq ne io sp ch wt xf xz xt xb xc) (xm_is (some (.int (bI b))) h0)) (e0 : h0[103]? = some (xO 12 fs)) (hS : XM l 228 dd 0 0 [.ref 103] h0 (xN Q)) : XM l 233 d 0 0 [.ref 103] (cw L xs (rw th jl js jh jb jc jr jq jQ jz jf jo jn jt jH jA jm jy je jp jk jx jw ju jF jL jO jS jT jU jV jW ja jG ov g2) tc tf bl bf of oc ol on ml mx mb kc kh kr ka gl gx gb ls lq lk lg lh vf vs vb nv nw nr nq ne io sp ch wt xf xz xt xb xc) (xR (bI b) Q) := by
  refine XE (pl := [some (.ref 103), none]) xg233 rfl ?_
  iterate 5 refine x_step rfl ?_
  refine x_callvE rfl (hM) rfl rfl rfl ?_
  iterate 2 refine x_step rfl ?_
  refine x_callvQ rfl hS rfl rfl e0 (fun h9 hq => ?_)
  refine x_step rfl ?_
  exact x_iret rfl rfl (bI_n _) ⟨rfl, hq⟩
end ER16
