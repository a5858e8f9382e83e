section ER1
variable {l : Launch} {d L : Nat} {xs : Nat → Int32} {tc : Int32} {tf : (Nat → Int32)} {bl : Int32} {bf : (Nat → Int32)} {of : Int32} {oc : Int32} {ol : Int32} {on : Int32} {ml : (Nat → Int32)} {mx : (Nat → Int32)} {mb : (Nat → Nat → Int32)} {kc : Int32} {kh : (Nat → Nat)} {kr : (Nat → Nat → Int32)} {ka : (Nat → Int32)} {gl : Int32} {gx : Int32} {gb : (Nat → Int32)} {ls : Int32} {lq : Int32} {lk : Int32} {lg : Int32} {lh : Int32} {vf : (Nat → Int32)} {vs : (Nat → Int32)} {vb : (Nat → Nat → Int32)} {nv : (Nat → Int32)} {nw : (Nat → Nat → Int32)} {nr : (Nat → Int32)} {nq : (Nat → Nat → Int32)} {ne : (Nat → Int32)} {io : Int32} {sp : Int32} {ch : Int32} {wt : Int32} {xf : (Nat → Int32)} {xz : (Nat → Int32)} {xt : (Nat → Int32)} {xb : (Nat → Int32)} {xc : Int32} {th : Int32} {jl : Int32} {js : Int32} {jh : Int32} {jb : (Nat → Int32)} {jc : Int32} {jr : (Nat → Int32)} {jq : Int32} {jQ : (Nat → Int32)} {jz : (Nat → Int32)} {jf : (Nat → Int32)} {jo : Int32} {jn : Int32} {jt : Int32} {jH : (Nat → Int32)} {jA : (Nat → Int32)} {jm : Int32} {jy : (Nat → Int32)} {je : Int32} {jp : Int32} {jk : Int32} {jx : Int32} {jw : Int32} {ju : Int32} {jF : (Nat → Int32)} {jL : (Nat → Int32)} {jO : (Nat → Int32)} {jS : (Nat → Int32)} {jT : (Nat → Int32)} {jU : (Nat → Int32)} {jV : (Nat → Int32)} {jW : (Nat → Int32)} {ja : Int32} {jG : (Nat → Int32)} {ov : (Nat → Value)} {g2 : xm_H}
variable {cr cv sz : Nat → Nat} {rp vp : Nat → Nat → Nat} {β : Nat → Nat} {e : Nat}
def xrbd (f : Nat → Int32) (B : List Int32) : Nat → Int32 := fun j => if j < B.length ∧ j < 500 then B.getD j 0 else f j
theorem xrbd_nil (f : Nat → Int32) : xrbd f [] = f := by
  funext j
  unfold xrbd
  rw [if_neg (fun h => absurd h.1 (Nat.not_lt_zero j))]
theorem xrbd_snoc (f : Nat → Int32) (B : List Int32) (x : Int32) : xrput B.length (xrbd f B) x = xrbd f (B ++ [x]) := by
  unfold xrput
  funext j
  by_cases hb : B.length < 500
  · rw [if_pos hb]
    by_cases hj : j = B.length
    · subst hj
      rw [pk_us]
      unfold xrbd
      rw [if_pos ⟨by simp, hb⟩]
      simp
    · rw [pk_un hj]
      unfold xrbd
      by_cases h1 : j < B.length ∧ j < 500
      · rw [if_pos h1, if_pos ⟨by simp; omega, h1.2⟩, List.getD_eq_getElem?_getD, List.getD_eq_getElem?_getD, List.getElem?_append_left h1.1]
      · rw [if_neg h1, if_neg (fun q => h1 ⟨by have := q.1; simp at this; omega, q.2⟩)]
  · rw [if_neg hb]
    unfold xrbd
    by_cases h1 : j < B.length ∧ j < 500
    · rw [if_pos h1, if_pos ⟨by simp; omega, h1.2⟩, List.getD_eq_getElem?_getD, List.getD_eq_getElem?_getD, List.getElem?_append_left h1.1]
    · rw [if_neg h1, if_neg (fun q => h1 ⟨by omega, q.2⟩)]
/-- put -/
theorem q179 (B : List Int32) (x : Int32) (hB : B.length < 2 ^ 30) : XM l 179 d 0 0 [.ref 103, .int x] (cw L xs (rw th jl js jh jb jc jr jq jQ jz jf jo jn jt jH jA (nI (B).length) (xrbd jy (B)) je jp jk jx jw ju jF jL jO jS jT jU jV jW ja jG ov g2) tc tf bl bf of oc ol on ml mx mb kc kh kr ka gl gx gb ls lq lk lg lh vf vs vb nv nw nr nq ne io sp ch wt xf xz xt xb xc) (xm_is none (cw L xs (rw th jl js jh jb jc jr jq jQ jz jf jo jn jt jH jA (nI (B ++ [x]).length) (xrbd jy (B ++ [x])) je jp jk jx jw ju jF jL jO jS jT jU jV jW ja jG ov g2) tc tf bl bf of oc ol on ml mx mb kc kh kr ka gl gx gb ls lq lk lg lh vf vs vb nv nw nr nq ne io sp ch wt xf xz xt xb xc)) := by
  rw [← xrbd_snoc, List.length_append, List.length_singleton]
  exact m179 B.length x hB
/-- FabLinkModel.putHead -/
theorem q178 (B : List Int32) (x y : Int32) (hd : 1 ≤ d) (hB : B.length < 2 ^ 29) : XM l 178 d 0 0 [.ref 103, .int x, .int y] (cw L xs (rw th jl js jh jb jc jr jq jQ jz jf jo jn jt jH jA (nI (B).length) (xrbd jy (B)) je jp jk jx jw ju jF jL jO jS jT jU jV jW ja jG ov g2) tc tf bl bf of oc ol on ml mx mb kc kh kr ka gl gx gb ls lq lk lg lh vf vs vb nv nw nr nq ne io sp ch wt xf xz xt xb xc) (xm_is none (cw L xs (rw th jl js jh jb jc jr jq jQ jz jf jo jn jt jH jA (nI (B ++ [4 * x + 1, y]).length) (xrbd jy (B ++ [4 * x + 1, y])) je jp jk jx jw ju jF jL jO jS jT jU jV jW ja jG ov g2) tc tf bl bf of oc ol on ml mx mb kc kh kr ka gl gx gb ls lq lk lg lh vf vs vb nv nw nr nq ne io sp ch wt xf xz xt xb xc)) := by
  refine XE (pl := [some (.ref 103), some (.int x), some (.int y)]) xg178 rfl ?_
  iterate 6 refine x_step rfl ?_
  refine x_callvE rfl (q179 (d := 0) B (4 * x + 1) (by omega)) rfl rfl rfl ?_
  iterate 2 refine x_step rfl ?_
  refine x_callvE rfl (q179 (d := 0) (B ++ [4 * x + 1]) y (by (try simp only [List.length_append, List.length_cons, List.length_nil]); omega)) rfl rfl rfl ?_
  exact x_ret rfl rfl ⟨rfl, by rw [List.append_assoc]; rfl⟩
/-- FabLinkModel.putNumber -/
theorem q209 (B : List Int32) (x : Int32) (hd : 2 ≤ d) (hB : B.length < 2 ^ 29) : XM l 209 d 0 0 [.ref 103, .int x] (cw L xs (rw th jl js jh jb jc jr jq jQ jz jf jo jn jt jH jA (nI (B).length) (xrbd jy (B)) je jp jk jx jw ju jF jL jO jS jT jU jV jW ja jG ov g2) tc tf bl bf of oc ol on ml mx mb kc kh kr ka gl gx gb ls lq lk lg lh vf vs vb nv nw nr nq ne io sp ch wt xf xz xt xb xc) (xm_is none (cw L xs (rw th jl js jh jb jc jr jq jQ jz jf jo jn jt jH jA (nI (B ++ [165, 1, x]).length) (xrbd jy (B ++ [165, 1, x])) je jp jk jx jw ju jF jL jO jS jT jU jV jW ja jG ov g2) tc tf bl bf of oc ol on ml mx mb kc kh kr ka gl gx gb ls lq lk lg lh vf vs vb nv nw nr nq ne io sp ch wt xf xz xt xb xc)) := by
  refine XE (pl := [some (.ref 103), some (.int x)]) xg209 rfl ?_
  iterate 3 refine x_step rfl ?_
  refine x_callvE rfl (q178 (d := 1) B 41 1 (by omega) (by omega)) rfl rfl rfl ?_
  iterate 2 refine x_step rfl ?_
  refine x_callvE rfl (q179 (d := 0) (B ++ [165, 1]) x (by (try simp only [List.length_append, List.length_cons, List.length_nil]); omega)) rfl rfl rfl ?_
  exact x_ret rfl rfl ⟨rfl, by rw [List.append_assoc]; rfl⟩
/-- FabLinkModel.putBinary -/
theorem q210 (B : List Int32) (x : Int32) (hd : 2 ≤ d) (hB : B.length < 2 ^ 29) : XM l 210 d 0 0 [.ref 103, .int x] (cw L xs (rw th jl js jh jb jc jr jq jQ jz jf jo jn jt jH jA (nI (B).length) (xrbd jy (B)) je jp jk jx jw ju jF jL jO jS jT jU jV jW ja jG ov g2) tc tf bl bf of oc ol on ml mx mb kc kh kr ka gl gx gb ls lq lk lg lh vf vs vb nv nw nr nq ne io sp ch wt xf xz xt xb xc) (xm_is none (cw L xs (rw th jl js jh jb jc jr jq jQ jz jf jo jn jt jH jA (nI (B ++ [33, 1, x]).length) (xrbd jy (B ++ [33, 1, x])) je jp jk jx jw ju jF jL jO jS jT jU jV jW ja jG ov g2) tc tf bl bf of oc ol on ml mx mb kc kh kr ka gl gx gb ls lq lk lg lh vf vs vb nv nw nr nq ne io sp ch wt xf xz xt xb xc)) := by
  refine XE (pl := [some (.ref 103), some (.int x)]) xg210 rfl ?_
  iterate 3 refine x_step rfl ?_
  refine x_callvE rfl (q178 (d := 1) B 8 1 (by omega) (by omega)) rfl rfl rfl ?_
  iterate 2 refine x_step rfl ?_
  refine x_callvE rfl (q179 (d := 0) (B ++ [33, 1]) x (by (try simp only [List.length_append, List.length_cons, List.length_nil]); omega)) rfl rfl rfl ?_
  exact x_ret rfl rfl ⟨rfl, by rw [List.append_assoc]; rfl⟩
/-- FabLinkModel.putWho -/
theorem q206 (hd : 2 ≤ d) : XM l 206 d 0 0 [.ref 103] (cw L xs (rw th jl js jh jb jc jr jq jQ jz jf jo jn jt jH jA (nI ([] : List Int32).length) (xrbd jy ([] : List Int32)) je jp jk jx jw ju jF jL jO jS jT jU jV jW ja jG ov g2) tc tf bl bf of oc ol on ml mx mb kc kh kr ka gl gx gb ls lq lk lg lh vf vs vb nv nw nr nq ne io sp ch wt xf xz xt xb xc) (xm_is none (cw L xs (rw th jl js jh jb jc jr jq jQ jz jf jo jn jt jH jA (nI (xwho).length) (xrbd jy (xwho)) je jp jk jx jw ju jF jL jO jS jT jU jV jW ja jG ov g2) tc tf bl bf of oc ol on ml mx mb kc kh kr ka gl gx gb ls lq lk lg lh vf vs vb nv nw nr nq ne io sp ch wt xf xz xt xb xc)) := by
  refine XE (pl := [some (.ref 103)]) xg206 rfl ?_
  iterate 3 refine x_step rfl ?_
  refine x_callvE rfl (q178 (d := 1) [] 0 2 (by omega) (by decide)) rfl rfl rfl ?_
  iterate 3 refine x_step rfl ?_
  refine x_callvE rfl (q178 (d := 1) [1, 2] 16 2 (by omega) (by decide)) rfl rfl rfl ?_
  iterate 2 refine x_step rfl ?_
  refine x_callvE rfl (q179 (d := 0) [1, 2, 65, 2] 70 (by decide)) rfl rfl rfl ?_
  iterate 2 refine x_step rfl ?_
  refine x_callvE rfl (q179 (d := 0) [1, 2, 65, 2, 70] 76 (by decide)) rfl rfl rfl ?_
  iterate 3 refine x_step rfl ?_
  refine x_callvE rfl (q178 (d := 1) [1, 2, 65, 2, 70, 76] 16 1 (by omega) (by decide)) rfl rfl rfl ?_
  iterate 2 refine x_step rfl ?_
  refine x_callvE rfl (q179 (d := 0) [1, 2, 65, 2, 70, 76, 65, 1] 49 (by decide)) rfl rfl rfl ?_
  exact x_ret rfl rfl ⟨rfl, rfl⟩
/-- what a send does, whether there is room or not -/
def xrq (q : Nat) : Nat := if q = 8 then 8 else q + 1
def xro (q : Nat) (jo : Int32) : Int32 := if q = 8 then jo + 1 else jo
def xrQ (q : Nat) (jQ y : Nat → Int32) (n : Nat) (sb fn s0 s1 s2 s3 : Int32) : Nat → Int32 := if q = 8 then jQ else xrcp (xrhd jQ (130 * q) sb fn s0 s1 s2 s3) y (130 * q + 10) n
def xrz (q : Nat) (jz : Nat → Int32) (n : Nat) : Nat → Int32 := if q = 8 then jz else upd jz q (nI (10 + n))
def xrf (q : Nat) (jf : Nat → Int32) : Nat → Int32 := if q = 8 then jf else upd jf q 0
theorem q181 (B : List Int32) (q : Nat) (sb fn s0 s1 s2 s3 : Int32) (hq : q ≤ 8) (hB : B.length ≤ 120) : XM l 181 d 0 0 [.ref 103, .int sb, .int fn, .int s0, .int s1, .int s2, .int s3] (cw L xs (rw th jl js jh jb jc jr (nI q) jQ jz jf jo jn jt jH jA (nI (B).length) (xrbd jy (B)) je jp jk jx jw ju jF jL jO jS jT jU jV jW ja jG ov g2) tc tf bl bf of oc ol on ml mx mb kc kh kr ka gl gx gb ls lq lk lg lh vf vs vb nv nw nr nq ne io sp ch wt xf xz xt xb xc) (xm_is none (cw L xs (rw th jl js jh jb jc jr (nI (xrq q)) (xrQ q jQ (xrbd jy (B)) (B).length (sb) (fn) (s0) (s1) (s2) (s3)) (xrz q jz (B).length) (xrf q jf) (xro q jo) jn jt jH jA (nI (B).length) (xrbd jy (B)) je jp jk jx jw ju jF jL jO jS jT jU jV jW ja jG ov g2) tc tf bl bf of oc ol on ml mx mb kc kh kr ka gl gx gb ls lq lk lg lh vf vs vb nv nw nr nq ne io sp ch wt xf xz xt xb xc)) := by
  by_cases h : q = 8
  · subst h
    exact m181l sb fn s0 s1 s2 s3
  · rw [xrq, xro, xrQ, xrz, xrf, if_neg h, if_neg h, if_neg h, if_neg h, if_neg h]
    exact m181 q B.length sb fn s0 s1 s2 s3 (by omega) hB
/-- FabLinkModel.tell -/
theorem q180 (B : List Int32) (q n : Nat) (sb fn : Int32) (hd : 1 ≤ d) (hq : q ≤ 8) (hB : B.length ≤ 120) (hn : n < 65536) : XM l 180 d 0 0 [.ref 103, .int sb, .int fn] (cw L xs (rw th jl js jh jb jc jr (nI q) jQ jz jf jo (nI n) jt jH jA (nI (B).length) (xrbd jy (B)) je jp jk jx jw ju jF jL jO jS jT jU jV jW ja jG ov g2) tc tf bl bf of oc ol on ml mx mb kc kh kr ka gl gx gb ls lq lk lg lh vf vs vb nv nw nr nq ne io sp ch wt xf xz xt xb xc) (xm_is none (cw L xs (rw th jl js jh jb jc jr (nI (xrq q)) (xrQ q jQ (xrbd jy (B)) (B).length (sb) (fn) (0) (0) (nI ((n + 1) % 65536 / 256)) (nI ((n + 1) % 65536 % 256))) (xrz q jz (B).length) (xrf q jf) (xro q jo) (nI ((n + 1) % 65536)) jt jH jA (nI (B).length) (xrbd jy (B)) je jp jk jx jw ju jF jL jO jS jT jU jV jW ja jG ov g2) tc tf bl bf of oc ol on ml mx mb kc kh kr ka gl gx gb ls lq lk lg lh vf vs vb nv nw nr nq ne io sp ch wt xf xz xt xb xc)) := by
  refine XE (pl := [some (.ref 103), some (.int sb), some (.int fn)]) xg180 rfl ?_
  iterate 5 refine x_step rfl ?_
  refine x_ldc rfl (by decide) ?_
  refine x_iremN (n + 1) (65536) rfl (nI_1 n) rfl ?_
  refine x_step rfl ?_
  refine xm_hs (hp' := (cw L xs (rw th jl js jh jb jc jr (nI q) jQ jz jf jo (nI ((n + 1) % 65536)) jt jH jA (nI (B).length) (xrbd jy (B)) je jp jk jx jw ju jF jL jO jS jT jU jV jW ja jG ov g2) tc tf bl bf of oc ol on ml mx mb kc kh kr ka gl gx gb ls lq lk lg lh vf vs vb nv nw nr nq ne io sp ch wt xf xz xt xb xc)) rfl ?_
  iterate 3 refine x_step rfl ?_
  refine x_icmpN_le (B.length) (120) rfl rfl rfl (fun _ => ?_) (fun q => False.elim (by omega))
  iterate 8 refine x_step rfl ?_
  refine x_idivN ((n + 1) % 65536) (256) rfl rfl rfl ?_
  iterate 3 refine x_step rfl ?_
  refine x_iremN ((n + 1) % 65536) (256) rfl rfl rfl ?_
  refine x_callvE rfl (q181 (d := 0) B q sb fn 0 0 (nI ((n + 1) % 65536 / 256)) (nI ((n + 1) % 65536 % 256)) hq hB) rfl rfl rfl ?_
  exact x_ret rfl rfl ⟨rfl, rfl⟩
/-- FabLinkModel.complain -/
theorem q177a (q n : Nat) (fn : Int32) (hd : 2 ≤ d) (hq : q ≤ 8) (hn : n < 65536) : XM l 177 d 0 0 [.ref 103, .int fn, .int (-1)] (cw L xs (rw th jl js jh jb jc jr (nI q) jQ jz jf jo (nI n) jt jH jA jm jy je jp jk jx jw ju jF jL jO jS jT jU jV jW ja jG ov g2) tc tf bl bf of oc ol on ml mx mb kc kh kr ka gl gx gb ls lq lk lg lh vf vs vb nv nw nr nq ne io sp ch wt xf xz xt xb xc) (xm_is none (cw L xs (rw th jl js jh jb jc jr (nI (xrq q)) (xrQ q jQ (xrbd jy ([33, 10, jb (1), jb (2), jb (3), jb (4), jb (5), jb (6), jb (7), jb (8), jb (9), jb (10)])) ([33, 10, jb (1), jb (2), jb (3), jb (4), jb (5), jb (6), jb (7), jb (8), jb (9), jb (10)]).length (9) (fn) (0) (0) (nI ((n + 1) % 65536 / 256)) (nI ((n + 1) % 65536 % 256))) (xrz q jz ([33, 10, jb (1), jb (2), jb (3), jb (4), jb (5), jb (6), jb (7), jb (8), jb (9), jb (10)]).length) (xrf q jf) (xro q jo) (nI ((n + 1) % 65536)) jt jH jA (nI ([33, 10, jb (1), jb (2), jb (3), jb (4), jb (5), jb (6), jb (7), jb (8), jb (9), jb (10)]).length) (xrbd jy ([33, 10, jb (1), jb (2), jb (3), jb (4), jb (5), jb (6), jb (7), jb (8), jb (9), jb (10)])) je jp jk jx jw ju jF jL jO jS jT jU jV jW ja jG ov g2) tc tf bl bf of oc ol on ml mx mb kc kh kr ka gl gx gb ls lq lk lg lh vf vs vb nv nw nr nq ne io sp ch wt xf xz xt xb xc)) := by
  refine XE (pl := [some (.ref 103), some (.int fn), some (.int (-1)), none]) xg177 rfl ?_
  iterate 3 refine x_step rfl ?_
  refine xm_hs (hp' := (cw L xs (rw th jl js jh jb jc jr (nI q) jQ jz jf jo (nI n) jt jH jA (nI ([] : List Int32).length) (xrbd jy ([] : List Int32)) je jp jk jx jw ju jF jL jO jS jT jU jV jW ja jG ov g2) tc tf bl bf of oc ol on ml mx mb kc kh kr ka gl gx gb ls lq lk lg lh vf vs vb nv nw nr nq ne io sp ch wt xf xz xt xb xc)) (by rw [xrbd_nil] <;> rfl) ?_
  iterate 3 refine x_step rfl ?_
  refine x_callvE rfl (q178 (d := 1) [] 8 10 (by omega) (by decide)) rfl rfl rfl ?_
  iterate 2 refine x_step rfl ?_
  refine xm_ls (pl' := [some (.ref 103), some (.int fn), some (.int (-1)), some (.int 0)]) rfl ?_
  iterate 2 refine x_step rfl ?_
  refine x_icmp_ge rfl (fun q => absurd q (by decide)) (fun _ => ?_)
  iterate 2 refine x_step rfl ?_
  refine x_if_ge rfl (fun q => absurd q (by decide)) (fun _ => ?_)
  iterate 5 refine x_step rfl ?_
  refine x_ialdN (1) rfl rfl rfl (by omega) ?_
  refine x_step rfl ?_
  refine x_callvE rfl (q179 (d := 0) ([33, 10]) (jb (1)) (by simp only [List.length_cons, List.length_nil]; decide)) rfl rfl rfl ?_
  iterate 2 refine x_step rfl ?_
  refine xm_ls (pl' := [some (.ref 103), some (.int fn), some (.int (-1)), some (.int 1)]) rfl ?_
  iterate 2 refine x_step rfl ?_
  refine x_icmp_ge rfl (fun q => absurd q (by decide)) (fun _ => ?_)
  iterate 2 refine x_step rfl ?_
  refine x_if_ge rfl (fun q => absurd q (by decide)) (fun _ => ?_)
  iterate 5 refine x_step rfl ?_
  refine x_ialdN (2) rfl rfl rfl (by omega) ?_
  refine x_step rfl ?_
  refine x_callvE rfl (q179 (d := 0) ([33, 10, jb (1)]) (jb (2)) (by simp only [List.length_cons, List.length_nil]; decide)) rfl rfl rfl ?_
  iterate 2 refine x_step rfl ?_
  refine xm_ls (pl' := [some (.ref 103), some (.int fn), some (.int (-1)), some (.int 2)]) rfl ?_
  iterate 2 refine x_step rfl ?_
  refine x_icmp_ge rfl (fun q => absurd q (by decide)) (fun _ => ?_)
  iterate 2 refine x_step rfl ?_
  refine x_if_ge rfl (fun q => absurd q (by decide)) (fun _ => ?_)
  iterate 5 refine x_step rfl ?_
  refine x_ialdN (3) rfl rfl rfl (by omega) ?_
  refine x_step rfl ?_
  refine x_callvE rfl (q179 (d := 0) ([33, 10, jb (1), jb (2)]) (jb (3)) (by simp only [List.length_cons, List.length_nil]; decide)) rfl rfl rfl ?_
  iterate 2 refine x_step rfl ?_
  refine xm_ls (pl' := [some (.ref 103), some (.int fn), some (.int (-1)), some (.int 3)]) rfl ?_
  iterate 2 refine x_step rfl ?_
  refine x_icmp_ge rfl (fun q => absurd q (by decide)) (fun _ => ?_)
  iterate 2 refine x_step rfl ?_
  refine x_if_ge rfl (fun q => absurd q (by decide)) (fun _ => ?_)
  iterate 5 refine x_step rfl ?_
  refine x_ialdN (4) rfl rfl rfl (by omega) ?_
  refine x_step rfl ?_
  refine x_callvE rfl (q179 (d := 0) ([33, 10, jb (1), jb (2), jb (3)]) (jb (4)) (by simp only [List.length_cons, List.length_nil]; decide)) rfl rfl rfl ?_
  iterate 2 refine x_step rfl ?_
  refine xm_ls (pl' := [some (.ref 103), some (.int fn), some (.int (-1)), some (.int 4)]) rfl ?_
  iterate 2 refine x_step rfl ?_
  refine x_icmp_ge rfl (fun q => absurd q (by decide)) (fun _ => ?_)
  iterate 2 refine x_step rfl ?_
  refine x_if_ge rfl (fun q => absurd q (by decide)) (fun _ => ?_)
  iterate 5 refine x_step rfl ?_
  refine x_ialdN (5) rfl rfl rfl (by omega) ?_
  refine x_step rfl ?_
  refine x_callvE rfl (q179 (d := 0) ([33, 10, jb (1), jb (2), jb (3), jb (4)]) (jb (5)) (by simp only [List.length_cons, List.length_nil]; decide)) rfl rfl rfl ?_
  iterate 2 refine x_step rfl ?_
  refine xm_ls (pl' := [some (.ref 103), some (.int fn), some (.int (-1)), some (.int 5)]) rfl ?_
  iterate 2 refine x_step rfl ?_
  refine x_icmp_ge rfl (fun q => absurd q (by decide)) (fun _ => ?_)
  iterate 2 refine x_step rfl ?_
  refine x_if_ge rfl (fun q => absurd q (by decide)) (fun _ => ?_)
  iterate 5 refine x_step rfl ?_
  refine x_ialdN (6) rfl rfl rfl (by omega) ?_
  refine x_step rfl ?_
  refine x_callvE rfl (q179 (d := 0) ([33, 10, jb (1), jb (2), jb (3), jb (4), jb (5)]) (jb (6)) (by simp only [List.length_cons, List.length_nil]; decide)) rfl rfl rfl ?_
  iterate 2 refine x_step rfl ?_
  refine xm_ls (pl' := [some (.ref 103), some (.int fn), some (.int (-1)), some (.int 6)]) rfl ?_
  iterate 2 refine x_step rfl ?_
  refine x_icmp_ge rfl (fun q => absurd q (by decide)) (fun _ => ?_)
  iterate 2 refine x_step rfl ?_
  refine x_if_ge rfl (fun q => absurd q (by decide)) (fun _ => ?_)
  iterate 5 refine x_step rfl ?_
  refine x_ialdN (7) rfl rfl rfl (by omega) ?_
  refine x_step rfl ?_
  refine x_callvE rfl (q179 (d := 0) ([33, 10, jb (1), jb (2), jb (3), jb (4), jb (5), jb (6)]) (jb (7)) (by simp only [List.length_cons, List.length_nil]; decide)) rfl rfl rfl ?_
  iterate 2 refine x_step rfl ?_
  refine xm_ls (pl' := [some (.ref 103), some (.int fn), some (.int (-1)), some (.int 7)]) rfl ?_
  iterate 2 refine x_step rfl ?_
  refine x_icmp_ge rfl (fun q => absurd q (by decide)) (fun _ => ?_)
  iterate 2 refine x_step rfl ?_
  refine x_if_ge rfl (fun q => absurd q (by decide)) (fun _ => ?_)
  iterate 5 refine x_step rfl ?_
  refine x_ialdN (8) rfl rfl rfl (by omega) ?_
  refine x_step rfl ?_
  refine x_callvE rfl (q179 (d := 0) ([33, 10, jb (1), jb (2), jb (3), jb (4), jb (5), jb (6), jb (7)]) (jb (8)) (by simp only [List.length_cons, List.length_nil]; decide)) rfl rfl rfl ?_
  iterate 2 refine x_step rfl ?_
  refine xm_ls (pl' := [some (.ref 103), some (.int fn), some (.int (-1)), some (.int 8)]) rfl ?_
  iterate 2 refine x_step rfl ?_
  refine x_icmp_ge rfl (fun q => absurd q (by decide)) (fun _ => ?_)
  iterate 2 refine x_step rfl ?_
  refine x_if_ge rfl (fun q => absurd q (by decide)) (fun _ => ?_)
  iterate 5 refine x_step rfl ?_
  refine x_ialdN (9) rfl rfl rfl (by omega) ?_
  refine x_step rfl ?_
  refine x_callvE rfl (q179 (d := 0) ([33, 10, jb (1), jb (2), jb (3), jb (4), jb (5), jb (6), jb (7), jb (8)]) (jb (9)) (by simp only [List.length_cons, List.length_nil]; decide)) rfl rfl rfl ?_
  iterate 2 refine x_step rfl ?_
  refine xm_ls (pl' := [some (.ref 103), some (.int fn), some (.int (-1)), some (.int 9)]) rfl ?_
  iterate 2 refine x_step rfl ?_
  refine x_icmp_ge rfl (fun q => absurd q (by decide)) (fun _ => ?_)
  iterate 2 refine x_step rfl ?_
  refine x_if_ge rfl (fun q => absurd q (by decide)) (fun _ => ?_)
  iterate 5 refine x_step rfl ?_
  refine x_ialdN (10) rfl rfl rfl (by omega) ?_
  refine x_step rfl ?_
  refine x_callvE rfl (q179 (d := 0) ([33, 10, jb (1), jb (2), jb (3), jb (4), jb (5), jb (6), jb (7), jb (8), jb (9)]) (jb (10)) (by simp only [List.length_cons, List.length_nil]; decide)) rfl rfl rfl ?_
  iterate 2 refine x_step rfl ?_
  refine xm_ls (pl' := [some (.ref 103), some (.int fn), some (.int (-1)), some (.int 10)]) rfl ?_
  iterate 2 refine x_step rfl ?_
  refine x_icmp_ge rfl (fun _ => ?_) (fun q => absurd (by decide) q)
  iterate 3 refine x_step rfl ?_
  refine x_callvE rfl (q180 (d := 1) [33, 10, jb (1), jb (2), jb (3), jb (4), jb (5), jb (6), jb (7), jb (8), jb (9), jb (10)] q n 9 fn (by omega) hq (by simp only [List.length_cons, List.length_nil]; decide) hn) rfl rfl rfl ?_
  exact x_ret rfl rfl ⟨rfl, rfl⟩
/-- FabLinkModel.complain -/
theorem q177b (q n : Nat) (fn : Int32) (hd : 2 ≤ d) (hq : q ≤ 8) (hn : n < 65536) (a : Nat) (ha : a + 10 ≤ 80) : XM l 177 d 0 0 [.ref 103, .int fn, .int (nI a)] (cw L xs (rw th jl js jh jb jc jr (nI q) jQ jz jf jo (nI n) jt jH jA jm jy je jp jk jx jw ju jF jL jO jS jT jU jV jW ja jG ov g2) tc tf bl bf of oc ol on ml mx mb kc kh kr ka gl gx gb ls lq lk lg lh vf vs vb nv nw nr nq ne io sp ch wt xf xz xt xb xc) (xm_is none (cw L xs (rw th jl js jh jb jc jr (nI (xrq q)) (xrQ q jQ (xrbd jy ([33, 10, jH (a + 0), jH (a + 1), jH (a + 2), jH (a + 3), jH (a + 4), jH (a + 5), jH (a + 6), jH (a + 7), jH (a + 8), jH (a + 9)])) ([33, 10, jH (a + 0), jH (a + 1), jH (a + 2), jH (a + 3), jH (a + 4), jH (a + 5), jH (a + 6), jH (a + 7), jH (a + 8), jH (a + 9)]).length (9) (fn) (0) (0) (nI ((n + 1) % 65536 / 256)) (nI ((n + 1) % 65536 % 256))) (xrz q jz ([33, 10, jH (a + 0), jH (a + 1), jH (a + 2), jH (a + 3), jH (a + 4), jH (a + 5), jH (a + 6), jH (a + 7), jH (a + 8), jH (a + 9)]).length) (xrf q jf) (xro q jo) (nI ((n + 1) % 65536)) jt jH jA (nI ([33, 10, jH (a + 0), jH (a + 1), jH (a + 2), jH (a + 3), jH (a + 4), jH (a + 5), jH (a + 6), jH (a + 7), jH (a + 8), jH (a + 9)]).length) (xrbd jy ([33, 10, jH (a + 0), jH (a + 1), jH (a + 2), jH (a + 3), jH (a + 4), jH (a + 5), jH (a + 6), jH (a + 7), jH (a + 8), jH (a + 9)])) je jp jk jx jw ju jF jL jO jS jT jU jV jW ja jG ov g2) tc tf bl bf of oc ol on ml mx mb kc kh kr ka gl gx gb ls lq lk lg lh vf vs vb nv nw nr nq ne io sp ch wt xf xz xt xb xc)) := by
  refine XE (pl := [some (.ref 103), some (.int fn), some (.int (nI a)), none]) xg177 rfl ?_
  iterate 3 refine x_step rfl ?_
  refine xm_hs (hp' := (cw L xs (rw th jl js jh jb jc jr (nI q) jQ jz jf jo (nI n) jt jH jA (nI ([] : List Int32).length) (xrbd jy ([] : List Int32)) je jp jk jx jw ju jF jL jO jS jT jU jV jW ja jG ov g2) tc tf bl bf of oc ol on ml mx mb kc kh kr ka gl gx gb ls lq lk lg lh vf vs vb nv nw nr nq ne io sp ch wt xf xz xt xb xc)) (by rw [xrbd_nil] <;> rfl) ?_
  iterate 3 refine x_step rfl ?_
  refine x_callvE rfl (q178 (d := 1) [] 8 10 (by omega) (by decide)) rfl rfl rfl ?_
  iterate 2 refine x_step rfl ?_
  refine xm_ls (pl' := [some (.ref 103), some (.int fn), some (.int (nI a)), some (.int 0)]) rfl ?_
  iterate 2 refine x_step rfl ?_
  refine x_icmp_ge rfl (fun q => absurd q (by decide)) (fun _ => ?_)
  iterate 2 refine x_step rfl ?_
  refine x_ifN_ge (a) rfl rfl (fun _ => ?_) (fun q => False.elim (by omega))
  iterate 5 refine x_step rfl ?_
  refine x_ialdN (a + 0) rfl rfl (nI_add a 0) (by omega) ?_
  refine x_callvE rfl (q179 (d := 0) ([33, 10]) (jH (a + 0)) (by simp only [List.length_cons, List.length_nil]; decide)) rfl rfl rfl ?_
  iterate 2 refine x_step rfl ?_
  refine xm_ls (pl' := [some (.ref 103), some (.int fn), some (.int (nI a)), some (.int 1)]) rfl ?_
  iterate 2 refine x_step rfl ?_
  refine x_icmp_ge rfl (fun q => absurd q (by decide)) (fun _ => ?_)
  iterate 2 refine x_step rfl ?_
  refine x_ifN_ge (a) rfl rfl (fun _ => ?_) (fun q => False.elim (by omega))
  iterate 5 refine x_step rfl ?_
  refine x_ialdN (a + 1) rfl rfl (nI_add a 1) (by omega) ?_
  refine x_callvE rfl (q179 (d := 0) ([33, 10, jH (a + 0)]) (jH (a + 1)) (by simp only [List.length_cons, List.length_nil]; decide)) rfl rfl rfl ?_
  iterate 2 refine x_step rfl ?_
  refine xm_ls (pl' := [some (.ref 103), some (.int fn), some (.int (nI a)), some (.int 2)]) rfl ?_
  iterate 2 refine x_step rfl ?_
  refine x_icmp_ge rfl (fun q => absurd q (by decide)) (fun _ => ?_)
  iterate 2 refine x_step rfl ?_
  refine x_ifN_ge (a) rfl rfl (fun _ => ?_) (fun q => False.elim (by omega))
  iterate 5 refine x_step rfl ?_
  refine x_ialdN (a + 2) rfl rfl (nI_add a 2) (by omega) ?_
  refine x_callvE rfl (q179 (d := 0) ([33, 10, jH (a + 0), jH (a + 1)]) (jH (a + 2)) (by simp only [List.length_cons, List.length_nil]; decide)) rfl rfl rfl ?_
  iterate 2 refine x_step rfl ?_
  refine xm_ls (pl' := [some (.ref 103), some (.int fn), some (.int (nI a)), some (.int 3)]) rfl ?_
  iterate 2 refine x_step rfl ?_
  refine x_icmp_ge rfl (fun q => absurd q (by decide)) (fun _ => ?_)
  iterate 2 refine x_step rfl ?_
  refine x_ifN_ge (a) rfl rfl (fun _ => ?_) (fun q => False.elim (by omega))
  iterate 5 refine x_step rfl ?_
  refine x_ialdN (a + 3) rfl rfl (nI_add a 3) (by omega) ?_
  refine x_callvE rfl (q179 (d := 0) ([33, 10, jH (a + 0), jH (a + 1), jH (a + 2)]) (jH (a + 3)) (by simp only [List.length_cons, List.length_nil]; decide)) rfl rfl rfl ?_
  iterate 2 refine x_step rfl ?_
  refine xm_ls (pl' := [some (.ref 103), some (.int fn), some (.int (nI a)), some (.int 4)]) rfl ?_
  iterate 2 refine x_step rfl ?_
  refine x_icmp_ge rfl (fun q => absurd q (by decide)) (fun _ => ?_)
  iterate 2 refine x_step rfl ?_
  refine x_ifN_ge (a) rfl rfl (fun _ => ?_) (fun q => False.elim (by omega))
  iterate 5 refine x_step rfl ?_
  refine x_ialdN (a + 4) rfl rfl (nI_add a 4) (by omega) ?_
  refine x_callvE rfl (q179 (d := 0) ([33, 10, jH (a + 0), jH (a + 1), jH (a + 2), jH (a + 3)]) (jH (a + 4)) (by simp only [List.length_cons, List.length_nil]; decide)) rfl rfl rfl ?_
  iterate 2 refine x_step rfl ?_
  refine xm_ls (pl' := [some (.ref 103), some (.int fn), some (.int (nI a)), some (.int 5)]) rfl ?_
  iterate 2 refine x_step rfl ?_
  refine x_icmp_ge rfl (fun q => absurd q (by decide)) (fun _ => ?_)
  iterate 2 refine x_step rfl ?_
  refine x_ifN_ge (a) rfl rfl (fun _ => ?_) (fun q => False.elim (by omega))
  iterate 5 refine x_step rfl ?_
  refine x_ialdN (a + 5) rfl rfl (nI_add a 5) (by omega) ?_
  refine x_callvE rfl (q179 (d := 0) ([33, 10, jH (a + 0), jH (a + 1), jH (a + 2), jH (a + 3), jH (a + 4)]) (jH (a + 5)) (by simp only [List.length_cons, List.length_nil]; decide)) rfl rfl rfl ?_
  iterate 2 refine x_step rfl ?_
  refine xm_ls (pl' := [some (.ref 103), some (.int fn), some (.int (nI a)), some (.int 6)]) rfl ?_
  iterate 2 refine x_step rfl ?_
  refine x_icmp_ge rfl (fun q => absurd q (by decide)) (fun _ => ?_)
  iterate 2 refine x_step rfl ?_
  refine x_ifN_ge (a) rfl rfl (fun _ => ?_) (fun q => False.elim (by omega))
  iterate 5 refine x_step rfl ?_
  refine x_ialdN (a + 6) rfl rfl (nI_add a 6) (by omega) ?_
  refine x_callvE rfl (q179 (d := 0) ([33, 10, jH (a + 0), jH (a + 1), jH (a + 2), jH (a + 3), jH (a + 4), jH (a + 5)]) (jH (a + 6)) (by simp only [List.length_cons, List.length_nil]; decide)) rfl rfl rfl ?_
  iterate 2 refine x_step rfl ?_
  refine xm_ls (pl' := [some (.ref 103), some (.int fn), some (.int (nI a)), some (.int 7)]) rfl ?_
  iterate 2 refine x_step rfl ?_
  refine x_icmp_ge rfl (fun q => absurd q (by decide)) (fun _ => ?_)
  iterate 2 refine x_step rfl ?_
  refine x_ifN_ge (a) rfl rfl (fun _ => ?_) (fun q => False.elim (by omega))
  iterate 5 refine x_step rfl ?_
  refine x_ialdN (a + 7) rfl rfl (nI_add a 7) (by omega) ?_
  refine x_callvE rfl (q179 (d := 0) ([33, 10, jH (a + 0), jH (a + 1), jH (a + 2), jH (a + 3), jH (a + 4), jH (a + 5), jH (a + 6)]) (jH (a + 7)) (by simp only [List.length_cons, List.length_nil]; decide)) rfl rfl rfl ?_
  iterate 2 refine x_step rfl ?_
  refine xm_ls (pl' := [some (.ref 103), some (.int fn), some (.int (nI a)), some (.int 8)]) rfl ?_
  iterate 2 refine x_step rfl ?_
  refine x_icmp_ge rfl (fun q => absurd q (by decide)) (fun _ => ?_)
  iterate 2 refine x_step rfl ?_
  refine x_ifN_ge (a) rfl rfl (fun _ => ?_) (fun q => False.elim (by omega))
  iterate 5 refine x_step rfl ?_
  refine x_ialdN (a + 8) rfl rfl (nI_add a 8) (by omega) ?_
  refine x_callvE rfl (q179 (d := 0) ([33, 10, jH (a + 0), jH (a + 1), jH (a + 2), jH (a + 3), jH (a + 4), jH (a + 5), jH (a + 6), jH (a + 7)]) (jH (a + 8)) (by simp only [List.length_cons, List.length_nil]; decide)) rfl rfl rfl ?_
  iterate 2 refine x_step rfl ?_
  refine xm_ls (pl' := [some (.ref 103), some (.int fn), some (.int (nI a)), some (.int 9)]) rfl ?_
  iterate 2 refine x_step rfl ?_
  refine x_icmp_ge rfl (fun q => absurd q (by decide)) (fun _ => ?_)
  iterate 2 refine x_step rfl ?_
  refine x_ifN_ge (a) rfl rfl (fun _ => ?_) (fun q => False.elim (by omega))
  iterate 5 refine x_step rfl ?_
  refine x_ialdN (a + 9) rfl rfl (nI_add a 9) (by omega) ?_
  refine x_callvE rfl (q179 (d := 0) ([33, 10, jH (a + 0), jH (a + 1), jH (a + 2), jH (a + 3), jH (a + 4), jH (a + 5), jH (a + 6), jH (a + 7), jH (a + 8)]) (jH (a + 9)) (by simp only [List.length_cons, List.length_nil]; decide)) rfl rfl rfl ?_
  iterate 2 refine x_step rfl ?_
  refine xm_ls (pl' := [some (.ref 103), some (.int fn), some (.int (nI a)), some (.int 10)]) rfl ?_
  iterate 2 refine x_step rfl ?_
  refine x_icmp_ge rfl (fun _ => ?_) (fun q => absurd (by decide) q)
  iterate 3 refine x_step rfl ?_
  refine x_callvE rfl (q180 (d := 1) [33, 10, jH (a + 0), jH (a + 1), jH (a + 2), jH (a + 3), jH (a + 4), jH (a + 5), jH (a + 6), jH (a + 7), jH (a + 8), jH (a + 9)] q n 9 fn (by omega) hq (by simp only [List.length_cons, List.length_nil]; decide) hn) rfl rfl rfl ?_
  exact x_ret rfl rfl ⟨rfl, rfl⟩
def xrsR (jl jq : Int32) (jr : Nat → Int32) (jc : Int32) : Nat → Int32 := if jl = 0 ∧ ¬ jq ≤ 0 then xrsay jr jc 5 else jr
def xrsC (jl jq jc : Int32) : Int32 := if jl = 0 ∧ ¬ jq ≤ 0 then jc + 1 else jc
def xrsL (jl jq : Int32) : Int32 := if jl = 0 ∧ ¬ jq ≤ 0 then 2 else jl
def xrsS (jl jq js : Int32) : Int32 := if jl = 0 ∧ ¬ jq ≤ 0 then 0 else js
theorem q228 (hd : 1 ≤ d) (hc : ¬ jc < 0) : XM l 228 d 0 0 [.ref 103] (cw L xs (rw th jl js jh jb jc jr jq jQ jz jf jo jn jt jH jA jm jy je jp jk jx jw ju jF jL jO jS jT jU jV jW ja jG ov g2) tc tf bl bf of oc ol on ml mx mb kc kh kr ka gl gx gb ls lq lk lg lh vf vs vb nv nw nr nq ne io sp ch wt xf xz xt xb xc) (xm_is none (cw L xs (rw th (xrsL jl jq) (xrsS jl jq js) jh jb (xrsC jl jq jc) (xrsR jl jq jr jc) jq jQ jz jf jo jn jt jH jA jm jy je jp jk jx jw ju jF jL jO jS jT jU jV jW ja jG ov g2) tc tf bl bf of oc ol on ml mx mb kc kh kr ka gl gx gb ls lq lk lg lh vf vs vb nv nw nr nq ne io sp ch wt xf xz xt xb xc)) := by
  by_cases h : jl = 0 ∧ ¬ jq ≤ 0
  · rw [xrsR, xrsC, xrsL, xrsS, if_pos h, if_pos h, if_pos h, if_pos h]
    exact m228b hd h.1 h.2 hc
  · rw [xrsR, xrsC, xrsL, xrsS, if_neg h, if_neg h, if_neg h, if_neg h]
    exact m228a h
/-- FabLinkModel.reply -/
theorem q195 (B : List Int32) (q : Nat) (fn : Int32) (hd : 1 ≤ d) (hq : q ≤ 8) (hw : 128 ≤ jb 3) (hB : B.length ≤ 120) : XM l 195 d 0 0 [.ref 103, .int fn] (cw L xs (rw th jl js jh jb jc jr (nI q) jQ jz jf jo jn jt jH jA (nI (B).length) (xrbd jy (B)) je jp jk jx jw ju jF jL jO jS jT jU jV jW ja jG ov g2) tc tf bl bf of oc ol on ml mx mb kc kh kr ka gl gx gb ls lq lk lg lh vf vs vb nv nw nr nq ne io sp ch wt xf xz xt xb xc) (xm_is none (cw L xs (rw th jl js jh jb jc jr (nI (xrq q)) (xrQ q jQ (xrbd jy (B)) (B).length (jb 3 &&& 127) (fn) (jb 7) (jb 8) (jb 9) (jb 10)) (xrz q jz (B).length) (xrf q jf) (xro q jo) jn jt jH jA (nI (B).length) (xrbd jy (B)) je jp jk jx jw ju jF jL jO jS jT jU jV jW ja jG ov g2) tc tf bl bf of oc ol on ml mx mb kc kh kr ka gl gx gb ls lq lk lg lh vf vs vb nv nw nr nq ne io sp ch wt xf xz xt xb xc)) := by
  refine XE (pl := [some (.ref 103), some (.int fn), none]) xg195 rfl ?_
  iterate 3 refine x_step rfl ?_
  refine x_ialdN (3) rfl rfl rfl (by omega) ?_
  refine x_step rfl ?_
  refine x_icmp_ge rfl (fun _ => ?_) (fun q => absurd hw q)
  iterate 3 refine x_step rfl ?_
  refine x_icmpN_gt (B.length) (120) rfl rfl rfl (fun q => False.elim (by omega)) (fun _ => ?_)
  iterate 5 refine x_step rfl ?_
  refine x_if_eq rfl (fun q => absurd q (by decide)) (fun _ => ?_)
  iterate 8 refine x_step rfl ?_
  refine x_ialdN (3) rfl rfl rfl (by omega) ?_
  iterate 3 refine x_step rfl ?_
  refine x_if_eq rfl (fun q => absurd q (by decide)) (fun _ => ?_)
  iterate 5 refine x_step rfl ?_
  refine x_ialdN (7) rfl rfl rfl (by omega) ?_
  iterate 3 refine x_step rfl ?_
  refine x_ialdN (8) rfl rfl rfl (by omega) ?_
  iterate 3 refine x_step rfl ?_
  refine x_ialdN (9) rfl rfl rfl (by omega) ?_
  iterate 3 refine x_step rfl ?_
  refine x_ialdN (10) rfl rfl rfl (by omega) ?_
  refine xm_hs (hp' := (cw L xs (rw th jl js jh jb jc jr (nI q) jQ jz jf jo jn jt jH jA (nI (B).length) (xrbd jy (B)) je jp jk jx jw ju jF jL jO jS jT jU jV jW ja jG ov g2) tc tf bl bf of oc ol on ml mx mb kc kh kr ka gl gx gb ls lq lk lg lh vf vs vb nv nw nr nq ne io sp ch wt xf xz xt xb xc)) rfl ?_
  refine x_callvE rfl (q181 (d := 0) B q (jb 3 &&& 127) fn (jb 7) (jb 8) (jb 9) (jb 10) hq hB) rfl rfl rfl ?_
  exact x_ret rfl rfl ⟨rfl, rfl⟩
/-- FabLinkModel.reply -/
theorem q195a (B : List Int32) (q : Nat) (fn : Int32) (hd : 1 ≤ d) (hq : q ≤ 8) (hw : 128 ≤ jb 3) (hB : 120 < B.length) (hB2 : B.length < 2 ^ 30) : XM l 195 d 0 0 [.ref 103, .int fn] (cw L xs (rw th jl js jh jb jc jr (nI q) jQ jz jf jo jn jt jH jA (nI (B).length) (xrbd jy (B)) je jp jk jx jw ju jF jL jO jS jT jU jV jW ja jG ov g2) tc tf bl bf of oc ol on ml mx mb kc kh kr ka gl gx gb ls lq lk lg lh vf vs vb nv nw nr nq ne io sp ch wt xf xz xt xb xc) (xm_is none (cw L xs (rw th jl js jh jb jc jr (nI (xrq q)) (xrQ q jQ (xrbd (xrbd jy B) ([] : List Int32)) ([] : List Int32).length (jb 3 &&& 127) (0) (jb 7) (jb 8) (jb 9) (jb 10)) (xrz q jz ([] : List Int32).length) (xrf q jf) (xro q jo) jn jt jH jA (nI ([] : List Int32).length) (xrbd (xrbd jy B) []) je jp jk jx jw ju jF jL jO jS jT jU jV jW ja jG ov g2) tc tf bl bf of oc ol on ml mx mb kc kh kr ka gl gx gb ls lq lk lg lh vf vs vb nv nw nr nq ne io sp ch wt xf xz xt xb xc)) := by
  refine XE (pl := [some (.ref 103), some (.int fn), none]) xg195 rfl ?_
  iterate 3 refine x_step rfl ?_
  refine x_ialdN (3) rfl rfl rfl (by omega) ?_
  refine x_step rfl ?_
  refine x_icmp_ge rfl (fun _ => ?_) (fun q => absurd hw q)
  iterate 3 refine x_step rfl ?_
  refine x_icmpN_gt (B.length) (120) rfl rfl rfl (fun _ => ?_) (fun q => False.elim (by omega))
  iterate 4 refine x_step rfl ?_
  refine x_if_eq rfl (fun _ => ?_) (fun q => absurd (by decide) q)
  iterate 6 refine x_step rfl ?_
  refine x_ialdN (3) rfl rfl rfl (by omega) ?_
  iterate 3 refine x_step rfl ?_
  refine x_if_eq rfl (fun _ => ?_) (fun q => absurd (by decide) q)
  iterate 4 refine x_step rfl ?_
  refine x_ialdN (7) rfl rfl rfl (by omega) ?_
  iterate 3 refine x_step rfl ?_
  refine x_ialdN (8) rfl rfl rfl (by omega) ?_
  iterate 3 refine x_step rfl ?_
  refine x_ialdN (9) rfl rfl rfl (by omega) ?_
  iterate 3 refine x_step rfl ?_
  refine x_ialdN (10) rfl rfl rfl (by omega) ?_
  refine xm_hs (hp' := (cw L xs (rw th jl js jh jb jc jr (nI q) jQ jz jf jo jn jt jH jA (nI ([] : List Int32).length) (xrbd (xrbd jy B) []) je jp jk jx jw ju jF jL jO jS jT jU jV jW ja jG ov g2) tc tf bl bf of oc ol on ml mx mb kc kh kr ka gl gx gb ls lq lk lg lh vf vs vb nv nw nr nq ne io sp ch wt xf xz xt xb xc)) (by rw [xrbd_nil] <;> rfl) ?_
  refine x_callvE rfl (q181 (d := 0) [] q (jb 3 &&& 127) 0 (jb 7) (jb 8) (jb 9) (jb 10) hq (by decide)) rfl rfl rfl ?_
  exact x_ret rfl rfl ⟨rfl, rfl⟩
/-- FabLinkModel.reply -/
theorem q195n (fn : Int32) (hw : ¬ 128 ≤ jb 3) : XM l 195 d 0 0 [.ref 103, .int fn] (cw L xs (rw th jl js jh jb jc jr jq jQ jz jf jo jn jt jH jA jm jy je jp jk jx jw ju jF jL jO jS jT jU jV jW ja jG ov g2) tc tf bl bf of oc ol on ml mx mb kc kh kr ka gl gx gb ls lq lk lg lh vf vs vb nv nw nr nq ne io sp ch wt xf xz xt xb xc) (xm_is none (cw L xs (rw th jl js jh jb jc jr jq jQ jz jf jo jn jt jH jA jm jy je jp jk jx jw ju jF jL jO jS jT jU jV jW ja jG ov g2) tc tf bl bf of oc ol on ml mx mb kc kh kr ka gl gx gb ls lq lk lg lh vf vs vb nv nw nr nq ne io sp ch wt xf xz xt xb xc)) := by
  refine XE (pl := [some (.ref 103), some (.int fn), none]) xg195 rfl ?_
  iterate 3 refine x_step rfl ?_
  refine x_ialdN (3) rfl rfl rfl (by omega) ?_
  refine x_step rfl ?_
  refine x_icmp_ge rfl (fun q => absurd q hw) (fun _ => ?_)
  exact x_ret rfl rfl ⟨rfl, rfl⟩
/-- FabLinkModel.replyByte -/
theorem q213 (q : Nat) (x : Int32) (hd : 3 ≤ d) (hq : q ≤ 8) (hw : 128 ≤ jb 3) : XM l 213 d 0 0 [.ref 103, .int x] (cw L xs (rw th jl js jh jb jc jr (nI q) jQ jz jf jo jn jt jH jA jm jy je jp jk jx jw ju jF jL jO jS jT jU jV jW ja jG ov g2) tc tf bl bf of oc ol on ml mx mb kc kh kr ka gl gx gb ls lq lk lg lh vf vs vb nv nw nr nq ne io sp ch wt xf xz xt xb xc) (xm_is none (cw L xs (rw th jl js jh jb jc jr (nI (xrq q)) (xrQ q jQ (xrbd jy ([33, 1, x])) ([33, 1, x]).length (jb 3 &&& 127) (jb 4 + 1) (jb 7) (jb 8) (jb 9) (jb 10)) (xrz q jz ([33, 1, x]).length) (xrf q jf) (xro q jo) jn jt jH jA (nI ([33, 1, x]).length) (xrbd jy ([33, 1, x])) je jp jk jx jw ju jF jL jO jS jT jU jV jW ja jG ov g2) tc tf bl bf of oc ol on ml mx mb kc kh kr ka gl gx gb ls lq lk lg lh vf vs vb nv nw nr nq ne io sp ch wt xf xz xt xb xc)) := by
  refine XE (pl := [some (.ref 103), some (.int x)]) xg213 rfl ?_
  iterate 3 refine x_step rfl ?_
  refine xm_hs (hp' := (cw L xs (rw th jl js jh jb jc jr (nI q) jQ jz jf jo jn jt jH jA (nI ([] : List Int32).length) (xrbd jy ([] : List Int32)) je jp jk jx jw ju jF jL jO jS jT jU jV jW ja jG ov g2) tc tf bl bf of oc ol on ml mx mb kc kh kr ka gl gx gb ls lq lk lg lh vf vs vb nv nw nr nq ne io sp ch wt xf xz xt xb xc)) (by rw [xrbd_nil] <;> rfl) ?_
  iterate 2 refine x_step rfl ?_
  refine x_callvE rfl (q210 (d := 2) [] x (by omega) (by decide)) rfl rfl rfl ?_
  iterate 4 refine x_step rfl ?_
  refine x_ialdN (4) rfl rfl rfl (by omega) ?_
  iterate 2 refine x_step rfl ?_
  refine x_callvE rfl (q195 (d := 1) [33, 1, x] q (jb 4 + 1) (by omega) hq hw (by simp only [List.length_cons, List.length_nil]; decide)) rfl rfl rfl ?_
  exact x_ret rfl rfl ⟨rfl, rfl⟩
/-- FabLinkModel.replyByte -/
theorem q213n (x : Int32) (hd : 3 ≤ d) (hw : ¬ 128 ≤ jb 3) : XM l 213 d 0 0 [.ref 103, .int x] (cw L xs (rw th jl js jh jb jc jr jq jQ jz jf jo jn jt jH jA jm jy je jp jk jx jw ju jF jL jO jS jT jU jV jW ja jG ov g2) tc tf bl bf of oc ol on ml mx mb kc kh kr ka gl gx gb ls lq lk lg lh vf vs vb nv nw nr nq ne io sp ch wt xf xz xt xb xc) (xm_is none (cw L xs (rw th jl js jh jb jc jr jq jQ jz jf jo jn jt jH jA (nI ([33, 1, x]).length) (xrbd jy ([33, 1, x])) je jp jk jx jw ju jF jL jO jS jT jU jV jW ja jG ov g2) tc tf bl bf of oc ol on ml mx mb kc kh kr ka gl gx gb ls lq lk lg lh vf vs vb nv nw nr nq ne io sp ch wt xf xz xt xb xc)) := by
  refine XE (pl := [some (.ref 103), some (.int x)]) xg213 rfl ?_
  iterate 3 refine x_step rfl ?_
  refine xm_hs (hp' := (cw L xs (rw th jl js jh jb jc jr jq jQ jz jf jo jn jt jH jA (nI ([] : List Int32).length) (xrbd jy ([] : List Int32)) je jp jk jx jw ju jF jL jO jS jT jU jV jW ja jG ov g2) tc tf bl bf of oc ol on ml mx mb kc kh kr ka gl gx gb ls lq lk lg lh vf vs vb nv nw nr nq ne io sp ch wt xf xz xt xb xc)) (by rw [xrbd_nil] <;> rfl) ?_
  iterate 2 refine x_step rfl ?_
  refine x_callvE rfl (q210 (d := 2) [] x (by omega) (by decide)) rfl rfl rfl ?_
  iterate 4 refine x_step rfl ?_
  refine x_ialdN (4) rfl rfl rfl (by omega) ?_
  iterate 2 refine x_step rfl ?_
  refine x_callvE rfl (q195n (d := 1) (jb 4 + 1) hw) rfl rfl rfl ?_
  exact x_ret rfl rfl ⟨rfl, rfl⟩
/-- the variables' bytes: control and work stand for 0 and 1 -/
def rvb (jk jw : Int32) (jO : Nat → Int32) : Nat → Nat → Int32 := fun v k => if v = 0 then jk else if v = 1 then jw else jO (8 * v + k)
def rvk (jF : Nat → Int32) (sz : Nat → Nat) : Prop := jF 0 = 41 ∧ jF 1 = 41 ∧ sz 0 = 1 ∧ sz 1 = 1
theorem q208_loop (B : List Int32) (v n : Nat) (hd : 1 ≤ d) (hv : v < 6) (hn : n ≤ 8) (hs : jL v = nI n) (hB : B.length < 2 ^ 28) : ∀ (r i : Nat), i + r = n → XW l 208 d 0 0 63 [some (.ref 103), some (.int (nI v)), some (.int (nI i))] [] (cw L xs (rw th jl js jh jb jc jr jq jQ jz jf jo jn jt jH jA (nI (B ++ xcat (fun k => [jO (8 * v + k)]) i).length) (xrbd jy (B ++ xcat (fun k => [jO (8 * v + k)]) i)) je jp jk jx jw ju jF jL jO jS jT jU jV jW ja jG ov g2) tc tf bl bf of oc ol on ml mx mb kc kh kr ka gl gx gb ls lq lk lg lh vf vs vb nv nw nr nq ne io sp ch wt xf xz xt xb xc) (xm_is none (cw L xs (rw th jl js jh jb jc jr jq jQ jz jf jo jn jt jH jA (nI (B ++ xcat (fun k => [jO (8 * v + k)]) n).length) (xrbd jy (B ++ xcat (fun k => [jO (8 * v + k)]) n)) je jp jk jx jw ju jF jL jO jS jT jU jV jW ja jG ov g2) tc tf bl bf of oc ol on ml mx mb kc kh kr ka gl gx gb ls lq lk lg lh vf vs vb nv nw nr nq ne io sp ch wt xf xz xt xb xc)) := by
  intro r
  induction r with
  | zero =>
    intro i hi
    obtain rfl : i = n := by omega
    iterate 4 refine x_step rfl ?_
    refine x_ialdN (v) rfl rfl rfl (by omega) ?_
    refine x_icmpN_ge (i) (i) rfl rfl hs (fun _ => ?_) (fun q => False.elim (by omega))
    exact x_ret rfl rfl ⟨rfl, rfl⟩
  | succ r ih =>
    intro i hi
    iterate 4 refine x_step rfl ?_
    refine x_ialdN (v) rfl rfl rfl (by omega) ?_
    refine x_icmpN_ge (i) (n) rfl rfl hs (fun q => False.elim (by omega)) (fun _ => ?_)
    iterate 8 refine x_step rfl ?_
    refine x_ialdN (8 * v + i) rfl rfl (by rw [← nI_add, ← pk_mul] <;> rfl) (by omega) ?_
    refine x_callvE rfl (q179 (d := 0) (B ++ xcat (fun k => [jO (8 * v + k)]) i) (jO (8 * v + i)) (by rw [List.length_append, xcat_one]; omega)) rfl rfl rfl ?_
    iterate 2 refine x_step rfl ?_
    refine xm_ls (pl' := [some (.ref 103), some (.int (nI v)), some (.int (nI (i + 1)))]) (by rw [nI_succ] <;> rfl) ?_
    refine xm_hs (hp' := (cw L xs (rw th jl js jh jb jc jr jq jQ jz jf jo jn jt jH jA (nI (B ++ xcat (fun k => [jO (8 * v + k)]) (i + 1)).length) (xrbd jy (B ++ xcat (fun k => [jO (8 * v + k)]) (i + 1))) je jp jk jx jw ju jF jL jO jS jT jU jV jW ja jG ov g2) tc tf bl bf of oc ol on ml mx mb kc kh kr ka gl gx gb ls lq lk lg lh vf vs vb nv nw nr nq ne io sp ch wt xf xz xt xb xc)) (by rw [List.append_assoc] <;> rfl) ?_
    exact ih (i + 1) (by omega)
/-- FabLinkModel.putVariable -/
theorem q208 (B : List Int32) (v : Nat) (hd : 3 ≤ d) (hv : v < 2 ^ 20) (hs : ∀ v, v < 6 → jL v = nI (sz v) ∧ sz v ≤ 8) (hk : rvk jF sz) (hB : B.length < 2 ^ 26) : XM l 208 d 0 0 [.ref 103, .int (nI v)] (cw L xs (rw th jl js jh jb jc jr jq jQ jz jf jo jn jt jH jA (nI (B).length) (xrbd jy (B)) je jp jk jx jw ju jF jL jO jS jT jU jV jW ja jG ov g2) tc tf bl bf of oc ol on ml mx mb kc kh kr ka gl gx gb ls lq lk lg lh vf vs vb nv nw nr nq ne io sp ch wt xf xz xt xb xc) (xm_is none (cw L xs (rw th jl js jh jb jc jr jq jQ jz jf jo jn jt jH jA (nI (B ++ tvL jF sz (rvb jk jw jO) v).length) (xrbd jy (B ++ tvL jF sz (rvb jk jw jO) v)) je jp jk jx jw ju jF jL jO jS jT jU jV jW ja jG ov g2) tc tf bl bf of oc ol on ml mx mb kc kh kr ka gl gx gb ls lq lk lg lh vf vs vb nv nw nr nq ne io sp ch wt xf xz xt xb xc)) := by
  refine XE (pl := [some (.ref 103), some (.int (nI v)), none]) xg208 rfl ?_
  refine x_step rfl ?_
  refine x_ifN_lt (v) rfl rfl (fun q => False.elim (by omega)) (fun _ => ?_)
  iterate 2 refine x_step rfl ?_
  refine x_icmpN_le (v) (5) rfl rfl rfl (fun h => ?_) (fun h => ?_)
  · have h6 : v < 6 := by omega
    rw [tvL, if_pos h6]
    iterate 2 refine x_step rfl ?_
    refine x_icmpN_ge (v) (2) rfl rfl rfl (fun h2 => ?_) (fun h2 => ?_)
    · iterate 4 refine x_step rfl ?_
      refine x_ialdN (v) rfl rfl rfl (by omega) ?_
      iterate 3 refine x_step rfl ?_
      refine x_ialdN (v) rfl rfl rfl (by omega) ?_
      refine x_callvE rfl (q178 (d := 1) B (jF v) (jL v) (by omega) (by omega)) rfl rfl rfl ?_
      iterate 2 refine x_step rfl ?_
      refine xm_ls (pl' := [some (.ref 103), some (.int (nI v)), some (.int (nI 0))]) rfl ?_
      refine xm_hs (hp' := (cw L xs (rw th jl js jh jb jc jr jq jQ jz jf jo jn jt jH jA (nI ((B ++ [4 * jF v + 1, nI (sz v)]) ++ xcat (fun k => [jO (8 * v + k)]) 0).length) (xrbd jy ((B ++ [4 * jF v + 1, nI (sz v)]) ++ xcat (fun k => [jO (8 * v + k)]) 0)) je jp jk jx jw ju jF jL jO jS jT jU jV jW ja jG ov g2) tc tf bl bf of oc ol on ml mx mb kc kh kr ka gl gx gb ls lq lk lg lh vf vs vb nv nw nr nq ne io sp ch wt xf xz xt xb xc)) (by rw [xcat_nil, (hs v h6).1] <;> rfl) ?_
      rw [show B ++ wvL jF sz (rvb jk jw jO) v = (B ++ [4 * jF v + 1, nI (sz v)]) ++ xcat (fun k => [jO (8 * v + k)]) (sz v) from by rw [wvL, List.append_assoc, xcat_congr (sz v) (fun k _ => by rw [rvb, if_neg (by omega), if_neg (by omega)])]]
      exact q208_loop (B ++ [4 * jF v + 1, nI (sz v)]) v (sz v) (by omega) h6 (hs v h6).2 (hs v h6).1 (by rw [List.length_append]; simp only [List.length_cons, List.length_nil]; omega) (sz v) 0 (by omega)
    · iterate 2 refine x_step rfl ?_
      refine x_ifN_ne (v) rfl rfl (fun h3 => ?_) (fun h3 => ?_)
      · obtain rfl : v = 1 := by omega
        iterate 2 refine x_step rfl ?_
        refine x_callvE rfl (q209 (d := 2) B jw (by omega) (by omega)) rfl rfl rfl ?_
        refine x_step rfl ?_
        exact x_ret rfl rfl ⟨rfl, by rw [wvL, hk.2.1, hk.2.2.2]; rfl⟩
      · subst h3
        iterate 3 refine x_step rfl ?_
        refine x_callvE rfl (q209 (d := 2) B jk (by omega) (by omega)) rfl rfl rfl ?_
        refine x_step rfl ?_
        exact x_ret rfl rfl ⟨rfl, by rw [wvL, hk.1, hk.2.2.1]; rfl⟩
  · rw [tvL, if_neg (by omega)]
    iterate 3 refine x_step rfl ?_
    refine x_callvE rfl (q178 (d := 1) B 0 0 (by omega) (by omega)) rfl rfl rfl ?_
    refine x_step rfl ?_
    exact x_ret rfl rfl ⟨rfl, rfl⟩
end ER1
