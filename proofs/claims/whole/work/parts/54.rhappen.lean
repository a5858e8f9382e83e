section ER2
variable {l : Launch} {d L : Nat} {xs : Nat → Int32} {tc : Int32} {tf : (Nat → Int32)} {bl : Int32} {bf : (Nat → Int32)} {of : Int32} {oc : Int32} {ol : Int32} {on : Int32} {ml : (Nat → Int32)} {mx : (Nat → Int32)} {mb : (Nat → Nat → Int32)} {kc : Int32} {kh : (Nat → Nat)} {kr : (Nat → Nat → Int32)} {ka : (Nat → Int32)} {gl : Int32} {gx : Int32} {gb : (Nat → Int32)} {ls : Int32} {lq : Int32} {lk : Int32} {lg : Int32} {lh : Int32} {vf : (Nat → Int32)} {vs : (Nat → Int32)} {vb : (Nat → Nat → Int32)} {nv : (Nat → Int32)} {nw : (Nat → Nat → Int32)} {nr : (Nat → Int32)} {nq : (Nat → Nat → Int32)} {ne : (Nat → Int32)} {io : Int32} {sp : Int32} {ch : Int32} {wt : Int32} {xf : (Nat → Int32)} {xz : (Nat → Int32)} {xt : (Nat → Int32)} {xb : (Nat → Int32)} {xc : Int32} {th : Int32} {jl : Int32} {js : Int32} {jh : Int32} {jb : (Nat → Int32)} {jc : Int32} {jr : (Nat → Int32)} {jq : Int32} {jQ : (Nat → Int32)} {jz : (Nat → Int32)} {jf : (Nat → Int32)} {jo : Int32} {jn : Int32} {jt : Int32} {jH : (Nat → Int32)} {jA : (Nat → Int32)} {jm : Int32} {jy : (Nat → Int32)} {je : Int32} {jp : Int32} {jk : Int32} {jx : Int32} {jw : Int32} {ju : Int32} {jF : (Nat → Int32)} {jL : (Nat → Int32)} {jO : (Nat → Int32)} {jS : (Nat → Int32)} {jT : (Nat → Int32)} {jU : (Nat → Int32)} {jV : (Nat → Int32)} {jW : (Nat → Int32)} {ja : Int32} {jG : (Nat → Int32)} {ov : (Nat → Value)} {g2 : xm_H}
variable {cr cv sz : Nat → Nat} {rp vp : Nat → Nat → Nat} {β : Nat → Nat} {e : Nat}
/-- reports, events and variables of the reference as numbers -/
def rlk (jU jV jS jT jL : Nat → Int32) (cr : Nat → Nat) (rp : Nat → Nat → Nat) (cv : Nat → Nat) (vp : Nat → Nat → Nat) (sz : Nat → Nat) : Prop := xlk jU (fun e i => jV (2 * e + i)) jS (fun r i => jT (3 * r + i)) jL cr rp cv vp sz
theorem q212_in {Q : xm_Q} (h : rlk jU jV jS jT jL cr rp cv vp sz) (hk : rvk jF sz) (B : List Int32) (e i r : Nat) (hd : 4 ≤ d) (h1 : 1 ≤ r) (h4 : r ≤ 4) (hB : B.length < 2 ^ 24) (hK : XG l xm_any 212 d 0 0 147 [some (.ref 103), some (.int (nI e)), some (.int (nI i)), some (.int (nI r)), some (.int (nI (cv r)))] [] (cw L xs (rw th jl js jh jb jc jr jq jQ jz jf jo jn jt jH jA (nI (B ++ xcat (fun i => wvL jF sz (rvb jk jw jO) (vp r i)) (cv r)).length) (xrbd jy (B ++ xcat (fun i => wvL jF sz (rvb jk jw jO) (vp r i)) (cv r))) je jp jk jx jw ju jF jL jO jS jT jU jV jW ja jG ov g2) tc tf bl bf of oc ol on ml mx mb kc kh kr ka gl gx gb ls lq lk lg lh vf vs vb nv nw nr nq ne io sp ch wt xf xz xt xb xc) Q) : ∀ (m j : Nat), j + m = cv r → XG l xm_any 212 d 0 0 115 [some (.ref 103), some (.int (nI e)), some (.int (nI i)), some (.int (nI r)), some (.int (nI j))] [] (cw L xs (rw th jl js jh jb jc jr jq jQ jz jf jo jn jt jH jA (nI (B ++ xcat (fun i => wvL jF sz (rvb jk jw jO) (vp r i)) j).length) (xrbd jy (B ++ xcat (fun i => wvL jF sz (rvb jk jw jO) (vp r i)) j)) je jp jk jx jw ju jF jL jO jS jT jU jV jW ja jG ov g2) tc tf bl bf of oc ol on ml mx mb kc kh kr ka gl gx gb ls lq lk lg lh vf vs vb nv nw nr nq ne io sp ch wt xf xz xt xb xc) Q := by
  obtain ⟨a1, a2, a3⟩ := h.2.1 r h1 h4
  intro m
  induction m with
  | zero =>
    intro j hj
    obtain rfl : j = cv r := by omega
    iterate 4 refine x_step rfl ?_
    refine x_ialdN (r) rfl rfl rfl (by omega) ?_
    refine x_icmpN_ge (cv r) (cv r) rfl rfl a1 (fun _ => ?_) (fun q => False.elim (by omega))
    exact hK
  | succ m ih =>
    intro j hj
    obtain ⟨b4, a5⟩ := a3 j (by omega)
    have a4 : jT (3 * r + j) = nI (vp r j) := b4
    iterate 4 refine x_step rfl ?_
    refine x_ialdN (r) rfl rfl rfl (by omega) ?_
    refine x_icmpN_ge (j) (cv r) rfl rfl a1 (fun q => False.elim (by omega)) (fun _ => ?_)
    iterate 8 refine x_step rfl ?_
    refine x_ialdN (3 * r + j) rfl rfl (by rw [← nI_add, ← pk_mul] <;> rfl) (by omega) ?_
    refine xm_ss (st' := [.int (nI (vp r j)), .ref 103]) (by rw [a4] <;> rfl) ?_
    refine x_callvE rfl (q208 (d := 3) (B ++ xcat (fun i => wvL jF sz (rvb jk jw jO) (vp r i)) j) (vp r j) (by omega) (by omega) h.2.2 hk (by have := xcat_len (fun i => wvL jF sz (rvb jk jw jO) (vp r i)) 10 j (fun i hi => by show (wvL jF sz (rvb jk jw jO) (vp r i)).length ≤ 10; rw [wvL_len]; have := (h.2.2 _ (a3 i (by omega)).2).2; omega); rw [List.length_append]; omega)) rfl rfl rfl ?_
    iterate 2 refine x_step rfl ?_
    refine xm_ls (pl' := [some (.ref 103), some (.int (nI e)), some (.int (nI i)), some (.int (nI r)), some (.int (nI (j + 1)))]) (by rw [nI_succ] <;> rfl) ?_
    refine xm_hs (hp' := (cw L xs (rw th jl js jh jb jc jr jq jQ jz jf jo jn jt jH jA (nI (B ++ xcat (fun i => wvL jF sz (rvb jk jw jO) (vp r i)) (j + 1)).length) (xrbd jy (B ++ xcat (fun i => wvL jF sz (rvb jk jw jO) (vp r i)) (j + 1))) je jp jk jx jw ju jF jL jO jS jT jU jV jW ja jG ov g2) tc tf bl bf of oc ol on ml mx mb kc kh kr ka gl gx gb ls lq lk lg lh vf vs vb nv nw nr nq ne io sp ch wt xf xz xt xb xc)) (by rw [tvL, if_pos a5, List.append_assoc] <;> rfl) ?_
    exact ih (j + 1) (by omega)
theorem q212_loop {Q : xm_Q} (h : rlk jU jV jS jT jL cr rp cv vp sz) (hk : rvk jF sz) (B : List Int32) (e : Nat) (hd : 4 ≤ d) (h1 : 1 ≤ e) (h5 : e ≤ 5) (hB : B.length < 2 ^ 20) (hK : ∀ o3 o4 : Option Value, XG l xm_any 212 d 0 0 153 [some (.ref 103), some (.int (nI e)), some (.int (nI (cr e))), o3, o4] [] (cw L xs (rw th jl js jh jb jc jr jq jQ jz jf jo jn jt jH jA (nI (B ++ xcat (fun i => rpL jF sz (rvb jk jw jO) cv vp (rp e i)) (cr e)).length) (xrbd jy (B ++ xcat (fun i => rpL jF sz (rvb jk jw jO) cv vp (rp e i)) (cr e))) je jp jk jx jw ju jF jL jO jS jT jU jV jW ja jG ov g2) tc tf bl bf of oc ol on ml mx mb kc kh kr ka gl gx gb ls lq lk lg lh vf vs vb nv nw nr nq ne io sp ch wt xf xz xt xb xc) Q) : ∀ (m i : Nat) (o3 o4 : Option Value), i + m = cr e → XG l xm_any 212 d 0 0 69 [some (.ref 103), some (.int (nI e)), some (.int (nI i)), o3, o4] [] (cw L xs (rw th jl js jh jb jc jr jq jQ jz jf jo jn jt jH jA (nI (B ++ xcat (fun i => rpL jF sz (rvb jk jw jO) cv vp (rp e i)) i).length) (xrbd jy (B ++ xcat (fun i => rpL jF sz (rvb jk jw jO) cv vp (rp e i)) i)) je jp jk jx jw ju jF jL jO jS jT jU jV jW ja jG ov g2) tc tf bl bf of oc ol on ml mx mb kc kh kr ka gl gx gb ls lq lk lg lh vf vs vb nv nw nr nq ne io sp ch wt xf xz xt xb xc) Q := by
  obtain ⟨a1, a2, a3⟩ := h.1 e h1 h5
  intro m
  induction m with
  | zero =>
    intro i o3 o4 hi
    obtain rfl : i = cr e := by omega
    iterate 4 refine x_step rfl ?_
    refine x_ialdN (e) rfl rfl rfl (by omega) ?_
    refine x_icmpN_ge (cr e) (cr e) rfl rfl a1 (fun _ => ?_) (fun q => False.elim (by omega))
    exact hK _ _
  | succ m ih =>
    intro i o3 o4 hi
    obtain ⟨b4, a5, a6⟩ := a3 i (by omega)
    have a4 : jV (2 * e + i) = nI (rp e i) := b4
    obtain ⟨a7, a8, a9⟩ := h.2.1 _ a5 a6
    have hlen : (B ++ xcat (fun i => rpL jF sz (rvb jk jw jO) cv vp (rp e i)) i).length < 2 ^ 21 := by
      have := xcat_len (fun i => rpL jF sz (rvb jk jw jO) cv vp (rp e i)) 37 i (fun k hk => rpL_len h (a3 k (by omega)).2.1 (a3 k (by omega)).2.2)
      rw [List.length_append]
      omega
    iterate 4 refine x_step rfl ?_
    refine x_ialdN (e) rfl rfl rfl (by omega) ?_
    refine x_icmpN_ge (i) (cr e) rfl rfl a1 (fun q => False.elim (by omega)) (fun _ => ?_)
    iterate 7 refine x_step rfl ?_
    refine x_ialdN (2 * e + i) rfl rfl (by rw [← nI_add, ← pk_mul] <;> rfl) (by omega) ?_
    refine x_step rfl ?_
    refine xm_ls (pl' := [some (.ref 103), some (.int (nI e)), some (.int (nI i)), some (.int (nI (rp e i))), o4]) (by rw [a4] <;> rfl) ?_
    iterate 3 refine x_step rfl ?_
    refine x_callvE rfl (q178 (d := 1) (B ++ xcat (fun i => rpL jF sz (rvb jk jw jO) cv vp (rp e i)) i) 0 2 (by omega) (by omega)) rfl rfl rfl ?_
    iterate 2 refine x_step rfl ?_
    refine x_callvE rfl (q209 (d := 2) ((B ++ xcat (fun i => rpL jF sz (rvb jk jw jO) cv vp (rp e i)) i) ++ [1, 2]) (nI (rp e i)) (by omega) (by rw [List.length_append]; simp only [List.length_cons, List.length_nil]; omega)) rfl rfl rfl ?_
    iterate 5 refine x_step rfl ?_
    refine x_ialdN (rp e i) rfl rfl rfl (by omega) ?_
    refine x_callvE rfl (q178 (d := 1) ((B ++ xcat (fun i => rpL jF sz (rvb jk jw jO) cv vp (rp e i)) i) ++ [1, 2] ++ [165, 1, nI (rp e i)]) 0 (jS (rp e i)) (by omega) (by rw [List.length_append, List.length_append]; simp only [List.length_cons, List.length_nil]; omega)) rfl rfl rfl ?_
    iterate 2 refine x_step rfl ?_
    refine xm_ls (pl' := [some (.ref 103), some (.int (nI e)), some (.int (nI i)), some (.int (nI (rp e i))), some (.int (nI 0))]) rfl ?_
    refine xm_hs (hp' := (cw L xs (rw th jl js jh jb jc jr jq jQ jz jf jo jn jt jH jA (nI ((B ++ xcat (fun i => rpL jF sz (rvb jk jw jO) cv vp (rp e i)) i) ++ [1, 2, 165, 1, nI (rp e i), 1, nI (cv (rp e i))] ++ xcat (fun k => wvL jF sz (rvb jk jw jO) (vp (rp e i) k)) 0).length) (xrbd jy ((B ++ xcat (fun i => rpL jF sz (rvb jk jw jO) cv vp (rp e i)) i) ++ [1, 2, 165, 1, nI (rp e i), 1, nI (cv (rp e i))] ++ xcat (fun k => wvL jF sz (rvb jk jw jO) (vp (rp e i) k)) 0)) je jp jk jx jw ju jF jL jO jS jT jU jV jW ja jG ov g2) tc tf bl bf of oc ol on ml mx mb kc kh kr ka gl gx gb ls lq lk lg lh vf vs vb nv nw nr nq ne io sp ch wt xf xz xt xb xc)) (by rw [a7, xcat_nil, List.append_assoc, List.append_assoc] <;> rfl) ?_
    refine q212_in h hk ((B ++ xcat (fun i => rpL jF sz (rvb jk jw jO) cv vp (rp e i)) i) ++ [1, 2, 165, 1, nI (rp e i), 1, nI (cv (rp e i))]) e i (rp e i) hd a5 a6 (by rw [List.length_append]; simp only [List.length_cons, List.length_nil]; omega) ?_ (cv (rp e i)) 0 (by omega)
    iterate 2 refine x_step rfl ?_
    refine xm_ls (pl' := [some (.ref 103), some (.int (nI e)), some (.int (nI (i + 1))), some (.int (nI (rp e i))), some (.int (nI (cv (rp e i))))]) (by rw [nI_succ] <;> rfl) ?_
    refine xm_hs (hp' := (cw L xs (rw th jl js jh jb jc jr jq jQ jz jf jo jn jt jH jA (nI (B ++ xcat (fun i => rpL jF sz (rvb jk jw jO) cv vp (rp e i)) (i + 1)).length) (xrbd jy (B ++ xcat (fun i => rpL jF sz (rvb jk jw jO) cv vp (rp e i)) (i + 1))) je jp jk jx jw ju jF jL jO jS jT jU jV jW ja jG ov g2) tc tf bl bf of oc ol on ml mx mb kc kh kr ka gl gx gb ls lq lk lg lh vf vs vb nv nw nr nq ne io sp ch wt xf xz xt xb xc)) (by rw [List.append_assoc, List.append_assoc] <;> rfl) ?_
    exact ih (i + 1) _ _ (by omega)
/-- FabLinkModel.happen -/
theorem q212 (h : rlk jU jV jS jT jL cr rp cv vp sz) (hk : rvk jF sz) (q n e : Nat) (hd : 5 ≤ d) (hq : q ≤ 8) (hn : n < 65536) (h1 : 1 ≤ e) (h5 : e ≤ 5) (hg : xrg jW jU jp jk (nI e)) : XM l 212 d 0 0 [.ref 103, .int (nI e)] (cw L xs (rw th jl js jh jb jc jr (nI q) jQ jz jf jo (nI n) jt jH jA jm jy je jp jk jx jw ju jF jL jO jS jT jU jV jW ja jG ov g2) tc tf bl bf of oc ol on ml mx mb kc kh kr ka gl gx gb ls lq lk lg lh vf vs vb nv nw nr nq ne io sp ch wt xf xz xt xb xc) (xm_is (some (.int 1)) (cw L xs (rw th jl js jh jb jc jr (nI (xrq q)) (xrQ q jQ (xrbd jy (evL jF sz (rvb jk jw jO) cv vp cr rp e)) (evL jF sz (rvb jk jw jO) cv vp cr rp e).length (134) (11) (0) (0) (nI ((n + 1) % 65536 / 256)) (nI ((n + 1) % 65536 % 256))) (xrz q jz (evL jF sz (rvb jk jw jO) cv vp cr rp e).length) (xrf q jf) (xro q jo) (nI ((n + 1) % 65536)) jt jH jA (nI (evL jF sz (rvb jk jw jO) cv vp cr rp e).length) (xrbd jy (evL jF sz (rvb jk jw jO) cv vp cr rp e)) je jp jk jx jw ju jF jL jO jS jT jU jV jW ja jG ov g2) tc tf bl bf of oc ol on ml mx mb kc kh kr ka gl gx gb ls lq lk lg lh vf vs vb nv nw nr nq ne io sp ch wt xf xz xt xb xc)) := by
  refine XE (pl := [some (.ref 103), some (.int (nI e)), none, none, none]) xg212 rfl ?_
  have hgc : (nI e).toNatClampNeg = e := nI_clamp (by omega)
  rw [xrg, hgc] at hg
  iterate 3 refine x_step rfl ?_
  refine x_zaldN (e) rfl rfl rfl (by omega) ?_
  refine x_if_eq rfl (fun q => absurd q hg.1) (fun _ => ?_)
  iterate 3 refine x_step rfl ?_
  refine x_ialdN (e) rfl rfl rfl (by omega) ?_
  refine x_if_eq rfl (fun q => absurd q hg.2.1) (fun _ => ?_)
  iterate 2 refine x_step rfl ?_
  refine x_if_eq rfl (fun q => absurd q hg.2.2.1) (fun _ => ?_)
  iterate 3 refine x_step rfl ?_
  refine x_icmp_ge rfl (fun _ => ?_) (fun q => absurd hg.2.2.2 q)
  iterate 3 refine x_step rfl ?_
  refine xm_hs (hp' := (cw L xs (rw th jl js jh jb jc jr (nI q) jQ jz jf jo (nI n) jt jH jA (nI ([] : List Int32).length) (xrbd jy ([] : List Int32)) je jp jk jx jw ju jF jL jO jS jT jU jV jW ja jG ov g2) tc tf bl bf of oc ol on ml mx mb kc kh kr ka gl gx gb ls lq lk lg lh vf vs vb nv nw nr nq ne io sp ch wt xf xz xt xb xc)) (by rw [xrbd_nil] <;> rfl) ?_
  iterate 3 refine x_step rfl ?_
  refine x_callvE rfl (q178 (d := 1) [] 0 3 (by omega) (by decide)) rfl rfl rfl ?_
  iterate 2 refine x_step rfl ?_
  refine x_callvE rfl (q209 (d := 2) [1, 3] 0 (by omega) (by decide)) rfl rfl rfl ?_
  iterate 2 refine x_step rfl ?_
  refine x_callvE rfl (q209 (d := 2) [1, 3, 165, 1, 0] (nI e) (by omega) (by decide)) rfl rfl rfl ?_
  iterate 5 refine x_step rfl ?_
  refine x_ialdN (e) rfl rfl rfl (by omega) ?_
  refine x_callvE rfl (q178 (d := 1) [1, 3, 165, 1, 0, 165, 1, nI e] 0 (jU e) (by omega) (by simp only [List.length_cons, List.length_nil]; decide)) rfl rfl rfl ?_
  iterate 2 refine x_step rfl ?_
  refine xm_ls (pl' := [some (.ref 103), some (.int (nI e)), some (.int (nI 0)), none, none]) rfl ?_
  refine xm_hs (hp' := (cw L xs (rw th jl js jh jb jc jr (nI q) jQ jz jf jo (nI n) jt jH jA (nI ([1, 3, 165, 1, 0, 165, 1, nI e, 1, nI (cr e)] ++ xcat (fun i => rpL jF sz (rvb jk jw jO) cv vp (rp e i)) 0).length) (xrbd jy ([1, 3, 165, 1, 0, 165, 1, nI e, 1, nI (cr e)] ++ xcat (fun i => rpL jF sz (rvb jk jw jO) cv vp (rp e i)) 0)) je jp jk jx jw ju jF jL jO jS jT jU jV jW ja jG ov g2) tc tf bl bf of oc ol on ml mx mb kc kh kr ka gl gx gb ls lq lk lg lh vf vs vb nv nw nr nq ne io sp ch wt xf xz xt xb xc)) (by rw [(h.1 e h1 h5).1] <;> rfl) ?_
  refine q212_loop h hk [1, 3, 165, 1, 0, 165, 1, nI e, 1, nI (cr e)] e (by omega) h1 h5 (by simp only [List.length_cons, List.length_nil]; decide) (fun o3 o4 => ?_) (cr e) 0 none none (by omega)
  refine xm_hs (hp' := (cw L xs (rw th jl js jh jb jc jr (nI q) jQ jz jf jo (nI n) jt jH jA (nI (evL jF sz (rvb jk jw jO) cv vp cr rp e).length) (xrbd jy (evL jF sz (rvb jk jw jO) cv vp cr rp e)) je jp jk jx jw ju jF jL jO jS jT jU jV jW ja jG ov g2) tc tf bl bf of oc ol on ml mx mb kc kh kr ka gl gx gb ls lq lk lg lh vf vs vb nv nw nr nq ne io sp ch wt xf xz xt xb xc)) rfl ?_
  iterate 3 refine x_step rfl ?_
  refine x_callvE rfl (q180 (d := 1) (evL jF sz (rvb jk jw jO) cv vp cr rp e) q n 134 11 (by omega) hq (by have := evL_len (vf := jF) (vb := rvb jk jw jO) h h1 h5; omega) hn) rfl rfl rfl ?_
  refine x_step rfl ?_
  exact x_iret rfl rfl rfl ⟨rfl, rfl⟩
/-- FabLinkModel.become -/
theorem q211 {h9 : xm_H} {dd : Nat} {r : Int32} (x : Int32) (h : ¬ x = jk) (hdd : dd < d) (hM : XM l 212 dd 0 0 [.ref 103, .int 1] (cw L xs (rw th jl js jh jb jc jr jq jQ jz jf jo jn jt jH jA jm jy je jp (x) jx jw ju jF jL jO jS jT jU jV jW ja jG ov g2) tc tf bl bf of oc ol on ml mx mb kc kh kr ka gl gx gb ls lq lk lg lh vf vs vb nv nw nr nq ne io sp ch wt xf xz xt xb xc) (xm_is (some (.int r)) h9)) : XM l 211 d 0 0 [.ref 103, .int x] (cw L xs (rw th jl js jh jb jc jr jq jQ jz jf jo jn jt jH jA jm jy je jp jk jx jw ju jF jL jO jS jT jU jV jW ja jG ov g2) tc tf bl bf of oc ol on ml mx mb kc kh kr ka gl gx gb ls lq lk lg lh vf vs vb nv nw nr nq ne io sp ch wt xf xz xt xb xc) (xm_is none h9) := by
  refine XE (pl := [some (.ref 103), some (.int x), none, none]) xg211 rfl ?_
  iterate 3 refine x_step rfl ?_
  refine x_icmp_eq rfl (fun q => absurd q (h)) (fun _ => ?_)
  iterate 7 refine x_step rfl ?_
  refine x_if_eq rfl (fun q => absurd q (by decide)) (fun _ => ?_)
  refine xm_hs (hp' := (cw L xs (rw th jl js jh jb jc jr jq jQ jz jf jo jn jt jH jA jm jy je jp (x) jx jw ju jF jL jO jS jT jU jV jW ja jG ov g2) tc tf bl bf of oc ol on ml mx mb kc kh kr ka gl gx gb ls lq lk lg lh vf vs vb nv nw nr nq ne io sp ch wt xf xz xt xb xc)) rfl ?_
  iterate 2 refine x_step rfl ?_
  refine x_callvE rfl (hM) rfl rfl rfl ?_
  refine x_step rfl ?_
  exact x_ret rfl rfl ⟨rfl, rfl⟩
/-- FabLinkModel.toHost -/
theorem q214 {h8 h9 : xm_H} {fs : List Value} {dd : Nat} (h0 : ¬ jk = 0) (h1 : jk ≤ 1) (hdd : dd < d) (hM : XM l 211 dd 0 0 [.ref 103, .int jx] (cw L xs (rw th jl js jh jb jc jr jq jQ jz jf jo jn jt jH jA jm jy je jp jk jx jw ju jF jL jO jS jT jU jV jW ja jG ov g2) tc tf bl bf of oc ol on ml mx mb kc kh kr ka gl gx gb ls lq lk lg lh vf vs vb nv nw nr nq ne io sp ch wt xf xz xt xb xc) (xm_is none h8)) (e8 : h8[103]? = some (xO 12 fs)) (hR : XM l 213 dd 0 0 [.ref 103, .int 0] h8 (xm_is none h9)) : XM l 214 d 0 0 [.ref 103] (cw L xs (rw th jl js jh jb jc jr jq jQ jz jf jo jn jt jH jA jm jy je jp jk jx jw ju jF jL jO jS jT jU jV jW ja jG ov g2) tc tf bl bf of oc ol on ml mx mb kc kh kr ka gl gx gb ls lq lk lg lh vf vs vb nv nw nr nq ne io sp ch wt xf xz xt xb xc) (xm_is none h9) := by
  refine XE (pl := [some (.ref 103), none]) xg214 rfl ?_
  iterate 2 refine x_step rfl ?_
  refine x_if_ne rfl (fun _ => ?_) (fun q => absurd q h0)
  iterate 3 refine x_step rfl ?_
  refine x_icmp_le rfl (fun _ => ?_) (fun q => absurd h1 q)
  iterate 3 refine x_step rfl ?_
  refine x_if_ne rfl (fun q => absurd (by decide) q) (fun _ => ?_)
  iterate 3 refine x_step rfl ?_
  refine x_callvE rfl (hM) rfl rfl rfl ?_
  iterate 2 refine x_step rfl ?_
  refine x_callvE rfl hR rfl rfl e8 ?_
  exact x_ret rfl rfl ⟨rfl, rfl⟩
/-- FabLinkModel.toHost -/
theorem q214a {h9 : xm_H} {dd : Nat} (h0 : jk = 0) (hdd : dd < d) (hR : XM l 213 dd 0 0 [.ref 103, .int 1] (cw L xs (rw th jl js jh jb jc jr jq jQ jz jf jo jn jt jH jA jm jy je jp jk jx jw ju jF jL jO jS jT jU jV jW ja jG ov g2) tc tf bl bf of oc ol on ml mx mb kc kh kr ka gl gx gb ls lq lk lg lh vf vs vb nv nw nr nq ne io sp ch wt xf xz xt xb xc) (xm_is none h9)) : XM l 214 d 0 0 [.ref 103] (cw L xs (rw th jl js jh jb jc jr jq jQ jz jf jo jn jt jH jA jm jy je jp jk jx jw ju jF jL jO jS jT jU jV jW ja jG ov g2) tc tf bl bf of oc ol on ml mx mb kc kh kr ka gl gx gb ls lq lk lg lh vf vs vb nv nw nr nq ne io sp ch wt xf xz xt xb xc) (xm_is none h9) := by
  refine XE (pl := [some (.ref 103), none]) xg214 rfl ?_
  iterate 2 refine x_step rfl ?_
  refine x_if_ne rfl (fun q => absurd h0 q) (fun _ => ?_)
  iterate 4 refine x_step rfl ?_
  refine x_if_ne rfl (fun _ => ?_) (fun q => absurd q (by decide))
  iterate 2 refine x_step rfl ?_
  refine x_callvE rfl (hR) rfl rfl rfl ?_
  exact x_ret rfl rfl ⟨rfl, rfl⟩
/-- FabLinkModel.toHost -/
theorem q214b {h9 : xm_H} {dd : Nat} (h0 : ¬ jk = 0) (h1 : ¬ jk ≤ 1) (hdd : dd < d) (hR : XM l 213 dd 0 0 [.ref 103, .int 2] (cw L xs (rw th jl js jh jb jc jr jq jQ jz jf jo jn jt jH jA jm jy je jp jk jx jw ju jF jL jO jS jT jU jV jW ja jG ov g2) tc tf bl bf of oc ol on ml mx mb kc kh kr ka gl gx gb ls lq lk lg lh vf vs vb nv nw nr nq ne io sp ch wt xf xz xt xb xc) (xm_is none h9)) : XM l 214 d 0 0 [.ref 103] (cw L xs (rw th jl js jh jb jc jr jq jQ jz jf jo jn jt jH jA jm jy je jp jk jx jw ju jF jL jO jS jT jU jV jW ja jG ov g2) tc tf bl bf of oc ol on ml mx mb kc kh kr ka gl gx gb ls lq lk lg lh vf vs vb nv nw nr nq ne io sp ch wt xf xz xt xb xc) (xm_is none h9) := by
  refine XE (pl := [some (.ref 103), none]) xg214 rfl ?_
  iterate 2 refine x_step rfl ?_
  refine x_if_ne rfl (fun _ => ?_) (fun q => absurd q h0)
  iterate 3 refine x_step rfl ?_
  refine x_icmp_le rfl (fun q => absurd q h1) (fun _ => ?_)
  iterate 4 refine x_step rfl ?_
  refine x_if_ne rfl (fun _ => ?_) (fun q => absurd q (by decide))
  iterate 2 refine x_step rfl ?_
  refine x_callvE rfl (hR) rfl rfl rfl ?_
  exact x_ret rfl rfl ⟨rfl, rfl⟩
end ER2
