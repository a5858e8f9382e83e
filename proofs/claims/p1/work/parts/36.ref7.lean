section RL
variable {l : Launch} {d L : Nat} {xs : Nat → Int32} {tc : Int32} {tf : (Nat → Int32)} {bl : Int32} {bf : (Nat → Int32)} {of : Int32} {oc : Int32} {ol : Int32} {on : Int32} {ml : (Nat → Int32)} {mx : (Nat → Int32)} {mb : (Nat → Nat → Int32)} {kc : Int32} {kh : (Nat → Nat)} {kr : (Nat → Nat → Int32)} {ka : (Nat → Int32)} {gl : Int32} {gx : Int32} {gb : (Nat → Int32)} {ls : Int32} {lq : Int32} {lk : Int32} {lg : Int32} {lh : Int32} {vf : (Nat → Int32)} {vs : (Nat → Int32)} {vb : (Nat → Nat → Int32)} {nv : (Nat → Int32)} {nw : (Nat → Nat → Int32)} {nr : (Nat → Int32)} {nq : (Nat → Nat → Int32)} {ne : (Nat → Int32)} {io : Int32} {sp : Int32} {ch : Int32} {wt : Int32} {xf : (Nat → Int32)} {xz : (Nat → Int32)} {xt : (Nat → Int32)} {xb : (Nat → Int32)} {xc : Int32} {th : Int32} {jl : Int32} {js : Int32} {jh : Int32} {jb : (Nat → Int32)} {jc : Int32} {jr : (Nat → Int32)} {jq : Int32} {jQ : (Nat → Int32)} {jz : (Nat → Int32)} {jf : (Nat → Int32)} {jo : Int32} {jn : Int32} {jt : Int32} {jH : (Nat → Int32)} {jA : (Nat → Int32)} {jm : Int32} {jy : (Nat → Int32)} {je : Int32} {jp : Int32} {jk : Int32} {jx : Int32} {jw : Int32} {ju : Int32} {jF : (Nat → Int32)} {jL : (Nat → Int32)} {jO : (Nat → Int32)} {jS : (Nat → Int32)} {jT : (Nat → Int32)} {jU : (Nat → Int32)} {jV : (Nat → Int32)} {jW : (Nat → Int32)} {ja : Int32} {jG : (Nat → Int32)} {ov : (Nat → Value)} {g2 : xm_H}
/-- FabLinkModel.octet -/
theorem m240 (v k n : Nat) (hv : v < 6) (hk : k < n) (hn : n ≤ 8) (hL : jL v = nI n) : XM l 240 d 0 0 [.ref 103, .int (nI v), .int (nI k)] (cw L xs (rw th jl js jh jb jc jr jq jQ jz jf jo jn jt jH jA jm jy je jp jk jx jw ju jF jL jO jS jT jU jV jW ja jG ov g2) tc tf bl bf of oc ol on ml mx mb kc kh kr ka gl gx gb ls lq lk lg lh vf vs vb nv nw nr nq ne io sp ch wt xf xz xt xb xc) (xm_is (some (.int (if v = 0 then jk else if v = 1 then jw else jO (8 * v + k)))) (cw L xs (rw (0) jl js jh jb jc jr jq jQ jz jf jo jn jt jH jA jm jy je jp jk jx jw ju jF jL jO jS jT jU jV jW ja jG ov g2) tc tf bl bf of oc ol on ml mx mb kc kh kr ka gl gx gb ls lq lk lg lh vf vs vb nv nw nr nq ne io sp ch wt xf xz xt xb xc)) := by
  refine XE (pl := [some (.ref 103), some (.int (nI v)), some (.int (nI k))]) xg240 rfl ?_
  iterate 2 refine x_step rfl ?_
  refine x_ifN_lt (v) rfl rfl (fun q => False.elim (by omega)) (fun _ => ?_)
  iterate 2 refine x_step rfl ?_
  refine x_icmpN_gt (v) (5) rfl rfl rfl (fun q => False.elim (by omega)) (fun _ => ?_)
  refine x_step rfl ?_
  refine x_ifN_lt (k) rfl rfl (fun q => False.elim (by omega)) (fun _ => ?_)
  iterate 4 refine x_step rfl ?_
  refine x_ifN_lt (v) rfl rfl (fun q => False.elim (by omega)) (fun _ => ?_)
  iterate 2 refine x_step rfl ?_
  refine x_icmpN_le (v) (5) rfl rfl rfl (fun _ => ?_) (fun q => False.elim (by omega))
  refine x_step rfl ?_
  refine x_ialdN (v) rfl rfl rfl (by omega) ?_
  refine x_icmpN_lt (k) (n) rfl rfl hL (fun _ => ?_) (fun q => False.elim (by omega))
  iterate 2 refine x_step rfl ?_
  refine xm_hs (hp' := (cw L xs (rw (0) jl js jh jb jc jr jq jQ jz jf jo jn jt jH jA jm jy je jp jk jx jw ju jF jL jO jS jT jU jV jW ja jG ov g2) tc tf bl bf of oc ol on ml mx mb kc kh kr ka gl gx gb ls lq lk lg lh vf vs vb nv nw nr nq ne io sp ch wt xf xz xt xb xc)) rfl ?_
  iterate 2 refine x_step rfl ?_
  refine x_if_eq rfl (fun _ => ?_) (fun q => absurd (by decide) q)
  refine x_step rfl ?_
  refine x_ifN_ne (v) rfl rfl (fun h => ?_) (fun h => ?_)
  · iterate 2 refine x_step rfl ?_
    refine x_icmpN_ne (v) (1) rfl rfl rfl (fun h2 => ?_) (fun h2 => ?_)
    · iterate 7 refine x_step rfl ?_
      refine x_ialdN (8 * v + k) rfl rfl (by rw [← nI_add, ← pk_mul] <;> rfl) (by omega) ?_
      exact x_iret rfl rfl rfl ⟨by rw [if_neg h, if_neg h2], rfl⟩
    · iterate 3 refine x_step rfl ?_
      exact x_iret rfl rfl rfl ⟨by rw [if_neg h, if_pos h2], rfl⟩
  · iterate 3 refine x_step rfl ?_
    exact x_iret rfl rfl rfl ⟨by rw [if_pos h], rfl⟩
/-- FabLinkModel.octet -/
theorem m240t (x y : Int32) (h : x < 0 ∨ 5 < x ∨ y < 0 ∨ ((∃ v : Nat, v < 6 ∧ x = nI v) ∧ jL x.toNatClampNeg ≤ y)) : XM l 240 d 0 0 [.ref 103, .int x, .int y] (cw L xs (rw th jl js jh jb jc jr jq jQ jz jf jo jn jt jH jA jm jy je jp jk jx jw ju jF jL jO jS jT jU jV jW ja jG ov g2) tc tf bl bf of oc ol on ml mx mb kc kh kr ka gl gx gb ls lq lk lg lh vf vs vb nv nw nr nq ne io sp ch wt xf xz xt xb xc) (xm_is (some (.int 0)) (cw L xs (rw (1) jl js jh jb jc jr jq jQ jz jf jo jn jt jH jA jm jy je jp jk jx jw ju jF jL jO jS jT jU jV jW ja jG ov g2) tc tf bl bf of oc ol on ml mx mb kc kh kr ka gl gx gb ls lq lk lg lh vf vs vb nv nw nr nq ne io sp ch wt xf xz xt xb xc)) := by
  refine XE (pl := [some (.ref 103), some (.int x), some (.int y)]) xg240 rfl ?_
  iterate 2 refine x_step rfl ?_
  refine x_if_lt rfl (fun h1 => ?_) (fun h1 => ?_)
  · iterate 3 refine x_step rfl ?_
    refine xm_hs (hp' := (cw L xs (rw (1) jl js jh jb jc jr jq jQ jz jf jo jn jt jH jA jm jy je jp jk jx jw ju jF jL jO jS jT jU jV jW ja jG ov g2) tc tf bl bf of oc ol on ml mx mb kc kh kr ka gl gx gb ls lq lk lg lh vf vs vb nv nw nr nq ne io sp ch wt xf xz xt xb xc)) rfl ?_
    iterate 2 refine x_step rfl ?_
    refine x_if_eq rfl (fun q => absurd q (by decide)) (fun _ => ?_)
    refine x_step rfl ?_
    exact x_iret rfl rfl rfl ⟨rfl, rfl⟩
  · iterate 2 refine x_step rfl ?_
    refine x_icmp_gt rfl (fun h2 => ?_) (fun h2 => ?_)
    · iterate 3 refine x_step rfl ?_
      refine xm_hs (hp' := (cw L xs (rw (1) jl js jh jb jc jr jq jQ jz jf jo jn jt jH jA jm jy je jp jk jx jw ju jF jL jO jS jT jU jV jW ja jG ov g2) tc tf bl bf of oc ol on ml mx mb kc kh kr ka gl gx gb ls lq lk lg lh vf vs vb nv nw nr nq ne io sp ch wt xf xz xt xb xc)) rfl ?_
      iterate 2 refine x_step rfl ?_
      refine x_if_eq rfl (fun q => absurd q (by decide)) (fun _ => ?_)
      refine x_step rfl ?_
      exact x_iret rfl rfl rfl ⟨rfl, rfl⟩
    · refine x_step rfl ?_
      refine x_if_lt rfl (fun h3 => ?_) (fun h3 => ?_)
      · iterate 3 refine x_step rfl ?_
        refine xm_hs (hp' := (cw L xs (rw (1) jl js jh jb jc jr jq jQ jz jf jo jn jt jH jA jm jy je jp jk jx jw ju jF jL jO jS jT jU jV jW ja jG ov g2) tc tf bl bf of oc ol on ml mx mb kc kh kr ka gl gx gb ls lq lk lg lh vf vs vb nv nw nr nq ne io sp ch wt xf xz xt xb xc)) rfl ?_
        iterate 2 refine x_step rfl ?_
        refine x_if_eq rfl (fun q => absurd q (by decide)) (fun _ => ?_)
        refine x_step rfl ?_
        exact x_iret rfl rfl rfl ⟨rfl, rfl⟩
      · obtain ⟨⟨v, hv, rfl⟩, h5⟩ := ((h.resolve_left h1).resolve_left h2).resolve_left h3
        iterate 4 refine x_step rfl ?_
        refine x_if_lt rfl (fun q => absurd q h1) (fun _ => ?_)
        iterate 2 refine x_step rfl ?_
        refine x_icmp_le rfl (fun _ => ?_) (fun q => absurd (Int32.not_lt.mp h2) q)
        refine x_step rfl ?_
        refine x_ialdN (v) rfl rfl rfl (by omega) ?_
        refine x_icmp_lt rfl (fun q => absurd q (Int32.not_lt.mpr (by rw [nI_clamp (by omega)] at h5; exact h5))) (fun _ => ?_)
        iterate 3 refine x_step rfl ?_
        refine xm_hs (hp' := (cw L xs (rw (1) jl js jh jb jc jr jq jQ jz jf jo jn jt jH jA jm jy je jp jk jx jw ju jF jL jO jS jT jU jV jW ja jG ov g2) tc tf bl bf of oc ol on ml mx mb kc kh kr ka gl gx gb ls lq lk lg lh vf vs vb nv nw nr nq ne io sp ch wt xf xz xt xb xc)) rfl ?_
        iterate 2 refine x_step rfl ?_
        refine x_if_eq rfl (fun q => absurd q (by decide)) (fun _ => ?_)
        refine x_step rfl ?_
        exact x_iret rfl rfl rfl ⟨rfl, rfl⟩
end RL
