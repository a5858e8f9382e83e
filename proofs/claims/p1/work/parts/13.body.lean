section EB
variable {l : Launch} {d L : Nat} {xs : Nat → Int32} {g : xm_H} {tc : Int32} {tf : (Nat → Int32)} {bl : Int32} {bf : (Nat → Int32)} {of : Int32} {oc : Int32} {ol : Int32} {on : Int32} {ml : (Nat → Int32)} {mx : (Nat → Int32)} {mb : (Nat → Nat → Int32)} {kc : Int32} {kh : (Nat → Nat)} {kr : (Nat → Nat → Int32)} {ka : (Nat → Int32)} {gl : Int32} {gx : Int32} {gb : (Nat → Int32)} {ls : Int32} {lq : Int32} {lk : Int32} {lg : Int32} {lh : Int32} {vf : (Nat → Int32)} {vs : (Nat → Int32)} {vb : (Nat → Nat → Int32)} {nv : (Nat → Int32)} {nw : (Nat → Nat → Int32)} {nr : (Nat → Int32)} {nq : (Nat → Nat → Int32)} {ne : (Nat → Int32)} {io : Int32} {sp : Int32} {ch : Int32} {wt : Int32} {xf : (Nat → Int32)} {xz : (Nat → Int32)} {xt : (Nat → Int32)} {xb : (Nat → Int32)} {xc : Int32}
def xput (n : Int32) (f : Nat → Int32) (x : Int32) : Nat → Int32 := if n < 120 then upd f n.toNatClampNeg x else f
/-- Body.clear -/
theorem m19 : XM l 19 d 0 0 [.ref 37] (cw L xs g tc tf bl bf of oc ol on ml mx mb kc kh kr ka gl gx gb ls lq lk lg lh vf vs vb nv nw nr nq ne io sp ch wt xf xz xt xb xc) (xm_is none (cw L xs g tc tf (0) bf of oc ol on ml mx mb kc kh kr ka gl gx gb ls lq lk lg lh vf vs vb nv nw nr nq ne io sp ch wt xf xz xt xb xc)) := by
  refine XE (pl := [some (.ref 37)]) xg19 rfl ?_
  iterate 3 refine x_step rfl ?_
  exact x_ret rfl rfl ⟨rfl, rfl⟩
/-- Body.fits -/
theorem m32 : XM l 32 d 0 0 [.ref 37] (cw L xs g tc tf bl bf of oc ol on ml mx mb kc kh kr ka gl gx gb ls lq lk lg lh vf vs vb nv nw nr nq ne io sp ch wt xf xz xt xb xc) (xm_is (some (.int (if 120 < bl then 0 else 1))) (cw L xs g tc tf bl bf of oc ol on ml mx mb kc kh kr ka gl gx gb ls lq lk lg lh vf vs vb nv nw nr nq ne io sp ch wt xf xz xt xb xc)) := by
  refine XE (pl := [some (.ref 37)]) xg32 rfl ?_
  iterate 3 refine x_step rfl ?_
  refine x_icmp_gt rfl (fun q => ?_) (fun q => ?_)
  · refine x_step rfl ?_
    exact x_iret rfl rfl rfl ⟨by rw [if_pos q], rfl⟩
  · iterate 2 refine x_step rfl ?_
    exact x_iret rfl rfl rfl ⟨by rw [if_neg q], rfl⟩
/-- Body.length -/
theorem m33 : XM l 33 d 0 0 [.ref 37] (cw L xs g tc tf bl bf of oc ol on ml mx mb kc kh kr ka gl gx gb ls lq lk lg lh vf vs vb nv nw nr nq ne io sp ch wt xf xz xt xb xc) (xm_is (some (.int bl)) (cw L xs g tc tf bl bf of oc ol on ml mx mb kc kh kr ka gl gx gb ls lq lk lg lh vf vs vb nv nw nr nq ne io sp ch wt xf xz xt xb xc)) := by
  refine XE (pl := [some (.ref 37)]) xg33 rfl ?_
  iterate 2 refine x_step rfl ?_
  exact x_iret rfl rfl rfl ⟨rfl, rfl⟩
/-- Body.put -/
theorem m21 (x : Int32) (h0 : 0 ≤ bl) : XM l 21 d 0 0 [.ref 37, .int x] (cw L xs g tc tf bl bf of oc ol on ml mx mb kc kh kr ka gl gx gb ls lq lk lg lh vf vs vb nv nw nr nq ne io sp ch wt xf xz xt xb xc) (xm_is none (cw L xs g tc tf (bl + 1) (xput bl bf x) of oc ol on ml mx mb kc kh kr ka gl gx gb ls lq lk lg lh vf vs vb nv nw nr nq ne io sp ch wt xf xz xt xb xc)) := by
  refine XE (pl := [some (.ref 37), some (.int x)]) xg21 rfl ?_
  iterate 3 refine x_step rfl ?_
  refine x_icmp_ge rfl (fun q => ?_) (fun q => ?_)
  · iterate 6 refine x_step rfl ?_
    refine x_ret rfl rfl ⟨rfl, ?_⟩
    rw [xput, if_neg (Int32.not_lt.mpr q)]
    rfl
  · iterate 5 refine x_step rfl ?_
    refine x_iast rfl rfl (by decide) rfl (xm_in h0 (Int32.not_le.mp q) rfl) ?_
    refine xm_hs (hp' := (cw L xs g tc tf bl (upd bf bl.toNatClampNeg x) of oc ol on ml mx mb kc kh kr ka gl gx gb ls lq lk lg lh vf vs vb nv nw nr nq ne io sp ch wt xf xz xt xb xc)) rfl ?_
    iterate 6 refine x_step rfl ?_
    refine x_ret rfl rfl ⟨rfl, ?_⟩
    rw [xput, if_pos (Int32.not_le.mp q)]
    rfl
/-- Body.putList -/
theorem m20 (x : Int32) (hd : 1 ≤ d) (h0 : 0 ≤ bl) (h1 : 0 ≤ bl + 1) : XM l 20 d 0 0 [.ref 37, .int x] (cw L xs g tc tf bl bf of oc ol on ml mx mb kc kh kr ka gl gx gb ls lq lk lg lh vf vs vb nv nw nr nq ne io sp ch wt xf xz xt xb xc) (xm_is none (cw L xs g tc tf (bl + 1 + 1) (xput (bl + 1) (xput bl bf 1) x) of oc ol on ml mx mb kc kh kr ka gl gx gb ls lq lk lg lh vf vs vb nv nw nr nq ne io sp ch wt xf xz xt xb xc)) := by
  refine XE (pl := [some (.ref 37), some (.int x)]) xg20 rfl ?_
  iterate 2 refine x_step rfl ?_
  refine x_callvE rfl (m21 (d := 0) 1 h0) rfl rfl rfl ?_
  iterate 2 refine x_step rfl ?_
  refine x_callvE rfl (m21 (d := 0) x h1) rfl rfl rfl ?_
  exact x_ret rfl rfl ⟨rfl, rfl⟩
/-- Body.putNumber -/
theorem m22 (x : Int32) (hd : 1 ≤ d) (h0 : 0 ≤ bl) (h1 : 0 ≤ bl + 1) (h2 : 0 ≤ bl + 1 + 1) : XM l 22 d 0 0 [.ref 37, .int x] (cw L xs g tc tf bl bf of oc ol on ml mx mb kc kh kr ka gl gx gb ls lq lk lg lh vf vs vb nv nw nr nq ne io sp ch wt xf xz xt xb xc) (xm_is none (cw L xs g tc tf (bl + 1 + 1 + 1) (xput (bl + 1 + 1) (xput (bl + 1) (xput bl bf 165) 1) x) of oc ol on ml mx mb kc kh kr ka gl gx gb ls lq lk lg lh vf vs vb nv nw nr nq ne io sp ch wt xf xz xt xb xc)) := by
  refine XE (pl := [some (.ref 37), some (.int x)]) xg22 rfl ?_
  iterate 2 refine x_step rfl ?_
  refine x_callvE rfl (m21 (d := 0) 165 h0) rfl rfl rfl ?_
  iterate 2 refine x_step rfl ?_
  refine x_callvE rfl (m21 (d := 0) 1 h1) rfl rfl rfl ?_
  iterate 2 refine x_step rfl ?_
  refine x_callvE rfl (m21 (d := 0) x h2) rfl rfl rfl ?_
  exact x_ret rfl rfl ⟨rfl, rfl⟩
/-- Body.putBinary -/
theorem m115 (x : Int32) (hd : 1 ≤ d) (h0 : 0 ≤ bl) (h1 : 0 ≤ bl + 1) (h2 : 0 ≤ bl + 1 + 1) : XM l 115 d 0 0 [.ref 37, .int x] (cw L xs g tc tf bl bf of oc ol on ml mx mb kc kh kr ka gl gx gb ls lq lk lg lh vf vs vb nv nw nr nq ne io sp ch wt xf xz xt xb xc) (xm_is none (cw L xs g tc tf (bl + 1 + 1 + 1) (xput (bl + 1 + 1) (xput (bl + 1) (xput bl bf 33) 1) x) of oc ol on ml mx mb kc kh kr ka gl gx gb ls lq lk lg lh vf vs vb nv nw nr nq ne io sp ch wt xf xz xt xb xc)) := by
  refine XE (pl := [some (.ref 37), some (.int x)]) xg115 rfl ?_
  iterate 2 refine x_step rfl ?_
  refine x_callvE rfl (m21 (d := 0) 33 h0) rfl rfl rfl ?_
  iterate 2 refine x_step rfl ?_
  refine x_callvE rfl (m21 (d := 0) 1 h1) rfl rfl rfl ?_
  iterate 2 refine x_step rfl ?_
  refine x_callvE rfl (m21 (d := 0) x h2) rfl rfl rfl ?_
  exact x_ret rfl rfl ⟨rfl, rfl⟩
end EB
