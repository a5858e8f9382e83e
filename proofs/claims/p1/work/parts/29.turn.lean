section ET
variable {l : Launch} {d L : Nat} {xs : Nat → Int32} {g : xm_H} {tc : Int32} {tf : (Nat → Int32)} {bl : Int32} {bf : (Nat → Int32)} {of : Int32} {oc : Int32} {ol : Int32} {on : Int32} {ml : (Nat → Int32)} {mx : (Nat → Int32)} {mb : (Nat → Nat → Int32)} {kc : Int32} {kh : (Nat → Nat)} {kr : (Nat → Nat → Int32)} {ka : (Nat → Int32)} {gl : Int32} {gx : Int32} {gb : (Nat → Int32)} {ls : Int32} {lq : Int32} {lk : Int32} {lg : Int32} {lh : Int32} {vf : (Nat → Int32)} {vs : (Nat → Int32)} {vb : (Nat → Nat → Int32)} {nv : (Nat → Int32)} {nw : (Nat → Nat → Int32)} {nr : (Nat → Int32)} {nq : (Nat → Nat → Int32)} {ne : (Nat → Int32)} {io : Int32} {sp : Int32} {ch : Int32} {wt : Int32} {xf : (Nat → Int32)} {xz : (Nat → Int32)} {xt : (Nat → Int32)} {xb : (Nat → Int32)} {xc : Int32}
/-- Body.putText -/
theorem m110a (hd : 4 ≤ d) : XM l 110 d 0 0 [.ref 37, .ref 2] (cw L xs g tc tf (2) bf of oc ol on ml mx mb kc kh kr ka gl gx gb ls lq lk lg lh vf vs vb nv nw nr nq ne io sp ch wt xf xz xt xb xc) (xm_is none (cw L xs g tc tf (6) (xput (2 + 1 + 1 + 1) (xput (2 + 1 + 1) (xput (2 + 1) (xput 2 bf 65) 2) 70) 76) of oc ol on ml mx mb kc kh kr ka gl gx gb ls lq lk lg lh vf vs vb nv nw nr nq ne io sp ch wt xf xz xt xb xc)) := by
  refine XE (pl := [some (.ref 37), some (.ref 2), none]) xg110 rfl ?_
  iterate 2 refine x_step rfl ?_
  refine x_callvE rfl (m21 (d := 0) 65 (by decide)) rfl rfl rfl ?_
  iterate 2 refine x_step rfl ?_
  refine x_strlen (n := 1) rfl rfl rfl ?_
  refine x_callvE rfl (m21 (d := 0) 2 (by decide)) rfl rfl rfl ?_
  iterate 2 refine x_step rfl ?_
  refine xm_ls (pl' := [some (.ref 37), some (.ref 2), some (.int 0)]) rfl ?_
  iterate 2 refine x_step rfl ?_
  refine x_strlen (n := 1) rfl rfl rfl ?_
  refine x_icmp_ge rfl (fun q => absurd q (by decide)) (fun _ => ?_)
  iterate 3 refine x_step rfl ?_
  refine x_charAt (n := 1) (i := 0) (b' := 70) rfl rfl rfl (by decide) rfl rfl ?_
  refine x_callvE rfl (m21 (d := 0) 70 (by decide)) rfl rfl rfl ?_
  iterate 2 refine x_step rfl ?_
  refine xm_ls (pl' := [some (.ref 37), some (.ref 2), some (.int 1)]) rfl ?_
  iterate 2 refine x_step rfl ?_
  refine x_strlen (n := 1) rfl rfl rfl ?_
  refine x_icmp_ge rfl (fun q => absurd q (by decide)) (fun _ => ?_)
  iterate 3 refine x_step rfl ?_
  refine x_charAt (n := 1) (i := 1) (b' := 76) rfl rfl rfl (by decide) rfl rfl ?_
  refine x_callvE rfl (m21 (d := 0) 76 (by decide)) rfl rfl rfl ?_
  iterate 2 refine x_step rfl ?_
  refine xm_ls (pl' := [some (.ref 37), some (.ref 2), some (.int 2)]) rfl ?_
  iterate 2 refine x_step rfl ?_
  refine x_strlen (n := 1) rfl rfl rfl ?_
  refine x_icmp_ge rfl (fun _ => ?_) (fun q => absurd (by decide) q)
  exact x_ret rfl rfl ⟨rfl, rfl⟩
/-- Body.putText -/
theorem m110b (hd : 4 ≤ d) : XM l 110 d 0 0 [.ref 37, .ref 3] (cw L xs g tc tf (6) bf of oc ol on ml mx mb kc kh kr ka gl gx gb ls lq lk lg lh vf vs vb nv nw nr nq ne io sp ch wt xf xz xt xb xc) (xm_is none (cw L xs g tc tf (9) (xput (6 + 1 + 1) (xput (6 + 1) (xput 6 bf 65) 1) 49) of oc ol on ml mx mb kc kh kr ka gl gx gb ls lq lk lg lh vf vs vb nv nw nr nq ne io sp ch wt xf xz xt xb xc)) := by
  refine XE (pl := [some (.ref 37), some (.ref 3), none]) xg110 rfl ?_
  iterate 2 refine x_step rfl ?_
  refine x_callvE rfl (m21 (d := 0) 65 (by decide)) rfl rfl rfl ?_
  iterate 2 refine x_step rfl ?_
  refine x_strlen (n := 2) rfl rfl rfl ?_
  refine x_callvE rfl (m21 (d := 0) 1 (by decide)) rfl rfl rfl ?_
  iterate 2 refine x_step rfl ?_
  refine xm_ls (pl' := [some (.ref 37), some (.ref 3), some (.int 0)]) rfl ?_
  iterate 2 refine x_step rfl ?_
  refine x_strlen (n := 2) rfl rfl rfl ?_
  refine x_icmp_ge rfl (fun q => absurd q (by decide)) (fun _ => ?_)
  iterate 3 refine x_step rfl ?_
  refine x_charAt (n := 2) (i := 0) (b' := 49) rfl rfl rfl (by decide) rfl rfl ?_
  refine x_callvE rfl (m21 (d := 0) 49 (by decide)) rfl rfl rfl ?_
  iterate 2 refine x_step rfl ?_
  refine xm_ls (pl' := [some (.ref 37), some (.ref 3), some (.int 1)]) rfl ?_
  iterate 2 refine x_step rfl ?_
  refine x_strlen (n := 2) rfl rfl rfl ?_
  refine x_icmp_ge rfl (fun _ => ?_) (fun q => absurd (by decide) q)
  exact x_ret rfl rfl ⟨rfl, rfl⟩
/-- the body [FL, 1] -/
def xname (bf : Nat → Int32) : Nat → Int32 := xput 8 (xput 7 (xput 6 (xput 5 (xput 4 (xput 3 (xput 2 (xput 1 (xput 0 bf 1) 2) 65) 2) 70) 76) 65) 1) 49
/-- Body.putName -/
theorem m109 (hd : 5 ≤ d) : XM l 109 d 0 0 [.ref 37] (cw L xs g tc tf (0) bf of oc ol on ml mx mb kc kh kr ka gl gx gb ls lq lk lg lh vf vs vb nv nw nr nq ne io sp ch wt xf xz xt xb xc) (xm_is none (cw L xs g tc tf (9) (xname bf) of oc ol on ml mx mb kc kh kr ka gl gx gb ls lq lk lg lh vf vs vb nv nw nr nq ne io sp ch wt xf xz xt xb xc)) := by
  refine XE (pl := [some (.ref 37)]) xg109 rfl ?_
  iterate 2 refine x_step rfl ?_
  refine x_callvE rfl (m20 (d := 1) 2 (by omega) (by decide) (by decide)) rfl rfl rfl ?_
  refine xm_hs (hp' := (cw L xs g tc tf (2) (xput 1 (xput 0 bf 1) 2) of oc ol on ml mx mb kc kh kr ka gl gx gb ls lq lk lg lh vf vs vb nv nw nr nq ne io sp ch wt xf xz xt xb xc)) rfl ?_
  refine x_step rfl ?_
  refine x_ldcS rfl ?_
  refine x_callvE rfl (m110a (d := 4) (by omega)) rfl rfl rfl ?_
  refine xm_hs (hp' := (cw L xs g tc tf (6) (xput 5 (xput 4 (xput 3 (xput 2 (xput 1 (xput 0 bf 1) 2) 65) 2) 70) 76) of oc ol on ml mx mb kc kh kr ka gl gx gb ls lq lk lg lh vf vs vb nv nw nr nq ne io sp ch wt xf xz xt xb xc)) rfl ?_
  refine x_step rfl ?_
  refine x_ldcS rfl ?_
  refine x_callvE rfl (m110b (d := 4) (by omega)) rfl rfl rfl ?_
  exact x_ret rfl rfl ⟨rfl, rfl⟩
/-- Machine.turn -/
theorem m150s (hd : 6 ≤ d) (h : ¬ 8 ≤ oc) (hi : vp_in (of + oc - (of + oc) / 8 * 8) 8) : XM l 150 d 0 0 [.ref 69, .int 1] (cw L xs g tc tf bl bf of oc ol on ml mx mb kc kh kr ka gl gx gb ls lq lk lg lh vf vs vb nv nw nr nq ne io sp ch wt xf xz xt xb xc) (xm_is none (cw L xs g tc tf (9) (xname bf) of (oc + 1) ol (on + 1 &&& 65535) (upd ml (xslot of oc) (10 + 9)) (upd mx (xslot of oc) 0) (updf mb (xslot of oc) (xcopy (xname bf) 9 (xhead (mb (xslot of oc)) 129 13 (on + 1 &&& 65535)))) kc kh kr ka gl gx gb ls lq lk lg lh vf vs vb nv nw nr nq ne (1) (0) ch wt xf xz xt xb xc)) := by
  refine XE (pl := [some (.ref 69), some (.int 1)]) xg150 rfl ?_
  iterate 2 refine x_step rfl ?_
  refine x_putf rfl rfl (Nat.le_of_ble_eq_true rfl) (by decide) rfl rfl ?_
  iterate 2 refine x_step rfl ?_
  refine x_putf rfl rfl (Nat.le_of_ble_eq_true rfl) (by decide) rfl rfl ?_
  refine x_step rfl ?_
  refine x_if_eq rfl (fun q => absurd q (by decide)) (fun _ => ?_)
  refine xm_hs (hp' := (cw L xs g tc tf bl bf of oc ol on ml mx mb kc kh kr ka gl gx gb ls lq lk lg lh vf vs vb nv nw nr nq ne (1) (0) ch wt xf xz xt xb xc)) rfl ?_
  iterate 2 refine x_step rfl ?_
  refine x_callvE rfl (m18 (d := 1) (by omega)) rfl rfl rfl ?_
  refine x_callvE rfl (m109 (d := 5) (by omega)) rfl rfl rfl ?_
  iterate 6 refine x_step rfl ?_
  refine x_callvE rfl (m30 (d := 0)) rfl rfl rfl ?_
  refine x_callvE rfl (m31s (d := 1) 129 13 (on + 1 &&& 65535) (by omega) ⟨h, by decide⟩ hi) rfl rfl rfl ?_
  exact x_ret rfl rfl ⟨rfl, rfl⟩
/-- Machine.turn -/
theorem m150l (hd : 6 ≤ d) (h : 8 ≤ oc) : XM l 150 d 0 0 [.ref 69, .int 1] (cw L xs g tc tf bl bf of oc ol on ml mx mb kc kh kr ka gl gx gb ls lq lk lg lh vf vs vb nv nw nr nq ne io sp ch wt xf xz xt xb xc) (xm_is none (cw L xs g tc tf (9) (xname bf) of oc (ol + 1) (on + 1 &&& 65535) ml mx mb kc kh kr ka gl gx gb ls lq lk lg lh vf vs vb nv nw nr nq ne (1) (0) ch wt xf xz xt xb xc)) := by
  refine XE (pl := [some (.ref 69), some (.int 1)]) xg150 rfl ?_
  iterate 2 refine x_step rfl ?_
  refine x_putf rfl rfl (Nat.le_of_ble_eq_true rfl) (by decide) rfl rfl ?_
  iterate 2 refine x_step rfl ?_
  refine x_putf rfl rfl (Nat.le_of_ble_eq_true rfl) (by decide) rfl rfl ?_
  refine x_step rfl ?_
  refine x_if_eq rfl (fun q => absurd q (by decide)) (fun _ => ?_)
  refine xm_hs (hp' := (cw L xs g tc tf bl bf of oc ol on ml mx mb kc kh kr ka gl gx gb ls lq lk lg lh vf vs vb nv nw nr nq ne (1) (0) ch wt xf xz xt xb xc)) rfl ?_
  iterate 2 refine x_step rfl ?_
  refine x_callvE rfl (m18 (d := 1) (by omega)) rfl rfl rfl ?_
  refine x_callvE rfl (m109 (d := 5) (by omega)) rfl rfl rfl ?_
  iterate 6 refine x_step rfl ?_
  refine x_callvE rfl (m30 (d := 0)) rfl rfl rfl ?_
  refine x_callvE rfl (m31l (d := 1) 129 13 (on + 1 &&& 65535) (by omega) (fun q => q.1 h)) rfl rfl rfl ?_
  exact x_ret rfl rfl ⟨rfl, rfl⟩
/-- Machine.turn -/
theorem m150f  : XM l 150 d 0 0 [.ref 69, .int 0] (cw L xs g tc tf bl bf of oc ol on ml mx mb kc kh kr ka gl gx gb ls lq lk lg lh vf vs vb nv nw nr nq ne io sp ch wt xf xz xt xb xc) (xm_is none (cw L xs g tc tf bl bf of oc ol on ml mx mb kc kh kr ka gl gx gb ls lq lk lg lh vf vs vb nv nw nr nq ne (0) (0) ch wt xf xz xt xb xc)) := by
  refine XE (pl := [some (.ref 69), some (.int 0)]) xg150 rfl ?_
  iterate 2 refine x_step rfl ?_
  refine x_putf rfl rfl (Nat.le_of_ble_eq_true rfl) (by decide) rfl rfl ?_
  iterate 2 refine x_step rfl ?_
  refine x_putf rfl rfl (Nat.le_of_ble_eq_true rfl) (by decide) rfl rfl ?_
  refine x_step rfl ?_
  refine x_if_eq rfl (fun _ => ?_) (fun q => absurd (by decide) q)
  exact x_ret rfl rfl ⟨rfl, rfl⟩
/-- FabLink.enable(false) -/
theorem m149f (hd : 3 ≤ d) (h : io = 1) (h2 : ¬ (ls = 0 ∧ ¬ oc ≤ 0)) : XM l 149 d 1 6 [.ref 32, .int 0] (cw L xs g tc tf bl bf of oc ol on ml mx mb kc kh kr ka gl gx gb ls lq lk lg lh vf vs vb nv nw nr nq ne io sp ch wt xf xz xt xb xc) (xm_is none (cw L xs g tc tf bl bf of oc ol on ml mx mb kc kh kr ka gl gx gb ls lq lk lg lh vf vs vb nv nw nr nq ne (0) (0) ch wt xf xz xt xb xc)) := by
  refine XE (pl := [some (.ref 32), some (.int 0)]) xg149 rfl ?_
  iterate 3 refine x_step rfl ?_
  refine x_callvE rfl ((r65 (d := 0) (by rw [h]; rfl)).xm) rfl rfl rfl ?_
  refine x_icmp_ne rfl (fun _ => ?_) (fun q => absurd q (by rw [h]; decide))
  iterate 3 refine x_step rfl ?_
  refine x_callvE rfl (m150f (d := 0)) rfl rfl rfl ?_
  iterate 2 refine x_step rfl ?_
  refine x_callvE rfl (m38a (d := 2) (by omega) h2) rfl rfl rfl ?_
  exact x_ret rfl rfl ⟨rfl, rfl⟩
/-- FabLink.enable -/
theorem m149sn (hd : 7 ≤ d) (h : io = 0) (h1 : ¬ ls = 0) (h8 : ¬ 8 ≤ oc) (hi : vp_in (of + oc - (of + oc) / 8 * 8) 8) : XM l 149 d 1 6 [.ref 32, .int 1] (cw L xs g tc tf bl bf of oc ol on ml mx mb kc kh kr ka gl gx gb ls lq lk lg lh vf vs vb nv nw nr nq ne io sp ch wt xf xz xt xb xc) (xm_is none (cw L xs g tc tf (9) (xname bf) of (oc + 1) ol (on + 1 &&& 65535) (upd ml (xslot of oc) (10 + 9)) (upd mx (xslot of oc) 0) (updf mb (xslot of oc) (xcopy (xname bf) 9 (xhead (mb (xslot of oc)) 129 13 (on + 1 &&& 65535)))) kc kh kr ka gl gx gb ls lq lk lg lh vf vs vb nv nw nr nq ne (1) (0) ch wt xf xz xt xb xc)) := by
  refine XE (pl := [some (.ref 32), some (.int 1)]) xg149 rfl ?_
  iterate 3 refine x_step rfl ?_
  refine x_callvE rfl ((r65 (d := 0) (by rw [h]; rfl)).xm) rfl rfl rfl ?_
  refine x_icmp_ne rfl (fun _ => ?_) (fun q => absurd q (by rw [h]; decide))
  iterate 3 refine x_step rfl ?_
  refine x_callvE rfl (m150s (d := 6) (by omega) h8 hi) rfl rfl rfl ?_
  iterate 2 refine x_step rfl ?_
  refine x_callvE rfl (m38a (d := 2) (by omega) (fun q => h1 q.1)) rfl rfl rfl ?_
  exact x_ret rfl rfl ⟨rfl, rfl⟩
/-- FabLink.enable -/
theorem m149ln (hd : 7 ≤ d) (h : io = 0) (h1 : ¬ ls = 0) (h8 : 8 ≤ oc) : XM l 149 d 1 6 [.ref 32, .int 1] (cw L xs g tc tf bl bf of oc ol on ml mx mb kc kh kr ka gl gx gb ls lq lk lg lh vf vs vb nv nw nr nq ne io sp ch wt xf xz xt xb xc) (xm_is none (cw L xs g tc tf (9) (xname bf) of oc (ol + 1) (on + 1 &&& 65535) ml mx mb kc kh kr ka gl gx gb ls lq lk lg lh vf vs vb nv nw nr nq ne (1) (0) ch wt xf xz xt xb xc)) := by
  refine XE (pl := [some (.ref 32), some (.int 1)]) xg149 rfl ?_
  iterate 3 refine x_step rfl ?_
  refine x_callvE rfl ((r65 (d := 0) (by rw [h]; rfl)).xm) rfl rfl rfl ?_
  refine x_icmp_ne rfl (fun _ => ?_) (fun q => absurd q (by rw [h]; decide))
  iterate 3 refine x_step rfl ?_
  refine x_callvE rfl (m150l (d := 6) (by omega) h8) rfl rfl rfl ?_
  iterate 2 refine x_step rfl ?_
  refine x_callvE rfl (m38a (d := 2) (by omega) (fun q => h1 q.1)) rfl rfl rfl ?_
  exact x_ret rfl rfl ⟨rfl, rfl⟩
/-- FabLink.enable -/
theorem m149so (hd : 7 ≤ d) (h : io = 0) (h1 : ls = 0) (h8 : ¬ 8 ≤ oc) (h0 : ¬ oc + 1 ≤ 0) (hi : vp_in (of + oc - (of + oc) / 8 * 8) 8) (hc : vp_in (xfm tc 501) 501) : XM l 149 d 1 6 [.ref 32, .int 1] (cw L xs g tc tf bl bf of oc ol on ml mx mb kc kh kr ka gl gx gb ls lq lk lg lh vf vs vb nv nw nr nq ne io sp ch wt xf xz xt xb xc) (xm_is none (cw L xs g (tc + 1) (xsay tf tc 5) (9) (xname bf) of (oc + 1) ol (on + 1 &&& 65535) (upd ml (xslot of oc) (10 + 9)) (upd mx (xslot of oc) 0) (updf mb (xslot of oc) (xcopy (xname bf) 9 (xhead (mb (xslot of oc)) 129 13 (on + 1 &&& 65535)))) kc kh kr ka gl gx gb (2) (0) lk lg lh vf vs vb nv nw nr nq ne (1) (0) ch wt xf xz xt xb xc)) := by
  refine XE (pl := [some (.ref 32), some (.int 1)]) xg149 rfl ?_
  iterate 3 refine x_step rfl ?_
  refine x_callvE rfl ((r65 (d := 0) (by rw [h]; rfl)).xm) rfl rfl rfl ?_
  refine x_icmp_ne rfl (fun _ => ?_) (fun q => absurd q (by rw [h]; decide))
  iterate 3 refine x_step rfl ?_
  refine x_callvE rfl (m150s (d := 6) (by omega) h8 hi) rfl rfl rfl ?_
  iterate 2 refine x_step rfl ?_
  refine x_callvE rfl (m38b (d := 2) (by omega) h1 h0 hc) rfl rfl rfl ?_
  exact x_ret rfl rfl ⟨rfl, rfl⟩
/-- Machine.choose -/
theorem m152z {dd : Nat} {h0 : xm_H} (hdd : dd < d) (hM : XM l 116 dd 0 0 [.ref 69, .int 0] (cw L xs g tc tf bl bf of oc ol on ml mx mb kc kh kr ka gl gx gb ls lq lk lg lh vf vs vb nv nw nr nq ne io sp ch wt xf xz xt xb xc) (xm_is none h0)) : XM l 152 d 0 0 [.ref 69, .int 0] (cw L xs g tc tf bl bf of oc ol on ml mx mb kc kh kr ka gl gx gb ls lq lk lg lh vf vs vb nv nw nr nq ne io sp ch wt xf xz xt xb xc) (xm_is none h0) := by
  refine XE (pl := [some (.ref 69), some (.int 0)]) xg152 rfl ?_
  refine x_step rfl ?_
  refine x_if_eq rfl (fun _ => ?_) (fun q => absurd (by decide) q)
  iterate 2 refine x_step rfl ?_
  refine x_callvE rfl (hM) rfl rfl rfl ?_
  exact x_ret rfl rfl ⟨rfl, rfl⟩
/-- Machine.choose -/
theorem m152p {dd : Nat} {h0 : xm_H} (x : Int32) (hx : ¬ x = 0) (hdd : dd < d) (hM : XM l 116 dd 0 0 [.ref 69, .int x] (cw L xs g tc tf bl bf of oc ol on ml mx mb kc kh kr ka gl gx gb ls lq lk lg lh vf vs vb nv nw nr nq ne io sp (x) wt xf xz xt xb xc) (xm_is none h0)) : XM l 152 d 0 0 [.ref 69, .int x] (cw L xs g tc tf bl bf of oc ol on ml mx mb kc kh kr ka gl gx gb ls lq lk lg lh vf vs vb nv nw nr nq ne io sp ch wt xf xz xt xb xc) (xm_is none h0) := by
  refine XE (pl := [some (.ref 69), some (.int x)]) xg152 rfl ?_
  refine x_step rfl ?_
  refine x_if_eq rfl (fun q => absurd q (hx)) (fun _ => ?_)
  iterate 3 refine x_step rfl ?_
  refine xm_hs (hp' := (cw L xs g tc tf bl bf of oc ol on ml mx mb kc kh kr ka gl gx gb ls lq lk lg lh vf vs vb nv nw nr nq ne io sp (x) wt xf xz xt xb xc)) rfl ?_
  iterate 2 refine x_step rfl ?_
  refine x_callvE rfl (hM) rfl rfl rfl ?_
  exact x_ret rfl rfl ⟨rfl, rfl⟩
/-- FabLink.control -/
theorem m151z {dd : Nat} {h0 h1 : xm_H} (hdd : dd + 1 < d) {fs : List Value} (hM : XM l 152 dd 0 0 [.ref 69, .int 0] (cw L xs g tc tf bl bf of oc ol on ml mx mb kc kh kr ka gl gx gb ls lq lk lg lh vf vs vb nv nw nr nq ne io sp ch wt xf xz xt xb xc) (xm_is none h0)) (e0 : h0[32]? = some (xO 0 fs)) (e1 : fs[3]? = some (.ref 66)) {f6 : List Value} (e2 : h0[66]? = some (xO 6 f6)) (hS : XM l 38 dd 0 0 [.ref 66] h0 (xm_is none h1)) : XM l 151 d 1 6 [.ref 32, .int 0] (cw L xs g tc tf bl bf of oc ol on ml mx mb kc kh kr ka gl gx gb ls lq lk lg lh vf vs vb nv nw nr nq ne io sp ch wt xf xz xt xb xc) (xm_is none h1) := by
  refine XE (pl := [some (.ref 32), some (.int 0)]) xg151 rfl ?_
  refine x_step rfl ?_
  refine x_if_eq rfl (fun _ => ?_) (fun q => absurd (by decide) q)
  iterate 3 refine x_step rfl ?_
  refine x_callvE rfl (hM) rfl rfl rfl ?_
  refine x_step rfl ?_
  refine x_getf rfl e0 e1 ?_
  refine x_callvE rfl hS rfl rfl e2 ?_
  exact x_ret rfl rfl ⟨rfl, rfl⟩
/-- FabLink.control -/
theorem m151b {dd : Nat} {h0 h1 : xm_H} (hdd : dd + 1 < d) {fs : List Value} (hM : XM l 152 dd 0 0 [.ref 69, .int 2] (cw L xs g tc tf bl bf of oc ol on ml mx mb kc kh kr ka gl gx gb ls lq lk lg lh vf vs vb nv nw nr nq ne io sp ch wt xf xz xt xb xc) (xm_is none h0)) (e0 : h0[32]? = some (xO 0 fs)) (e1 : fs[3]? = some (.ref 66)) {f6 : List Value} (e2 : h0[66]? = some (xO 6 f6)) (hS : XM l 38 dd 0 0 [.ref 66] h0 (xm_is none h1)) : XM l 151 d 1 6 [.ref 32, .int 2] (cw L xs g tc tf bl bf of oc ol on ml mx mb kc kh kr ka gl gx gb ls lq lk lg lh vf vs vb nv nw nr nq ne io sp ch wt xf xz xt xb xc) (xm_is none h1) := by
  refine XE (pl := [some (.ref 32), some (.int 2)]) xg151 rfl ?_
  refine x_step rfl ?_
  refine x_if_eq rfl (fun q => absurd q (by decide)) (fun _ => ?_)
  iterate 2 refine x_step rfl ?_
  refine x_icmp_eq rfl (fun _ => ?_) (fun q => absurd (by decide) q)
  iterate 3 refine x_step rfl ?_
  refine x_callvE rfl (hM) rfl rfl rfl ?_
  refine x_step rfl ?_
  refine x_getf rfl e0 e1 ?_
  refine x_callvE rfl hS rfl rfl e2 ?_
  exact x_ret rfl rfl ⟨rfl, rfl⟩
/-- FabLink.control -/
theorem m151c {dd : Nat} {h0 h1 : xm_H} (hdd : dd + 1 < d) {fs : List Value} (hM : XM l 152 dd 0 0 [.ref 69, .int 3] (cw L xs g tc tf bl bf of oc ol on ml mx mb kc kh kr ka gl gx gb ls lq lk lg lh vf vs vb nv nw nr nq ne io sp ch wt xf xz xt xb xc) (xm_is none h0)) (e0 : h0[32]? = some (xO 0 fs)) (e1 : fs[3]? = some (.ref 66)) {f6 : List Value} (e2 : h0[66]? = some (xO 6 f6)) (hS : XM l 38 dd 0 0 [.ref 66] h0 (xm_is none h1)) : XM l 151 d 1 6 [.ref 32, .int 3] (cw L xs g tc tf bl bf of oc ol on ml mx mb kc kh kr ka gl gx gb ls lq lk lg lh vf vs vb nv nw nr nq ne io sp ch wt xf xz xt xb xc) (xm_is none h1) := by
  refine XE (pl := [some (.ref 32), some (.int 3)]) xg151 rfl ?_
  refine x_step rfl ?_
  refine x_if_eq rfl (fun q => absurd q (by decide)) (fun _ => ?_)
  iterate 2 refine x_step rfl ?_
  refine x_icmp_eq rfl (fun q => absurd q (by decide)) (fun _ => ?_)
  iterate 2 refine x_step rfl ?_
  refine x_icmp_eq rfl (fun _ => ?_) (fun q => absurd (by decide) q)
  iterate 3 refine x_step rfl ?_
  refine x_callvE rfl (hM) rfl rfl rfl ?_
  refine x_step rfl ?_
  refine x_getf rfl e0 e1 ?_
  refine x_callvE rfl hS rfl rfl e2 ?_
  exact x_ret rfl rfl ⟨rfl, rfl⟩
end ET
