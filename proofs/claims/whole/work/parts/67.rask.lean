section ER14
variable {l : Launch} {d L : Nat} {xs : Nat → Int32} {tc : Int32} {tf : (Nat → Int32)} {bl : Int32} {bf : (Nat → Int32)} {of : Int32} {oc : Int32} {ol : Int32} {on : Int32} {ml : (Nat → Int32)} {mx : (Nat → Int32)} {mb : (Nat → Nat → Int32)} {kc : Int32} {kh : (Nat → Nat)} {kr : (Nat → Nat → Int32)} {ka : (Nat → Int32)} {gl : Int32} {gx : Int32} {gb : (Nat → Int32)} {ls : Int32} {lq : Int32} {lk : Int32} {lg : Int32} {lh : Int32} {vf : (Nat → Int32)} {vs : (Nat → Int32)} {vb : (Nat → Nat → Int32)} {nv : (Nat → Int32)} {nw : (Nat → Nat → Int32)} {nr : (Nat → Int32)} {nq : (Nat → Nat → Int32)} {ne : (Nat → Int32)} {io : Int32} {sp : Int32} {ch : Int32} {wt : Int32} {xf : (Nat → Int32)} {xz : (Nat → Int32)} {xt : (Nat → Int32)} {xb : (Nat → Int32)} {xc : Int32} {th : Int32} {jl : Int32} {js : Int32} {jh : Int32} {jb : (Nat → Int32)} {jc : Int32} {jr : (Nat → Int32)} {jq : Int32} {jQ : (Nat → Int32)} {jz : (Nat → Int32)} {jf : (Nat → Int32)} {jo : Int32} {jn : Int32} {jt : Int32} {jH : (Nat → Int32)} {jA : (Nat → Int32)} {jm : Int32} {jy : (Nat → Int32)} {je : Int32} {jp : Int32} {jk : Int32} {jx : Int32} {jw : Int32} {ju : Int32} {jF : (Nat → Int32)} {jL : (Nat → Int32)} {jO : (Nat → Int32)} {jS : (Nat → Int32)} {jT : (Nat → Int32)} {jU : (Nat → Int32)} {jV : (Nat → Int32)} {jW : (Nat → Int32)} {ja : Int32} {jG : (Nat → Int32)} {ov : (Nat → Value)} {g2 : xm_H}
variable {β : Nat → Nat} {e : Nat} {ps : List (Nat × Nat)} {sz : Nat → Nat}
/-- nothing is answered, and the world is as Q says -/
def xN (Q : xm_H → Prop) : Option Value → xm_H → Prop := fun v h => v = none ∧ Q h
def xR (r : Int32) (Q : xm_H → Prop) : Option Value → xm_H → Prop := fun v h => v = some (.int r) ∧ Q h
section
variable {k rc rs pc nx : Nat} {v : Int32} {pl : List (Option Value)} {st : List Value} {hp : xm_H} {Q : xm_Q}
theorem x_callvQ {idx j n dd mc ms a c0 : Nat} {as rest : List Value} {fs : List Value} {Q1 : xm_H → Prop} (hf : xm_code k pc = some (.invokevirtual idx, nx, j, n, v)) (hM : XM l j dd mc ms (.ref a :: as) hp (xN Q1)) (hst : st = as.reverse ++ .ref a :: rest) (hn0 : as.length = n) (he : hp[a]? = some (xO c0 fs))
    (kk : ∀ h0, Q1 h0 → XG l xm_any k d (rc - mc) (rs - ms) nx pl rest h0 Q) (hcn : xm_cl[c0]?.map (fun r => r.1) = some (xm_nm j).cls := by rfl) (hj9 : ¬ 900 ≤ j := by decide) (hdd : dd < d := by omega) (hmc : mc ≤ rc := by omega) (hms : ms ≤ rs := by omega) (hw8 : Nat.ble (rest.map fun v => v.category).sum 8 = true := by rfl) : XG l xm_any k d rc rs pc pl st hp Q :=
  x_callv hf hj9 hM hdd hmc hms hst hn0 (Nat.le_of_ble_eq_true hw8) he hcn (fun x hp1 hq => by rw [hq.1]; exact kk _ hq.2)
theorem x_callvS {idx j n dd mc ms a c0 : Nat} {as rest : List Value} {fs : List Value} {r0 : Int32} {Q1 : xm_H → Prop} (hf : xm_code k pc = some (.invokevirtual idx, nx, j, n, v)) (hM : XM l j dd mc ms (.ref a :: as) hp (xR r0 Q1)) (hst : st = as.reverse ++ .ref a :: rest) (hn0 : as.length = n) (he : hp[a]? = some (xO c0 fs))
    (kk : ∀ h0, Q1 h0 → XG l xm_any k d (rc - mc) (rs - ms) nx pl (.int r0 :: rest) h0 Q) (hcn : xm_cl[c0]?.map (fun r => r.1) = some (xm_nm j).cls := by rfl) (hj9 : ¬ 900 ≤ j := by decide) (hdd : dd < d := by omega) (hmc : mc ≤ rc := by omega) (hms : ms ≤ rs := by omega) (hw8 : Nat.ble (rest.map fun v => v.category).sum 8 = true := by rfl) : XG l xm_any k d rc rs pc pl st hp Q :=
  x_callv hf hj9 hM hdd hmc hms hst hn0 (Nat.le_of_ble_eq_true hw8) he hcn (fun x hp1 hq => by rw [hq.1]; exact kk _ hq.2)
end
theorem XM.n {k mc ms : Nat} {as : List Value} {hp h9 : xm_H} {Q : xm_H → Prop} (h : XM l k d mc ms as hp (xm_is none h9)) (hq : Q h9) : XM l k d mc ms as hp (xN Q) :=
  h.mono (fun v k z => ⟨z.1, by rw [z.2]; exact hq⟩)
theorem XM.r {k mc ms : Nat} {as : List Value} {hp h9 : xm_H} {r : Int32} {Q : xm_H → Prop} (h : XM l k d mc ms as hp (xm_is (some (.int r)) h9)) (hq : Q h9) : XM l k d mc ms as hp (xR r Q) :=
  h.mono (fun v k z => ⟨z.1, by rw [z.2]; exact hq⟩)
theorem cmd_at (hat : itAt β e ps 6 0 10 e) (hn : pCmd β ps = true) : ∃ cs1 q1 qe1, itI (itR β e 5) 0 (itT β 10) = some (cs1, q1) ∧ itAt β e ps 5 1 q1 qe1 ∧ itF β q1 = 16 := by
  rw [pCmd, Bool.and_eq_true, Bool.and_eq_true] at hn
  obtain ⟨h1, h2, h3⟩ := hn
  rw [pLst_at hat] at h1
  simp at h1
  obtain ⟨D2, cs2, q2, qe2, hD2, hI2, hat2⟩ := hat.nth h1.1 0 (by omega)
  obtain rfl : D2 = 5 := by omega
  obtain ⟨_, -, b1, b2, -⟩ := hat2.get
  exact ⟨cs2, q2, qe2, hI2, hat2, by rw [← b1, show cI ps 0 0 = 1 from rfl]; simpa using h2⟩
theorem q222_t {Q : xm_H → Prop} {dd : Nat} (o1 o2 o4 : Option Value) (x : Int32) (hd : 3 ≤ d) (hdd : dd < d) (hR : XM l 195 dd 0 0 [.ref 103, .int 42] (cw L xs (rw th jl js jh jb jc jr jq jQ jz jf jo jn jt jH jA (nI ([1, 2, 33, 1, x, 1, 0]).length) (xrbd jy ([1, 2, 33, 1, x, 1, 0])) je jp jk jx jw ju jF jL jO jS jT jU jV jW ja jG ov g2) tc tf bl bf of oc ol on ml mx mb kc kh kr ka gl gx gb ls lq lk lg lh vf vs vb nv nw nr nq ne io sp ch wt xf xz xt xb xc) (xN Q)) : XW l 222 d 0 0 184 [some (.ref 103), o1, o2, some (.int x), o4] [] (cw L xs (rw th jl js jh jb jc jr jq jQ jz jf jo jn jt jH jA jm jy je jp jk jx jw ju jF jL jO jS jT jU jV jW ja jG ov g2) tc tf bl bf of oc ol on ml mx mb kc kh kr ka gl gx gb ls lq lk lg lh vf vs vb nv nw nr nq ne io sp ch wt xf xz xt xb xc) (xN Q) := by
  iterate 3 refine x_step rfl ?_
  refine xm_hs (hp' := (cw L xs (rw th jl js jh jb jc jr jq jQ jz jf jo jn jt jH jA (nI ([] : List Int32).length) (xrbd jy ([] : List Int32)) je jp jk jx jw ju jF jL jO jS jT jU jV jW ja jG ov g2) tc tf bl bf of oc ol on ml mx mb kc kh kr ka gl gx gb ls lq lk lg lh vf vs vb nv nw nr nq ne io sp ch wt xf xz xt xb xc)) (by rw [xrbd_nil] <;> rfl) ?_
  iterate 3 refine x_step rfl ?_
  refine x_callvE rfl (q178 (d := 1) [] 0 2 (by omega) (by decide)) rfl rfl rfl ?_
  iterate 2 refine x_step rfl ?_
  refine x_callvE rfl (q210 (d := 2) [1, 2] x (by omega) (by decide)) rfl rfl rfl ?_
  iterate 3 refine x_step rfl ?_
  refine x_callvE rfl (q178 (d := 1) [1, 2, 33, 1, x] 0 0 (by omega) (by simp only [List.length_cons, List.length_nil]; decide)) rfl rfl rfl ?_
  iterate 2 refine x_step rfl ?_
  refine x_callvQ rfl (hR) rfl rfl rfl (fun h9 hq => ?_)
  exact x_ret rfl rfl ⟨rfl, hq⟩
/-- FabLinkModel.command -/
theorem q222_u {Q : xm_H → Prop} {dd : Nat} (hb : ∀ i, i < 130 → jb (i + 1) = nI (β i)) (hβ : ∀ i, β i < 256) (he : e ≤ 130) (hat : itAt β e ps 6 0 10 e) (hn : pCmd β ps = true) (hc : cmdN β ps = 0) (hd : 3 ≤ d) (hdd : dd < d) (hR : XM l 195 dd 0 0 [.ref 103, .int 42] (cw L xs (rw th jl js jh jb jc jr jq jQ jz jf jo jn jt jH jA (nI ([1, 2, 33, 1, 1, 1, 0]).length) (xrbd jy ([1, 2, 33, 1, 1, 1, 0])) je jp jk jx jw ju jF jL jO jS jT jU jV jW ja jG ov g2) tc tf bl bf of oc ol on ml mx mb kc kh kr ka gl gx gb ls lq lk lg lh vf vs vb nv nw nr nq ne io sp ch wt xf xz xt xb xc) (xN Q)) : XM l 222 d 0 0 [.ref 103] (cw L xs (rw th jl js jh jb jc jr jq jQ jz jf jo jn jt jH jA jm jy je jp jk jx jw ju jF jL jO jS jT jU jV jW ja jG ov g2) tc tf bl bf of oc ol on ml mx mb kc kh kr ka gl gx gb ls lq lk lg lh vf vs vb nv nw nr nq ne io sp ch wt xf xz xt xb xc) (xN Q) := by
  refine XE (pl := [some (.ref 103), none, none, none, none]) xg222 rfl ?_
  obtain ⟨_, -, -, -, -, -, hpe, hTe⟩ := hat.get
  obtain ⟨cs1, q1, qe1, hI1, hat1, hF1⟩ := cmd_at hat hn
  obtain ⟨_, -, -, -, -, -, hq1, -⟩ := hat1.get
  iterate 4 refine x_step rfl ?_
  refine x_callvE rfl (q198 (d := 2) hb hβ he 5 10 0 q1 cs1 (by omega) (by decide) (by decide) (by omega) hI1) rfl rfl rfl ?_
  refine x_callvE rfl (q223 (d := 1) (by omega) hb hβ he 5 q1 qe1 hat1 hF1) rfl rfl rfl ?_
  refine x_step rfl ?_
  refine xm_ls (pl' := [some (.ref 103), some (.int 0), none, none, none]) (by rw [hc] <;> rfl) ?_
  iterate 2 refine x_step rfl ?_
  refine x_icmp_ne rfl (fun _ => ?_) (fun q => absurd q (by decide))
  iterate 2 refine x_step rfl ?_
  refine x_icmp_ne rfl (fun _ => ?_) (fun q => absurd q (by decide))
  iterate 2 refine x_step rfl ?_
  refine x_icmp_ne rfl (fun _ => ?_) (fun q => absurd q (by decide))
  iterate 3 refine x_step rfl ?_
  refine x_icmp_ne rfl (fun hz => ?_) (fun hz => ?_)
  · iterate 3 refine x_step rfl ?_
    refine x_if_ne rfl (fun q => absurd (by decide) q) (fun _ => ?_)
    iterate 3 refine x_step rfl ?_
    refine xm_ls (pl' := [some (.ref 103), some (.int 0), some (.int 0), some (.int 1), none]) rfl ?_
    refine x_step rfl ?_
    refine x_if_ne rfl (fun _ => ?_) (fun q => absurd q (by decide))
    exact q222_t _ _ _ 1 hd hdd hR
  · iterate 4 refine x_step rfl ?_
    refine x_if_ne rfl (fun q => absurd (by decide) q) (fun _ => ?_)
    iterate 3 refine x_step rfl ?_
    refine xm_ls (pl' := [some (.ref 103), some (.int 0), some (.int 1), some (.int 1), none]) rfl ?_
    refine x_step rfl ?_
    refine x_if_ne rfl (fun _ => ?_) (fun q => absurd q (by decide))
    exact q222_t _ _ _ 1 hd hdd hR
/-- FabLinkModel.command -/
theorem q222_n1 {Q : xm_H → Prop} {dd : Nat} (hb : ∀ i, i < 130 → jb (i + 1) = nI (β i)) (hβ : ∀ i, β i < 256) (he : e ≤ 130) (hat : itAt β e ps 6 0 10 e) (hn : pCmd β ps = true) (hc : cmdN β ps = 1) (hw : ¬ jw = 0) (hd : 3 ≤ d) (hdd : dd < d) (hR : XM l 195 dd 0 0 [.ref 103, .int 42] (cw L xs (rw th jl js jh jb jc jr jq jQ jz jf jo jn jt jH jA (nI ([1, 2, 33, 1, 2, 1, 0]).length) (xrbd jy ([1, 2, 33, 1, 2, 1, 0])) je jp jk jx jw ju jF jL jO jS jT jU jV jW ja jG ov g2) tc tf bl bf of oc ol on ml mx mb kc kh kr ka gl gx gb ls lq lk lg lh vf vs vb nv nw nr nq ne io sp ch wt xf xz xt xb xc) (xN Q)) : XM l 222 d 0 0 [.ref 103] (cw L xs (rw th jl js jh jb jc jr jq jQ jz jf jo jn jt jH jA jm jy je jp jk jx jw ju jF jL jO jS jT jU jV jW ja jG ov g2) tc tf bl bf of oc ol on ml mx mb kc kh kr ka gl gx gb ls lq lk lg lh vf vs vb nv nw nr nq ne io sp ch wt xf xz xt xb xc) (xN Q) := by
  refine XE (pl := [some (.ref 103), none, none, none, none]) xg222 rfl ?_
  obtain ⟨_, -, -, -, -, -, hpe, hTe⟩ := hat.get
  obtain ⟨cs1, q1, qe1, hI1, hat1, hF1⟩ := cmd_at hat hn
  obtain ⟨_, -, -, -, -, -, hq1, -⟩ := hat1.get
  iterate 4 refine x_step rfl ?_
  refine x_callvE rfl (q198 (d := 2) hb hβ he 5 10 0 q1 cs1 (by omega) (by decide) (by decide) (by omega) hI1) rfl rfl rfl ?_
  refine x_callvE rfl (q223 (d := 1) (by omega) hb hβ he 5 q1 qe1 hat1 hF1) rfl rfl rfl ?_
  refine x_step rfl ?_
  refine xm_ls (pl' := [some (.ref 103), some (.int 1), none, none, none]) (by rw [hc] <;> rfl) ?_
  iterate 2 refine x_step rfl ?_
  refine x_icmp_ne rfl (fun q => absurd (by decide) q) (fun _ => ?_)
  iterate 2 refine x_step rfl ?_
  refine x_if_ne rfl (fun _ => ?_) (fun q => absurd q hw)
  iterate 4 refine x_step rfl ?_
  refine x_if_ne rfl (fun _ => ?_) (fun q => absurd q (by decide))
  iterate 3 refine x_step rfl ?_
  refine x_icmp_ne rfl (fun hk => ?_) (fun hk => ?_)
  · iterate 4 refine x_step rfl ?_
    refine x_if_ne rfl (fun _ => ?_) (fun q => absurd q (by decide))
    exact q222_t _ _ _ 2 hd hdd hR
  · refine x_step rfl ?_
    refine x_if_ne rfl (fun q => absurd (by decide) q) (fun _ => ?_)
    iterate 4 refine x_step rfl ?_
    refine x_if_ne rfl (fun _ => ?_) (fun q => absurd q (by decide))
    exact q222_t _ _ _ 2 hd hdd hR
/-- FabLinkModel.command -/
theorem q222_c1 {Q : xm_H → Prop} {dd : Nat} (hb : ∀ i, i < 130 → jb (i + 1) = nI (β i)) (hβ : ∀ i, β i < 256) (he : e ≤ 130) (hat : itAt β e ps 6 0 10 e) (hn : pCmd β ps = true) (hc : cmdN β ps = 1) (hw : jw = 0) (hk : ¬ jk = 3) (hd : 3 ≤ d) (hdd : dd < d) (hR : XM l 195 dd 0 0 [.ref 103, .int 42] (cw L xs (rw th jl js jh jb jc jr jq jQ jz jf jo jn jt jH jA (nI ([1, 2, 33, 1, 2, 1, 0]).length) (xrbd jy ([1, 2, 33, 1, 2, 1, 0])) je jp jk jx jw ju jF jL jO jS jT jU jV jW ja jG ov g2) tc tf bl bf of oc ol on ml mx mb kc kh kr ka gl gx gb ls lq lk lg lh vf vs vb nv nw nr nq ne io sp ch wt xf xz xt xb xc) (xN Q)) : XM l 222 d 0 0 [.ref 103] (cw L xs (rw th jl js jh jb jc jr jq jQ jz jf jo jn jt jH jA jm jy je jp jk jx jw ju jF jL jO jS jT jU jV jW ja jG ov g2) tc tf bl bf of oc ol on ml mx mb kc kh kr ka gl gx gb ls lq lk lg lh vf vs vb nv nw nr nq ne io sp ch wt xf xz xt xb xc) (xN Q) := by
  refine XE (pl := [some (.ref 103), none, none, none, none]) xg222 rfl ?_
  obtain ⟨_, -, -, -, -, -, hpe, hTe⟩ := hat.get
  obtain ⟨cs1, q1, qe1, hI1, hat1, hF1⟩ := cmd_at hat hn
  obtain ⟨_, -, -, -, -, -, hq1, -⟩ := hat1.get
  iterate 4 refine x_step rfl ?_
  refine x_callvE rfl (q198 (d := 2) hb hβ he 5 10 0 q1 cs1 (by omega) (by decide) (by decide) (by omega) hI1) rfl rfl rfl ?_
  refine x_callvE rfl (q223 (d := 1) (by omega) hb hβ he 5 q1 qe1 hat1 hF1) rfl rfl rfl ?_
  refine x_step rfl ?_
  refine xm_ls (pl' := [some (.ref 103), some (.int 1), none, none, none]) (by rw [hc] <;> rfl) ?_
  iterate 2 refine x_step rfl ?_
  refine x_icmp_ne rfl (fun q => absurd (by decide) q) (fun _ => ?_)
  iterate 2 refine x_step rfl ?_
  refine x_if_ne rfl (fun q => absurd hw q) (fun _ => ?_)
  iterate 4 refine x_step rfl ?_
  refine x_if_ne rfl (fun _ => ?_) (fun q => absurd q (by decide))
  iterate 3 refine x_step rfl ?_
  refine x_icmp_ne rfl (fun _ => ?_) (fun q => absurd q hk)
  iterate 4 refine x_step rfl ?_
  refine x_if_ne rfl (fun _ => ?_) (fun q => absurd q (by decide))
  exact q222_t _ _ _ 2 hd hdd hR
/-- FabLinkModel.command -/
theorem q222_y1 {Q : xm_H → Prop} {dd : Nat} {r : Int32} {jm' : Int32} {jy' : Nat → Int32} {jn' : Int32} {jq' : Int32} {jo' : Int32} {jQ' : Nat → Int32} {jz' : Nat → Int32} {jf' : Nat → Int32} (hb : ∀ i, i < 130 → jb (i + 1) = nI (β i)) (hβ : ∀ i, β i < 256) (he : e ≤ 130) (hat : itAt β e ps 6 0 10 e) (hn : pCmd β ps = true) (hc : cmdN β ps = 1) (hw : jw = 0) (hk : jk = 3) (hd : 3 ≤ d) (hdd : dd < d) (hM : XM l 212 dd 0 0 [.ref 103, .int 2] (cw L xs (rw th jl js jh jb jc jr jq jQ jz jf jo jn jt jH jA jm jy je jp jk jx (1) (0) jF jL jO jS jT jU jV jW ja jG ov g2) tc tf bl bf of oc ol on ml mx mb kc kh kr ka gl gx gb ls lq lk lg lh vf vs vb nv nw nr nq ne io sp ch wt xf xz xt xb xc) (xm_is (some (.int r)) (cw L xs (rw th jl js jh jb jc jr (jq') (jQ') (jz') (jf') (jo') (jn') jt jH jA (jm') (jy') je jp jk jx (1) (0) jF jL jO jS jT jU jV jW ja jG ov g2) tc tf bl bf of oc ol on ml mx mb kc kh kr ka gl gx gb ls lq lk lg lh vf vs vb nv nw nr nq ne io sp ch wt xf xz xt xb xc))) (hR : XM l 195 dd 0 0 [.ref 103, .int 42] (cw L xs (rw th jl js jh jb jc jr (jq') (jQ') (jz') (jf') (jo') (jn') jt jH jA (nI ([1, 2, 33, 1, 0, 1, 0]).length) (xrbd jy' ([1, 2, 33, 1, 0, 1, 0])) je jp jk jx (1) (0) jF jL jO jS jT jU jV jW ja jG ov g2) tc tf bl bf of oc ol on ml mx mb kc kh kr ka gl gx gb ls lq lk lg lh vf vs vb nv nw nr nq ne io sp ch wt xf xz xt xb xc) (xN Q)) : XM l 222 d 0 0 [.ref 103] (cw L xs (rw th jl js jh jb jc jr jq jQ jz jf jo jn jt jH jA jm jy je jp jk jx jw ju jF jL jO jS jT jU jV jW ja jG ov g2) tc tf bl bf of oc ol on ml mx mb kc kh kr ka gl gx gb ls lq lk lg lh vf vs vb nv nw nr nq ne io sp ch wt xf xz xt xb xc) (xN Q) := by
  refine XE (pl := [some (.ref 103), none, none, none, none]) xg222 rfl ?_
  obtain ⟨_, -, -, -, -, -, hpe, hTe⟩ := hat.get
  obtain ⟨cs1, q1, qe1, hI1, hat1, hF1⟩ := cmd_at hat hn
  obtain ⟨_, -, -, -, -, -, hq1, -⟩ := hat1.get
  iterate 4 refine x_step rfl ?_
  refine x_callvE rfl (q198 (d := 2) hb hβ he 5 10 0 q1 cs1 (by omega) (by decide) (by decide) (by omega) hI1) rfl rfl rfl ?_
  refine x_callvE rfl (q223 (d := 1) (by omega) hb hβ he 5 q1 qe1 hat1 hF1) rfl rfl rfl ?_
  refine x_step rfl ?_
  refine xm_ls (pl' := [some (.ref 103), some (.int 1), none, none, none]) (by rw [hc] <;> rfl) ?_
  iterate 2 refine x_step rfl ?_
  refine x_icmp_ne rfl (fun q => absurd (by decide) q) (fun _ => ?_)
  iterate 2 refine x_step rfl ?_
  refine x_if_ne rfl (fun q => absurd hw q) (fun _ => ?_)
  iterate 4 refine x_step rfl ?_
  refine x_if_ne rfl (fun _ => ?_) (fun q => absurd q (by decide))
  iterate 3 refine x_step rfl ?_
  refine x_icmp_ne rfl (fun q => absurd hk q) (fun _ => ?_)
  refine x_step rfl ?_
  refine x_if_ne rfl (fun _ => ?_) (fun q => absurd q (by decide))
  iterate 3 refine x_step rfl ?_
  refine x_if_ne rfl (fun q => absurd (by decide) q) (fun _ => ?_)
  iterate 3 refine x_step rfl ?_
  refine x_icmp_eq rfl (fun _ => ?_) (fun q => absurd (by decide) q)
  iterate 6 refine x_step rfl ?_
  refine x_icmp_ne rfl (fun q => absurd (by decide) q) (fun _ => ?_)
  iterate 5 refine x_step rfl ?_
  refine x_icmp_ge rfl (fun q => absurd q (by decide)) (fun _ => ?_)
  refine xm_hs (hp' := (cw L xs (rw th jl js jh jb jc jr jq jQ jz jf jo jn jt jH jA jm jy je jp jk jx (1) (0) jF jL jO jS jT jU jV jW ja jG ov g2) tc tf bl bf of oc ol on ml mx mb kc kh kr ka gl gx gb ls lq lk lg lh vf vs vb nv nw nr nq ne io sp ch wt xf xz xt xb xc)) rfl ?_
  iterate 4 refine x_step rfl ?_
  refine x_callvE rfl (hM) rfl rfl rfl ?_
  refine x_if_eq rfl (fun hz => ?_) (fun hz => ?_)
  · iterate 2 refine x_step rfl ?_
    exact q222_t _ _ _ 0 hd hdd hR
  · iterate 3 refine x_step rfl ?_
    exact q222_t _ _ _ 0 hd hdd hR
/-- FabLinkModel.command -/
theorem q222_n2 {Q : xm_H → Prop} {dd : Nat} (hb : ∀ i, i < 130 → jb (i + 1) = nI (β i)) (hβ : ∀ i, β i < 256) (he : e ≤ 130) (hat : itAt β e ps 6 0 10 e) (hn : pCmd β ps = true) (hc : cmdN β ps = 2) (hw : jw ≤ 0) (hd : 3 ≤ d) (hdd : dd < d) (hR : XM l 195 dd 0 0 [.ref 103, .int 42] (cw L xs (rw th jl js jh jb jc jr jq jQ jz jf jo jn jt jH jA (nI ([1, 2, 33, 1, 2, 1, 0]).length) (xrbd jy ([1, 2, 33, 1, 2, 1, 0])) je jp jk jx jw ju jF jL jO jS jT jU jV jW ja jG ov g2) tc tf bl bf of oc ol on ml mx mb kc kh kr ka gl gx gb ls lq lk lg lh vf vs vb nv nw nr nq ne io sp ch wt xf xz xt xb xc) (xN Q)) : XM l 222 d 0 0 [.ref 103] (cw L xs (rw th jl js jh jb jc jr jq jQ jz jf jo jn jt jH jA jm jy je jp jk jx jw ju jF jL jO jS jT jU jV jW ja jG ov g2) tc tf bl bf of oc ol on ml mx mb kc kh kr ka gl gx gb ls lq lk lg lh vf vs vb nv nw nr nq ne io sp ch wt xf xz xt xb xc) (xN Q) := by
  refine XE (pl := [some (.ref 103), none, none, none, none]) xg222 rfl ?_
  obtain ⟨_, -, -, -, -, -, hpe, hTe⟩ := hat.get
  obtain ⟨cs1, q1, qe1, hI1, hat1, hF1⟩ := cmd_at hat hn
  obtain ⟨_, -, -, -, -, -, hq1, -⟩ := hat1.get
  iterate 4 refine x_step rfl ?_
  refine x_callvE rfl (q198 (d := 2) hb hβ he 5 10 0 q1 cs1 (by omega) (by decide) (by decide) (by omega) hI1) rfl rfl rfl ?_
  refine x_callvE rfl (q223 (d := 1) (by omega) hb hβ he 5 q1 qe1 hat1 hF1) rfl rfl rfl ?_
  refine x_step rfl ?_
  refine xm_ls (pl' := [some (.ref 103), some (.int 2), none, none, none]) (by rw [hc] <;> rfl) ?_
  iterate 2 refine x_step rfl ?_
  refine x_icmp_ne rfl (fun _ => ?_) (fun q => absurd q (by decide))
  iterate 2 refine x_step rfl ?_
  refine x_icmp_ne rfl (fun q => absurd (by decide) q) (fun _ => ?_)
  iterate 2 refine x_step rfl ?_
  refine x_if_le rfl (fun _ => ?_) (fun q => absurd hw q)
  iterate 4 refine x_step rfl ?_
  refine x_if_ne rfl (fun _ => ?_) (fun q => absurd q (by decide))
  iterate 3 refine x_step rfl ?_
  refine x_icmp_ne rfl (fun hk => ?_) (fun hk => ?_)
  · iterate 4 refine x_step rfl ?_
    refine x_if_ne rfl (fun _ => ?_) (fun q => absurd q (by decide))
    exact q222_t _ _ _ 2 hd hdd hR
  · refine x_step rfl ?_
    refine x_if_ne rfl (fun q => absurd (by decide) q) (fun _ => ?_)
    iterate 4 refine x_step rfl ?_
    refine x_if_ne rfl (fun _ => ?_) (fun q => absurd q (by decide))
    exact q222_t _ _ _ 2 hd hdd hR
/-- FabLinkModel.command -/
theorem q222_c2 {Q : xm_H → Prop} {dd : Nat} (hb : ∀ i, i < 130 → jb (i + 1) = nI (β i)) (hβ : ∀ i, β i < 256) (he : e ≤ 130) (hat : itAt β e ps 6 0 10 e) (hn : pCmd β ps = true) (hc : cmdN β ps = 2) (hw : ¬ jw ≤ 0) (hk : ¬ jk = 3) (hd : 3 ≤ d) (hdd : dd < d) (hR : XM l 195 dd 0 0 [.ref 103, .int 42] (cw L xs (rw th jl js jh jb jc jr jq jQ jz jf jo jn jt jH jA (nI ([1, 2, 33, 1, 2, 1, 0]).length) (xrbd jy ([1, 2, 33, 1, 2, 1, 0])) je jp jk jx jw ju jF jL jO jS jT jU jV jW ja jG ov g2) tc tf bl bf of oc ol on ml mx mb kc kh kr ka gl gx gb ls lq lk lg lh vf vs vb nv nw nr nq ne io sp ch wt xf xz xt xb xc) (xN Q)) : XM l 222 d 0 0 [.ref 103] (cw L xs (rw th jl js jh jb jc jr jq jQ jz jf jo jn jt jH jA jm jy je jp jk jx jw ju jF jL jO jS jT jU jV jW ja jG ov g2) tc tf bl bf of oc ol on ml mx mb kc kh kr ka gl gx gb ls lq lk lg lh vf vs vb nv nw nr nq ne io sp ch wt xf xz xt xb xc) (xN Q) := by
  refine XE (pl := [some (.ref 103), none, none, none, none]) xg222 rfl ?_
  obtain ⟨_, -, -, -, -, -, hpe, hTe⟩ := hat.get
  obtain ⟨cs1, q1, qe1, hI1, hat1, hF1⟩ := cmd_at hat hn
  obtain ⟨_, -, -, -, -, -, hq1, -⟩ := hat1.get
  iterate 4 refine x_step rfl ?_
  refine x_callvE rfl (q198 (d := 2) hb hβ he 5 10 0 q1 cs1 (by omega) (by decide) (by decide) (by omega) hI1) rfl rfl rfl ?_
  refine x_callvE rfl (q223 (d := 1) (by omega) hb hβ he 5 q1 qe1 hat1 hF1) rfl rfl rfl ?_
  refine x_step rfl ?_
  refine xm_ls (pl' := [some (.ref 103), some (.int 2), none, none, none]) (by rw [hc] <;> rfl) ?_
  iterate 2 refine x_step rfl ?_
  refine x_icmp_ne rfl (fun _ => ?_) (fun q => absurd q (by decide))
  iterate 2 refine x_step rfl ?_
  refine x_icmp_ne rfl (fun q => absurd (by decide) q) (fun _ => ?_)
  iterate 2 refine x_step rfl ?_
  refine x_if_le rfl (fun q => absurd q hw) (fun _ => ?_)
  iterate 4 refine x_step rfl ?_
  refine x_if_ne rfl (fun _ => ?_) (fun q => absurd q (by decide))
  iterate 3 refine x_step rfl ?_
  refine x_icmp_ne rfl (fun _ => ?_) (fun q => absurd q hk)
  iterate 4 refine x_step rfl ?_
  refine x_if_ne rfl (fun _ => ?_) (fun q => absurd q (by decide))
  exact q222_t _ _ _ 2 hd hdd hR
/-- FabLinkModel.command -/
theorem q222_y2 {Q : xm_H → Prop} {dd : Nat} {r : Int32} {jm' : Int32} {jy' : Nat → Int32} {jn' : Int32} {jq' : Int32} {jo' : Int32} {jQ' : Nat → Int32} {jz' : Nat → Int32} {jf' : Nat → Int32} (hb : ∀ i, i < 130 → jb (i + 1) = nI (β i)) (hβ : ∀ i, β i < 256) (he : e ≤ 130) (hat : itAt β e ps 6 0 10 e) (hn : pCmd β ps = true) (hc : cmdN β ps = 2) (hw : ¬ jw ≤ 0) (hk : jk = 3) (hd : 3 ≤ d) (hdd : dd < d) (hM : XM l 212 dd 0 0 [.ref 103, .int 3] (cw L xs (rw th jl js jh jb jc jr jq jQ jz jf jo jn jt jH jA jm jy je jp jk jx (0) ju jF jL jO jS jT jU jV jW ja jG ov g2) tc tf bl bf of oc ol on ml mx mb kc kh kr ka gl gx gb ls lq lk lg lh vf vs vb nv nw nr nq ne io sp ch wt xf xz xt xb xc) (xm_is (some (.int r)) (cw L xs (rw th jl js jh jb jc jr (jq') (jQ') (jz') (jf') (jo') (jn') jt jH jA (jm') (jy') je jp jk jx (0) ju jF jL jO jS jT jU jV jW ja jG ov g2) tc tf bl bf of oc ol on ml mx mb kc kh kr ka gl gx gb ls lq lk lg lh vf vs vb nv nw nr nq ne io sp ch wt xf xz xt xb xc))) (hR : XM l 195 dd 0 0 [.ref 103, .int 42] (cw L xs (rw th jl js jh jb jc jr (jq') (jQ') (jz') (jf') (jo') (jn') jt jH jA (nI ([1, 2, 33, 1, 0, 1, 0]).length) (xrbd jy' ([1, 2, 33, 1, 0, 1, 0])) je jp jk jx (0) ju jF jL jO jS jT jU jV jW ja jG ov g2) tc tf bl bf of oc ol on ml mx mb kc kh kr ka gl gx gb ls lq lk lg lh vf vs vb nv nw nr nq ne io sp ch wt xf xz xt xb xc) (xN Q)) : XM l 222 d 0 0 [.ref 103] (cw L xs (rw th jl js jh jb jc jr jq jQ jz jf jo jn jt jH jA jm jy je jp jk jx jw ju jF jL jO jS jT jU jV jW ja jG ov g2) tc tf bl bf of oc ol on ml mx mb kc kh kr ka gl gx gb ls lq lk lg lh vf vs vb nv nw nr nq ne io sp ch wt xf xz xt xb xc) (xN Q) := by
  refine XE (pl := [some (.ref 103), none, none, none, none]) xg222 rfl ?_
  obtain ⟨_, -, -, -, -, -, hpe, hTe⟩ := hat.get
  obtain ⟨cs1, q1, qe1, hI1, hat1, hF1⟩ := cmd_at hat hn
  obtain ⟨_, -, -, -, -, -, hq1, -⟩ := hat1.get
  iterate 4 refine x_step rfl ?_
  refine x_callvE rfl (q198 (d := 2) hb hβ he 5 10 0 q1 cs1 (by omega) (by decide) (by decide) (by omega) hI1) rfl rfl rfl ?_
  refine x_callvE rfl (q223 (d := 1) (by omega) hb hβ he 5 q1 qe1 hat1 hF1) rfl rfl rfl ?_
  refine x_step rfl ?_
  refine xm_ls (pl' := [some (.ref 103), some (.int 2), none, none, none]) (by rw [hc] <;> rfl) ?_
  iterate 2 refine x_step rfl ?_
  refine x_icmp_ne rfl (fun _ => ?_) (fun q => absurd q (by decide))
  iterate 2 refine x_step rfl ?_
  refine x_icmp_ne rfl (fun q => absurd (by decide) q) (fun _ => ?_)
  iterate 2 refine x_step rfl ?_
  refine x_if_le rfl (fun q => absurd q hw) (fun _ => ?_)
  iterate 4 refine x_step rfl ?_
  refine x_if_ne rfl (fun _ => ?_) (fun q => absurd q (by decide))
  iterate 3 refine x_step rfl ?_
  refine x_icmp_ne rfl (fun q => absurd hk q) (fun _ => ?_)
  refine x_step rfl ?_
  refine x_if_ne rfl (fun _ => ?_) (fun q => absurd q (by decide))
  iterate 3 refine x_step rfl ?_
  refine x_if_ne rfl (fun q => absurd (by decide) q) (fun _ => ?_)
  iterate 3 refine x_step rfl ?_
  refine x_icmp_eq rfl (fun q => absurd q (by decide)) (fun _ => ?_)
  iterate 2 refine x_step rfl ?_
  refine x_icmp_ne rfl (fun _ => ?_) (fun q => absurd q (by decide))
  iterate 2 refine x_step rfl ?_
  refine x_icmp_ne rfl (fun q => absurd (by decide) q) (fun _ => ?_)
  iterate 6 refine x_step rfl ?_
  refine x_icmp_ne rfl (fun _ => ?_) (fun q => absurd q (by decide))
  iterate 5 refine x_step rfl ?_
  refine x_icmp_ge rfl (fun q => absurd q (by decide)) (fun _ => ?_)
  refine xm_hs (hp' := (cw L xs (rw th jl js jh jb jc jr jq jQ jz jf jo jn jt jH jA jm jy je jp jk jx (0) ju jF jL jO jS jT jU jV jW ja jG ov g2) tc tf bl bf of oc ol on ml mx mb kc kh kr ka gl gx gb ls lq lk lg lh vf vs vb nv nw nr nq ne io sp ch wt xf xz xt xb xc)) rfl ?_
  iterate 4 refine x_step rfl ?_
  refine x_callvE rfl (hM) rfl rfl rfl ?_
  refine x_if_eq rfl (fun hz => ?_) (fun hz => ?_)
  · iterate 2 refine x_step rfl ?_
    exact q222_t _ _ _ 0 hd hdd hR
  · iterate 3 refine x_step rfl ?_
    exact q222_t _ _ _ 0 hd hdd hR
/-- FabLinkModel.command -/
theorem q222_n3 {Q : xm_H → Prop} {dd : Nat} (hb : ∀ i, i < 130 → jb (i + 1) = nI (β i)) (hβ : ∀ i, β i < 256) (he : e ≤ 130) (hat : itAt β e ps 6 0 10 e) (hn : pCmd β ps = true) (hc : cmdN β ps = 3) (hw : ¬ jw = 1) (hd : 3 ≤ d) (hdd : dd < d) (hR : XM l 195 dd 0 0 [.ref 103, .int 42] (cw L xs (rw th jl js jh jb jc jr jq jQ jz jf jo jn jt jH jA (nI ([1, 2, 33, 1, 2, 1, 0]).length) (xrbd jy ([1, 2, 33, 1, 2, 1, 0])) je jp jk jx jw ju jF jL jO jS jT jU jV jW ja jG ov g2) tc tf bl bf of oc ol on ml mx mb kc kh kr ka gl gx gb ls lq lk lg lh vf vs vb nv nw nr nq ne io sp ch wt xf xz xt xb xc) (xN Q)) : XM l 222 d 0 0 [.ref 103] (cw L xs (rw th jl js jh jb jc jr jq jQ jz jf jo jn jt jH jA jm jy je jp jk jx jw ju jF jL jO jS jT jU jV jW ja jG ov g2) tc tf bl bf of oc ol on ml mx mb kc kh kr ka gl gx gb ls lq lk lg lh vf vs vb nv nw nr nq ne io sp ch wt xf xz xt xb xc) (xN Q) := by
  refine XE (pl := [some (.ref 103), none, none, none, none]) xg222 rfl ?_
  obtain ⟨_, -, -, -, -, -, hpe, hTe⟩ := hat.get
  obtain ⟨cs1, q1, qe1, hI1, hat1, hF1⟩ := cmd_at hat hn
  obtain ⟨_, -, -, -, -, -, hq1, -⟩ := hat1.get
  iterate 4 refine x_step rfl ?_
  refine x_callvE rfl (q198 (d := 2) hb hβ he 5 10 0 q1 cs1 (by omega) (by decide) (by decide) (by omega) hI1) rfl rfl rfl ?_
  refine x_callvE rfl (q223 (d := 1) (by omega) hb hβ he 5 q1 qe1 hat1 hF1) rfl rfl rfl ?_
  refine x_step rfl ?_
  refine xm_ls (pl' := [some (.ref 103), some (.int 3), none, none, none]) (by rw [hc] <;> rfl) ?_
  iterate 2 refine x_step rfl ?_
  refine x_icmp_ne rfl (fun _ => ?_) (fun q => absurd q (by decide))
  iterate 2 refine x_step rfl ?_
  refine x_icmp_ne rfl (fun _ => ?_) (fun q => absurd q (by decide))
  iterate 2 refine x_step rfl ?_
  refine x_icmp_ne rfl (fun q => absurd (by decide) q) (fun _ => ?_)
  iterate 3 refine x_step rfl ?_
  refine x_icmp_ne rfl (fun _ => ?_) (fun q => absurd q hw)
  iterate 4 refine x_step rfl ?_
  refine x_if_ne rfl (fun _ => ?_) (fun q => absurd q (by decide))
  iterate 3 refine x_step rfl ?_
  refine x_icmp_ne rfl (fun hk => ?_) (fun hk => ?_)
  · iterate 4 refine x_step rfl ?_
    refine x_if_ne rfl (fun _ => ?_) (fun q => absurd q (by decide))
    exact q222_t _ _ _ 2 hd hdd hR
  · refine x_step rfl ?_
    refine x_if_ne rfl (fun q => absurd (by decide) q) (fun _ => ?_)
    iterate 4 refine x_step rfl ?_
    refine x_if_ne rfl (fun _ => ?_) (fun q => absurd q (by decide))
    exact q222_t _ _ _ 2 hd hdd hR
/-- FabLinkModel.command -/
theorem q222_c3 {Q : xm_H → Prop} {dd : Nat} (hb : ∀ i, i < 130 → jb (i + 1) = nI (β i)) (hβ : ∀ i, β i < 256) (he : e ≤ 130) (hat : itAt β e ps 6 0 10 e) (hn : pCmd β ps = true) (hc : cmdN β ps = 3) (hw : jw = 1) (hk : ¬ jk = 3) (hd : 3 ≤ d) (hdd : dd < d) (hR : XM l 195 dd 0 0 [.ref 103, .int 42] (cw L xs (rw th jl js jh jb jc jr jq jQ jz jf jo jn jt jH jA (nI ([1, 2, 33, 1, 2, 1, 0]).length) (xrbd jy ([1, 2, 33, 1, 2, 1, 0])) je jp jk jx jw ju jF jL jO jS jT jU jV jW ja jG ov g2) tc tf bl bf of oc ol on ml mx mb kc kh kr ka gl gx gb ls lq lk lg lh vf vs vb nv nw nr nq ne io sp ch wt xf xz xt xb xc) (xN Q)) : XM l 222 d 0 0 [.ref 103] (cw L xs (rw th jl js jh jb jc jr jq jQ jz jf jo jn jt jH jA jm jy je jp jk jx jw ju jF jL jO jS jT jU jV jW ja jG ov g2) tc tf bl bf of oc ol on ml mx mb kc kh kr ka gl gx gb ls lq lk lg lh vf vs vb nv nw nr nq ne io sp ch wt xf xz xt xb xc) (xN Q) := by
  refine XE (pl := [some (.ref 103), none, none, none, none]) xg222 rfl ?_
  obtain ⟨_, -, -, -, -, -, hpe, hTe⟩ := hat.get
  obtain ⟨cs1, q1, qe1, hI1, hat1, hF1⟩ := cmd_at hat hn
  obtain ⟨_, -, -, -, -, -, hq1, -⟩ := hat1.get
  iterate 4 refine x_step rfl ?_
  refine x_callvE rfl (q198 (d := 2) hb hβ he 5 10 0 q1 cs1 (by omega) (by decide) (by decide) (by omega) hI1) rfl rfl rfl ?_
  refine x_callvE rfl (q223 (d := 1) (by omega) hb hβ he 5 q1 qe1 hat1 hF1) rfl rfl rfl ?_
  refine x_step rfl ?_
  refine xm_ls (pl' := [some (.ref 103), some (.int 3), none, none, none]) (by rw [hc] <;> rfl) ?_
  iterate 2 refine x_step rfl ?_
  refine x_icmp_ne rfl (fun _ => ?_) (fun q => absurd q (by decide))
  iterate 2 refine x_step rfl ?_
  refine x_icmp_ne rfl (fun _ => ?_) (fun q => absurd q (by decide))
  iterate 2 refine x_step rfl ?_
  refine x_icmp_ne rfl (fun q => absurd (by decide) q) (fun _ => ?_)
  iterate 3 refine x_step rfl ?_
  refine x_icmp_ne rfl (fun q => absurd hw q) (fun _ => ?_)
  iterate 4 refine x_step rfl ?_
  refine x_if_ne rfl (fun _ => ?_) (fun q => absurd q (by decide))
  iterate 3 refine x_step rfl ?_
  refine x_icmp_ne rfl (fun _ => ?_) (fun q => absurd q hk)
  iterate 4 refine x_step rfl ?_
  refine x_if_ne rfl (fun _ => ?_) (fun q => absurd q (by decide))
  exact q222_t _ _ _ 2 hd hdd hR
/-- FabLinkModel.command -/
theorem q222_y3 {Q : xm_H → Prop} {dd : Nat} {r : Int32} {jm' : Int32} {jy' : Nat → Int32} {jn' : Int32} {jq' : Int32} {jo' : Int32} {jQ' : Nat → Int32} {jz' : Nat → Int32} {jf' : Nat → Int32} (hb : ∀ i, i < 130 → jb (i + 1) = nI (β i)) (hβ : ∀ i, β i < 256) (he : e ≤ 130) (hat : itAt β e ps 6 0 10 e) (hn : pCmd β ps = true) (hc : cmdN β ps = 3) (hw : jw = 1) (hk : jk = 3) (hd : 3 ≤ d) (hdd : dd < d) (hM : XM l 212 dd 0 0 [.ref 103, .int 4] (cw L xs (rw th jl js jh jb jc jr jq jQ jz jf jo jn jt jH jA jm jy je jp jk jx (2) ju jF jL jO jS jT jU jV jW ja jG ov g2) tc tf bl bf of oc ol on ml mx mb kc kh kr ka gl gx gb ls lq lk lg lh vf vs vb nv nw nr nq ne io sp ch wt xf xz xt xb xc) (xm_is (some (.int r)) (cw L xs (rw th jl js jh jb jc jr (jq') (jQ') (jz') (jf') (jo') (jn') jt jH jA (jm') (jy') je jp jk jx (2) ju jF jL jO jS jT jU jV jW ja jG ov g2) tc tf bl bf of oc ol on ml mx mb kc kh kr ka gl gx gb ls lq lk lg lh vf vs vb nv nw nr nq ne io sp ch wt xf xz xt xb xc))) (hR : XM l 195 dd 0 0 [.ref 103, .int 42] (cw L xs (rw th jl js jh jb jc jr (jq') (jQ') (jz') (jf') (jo') (jn') jt jH jA (nI ([1, 2, 33, 1, 0, 1, 0]).length) (xrbd jy' ([1, 2, 33, 1, 0, 1, 0])) je jp jk jx (2) ju jF jL jO jS jT jU jV jW ja jG ov g2) tc tf bl bf of oc ol on ml mx mb kc kh kr ka gl gx gb ls lq lk lg lh vf vs vb nv nw nr nq ne io sp ch wt xf xz xt xb xc) (xN Q)) : XM l 222 d 0 0 [.ref 103] (cw L xs (rw th jl js jh jb jc jr jq jQ jz jf jo jn jt jH jA jm jy je jp jk jx jw ju jF jL jO jS jT jU jV jW ja jG ov g2) tc tf bl bf of oc ol on ml mx mb kc kh kr ka gl gx gb ls lq lk lg lh vf vs vb nv nw nr nq ne io sp ch wt xf xz xt xb xc) (xN Q) := by
  refine XE (pl := [some (.ref 103), none, none, none, none]) xg222 rfl ?_
  obtain ⟨_, -, -, -, -, -, hpe, hTe⟩ := hat.get
  obtain ⟨cs1, q1, qe1, hI1, hat1, hF1⟩ := cmd_at hat hn
  obtain ⟨_, -, -, -, -, -, hq1, -⟩ := hat1.get
  iterate 4 refine x_step rfl ?_
  refine x_callvE rfl (q198 (d := 2) hb hβ he 5 10 0 q1 cs1 (by omega) (by decide) (by decide) (by omega) hI1) rfl rfl rfl ?_
  refine x_callvE rfl (q223 (d := 1) (by omega) hb hβ he 5 q1 qe1 hat1 hF1) rfl rfl rfl ?_
  refine x_step rfl ?_
  refine xm_ls (pl' := [some (.ref 103), some (.int 3), none, none, none]) (by rw [hc] <;> rfl) ?_
  iterate 2 refine x_step rfl ?_
  refine x_icmp_ne rfl (fun _ => ?_) (fun q => absurd q (by decide))
  iterate 2 refine x_step rfl ?_
  refine x_icmp_ne rfl (fun _ => ?_) (fun q => absurd q (by decide))
  iterate 2 refine x_step rfl ?_
  refine x_icmp_ne rfl (fun q => absurd (by decide) q) (fun _ => ?_)
  iterate 3 refine x_step rfl ?_
  refine x_icmp_ne rfl (fun q => absurd hw q) (fun _ => ?_)
  iterate 4 refine x_step rfl ?_
  refine x_if_ne rfl (fun _ => ?_) (fun q => absurd q (by decide))
  iterate 3 refine x_step rfl ?_
  refine x_icmp_ne rfl (fun q => absurd hk q) (fun _ => ?_)
  refine x_step rfl ?_
  refine x_if_ne rfl (fun _ => ?_) (fun q => absurd q (by decide))
  iterate 3 refine x_step rfl ?_
  refine x_if_ne rfl (fun q => absurd (by decide) q) (fun _ => ?_)
  iterate 3 refine x_step rfl ?_
  refine x_icmp_eq rfl (fun q => absurd q (by decide)) (fun _ => ?_)
  iterate 2 refine x_step rfl ?_
  refine x_icmp_ne rfl (fun _ => ?_) (fun q => absurd q (by decide))
  iterate 2 refine x_step rfl ?_
  refine x_icmp_ne rfl (fun _ => ?_) (fun q => absurd q (by decide))
  iterate 5 refine x_step rfl ?_
  refine x_icmp_ne rfl (fun _ => ?_) (fun q => absurd q (by decide))
  iterate 5 refine x_step rfl ?_
  refine x_icmp_ge rfl (fun q => absurd q (by decide)) (fun _ => ?_)
  refine xm_hs (hp' := (cw L xs (rw th jl js jh jb jc jr jq jQ jz jf jo jn jt jH jA jm jy je jp jk jx (2) ju jF jL jO jS jT jU jV jW ja jG ov g2) tc tf bl bf of oc ol on ml mx mb kc kh kr ka gl gx gb ls lq lk lg lh vf vs vb nv nw nr nq ne io sp ch wt xf xz xt xb xc)) rfl ?_
  iterate 4 refine x_step rfl ?_
  refine x_callvE rfl (hM) rfl rfl rfl ?_
  refine x_if_eq rfl (fun hz => ?_) (fun hz => ?_)
  · iterate 2 refine x_step rfl ?_
    exact q222_t _ _ _ 0 hd hdd hR
  · iterate 3 refine x_step rfl ?_
    exact q222_t _ _ _ 0 hd hdd hR
/-- FabLinkModel.command -/
theorem q222_n4 {Q : xm_H → Prop} {dd : Nat} (hb : ∀ i, i < 130 → jb (i + 1) = nI (β i)) (hβ : ∀ i, β i < 256) (he : e ≤ 130) (hat : itAt β e ps 6 0 10 e) (hn : pCmd β ps = true) (hc : cmdN β ps = 4) (hw : ¬ jw = 2) (hd : 3 ≤ d) (hdd : dd < d) (hR : XM l 195 dd 0 0 [.ref 103, .int 42] (cw L xs (rw th jl js jh jb jc jr jq jQ jz jf jo jn jt jH jA (nI ([1, 2, 33, 1, 2, 1, 0]).length) (xrbd jy ([1, 2, 33, 1, 2, 1, 0])) je jp jk jx jw ju jF jL jO jS jT jU jV jW ja jG ov g2) tc tf bl bf of oc ol on ml mx mb kc kh kr ka gl gx gb ls lq lk lg lh vf vs vb nv nw nr nq ne io sp ch wt xf xz xt xb xc) (xN Q)) : XM l 222 d 0 0 [.ref 103] (cw L xs (rw th jl js jh jb jc jr jq jQ jz jf jo jn jt jH jA jm jy je jp jk jx jw ju jF jL jO jS jT jU jV jW ja jG ov g2) tc tf bl bf of oc ol on ml mx mb kc kh kr ka gl gx gb ls lq lk lg lh vf vs vb nv nw nr nq ne io sp ch wt xf xz xt xb xc) (xN Q) := by
  refine XE (pl := [some (.ref 103), none, none, none, none]) xg222 rfl ?_
  obtain ⟨_, -, -, -, -, -, hpe, hTe⟩ := hat.get
  obtain ⟨cs1, q1, qe1, hI1, hat1, hF1⟩ := cmd_at hat hn
  obtain ⟨_, -, -, -, -, -, hq1, -⟩ := hat1.get
  iterate 4 refine x_step rfl ?_
  refine x_callvE rfl (q198 (d := 2) hb hβ he 5 10 0 q1 cs1 (by omega) (by decide) (by decide) (by omega) hI1) rfl rfl rfl ?_
  refine x_callvE rfl (q223 (d := 1) (by omega) hb hβ he 5 q1 qe1 hat1 hF1) rfl rfl rfl ?_
  refine x_step rfl ?_
  refine xm_ls (pl' := [some (.ref 103), some (.int 4), none, none, none]) (by rw [hc] <;> rfl) ?_
  iterate 2 refine x_step rfl ?_
  refine x_icmp_ne rfl (fun _ => ?_) (fun q => absurd q (by decide))
  iterate 2 refine x_step rfl ?_
  refine x_icmp_ne rfl (fun _ => ?_) (fun q => absurd q (by decide))
  iterate 2 refine x_step rfl ?_
  refine x_icmp_ne rfl (fun _ => ?_) (fun q => absurd q (by decide))
  iterate 3 refine x_step rfl ?_
  refine x_icmp_ne rfl (fun _ => ?_) (fun q => absurd q hw)
  iterate 3 refine x_step rfl ?_
  refine x_if_ne rfl (fun _ => ?_) (fun q => absurd q (by decide))
  iterate 3 refine x_step rfl ?_
  refine x_icmp_ne rfl (fun hk => ?_) (fun hk => ?_)
  · iterate 4 refine x_step rfl ?_
    refine x_if_ne rfl (fun _ => ?_) (fun q => absurd q (by decide))
    exact q222_t _ _ _ 2 hd hdd hR
  · refine x_step rfl ?_
    refine x_if_ne rfl (fun q => absurd (by decide) q) (fun _ => ?_)
    iterate 4 refine x_step rfl ?_
    refine x_if_ne rfl (fun _ => ?_) (fun q => absurd q (by decide))
    exact q222_t _ _ _ 2 hd hdd hR
/-- FabLinkModel.command -/
theorem q222_c4 {Q : xm_H → Prop} {dd : Nat} (hb : ∀ i, i < 130 → jb (i + 1) = nI (β i)) (hβ : ∀ i, β i < 256) (he : e ≤ 130) (hat : itAt β e ps 6 0 10 e) (hn : pCmd β ps = true) (hc : cmdN β ps = 4) (hw : jw = 2) (hk : ¬ jk = 3) (hd : 3 ≤ d) (hdd : dd < d) (hR : XM l 195 dd 0 0 [.ref 103, .int 42] (cw L xs (rw th jl js jh jb jc jr jq jQ jz jf jo jn jt jH jA (nI ([1, 2, 33, 1, 2, 1, 0]).length) (xrbd jy ([1, 2, 33, 1, 2, 1, 0])) je jp jk jx jw ju jF jL jO jS jT jU jV jW ja jG ov g2) tc tf bl bf of oc ol on ml mx mb kc kh kr ka gl gx gb ls lq lk lg lh vf vs vb nv nw nr nq ne io sp ch wt xf xz xt xb xc) (xN Q)) : XM l 222 d 0 0 [.ref 103] (cw L xs (rw th jl js jh jb jc jr jq jQ jz jf jo jn jt jH jA jm jy je jp jk jx jw ju jF jL jO jS jT jU jV jW ja jG ov g2) tc tf bl bf of oc ol on ml mx mb kc kh kr ka gl gx gb ls lq lk lg lh vf vs vb nv nw nr nq ne io sp ch wt xf xz xt xb xc) (xN Q) := by
  refine XE (pl := [some (.ref 103), none, none, none, none]) xg222 rfl ?_
  obtain ⟨_, -, -, -, -, -, hpe, hTe⟩ := hat.get
  obtain ⟨cs1, q1, qe1, hI1, hat1, hF1⟩ := cmd_at hat hn
  obtain ⟨_, -, -, -, -, -, hq1, -⟩ := hat1.get
  iterate 4 refine x_step rfl ?_
  refine x_callvE rfl (q198 (d := 2) hb hβ he 5 10 0 q1 cs1 (by omega) (by decide) (by decide) (by omega) hI1) rfl rfl rfl ?_
  refine x_callvE rfl (q223 (d := 1) (by omega) hb hβ he 5 q1 qe1 hat1 hF1) rfl rfl rfl ?_
  refine x_step rfl ?_
  refine xm_ls (pl' := [some (.ref 103), some (.int 4), none, none, none]) (by rw [hc] <;> rfl) ?_
  iterate 2 refine x_step rfl ?_
  refine x_icmp_ne rfl (fun _ => ?_) (fun q => absurd q (by decide))
  iterate 2 refine x_step rfl ?_
  refine x_icmp_ne rfl (fun _ => ?_) (fun q => absurd q (by decide))
  iterate 2 refine x_step rfl ?_
  refine x_icmp_ne rfl (fun _ => ?_) (fun q => absurd q (by decide))
  iterate 3 refine x_step rfl ?_
  refine x_icmp_ne rfl (fun q => absurd hw q) (fun _ => ?_)
  iterate 4 refine x_step rfl ?_
  refine x_if_ne rfl (fun _ => ?_) (fun q => absurd q (by decide))
  iterate 3 refine x_step rfl ?_
  refine x_icmp_ne rfl (fun _ => ?_) (fun q => absurd q hk)
  iterate 4 refine x_step rfl ?_
  refine x_if_ne rfl (fun _ => ?_) (fun q => absurd q (by decide))
  exact q222_t _ _ _ 2 hd hdd hR
/-- FabLinkModel.command -/
theorem q222_y4 {Q : xm_H → Prop} {dd : Nat} (hb : ∀ i, i < 130 → jb (i + 1) = nI (β i)) (hβ : ∀ i, β i < 256) (he : e ≤ 130) (hat : itAt β e ps 6 0 10 e) (hn : pCmd β ps = true) (hc : cmdN β ps = 4) (hw : jw = 2) (hk : jk = 3) (hd : 3 ≤ d) (hdd : dd < d) (hR : XM l 195 dd 0 0 [.ref 103, .int 42] (cw L xs (rw th jl js jh jb jc jr jq jQ jz jf jo jn jt jH jA (nI ([1, 2, 33, 1, 0, 1, 0]).length) (xrbd jy ([1, 2, 33, 1, 0, 1, 0])) je jp jk jx (1) ju jF jL jO jS jT jU jV jW ja jG ov g2) tc tf bl bf of oc ol on ml mx mb kc kh kr ka gl gx gb ls lq lk lg lh vf vs vb nv nw nr nq ne io sp ch wt xf xz xt xb xc) (xN Q)) : XM l 222 d 0 0 [.ref 103] (cw L xs (rw th jl js jh jb jc jr jq jQ jz jf jo jn jt jH jA jm jy je jp jk jx jw ju jF jL jO jS jT jU jV jW ja jG ov g2) tc tf bl bf of oc ol on ml mx mb kc kh kr ka gl gx gb ls lq lk lg lh vf vs vb nv nw nr nq ne io sp ch wt xf xz xt xb xc) (xN Q) := by
  refine XE (pl := [some (.ref 103), none, none, none, none]) xg222 rfl ?_
  obtain ⟨_, -, -, -, -, -, hpe, hTe⟩ := hat.get
  obtain ⟨cs1, q1, qe1, hI1, hat1, hF1⟩ := cmd_at hat hn
  obtain ⟨_, -, -, -, -, -, hq1, -⟩ := hat1.get
  iterate 4 refine x_step rfl ?_
  refine x_callvE rfl (q198 (d := 2) hb hβ he 5 10 0 q1 cs1 (by omega) (by decide) (by decide) (by omega) hI1) rfl rfl rfl ?_
  refine x_callvE rfl (q223 (d := 1) (by omega) hb hβ he 5 q1 qe1 hat1 hF1) rfl rfl rfl ?_
  refine x_step rfl ?_
  refine xm_ls (pl' := [some (.ref 103), some (.int 4), none, none, none]) (by rw [hc] <;> rfl) ?_
  iterate 2 refine x_step rfl ?_
  refine x_icmp_ne rfl (fun _ => ?_) (fun q => absurd q (by decide))
  iterate 2 refine x_step rfl ?_
  refine x_icmp_ne rfl (fun _ => ?_) (fun q => absurd q (by decide))
  iterate 2 refine x_step rfl ?_
  refine x_icmp_ne rfl (fun _ => ?_) (fun q => absurd q (by decide))
  iterate 3 refine x_step rfl ?_
  refine x_icmp_ne rfl (fun q => absurd hw q) (fun _ => ?_)
  iterate 4 refine x_step rfl ?_
  refine x_if_ne rfl (fun _ => ?_) (fun q => absurd q (by decide))
  iterate 3 refine x_step rfl ?_
  refine x_icmp_ne rfl (fun q => absurd hk q) (fun _ => ?_)
  refine x_step rfl ?_
  refine x_if_ne rfl (fun _ => ?_) (fun q => absurd q (by decide))
  iterate 3 refine x_step rfl ?_
  refine x_if_ne rfl (fun q => absurd (by decide) q) (fun _ => ?_)
  iterate 3 refine x_step rfl ?_
  refine x_icmp_eq rfl (fun q => absurd q (by decide)) (fun _ => ?_)
  iterate 2 refine x_step rfl ?_
  refine x_icmp_ne rfl (fun q => absurd (by decide) q) (fun _ => ?_)
  iterate 6 refine x_step rfl ?_
  refine x_icmp_ne rfl (fun _ => ?_) (fun q => absurd q (by decide))
  iterate 5 refine x_step rfl ?_
  refine x_icmp_ge rfl (fun _ => ?_) (fun q => absurd (by decide) q)
  refine xm_hs (hp' := (cw L xs (rw th jl js jh jb jc jr jq jQ jz jf jo jn jt jH jA jm jy je jp jk jx (1) ju jF jL jO jS jT jU jV jW ja jG ov g2) tc tf bl bf of oc ol on ml mx mb kc kh kr ka gl gx gb ls lq lk lg lh vf vs vb nv nw nr nq ne io sp ch wt xf xz xt xb xc)) rfl ?_
  iterate 2 refine x_step rfl ?_
  exact q222_t _ _ _ 0 hd hdd hR
/-- FabLinkModel.act -/
theorem q205_257 {Q : xm_H → Prop} {dd : Nat} (hd : 3 ≤ d) (hdd : dd < d) (hR : XM l 195 dd 0 0 [.ref 103, .int 2] (cw L xs (rw th jl js jh jb jc jr jq jQ jz jf jo jn jt jH jA (nI (xwho).length) (xrbd jy (xwho)) je jp jk jx jw ju jF jL jO jS jT jU jV jW ja jG ov g2) tc tf bl bf of oc ol on ml mx mb kc kh kr ka gl gx gb ls lq lk lg lh vf vs vb nv nw nr nq ne io sp ch wt xf xz xt xb xc) (xN Q)) : XM l 205 d 0 0 [.ref 103, .int 1, .int 1] (cw L xs (rw th jl js jh jb jc jr jq jQ jz jf jo jn jt jH jA jm jy je jp jk jx jw ju jF jL jO jS jT jU jV jW ja jG ov g2) tc tf bl bf of oc ol on ml mx mb kc kh kr ka gl gx gb ls lq lk lg lh vf vs vb nv nw nr nq ne io sp ch wt xf xz xt xb xc) (xN Q) := by
  refine XE (pl := [some (.ref 103), some (.int 1), some (.int 1)]) xg205 rfl ?_
  iterate 2 refine x_step rfl ?_
  refine x_icmp_ne rfl (fun q => absurd (by decide) q) (fun _ => ?_)
  iterate 2 refine x_step rfl ?_
  refine x_icmp_ne rfl (fun q => absurd (by decide) q) (fun _ => ?_)
  iterate 3 refine x_step rfl ?_
  refine xm_hs (hp' := (cw L xs (rw th jl js jh jb jc jr jq jQ jz jf jo jn jt jH jA (nI ([] : List Int32).length) (xrbd jy ([] : List Int32)) je jp jk jx jw ju jF jL jO jS jT jU jV jW ja jG ov g2) tc tf bl bf of oc ol on ml mx mb kc kh kr ka gl gx gb ls lq lk lg lh vf vs vb nv nw nr nq ne io sp ch wt xf xz xt xb xc)) (by rw [xrbd_nil] <;> rfl) ?_
  refine x_step rfl ?_
  refine x_callvE rfl (q206 (d := 2) (by omega)) rfl rfl rfl ?_
  iterate 2 refine x_step rfl ?_
  refine x_callvQ rfl (hR) rfl rfl rfl (fun h9 hq => ?_)
  refine x_step rfl ?_
  exact x_ret rfl rfl ⟨rfl, hq⟩
/-- FabLinkModel.act -/
theorem q205_259 {Q : xm_H → Prop} {dd : Nat} (hdd : dd < d) (hR : XM l 207 dd 0 0 [.ref 103] (cw L xs (rw th jl js jh jb jc jr jq jQ jz jf jo jn jt jH jA jm jy je jp jk jx jw ju jF jL jO jS jT jU jV jW ja jG ov g2) tc tf bl bf of oc ol on ml mx mb kc kh kr ka gl gx gb ls lq lk lg lh vf vs vb nv nw nr nq ne io sp ch wt xf xz xt xb xc) (xN Q)) : XM l 205 d 0 0 [.ref 103, .int 1, .int 3] (cw L xs (rw th jl js jh jb jc jr jq jQ jz jf jo jn jt jH jA jm jy je jp jk jx jw ju jF jL jO jS jT jU jV jW ja jG ov g2) tc tf bl bf of oc ol on ml mx mb kc kh kr ka gl gx gb ls lq lk lg lh vf vs vb nv nw nr nq ne io sp ch wt xf xz xt xb xc) (xN Q) := by
  refine XE (pl := [some (.ref 103), some (.int 1), some (.int 3)]) xg205 rfl ?_
  iterate 2 refine x_step rfl ?_
  refine x_icmp_ne rfl (fun q => absurd (by decide) q) (fun _ => ?_)
  iterate 2 refine x_step rfl ?_
  refine x_icmp_ne rfl (fun _ => ?_) (fun q => absurd q (by decide))
  iterate 2 refine x_step rfl ?_
  refine x_icmp_ne rfl (fun q => absurd (by decide) q) (fun _ => ?_)
  iterate 2 refine x_step rfl ?_
  refine x_icmp_ne rfl (fun q => absurd (by decide) q) (fun _ => ?_)
  refine x_step rfl ?_
  refine x_callvQ rfl (hR) rfl rfl rfl (fun h9 hq => ?_)
  refine x_step rfl ?_
  exact x_ret rfl rfl ⟨rfl, hq⟩
/-- FabLinkModel.act -/
theorem q205_269 {Q : xm_H → Prop} {dd : Nat} (hd : 3 ≤ d) (hdd : dd < d) (hR : XM l 195 dd 0 0 [.ref 103, .int 14] (cw L xs (rw th jl js jh jb jc jr jq jQ jz jf jo jn jt jH jA (nI ([1, 2, 33, 1, 0, 1, 0]).length) (xrbd jy ([1, 2, 33, 1, 0, 1, 0])) je (1) jk jx jw ju jF jL jO jS jT jU jV jW ja jG ov g2) tc tf bl bf of oc ol on ml mx mb kc kh kr ka gl gx gb ls lq lk lg lh vf vs vb nv nw nr nq ne io sp ch wt xf xz xt xb xc) (xN Q)) : XM l 205 d 0 0 [.ref 103, .int 1, .int 13] (cw L xs (rw th jl js jh jb jc jr jq jQ jz jf jo jn jt jH jA jm jy je jp jk jx jw ju jF jL jO jS jT jU jV jW ja jG ov g2) tc tf bl bf of oc ol on ml mx mb kc kh kr ka gl gx gb ls lq lk lg lh vf vs vb nv nw nr nq ne io sp ch wt xf xz xt xb xc) (xN Q) := by
  refine XE (pl := [some (.ref 103), some (.int 1), some (.int 13)]) xg205 rfl ?_
  iterate 2 refine x_step rfl ?_
  refine x_icmp_ne rfl (fun q => absurd (by decide) q) (fun _ => ?_)
  iterate 2 refine x_step rfl ?_
  refine x_icmp_ne rfl (fun _ => ?_) (fun q => absurd q (by decide))
  iterate 2 refine x_step rfl ?_
  refine x_icmp_ne rfl (fun q => absurd (by decide) q) (fun _ => ?_)
  iterate 2 refine x_step rfl ?_
  refine x_icmp_ne rfl (fun _ => ?_) (fun q => absurd q (by decide))
  iterate 2 refine x_step rfl ?_
  refine x_icmp_ne rfl (fun q => absurd (by decide) q) (fun _ => ?_)
  iterate 2 refine x_step rfl ?_
  refine x_icmp_ne rfl (fun q => absurd (by decide) q) (fun _ => ?_)
  iterate 2 refine x_step rfl ?_
  refine x_putf rfl rfl (Nat.le_of_ble_eq_true rfl) (by decide) rfl rfl ?_
  iterate 3 refine x_step rfl ?_
  refine xm_hs (hp' := (cw L xs (rw th jl js jh jb jc jr jq jQ jz jf jo jn jt jH jA (nI ([] : List Int32).length) (xrbd jy ([] : List Int32)) je (1) jk jx jw ju jF jL jO jS jT jU jV jW ja jG ov g2) tc tf bl bf of oc ol on ml mx mb kc kh kr ka gl gx gb ls lq lk lg lh vf vs vb nv nw nr nq ne io sp ch wt xf xz xt xb xc)) (by rw [xrbd_nil] <;> rfl) ?_
  iterate 3 refine x_step rfl ?_
  refine x_callvE rfl (q178 (d := 1) [] 0 2 (by omega) (by decide)) rfl rfl rfl ?_
  iterate 2 refine x_step rfl ?_
  refine x_callvE rfl (q210 (d := 2) [1, 2] 0 (by omega) (by decide)) rfl rfl rfl ?_
  iterate 3 refine x_step rfl ?_
  refine x_callvE rfl (q178 (d := 1) [1, 2, 33, 1, 0] 0 0 (by omega) (by simp only [List.length_cons, List.length_nil]; decide)) rfl rfl rfl ?_
  iterate 2 refine x_step rfl ?_
  refine x_callvQ rfl (hR) rfl rfl rfl (fun h9 hq => ?_)
  refine x_step rfl ?_
  exact x_ret rfl rfl ⟨rfl, hq⟩
/-- FabLinkModel.act -/
theorem q205_271 {Q : xm_H → Prop} {dd : Nat} {h8 : xm_H} {fs : List Value} (hdd : dd < d) (hM : XM l 211 dd 0 0 [.ref 103, .int 1] (cw L xs (rw th jl js jh jb jc jr jq jQ jz jf jo jn jt jH jA jm jy je jp jk jx jw ju jF jL jO jS jT jU jV jW ja jG ov g2) tc tf bl bf of oc ol on ml mx mb kc kh kr ka gl gx gb ls lq lk lg lh vf vs vb nv nw nr nq ne io sp ch wt xf xz xt xb xc) (xm_is none h8)) (e8 : h8[103]? = some (xO 12 fs)) (hR : XM l 213 dd 0 0 [.ref 103, .int 0] h8 (xN Q)) : XM l 205 d 0 0 [.ref 103, .int 1, .int 15] (cw L xs (rw th jl js jh jb jc jr jq jQ jz jf jo jn jt jH jA jm jy je jp jk jx jw ju jF jL jO jS jT jU jV jW ja jG ov g2) tc tf bl bf of oc ol on ml mx mb kc kh kr ka gl gx gb ls lq lk lg lh vf vs vb nv nw nr nq ne io sp ch wt xf xz xt xb xc) (xN Q) := by
  refine XE (pl := [some (.ref 103), some (.int 1), some (.int 15)]) xg205 rfl ?_
  iterate 2 refine x_step rfl ?_
  refine x_icmp_ne rfl (fun q => absurd (by decide) q) (fun _ => ?_)
  iterate 2 refine x_step rfl ?_
  refine x_icmp_ne rfl (fun _ => ?_) (fun q => absurd q (by decide))
  iterate 2 refine x_step rfl ?_
  refine x_icmp_ne rfl (fun q => absurd (by decide) q) (fun _ => ?_)
  iterate 2 refine x_step rfl ?_
  refine x_icmp_ne rfl (fun _ => ?_) (fun q => absurd q (by decide))
  iterate 2 refine x_step rfl ?_
  refine x_icmp_ne rfl (fun q => absurd (by decide) q) (fun _ => ?_)
  iterate 2 refine x_step rfl ?_
  refine x_icmp_ne rfl (fun _ => ?_) (fun q => absurd q (by decide))
  iterate 2 refine x_step rfl ?_
  refine x_icmp_ne rfl (fun q => absurd (by decide) q) (fun _ => ?_)
  iterate 2 refine x_step rfl ?_
  refine x_icmp_ne rfl (fun q => absurd (by decide) q) (fun _ => ?_)
  iterate 2 refine x_step rfl ?_
  refine x_callvE rfl (hM) rfl rfl rfl ?_
  iterate 2 refine x_step rfl ?_
  refine x_callvQ rfl hR rfl rfl e8 (fun h9 hq => ?_)
  refine x_step rfl ?_
  exact x_ret rfl rfl ⟨rfl, hq⟩
/-- FabLinkModel.act -/
theorem q205_273 {Q : xm_H → Prop} {dd : Nat} (hdd : dd < d) (hR : XM l 214 dd 0 0 [.ref 103] (cw L xs (rw th jl js jh jb jc jr jq jQ jz jf jo jn jt jH jA jm jy je jp jk jx jw ju jF jL jO jS jT jU jV jW ja jG ov g2) tc tf bl bf of oc ol on ml mx mb kc kh kr ka gl gx gb ls lq lk lg lh vf vs vb nv nw nr nq ne io sp ch wt xf xz xt xb xc) (xN Q)) : XM l 205 d 0 0 [.ref 103, .int 1, .int 17] (cw L xs (rw th jl js jh jb jc jr jq jQ jz jf jo jn jt jH jA jm jy je jp jk jx jw ju jF jL jO jS jT jU jV jW ja jG ov g2) tc tf bl bf of oc ol on ml mx mb kc kh kr ka gl gx gb ls lq lk lg lh vf vs vb nv nw nr nq ne io sp ch wt xf xz xt xb xc) (xN Q) := by
  refine XE (pl := [some (.ref 103), some (.int 1), some (.int 17)]) xg205 rfl ?_
  iterate 2 refine x_step rfl ?_
  refine x_icmp_ne rfl (fun q => absurd (by decide) q) (fun _ => ?_)
  iterate 2 refine x_step rfl ?_
  refine x_icmp_ne rfl (fun _ => ?_) (fun q => absurd q (by decide))
  iterate 2 refine x_step rfl ?_
  refine x_icmp_ne rfl (fun q => absurd (by decide) q) (fun _ => ?_)
  iterate 2 refine x_step rfl ?_
  refine x_icmp_ne rfl (fun _ => ?_) (fun q => absurd q (by decide))
  iterate 2 refine x_step rfl ?_
  refine x_icmp_ne rfl (fun q => absurd (by decide) q) (fun _ => ?_)
  iterate 2 refine x_step rfl ?_
  refine x_icmp_ne rfl (fun _ => ?_) (fun q => absurd q (by decide))
  iterate 2 refine x_step rfl ?_
  refine x_icmp_ne rfl (fun q => absurd (by decide) q) (fun _ => ?_)
  iterate 2 refine x_step rfl ?_
  refine x_icmp_ne rfl (fun _ => ?_) (fun q => absurd q (by decide))
  iterate 2 refine x_step rfl ?_
  refine x_icmp_ne rfl (fun q => absurd (by decide) q) (fun _ => ?_)
  refine x_step rfl ?_
  refine x_callvQ rfl (hR) rfl rfl rfl (fun h9 hq => ?_)
  refine x_step rfl ?_
  exact x_ret rfl rfl ⟨rfl, hq⟩
/-- FabLinkModel.act -/
theorem q205_527 {Q : xm_H → Prop} {dd : Nat} (hdd : dd < d) (hR : XM l 215 dd 0 0 [.ref 103] (cw L xs (rw th jl js jh jb jc jr jq jQ jz jf jo jn jt jH jA jm jy je jp jk jx jw ju jF jL jO jS jT jU jV jW ja jG ov g2) tc tf bl bf of oc ol on ml mx mb kc kh kr ka gl gx gb ls lq lk lg lh vf vs vb nv nw nr nq ne io sp ch wt xf xz xt xb xc) (xN Q)) : XM l 205 d 0 0 [.ref 103, .int 2, .int 15] (cw L xs (rw th jl js jh jb jc jr jq jQ jz jf jo jn jt jH jA jm jy je jp jk jx jw ju jF jL jO jS jT jU jV jW ja jG ov g2) tc tf bl bf of oc ol on ml mx mb kc kh kr ka gl gx gb ls lq lk lg lh vf vs vb nv nw nr nq ne io sp ch wt xf xz xt xb xc) (xN Q) := by
  refine XE (pl := [some (.ref 103), some (.int 2), some (.int 15)]) xg205 rfl ?_
  iterate 2 refine x_step rfl ?_
  refine x_icmp_ne rfl (fun _ => ?_) (fun q => absurd q (by decide))
  iterate 2 refine x_step rfl ?_
  refine x_icmp_ne rfl (fun _ => ?_) (fun q => absurd q (by decide))
  iterate 2 refine x_step rfl ?_
  refine x_icmp_ne rfl (fun _ => ?_) (fun q => absurd q (by decide))
  iterate 2 refine x_step rfl ?_
  refine x_icmp_ne rfl (fun _ => ?_) (fun q => absurd q (by decide))
  iterate 2 refine x_step rfl ?_
  refine x_icmp_ne rfl (fun _ => ?_) (fun q => absurd q (by decide))
  iterate 2 refine x_step rfl ?_
  refine x_icmp_ne rfl (fun q => absurd (by decide) q) (fun _ => ?_)
  refine x_step rfl ?_
  refine x_callvQ rfl (hR) rfl rfl rfl (fun h9 hq => ?_)
  refine x_step rfl ?_
  exact x_ret rfl rfl ⟨rfl, hq⟩
/-- FabLinkModel.act -/
theorem q205_545 {Q : xm_H → Prop} {dd : Nat} (hdd : dd < d) (hR : XM l 216 dd 0 0 [.ref 103] (cw L xs (rw th jl js jh jb jc jr jq jQ jz jf jo jn jt jH jA jm jy je jp jk jx jw ju jF jL jO jS jT jU jV jW ja jG ov g2) tc tf bl bf of oc ol on ml mx mb kc kh kr ka gl gx gb ls lq lk lg lh vf vs vb nv nw nr nq ne io sp ch wt xf xz xt xb xc) (xN Q)) : XM l 205 d 0 0 [.ref 103, .int 2, .int 33] (cw L xs (rw th jl js jh jb jc jr jq jQ jz jf jo jn jt jH jA jm jy je jp jk jx jw ju jF jL jO jS jT jU jV jW ja jG ov g2) tc tf bl bf of oc ol on ml mx mb kc kh kr ka gl gx gb ls lq lk lg lh vf vs vb nv nw nr nq ne io sp ch wt xf xz xt xb xc) (xN Q) := by
  refine XE (pl := [some (.ref 103), some (.int 2), some (.int 33)]) xg205 rfl ?_
  iterate 2 refine x_step rfl ?_
  refine x_icmp_ne rfl (fun _ => ?_) (fun q => absurd q (by decide))
  iterate 2 refine x_step rfl ?_
  refine x_icmp_ne rfl (fun _ => ?_) (fun q => absurd q (by decide))
  iterate 2 refine x_step rfl ?_
  refine x_icmp_ne rfl (fun _ => ?_) (fun q => absurd q (by decide))
  iterate 2 refine x_step rfl ?_
  refine x_icmp_ne rfl (fun _ => ?_) (fun q => absurd q (by decide))
  iterate 2 refine x_step rfl ?_
  refine x_icmp_ne rfl (fun _ => ?_) (fun q => absurd q (by decide))
  iterate 2 refine x_step rfl ?_
  refine x_icmp_ne rfl (fun _ => ?_) (fun q => absurd q (by decide))
  iterate 2 refine x_step rfl ?_
  refine x_icmp_ne rfl (fun q => absurd (by decide) q) (fun _ => ?_)
  refine x_step rfl ?_
  refine x_callvQ rfl (hR) rfl rfl rfl (fun h9 hq => ?_)
  refine x_step rfl ?_
  exact x_ret rfl rfl ⟨rfl, hq⟩
/-- FabLinkModel.act -/
theorem q205_547 {Q : xm_H → Prop} {dd : Nat} (hdd : dd < d) (hR : XM l 218 dd 0 0 [.ref 103] (cw L xs (rw th jl js jh jb jc jr jq jQ jz jf jo jn jt jH jA jm jy je jp jk jx jw ju jF jL jO jS jT jU jV jW ja jG ov g2) tc tf bl bf of oc ol on ml mx mb kc kh kr ka gl gx gb ls lq lk lg lh vf vs vb nv nw nr nq ne io sp ch wt xf xz xt xb xc) (xN Q)) : XM l 205 d 0 0 [.ref 103, .int 2, .int 35] (cw L xs (rw th jl js jh jb jc jr jq jQ jz jf jo jn jt jH jA jm jy je jp jk jx jw ju jF jL jO jS jT jU jV jW ja jG ov g2) tc tf bl bf of oc ol on ml mx mb kc kh kr ka gl gx gb ls lq lk lg lh vf vs vb nv nw nr nq ne io sp ch wt xf xz xt xb xc) (xN Q) := by
  refine XE (pl := [some (.ref 103), some (.int 2), some (.int 35)]) xg205 rfl ?_
  iterate 2 refine x_step rfl ?_
  refine x_icmp_ne rfl (fun _ => ?_) (fun q => absurd q (by decide))
  iterate 2 refine x_step rfl ?_
  refine x_icmp_ne rfl (fun _ => ?_) (fun q => absurd q (by decide))
  iterate 2 refine x_step rfl ?_
  refine x_icmp_ne rfl (fun _ => ?_) (fun q => absurd q (by decide))
  iterate 2 refine x_step rfl ?_
  refine x_icmp_ne rfl (fun _ => ?_) (fun q => absurd q (by decide))
  iterate 2 refine x_step rfl ?_
  refine x_icmp_ne rfl (fun _ => ?_) (fun q => absurd q (by decide))
  iterate 2 refine x_step rfl ?_
  refine x_icmp_ne rfl (fun _ => ?_) (fun q => absurd q (by decide))
  iterate 2 refine x_step rfl ?_
  refine x_icmp_ne rfl (fun _ => ?_) (fun q => absurd q (by decide))
  iterate 2 refine x_step rfl ?_
  refine x_icmp_ne rfl (fun q => absurd (by decide) q) (fun _ => ?_)
  refine x_step rfl ?_
  refine x_callvQ rfl (hR) rfl rfl rfl (fun h9 hq => ?_)
  refine x_step rfl ?_
  exact x_ret rfl rfl ⟨rfl, hq⟩
/-- FabLinkModel.act -/
theorem q205_549 {Q : xm_H → Prop} {dd : Nat} (hdd : dd < d) (hR : XM l 221 dd 0 0 [.ref 103] (cw L xs (rw th jl js jh jb jc jr jq jQ jz jf jo jn jt jH jA jm jy je jp jk jx jw ju jF jL jO jS jT jU jV jW ja jG ov g2) tc tf bl bf of oc ol on ml mx mb kc kh kr ka gl gx gb ls lq lk lg lh vf vs vb nv nw nr nq ne io sp ch wt xf xz xt xb xc) (xN Q)) : XM l 205 d 0 0 [.ref 103, .int 2, .int 37] (cw L xs (rw th jl js jh jb jc jr jq jQ jz jf jo jn jt jH jA jm jy je jp jk jx jw ju jF jL jO jS jT jU jV jW ja jG ov g2) tc tf bl bf of oc ol on ml mx mb kc kh kr ka gl gx gb ls lq lk lg lh vf vs vb nv nw nr nq ne io sp ch wt xf xz xt xb xc) (xN Q) := by
  refine XE (pl := [some (.ref 103), some (.int 2), some (.int 37)]) xg205 rfl ?_
  iterate 2 refine x_step rfl ?_
  refine x_icmp_ne rfl (fun _ => ?_) (fun q => absurd q (by decide))
  iterate 2 refine x_step rfl ?_
  refine x_icmp_ne rfl (fun _ => ?_) (fun q => absurd q (by decide))
  iterate 2 refine x_step rfl ?_
  refine x_icmp_ne rfl (fun _ => ?_) (fun q => absurd q (by decide))
  iterate 2 refine x_step rfl ?_
  refine x_icmp_ne rfl (fun _ => ?_) (fun q => absurd q (by decide))
  iterate 2 refine x_step rfl ?_
  refine x_icmp_ne rfl (fun _ => ?_) (fun q => absurd q (by decide))
  iterate 2 refine x_step rfl ?_
  refine x_icmp_ne rfl (fun _ => ?_) (fun q => absurd q (by decide))
  iterate 2 refine x_step rfl ?_
  refine x_icmp_ne rfl (fun _ => ?_) (fun q => absurd q (by decide))
  iterate 2 refine x_step rfl ?_
  refine x_icmp_ne rfl (fun _ => ?_) (fun q => absurd q (by decide))
  iterate 2 refine x_step rfl ?_
  refine x_icmp_ne rfl (fun q => absurd (by decide) q) (fun _ => ?_)
  refine x_step rfl ?_
  refine x_callvQ rfl (hR) rfl rfl rfl (fun h9 hq => ?_)
  refine x_step rfl ?_
  exact x_ret rfl rfl ⟨rfl, hq⟩
/-- FabLinkModel.act -/
theorem q205_553 {Q : xm_H → Prop} {dd : Nat} (hdd : dd < d) (hR : XM l 222 dd 0 0 [.ref 103] (cw L xs (rw th jl js jh jb jc jr jq jQ jz jf jo jn jt jH jA jm jy je jp jk jx jw ju jF jL jO jS jT jU jV jW ja jG ov g2) tc tf bl bf of oc ol on ml mx mb kc kh kr ka gl gx gb ls lq lk lg lh vf vs vb nv nw nr nq ne io sp ch wt xf xz xt xb xc) (xN Q)) : XM l 205 d 0 0 [.ref 103, .int 2, .int 41] (cw L xs (rw th jl js jh jb jc jr jq jQ jz jf jo jn jt jH jA jm jy je jp jk jx jw ju jF jL jO jS jT jU jV jW ja jG ov g2) tc tf bl bf of oc ol on ml mx mb kc kh kr ka gl gx gb ls lq lk lg lh vf vs vb nv nw nr nq ne io sp ch wt xf xz xt xb xc) (xN Q) := by
  refine XE (pl := [some (.ref 103), some (.int 2), some (.int 41)]) xg205 rfl ?_
  iterate 2 refine x_step rfl ?_
  refine x_icmp_ne rfl (fun _ => ?_) (fun q => absurd q (by decide))
  iterate 2 refine x_step rfl ?_
  refine x_icmp_ne rfl (fun _ => ?_) (fun q => absurd q (by decide))
  iterate 2 refine x_step rfl ?_
  refine x_icmp_ne rfl (fun _ => ?_) (fun q => absurd q (by decide))
  iterate 2 refine x_step rfl ?_
  refine x_icmp_ne rfl (fun _ => ?_) (fun q => absurd q (by decide))
  iterate 2 refine x_step rfl ?_
  refine x_icmp_ne rfl (fun _ => ?_) (fun q => absurd q (by decide))
  iterate 2 refine x_step rfl ?_
  refine x_icmp_ne rfl (fun _ => ?_) (fun q => absurd q (by decide))
  iterate 2 refine x_step rfl ?_
  refine x_icmp_ne rfl (fun _ => ?_) (fun q => absurd q (by decide))
  iterate 2 refine x_step rfl ?_
  refine x_icmp_ne rfl (fun _ => ?_) (fun q => absurd q (by decide))
  iterate 2 refine x_step rfl ?_
  refine x_icmp_ne rfl (fun _ => ?_) (fun q => absurd q (by decide))
  refine x_step rfl ?_
  refine x_callvQ rfl (hR) rfl rfl rfl (fun h9 hq => ?_)
  exact x_ret rfl rfl ⟨rfl, hq⟩
/-- FabLinkModel.named -/
theorem q194_1 (f : Nat) (hf8 : f < 256) : XM l 194 d 0 0 [.ref 103, .int 1, .int (nI f)] (cw L xs (rw th jl js jh jb jc jr jq jQ jz jf jo jn jt jH jA jm jy je jp jk jx jw ju jF jL jO jS jT jU jV jW ja jG ov g2) tc tf bl bf of oc ol on ml mx mb kc kh kr ka gl gx gb ls lq lk lg lh vf vs vb nv nw nr nq ne io sp ch wt xf xz xt xb xc) (xm_is (some (.int (bI (dN (256 * 1 + f))))) (cw L xs (rw th jl js jh jb jc jr jq jQ jz jf jo jn jt jH jA jm jy je jp jk jx jw ju jF jL jO jS jT jU jV jW ja jG ov g2) tc tf bl bf of oc ol on ml mx mb kc kh kr ka gl gx gb ls lq lk lg lh vf vs vb nv nw nr nq ne io sp ch wt xf xz xt xb xc)) := by
  refine XE (pl := [some (.ref 103), some (.int 1), some (.int (nI f))]) xg194 rfl ?_
  iterate 2 refine x_step rfl ?_
  refine x_icmp_ne rfl (fun q => absurd (by decide) q) (fun _ => ?_)
  iterate 2 refine x_step rfl ?_
  refine x_icmpN_eq (f) (1) rfl rfl rfl (fun hf0 => ?_) (fun hf0 => ?_)
  · subst hf0
    iterate 2 refine x_step rfl ?_
    exact x_iret rfl rfl rfl ⟨rfl, rfl⟩
  · iterate 2 refine x_step rfl ?_
    refine x_icmpN_eq (f) (3) rfl rfl rfl (fun hf1 => ?_) (fun hf1 => ?_)
    · subst hf1
      iterate 2 refine x_step rfl ?_
      exact x_iret rfl rfl rfl ⟨rfl, rfl⟩
    · iterate 2 refine x_step rfl ?_
      refine x_icmpN_eq (f) (13) rfl rfl rfl (fun hf2 => ?_) (fun hf2 => ?_)
      · subst hf2
        iterate 2 refine x_step rfl ?_
        exact x_iret rfl rfl rfl ⟨rfl, rfl⟩
      · iterate 2 refine x_step rfl ?_
        refine x_icmpN_eq (f) (15) rfl rfl rfl (fun hf3 => ?_) (fun hf3 => ?_)
        · subst hf3
          iterate 2 refine x_step rfl ?_
          exact x_iret rfl rfl rfl ⟨rfl, rfl⟩
        · iterate 2 refine x_step rfl ?_
          refine x_icmpN_ne (f) (17) rfl rfl rfl (fun hf => ?_) (fun hf => ?_)
          · iterate 2 refine x_step rfl ?_
            exact x_iret rfl rfl rfl ⟨by rw [show dN (256 * 1 + f) = false from by unfold dN; simp only [Bool.or_eq_false_iff, beq_eq_false_iff_ne]; omega]; rfl, rfl⟩
          · subst hf
            iterate 2 refine x_step rfl ?_
            exact x_iret rfl rfl rfl ⟨rfl, rfl⟩
/-- FabLinkModel.named -/
theorem q194_2 (f : Nat) (hf8 : f < 256) : XM l 194 d 0 0 [.ref 103, .int 2, .int (nI f)] (cw L xs (rw th jl js jh jb jc jr jq jQ jz jf jo jn jt jH jA jm jy je jp jk jx jw ju jF jL jO jS jT jU jV jW ja jG ov g2) tc tf bl bf of oc ol on ml mx mb kc kh kr ka gl gx gb ls lq lk lg lh vf vs vb nv nw nr nq ne io sp ch wt xf xz xt xb xc) (xm_is (some (.int (bI (dN (256 * 2 + f))))) (cw L xs (rw th jl js jh jb jc jr jq jQ jz jf jo jn jt jH jA jm jy je jp jk jx jw ju jF jL jO jS jT jU jV jW ja jG ov g2) tc tf bl bf of oc ol on ml mx mb kc kh kr ka gl gx gb ls lq lk lg lh vf vs vb nv nw nr nq ne io sp ch wt xf xz xt xb xc)) := by
  refine XE (pl := [some (.ref 103), some (.int 2), some (.int (nI f))]) xg194 rfl ?_
  iterate 2 refine x_step rfl ?_
  refine x_icmp_ne rfl (fun _ => ?_) (fun q => absurd q (by decide))
  iterate 2 refine x_step rfl ?_
  refine x_icmpN_eq (f) (15) rfl rfl rfl (fun hf0 => ?_) (fun hf0 => ?_)
  · subst hf0
    iterate 2 refine x_step rfl ?_
    exact x_iret rfl rfl rfl ⟨rfl, rfl⟩
  · iterate 2 refine x_step rfl ?_
    refine x_icmpN_eq (f) (33) rfl rfl rfl (fun hf1 => ?_) (fun hf1 => ?_)
    · subst hf1
      iterate 2 refine x_step rfl ?_
      exact x_iret rfl rfl rfl ⟨rfl, rfl⟩
    · iterate 2 refine x_step rfl ?_
      refine x_icmpN_eq (f) (35) rfl rfl rfl (fun hf2 => ?_) (fun hf2 => ?_)
      · subst hf2
        iterate 2 refine x_step rfl ?_
        exact x_iret rfl rfl rfl ⟨rfl, rfl⟩
      · iterate 2 refine x_step rfl ?_
        refine x_icmpN_eq (f) (37) rfl rfl rfl (fun hf3 => ?_) (fun hf3 => ?_)
        · subst hf3
          iterate 2 refine x_step rfl ?_
          exact x_iret rfl rfl rfl ⟨rfl, rfl⟩
        · iterate 2 refine x_step rfl ?_
          refine x_icmpN_ne (f) (41) rfl rfl rfl (fun hf => ?_) (fun hf => ?_)
          · refine x_step rfl ?_
            exact x_iret rfl rfl rfl ⟨by rw [show dN (256 * 2 + f) = false from by unfold dN; simp only [Bool.or_eq_false_iff, beq_eq_false_iff_ne]; omega]; rfl, rfl⟩
          · subst hf
            iterate 2 refine x_step rfl ?_
            exact x_iret rfl rfl rfl ⟨rfl, rfl⟩
theorem q194 (s f : Nat) (hs : s = 1 ∨ s = 2) (hf : f < 256) : XM l 194 d 0 0 [.ref 103, .int (nI s), .int (nI f)] (cw L xs (rw th jl js jh jb jc jr jq jQ jz jf jo jn jt jH jA jm jy je jp jk jx jw ju jF jL jO jS jT jU jV jW ja jG ov g2) tc tf bl bf of oc ol on ml mx mb kc kh kr ka gl gx gb ls lq lk lg lh vf vs vb nv nw nr nq ne io sp ch wt xf xz xt xb xc) (xm_is (some (.int (bI (dN (256 * s + f))))) (cw L xs (rw th jl js jh jb jc jr jq jQ jz jf jo jn jt jH jA jm jy je jp jk jx jw ju jF jL jO jS jT jU jV jW ja jG ov g2) tc tf bl bf of oc ol on ml mx mb kc kh kr ka gl gx gb ls lq lk lg lh vf vs vb nv nw nr nq ne io sp ch wt xf xz xt xb xc)) := by
  rcases hs with rfl | rfl
  · exact q194_1 f hf
  · exact q194_2 f hf
theorem q196 {Q : Option Value → xm_H → Prop} (hb : ∀ i, i < 130 → jb (i + 1) = nI (β i)) (hβ : ∀ i, β i < 256) (he : e ≤ 130) (s f : Nat) (hn : dN (256 * s + f) = true) (hs : s < 128) (hf : f < 256) (g : Nat → Nat) (hg : ∀ i, g i < 2 ^ 24) (hd : 6 ≤ d) (hQ : ∀ g' : Nat → Nat, (∀ i, g' i < 2 ^ 24) → Q (some (.int (bI (dB β e (256 * s + f))))) (cw L xs (rw th jl js jh jb jc jr jq jQ jz jf jo jn jt jH jA jm jy je jp jk jx jw ju jF jL jO jS jT jU jV jW (nI e) (fun z1 => nI ((g') z1)) ov g2) tc tf bl bf of oc ol on ml mx mb kc kh kr ka gl gx gb ls lq lk lg lh vf vs vb nv nw nr nq ne io sp ch wt xf xz xt xb xc)) : XM l 196 d 0 0 [.ref 103, .int (nI s), .int (nI f)] (cw L xs (rw th jl js jh jb jc jr jq jQ jz jf jo jn jt jH jA jm jy je jp jk jx jw ju jF jL jO jS jT jU jV jW (nI e) (fun z1 => nI ((g) z1)) ov g2) tc tf bl bf of oc ol on ml mx mb kc kh kr ka gl gx gb ls lq lk lg lh vf vs vb nv nw nr nq ne io sp ch wt xf xz xt xb xc) Q := by
  have h : s = 1 ∧ (f = 1 ∨ f = 3 ∨ f = 13 ∨ f = 15 ∨ f = 17) ∨ s = 2 ∧ (f = 15 ∨ f = 33 ∨ f = 35 ∨ f = 37 ∨ f = 41) := by
    unfold dN at hn
    simp only [Bool.or_eq_true, beq_iff_eq] at hn
    omega
  rcases h with ⟨rfl, rfl | rfl | rfl | rfl | rfl⟩ | ⟨rfl, rfl | rfl | rfl | rfl | rfl⟩
  · exact (q196_1 (β := β) he).mono (fun v h z => by rw [z.1, z.2]; exact hQ g hg)
  · exact q196_259 hb hβ he g hg hd hQ
  · exact q196_13.mono (fun v h z => by rw [z.1, z.2]; exact hQ g hg)
  · exact (q196_15 (β := β) he).mono (fun v h z => by rw [z.1, z.2]; exact hQ g hg)
  · exact (q196_17 (β := β) he).mono (fun v h z => by rw [z.1, z.2]; exact hQ g hg)
  · exact q196_527 hb hβ he g hg hd hQ
  · exact q196_545 hb hβ he g hg hd hQ
  · exact q196_547 hb hβ he g hg hd hQ
  · exact q196_549 hb hβ he g hg hd hQ
  · exact q196_553 hb hβ he g hg hd hQ
theorem q193_29 {Q : xm_H → Prop} (s f hl : Nat) (hs : s < 128) (hf : f < 256) (hh : hl = if s = 1 ∧ f = 13 then 1 else 0) (hp : ¬ jp = 0 ∨ hl = 1) (hK : XW l 193 d 0 0 29 [some (.ref 103), some (.int (nI s)), some (.int (nI f)), some (.int (nI hl))] [] (cw L xs (rw th jl js jh jb jc jr jq jQ jz jf jo jn jt jH jA jm jy je jp jk jx jw ju jF jL jO jS jT jU jV jW ja jG ov g2) tc tf bl bf of oc ol on ml mx mb kc kh kr ka gl gx gb ls lq lk lg lh vf vs vb nv nw nr nq ne io sp ch wt xf xz xt xb xc) (xN Q)) : XM l 193 d 0 0 [.ref 103, .int (nI s), .int (nI f)] (cw L xs (rw th jl js jh jb jc jr jq jQ jz jf jo jn jt jH jA jm jy je jp jk jx jw ju jF jL jO jS jT jU jV jW ja jG ov g2) tc tf bl bf of oc ol on ml mx mb kc kh kr ka gl gx gb ls lq lk lg lh vf vs vb nv nw nr nq ne io sp ch wt xf xz xt xb xc) (xN Q) := by
  have h17 : XW l 193 d 0 0 17 [some (.ref 103), some (.int (nI s)), some (.int (nI f)), some (.int (nI hl))] [] (cw L xs (rw th jl js jh jb jc jr jq jQ jz jf jo jn jt jH jA jm jy je jp jk jx jw ju jF jL jO jS jT jU jV jW ja jG ov g2) tc tf bl bf of oc ol on ml mx mb kc kh kr ka gl gx gb ls lq lk lg lh vf vs vb nv nw nr nq ne io sp ch wt xf xz xt xb xc) (xN Q) := by
    iterate 2 refine x_step rfl ?_
    refine x_if_ne rfl (fun h1 => ?_) (fun h1 => ?_)
    · exact hK
    · have h2 := hp.resolve_left (fun z => z h1)
      refine x_step rfl ?_
      refine x_ifN_ne (hl) rfl rfl (fun _ => ?_) (fun q => False.elim (by omega))
      exact hK
  refine XE (pl := [some (.ref 103), some (.int (nI s)), some (.int (nI f)), none]) xg193 rfl ?_
  iterate 2 refine x_step rfl ?_
  refine x_icmpN_ne (s) (1) rfl rfl rfl (fun h1 => ?_) (fun h1 => ?_)
  · obtain rfl : hl = 0 := by rw [hh, if_neg (fun z => h1 z.1)]
    iterate 2 refine x_step rfl ?_
    exact h17
  · iterate 2 refine x_step rfl ?_
    refine x_icmpN_ne (f) (13) rfl rfl rfl (fun h2 => ?_) (fun h2 => ?_)
    · obtain rfl : hl = 0 := by rw [hh, if_neg (fun z => h2 z.2)]
      iterate 2 refine x_step rfl ?_
      exact h17
    · obtain rfl : hl = 1 := by rw [hh, if_pos ⟨h1, h2⟩]
      iterate 3 refine x_step rfl ?_
      exact h17
/-- FabLinkModel.asked -/
theorem q193_s {Q : xm_H → Prop} (s f : Nat) (hs : s < 128) (hf : f < 256) (hh : ¬ (s = 1 ∧ f = 13)) (hp : jp = 0) (hq : Q (cw L xs (rw th jl js jh jb jc jr jq jQ jz jf jo jn jt jH jA jm jy je jp jk jx jw ju jF jL jO jS jT jU jV jW ja jG ov g2) tc tf bl bf of oc ol on ml mx mb kc kh kr ka gl gx gb ls lq lk lg lh vf vs vb nv nw nr nq ne io sp ch wt xf xz xt xb xc)) : XM l 193 d 0 0 [.ref 103, .int (nI s), .int (nI f)] (cw L xs (rw th jl js jh jb jc jr jq jQ jz jf jo jn jt jH jA jm jy je jp jk jx jw ju jF jL jO jS jT jU jV jW ja jG ov g2) tc tf bl bf of oc ol on ml mx mb kc kh kr ka gl gx gb ls lq lk lg lh vf vs vb nv nw nr nq ne io sp ch wt xf xz xt xb xc) (xN Q) := by
  refine XE (pl := [some (.ref 103), some (.int (nI s)), some (.int (nI f)), none]) xg193 rfl ?_
  iterate 2 refine x_step rfl ?_
  refine x_icmpN_ne (s) (1) rfl rfl rfl (fun h1 => ?_) (fun h1 => ?_)
  · iterate 4 refine x_step rfl ?_
    refine x_if_ne rfl (fun q => absurd hp q) (fun _ => ?_)
    refine x_step rfl ?_
    refine x_if_ne rfl (fun q => absurd (by decide) q) (fun _ => ?_)
    exact x_ret rfl rfl ⟨rfl, hq⟩
  · iterate 2 refine x_step rfl ?_
    refine x_icmpN_ne (f) (13) rfl rfl rfl (fun h2 => ?_) (fun h2 => ?_)
    · iterate 4 refine x_step rfl ?_
      refine x_if_ne rfl (fun q => absurd hp q) (fun _ => ?_)
      refine x_step rfl ?_
      refine x_if_ne rfl (fun q => absurd (by decide) q) (fun _ => ?_)
      exact x_ret rfl rfl ⟨rfl, hq⟩
    · exact absurd ⟨h1, h2⟩ hh
theorem q193_3 {Q : xm_H → Prop} {dd : Nat} (s f hl : Nat) (hs : s < 128) (hf : f < 256) (hh : hl = if s = 1 ∧ f = 13 then 1 else 0) (hp : ¬ jp = 0 ∨ hl = 1) (hn : ¬ s = 1) (hn2 : ¬ s = 2) (hdd : dd < d) (hR : XM l 177 dd 0 0 [.ref 103, .int 3, .int (-1)] (cw L xs (rw th jl js jh jb jc jr jq jQ jz jf jo jn jt jH jA jm jy je jp jk jx jw ju jF jL jO jS jT jU jV jW ja jG ov g2) tc tf bl bf of oc ol on ml mx mb kc kh kr ka gl gx gb ls lq lk lg lh vf vs vb nv nw nr nq ne io sp ch wt xf xz xt xb xc) (xN Q)) : XM l 193 d 0 0 [.ref 103, .int (nI s), .int (nI f)] (cw L xs (rw th jl js jh jb jc jr jq jQ jz jf jo jn jt jH jA jm jy je jp jk jx jw ju jF jL jO jS jT jU jV jW ja jG ov g2) tc tf bl bf of oc ol on ml mx mb kc kh kr ka gl gx gb ls lq lk lg lh vf vs vb nv nw nr nq ne io sp ch wt xf xz xt xb xc) (xN Q) := by
  refine q193_29 s f hl hs hf hh hp ?_
  iterate 2 refine x_step rfl ?_
  refine x_icmpN_eq (s) (1) rfl rfl rfl (fun q => False.elim (by omega)) (fun _ => ?_)
  iterate 2 refine x_step rfl ?_
  refine x_icmpN_eq (s) (2) rfl rfl rfl (fun q => False.elim (by omega)) (fun _ => ?_)
  iterate 3 refine x_step rfl ?_
  refine x_callvQ rfl (hR) rfl rfl rfl (fun h9 hq => ?_)
  refine x_step rfl ?_
  exact x_ret rfl rfl ⟨rfl, hq⟩
theorem q193_5 {Q : xm_H → Prop} {dd : Nat} (s f hl : Nat) (hs : s < 128) (hf : f < 256) (hh : hl = if s = 1 ∧ f = 13 then 1 else 0) (hp : ¬ jp = 0 ∨ hl = 1) (hn : s = 1 ∨ s = 2) (hn2 : dN (256 * s + f) = false) (hd : 1 ≤ d) (hdd : dd < d) (hR : XM l 177 dd 0 0 [.ref 103, .int 5, .int (-1)] (cw L xs (rw th jl js jh jb jc jr jq jQ jz jf jo jn jt jH jA jm jy je jp jk jx jw ju jF jL jO jS jT jU jV jW ja jG ov g2) tc tf bl bf of oc ol on ml mx mb kc kh kr ka gl gx gb ls lq lk lg lh vf vs vb nv nw nr nq ne io sp ch wt xf xz xt xb xc) (xN Q)) : XM l 193 d 0 0 [.ref 103, .int (nI s), .int (nI f)] (cw L xs (rw th jl js jh jb jc jr jq jQ jz jf jo jn jt jH jA jm jy je jp jk jx jw ju jF jL jO jS jT jU jV jW ja jG ov g2) tc tf bl bf of oc ol on ml mx mb kc kh kr ka gl gx gb ls lq lk lg lh vf vs vb nv nw nr nq ne io sp ch wt xf xz xt xb xc) (xN Q) := by
  refine q193_29 s f hl hs hf hh hp ?_
  iterate 2 refine x_step rfl ?_
  refine x_icmpN_eq (s) (1) rfl rfl rfl (fun h1 => ?_) (fun h1 => ?_)
  · iterate 3 refine x_step rfl ?_
    refine x_callvE rfl (q194 (d := 0) s f hn hf) rfl rfl rfl ?_
    refine x_if_ne rfl (fun q => absurd hn2 (fun z => q (by rw [z]; rfl))) (fun _ => ?_)
    iterate 3 refine x_step rfl ?_
    refine x_callvQ rfl (hR) rfl rfl rfl (fun h9 hq => ?_)
    refine x_step rfl ?_
    exact x_ret rfl rfl ⟨rfl, hq⟩
  · iterate 2 refine x_step rfl ?_
    refine x_icmpN_eq (s) (2) rfl rfl rfl (fun _ => ?_) (fun q => False.elim (by omega))
    iterate 3 refine x_step rfl ?_
    refine x_callvE rfl (q194 (d := 0) s f hn hf) rfl rfl rfl ?_
    refine x_if_ne rfl (fun q => absurd hn2 (fun z => q (by rw [z]; rfl))) (fun _ => ?_)
    iterate 3 refine x_step rfl ?_
    refine x_callvQ rfl (hR) rfl rfl rfl (fun h9 hq => ?_)
    refine x_step rfl ?_
    exact x_ret rfl rfl ⟨rfl, hq⟩
theorem q193_0 {Q : xm_H → Prop} {dd : Nat} (s f hl : Nat) (hs : s < 128) (hf : f < 256) (hh : hl = if s = 1 ∧ f = 13 then 1 else 0) (hp : ¬ jp = 0 ∨ hl = 1) (hn : s = 1 ∨ s = 2) (hn2 : dN (256 * s + f) = true) (hd : 1 ≤ d) (hdd : dd < d) (hc : ¬ 2 ≤ jk) (h0 : hl = 0) (h17 : ¬ (s = 1 ∧ f = 17)) (hR : XM l 195 dd 0 0 [.ref 103, .int 0] (cw L xs (rw th jl js jh jb jc jr jq jQ jz jf jo jn jt jH jA (0) jy je jp jk jx jw ju jF jL jO jS jT jU jV jW ja jG ov g2) tc tf bl bf of oc ol on ml mx mb kc kh kr ka gl gx gb ls lq lk lg lh vf vs vb nv nw nr nq ne io sp ch wt xf xz xt xb xc) (xN Q)) : XM l 193 d 0 0 [.ref 103, .int (nI s), .int (nI f)] (cw L xs (rw th jl js jh jb jc jr jq jQ jz jf jo jn jt jH jA jm jy je jp jk jx jw ju jF jL jO jS jT jU jV jW ja jG ov g2) tc tf bl bf of oc ol on ml mx mb kc kh kr ka gl gx gb ls lq lk lg lh vf vs vb nv nw nr nq ne io sp ch wt xf xz xt xb xc) (xN Q) := by
  refine q193_29 s f hl hs hf hh hp ?_
  iterate 2 refine x_step rfl ?_
  refine x_icmpN_eq (s) (1) rfl rfl rfl (fun h1 => ?_) (fun h1 => ?_)
  · iterate 3 refine x_step rfl ?_
    refine x_callvE rfl (q194 (d := 0) s f hn hf) rfl rfl rfl ?_
    refine x_if_ne rfl (fun _ => ?_) (fun q => absurd q (by rw [hn2]; decide))
    iterate 3 refine x_step rfl ?_
    refine x_icmp_ge rfl (fun q => absurd q hc) (fun _ => ?_)
    refine x_step rfl ?_
    refine x_ifN_ne (hl) rfl rfl (fun q => False.elim (by omega)) (fun _ => ?_)
    iterate 2 refine x_step rfl ?_
    refine x_icmpN_ne (s) (1) rfl rfl rfl (fun h2 => ?_) (fun h2 => ?_)
    · iterate 5 refine x_step rfl ?_
      refine x_callvQ rfl (hR) rfl rfl rfl (fun h9 hq => ?_)
      refine x_step rfl ?_
      exact x_ret rfl rfl ⟨rfl, hq⟩
    · iterate 2 refine x_step rfl ?_
      refine x_icmpN_eq (f) (17) rfl rfl rfl (fun q => False.elim (by omega)) (fun _ => ?_)
      iterate 5 refine x_step rfl ?_
      refine x_callvQ rfl (hR) rfl rfl rfl (fun h9 hq => ?_)
      refine x_step rfl ?_
      exact x_ret rfl rfl ⟨rfl, hq⟩
  · iterate 2 refine x_step rfl ?_
    refine x_icmpN_eq (s) (2) rfl rfl rfl (fun _ => ?_) (fun q => False.elim (by omega))
    iterate 3 refine x_step rfl ?_
    refine x_callvE rfl (q194 (d := 0) s f hn hf) rfl rfl rfl ?_
    refine x_if_ne rfl (fun _ => ?_) (fun q => absurd q (by rw [hn2]; decide))
    iterate 3 refine x_step rfl ?_
    refine x_icmp_ge rfl (fun q => absurd q hc) (fun _ => ?_)
    refine x_step rfl ?_
    refine x_ifN_ne (hl) rfl rfl (fun q => False.elim (by omega)) (fun _ => ?_)
    iterate 2 refine x_step rfl ?_
    refine x_icmpN_ne (s) (1) rfl rfl rfl (fun h2 => ?_) (fun h2 => ?_)
    · iterate 5 refine x_step rfl ?_
      refine x_callvQ rfl (hR) rfl rfl rfl (fun h9 hq => ?_)
      refine x_step rfl ?_
      exact x_ret rfl rfl ⟨rfl, hq⟩
    · iterate 2 refine x_step rfl ?_
      refine x_icmpN_eq (f) (17) rfl rfl rfl (fun q => False.elim (by omega)) (fun _ => ?_)
      iterate 5 refine x_step rfl ?_
      refine x_callvQ rfl (hR) rfl rfl rfl (fun h9 hq => ?_)
      refine x_step rfl ?_
      exact x_ret rfl rfl ⟨rfl, hq⟩
theorem q193_102 {Q : xm_H → Prop} {dd : Nat} (hb : ∀ i, i < 130 → jb (i + 1) = nI (β i)) (hβ : ∀ i, β i < 256) (he : e ≤ 130) (s f hl : Nat) (hs : s < 128) (hf : f < 256) (hn2 : dN (256 * s + f) = true) (g : Nat → Nat) (hg : ∀ i, g i < 2 ^ 24) (hd : 7 ≤ d) (hdd : dd < d) (hA : ∀ g' : Nat → Nat, (∀ i, g' i < 2 ^ 24) → if dB β e (256 * s + f) = true then XM l 205 dd 0 0 [.ref 103, .int (nI s), .int (nI f)] (cw L xs (rw th jl js jh jb jc jr jq jQ jz jf jo jn jt jH jA jm jy je jp jk jx jw ju jF jL jO jS jT jU jV jW (nI e) (fun z1 => nI ((g') z1)) ov g2) tc tf bl bf of oc ol on ml mx mb kc kh kr ka gl gx gb ls lq lk lg lh vf vs vb nv nw nr nq ne io sp ch wt xf xz xt xb xc) (xN Q) else XM l 177 dd 0 0 [.ref 103, .int 7, .int (-1)] (cw L xs (rw th jl js jh jb jc jr jq jQ jz jf jo jn jt jH jA jm jy je jp jk jx jw ju jF jL jO jS jT jU jV jW (nI e) (fun z1 => nI ((g') z1)) ov g2) tc tf bl bf of oc ol on ml mx mb kc kh kr ka gl gx gb ls lq lk lg lh vf vs vb nv nw nr nq ne io sp ch wt xf xz xt xb xc) (xN Q)) : XW l 193 d 0 0 102 [some (.ref 103), some (.int (nI s)), some (.int (nI f)), some (.int (nI hl))] [] (cw L xs (rw th jl js jh jb jc jr jq jQ jz jf jo jn jt jH jA jm jy je jp jk jx jw ju jF jL jO jS jT jU jV jW (nI e) (fun z1 => nI ((g) z1)) ov g2) tc tf bl bf of oc ol on ml mx mb kc kh kr ka gl gx gb ls lq lk lg lh vf vs vb nv nw nr nq ne io sp ch wt xf xz xt xb xc) (xN Q) := by
  iterate 3 refine x_step rfl ?_
  refine x_callv (a := 103) (as := [.int (nI s), .int (nI f)]) (rest := []) rfl (by decide) (q196 (Q := fun v h => v = some (.int (bI (dB β e (256 * s + f)))) ∧ ∃ g' : Nat → Nat, (∀ i, g' i < 2 ^ 24) ∧ h = (cw L xs (rw th jl js jh jb jc jr jq jQ jz jf jo jn jt jH jA jm jy je jp jk jx jw ju jF jL jO jS jT jU jV jW (nI e) (fun z1 => nI ((g') z1)) ov g2) tc tf bl bf of oc ol on ml mx mb kc kh kr ka gl gx gb ls lq lk lg lh vf vs vb nv nw nr nq ne io sp ch wt xf xz xt xb xc)) (d := 6) hb hβ he s f hn2 hs hf g hg (by omega) (fun g' hg' => ⟨rfl, g', hg', rfl⟩)) (by omega) (Nat.zero_le _) (Nat.zero_le _) rfl rfl (by decide) rfl rfl ?_
  rintro _ _ ⟨rfl, g', hg', rfl⟩
  have hA2 := hA g' hg'
  refine x_if_ne rfl (fun h => ?_) (fun h => ?_)
  · rw [if_pos (bI_t h)] at hA2
    iterate 3 refine x_step rfl ?_
    refine x_callvQ rfl hA2 rfl rfl rfl (fun h9 hq => ?_)
    exact x_ret rfl rfl ⟨rfl, hq⟩
  · rw [if_neg (by rw [bI_f h]; decide)] at hA2
    iterate 3 refine x_step rfl ?_
    refine x_callvQ rfl hA2 rfl rfl rfl (fun h9 hq => ?_)
    refine x_step rfl ?_
    exact x_ret rfl rfl ⟨rfl, hq⟩
theorem q193_a {Q : xm_H → Prop} {dd : Nat} (s f hl : Nat) (hs : s < 128) (hf : f < 256) (hh : hl = if s = 1 ∧ f = 13 then 1 else 0) (hp : ¬ jp = 0 ∨ hl = 1) (hb : ∀ i, i < 130 → jb (i + 1) = nI (β i)) (hβ : ∀ i, β i < 256) (he : e ≤ 130) (hn : s = 1 ∨ s = 2) (hn2 : dN (256 * s + f) = true) (hd : 7 ≤ d) (hdd : dd < d) (g : Nat → Nat) (hg : ∀ i, g i < 2 ^ 24) (hc : 2 ≤ jk ∨ hl = 1 ∨ s = 1 ∧ f = 17) (hA : ∀ g' : Nat → Nat, (∀ i, g' i < 2 ^ 24) → if dB β e (256 * s + f) = true then XM l 205 dd 0 0 [.ref 103, .int (nI s), .int (nI f)] (cw L xs (rw th jl js jh jb jc jr jq jQ jz jf jo jn jt jH jA jm jy je jp jk jx jw ju jF jL jO jS jT jU jV jW (nI e) (fun z1 => nI ((g') z1)) ov g2) tc tf bl bf of oc ol on ml mx mb kc kh kr ka gl gx gb ls lq lk lg lh vf vs vb nv nw nr nq ne io sp ch wt xf xz xt xb xc) (xN Q) else XM l 177 dd 0 0 [.ref 103, .int 7, .int (-1)] (cw L xs (rw th jl js jh jb jc jr jq jQ jz jf jo jn jt jH jA jm jy je jp jk jx jw ju jF jL jO jS jT jU jV jW (nI e) (fun z1 => nI ((g') z1)) ov g2) tc tf bl bf of oc ol on ml mx mb kc kh kr ka gl gx gb ls lq lk lg lh vf vs vb nv nw nr nq ne io sp ch wt xf xz xt xb xc) (xN Q)) : XM l 193 d 0 0 [.ref 103, .int (nI s), .int (nI f)] (cw L xs (rw th jl js jh jb jc jr jq jQ jz jf jo jn jt jH jA jm jy je jp jk jx jw ju jF jL jO jS jT jU jV jW (nI e) (fun z1 => nI ((g) z1)) ov g2) tc tf bl bf of oc ol on ml mx mb kc kh kr ka gl gx gb ls lq lk lg lh vf vs vb nv nw nr nq ne io sp ch wt xf xz xt xb xc) (xN Q) := by
  refine q193_29 s f hl hs hf hh hp ?_
  iterate 2 refine x_step rfl ?_
  refine x_icmpN_eq (s) (1) rfl rfl rfl (fun h1 => ?_) (fun h1 => ?_)
  · iterate 3 refine x_step rfl ?_
    refine x_callvE rfl (q194 (d := 0) s f hn hf) rfl rfl rfl ?_
    refine x_if_ne rfl (fun _ => ?_) (fun q => absurd q (by rw [hn2]; decide))
    iterate 3 refine x_step rfl ?_
    refine x_icmp_ge rfl (fun h2 => ?_) (fun h2 => ?_)
    · exact q193_102 hb hβ he s f hl hs hf hn2 g hg hd hdd hA
    · have hl2 : hl ≤ 1 := by rw [hh]; split <;> decide
      refine x_step rfl ?_
      refine x_ifN_ne (hl) rfl rfl (fun h3 => ?_) (fun h3 => ?_)
      · exact q193_102 hb hβ he s f hl hs hf hn2 g hg hd hdd hA
      · have h4 : s = 1 ∧ f = 17 := (hc.resolve_left h2).resolve_left (by omega)
        iterate 2 refine x_step rfl ?_
        refine x_icmpN_ne (s) (1) rfl rfl rfl (fun q => False.elim (by omega)) (fun _ => ?_)
        iterate 2 refine x_step rfl ?_
        refine x_icmpN_eq (f) (17) rfl rfl rfl (fun _ => ?_) (fun q => False.elim (by omega))
        exact q193_102 hb hβ he s f hl hs hf hn2 g hg hd hdd hA
  · iterate 2 refine x_step rfl ?_
    refine x_icmpN_eq (s) (2) rfl rfl rfl (fun _ => ?_) (fun q => False.elim (by omega))
    iterate 3 refine x_step rfl ?_
    refine x_callvE rfl (q194 (d := 0) s f hn hf) rfl rfl rfl ?_
    refine x_if_ne rfl (fun _ => ?_) (fun q => absurd q (by rw [hn2]; decide))
    iterate 3 refine x_step rfl ?_
    refine x_icmp_ge rfl (fun h2 => ?_) (fun h2 => ?_)
    · exact q193_102 hb hβ he s f hl hs hf hn2 g hg hd hdd hA
    · have hl2 : hl ≤ 1 := by rw [hh]; split <;> decide
      refine x_step rfl ?_
      refine x_ifN_ne (hl) rfl rfl (fun h3 => ?_) (fun h3 => ?_)
      · exact q193_102 hb hβ he s f hl hs hf hn2 g hg hd hdd hA
      · have h4 : s = 1 ∧ f = 17 := (hc.resolve_left h2).resolve_left (by omega)
        iterate 2 refine x_step rfl ?_
        refine x_icmpN_ne (s) (1) rfl rfl rfl (fun q => False.elim (by omega)) (fun _ => ?_)
        iterate 2 refine x_step rfl ?_
        refine x_icmpN_eq (f) (17) rfl rfl rfl (fun _ => ?_) (fun q => False.elim (by omega))
        exact q193_102 hb hβ he s f hl hs hf hn2 g hg hd hdd hA
def tK (je : Int32) (β : Nat → Nat) : Prop := True
/-- FabLinkModel.take -/
theorem q176_z {Q : xm_H → Prop} (hb : ∀ i, i < 130 → jb (i + 1) = nI (β i)) (hβ : ∀ i, β i < 256) (hz : je = 0) (hq : Q (cw L xs (rw th jl js jh jb jc jr jq jQ jz jf jo jn jt jH jA jm jy je jp jk jx jw ju jF jL jO jS jT jU jV jW ja jG ov g2) tc tf bl bf of oc ol on ml mx mb kc kh kr ka gl gx gb ls lq lk lg lh vf vs vb nv nw nr nq ne io sp ch wt xf xz xt xb xc)) : XM l 176 d 0 0 [.ref 103] (cw L xs (rw th jl js jh jb jc jr jq jQ jz jf jo jn jt jH jA jm jy je jp jk jx jw ju jF jL jO jS jT jU jV jW ja jG ov g2) tc tf bl bf of oc ol on ml mx mb kc kh kr ka gl gx gb ls lq lk lg lh vf vs vb nv nw nr nq ne io sp ch wt xf xz xt xb xc) (xN Q) := by
  refine XE (pl := [some (.ref 103), none, none]) xg176 rfl ?_
  have h2 := hβ 2
  have h0 := hβ 0
  have h1 := hβ 1
  have h3 := hβ 3
  have h4 := hβ 4
  have h5 := hβ 5
  iterate 3 refine x_step rfl ?_
  refine x_ialdN (3) rfl rfl rfl (by omega) ?_
  iterate 6 refine x_step rfl ?_
  refine x_ialdN (4) rfl rfl rfl (by omega) ?_
  refine x_step rfl ?_
  refine xm_ls (pl' := [some (.ref 103), some (.int (nI (β 2 % 128))), some (.int (nI (β 3)))]) (by rw [hb 2 (by decide), hb 3 (by decide), b127 _ h2] <;> rfl) ?_
  iterate 2 refine x_step rfl ?_
  refine x_if_eq rfl (fun _ => ?_) (fun q => absurd hz q)
  exact x_ret rfl rfl ⟨rfl, hq⟩
/-- FabLinkModel.take -/
theorem q176_m {Q : xm_H → Prop} (hb : ∀ i, i < 130 → jb (i + 1) = nI (β i)) (hβ : ∀ i, β i < 256) (hz : 128 ≤ β 0) (hq : Q (cw L xs (rw th jl js jh jb jc jr jq jQ jz jf jo jn jt jH jA jm jy je jp jk jx jw ju jF jL jO jS jT jU jV jW ja jG ov g2) tc tf bl bf of oc ol on ml mx mb kc kh kr ka gl gx gb ls lq lk lg lh vf vs vb nv nw nr nq ne io sp ch wt xf xz xt xb xc)) : XM l 176 d 0 0 [.ref 103] (cw L xs (rw th jl js jh jb jc jr jq jQ jz jf jo jn jt jH jA jm jy je jp jk jx jw ju jF jL jO jS jT jU jV jW ja jG ov g2) tc tf bl bf of oc ol on ml mx mb kc kh kr ka gl gx gb ls lq lk lg lh vf vs vb nv nw nr nq ne io sp ch wt xf xz xt xb xc) (xN Q) := by
  refine XE (pl := [some (.ref 103), none, none]) xg176 rfl ?_
  have h2 := hβ 2
  have h0 := hβ 0
  have h1 := hβ 1
  have h3 := hβ 3
  have h4 := hβ 4
  have h5 := hβ 5
  iterate 3 refine x_step rfl ?_
  refine x_ialdN (3) rfl rfl rfl (by omega) ?_
  iterate 6 refine x_step rfl ?_
  refine x_ialdN (4) rfl rfl rfl (by omega) ?_
  refine x_step rfl ?_
  refine xm_ls (pl' := [some (.ref 103), some (.int (nI (β 2 % 128))), some (.int (nI (β 3)))]) (by rw [hb 2 (by decide), hb 3 (by decide), b127 _ h2] <;> rfl) ?_
  iterate 2 refine x_step rfl ?_
  refine x_if_eq rfl (fun h6 => ?_) (fun h6 => ?_)
  · exact x_ret rfl rfl ⟨rfl, hq⟩
  · iterate 3 refine x_step rfl ?_
    refine x_ialdN (1) rfl rfl rfl (by omega) ?_
    refine x_step rfl ?_
    refine x_icmpN_lt (β 0) (128) rfl (hb 0 (by decide)) rfl (fun q => False.elim (by omega)) (fun _ => ?_)
    exact x_ret rfl rfl ⟨rfl, hq⟩
/-- FabLinkModel.take -/
theorem q176_1 {Q : xm_H → Prop} {dd : Nat} (hb : ∀ i, i < 130 → jb (i + 1) = nI (β i)) (hβ : ∀ i, β i < 256) (hz : ¬ je = 0) (hz2 : β 0 < 128) (hn : ¬ (β 0 = 0 ∧ β 1 = 1)) (hdd : dd < d) (hR : XM l 177 dd 0 0 [.ref 103, .int 1, .int (-1)] (cw L xs (rw th jl js jh jb jc jr jq jQ jz jf jo jn jt jH jA jm jy je jp jk jx jw ju jF jL jO jS jT jU jV jW ja jG ov g2) tc tf bl bf of oc ol on ml mx mb kc kh kr ka gl gx gb ls lq lk lg lh vf vs vb nv nw nr nq ne io sp ch wt xf xz xt xb xc) (xN Q)) : XM l 176 d 0 0 [.ref 103] (cw L xs (rw th jl js jh jb jc jr jq jQ jz jf jo jn jt jH jA jm jy je jp jk jx jw ju jF jL jO jS jT jU jV jW ja jG ov g2) tc tf bl bf of oc ol on ml mx mb kc kh kr ka gl gx gb ls lq lk lg lh vf vs vb nv nw nr nq ne io sp ch wt xf xz xt xb xc) (xN Q) := by
  refine XE (pl := [some (.ref 103), none, none]) xg176 rfl ?_
  have h2 := hβ 2
  have h0 := hβ 0
  have h1 := hβ 1
  have h3 := hβ 3
  have h4 := hβ 4
  have h5 := hβ 5
  iterate 3 refine x_step rfl ?_
  refine x_ialdN (3) rfl rfl rfl (by omega) ?_
  iterate 6 refine x_step rfl ?_
  refine x_ialdN (4) rfl rfl rfl (by omega) ?_
  refine x_step rfl ?_
  refine xm_ls (pl' := [some (.ref 103), some (.int (nI (β 2 % 128))), some (.int (nI (β 3)))]) (by rw [hb 2 (by decide), hb 3 (by decide), b127 _ h2] <;> rfl) ?_
  iterate 2 refine x_step rfl ?_
  refine x_if_eq rfl (fun q => absurd q hz) (fun _ => ?_)
  iterate 3 refine x_step rfl ?_
  refine x_ialdN (1) rfl rfl rfl (by omega) ?_
  refine x_step rfl ?_
  refine x_icmpN_lt (β 0) (128) rfl (hb 0 (by decide)) rfl (fun _ => ?_) (fun q => False.elim (by omega))
  iterate 3 refine x_step rfl ?_
  refine x_ialdN (1) rfl rfl rfl (by omega) ?_
  refine x_ifN_ne (β 0) rfl (hb 0 (by decide)) (fun h6 => ?_) (fun h6 => ?_)
  · iterate 3 refine x_step rfl ?_
    refine x_callvQ rfl (hR) rfl rfl rfl (fun h9 hq => ?_)
    refine x_step rfl ?_
    exact x_ret rfl rfl ⟨rfl, hq⟩
  · iterate 3 refine x_step rfl ?_
    refine x_ialdN (2) rfl rfl rfl (by omega) ?_
    refine x_step rfl ?_
    refine x_icmpN_eq (β 1) (1) rfl (hb 1 (by decide)) rfl (fun q => False.elim (by omega)) (fun _ => ?_)
    iterate 3 refine x_step rfl ?_
    refine x_callvQ rfl (hR) rfl rfl rfl (fun h9 hq => ?_)
    refine x_step rfl ?_
    exact x_ret rfl rfl ⟨rfl, hq⟩
/-- FabLinkModel.take -/
theorem q176_11 {Q : xm_H → Prop} {dd : Nat} (hb : ∀ i, i < 130 → jb (i + 1) = nI (β i)) (hβ : ∀ i, β i < 256) (hz : ¬ je = 0) (hz2 : β 0 < 128) (hn : β 0 = 0 ∧ β 1 = 1) (hn2 : ¬ (β 4 = 128 ∧ β 5 = 1)) (hdd : dd < d) (hR : XM l 177 dd 0 0 [.ref 103, .int 11, .int (-1)] (cw L xs (rw th jl js jh jb jc jr jq jQ jz jf jo jn jt jH jA jm jy je jp jk jx jw ju jF jL jO jS jT jU jV jW ja jG ov g2) tc tf bl bf of oc ol on ml mx mb kc kh kr ka gl gx gb ls lq lk lg lh vf vs vb nv nw nr nq ne io sp ch wt xf xz xt xb xc) (xN Q)) : XM l 176 d 0 0 [.ref 103] (cw L xs (rw th jl js jh jb jc jr jq jQ jz jf jo jn jt jH jA jm jy je jp jk jx jw ju jF jL jO jS jT jU jV jW ja jG ov g2) tc tf bl bf of oc ol on ml mx mb kc kh kr ka gl gx gb ls lq lk lg lh vf vs vb nv nw nr nq ne io sp ch wt xf xz xt xb xc) (xN Q) := by
  refine XE (pl := [some (.ref 103), none, none]) xg176 rfl ?_
  have h2 := hβ 2
  have h0 := hβ 0
  have h1 := hβ 1
  have h3 := hβ 3
  have h4 := hβ 4
  have h5 := hβ 5
  iterate 3 refine x_step rfl ?_
  refine x_ialdN (3) rfl rfl rfl (by omega) ?_
  iterate 6 refine x_step rfl ?_
  refine x_ialdN (4) rfl rfl rfl (by omega) ?_
  refine x_step rfl ?_
  refine xm_ls (pl' := [some (.ref 103), some (.int (nI (β 2 % 128))), some (.int (nI (β 3)))]) (by rw [hb 2 (by decide), hb 3 (by decide), b127 _ h2] <;> rfl) ?_
  iterate 2 refine x_step rfl ?_
  refine x_if_eq rfl (fun q => absurd q hz) (fun _ => ?_)
  iterate 3 refine x_step rfl ?_
  refine x_ialdN (1) rfl rfl rfl (by omega) ?_
  refine x_step rfl ?_
  refine x_icmpN_lt (β 0) (128) rfl (hb 0 (by decide)) rfl (fun _ => ?_) (fun q => False.elim (by omega))
  iterate 3 refine x_step rfl ?_
  refine x_ialdN (1) rfl rfl rfl (by omega) ?_
  refine x_ifN_ne (β 0) rfl (hb 0 (by decide)) (fun q => False.elim (by omega)) (fun _ => ?_)
  iterate 3 refine x_step rfl ?_
  refine x_ialdN (2) rfl rfl rfl (by omega) ?_
  refine x_step rfl ?_
  refine x_icmpN_eq (β 1) (1) rfl (hb 1 (by decide)) rfl (fun _ => ?_) (fun q => False.elim (by omega))
  iterate 3 refine x_step rfl ?_
  refine x_ialdN (5) rfl rfl rfl (by omega) ?_
  refine x_step rfl ?_
  refine x_icmpN_ne (β 4) (128) rfl (hb 4 (by decide)) rfl (fun h6 => ?_) (fun h6 => ?_)
  · iterate 3 refine x_step rfl ?_
    refine x_callvQ rfl (hR) rfl rfl rfl (fun h9 hq => ?_)
    refine x_step rfl ?_
    exact x_ret rfl rfl ⟨rfl, hq⟩
  · iterate 3 refine x_step rfl ?_
    refine x_ialdN (6) rfl rfl rfl (by omega) ?_
    refine x_step rfl ?_
    refine x_icmpN_eq (β 5) (1) rfl (hb 5 (by decide)) rfl (fun q => False.elim (by omega)) (fun _ => ?_)
    iterate 3 refine x_step rfl ?_
    refine x_callvQ rfl (hR) rfl rfl rfl (fun h9 hq => ?_)
    refine x_step rfl ?_
    exact x_ret rfl rfl ⟨rfl, hq⟩
/-- FabLinkModel.take -/
theorem q176_a {Q : xm_H → Prop} {dd : Nat} (hb : ∀ i, i < 130 → jb (i + 1) = nI (β i)) (hβ : ∀ i, β i < 256) (hz : ¬ je = 0) (hz2 : β 0 < 128) (hn : β 0 = 0 ∧ β 1 = 1) (hn2 : β 4 = 128 ∧ β 5 = 1) (hev : β 3 % 2 = 0) (hdd : dd < d) (hR : XM l 182 dd 0 0 [.ref 103, .int (nI (β 2 % 128)), .int (nI (β 3))] (cw L xs (rw th jl js jh jb jc jr jq jQ jz jf jo jn jt jH jA jm jy je jp jk jx jw ju jF jL jO jS jT jU jV jW ja jG ov g2) tc tf bl bf of oc ol on ml mx mb kc kh kr ka gl gx gb ls lq lk lg lh vf vs vb nv nw nr nq ne io sp ch wt xf xz xt xb xc) (xN Q)) : XM l 176 d 0 0 [.ref 103] (cw L xs (rw th jl js jh jb jc jr jq jQ jz jf jo jn jt jH jA jm jy je jp jk jx jw ju jF jL jO jS jT jU jV jW ja jG ov g2) tc tf bl bf of oc ol on ml mx mb kc kh kr ka gl gx gb ls lq lk lg lh vf vs vb nv nw nr nq ne io sp ch wt xf xz xt xb xc) (xN Q) := by
  refine XE (pl := [some (.ref 103), none, none]) xg176 rfl ?_
  have h2 := hβ 2
  have h0 := hβ 0
  have h1 := hβ 1
  have h3 := hβ 3
  have h4 := hβ 4
  have h5 := hβ 5
  iterate 3 refine x_step rfl ?_
  refine x_ialdN (3) rfl rfl rfl (by omega) ?_
  iterate 6 refine x_step rfl ?_
  refine x_ialdN (4) rfl rfl rfl (by omega) ?_
  refine x_step rfl ?_
  refine xm_ls (pl' := [some (.ref 103), some (.int (nI (β 2 % 128))), some (.int (nI (β 3)))]) (by rw [hb 2 (by decide), hb 3 (by decide), b127 _ h2] <;> rfl) ?_
  iterate 2 refine x_step rfl ?_
  refine x_if_eq rfl (fun q => absurd q hz) (fun _ => ?_)
  iterate 3 refine x_step rfl ?_
  refine x_ialdN (1) rfl rfl rfl (by omega) ?_
  refine x_step rfl ?_
  refine x_icmpN_lt (β 0) (128) rfl (hb 0 (by decide)) rfl (fun _ => ?_) (fun q => False.elim (by omega))
  iterate 3 refine x_step rfl ?_
  refine x_ialdN (1) rfl rfl rfl (by omega) ?_
  refine x_ifN_ne (β 0) rfl (hb 0 (by decide)) (fun q => False.elim (by omega)) (fun _ => ?_)
  iterate 3 refine x_step rfl ?_
  refine x_ialdN (2) rfl rfl rfl (by omega) ?_
  refine x_step rfl ?_
  refine x_icmpN_eq (β 1) (1) rfl (hb 1 (by decide)) rfl (fun _ => ?_) (fun q => False.elim (by omega))
  iterate 3 refine x_step rfl ?_
  refine x_ialdN (5) rfl rfl rfl (by omega) ?_
  refine x_step rfl ?_
  refine x_icmpN_ne (β 4) (128) rfl (hb 4 (by decide)) rfl (fun q => False.elim (by omega)) (fun _ => ?_)
  iterate 3 refine x_step rfl ?_
  refine x_ialdN (6) rfl rfl rfl (by omega) ?_
  refine x_step rfl ?_
  refine x_icmpN_eq (β 5) (1) rfl (hb 5 (by decide)) rfl (fun _ => ?_) (fun q => False.elim (by omega))
  iterate 2 refine x_step rfl ?_
  refine x_iremN (β 3) (2) rfl rfl rfl ?_
  refine x_ifN_ne (β 3 % 2) rfl rfl (fun q => False.elim (by omega)) (fun _ => ?_)
  iterate 3 refine x_step rfl ?_
  refine x_callvQ rfl (hR) rfl rfl rfl (fun h9 hq => ?_)
  refine x_step rfl ?_
  exact x_ret rfl rfl ⟨rfl, hq⟩
/-- FabLinkModel.take -/
theorem q176_q {Q : xm_H → Prop} {dd : Nat} (hb : ∀ i, i < 130 → jb (i + 1) = nI (β i)) (hβ : ∀ i, β i < 256) (hz : ¬ je = 0) (hz2 : β 0 < 128) (hn : β 0 = 0 ∧ β 1 = 1) (hn2 : β 4 = 128 ∧ β 5 = 1) (hev : β 3 % 2 = 1) (hdd : dd < d) (hR : XM l 193 dd 0 0 [.ref 103, .int (nI (β 2 % 128)), .int (nI (β 3))] (cw L xs (rw th jl js jh jb jc jr jq jQ jz jf jo jn jt jH jA jm jy je jp jk jx jw ju jF jL jO jS jT jU jV jW ja jG ov g2) tc tf bl bf of oc ol on ml mx mb kc kh kr ka gl gx gb ls lq lk lg lh vf vs vb nv nw nr nq ne io sp ch wt xf xz xt xb xc) (xN Q)) : XM l 176 d 0 0 [.ref 103] (cw L xs (rw th jl js jh jb jc jr jq jQ jz jf jo jn jt jH jA jm jy je jp jk jx jw ju jF jL jO jS jT jU jV jW ja jG ov g2) tc tf bl bf of oc ol on ml mx mb kc kh kr ka gl gx gb ls lq lk lg lh vf vs vb nv nw nr nq ne io sp ch wt xf xz xt xb xc) (xN Q) := by
  refine XE (pl := [some (.ref 103), none, none]) xg176 rfl ?_
  have h2 := hβ 2
  have h0 := hβ 0
  have h1 := hβ 1
  have h3 := hβ 3
  have h4 := hβ 4
  have h5 := hβ 5
  iterate 3 refine x_step rfl ?_
  refine x_ialdN (3) rfl rfl rfl (by omega) ?_
  iterate 6 refine x_step rfl ?_
  refine x_ialdN (4) rfl rfl rfl (by omega) ?_
  refine x_step rfl ?_
  refine xm_ls (pl' := [some (.ref 103), some (.int (nI (β 2 % 128))), some (.int (nI (β 3)))]) (by rw [hb 2 (by decide), hb 3 (by decide), b127 _ h2] <;> rfl) ?_
  iterate 2 refine x_step rfl ?_
  refine x_if_eq rfl (fun q => absurd q hz) (fun _ => ?_)
  iterate 3 refine x_step rfl ?_
  refine x_ialdN (1) rfl rfl rfl (by omega) ?_
  refine x_step rfl ?_
  refine x_icmpN_lt (β 0) (128) rfl (hb 0 (by decide)) rfl (fun _ => ?_) (fun q => False.elim (by omega))
  iterate 3 refine x_step rfl ?_
  refine x_ialdN (1) rfl rfl rfl (by omega) ?_
  refine x_ifN_ne (β 0) rfl (hb 0 (by decide)) (fun q => False.elim (by omega)) (fun _ => ?_)
  iterate 3 refine x_step rfl ?_
  refine x_ialdN (2) rfl rfl rfl (by omega) ?_
  refine x_step rfl ?_
  refine x_icmpN_eq (β 1) (1) rfl (hb 1 (by decide)) rfl (fun _ => ?_) (fun q => False.elim (by omega))
  iterate 3 refine x_step rfl ?_
  refine x_ialdN (5) rfl rfl rfl (by omega) ?_
  refine x_step rfl ?_
  refine x_icmpN_ne (β 4) (128) rfl (hb 4 (by decide)) rfl (fun q => False.elim (by omega)) (fun _ => ?_)
  iterate 3 refine x_step rfl ?_
  refine x_ialdN (6) rfl rfl rfl (by omega) ?_
  refine x_step rfl ?_
  refine x_icmpN_eq (β 5) (1) rfl (hb 5 (by decide)) rfl (fun _ => ?_) (fun q => False.elim (by omega))
  iterate 2 refine x_step rfl ?_
  refine x_iremN (β 3) (2) rfl rfl rfl ?_
  refine x_ifN_ne (β 3 % 2) rfl rfl (fun _ => ?_) (fun q => False.elim (by omega))
  iterate 3 refine x_step rfl ?_
  refine x_callvQ rfl (hR) rfl rfl rfl (fun h9 hq => ?_)
  exact x_ret rfl rfl ⟨rfl, hq⟩
end ER14
