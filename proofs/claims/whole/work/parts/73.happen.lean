section RE3
theorem RQ.tell {of oc jq : Int32} {ml mx jQ jz jf : Nat → Int32} {mb : Nat → Nat → Int32} {q n : Nat} (h : RQ of oc ml mx mb jq jQ jz jf) (hq : jq = nI q) (hq8 : q ≤ 8) (B : List Int32) (bf jy : Nat → Int32) (sb fn : Int32) (hB : B.length ≤ 120) (hb : ∀ x ∈ B, isB x) (hn : n < 65536) (hsb : isB sb) (hfn : isB fn) : RQ of (xoc oc) (xml of oc ml (nI B.length)) (xmx of oc mx) (xmb of oc mb (xbd bf B) (nI B.length) sb fn (nI ((n + 1) % 65536))) (nI (xrq q)) (xrQ q jQ (xrbd jy B) B.length sb fn 0 0 (nI ((n + 1) % 65536 / 256)) (nI ((n + 1) % 65536 % 256))) (xrz q jz B.length) (xrf q jf) :=
  h.send hq hq8 B bf jy sb fn 0 0 _ _ hB hb (by omega) hsb hfn (by rw [show (n + 1) % 65536 / 2 ^ 24 = 0 by omega]; rfl) (by rw [show (n + 1) % 65536 / 2 ^ 16 % 256 = 0 by omega]; rfl) (by rw [show (n + 1) % 65536 / 2 ^ 8 % 256 = (n + 1) % 65536 / 256 by omega]) (by rw [show (n + 1) % 65536 % 256 = (n + 1) % 65536 % 256 from rfl])
theorem go_iff {ne nr jW jU : Nat → Int32} {sp jp : Int32} {c e : Nat} (h1 : 1 ≤ e) (h5 : e ≤ 5) (hc : c ≤ 3) (h : ne = jW) (h2 : ∃ n : Nat, n ≤ 2 ∧ nr e = nI n ∧ jU e = nI n) (hs : jp = sp) : xgo ne nr sp (nI c) (nI e) ↔ xrg jW jU jp (nI c) (nI e) := by
  subst h hs
  obtain ⟨n, hn, a1, a2⟩ := h2
  unfold xgo xrg xtd
  rw [xon_ge hc, if_neg (xev_ne h1 h5), nI_clamp (by omega), a1, a2]
  by_cases z : ne e = 0
  · rw [if_pos z]
    exact ⟨fun q => absurd rfl q.1, fun q => absurd z q.1⟩
  · rw [if_neg z]
    by_cases y : n = 0
    · subst y
      rw [if_pos (by decide)]
      exact ⟨fun q => absurd rfl q.1, fun q => absurd rfl q.2.1⟩
    · rw [if_neg (nI_nle (by omega) (by omega))]
      exact ⟨fun q => ⟨z, nI_ne0 (by omega) (by omega), q.2⟩, fun q => ⟨by decide, q.2.2⟩⟩
/-- an event happens on both sides -/
theorem p_happen (l : Launch) (bl : Int32) (bf : (Nat → Int32)) (jm : Int32) (jy : (Nat → Int32)) {on : Int32} {oc : Int32} {ol : Int32} {ml : (Nat → Int32)} {mx : (Nat → Int32)} {mb : (Nat → Nat → Int32)} {of : Int32} {vf : (Nat → Int32)} {vs : (Nat → Int32)} {vb : (Nat → Nat → Int32)} {nv : (Nat → Int32)} {nw : (Nat → Nat → Int32)} {nr : (Nat → Int32)} {nq : (Nat → Nat → Int32)} {ne : (Nat → Int32)} {sp : Int32} {jn : Int32} {jq : Int32} {jo : Int32} {jQ : (Nat → Int32)} {jz : (Nat → Int32)} {jf : (Nat → Int32)} {jk : Int32} {jw : Int32} {jF : (Nat → Int32)} {jL : (Nat → Int32)} {jO : (Nat → Int32)} {jS : (Nat → Int32)} {jT : (Nat → Int32)} {jU : (Nat → Int32)} {jV : (Nat → Int32)} {jW : (Nat → Int32)} {jp : Int32} {e : Nat} (h1 : 1 ≤ e) (h5 : e ≤ 5) (hq : RQ of oc ml mx mb jq jQ jz jf) (ho : jo = ol) (hn : RN on jn) (hv : RV vf vs vb jF jL jO jk jw) (hg : RG nv nw nr nq ne jS jT jU jV jW) (hsp : jp = sp) : ∃ b : Bool, ∃ (bl' : Int32) (bf' : (Nat → Int32)) (on' : Int32) (oc' : Int32) (ol' : Int32) (ml' : (Nat → Int32)) (mx' : (Nat → Int32)) (mb' : (Nat → Nat → Int32)) (jm' : Int32) (jy' : (Nat → Int32)) (jn' : Int32) (jq' : Int32) (jo' : Int32) (jQ' : (Nat → Int32)) (jz' : (Nat → Int32)) (jf' : (Nat → Int32)),  (∀ {L : Nat} {xs : Nat → Int32} {g : xm_H} {tc : Int32} {tf : (Nat → Int32)} {kc : Int32} {kh : (Nat → Nat)} {kr : (Nat → Nat → Int32)} {ka : (Nat → Int32)} {gl : Int32} {gx : Int32} {gb : (Nat → Int32)} {ls : Int32} {lq : Int32} {lk : Int32} {lg : Int32} {lh : Int32} {io : Int32} {ch : Int32} {wt : Int32} {xf : (Nat → Int32)} {xz : (Nat → Int32)} {xt : (Nat → Int32)} {xb : (Nat → Int32)} {xc : Int32}, XM l 14 3 0 0 [.ref 69, .int (nI e)] (cw L xs g tc tf bl bf of oc ol on ml mx mb kc kh kr ka gl gx gb ls lq lk lg lh vf vs vb nv nw nr nq ne io sp ch wt xf xz xt xb xc) (xm_is (some (.int (bI b))) (cw L xs g tc tf (bl') (bf') of (oc') (ol') (on') (ml') (mx') (mb') kc kh kr ka gl gx gb ls lq lk lg lh vf vs vb nv nw nr nq ne io sp ch wt xf xz xt xb xc))) ∧ (∀ {L : Nat} {xs : Nat → Int32} {tc : Int32} {tf : (Nat → Int32)} {bl : Int32} {bf : (Nat → Int32)} {of : Int32} {oc : Int32} {ol : Int32} {on : Int32} {ml : (Nat → Int32)} {mx : (Nat → Int32)} {mb : (Nat → Nat → Int32)} {kc : Int32} {kh : (Nat → Nat)} {kr : (Nat → Nat → Int32)} {ka : (Nat → Int32)} {gl : Int32} {gx : Int32} {gb : (Nat → Int32)} {ls : Int32} {lq : Int32} {lk : Int32} {lg : Int32} {lh : Int32} {vf : (Nat → Int32)} {vs : (Nat → Int32)} {vb : (Nat → Nat → Int32)} {nv : (Nat → Int32)} {nw : (Nat → Nat → Int32)} {nr : (Nat → Int32)} {nq : (Nat → Nat → Int32)} {ne : (Nat → Int32)} {io : Int32} {sp : Int32} {ch : Int32} {wt : Int32} {xf : (Nat → Int32)} {xz : (Nat → Int32)} {xt : (Nat → Int32)} {xb : (Nat → Int32)} {xc : Int32} {th : Int32} {jl : Int32} {js : Int32} {jh : Int32} {jb : (Nat → Int32)} {jc : Int32} {jr : (Nat → Int32)} {jt : Int32} {jH : (Nat → Int32)} {jA : (Nat → Int32)} {je : Int32} {jx : Int32} {ju : Int32} {ja : Int32} {jG : (Nat → Int32)} {ov : (Nat → Value)} {g2 : xm_H}, XM l 212 5 0 0 [.ref 103, .int (nI e)] (cw L xs (rw th jl js jh jb jc jr jq jQ jz jf jo jn jt jH jA jm jy je jp jk jx jw ju jF jL jO jS jT jU jV jW ja jG ov g2) tc tf bl bf of oc ol on ml mx mb kc kh kr ka gl gx gb ls lq lk lg lh vf vs vb nv nw nr nq ne io sp ch wt xf xz xt xb xc) (xm_is (some (.int (bI b))) (cw L xs (rw th jl js jh jb jc jr (jq') (jQ') (jz') (jf') (jo') (jn') jt jH jA (jm') (jy') je jp jk jx jw ju jF jL jO jS jT jU jV jW ja jG ov g2) tc tf bl bf of oc ol on ml mx mb kc kh kr ka gl gx gb ls lq lk lg lh vf vs vb nv nw nr nq ne io sp ch wt xf xz xt xb xc))) ∧ RQ of oc' ml' mx' mb' jq' jQ' jz' jf' ∧ jo' = ol' ∧ RN on' jn' ∧ ∀ ls : Int32, RZ ls oc → RZ ls oc' := by
  obtain ⟨⟨s, hk, rfl, rfl, rfl, rfl, rfl, rfl, rfl, rfl⟩, rfl, hne⟩ := hg
  obtain ⟨sz, c, w, hv1, hv2, hv3, hv4, hv5, hv6, rfl, hv8, hv9, rfl, hv11⟩ := hv
  obtain ⟨n, hn1, rfl, rfl⟩ := hn
  have hcr := hk.2.2.1.1 e
  have hi := hq.hi
  have w6 : RW6 vf jF vb (rvb (nI c) (nI w) jO) sz := fun v h => ⟨(hv1 v h).2.2.1, (hv1 v h).2.2.2.1, (hv1 v h).2.2.2.2.1, (hv1 v h).2.2.2.2.2⟩
  have hx := k_xlk hk (vs := vs) (fun v h => ⟨(hv1 v h).1, (hv1 v h).2.2.1⟩)
  have hr := k_rlk hk (jL := jL) (fun v h => ⟨(hv1 v h).2.1, (hv1 v h).2.2.1⟩)
  have hvk : rvk jF sz := ⟨by rw [← (hv1 0 (by decide)).2.2.2.1]; exact hv4, by rw [← (hv1 1 (by decide)).2.2.2.1]; exact hv5, hv2, hv3⟩
  have hgo := go_iff (sp := sp) (jp := jp) (ne := ne) (nr := fun z1 => nI (s.2.2.1 z1)) (jU := fun z1 => nI (s.2.2.1 z1)) h1 h5 hv8 rfl ⟨s.2.2.1 e, hcr, rfl, rfl⟩ hsp
  obtain ⟨q, hq8, hq1, hq2⟩ := hq.q
  by_cases go : xgo ne (fun z1 => nI (s.2.2.1 z1)) sp (nI c) (nI e)
  · have hlen := evL_len (vf := vf) (vb := vb) hx h1 h5
    have heq := evL_eq hk w6 h1 h5
    refine ⟨true, (nI (evL vf sz vb s.1 s.2.1 s.2.2.1 s.2.2.2 e).length), (xbd bf (evL vf sz vb s.1 s.2.1 s.2.2.1 s.2.2.2 e)), (nI ((n + 1) % 65536)), (xoc oc), (xol oc ol), (xml of oc ml (nI (evL vf sz vb s.1 s.2.1 s.2.2.1 s.2.2.2 e).length)), (xmx of oc mx), (xmb of oc mb (xbd bf (evL vf sz vb s.1 s.2.1 s.2.2.1 s.2.2.2 e)) (nI (evL vf sz vb s.1 s.2.1 s.2.2.1 s.2.2.2 e).length) (134) (11) (nI ((n + 1) % 65536))), (nI (evL vf sz vb s.1 s.2.1 s.2.2.1 s.2.2.2 e).length), (xrbd jy (evL vf sz vb s.1 s.2.1 s.2.2.1 s.2.2.2 e)), (nI ((n + 1) % 65536)), (nI (xrq q)), (xro q jo), (xrQ q jQ (xrbd jy (evL vf sz vb s.1 s.2.1 s.2.2.1 s.2.2.2 e)) (evL vf sz vb s.1 s.2.1 s.2.2.1 s.2.2.2 e).length (134) (11) (0) (0) (nI ((n + 1) % 65536 / 256)) (nI ((n + 1) % 65536 % 256))), (xrz q jz (evL vf sz vb s.1 s.2.1 s.2.2.1 s.2.2.2 e).length), (xrf q jf), ?_, ?_, ?_, ?_, RN_next, fun ls hz => hz.send⟩
    · intros
      rw [← on_next hn1]
      exact n14 hx e (by decide) h1 h5 (by rw [hv6]; exact go) hi
    · intros
      rw [hq2, ← heq]
      exact q212 hr hvk q n e (by decide) hq8 hn1 h1 h5 (hgo.mp go)
    · exact hq.tell hq2 hq8 _ _ _ 134 11 (by omega) (evL_B hk w6 h1 h5) hn1 ⟨134, by decide, rfl⟩ ⟨11, by decide, rfl⟩
    · rw [ho, hq1]; exact xol_eq hq8 ol
  · refine ⟨false, bl, bf, nI n, oc, ol, ml, mx, mb, jm, jy, nI n, jq, jo, jQ, jz, jf, ?_, ?_, hq, ho, ⟨n, hn1, rfl, rfl⟩, fun ls hz => hz⟩
    · intros; exact m14n _ (by decide) (by rw [hv6]; exact go)
    intros
    exact m212n _ (vp_in_nI (by omega) (by decide)) (fun z => go (hgo.mpr z))
end RE3
