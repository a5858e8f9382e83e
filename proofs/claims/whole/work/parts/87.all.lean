section RE17
/-- the two stand alike after n calls -/
def RInv (L : Nat) (xs : Nat → Int32) (n : Nat) (hp : xm_H) : Prop := ∃ (tc : Int32) (tf : (Nat → Int32)) (bl : Int32) (bf : (Nat → Int32)) (of : Int32) (oc : Int32) (ol : Int32) (on : Int32) (ml : (Nat → Int32)) (mx : (Nat → Int32)) (mb : (Nat → Nat → Int32)) (kc : Int32) (kh : (Nat → Nat)) (kr : (Nat → Nat → Int32)) (ka : (Nat → Int32)) (gl : Int32) (gx : Int32) (gb : (Nat → Int32)) (ls : Int32) (lq : Int32) (lk : Int32) (lg : Int32) (lh : Int32) (vf : (Nat → Int32)) (vs : (Nat → Int32)) (vb : (Nat → Nat → Int32)) (nv : (Nat → Int32)) (nw : (Nat → Nat → Int32)) (nr : (Nat → Int32)) (nq : (Nat → Nat → Int32)) (ne : (Nat → Int32)) (io : Int32) (sp : Int32) (ch : Int32) (wt : Int32) (xf : (Nat → Int32)) (xz : (Nat → Int32)) (xt : (Nat → Int32)) (xb : (Nat → Int32)) (xc : Int32) (th : Int32) (jl : Int32) (js : Int32) (jh : Int32) (jb : (Nat → Int32)) (jc : Int32) (jr : (Nat → Int32)) (jq : Int32) (jQ : (Nat → Int32)) (jz : (Nat → Int32)) (jf : (Nat → Int32)) (jo : Int32) (jn : Int32) (jt : Int32) (jH : (Nat → Int32)) (jA : (Nat → Int32)) (jm : Int32) (jy : (Nat → Int32)) (je : Int32) (jp : Int32) (jk : Int32) (jx : Int32) (jw : Int32) (ju : Int32) (jF : (Nat → Int32)) (jL : (Nat → Int32)) (jO : (Nat → Int32)) (jS : (Nat → Int32)) (jT : (Nat → Int32)) (jU : (Nat → Int32)) (jV : (Nat → Int32)) (jW : (Nat → Int32)) (ja : Int32) (jG : (Nat → Int32)) (ov : (Nat → Value)) (g2 : xm_H), hp = (cw L xs (rw th jl js jh jb jc jr jq jQ jz jf jo jn jt jH jA jm jy je jp jk jx jw ju jF jL jO jS jT jU jV jW ja jG ov g2) tc tf bl bf of oc ol on ml mx mb kc kh kr ka gl gx gb ls lq lk lg lh vf vs vb nv nw nr nq ne io sp ch wt xf xz xt xb xc) ∧ RelI (1000 * n) tc tf of oc ol on ml mx mb kc kh kr ka gl gb ls lq lk lg lh vf vs vb nv nw nr nq ne io sp ch wt jl js jh jb jc jr jq jQ jz jf jo jn jt jH jA je jp jk jx jw ju jF jL jO jS jT jU jV jW jG
theorem RInv.elim {L : Nat} {xs : Nat → Int32} {n : Nat} {hp : xm_H} {C : Prop} (h : RInv L xs n hp) (k : ∀ (tc : Int32) (tf : (Nat → Int32)) (bl : Int32) (bf : (Nat → Int32)) (of : Int32) (oc : Int32) (ol : Int32) (on : Int32) (ml : (Nat → Int32)) (mx : (Nat → Int32)) (mb : (Nat → Nat → Int32)) (kc : Int32) (kh : (Nat → Nat)) (kr : (Nat → Nat → Int32)) (ka : (Nat → Int32)) (gl : Int32) (gx : Int32) (gb : (Nat → Int32)) (ls : Int32) (lq : Int32) (lk : Int32) (lg : Int32) (lh : Int32) (vf : (Nat → Int32)) (vs : (Nat → Int32)) (vb : (Nat → Nat → Int32)) (nv : (Nat → Int32)) (nw : (Nat → Nat → Int32)) (nr : (Nat → Int32)) (nq : (Nat → Nat → Int32)) (ne : (Nat → Int32)) (io : Int32) (sp : Int32) (ch : Int32) (wt : Int32) (xf : (Nat → Int32)) (xz : (Nat → Int32)) (xt : (Nat → Int32)) (xb : (Nat → Int32)) (xc : Int32) (th : Int32) (jl : Int32) (js : Int32) (jh : Int32) (jb : (Nat → Int32)) (jc : Int32) (jr : (Nat → Int32)) (jq : Int32) (jQ : (Nat → Int32)) (jz : (Nat → Int32)) (jf : (Nat → Int32)) (jo : Int32) (jn : Int32) (jt : Int32) (jH : (Nat → Int32)) (jA : (Nat → Int32)) (jm : Int32) (jy : (Nat → Int32)) (je : Int32) (jp : Int32) (jk : Int32) (jx : Int32) (jw : Int32) (ju : Int32) (jF : (Nat → Int32)) (jL : (Nat → Int32)) (jO : (Nat → Int32)) (jS : (Nat → Int32)) (jT : (Nat → Int32)) (jU : (Nat → Int32)) (jV : (Nat → Int32)) (jW : (Nat → Int32)) (ja : Int32) (jG : (Nat → Int32)) (ov : (Nat → Value)) (g2 : xm_H), hp = (cw L xs (rw th jl js jh jb jc jr jq jQ jz jf jo jn jt jH jA jm jy je jp jk jx jw ju jF jL jO jS jT jU jV jW ja jG ov g2) tc tf bl bf of oc ol on ml mx mb kc kh kr ka gl gx gb ls lq lk lg lh vf vs vb nv nw nr nq ne io sp ch wt xf xz xt xb xc) → RelI (1000 * n) tc tf of oc ol on ml mx mb kc kh kr ka gl gb ls lq lk lg lh vf vs vb nv nw nr nq ne io sp ch wt jl js jh jb jc jr jq jQ jz jf jo jn jt jH jA je jp jk jx jw ju jF jL jO jS jT jU jV jW jG → C) : C := by
  unfold RInv at h
  refine Exists.elim h (fun tc h => ?_)
  refine Exists.elim h (fun tf h => ?_)
  refine Exists.elim h (fun bl h => ?_)
  refine Exists.elim h (fun bf h => ?_)
  refine Exists.elim h (fun of h => ?_)
  refine Exists.elim h (fun oc h => ?_)
  refine Exists.elim h (fun ol h => ?_)
  refine Exists.elim h (fun on h => ?_)
  refine Exists.elim h (fun ml h => ?_)
  refine Exists.elim h (fun mx h => ?_)
  refine Exists.elim h (fun mb h => ?_)
  refine Exists.elim h (fun kc h => ?_)
  refine Exists.elim h (fun kh h => ?_)
  refine Exists.elim h (fun kr h => ?_)
  refine Exists.elim h (fun ka h => ?_)
  refine Exists.elim h (fun gl h => ?_)
  refine Exists.elim h (fun gx h => ?_)
  refine Exists.elim h (fun gb h => ?_)
  refine Exists.elim h (fun ls h => ?_)
  refine Exists.elim h (fun lq h => ?_)
  refine Exists.elim h (fun lk h => ?_)
  refine Exists.elim h (fun lg h => ?_)
  refine Exists.elim h (fun lh h => ?_)
  refine Exists.elim h (fun vf h => ?_)
  refine Exists.elim h (fun vs h => ?_)
  refine Exists.elim h (fun vb h => ?_)
  refine Exists.elim h (fun nv h => ?_)
  refine Exists.elim h (fun nw h => ?_)
  refine Exists.elim h (fun nr h => ?_)
  refine Exists.elim h (fun nq h => ?_)
  refine Exists.elim h (fun ne h => ?_)
  refine Exists.elim h (fun io h => ?_)
  refine Exists.elim h (fun sp h => ?_)
  refine Exists.elim h (fun ch h => ?_)
  refine Exists.elim h (fun wt h => ?_)
  refine Exists.elim h (fun xf h => ?_)
  refine Exists.elim h (fun xz h => ?_)
  refine Exists.elim h (fun xt h => ?_)
  refine Exists.elim h (fun xb h => ?_)
  refine Exists.elim h (fun xc h => ?_)
  refine Exists.elim h (fun th h => ?_)
  refine Exists.elim h (fun jl h => ?_)
  refine Exists.elim h (fun js h => ?_)
  refine Exists.elim h (fun jh h => ?_)
  refine Exists.elim h (fun jb h => ?_)
  refine Exists.elim h (fun jc h => ?_)
  refine Exists.elim h (fun jr h => ?_)
  refine Exists.elim h (fun jq h => ?_)
  refine Exists.elim h (fun jQ h => ?_)
  refine Exists.elim h (fun jz h => ?_)
  refine Exists.elim h (fun jf h => ?_)
  refine Exists.elim h (fun jo h => ?_)
  refine Exists.elim h (fun jn h => ?_)
  refine Exists.elim h (fun jt h => ?_)
  refine Exists.elim h (fun jH h => ?_)
  refine Exists.elim h (fun jA h => ?_)
  refine Exists.elim h (fun jm h => ?_)
  refine Exists.elim h (fun jy h => ?_)
  refine Exists.elim h (fun je h => ?_)
  refine Exists.elim h (fun jp h => ?_)
  refine Exists.elim h (fun jk h => ?_)
  refine Exists.elim h (fun jx h => ?_)
  refine Exists.elim h (fun jw h => ?_)
  refine Exists.elim h (fun ju h => ?_)
  refine Exists.elim h (fun jF h => ?_)
  refine Exists.elim h (fun jL h => ?_)
  refine Exists.elim h (fun jO h => ?_)
  refine Exists.elim h (fun jS h => ?_)
  refine Exists.elim h (fun jT h => ?_)
  refine Exists.elim h (fun jU h => ?_)
  refine Exists.elim h (fun jV h => ?_)
  refine Exists.elim h (fun jW h => ?_)
  refine Exists.elim h (fun ja h => ?_)
  refine Exists.elim h (fun jG h => ?_)
  refine Exists.elim h (fun ov h => ?_)
  refine Exists.elim h (fun g2 h => ?_)
  exact k tc tf bl bf of oc ol on ml mx mb kc kh kr ka gl gx gb ls lq lk lg lh vf vs vb nv nw nr nq ne io sp ch wt xf xz xt xb xc th jl js jh jb jc jr jq jQ jz jf jo jn jt jH jA jm jy je jp jk jx jw ju jF jL jO jS jT jU jV jW ja jG ov g2 h.1 h.2
theorem inv_0 (L : Nat) (xs : Nat → Int32) : RInv L xs 0 (xw1 L xs) := by
  refine ⟨0, (fun _ => 0), 0, (fun _ => 0), 0, 0, 0, 0, (fun _ => 0), (fun _ => 0), (fun _ _ => 0), 0, (fun j => j), (fun _ _ => 0), (fun _ => 0), 0, 0, (fun _ => 0), 0, 0, 0, 0, 0, (fun _ => 41), (fun _ => 1), (fun _ _ => 0), (fun _ => 0), (fun _ _ => 0), (fun _ => 0), (fun _ _ => 0), (fun _ => 0), 0, 0, 3, 0, (fun _ => 0), (fun _ => 0), (fun _ => 0), (fun _ => 0), 0, 0, 0, 0, 0, (fun _ => 0), 0, (fun _ => 0), 0, (fun _ => 0), (fun _ => 0), (fun _ => 0), 0, 0, 0, (fun _ => 0), (fun _ => 0), 0, (fun _ => 0), 0, 0, 0, 3, 0, 0, (fun _ => 41), (fun _ => 1), (fun _ => 0), (fun _ => 0), (fun _ => 0), (fun _ => 0), (fun _ => 0), (fun _ => 0), 0, (fun _ => 0), (fun _ => .long 0), [], rfl, ⟨?_, ?_, rfl, ⟨0, by decide, rfl, rfl⟩, ?_, ?_, ?_, ?_, ?_, ?_, ?_, ?_⟩, ?_⟩
  · exact ⟨0, by decide, rfl, rfl, fun i h => absurd h (by omega)⟩
  · exact ⟨0, 0, by decide, by decide, rfl, rfl, rfl, fun k hk => absurd hk (by omega)⟩
  · exact ⟨0, fun _ => 0, by decide, rfl, rfl, fun j h => h, fun i j _ _ h => h, fun k hk => absurd hk (by omega), fun i j _ hj => absurd hj (by omega)⟩
  · exact ⟨0, 0, by decide, by decide, rfl, rfl, rfl, rfl, fun i _ => ⟨0, by decide, rfl⟩, fun i _ => ⟨0, by decide, rfl⟩, fun z => absurd z (by decide)⟩
  · exact ⟨0, 0, by decide, by decide, rfl, rfl, fun z => absurd z (by decide)⟩
  · refine ⟨fun _ => 1, 0, 0, fun v hv => ⟨rfl, rfl, (by decide : 1 ≤ 8), rfl, ⟨41, by decide, rfl⟩, fun k hk => ⟨?_, ⟨0, by decide, rfl⟩⟩⟩, rfl, rfl, rfl, rfl, rfl, rfl, by decide, rfl, rfl, by decide⟩
    unfold rvb
    split
    · rfl
    · split <;> rfl
  · exact ⟨⟨(fun _ => 0, fun _ _ => 0, fun _ => 0, fun _ _ => 0), ⟨fun _ => Nat.zero_le _, fun r i _ _ h => absurd h (Nat.not_lt_zero _), ⟨fun _ => Nat.zero_le _, fun _ _ => (by decide : 0 < 2 ^ 20)⟩, fun e i _ _ h => absurd h (Nat.not_lt_zero _)⟩, rfl, rfl, rfl, rfl, rfl, rfl, rfl, rfl⟩, rfl, fun e => Or.inl rfl⟩
  · exact ⟨rfl, rfl, rfl, rfl, Or.inl rfl, Or.inl rfl, fun z => absurd z (by decide), Or.inr rfl⟩
  · exact ⟨0, by decide, rfl, Or.inl rfl⟩
  · exact ⟨fun _ => 0, fun _ => (by decide : 0 < 2 ^ 24), rfl⟩
  · exact fun z => z.2 (by decide)
theorem inv_hd {L : Nat} {xs : Nat → Int32} (n : Nat) (hp : xm_H) (h : RInv L xs n hp) : hp[0]? = some (xI 0 L xs) := by
  refine h.elim ?_
  intros
  rename_i e _
  subst e
  rfl
/-- the tape: what is held, and where it lies -/
theorem rt_holds {N : Nat} {tc jc : Int32} {tf jr : Nat → Int32} (h : RT N tc tf jc jr) (hN : N < 2 ^ 29) (i : Int32) : (¬ xholds tc i = 0 → xrh jc i ∧ tf (i - i / 501 * 501).toNatClampNeg = jr (i - i / 512 * 512).toNatClampNeg) ∧ (xholds tc i = 0 → ¬ xrh jc i) := by
  obtain ⟨n, h1, rfl, rfl, h4⟩ := h
  unfold xholds xrh
  by_cases hi : i < 0
  · rw [if_pos hi]
    exact ⟨fun z => absurd rfl z, fun _ z => z.1 hi⟩
  · obtain ⟨k, hk, rfl⟩ := nI_of hi
    rw [if_neg hi]
    by_cases hc : n ≤ k
    · rw [if_pos (nI_le hc hk)]
      exact ⟨fun z => absurd rfl z, fun _ z => z.2.1 (nI_le hc hk)⟩
    · have hc2 : ¬ nI n ≤ nI k := nI_ge (by omega) (by omega)
      obtain ⟨m, rfl⟩ : ∃ m, n = m + 1 := ⟨n - 1, by omega⟩
      rw [if_neg hc2, pk_sub (show k ≤ m + 1 by omega), nI_pred, pk_sub (show k ≤ m by omega)]
      by_cases hd : 501 < m + 1 - k
      · rw [if_pos (show (501 : Int32) < nI (m + 1 - k) from nI_lt (a := 501) hd (by omega))]
        exact ⟨fun z => absurd rfl z, fun _ z => nI_ge (a := 500) (b := m - k) (by omega) (by omega) z.2.2⟩
      · rw [if_neg (show ¬ (501 : Int32) < nI (m + 1 - k) from nI_nlt (a := 501) (b := m + 1 - k) (by omega) (by decide))]
        refine ⟨fun _ => ⟨⟨hi, hc2, nI_le (b := 500) (by omega) (by decide)⟩, ?_⟩, fun z => absurd z (by decide)⟩
        rw [show nI k - nI k / 501 * 501 = nI (k % 501) from pk_rem (d := 501) hk (by decide) (by decide), show nI k - nI k / 512 * 512 = nI (k % 512) from pk_rem (d := 512) hk (by decide) (by decide), nI_clamp (by omega), nI_clamp (by omega)]
        exact h4 k (by omega) (by omega)
theorem xvr_of {x : Int32} (h : ¬ xvr x = 0) : x.toNatClampNeg < 6 := by
  unfold xvr at h
  split at h
  · exact absurd rfl h
  next h0 =>
    split at h
    · exact absurd rfl h
    next h6 =>
      obtain ⟨k, hk, rfl⟩ := nI_of h0
      rw [nI_clamp hk]
      rcases Nat.lt_or_ge k 6 with z | z
      · exact z
      · exact absurd (nI_le (a := 6) z hk) h6
theorem inv_step {l : Launch} (hfl : l.flags = pinnedFlags ++ [noTraceFlag]) {L : Nat} {xs : Nat → Int32} (hL : L ≤ 1536) : XStep l L xs (RInv L xs) := by
  intro n hp j hn hj hI
  have hJ : ∀ {tc : Int32} {tf : (Nat → Int32)} {bl : Int32} {bf : (Nat → Int32)} {of : Int32} {oc : Int32} {ol : Int32} {on : Int32} {ml : (Nat → Int32)} {mx : (Nat → Int32)} {mb : (Nat → Nat → Int32)} {kc : Int32} {kh : (Nat → Nat)} {kr : (Nat → Nat → Int32)} {ka : (Nat → Int32)} {gl : Int32} {gx : Int32} {gb : (Nat → Int32)} {ls : Int32} {lq : Int32} {lk : Int32} {lg : Int32} {lh : Int32} {vf : (Nat → Int32)} {vs : (Nat → Int32)} {vb : (Nat → Nat → Int32)} {nv : (Nat → Int32)} {nw : (Nat → Nat → Int32)} {nr : (Nat → Int32)} {nq : (Nat → Nat → Int32)} {ne : (Nat → Int32)} {io : Int32} {sp : Int32} {ch : Int32} {wt : Int32} {xf : (Nat → Int32)} {xz : (Nat → Int32)} {xt : (Nat → Int32)} {xb : (Nat → Int32)} {xc : Int32} {th : Int32} {jl : Int32} {js : Int32} {jh : Int32} {jb : (Nat → Int32)} {jc : Int32} {jr : (Nat → Int32)} {jq : Int32} {jQ : (Nat → Int32)} {jz : (Nat → Int32)} {jf : (Nat → Int32)} {jo : Int32} {jn : Int32} {jt : Int32} {jH : (Nat → Int32)} {jA : (Nat → Int32)} {jm : Int32} {jy : (Nat → Int32)} {je : Int32} {jp : Int32} {jk : Int32} {jx : Int32} {jw : Int32} {ju : Int32} {jF : (Nat → Int32)} {jL : (Nat → Int32)} {jO : (Nat → Int32)} {jS : (Nat → Int32)} {jT : (Nat → Int32)} {jU : (Nat → Int32)} {jV : (Nat → Int32)} {jW : (Nat → Int32)} {ja : Int32} {jG : (Nat → Int32)} {ov : (Nat → Value)} {g2 : xm_H}, RelI (1000 * n + 1000) tc tf of oc ol on ml mx mb kc kh kr ka gl gb ls lq lk lg lh vf vs vb nv nw nr nq ne io sp ch wt jl js jh jb jc jr jq jQ jz jf jo jn jt jH jA je jp jk jx jw ju jF jL jO jS jT jU jV jW jG → RInv L xs (n + 1) (cw L xs (rw th jl js jh jb jc jr jq jQ jz jf jo jn jt jH jA jm jy je jp jk jx jw ju jF jL jO jS jT jU jV jW ja jG ov g2) tc tf bl bf of oc ol on ml mx mb kc kh kr ka gl gx gb ls lq lk lg lh vf vs vb nv nw nr nq ne io sp ch wt xf xz xt xb xc) := by
    intros
    rename_i hr
    exact ⟨_, _, _, _, _, _, _, _, _, _, _, _, _, _, _, _, _, _, _, _, _, _, _, _, _, _, _, _, _, _, _, _, _, _, _, _, _, _, _, _, _, _, _, _, _, _, _, _, _, _, _, _, _, _, _, _, _, _, _, _, _, _, _, _, _, _, _, _, _, _, _, _, _, _, _, _, rfl, hr⟩
  refine hI.elim ?_
  intro tc tf bl bf of oc ol on ml mx mb kc kh kr ka gl gx gb ls lq lk lg lh vf vs vb nv nw nr nq ne io sp ch wt xf xz xt xb xc th jl js jh jb jc jr jq jQ jz jf jo jn jt jH jA jm jy je jp jk jx jw ju jF jL jO jS jT jU jV jW ja jG ov g2 e h
  subst e
  have hN : 1000 * n < 2 ^ 27 := by omega
  have h' := h
  obtain ⟨⟨hT, hQ, ho, hnn, hK, hLL, hZ, hV, hG, hM, hW, hGG⟩, hS⟩ := h'
  match j, hj with
  | 0, _ => exact c0 hfl _ h hN hJ
  | 1, _ => exact c1 hfl h hN hJ
  | 2, _ => exact c2 hfl h.1 (by omega) h.2 hJ
  | 3, _ => exact c3 hfl h.1 (by omega) h.2 hJ
  | 4, _ => exact c4 h.1 (by omega) hJ
  | 5, _ =>
    obtain ⟨k, -, e1, e2⟩ := hT.get
    exact c5 (e2.trans e1.symm) (fun _ _ _ => hJ (h.mono (by omega)))
  | 6, _ => exact c6 hfl (fun i => (rt_holds hT (by omega) i).1) (fun i => (rt_holds hT (by omega) i).2) (fun _ _ _ => hJ (h.mono (by omega)))
  | 7, _ =>
    obtain ⟨q, -, q1, q2⟩ := hQ.q
    obtain ⟨t, -, t1, t2, -⟩ := hK.t
    obtain ⟨⟨c, -, c1', c2'⟩, w, -, w1, w2⟩ := hV.c
    obtain ⟨m1, m2, m3, m4, m5, m6, m7, m8⟩ := hM
    refine c7 hfl hLL.eqs.1 ?_ (c2'.trans c1'.symm) (w2.trans w1.symm) m4 (q2.trans q1.symm) (t2.trans t1.symm) ho (fun _ _ _ => hJ (h.mono (by omega)))
    rw [m1, m2]
    unfold xsp
    rcases m5 with m5 | m5 <;> rcases m6 with m6 | m6
    · rw [m5, m6]; rfl
    · exact absurd (m5.symm.trans (m7 m6)) (by decide)
    · rw [m5, m6]; rfl
    · rw [m5, m6]; rfl
  | 8, _ =>
    obtain ⟨⟨s, -, e1, e2, e3, e4, e5, e6, e7, e8⟩, e9, -⟩ := hG
    exact c8 hfl (fun x _ => by rw [e1, e5]) (fun _ _ _ => hJ (h.mono (by omega)))
  | 9, _ =>
    obtain ⟨⟨s, -, e1, e2, e3, e4, e5, e6, e7, e8⟩, e9, -⟩ := hG
    exact c9 hfl (fun x _ => ⟨by rw [e3, e7], by rw [e9]⟩) (fun _ _ _ => hJ (h.mono (by omega)))
  | 10, _ =>
    obtain ⟨sz, c, w, v1, -⟩ := hV
    exact c10 hfl (fun x hx => (v1 _ (xvr_of hx)).2.2.2.1.symm) (fun _ _ _ => hJ (h.mono (by omega)))
  | 11, _ =>
    obtain ⟨sz, c, w, v1, -⟩ := hV
    exact c11 hfl (n := sz) (fun v hv => ⟨(v1 v hv).1, (v1 v hv).2.2.1⟩) (fun v hv => (v1 v hv).2.1.trans (v1 v hv).1.symm) (fun v k hv hk => ((v1 v hv).2.2.2.2.2 k hk).1) (fun _ _ _ => hJ (h.mono (by omega)))
  | j + 12, _ => exact c12 (by omega) (hJ (h.mono (by omega)))
theorem law_all {l : Launch} (hfl : l.flags = pinnedFlags ++ [noTraceFlag]) {L : Nat} {xs : Nat → Int32} (hL : L ≤ 1536) : XLaw l L xs := xl_law1 (by omega) (inv_0 L xs) inv_hd (inv_step hfl hL)
end RE17
