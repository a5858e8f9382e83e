section XR2
variable {l : Launch} {k d rc rs pc nx r1 r2 : Nat} {pl : List (Option Value)} {st : List Value} {hp : xm_H} {Q : xm_Q} {v : Int32}
theorem xm_fok_spec {k idx r1 r2 : Nat} (h : xm_fok k idx r1 r2 = true) : ∃ (C : String) (T : u_T) (N : Nat), xm_cl[r1]? = some (C, T, N) ∧ r2 < N ∧ (Cond.fieldLink (xm_nm k).cls idx C (T r2).2.1 (T r2).2.2.1 ∈ xm_W ∧ goodWord (Cond.fieldLink (xm_nm k).cls idx C (T r2).2.1 (T r2).2.2.1) = true) ∧ (T r2).1 = C := by
  unfold xm_fok at h
  split at h
  next => cases h
  next C T N hc =>
    simp only [Bool.and_eq_true, decide_eq_true_eq] at h
    exact ⟨C, T, N, hc, h.1.1, ⟨xm_lk_mem h.1.2, rfl⟩, h.2⟩
theorem xm_lays_in {c : Nat} {C : String} {T : u_T} {N : Nat} (hc : xm_cl[c]? = some (C, T, N)) : ∀ w ∈ u_ws C T N, w ∈ xm_W := fun w hw => xm_cls_mem hc (List.mem_append_left _ hw)
theorem xm_u_good {C : String} {T : u_T} {N : Nat} : ∀ w ∈ u_ws C T N, goodWord w = true := by
  intro w hw
  obtain ⟨k, -, rfl⟩ := List.mem_map.mp hw
  unfold u_lay
  split <;> rfl
theorem xm_hts {s : State} (h : xm_KW s) {c : Nat} {C : String} {T : u_T} {N : Nat} (hc : xm_cl[c]? = some (C, T, N)) (a : Array Value) : ∀ w ∈ u_ws C T N, w.before a s = true := fun w hw => h.at (xm_lays_in hc w hw) a (xm_u_good w hw)
theorem x_getf {P : xm_P} {idx a : Nat} {fs : List Value} {x : Value} (hf : xm_code k pc = some (.getfield idx, nx, r1, r2, v)) (he : hp[a]? = some (xO r1 fs)) (hv : fs[r2]? = some x) (kk : XG l P k d rc rs nx pl (x :: st) hp Q) : XG l P k d rc rs pc pl (.ref a :: st) hp Q := by
  intro G p e R s m args below meth c H locs cells slots ls hCP hR hL
  have hC := hCP.1
  obtain ⟨hd, hn, ho⟩ := xm_dec hC hf
  have K := kk G p e R s m args below meth c H locs cells slots ls hCP hR hL
  rw [hn] at K
  obtain ⟨C, T, N, hc, hk, hw, ht⟩ := xm_fok_spec (k := k) (idx := idx) (r1 := r1) (r2 := r2) (by simpa [xm_okI] using ho)
  have hKW := hC.2.2.2.2.2.2.2.2.1.2.1
  obtain ⟨r, h1, cell, q1, q2, q3, q4⟩ := hR.2.2 a _ he
  have hr : r = (C, T, N) := Option.some.inj (h1.symm.trans hc)
  subst hr
  obtain ⟨hS, hfc, kC, hkC, hkind⟩ := hC.2.2.2.2.2.2.2.2.1.2.2.1 r1 _ hc
  obtain ⟨cf, kf, fi, f, hi, hsl⟩ := hS r2 hk
  have hi2 : s.fieldFound? C (T r2).2.1 (T r2).2.2.1 = some (cf, kf, fi, f) := by rw [← ht]; exact hi
  have hst := (u_facts hfc hkC (u_lays (xm_hts hKW hc args) (fun w h => h) hk) hi).1
  refine W.getf hC.2.1 hC.2.2.1 hC.2.2.2.2.1 (hKW.at hw.1 args hw.2) hi2 hst q1 (by rw [q3]; exact fun h => by cases h) (v := xm_tv G.1 x) ?_ rfl rfl hd K
  rw [hsl, q4 r2 hk]
  simp [vp_V, hv]
theorem xm_pok_spec {k idx r1 r2 : Nat} (h : xm_pok k idx r1 r2 = true) : ∃ (C : String) (T : u_T) (N : Nat), xm_cl[r1]? = some (C, T, N) ∧ (∀ j, j < N → parseFieldDescriptor (T j).2.2.1 = some (xm_ft r1 j)) ∧ (∀ a, a < N → ∀ b, b < N → a ≠ b → (T a).2.1 ≠ (T b).2.1) ∧ ((T r2).2.2.2 = true → (xm_nm k).name = "<init>" ∧ (xm_nm k).cls = C) := by
  unfold xm_pok at h
  split at h
  next => cases h
  next C T N hc =>
    simp only [Bool.and_eq_true, decide_eq_true_eq, Bool.or_eq_true] at h
    refine ⟨C, T, N, hc, (xm_cls_ok hc).1, (xm_cls_ok hc).2, fun hfi => ?_⟩
    rcases h with h | h
    · rw [hfi] at h; cases h
    · exact h
theorem x_putf {idx a : Nat} {fs : List Value} {x : Value} (hf : xm_code k pc = some (.putfield idx, nx, r1, r2, v)) (he : hp[a]? = some (xO r1 fs)) (hl : r2 < fs.length) (ha : xm_c0 ≤ a) (hnar : narrow (xm_ft r1 r2) x = x) (hfit : fits (xm_ft r1 r2) x = true) (kk : XG l xm_any k d rc rs nx pl st (hp.set a (xO r1 (fs.set r2 x))) Q) : XG l xm_any k d rc rs pc pl (x :: .ref a :: st) hp Q := by
  intro G p e R s m args below meth c H locs cells slots ls hCP hR hL
  have hC := hCP.1
  obtain ⟨hd, hn, ho⟩ := xm_dec hC hf
  have ho' : xm_fok k idx r1 r2 = true ∧ xm_pok k idx r1 r2 = true := by simpa [xm_okI] using ho
  obtain ⟨C, T, N, hc, hk, hw, ht⟩ := xm_fok_spec ho'.1
  obtain ⟨C', T', N', hc', hty, hnm, hfin⟩ := xm_pok_spec ho'.2
  cases hc.symm.trans hc'
  obtain ⟨hgd, hexec, hb, hml, hown, hret, hlk, hmn, hKK, hfr, hlo, hcel, hsl0, hlocs, hfrm, hsz⟩ := id hC
  have hKW := hKK.2.1
  have hts := xm_hts hKW hc args
  obtain ⟨r, h1, cell, q1, q2, q3, q4⟩ := hR.2.2 a _ he
  have hr : r = (C, T, N) := Option.some.inj (h1.symm.trans hc)
  subst hr
  have hKn := hKK.2.2.1 r1 _ hc
  obtain ⟨hS, hfc, kC, hkC, hkind⟩ := hKn
  obtain ⟨cf, kf, fi, f, hi, hsl⟩ := hS r2 hk
  have hi2 : s.fieldFound? C (T r2).2.1 (T r2).2.2.1 = some (cf, kf, fi, f) := by rw [← ht]; exact hi
  have hlay := u_lays hts (fun w h => h) hk
  have hst := (u_facts hfc hkC hlay hi).1
  have hap : ∀ x y, x < N → y < N → x ≠ y → (G.2.1.2 r1) x ≠ (G.2.1.2 r1) y := by
    intro x y hx hy hne
    obtain ⟨_, _, _, fa, hia, ea⟩ := hS x hx
    obtain ⟨_, _, _, fb, hib, eb⟩ := hS y hy
    rw [← ea, ← eb]
    refine u_apart (u_lays hts (fun w h => h) hx) (u_lays hts (fun w h => h) hy) hia hib ?_
    rw [(State.fieldFound?_type hia (hty x hx)).1, (State.fieldFound?_type hib (hty y hy)).1]
    exact hnm x hx y hy hne
  have hnar2 : narrow (xm_ft r1 r2) (xm_tv G.1 x) = xm_tv G.1 x := by
    cases x <;> first | exact hnar | (cases xm_ft r1 r2 <;> rfl)
  have hfit2 : fits (xm_ft r1 r2) (xm_tv G.1 x) = true := by
    cases x <;> first | exact hfit | (revert hfit; cases xm_ft r1 r2 <;> exact fun h => h)
  have hF := u_fits hfc hkC hkind hlay hi (hty r2 hk) hnar2 hfit2
  have hfl : hasFlag f.accessFlags Acc.final = false ∨ (m.cls = cf ∧ meth.name = "<init>") := by
    by_cases hfi : (T r2).2.2.2 = true
    · refine Or.inr ⟨?_, by rw [hmn]; exact (hfin hfi).1⟩
      have hl2 := hts _ (u_in_lay hk)
      unfold u_lay at hl2
      rw [if_pos hfi] at hl2
      obtain ⟨_, _, c', _, _, _, -, -, hf', -, -, -, hown2, -⟩ := Cond.laysFinal_spec hl2
      have e1 : c' = cf := by have := hi.symm.trans hf'; simp at this; exact this.1.symm
      rw [ht, ← (hfin hfi).2] at hown2
      rw [← e1]
      exact Option.some.inj (hown.symm.trans hown2)
    · refine Or.inl ?_
      have hl2 := hts _ (u_in_lay hk)
      unfold u_lay at hl2
      rw [if_neg hfi] at hl2
      exact (u_store hfc hkC hkind hl2 hi (hty r2 hk) hnar2 hfit2).1
  have haH : G.1 a < H.size := (Array.getElem?_eq_some_iff.mp q1).1
  have hlt : f.slot < cell.slots.size := by rw [hsl]; exact k2_hasslot (q4 r2 hk)
  have oq : ∀ q : Nat, q ≠ G.1 a → (H.setIfInBounds (G.1 a) (cell.setSlot f.slot (xm_tv G.1 x)))[q]? = H[q]? := fun q hq => by simp [Array.getElem?_setIfInBounds, Ne.symm hq]
  have hat : xm_at G s (H.setIfInBounds (G.1 a) (cell.setSlot f.slot (xm_tv G.1 x))) a (.inr (.inr (.inl (r1, fs.set r2 x)))) := by
    refine ⟨_, hc, t_OB.to (V := updV (vp_V (fs.map (xm_tv G.1))) r2 (xm_tv G.1 x)) ⟨cell.setSlot f.slot (xm_tv G.1 x), by simp [Array.getElem?_setIfInBounds, haH], q2, q3, ?_⟩ (fun j _ => ?_)⟩
    · rw [hsl]
      exact t_set q4 hap hk _
    · rw [vp_updV_set (by rw [List.length_map]; exact hl), List.map_set]
  have hge := xm_rho_ge hKK.1 ha
  have hC2 : xm_C k d rc rs G p R s m meth c (H.setIfInBounds (G.1 a) (cell.setSlot f.slot (xm_tv G.1 x))) (locs ++ [⟨G.1 a, f.slot⟩]) cells slots :=
    ⟨hgd, hexec, hb, hml, hown, hret, hlk, hmn, hKK, hfr, hlo, hcel, hsl0, fun q hq => by
      rcases List.mem_append.mp hq with h | h
      · exact hlocs q h
      · rw [List.mem_singleton.mp h]; exact hge, fun q hq => by rw [oq q (by omega)]; exact hfrm q hq, hsz⟩
  have K := kk G p e R s m args below meth c _ _ cells slots ls ⟨hC2, trivial⟩ (hR.set hKK.1 ha hat (by simp) oq) hL
  rw [hn] at K
  exact W.putf hexec hb hown (hKW.at hw.1 args hw.2) hi2 hst hfl q1 (by rw [q3]; exact fun h => by cases h) hlt hF.1 (by rw [q2, q3]; exact hF.2) rfl rfl hd K
/-- an array's cell is written -/
theorem xm_C.put {G : xm_G} {p : Program} {R : Room} {s : State} {m : MethodId} {meth : Method} {c : Code} {H H1 : Heap} {locs : List Loc} {cells slots a j : Nat} (hC : xm_C k d rc rs G p R s m meth c H locs cells slots) (ha : xm_c0 ≤ a) (oq : ∀ q : Nat, q ≠ G.1 a → H1[q]? = H[q]?) : xm_C k d rc rs G p R s m meth c H1 (locs ++ [⟨G.1 a, j⟩]) cells slots := by
  obtain ⟨hgd, hexec, hb, hml, hown, hret, hlk, hmn, hKK, hfr, hlo, hcel, hsl0, hlocs, hfrm, hsz⟩ := hC
  have hge := xm_rho_ge hKK.1 ha
  exact ⟨hgd, hexec, hb, hml, hown, hret, hlk, hmn, hKK, hfr, hlo, hcel, hsl0, fun q hq => by
      rcases List.mem_append.mp hq with h | h
      · exact hlocs q h
      · rw [List.mem_singleton.mp h]; exact hge, fun q hq => by rw [oq q (by omega)]; exact hfrm q hq, hsz⟩
theorem xm_slots_set {cell : Cell} {n j : Nat} {g : Nat → Value} {y : Value} (hs : cell.slots.size = n) (h : ∀ i : Nat, i < n → cell.slots[i]? = some (g i)) (hj : j < n) : (cell.setSlot j y).slots.size = n ∧ ∀ i : Nat, i < n → (cell.setSlot j y).slots[i]? = some (updV g j y i) := by
  refine ⟨by simp [Cell.setSlot, hs], fun i hi => ?_⟩
  by_cases hij : i = j
  · subst hij
    simp [Cell.setSlot, updV, hs, hj]
  · simp [Cell.setSlot, updV, hij, Array.getElem?_setIfInBounds_ne (fun q => hij q.symm), h i hi]
theorem x_alen {P : xm_P} {a : Nat} {n : Nat} {e0 : xm_E} (hf : xm_code k pc = some (.arraylength, nx, r1, r2, v)) (he : hp[a]? = some (some e0)) (hn0 : (∃ t f, e0 = .inl (t, n, f)) ∨ ∃ t f, e0 = .inr (.inl (t, n, f))) {x : Int32} (hx : Int32.ofNat n = x) (kk : XG l P k d rc rs nx pl (.int x :: st) hp Q) : XG l P k d rc rs pc pl (.ref a :: st) hp Q := by
  intro G p e R s m args below meth c H locs cells slots ls hCP hR hL
  have hC := hCP.1
  obtain ⟨hd, hn, ho⟩ := xm_dec hC hf
  have K := kk G p e R s m args below meth c H locs cells slots ls hCP hR hL
  rw [hn] at K
  have hA := hR.2.2 a _ he
  rcases hn0 with ⟨t, f, rfl⟩ | ⟨t, f, rfl⟩
  · obtain ⟨cell, h1, h2, h3, h4, -⟩ := hA
    exact W.alen hC.2.1 hC.2.2.1 h1 h2 (by rw [h4]; exact hx) rfl rfl hd K
  · obtain ⟨cell, h1, h2, h3, h4, -⟩ := hA
    exact W.alen hC.2.1 hC.2.2.1 h1 h2 (by rw [h4]; exact hx) rfl rfl hd K

theorem x_iald {P : xm_P} {a t n : Nat} {f : Nat → Int32} {i : Int32} (hf : xm_code k pc = some (.iaload, nx, r1, r2, v)) (he : hp[a]? = some (xI t n f)) (ht : xm_ty t = .int) (hin : vp_in i n) (kk : XG l P k d rc rs nx pl (.int (f i.toNatClampNeg) :: st) hp Q) : XG l P k d rc rs pc pl (.int i :: .ref a :: st) hp Q := by
  intro G p e R s m args below meth c H locs cells slots ls hCP hR hL
  have hC := hCP.1
  obtain ⟨hd, hn, ho⟩ := xm_dec hC hf
  have K := kk G p e R s m args below meth c H locs cells slots ls hCP hR hL
  rw [hn] at K
  obtain ⟨cell, h1, h2, h3, h4, h5, h6⟩ := hR.2.2 a _ he
  rw [ht] at h2
  exact W.iald hC.2.1 hC.2.2.1 h1 h2 h3 (by rw [h4]; exact hin) (h5 _ (Nat.not_le.mp fun q => hin (Or.inr q))) rfl rfl hd K
theorem x_zald {P : xm_P} {a t n : Nat} {f : Nat → Int32} {i : Int32} (hf : xm_code k pc = some (.baload, nx, r1, r2, v)) (he : hp[a]? = some (xI t n f)) (ht : xm_ty t = .boolean) (hin : vp_in i n) (kk : XG l P k d rc rs nx pl (.int (f i.toNatClampNeg) :: st) hp Q) : XG l P k d rc rs pc pl (.int i :: .ref a :: st) hp Q := by
  intro G p e R s m args below meth c H locs cells slots ls hCP hR hL
  have hC := hCP.1
  obtain ⟨hd, hn, ho⟩ := xm_dec hC hf
  have K := kk G p e R s m args below meth c H locs cells slots ls hCP hR hL
  rw [hn] at K
  obtain ⟨cell, h1, h2, h3, h4, h5, h6⟩ := hR.2.2 a _ he
  rw [ht] at h2
  exact W.zald hC.2.1 hC.2.2.1 h1 h2 h3 (by rw [h4]; exact hin) (h5 _ (Nat.not_le.mp fun q => hin (Or.inr q))) rfl rfl hd K
theorem x_lald {P : xm_P} {a t n : Nat} {f : Nat → Value} {x : Value} {i : Int32} (hf : xm_code k pc = some (.laload, nx, r1, r2, v)) (he : hp[a]? = some (xV t n f)) (ht : xm_ty t = .long) (hin : vp_in i n) (hx : f i.toNatClampNeg = x) (kk : XG l P k d rc rs nx pl (x :: st) hp Q) : XG l P k d rc rs pc pl (.int i :: .ref a :: st) hp Q := by
  intro G p e R s m args below meth c H locs cells slots ls hCP hR hL
  have hC := hCP.1
  obtain ⟨hd, hn, ho⟩ := xm_dec hC hf
  have K := kk G p e R s m args below meth c H locs cells slots ls hCP hR hL
  rw [hn, ← hx] at K
  obtain ⟨cell, h1, h2, h3, h4, h5, h6⟩ := hR.2.2 a _ he
  rw [ht] at h2
  exact W.lald hC.2.1 hC.2.2.1 h1 h2 h3 (by rw [h4]; exact hin) (h5 _ (Nat.not_le.mp fun q => hin (Or.inr q))) rfl rfl hd K
theorem x_aald {P : xm_P} {a t n : Nat} {f : Nat → Value} {x : Value} {i : Int32} (hf : xm_code k pc = some (.aaload, nx, r1, r2, v)) (he : hp[a]? = some (xV t n f)) (ht : (xm_ty t).isReference = true) (hin : vp_in i n) (hx : f i.toNatClampNeg = x) (kk : XG l P k d rc rs nx pl (x :: st) hp Q) : XG l P k d rc rs pc pl (.int i :: .ref a :: st) hp Q := by
  intro G p e R s m args below meth c H locs cells slots ls hCP hR hL
  have hC := hCP.1
  obtain ⟨hd, hn, ho⟩ := xm_dec hC hf
  have K := kk G p e R s m args below meth c H locs cells slots ls hCP hR hL
  rw [hn, ← hx] at K
  obtain ⟨cell, h1, h2, h3, h4, h5, h6⟩ := hR.2.2 a _ he
  exact W.aald hC.2.1 hC.2.2.1 h1 h2 ht h3 (by rw [h4]; exact hin) (h5 _ (Nat.not_le.mp fun q => hin (Or.inr q))) rfl rfl hd K

theorem x_iast {a t n : Nat} {f : Nat → Int32} {i x : Int32} (hf : xm_code k pc = some (.iastore, nx, r1, r2, v)) (he : hp[a]? = some (xI t n f)) (ha : xm_c0 ≤ a) (ht : xm_ty t = .int) (hin : vp_in i n) (kk : XG l xm_any k d rc rs nx pl st (hp.set a (xI t n (upd f i.toNatClampNeg (x)))) Q) : XG l xm_any k d rc rs pc pl (.int x :: .int i :: .ref a :: st) hp Q := by
  intro G p e R s m args below meth c H locs cells slots ls hCP hR hL
  have hC := hCP.1
  obtain ⟨hd, hn, ho⟩ := xm_dec hC hf
  obtain ⟨cell, h1, h2, h3, h4, h5, h6⟩ := hR.2.2 a _ he
  have h2' := h2
  rw [ht] at h2'
  have hj : i.toNatClampNeg < n := Nat.not_le.mp fun q => hin (Or.inr q)
  refine W.iast hC.2.1 hC.2.2.1 h1 h2' h3 (by rw [h4]; exact hin) rfl rfl hd fun H1 e1 z1 o1 => ?_
  obtain ⟨g1, g2⟩ := xm_slots_set (y := .int (x)) h4 h5 hj
  have hat : xm_at G s H1 a (.inl (t, n, upd f i.toNatClampNeg (x))) := by
    refine ⟨_, e1, h2, h3, g1, fun j hj2 => (g2 j hj2).trans ?_, h6⟩
    by_cases hji : j = i.toNatClampNeg
    · subst hji
      simp [updV, upd]
    · simp [updV, upd, hji]
  have K := kk G p e R s m args below meth c H1 _ cells slots ls ⟨hC.put (j := i.toNatClampNeg) ha o1, trivial⟩ (hR.set hC.2.2.2.2.2.2.2.2.1.1 ha hat z1 o1) hL
  rw [hn] at K
  exact K
theorem x_zast {a t n : Nat} {f : Nat → Int32} {i x : Int32} (hf : xm_code k pc = some (.bastore, nx, r1, r2, v)) (he : hp[a]? = some (xI t n f)) (ha : xm_c0 ≤ a) (ht : xm_ty t = .boolean) (hin : vp_in i n) (kk : XG l xm_any k d rc rs nx pl st (hp.set a (xI t n (upd f i.toNatClampNeg (x &&& 1)))) Q) : XG l xm_any k d rc rs pc pl (.int x :: .int i :: .ref a :: st) hp Q := by
  intro G p e R s m args below meth c H locs cells slots ls hCP hR hL
  have hC := hCP.1
  obtain ⟨hd, hn, ho⟩ := xm_dec hC hf
  obtain ⟨cell, h1, h2, h3, h4, h5, h6⟩ := hR.2.2 a _ he
  have h2' := h2
  rw [ht] at h2'
  have hj : i.toNatClampNeg < n := Nat.not_le.mp fun q => hin (Or.inr q)
  refine W.zast hC.2.1 hC.2.2.1 h1 h2' h3 (by rw [h4]; exact hin) rfl rfl hd fun H1 e1 z1 o1 => ?_
  obtain ⟨g1, g2⟩ := xm_slots_set (y := .int (x &&& 1)) h4 h5 hj
  have hat : xm_at G s H1 a (.inl (t, n, upd f i.toNatClampNeg (x &&& 1))) := by
    refine ⟨_, e1, h2, h3, g1, fun j hj2 => (g2 j hj2).trans ?_, h6⟩
    by_cases hji : j = i.toNatClampNeg
    · subst hji
      simp [updV, upd]
    · simp [updV, upd, hji]
  have K := kk G p e R s m args below meth c H1 _ cells slots ls ⟨hC.put (j := i.toNatClampNeg) ha o1, trivial⟩ (hR.set hC.2.2.2.2.2.2.2.2.1.1 ha hat z1 o1) hL
  rw [hn] at K
  exact K
theorem x_last {a t n : Nat} {f : Nat → Value} {i : Int32} {x : Int64} (hf : xm_code k pc = some (.lastore, nx, r1, r2, v)) (he : hp[a]? = some (xV t n f)) (ha : xm_c0 ≤ a) (ht : xm_ty t = .long) (hin : vp_in i n) (kk : XG l xm_any k d rc rs nx pl st (hp.set a (xV t n (updV f i.toNatClampNeg (.long x)))) Q) : XG l xm_any k d rc rs pc pl (.long x :: .int i :: .ref a :: st) hp Q := by
  intro G p e R s m args below meth c H locs cells slots ls hCP hR hL
  have hC := hCP.1
  obtain ⟨hd, hn, ho⟩ := xm_dec hC hf
  obtain ⟨cell, h1, h2, h3, h4, h5, h6⟩ := hR.2.2 a _ he
  have h2' := h2
  rw [ht] at h2'
  have hj : i.toNatClampNeg < n := Nat.not_le.mp fun q => hin (Or.inr q)
  refine W.last hC.2.1 hC.2.2.1 h1 h2' h3 (by rw [h4]; exact hin) rfl rfl hd fun H1 e1 z1 o1 => ?_
  obtain ⟨g1, g2⟩ := xm_slots_set (y := .long x) h4 h5 hj
  have hat : xm_at G s H1 a (.inr (.inl (t, n, updV f i.toNatClampNeg (.long x)))) := by
    refine ⟨_, e1, h2, h3, g1, fun j hj2 => (g2 j hj2).trans ?_, h6⟩
    by_cases hji : j = i.toNatClampNeg
    · subst hji
      simp [updV, xm_tv]
    · simp [updV, hji]
  have K := kk G p e R s m args below meth c H1 _ cells slots ls ⟨hC.put (j := i.toNatClampNeg) ha o1, trivial⟩ (hR.set hC.2.2.2.2.2.2.2.2.1.1 ha hat z1 o1) hL
  rw [hn] at K
  exact K
end XR2
