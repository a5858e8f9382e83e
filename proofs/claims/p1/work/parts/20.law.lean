/-! the law's body -/
section XLW
variable {l : Launch} {rc rs L : Nat} {xs : Nat → Int32} {i : Int32} {o5 o6 : Option Value} {hp : xm_H} {J : xm_H → Prop} {Q : xm_Q}
abbrev xlp (i : Int32) (o5 o6 : Option Value) : List (Option Value) := [some (.ref 0), some (.ref 32), some (.ref 103), some (.ref 121), some (.int i), o5, o6]
/-- a call that answers a number: helper H, the reference's method M -/
def XA (l : Launch) (H M : Nat) (as : List Value) (hp : xm_H) (J : xm_H → Prop) : Prop :=
  ∃ (k : Int32) (J1 : xm_H → Prop), XMW l H 900 1 6 (.ref 32 :: (as ++ [.ref 121])) hp (fun v h => v = some (.int k) ∧ J1 h) ∧ ∀ h1 : xm_H, J1 h1 → h1[0]? = hp[0]? ∧ (∃ fm : List Value, h1[103]? = some (xO 12 fm)) ∧ XM l M 900 0 0 (.ref 103 :: as) h1 (fun v h2 => ∃ (r : Int32) (fn : List Value) (f : Nat → Value), v = some (.int r) ∧ h2[103]? = some (xO 12 fn) ∧ XM l 171 900 0 0 [.ref 103] h2 (xm_is (some (.int k)) h2) ∧ (k = 0 → h2[121]? = some (xV 1 1 f) ∧ f 0 = .long r.toInt64) ∧ J h2)
/-- a call that answers nothing -/
def XB (l : Launch) (H M : Nat) (as : List Value) (hp : xm_H) (J : xm_H → Prop) : Prop :=
  ∃ (k : Int32) (J1 : xm_H → Prop), XMW l H 900 1 6 (.ref 32 :: as) hp (fun v h => v = some (.int k) ∧ J1 h) ∧ ∀ h1 : xm_H, J1 h1 → h1[0]? = hp[0]? ∧ (∃ fm : List Value, h1[103]? = some (xO 12 fm)) ∧ XM l M 900 0 0 (.ref 103 :: as) h1 (fun v h2 => ∃ fn : List Value, v = none ∧ h2[103]? = some (xO 12 fn) ∧ XM l 171 900 0 0 [.ref 103] h2 (xm_is (some (.int k)) h2) ∧ J h2)
/-- a call without helper -/
def XD (l : Launch) (N M : Nat) (hp : xm_H) (J : xm_H → Prop) : Prop :=
  ∃ (r : Int32) (J1 : xm_H → Prop) (fs : List Value), hp[32]? = some (xO 0 fs) ∧ XM l N 900 1 6 [.ref 32] hp (fun v h => v = some (.int r) ∧ J1 h) ∧ ∀ h1 : xm_H, J1 h1 → (∃ fm : List Value, h1[103]? = some (xO 12 fm)) ∧ XM l M 900 0 0 [.ref 103] h1 (fun v h2 => v = some (.int r) ∧ J h2)
theorem xl_cmp (x : Int64) : lg_cmp x x = 0 := by
  unfold lg_cmp
  rw [if_neg (by intro h; have h2 := Int64.lt_iff_toInt_lt.mp h; omega), if_pos rfl]
set_option maxRecDepth 100000 in
theorem xl0 (hs : hp[0]? = some (xI 0 L xs)) (hin : vp_in (i + 1) L) (hrc : 1 ≤ rc) (hrs : 6 ≤ rs) (h : XA l 241 172 [.int (xs (i + 1).toNatClampNeg)] hp J) (kk : ∀ (hp' : xm_H) (o5 o6 : Option Value), J hp' → XG l xm_any 251 1000 (rc - 1) (rs - 6) 674 (xlp i o5 o6) [] hp' Q) : XG l xm_any 251 1000 rc rs 100 (xlp i o5 o6) [] hp Q := by
  obtain ⟨k, J1, h1, h9⟩ := h
  refine x_step rfl ?_
  iterate 4 refine x_step rfl ?_
  refine x_iald rfl hs rfl hin ?_
  refine x_step rfl ?_
  refine x_callsW (j := 241) (as := [.ref 32, .int (xs (i + 1).toNatClampNeg), .ref 121]) (rest := []) rfl h1 (by decide) hrc hrs rfl (by decide) rfl xh241 xhs241 xh_ini ⟨by decide, by decide, rfl⟩ (by decide) ?_
  rintro x0 hpx ⟨rfl, hJ1⟩
  obtain ⟨s1, ⟨fm, e1⟩, h2⟩ := h9 _ hJ1
  iterate 2 refine x_step rfl ?_
  iterate 4 refine x_step rfl ?_
  refine x_iald rfl (s1.trans hs) rfl hin ?_
  refine x_callv (a := 103) (as := [.int (xs (i + 1).toNatClampNeg)]) (rest := []) rfl (by decide) h2 (by decide) (Nat.zero_le _) (Nat.zero_le _) rfl rfl (by decide) e1 rfl ?_
  rintro x1 hpy ⟨r, fn, f, rfl, e2, h3, h4, hJ⟩
  iterate 2 refine x_step rfl ?_
  refine x_callvE (a := 103) (as := []) (rest := []) rfl h3 rfl rfl e2 ?_
  refine x_step rfl ?_
  refine x_icmp_eq rfl (fun _ => ?_) (fun q => absurd rfl q)
  refine x_step rfl ?_
  refine x_if_ne rfl (fun q => ?_) (fun q => ?_)
  · refine x_step rfl ?_
    exact kk _ _ _ hJ
  · obtain ⟨e3, e4⟩ := h4 q
    iterate 2 refine x_step rfl ?_
    refine x_lald rfl e3 rfl (by unfold vp_in; decide) e4 ?_
    iterate 3 refine x_step rfl ?_
    refine x_if_eq rfl (fun _ => ?_) (fun q2 => absurd (xl_cmp _) q2)
    refine x_step rfl ?_
    exact kk _ _ _ hJ
set_option maxRecDepth 100000 in
theorem xl1 (hs : hp[0]? = some (xI 0 L xs)) (hin : vp_in (i + 1) L) (hrc : 1 ≤ rc) (hrs : 6 ≤ rs) (h : XA l 242 229 [.int (xs (i + 1).toNatClampNeg)] hp J) (kk : ∀ (hp' : xm_H) (o5 o6 : Option Value), J hp' → XG l xm_any 251 1000 (rc - 1) (rs - 6) 674 (xlp i o5 o6) [] hp' Q) : XG l xm_any 251 1000 rc rs 156 (xlp i o5 o6) [] hp Q := by
  obtain ⟨k, J1, h1, h9⟩ := h
  refine x_step rfl ?_
  iterate 4 refine x_step rfl ?_
  refine x_iald rfl hs rfl hin ?_
  refine x_step rfl ?_
  refine x_callsW (j := 242) (as := [.ref 32, .int (xs (i + 1).toNatClampNeg), .ref 121]) (rest := []) rfl h1 (by decide) hrc hrs rfl (by decide) rfl xh242 xhs242 xh_ini ⟨by decide, by decide, rfl⟩ (by decide) ?_
  rintro x0 hpx ⟨rfl, hJ1⟩
  obtain ⟨s1, ⟨fm, e1⟩, h2⟩ := h9 _ hJ1
  iterate 2 refine x_step rfl ?_
  iterate 4 refine x_step rfl ?_
  refine x_iald rfl (s1.trans hs) rfl hin ?_
  refine x_callv (a := 103) (as := [.int (xs (i + 1).toNatClampNeg)]) (rest := []) rfl (by decide) h2 (by decide) (Nat.zero_le _) (Nat.zero_le _) rfl rfl (by decide) e1 rfl ?_
  rintro x1 hpy ⟨r, fn, f, rfl, e2, h3, h4, hJ⟩
  iterate 2 refine x_step rfl ?_
  refine x_callvE (a := 103) (as := []) (rest := []) rfl h3 rfl rfl e2 ?_
  refine x_step rfl ?_
  refine x_icmp_eq rfl (fun _ => ?_) (fun q => absurd rfl q)
  refine x_step rfl ?_
  refine x_if_ne rfl (fun q => ?_) (fun q => ?_)
  · refine x_step rfl ?_
    exact kk _ _ _ hJ
  · obtain ⟨e3, e4⟩ := h4 q
    iterate 2 refine x_step rfl ?_
    refine x_lald rfl e3 rfl (by unfold vp_in; decide) e4 ?_
    iterate 3 refine x_step rfl ?_
    refine x_if_eq rfl (fun _ => ?_) (fun q2 => absurd (xl_cmp _) q2)
    refine x_step rfl ?_
    exact kk _ _ _ hJ
set_option maxRecDepth 100000 in
theorem xl2 (hs : hp[0]? = some (xI 0 L xs)) (hin : vp_in (i + 1) L) (hrc : 1 ≤ rc) (hrs : 6 ≤ rs) (h : XB l 243 231 [.int (if xs (i + 1).toNatClampNeg = 0 then 0 else 1)] hp J) (kk : ∀ (hp' : xm_H) (o5 o6 : Option Value), J hp' → XG l xm_any 251 1000 (rc - 1) (rs - 6) 674 (xlp i o5 o6) [] hp' Q) : XG l xm_any 251 1000 rc rs 212 (xlp i o5 o6) [] hp Q := by
  obtain ⟨k, J1, h1, h9⟩ := h
  refine x_step rfl ?_
  iterate 4 refine x_step rfl ?_
  refine x_iald rfl hs rfl hin ?_
  by_cases hz : xs (i + 1).toNatClampNeg = 0
  · rw [if_pos hz] at h1 h9
    refine x_if_eq rfl (fun _ => ?_) (fun q => absurd hz q)
    refine x_step rfl ?_
    refine x_callsW (j := 243) (as := [.ref 32, .int 0]) (rest := []) rfl h1 (by decide) hrc hrs rfl (by decide) rfl xh243 xhs243 xh_ini ⟨by decide, by decide, rfl⟩ (by decide) ?_
    rintro x0 hpx ⟨rfl, hJ1⟩
    obtain ⟨s1, ⟨fm, e1⟩, h2⟩ := h9 _ hJ1
    iterate 2 refine x_step rfl ?_
    iterate 4 refine x_step rfl ?_
    refine x_iald rfl (s1.trans hs) rfl hin ?_
    refine x_if_eq rfl (fun _ => ?_) (fun q => absurd hz q)
    refine x_step rfl ?_
    refine x_callv (a := 103) (as := [.int 0]) (rest := []) rfl (by decide) h2 (by decide) (Nat.zero_le _) (Nat.zero_le _) rfl rfl (by decide) e1 rfl ?_
    rintro x1 hpy ⟨fn, rfl, e2, h3, hJ⟩
    refine x_step rfl ?_
    refine x_callvE (a := 103) (as := []) (rest := []) rfl h3 rfl rfl e2 ?_
    refine x_step rfl ?_
    refine x_icmp_eq rfl (fun _ => ?_) (fun q => absurd rfl q)
    refine x_step rfl ?_
    exact kk _ _ _ hJ
  · rw [if_neg hz] at h1 h9
    refine x_if_eq rfl (fun q => absurd q hz) (fun _ => ?_)
    iterate 2 refine x_step rfl ?_
    refine x_callsW (j := 243) (as := [.ref 32, .int 1]) (rest := []) rfl h1 (by decide) hrc hrs rfl (by decide) rfl xh243 xhs243 xh_ini ⟨by decide, by decide, rfl⟩ (by decide) ?_
    rintro x0 hpx ⟨rfl, hJ1⟩
    obtain ⟨s1, ⟨fm, e1⟩, h2⟩ := h9 _ hJ1
    iterate 2 refine x_step rfl ?_
    iterate 4 refine x_step rfl ?_
    refine x_iald rfl (s1.trans hs) rfl hin ?_
    refine x_if_eq rfl (fun q => absurd q hz) (fun _ => ?_)
    iterate 2 refine x_step rfl ?_
    refine x_callv (a := 103) (as := [.int 1]) (rest := []) rfl (by decide) h2 (by decide) (Nat.zero_le _) (Nat.zero_le _) rfl rfl (by decide) e1 rfl ?_
    rintro x1 hpy ⟨fn, rfl, e2, h3, hJ⟩
    refine x_step rfl ?_
    refine x_callvE (a := 103) (as := []) (rest := []) rfl h3 rfl rfl e2 ?_
    refine x_step rfl ?_
    refine x_icmp_eq rfl (fun _ => ?_) (fun q => absurd rfl q)
    refine x_step rfl ?_
    exact kk _ _ _ hJ
set_option maxRecDepth 100000 in
theorem xl3 (hs : hp[0]? = some (xI 0 L xs)) (hin : vp_in (i + 1) L) (hrc : 1 ≤ rc) (hrs : 6 ≤ rs) (h : XB l 244 232 [.int (xs (i + 1).toNatClampNeg)] hp J) (kk : ∀ (hp' : xm_H) (o5 o6 : Option Value), J hp' → XG l xm_any 251 1000 (rc - 1) (rs - 6) 674 (xlp i o5 o6) [] hp' Q) : XG l xm_any 251 1000 rc rs 264 (xlp i o5 o6) [] hp Q := by
  obtain ⟨k, J1, h1, h9⟩ := h
  refine x_step rfl ?_
  iterate 4 refine x_step rfl ?_
  refine x_iald rfl hs rfl hin ?_
  refine x_callsW (j := 244) (as := [.ref 32, .int (xs (i + 1).toNatClampNeg)]) (rest := []) rfl h1 (by decide) hrc hrs rfl (by decide) rfl xh244 xhs244 xh_ini ⟨by decide, by decide, rfl⟩ (by decide) ?_
  rintro x0 hpx ⟨rfl, hJ1⟩
  obtain ⟨s1, ⟨fm, e1⟩, h2⟩ := h9 _ hJ1
  iterate 2 refine x_step rfl ?_
  iterate 4 refine x_step rfl ?_
  refine x_iald rfl (s1.trans hs) rfl hin ?_
  refine x_callv (a := 103) (as := [.int (xs (i + 1).toNatClampNeg)]) (rest := []) rfl (by decide) h2 (by decide) (Nat.zero_le _) (Nat.zero_le _) rfl rfl (by decide) e1 rfl ?_
  rintro x1 hpy ⟨fn, rfl, e2, h3, hJ⟩
  refine x_step rfl ?_
  refine x_callvE (a := 103) (as := []) (rest := []) rfl h3 rfl rfl e2 ?_
  refine x_step rfl ?_
  refine x_icmp_eq rfl (fun _ => ?_) (fun q => absurd rfl q)
  refine x_step rfl ?_
  exact kk _ _ _ hJ
set_option maxRecDepth 100000 in
theorem xl4 (hrc : 1 ≤ rc) (hrs : 6 ≤ rs) (h : XD l 13 233 hp J) (kk : ∀ (hp' : xm_H) (o5 o6 : Option Value), J hp' → XG l xm_any 251 1000 (rc - 1) (rs - 6) 674 (xlp i o5 o6) [] hp' Q) : XG l xm_any 251 1000 rc rs 300 (xlp i o5 o6) [] hp Q := by
  obtain ⟨r, J1, fs, e0, h1, h9⟩ := h
  refine x_step rfl ?_
  refine x_callv (a := 32) (as := []) (rest := []) rfl (by decide) h1 (by decide) hrc hrs rfl rfl (by decide) e0 rfl ?_
  rintro x1 hpy ⟨rfl, hJ1⟩
  obtain ⟨⟨fm, e1⟩, h2⟩ := h9 _ hJ1
  refine x_step rfl ?_
  refine x_callv (a := 103) (as := []) (rest := [.int r]) rfl (by decide) h2 (by decide) (Nat.zero_le _) (Nat.zero_le _) rfl rfl (Nat.le_of_ble_eq_true rfl) e1 rfl ?_
  rintro x2 hpz ⟨rfl, hJ⟩
  refine x_icmp_eq rfl (fun _ => ?_) (fun q => absurd rfl q)
  exact kk _ _ _ hJ
set_option maxRecDepth 100000 in
theorem xl5 (hrc : 1 ≤ rc) (hrs : 6 ≤ rs) (h : XD l 43 234 hp J) (kk : ∀ (hp' : xm_H) (o5 o6 : Option Value), J hp' → XG l xm_any 251 1000 (rc - 1) (rs - 6) 674 (xlp i o5 o6) [] hp' Q) : XG l xm_any 251 1000 rc rs 313 (xlp i o5 o6) [] hp Q := by
  obtain ⟨r, J1, fs, e0, h1, h9⟩ := h
  refine x_step rfl ?_
  refine x_callv (a := 32) (as := []) (rest := []) rfl (by decide) h1 (by decide) hrc hrs rfl rfl (by decide) e0 rfl ?_
  rintro x1 hpy ⟨rfl, hJ1⟩
  obtain ⟨⟨fm, e1⟩, h2⟩ := h9 _ hJ1
  refine x_step rfl ?_
  refine x_callv (a := 103) (as := []) (rest := [.int r]) rfl (by decide) h2 (by decide) (Nat.zero_le _) (Nat.zero_le _) rfl rfl (Nat.le_of_ble_eq_true rfl) e1 rfl ?_
  rintro x2 hpz ⟨rfl, hJ⟩
  refine x_icmp_eq rfl (fun _ => ?_) (fun q => absurd rfl q)
  exact kk _ _ _ hJ
set_option maxRecDepth 100000 in
theorem xl6 (hs : hp[0]? = some (xI 0 L xs)) (hin : vp_in (i + 1) L) (hrc : 1 ≤ rc) (hrs : 6 ≤ rs) (h : XA l 245 235 [.int (xs (i + 1).toNatClampNeg)] hp J) (kk : ∀ (hp' : xm_H) (o5 o6 : Option Value), J hp' → XG l xm_any 251 1000 (rc - 1) (rs - 6) 674 (xlp i o5 o6) [] hp' Q) : XG l xm_any 251 1000 rc rs 326 (xlp i o5 o6) [] hp Q := by
  obtain ⟨k, J1, h1, h9⟩ := h
  refine x_step rfl ?_
  iterate 4 refine x_step rfl ?_
  refine x_iald rfl hs rfl hin ?_
  refine x_step rfl ?_
  refine x_callsW (j := 245) (as := [.ref 32, .int (xs (i + 1).toNatClampNeg), .ref 121]) (rest := []) rfl h1 (by decide) hrc hrs rfl (by decide) rfl xh245 xhs245 xh_ini ⟨by decide, by decide, rfl⟩ (by decide) ?_
  rintro x0 hpx ⟨rfl, hJ1⟩
  obtain ⟨s1, ⟨fm, e1⟩, h2⟩ := h9 _ hJ1
  iterate 2 refine x_step rfl ?_
  iterate 4 refine x_step rfl ?_
  refine x_iald rfl (s1.trans hs) rfl hin ?_
  refine x_callv (a := 103) (as := [.int (xs (i + 1).toNatClampNeg)]) (rest := []) rfl (by decide) h2 (by decide) (Nat.zero_le _) (Nat.zero_le _) rfl rfl (by decide) e1 rfl ?_
  rintro x1 hpy ⟨r, fn, f, rfl, e2, h3, h4, hJ⟩
  iterate 2 refine x_step rfl ?_
  refine x_callvE (a := 103) (as := []) (rest := []) rfl h3 rfl rfl e2 ?_
  refine x_step rfl ?_
  refine x_icmp_eq rfl (fun _ => ?_) (fun q => absurd rfl q)
  refine x_step rfl ?_
  refine x_if_ne rfl (fun q => ?_) (fun q => ?_)
  · refine x_step rfl ?_
    exact kk _ _ _ hJ
  · obtain ⟨e3, e4⟩ := h4 q
    iterate 2 refine x_step rfl ?_
    refine x_lald rfl e3 rfl (by unfold vp_in; decide) e4 ?_
    iterate 3 refine x_step rfl ?_
    refine x_if_eq rfl (fun _ => ?_) (fun q2 => absurd (xl_cmp _) q2)
    refine x_step rfl ?_
    exact kk _ _ _ hJ
set_option maxRecDepth 100000 in
theorem xl7 (hs : hp[0]? = some (xI 0 L xs)) (hin : vp_in (i + 1) L) (hrc : 1 ≤ rc) (hrs : 6 ≤ rs) (h : XA l 246 236 [.int (xs (i + 1).toNatClampNeg)] hp J) (kk : ∀ (hp' : xm_H) (o5 o6 : Option Value), J hp' → XG l xm_any 251 1000 (rc - 1) (rs - 6) 674 (xlp i o5 o6) [] hp' Q) : XG l xm_any 251 1000 rc rs 382 (xlp i o5 o6) [] hp Q := by
  obtain ⟨k, J1, h1, h9⟩ := h
  refine x_step rfl ?_
  iterate 4 refine x_step rfl ?_
  refine x_iald rfl hs rfl hin ?_
  refine x_step rfl ?_
  refine x_callsW (j := 246) (as := [.ref 32, .int (xs (i + 1).toNatClampNeg), .ref 121]) (rest := []) rfl h1 (by decide) hrc hrs rfl (by decide) rfl xh246 xhs246 xh_ini ⟨by decide, by decide, rfl⟩ (by decide) ?_
  rintro x0 hpx ⟨rfl, hJ1⟩
  obtain ⟨s1, ⟨fm, e1⟩, h2⟩ := h9 _ hJ1
  iterate 2 refine x_step rfl ?_
  iterate 4 refine x_step rfl ?_
  refine x_iald rfl (s1.trans hs) rfl hin ?_
  refine x_callv (a := 103) (as := [.int (xs (i + 1).toNatClampNeg)]) (rest := []) rfl (by decide) h2 (by decide) (Nat.zero_le _) (Nat.zero_le _) rfl rfl (by decide) e1 rfl ?_
  rintro x1 hpy ⟨r, fn, f, rfl, e2, h3, h4, hJ⟩
  iterate 2 refine x_step rfl ?_
  refine x_callvE (a := 103) (as := []) (rest := []) rfl h3 rfl rfl e2 ?_
  refine x_step rfl ?_
  refine x_icmp_eq rfl (fun _ => ?_) (fun q => absurd rfl q)
  refine x_step rfl ?_
  refine x_if_ne rfl (fun q => ?_) (fun q => ?_)
  · refine x_step rfl ?_
    exact kk _ _ _ hJ
  · obtain ⟨e3, e4⟩ := h4 q
    iterate 2 refine x_step rfl ?_
    refine x_lald rfl e3 rfl (by unfold vp_in; decide) e4 ?_
    iterate 3 refine x_step rfl ?_
    refine x_if_eq rfl (fun _ => ?_) (fun q2 => absurd (xl_cmp _) q2)
    refine x_step rfl ?_
    exact kk _ _ _ hJ
set_option maxRecDepth 100000 in
theorem xl8 (hs : hp[0]? = some (xI 0 L xs)) (hin : vp_in (i + 1) L) (hrc : 1 ≤ rc) (hrs : 6 ≤ rs) (h : XA l 247 237 [.int (xs (i + 1).toNatClampNeg)] hp J) (kk : ∀ (hp' : xm_H) (o5 o6 : Option Value), J hp' → XG l xm_any 251 1000 (rc - 1) (rs - 6) 674 (xlp i o5 o6) [] hp' Q) : XG l xm_any 251 1000 rc rs 438 (xlp i o5 o6) [] hp Q := by
  obtain ⟨k, J1, h1, h9⟩ := h
  refine x_step rfl ?_
  iterate 4 refine x_step rfl ?_
  refine x_iald rfl hs rfl hin ?_
  refine x_step rfl ?_
  refine x_callsW (j := 247) (as := [.ref 32, .int (xs (i + 1).toNatClampNeg), .ref 121]) (rest := []) rfl h1 (by decide) hrc hrs rfl (by decide) rfl xh247 xhs247 xh_ini ⟨by decide, by decide, rfl⟩ (by decide) ?_
  rintro x0 hpx ⟨rfl, hJ1⟩
  obtain ⟨s1, ⟨fm, e1⟩, h2⟩ := h9 _ hJ1
  iterate 2 refine x_step rfl ?_
  iterate 4 refine x_step rfl ?_
  refine x_iald rfl (s1.trans hs) rfl hin ?_
  refine x_callv (a := 103) (as := [.int (xs (i + 1).toNatClampNeg)]) (rest := []) rfl (by decide) h2 (by decide) (Nat.zero_le _) (Nat.zero_le _) rfl rfl (by decide) e1 rfl ?_
  rintro x1 hpy ⟨r, fn, f, rfl, e2, h3, h4, hJ⟩
  iterate 2 refine x_step rfl ?_
  refine x_callvE (a := 103) (as := []) (rest := []) rfl h3 rfl rfl e2 ?_
  refine x_step rfl ?_
  refine x_icmp_eq rfl (fun _ => ?_) (fun q => absurd rfl q)
  refine x_step rfl ?_
  refine x_if_ne rfl (fun q => ?_) (fun q => ?_)
  · refine x_step rfl ?_
    exact kk _ _ _ hJ
  · obtain ⟨e3, e4⟩ := h4 q
    iterate 2 refine x_step rfl ?_
    refine x_lald rfl e3 rfl (by unfold vp_in; decide) e4 ?_
    iterate 3 refine x_step rfl ?_
    refine x_if_eq rfl (fun _ => ?_) (fun q2 => absurd (xl_cmp _) q2)
    refine x_step rfl ?_
    exact kk _ _ _ hJ
set_option maxRecDepth 100000 in
theorem xl9 (hs : hp[0]? = some (xI 0 L xs)) (hin : vp_in (i + 1) L) (hrc : 1 ≤ rc) (hrs : 6 ≤ rs) (h : XA l 248 238 [.int (xs (i + 1).toNatClampNeg)] hp J) (kk : ∀ (hp' : xm_H) (o5 o6 : Option Value), J hp' → XG l xm_any 251 1000 (rc - 1) (rs - 6) 674 (xlp i o5 o6) [] hp' Q) : XG l xm_any 251 1000 rc rs 494 (xlp i o5 o6) [] hp Q := by
  obtain ⟨k, J1, h1, h9⟩ := h
  refine x_step rfl ?_
  iterate 4 refine x_step rfl ?_
  refine x_iald rfl hs rfl hin ?_
  refine x_step rfl ?_
  refine x_callsW (j := 248) (as := [.ref 32, .int (xs (i + 1).toNatClampNeg), .ref 121]) (rest := []) rfl h1 (by decide) hrc hrs rfl (by decide) rfl xh248 xhs248 xh_ini ⟨by decide, by decide, rfl⟩ (by decide) ?_
  rintro x0 hpx ⟨rfl, hJ1⟩
  obtain ⟨s1, ⟨fm, e1⟩, h2⟩ := h9 _ hJ1
  iterate 2 refine x_step rfl ?_
  iterate 4 refine x_step rfl ?_
  refine x_iald rfl (s1.trans hs) rfl hin ?_
  refine x_callv (a := 103) (as := [.int (xs (i + 1).toNatClampNeg)]) (rest := []) rfl (by decide) h2 (by decide) (Nat.zero_le _) (Nat.zero_le _) rfl rfl (by decide) e1 rfl ?_
  rintro x1 hpy ⟨r, fn, f, rfl, e2, h3, h4, hJ⟩
  iterate 2 refine x_step rfl ?_
  refine x_callvE (a := 103) (as := []) (rest := []) rfl h3 rfl rfl e2 ?_
  refine x_step rfl ?_
  refine x_icmp_eq rfl (fun _ => ?_) (fun q => absurd rfl q)
  refine x_step rfl ?_
  refine x_if_ne rfl (fun q => ?_) (fun q => ?_)
  · refine x_step rfl ?_
    exact kk _ _ _ hJ
  · obtain ⟨e3, e4⟩ := h4 q
    iterate 2 refine x_step rfl ?_
    refine x_lald rfl e3 rfl (by unfold vp_in; decide) e4 ?_
    iterate 3 refine x_step rfl ?_
    refine x_if_eq rfl (fun _ => ?_) (fun q2 => absurd (xl_cmp _) q2)
    refine x_step rfl ?_
    exact kk _ _ _ hJ
set_option maxRecDepth 100000 in
theorem xl10 (hs : hp[0]? = some (xI 0 L xs)) (hin : vp_in (i + 1) L) (hrc : 1 ≤ rc) (hrs : 6 ≤ rs) (h : XA l 249 239 [.int (xs (i + 1).toNatClampNeg)] hp J) (kk : ∀ (hp' : xm_H) (o5 o6 : Option Value), J hp' → XG l xm_any 251 1000 (rc - 1) (rs - 6) 674 (xlp i o5 o6) [] hp' Q) : XG l xm_any 251 1000 rc rs 550 (xlp i o5 o6) [] hp Q := by
  obtain ⟨k, J1, h1, h9⟩ := h
  refine x_step rfl ?_
  iterate 4 refine x_step rfl ?_
  refine x_iald rfl hs rfl hin ?_
  refine x_step rfl ?_
  refine x_callsW (j := 249) (as := [.ref 32, .int (xs (i + 1).toNatClampNeg), .ref 121]) (rest := []) rfl h1 (by decide) hrc hrs rfl (by decide) rfl xh249 xhs249 xh_ini ⟨by decide, by decide, rfl⟩ (by decide) ?_
  rintro x0 hpx ⟨rfl, hJ1⟩
  obtain ⟨s1, ⟨fm, e1⟩, h2⟩ := h9 _ hJ1
  iterate 2 refine x_step rfl ?_
  iterate 4 refine x_step rfl ?_
  refine x_iald rfl (s1.trans hs) rfl hin ?_
  refine x_callv (a := 103) (as := [.int (xs (i + 1).toNatClampNeg)]) (rest := []) rfl (by decide) h2 (by decide) (Nat.zero_le _) (Nat.zero_le _) rfl rfl (by decide) e1 rfl ?_
  rintro x1 hpy ⟨r, fn, f, rfl, e2, h3, h4, hJ⟩
  iterate 2 refine x_step rfl ?_
  refine x_callvE (a := 103) (as := []) (rest := []) rfl h3 rfl rfl e2 ?_
  refine x_step rfl ?_
  refine x_icmp_eq rfl (fun _ => ?_) (fun q => absurd rfl q)
  refine x_step rfl ?_
  refine x_if_ne rfl (fun q => ?_) (fun q => ?_)
  · refine x_step rfl ?_
    exact kk _ _ _ hJ
  · obtain ⟨e3, e4⟩ := h4 q
    iterate 2 refine x_step rfl ?_
    refine x_lald rfl e3 rfl (by unfold vp_in; decide) e4 ?_
    iterate 3 refine x_step rfl ?_
    refine x_if_eq rfl (fun _ => ?_) (fun q2 => absurd (xl_cmp _) q2)
    refine x_step rfl ?_
    exact kk _ _ _ hJ
set_option maxRecDepth 100000 in
theorem xl11 (hs : hp[0]? = some (xI 0 L xs)) (hin : vp_in (i + 1) L) (hin2 : vp_in (i + 2) L) (hrc : 1 ≤ rc) (hrs : 6 ≤ rs) (h : XA l 250 240 [.int (xs (i + 1).toNatClampNeg), .int (xs (i + 2).toNatClampNeg)] hp J) (kk : ∀ (hp' : xm_H) (o5 o6 : Option Value), J hp' → XG l xm_any 251 1000 (rc - 1) (rs - 6) 674 (xlp i o5 o6) [] hp' Q) : XG l xm_any 251 1000 rc rs 606 (xlp i o5 o6) [] hp Q := by
  obtain ⟨k, J1, h1, h9⟩ := h
  refine x_step rfl ?_
  iterate 4 refine x_step rfl ?_
  refine x_iald rfl hs rfl hin ?_
  iterate 4 refine x_step rfl ?_
  refine x_iald rfl hs rfl hin2 ?_
  refine x_step rfl ?_
  refine x_callsW (j := 250) (as := [.ref 32, .int (xs (i + 1).toNatClampNeg), .int (xs (i + 2).toNatClampNeg), .ref 121]) (rest := []) rfl h1 (by decide) hrc hrs rfl (by decide) rfl xh250 xhs250 xh_ini ⟨by decide, by decide, rfl⟩ (by decide) ?_
  rintro x0 hpx ⟨rfl, hJ1⟩
  obtain ⟨s1, ⟨fm, e1⟩, h2⟩ := h9 _ hJ1
  iterate 2 refine x_step rfl ?_
  iterate 4 refine x_step rfl ?_
  refine x_iald rfl (s1.trans hs) rfl hin ?_
  iterate 4 refine x_step rfl ?_
  refine x_iald rfl (s1.trans hs) rfl hin2 ?_
  refine x_callv (a := 103) (as := [.int (xs (i + 1).toNatClampNeg), .int (xs (i + 2).toNatClampNeg)]) (rest := []) rfl (by decide) h2 (by decide) (Nat.zero_le _) (Nat.zero_le _) rfl rfl (by decide) e1 rfl ?_
  rintro x1 hpy ⟨r, fn, f, rfl, e2, h3, h4, hJ⟩
  iterate 2 refine x_step rfl ?_
  refine x_callvE (a := 103) (as := []) (rest := []) rfl h3 rfl rfl e2 ?_
  refine x_step rfl ?_
  refine x_icmp_eq rfl (fun _ => ?_) (fun q => absurd rfl q)
  refine x_step rfl ?_
  refine x_if_ne rfl (fun q => ?_) (fun q => ?_)
  · refine x_step rfl ?_
    exact kk _ _ _ hJ
  · obtain ⟨e3, e4⟩ := h4 q
    iterate 2 refine x_step rfl ?_
    refine x_lald rfl e3 rfl (by unfold vp_in; decide) e4 ?_
    iterate 3 refine x_step rfl ?_
    refine x_if_eq rfl (fun _ => ?_) (fun q2 => absurd (xl_cmp _) q2)
    refine x_step rfl ?_
    exact kk _ _ _ hJ
/-- one call of the law: number n, the two numbers behind it -/
def XCall (l : Launch) (n : Nat) (a b : Int32) (hp : xm_H) (J : xm_H → Prop) : Prop := match n with
  | 0 => XA l 241 172 [.int a] hp J
  | 1 => XA l 242 229 [.int a] hp J
  | 2 => XB l 243 231 [.int (if a = 0 then 0 else 1)] hp J
  | 3 => XB l 244 232 [.int a] hp J
  | 4 => XD l 13 233 hp J
  | 5 => XD l 43 234 hp J
  | 6 => XA l 245 235 [.int a] hp J
  | 7 => XA l 246 236 [.int a] hp J
  | 8 => XA l 247 237 [.int a] hp J
  | 9 => XA l 248 238 [.int a] hp J
  | 10 => XA l 249 239 [.int a] hp J
  | 11 => XA l 250 240 [.int a, .int b] hp J
  | _ => J hp
theorem xl_le {L n : Nat} (hL : L < 2 ^ 30) (hn : 3 * n < 2 ^ 30) (h : ¬ Int32.ofNat L - 3 < nI (3 * n)) : 3 * n + 3 ≤ L := by
  rcases Nat.lt_or_ge L 3 with h3 | h3
  · exfalso
    apply h
    have e2 : (nI (3 * n)).toInt = ((3 * n : Nat) : Int) := nI_toInt (by omega)
    have e3 : (Int32.ofNat L - 3).toInt < 0 := by
      match L, h3 with
      | 0, _ => decide
      | 1, _ => decide
      | 2, _ => decide
      | m + 3, hm => exact absurd hm (by omega)
    rw [Int32.lt_iff_toInt_lt, e2]
    omega
  · have e1 : Int32.ofNat L - 3 = nI (L - 3) := by
      have h5 : nI (L - 3) + nI 3 = nI L := by rw [nI_add, Nat.sub_add_cancel h3]
      show nI L - nI 3 = nI (L - 3)
      rw [← h5, Int32.add_sub_cancel]
    rw [e1] at h
    rcases Nat.lt_or_ge (L - 3) (3 * n) with q | q
    · exact absurd (nI_lt q (by omega)) h
    · omega
/-- what a call must give -/
def XStep (l : Launch) (L : Nat) (xs : Nat → Int32) (Inv : Nat → xm_H → Prop) : Prop := ∀ (n : Nat) (hp : xm_H) (j : Nat), 3 * n + 3 ≤ L → j < 16 → Inv n hp → XCall l j (xs (nI (3 * n) + 1).toNatClampNeg) (xs (nI (3 * n) + 2).toNatClampNeg) hp (Inv (n + 1))
set_option maxRecDepth 100000 in
theorem xl_loop {Inv : Nat → xm_H → Prop} (hL : L < 2 ^ 29) (hI : ∀ n hp, Inv n hp → hp[0]? = some (xI 0 L xs)) (hst : XStep l L xs Inv) : ∀ (k n rc rs : Nat) (o5 o6 : Option Value) (hp : xm_H), L < 3 * (n + k) + 3 → 3 * n ≤ L → k ≤ rc → 6 * k ≤ rs → Inv n hp → XG l xm_any 251 1000 rc rs 23 (xlp (nI (3 * n)) o5 o6) [] hp (xm_ret (fun v _ => v = some (.int 1))) := by
  intro k
  induction k with
  | zero =>
    intro n rc rs o5 o6 hp hk hn hrc hrs hi
    have hs := hI n hp hi
    iterate 2 refine x_step rfl ?_
    refine x_alen rfl hs (Or.inl ⟨_, _, rfl⟩) rfl ?_
    iterate 2 refine x_step rfl ?_
    refine x_icmp_gt rfl (fun _ => ?_) (fun q => absurd (xl_le (by omega) (by omega) q) (by omega))
    refine x_step rfl ?_
    exact x_iret rfl rfl rfl rfl
  | succ k ih =>
    intro n rc rs o5 o6 hp hk hn hrc hrs hi
    have hs := hI n hp hi
    iterate 2 refine x_step rfl ?_
    refine x_alen rfl hs (Or.inl ⟨_, _, rfl⟩) rfl ?_
    iterate 2 refine x_step rfl ?_
    refine x_icmp_gt rfl (fun _ => ?_) (fun q => ?_)
    · refine x_step rfl ?_
      exact x_iret rfl rfl rfl rfl
    have hn3 : 3 * n + 3 ≤ L := xl_le (by omega) (by omega) q
    have hin0 : vp_in (nI (3 * n)) L := vp_in_nI (by omega) (by omega)
    have hin : vp_in (nI (3 * n) + 1) L := by
      rw [← nI_succ]
      exact vp_in_nI (by omega) (by omega)
    have hin2 : vp_in (nI (3 * n) + 2) L := by
      show vp_in (nI (3 * n) + nI 2) L
      rw [nI_add]
      exact vp_in_nI (by omega) (by omega)
    iterate 2 refine x_step rfl ?_
    refine x_iald rfl hs rfl hin0 ?_
    iterate 2 refine x_step rfl ?_
    obtain ⟨j, hj, ej⟩ := pk_andE (xs (nI (3 * n)).toNatClampNeg) (m := 15) 4 (by decide)
    have hj16 : j < 16 := hj
    have hc := hst n hp j hn3 hj16 hi
    have nxt : ∀ (hp' : xm_H) (rc rs : Nat) (o5 o6 : Option Value), Inv (n + 1) hp' → k ≤ rc → 6 * k ≤ rs → XG l xm_any 251 1000 rc rs 674 (xlp (nI (3 * n)) o5 o6) [] hp' (xm_ret (fun v _ => v = some (.int 1))) := by
      intro hp' rc rs o5 o6 hi' h1 h2
      iterate 2 refine x_step rfl ?_
      refine xm_ls (pl' := xlp (nI (3 * (n + 1))) o5 o6) ?_ (ih (n + 1) rc rs o5 o6 hp' (by omega) (by omega) h1 h2 hi')
      have e9 : nI (3 * n) + 3 = nI (3 * (n + 1)) := by
        show nI (3 * n) + nI 3 = _
        rw [nI_add]
        rfl
      rw [← e9]
      rfl
    show XG l xm_any 251 1000 rc rs 39 (xlp (nI (3 * n)) o5 o6) [.int (xs (nI (3 * n)).toNatClampNeg &&& 15)] hp _
    rw [ej]
    have hrc1 : 1 ≤ rc := by omega
    have hrs6 : 6 ≤ rs := by omega
    clear ej hj
    match j, hj16, hc with
    | 0, _, hc =>
      refine x_tswIn rfl (by decide) (by decide) rfl (t := 100) (by decide) ?_
      exact xl0 hs hin hrc1 hrs6 hc (fun hp2 o5 o6 hJ => nxt hp2 _ _ o5 o6 hJ (by omega) (by omega))
    | 1, _, hc =>
      refine x_tswIn rfl (by decide) (by decide) rfl (t := 156) (by decide) ?_
      exact xl1 hs hin hrc1 hrs6 hc (fun hp2 o5 o6 hJ => nxt hp2 _ _ o5 o6 hJ (by omega) (by omega))
    | 2, _, hc =>
      refine x_tswIn rfl (by decide) (by decide) rfl (t := 212) (by decide) ?_
      exact xl2 hs hin hrc1 hrs6 hc (fun hp2 o5 o6 hJ => nxt hp2 _ _ o5 o6 hJ (by omega) (by omega))
    | 3, _, hc =>
      refine x_tswIn rfl (by decide) (by decide) rfl (t := 264) (by decide) ?_
      exact xl3 hs hin hrc1 hrs6 hc (fun hp2 o5 o6 hJ => nxt hp2 _ _ o5 o6 hJ (by omega) (by omega))
    | 4, _, hc =>
      refine x_tswIn rfl (by decide) (by decide) rfl (t := 300) (by decide) ?_
      exact xl4 hrc1 hrs6 hc (fun hp2 o5 o6 hJ => nxt hp2 _ _ o5 o6 hJ (by omega) (by omega))
    | 5, _, hc =>
      refine x_tswIn rfl (by decide) (by decide) rfl (t := 313) (by decide) ?_
      exact xl5 hrc1 hrs6 hc (fun hp2 o5 o6 hJ => nxt hp2 _ _ o5 o6 hJ (by omega) (by omega))
    | 6, _, hc =>
      refine x_tswIn rfl (by decide) (by decide) rfl (t := 326) (by decide) ?_
      exact xl6 hs hin hrc1 hrs6 hc (fun hp2 o5 o6 hJ => nxt hp2 _ _ o5 o6 hJ (by omega) (by omega))
    | 7, _, hc =>
      refine x_tswIn rfl (by decide) (by decide) rfl (t := 382) (by decide) ?_
      exact xl7 hs hin hrc1 hrs6 hc (fun hp2 o5 o6 hJ => nxt hp2 _ _ o5 o6 hJ (by omega) (by omega))
    | 8, _, hc =>
      refine x_tswIn rfl (by decide) (by decide) rfl (t := 438) (by decide) ?_
      exact xl8 hs hin hrc1 hrs6 hc (fun hp2 o5 o6 hJ => nxt hp2 _ _ o5 o6 hJ (by omega) (by omega))
    | 9, _, hc =>
      refine x_tswIn rfl (by decide) (by decide) rfl (t := 494) (by decide) ?_
      exact xl9 hs hin hrc1 hrs6 hc (fun hp2 o5 o6 hJ => nxt hp2 _ _ o5 o6 hJ (by omega) (by omega))
    | 10, _, hc =>
      refine x_tswIn rfl (by decide) (by decide) rfl (t := 550) (by decide) ?_
      exact xl10 hs hin hrc1 hrs6 hc (fun hp2 o5 o6 hJ => nxt hp2 _ _ o5 o6 hJ (by omega) (by omega))
    | 11, _, hc =>
      refine x_tswIn rfl (by decide) (by decide) rfl (t := 606) (by decide) ?_
      exact xl11 hs hin hin2 hrc1 hrs6 hc (fun hp2 o5 o6 hJ => nxt hp2 _ _ o5 o6 hJ (by omega) (by omega))
    | 12, _, hc =>
      refine x_tswOut rfl (Or.inr (by decide)) (t := 674) (by decide) ?_
      exact nxt hp _ _ o5 o6 hc (by omega) (by omega)
    | 13, _, hc =>
      refine x_tswOut rfl (Or.inr (by decide)) (t := 674) (by decide) ?_
      exact nxt hp _ _ o5 o6 hc (by omega) (by omega)
    | 14, _, hc =>
      refine x_tswOut rfl (Or.inr (by decide)) (t := 674) (by decide) ?_
      exact nxt hp _ _ o5 o6 hc (by omega) (by omega)
    | 15, _, hc =>
      refine x_tswOut rfl (Or.inr (by decide)) (t := 674) (by decide) ?_
      exact nxt hp _ _ o5 o6 hc (by omega) (by omega)
    | j + 16, h, _ => exact absurd h (by omega)
/-- the world when the loop begins -/
def xw0 (L : Nat) (xs : Nat → Int32) : xm_H := hz L xs ++ [xO 0 [.ref 33, .ref 35, .ref 55, .ref 66, .ref 69, .ref 97], xO 1 [.ref 34, .int 0], xI 0 501 (fun _ => 0), xO 2 [.ref 36, .ref 37, .int 0, .int 0, .int 0, .int 0], xV 3 8 (updV (updV (updV (updV (updV (updV (updV (updV (fun _ => .null) 0 (.ref 39)) 1 (.ref 41)) 2 (.ref 43)) 3 (.ref 45)) 4 (.ref 47)) 5 (.ref 49)) 6 (.ref 51)) 7 (.ref 53)), xO 3 [.ref 38, .int 0], xI 0 120 (fun _ => 0), xO 4 [.ref 40, .int 0, .int 0], xI 0 130 (fun _ => 0), xO 4 [.ref 42, .int 0, .int 0], xI 0 130 (fun _ => 0), xO 4 [.ref 44, .int 0, .int 0], xI 0 130 (fun _ => 0), xO 4 [.ref 46, .int 0, .int 0], xI 0 130 (fun _ => 0), xO 4 [.ref 48, .int 0, .int 0], xI 0 130 (fun _ => 0), xO 4 [.ref 50, .int 0, .int 0], xI 0 130 (fun _ => 0), xO 4 [.ref 52, .int 0, .int 0], xI 0 130 (fun _ => 0), xO 4 [.ref 54, .int 0, .int 0], xI 0 130 (fun _ => 0), xO 5 [.ref 56, .ref 65, .int 0], xV 4 8 (fun j => .ref (56 + 1 + j)), xI 0 10 (fun _ => 0), xI 0 10 (fun _ => 0), xI 0 10 (fun _ => 0), xI 0 10 (fun _ => 0), xI 0 10 (fun _ => 0), xI 0 10 (fun _ => 0), xI 0 10 (fun _ => 0), xI 0 10 (fun _ => 0), xI 0 8 (fun _ => 0), xO 6 [.ref 33, .ref 35, .ref 55, .ref 67, .int 0, .int 0, .int 0, .int 0, .int 0], xO 4 [.ref 68, .int 0, .int 0], xI 0 130 (fun _ => 0), xO 7 [.ref 35, .ref 70, .ref 80, .int 0, .int 0, .int 3, .int 0], xO 8 [.ref 71, .ref 72, .ref 73], xI 0 6 (upd (upd (upd (upd (upd (upd (fun _ => 0) 0 41) 1 41) 2 41) 3 41) 4 41) 5 41), xI 0 6 (upd (upd (upd (upd (upd (upd (fun _ => 0) 0 1) 1 1) 2 1) 3 1) 4 1) 5 1), xV 4 6 (fun j => .ref (73 + 1 + j)), xI 0 8 (fun _ => 0), xI 0 8 (fun _ => 0), xI 0 8 (fun _ => 0), xI 0 8 (fun _ => 0), xI 0 8 (fun _ => 0), xI 0 8 (fun _ => 0), xO 9 [.ref 81, .ref 82, .ref 88, .ref 89, .ref 96], xI 0 5 (fun _ => 0), xV 4 5 (fun j => .ref (82 + 1 + j)), xI 0 3 (fun _ => 0), xI 0 3 (fun _ => 0), xI 0 3 (fun _ => 0), xI 0 3 (fun _ => 0), xI 0 3 (fun _ => 0), xI 0 6 (fun _ => 0), xV 4 6 (fun j => .ref (89 + 1 + j)), xI 0 2 (fun _ => 0), xI 0 2 (fun _ => 0), xI 0 2 (fun _ => 0), xI 0 2 (fun _ => 0), xI 0 2 (fun _ => 0), xI 0 2 (fun _ => 0), xI 2 6 (fun _ => 0), xO 10 [.ref 67, .ref 69, .ref 35, .ref 55, .ref 98], xO 11 [.ref 99, .ref 100, .ref 101, .ref 102, .ref 67, .int 0], xI 0 60 (fun _ => 0), xI 0 60 (fun _ => 0), xI 0 60 (fun _ => 0), xI 0 60 (fun _ => 0), xO 12 [.int 0, .int 0, .int 0, .int 0, .ref 104, .int 0, .ref 105, .int 0, .ref 106, .ref 107, .ref 108, .int 0, .int 0, .int 0, .ref 109, .ref 110, .int 0, .ref 111, .int 0, .int 0, .int 0, .int 3, .int 0, .int 0, .ref 112, .ref 113, .ref 114, .ref 115, .ref 116, .ref 117, .ref 118, .ref 119, .int 0, .ref 120], xI 0 140 (fun _ => 0), xI 0 512 (fun _ => 0), xI 0 1040 (fun _ => 0), xI 0 8 (fun _ => 0), xI 0 8 (fun _ => 0), xI 0 80 (fun _ => 0), xI 0 8 (fun _ => 0), xI 0 500 (fun _ => 0), xI 0 6 (upd (upd (upd (upd (upd (upd (fun _ => 0) 0 41) 1 41) 2 41) 3 41) 4 41) 5 41), xI 0 6 (upd (upd (upd (upd (upd (upd (fun _ => 0) 0 1) 1 1) 2 1) 3 1) 4 1) 5 1), xI 0 48 (fun _ => 0), xI 0 5 (fun _ => 0), xI 0 15 (fun _ => 0), xI 0 6 (fun _ => 0), xI 0 12 (fun _ => 0), xI 2 6 (fun _ => 0), xI 0 8 (fun _ => 0), xV 1 1 (fun _ => .long 0)]
set_option maxRecDepth 100000 in
theorem xl_start (h : XG l xm_any 251 1000 599912 7297452 23 (xlp 0 none none) [] (xw0 L xs) Q) : XG l xm_any 251 1000 600002 7302232 0 [some (.ref 0), none, none, none, none, none, none] [] (hz L xs) Q := by
  refine x_new (a := 32) rfl rfl rfl rfl (by omega) (by omega) ?_
  refine x_step rfl ?_
  refine xm_hs (hp' := hz L xs ++ [xO 0 [.null, .null, .null, .null, .null, .null]]) rfl ?_
  refine x_calliE rfl ct20 rfl rfl ?_
  refine x_step rfl ?_
  refine x_new (a := 103) rfl rfl rfl rfl (by omega) (by omega) ?_
  refine x_step rfl ?_
  refine xm_hs (hp' := hz L xs ++ [xO 0 [.ref 33, .ref 35, .ref 55, .ref 66, .ref 69, .ref 97], xO 1 [.ref 34, .int 0], xI 0 501 (fun _ => 0), xO 2 [.ref 36, .ref 37, .int 0, .int 0, .int 0, .int 0], xV 3 8 (updV (updV (updV (updV (updV (updV (updV (updV (fun _ => .null) 0 (.ref 39)) 1 (.ref 41)) 2 (.ref 43)) 3 (.ref 45)) 4 (.ref 47)) 5 (.ref 49)) 6 (.ref 51)) 7 (.ref 53)), xO 3 [.ref 38, .int 0], xI 0 120 (fun _ => 0), xO 4 [.ref 40, .int 0, .int 0], xI 0 130 (fun _ => 0), xO 4 [.ref 42, .int 0, .int 0], xI 0 130 (fun _ => 0), xO 4 [.ref 44, .int 0, .int 0], xI 0 130 (fun _ => 0), xO 4 [.ref 46, .int 0, .int 0], xI 0 130 (fun _ => 0), xO 4 [.ref 48, .int 0, .int 0], xI 0 130 (fun _ => 0), xO 4 [.ref 50, .int 0, .int 0], xI 0 130 (fun _ => 0), xO 4 [.ref 52, .int 0, .int 0], xI 0 130 (fun _ => 0), xO 4 [.ref 54, .int 0, .int 0], xI 0 130 (fun _ => 0), xO 5 [.ref 56, .ref 65, .int 0], xV 4 8 (fun j => .ref (56 + 1 + j)), xI 0 10 (fun _ => 0), xI 0 10 (fun _ => 0), xI 0 10 (fun _ => 0), xI 0 10 (fun _ => 0), xI 0 10 (fun _ => 0), xI 0 10 (fun _ => 0), xI 0 10 (fun _ => 0), xI 0 10 (fun _ => 0), xI 0 8 (fun _ => 0), xO 6 [.ref 33, .ref 35, .ref 55, .ref 67, .int 0, .int 0, .int 0, .int 0, .int 0], xO 4 [.ref 68, .int 0, .int 0], xI 0 130 (fun _ => 0), xO 7 [.ref 35, .ref 70, .ref 80, .int 0, .int 0, .int 3, .int 0], xO 8 [.ref 71, .ref 72, .ref 73], xI 0 6 (upd (upd (upd (upd (upd (upd (fun _ => 0) 0 41) 1 41) 2 41) 3 41) 4 41) 5 41), xI 0 6 (upd (upd (upd (upd (upd (upd (fun _ => 0) 0 1) 1 1) 2 1) 3 1) 4 1) 5 1), xV 4 6 (fun j => .ref (73 + 1 + j)), xI 0 8 (fun _ => 0), xI 0 8 (fun _ => 0), xI 0 8 (fun _ => 0), xI 0 8 (fun _ => 0), xI 0 8 (fun _ => 0), xI 0 8 (fun _ => 0), xO 9 [.ref 81, .ref 82, .ref 88, .ref 89, .ref 96], xI 0 5 (fun _ => 0), xV 4 5 (fun j => .ref (82 + 1 + j)), xI 0 3 (fun _ => 0), xI 0 3 (fun _ => 0), xI 0 3 (fun _ => 0), xI 0 3 (fun _ => 0), xI 0 3 (fun _ => 0), xI 0 6 (fun _ => 0), xV 4 6 (fun j => .ref (89 + 1 + j)), xI 0 2 (fun _ => 0), xI 0 2 (fun _ => 0), xI 0 2 (fun _ => 0), xI 0 2 (fun _ => 0), xI 0 2 (fun _ => 0), xI 0 2 (fun _ => 0), xI 2 6 (fun _ => 0), xO 10 [.ref 67, .ref 69, .ref 35, .ref 55, .ref 98], xO 11 [.ref 99, .ref 100, .ref 101, .ref 102, .ref 67, .int 0], xI 0 60 (fun _ => 0), xI 0 60 (fun _ => 0), xI 0 60 (fun _ => 0), xI 0 60 (fun _ => 0), xO 12 [.int 0, .int 0, .int 0, .int 0, .null, .int 0, .null, .int 0, .null, .null, .null, .int 0, .int 0, .int 0, .null, .null, .int 0, .null, .int 0, .int 0, .int 0, .int 0, .int 0, .int 0, .null, .null, .null, .null, .null, .null, .null, .null, .int 0, .null]]) rfl ?_
  refine x_calliE rfl ct21 rfl rfl ?_
  iterate 2 refine x_step rfl ?_
  refine x_newaL (a := 121) (N := 1) rfl rfl (by decide) rfl (by decide) rfl (by omega) (by omega) ?_
  iterate 3 refine x_step rfl ?_
  refine xm_hs (hp' := xw0 L xs) rfl ?_
  exact h
/-- the law, out of a relation of the two that every call keeps -/
theorem xl_law {Inv : Nat → xm_H → Prop} (hL : L ≤ 300000) (h0 : Inv 0 (xw0 L xs)) (hI : ∀ n hp, Inv n hp → hp[0]? = some (xI 0 L xs)) (hst : XStep l L xs Inv) : XLaw l L xs :=
  xl_start (xl_loop (by omega) hI hst (L / 3) 0 _ _ none none _ (by omega) (by omega) (by omega) (by omega) h0)
end XLW
