section EM
variable {l : Launch} {d : Nat} {hp : xm_H} {a b : Nat} {n x : Int32} {f : Nat → Int32}
theorem xm_lt {α : Type} {hp : List α} {a : Nat} {e : α} (h : hp[a]? = some e) : a < hp.length := (List.getElem?_eq_some_iff.mp h).1
theorem xm_same {α : Type} {hp : List α} {a : Nat} {e : α} (y : α) (h : hp[a]? = some e) : (hp.set a y)[a]? = some y := by
  rw [List.getElem?_set]
  simp [xm_lt h]
theorem xm_oth {α : Type} {hp : List α} {a b : Nat} {e : α} (y : α) (h : hp[b]? = some e) (hab : a ≠ b) : (hp.set a y)[b]? = some e := by rw [List.getElem?_set_ne hab]; exact h
theorem x_ldc {k rc rs pc nx r1 r2 : Nat} {pl : List (Option Value)} {st : List Value} {P : xm_P} {Q : xm_Q} {v : Int32} {idx : Nat} (hf : xm_code k pc = some (.ldc idx, nx, r1, r2, v)) (h9 : ¬ 900 ≤ r2) (kk : XG l P k d rc rs nx pl (.int v :: st) hp Q) : XG l P k d rc rs pc pl st hp Q := by
  intro G p e R s m args below meth c H locs cells slots ls hCP hR hL
  have hC := hCP.1
  obtain ⟨hd, hn, ho⟩ := xm_dec hC hf
  have K := kk G p e R s m args below meth c H locs cells slots ls hCP hR hL
  rw [hn] at K
  have hlk : xm_lk (xm_pn k) idx = some (.constant (xm_nm k).cls idx v) := by simpa [xm_okI, h9] using ho
  exact lv_ldc hC.2.1 hC.2.2.1 hC.2.2.2.2.1 (hC.2.2.2.2.2.2.2.2.1.2.1.at (xm_lk_mem hlk) args rfl) hd K
/-- Message.begin -/
theorem m34 (y : Int32) (ha : xm_c0 ≤ a) (h1 : hp[a]? = some (xO 4 [.ref b, .int n, .int x])) : XM l 34 d 0 0 [.ref a, .int y] hp (xm_is none (hp.set a (xO 4 [.ref b, .int y, .int 0]))) := by
  refine XE (pl := [some (.ref a), some (.int y)]) xg34 rfl ?_
  iterate 2 refine x_step rfl ?_
  refine x_putf rfl h1 (Nat.le_of_ble_eq_true rfl) ha rfl rfl ?_
  iterate 2 refine x_step rfl ?_
  refine x_putf rfl (xm_same _ h1) (Nat.le_of_ble_eq_true rfl) ha rfl rfl ?_
  exact x_ret rfl rfl ⟨rfl, List.set_set ..⟩
/-- Message.bytes -/
theorem m36 (h1 : hp[a]? = some (xO 4 [.ref b, .int n, .int x])) : XM l 36 d 0 0 [.ref a] hp (xm_is (some (.ref b)) hp) := by
  refine XE (pl := [some (.ref a)]) xg36 rfl ?_
  refine x_step rfl ?_
  refine x_getf rfl h1 rfl ?_
  exact x_aret rfl rfl rfl ⟨rfl, rfl⟩
/-- Message.isLength -/
theorem m49 (y : Int32) : XM l 49 d 0 0 [.int y] hp (xm_is (some (.int (if y < 10 then 0 else if 130 < y then 0 else 1))) hp) := by
  refine XE (pl := [some (.int y)]) xg49 rfl ?_
  iterate 2 refine x_step rfl ?_
  refine x_icmp_lt rfl (fun q1 => ?_) (fun q1 => ?_)
  · refine x_step rfl ?_
    exact x_iret rfl rfl rfl ⟨by simp [q1], rfl⟩
  · iterate 2 refine x_step rfl ?_
    refine x_icmp_gt rfl (fun q2 => ?_) (fun q2 => ?_)
    · refine x_step rfl ?_
      exact x_iret rfl rfl rfl ⟨by simp [q1, q2], rfl⟩
    · iterate 2 refine x_step rfl ?_
      exact x_iret rfl rfl rfl ⟨by simp [q1, q2], rfl⟩
/-- Message.length -/
theorem m51 (h1 : hp[a]? = some (xO 4 [.ref b, .int n, .int x])) : XM l 51 d 0 0 [.ref a] hp (xm_is (some (.int n)) hp) := by
  refine XE (pl := [some (.ref a)]) xg51 rfl ?_
  refine x_step rfl ?_
  refine x_getf rfl h1 rfl ?_
  exact x_iret rfl rfl rfl ⟨rfl, rfl⟩
def xmset (f : Nat → Int32) (i y : Int32) : Nat → Int32 := if i < 0 then f else if 130 ≤ i then f else upd f i.toNatClampNeg y
theorem xm_set_id {hp : xm_H} {a : Nat} {e : Option xm_E} (h : hp[a]? = some e) : hp.set a e = hp := by
  apply List.ext_getElem?
  intro i
  by_cases hi : i = a
  · subst hi
    rw [xm_same e h, h]
  · rw [List.getElem?_set_ne (Ne.symm hi)]
/-- Message.set -/
theorem m52 (i y : Int32) (hb : xm_c0 ≤ b) (h1 : hp[a]? = some (xO 4 [.ref b, .int n, .int x])) (h2 : hp[b]? = some (xI 0 130 f)) : XM l 52 d 0 0 [.ref a, .int i, .int y] hp (xm_is none (hp.set b (xI 0 130 (xmset f i y)))) := by
  refine XE (pl := [some (.ref a), some (.int i), some (.int y)]) xg52 rfl ?_
  refine x_step rfl ?_
  refine x_if_lt rfl (fun q1 => ?_) (fun q1 => ?_)
  · exact x_ret rfl rfl ⟨rfl, by rw [xmset, if_pos q1, xm_set_id h2]⟩
  · iterate 2 refine x_step rfl ?_
    refine x_icmp_ge rfl (fun q2 => ?_) (fun q2 => ?_)
    · exact x_ret rfl rfl ⟨rfl, by rw [xmset, if_neg q1, if_pos q2, xm_set_id h2]⟩
    · refine x_step rfl ?_
      refine x_getf rfl h1 rfl ?_
      iterate 2 refine x_step rfl ?_
      refine x_iast rfl h2 hb rfl (xm_in (Int32.not_lt.mp q1) (Int32.not_le.mp q2) rfl) ?_
      exact x_ret rfl rfl ⟨rfl, by rw [xmset, if_neg q1, if_neg q2]⟩
def xhead (f : Nat → Int32) (s0 fn sy : Int32) : Nat → Int32 := upd (upd (upd (upd (upd (upd (upd (upd (upd (upd f 0 128) 1 1) 2 s0) 3 fn) 4 128) 5 1) 6 (sy.toUInt32 >>> ((24 : Int32).toUInt32 &&& Int32.toUInt32 31)).toInt32) 7 ((sy.toUInt32 >>> ((16 : Int32).toUInt32 &&& Int32.toUInt32 31)).toInt32 &&& 255)) 8 ((sy.toUInt32 >>> ((8 : Int32).toUInt32 &&& Int32.toUInt32 31)).toInt32 &&& 255)) 9 (sy &&& 255)
/-- Message.writeHeader -/
theorem m35 (s0 fn sy : Int32) (hb : xm_c0 ≤ b) (hab : b ≠ a) (h1 : hp[a]? = some (xO 4 [.ref b, .int n, .int x])) (h2 : hp[b]? = some (xI 0 130 f)) : XM l 35 d 0 0 [.ref a, .int s0, .int fn, .int sy] hp (xm_is none (hp.set b (xI 0 130 (xhead f s0 fn sy)))) := by
  refine XE (pl := [some (.ref a), some (.int s0), some (.int fn), some (.int sy)]) xg35 rfl ?_
  refine x_step rfl ?_
  refine x_getf rfl h1 rfl ?_
  iterate 2 refine x_step rfl ?_
  refine x_iast rfl h2 hb rfl (by unfold vp_in; decide) ?_
  refine x_step rfl ?_
  refine x_getf rfl (xm_oth _ h1 hab) rfl ?_
  iterate 2 refine x_step rfl ?_
  refine x_iast rfl (xm_same _ h2) hb rfl (by unfold vp_in; decide) ?_
  rw [List.set_set]
  refine x_step rfl ?_
  refine x_getf rfl (xm_oth _ h1 hab) rfl ?_
  iterate 2 refine x_step rfl ?_
  refine x_iast rfl (xm_same _ h2) hb rfl (by unfold vp_in; decide) ?_
  rw [List.set_set]
  refine x_step rfl ?_
  refine x_getf rfl (xm_oth _ h1 hab) rfl ?_
  iterate 2 refine x_step rfl ?_
  refine x_iast rfl (xm_same _ h2) hb rfl (by unfold vp_in; decide) ?_
  rw [List.set_set]
  refine x_step rfl ?_
  refine x_getf rfl (xm_oth _ h1 hab) rfl ?_
  iterate 2 refine x_step rfl ?_
  refine x_iast rfl (xm_same _ h2) hb rfl (by unfold vp_in; decide) ?_
  rw [List.set_set]
  refine x_step rfl ?_
  refine x_getf rfl (xm_oth _ h1 hab) rfl ?_
  iterate 2 refine x_step rfl ?_
  refine x_iast rfl (xm_same _ h2) hb rfl (by unfold vp_in; decide) ?_
  rw [List.set_set]
  refine x_step rfl ?_
  refine x_getf rfl (xm_oth _ h1 hab) rfl ?_
  iterate 4 refine x_step rfl ?_
  refine x_iast rfl (xm_same _ h2) hb rfl (by unfold vp_in; decide) ?_
  rw [List.set_set]
  refine x_step rfl ?_
  refine x_getf rfl (xm_oth _ h1 hab) rfl ?_
  iterate 6 refine x_step rfl ?_
  refine x_iast rfl (xm_same _ h2) hb rfl (by unfold vp_in; decide) ?_
  rw [List.set_set]
  refine x_step rfl ?_
  refine x_getf rfl (xm_oth _ h1 hab) rfl ?_
  iterate 6 refine x_step rfl ?_
  refine x_iast rfl (xm_same _ h2) hb rfl (by unfold vp_in; decide) ?_
  rw [List.set_set]
  refine x_step rfl ?_
  refine x_getf rfl (xm_oth _ h1 hab) rfl ?_
  iterate 4 refine x_step rfl ?_
  refine x_iast rfl (xm_same _ h2) hb rfl (by unfold vp_in; decide) ?_
  rw [List.set_set]
  refine x_ret rfl rfl ⟨rfl, ?_⟩
  rfl
/-- Message.countFailure -/
theorem m59 (ha : xm_c0 ≤ a) (h1 : hp[a]? = some (xO 4 [.ref b, .int n, .int x])) : XM l 59 d 0 0 [.ref a] hp (xm_is (some (.int (x + 1))) (hp.set a (xO 4 [.ref b, .int n, .int (x + 1)]))) := by
  refine XE (pl := [some (.ref a)]) xg59 rfl ?_
  iterate 2 refine x_step rfl ?_
  refine x_getf rfl h1 rfl ?_
  iterate 2 refine x_step rfl ?_
  refine x_putf rfl h1 (Nat.le_of_ble_eq_true rfl) ha rfl rfl ?_
  refine x_step rfl ?_
  refine x_getf rfl (xm_same _ h1) rfl ?_
  exact x_iret rfl rfl rfl ⟨rfl, rfl⟩
/-- Message.wantsReply -/
theorem m61 (h1 : hp[a]? = some (xO 4 [.ref b, .int n, .int x])) (h2 : hp[b]? = some (xI 0 130 f)) : XM l 61 d 0 0 [.ref a] hp (xm_is (some (.int (if f 2 &&& 128 = 0 then 0 else 1))) hp) := by
  refine XE (pl := [some (.ref a)]) xg61 rfl ?_
  refine x_step rfl ?_
  refine x_getf rfl h1 rfl ?_
  refine x_step rfl ?_
  refine x_iald rfl h2 rfl (by unfold vp_in; decide) ?_
  iterate 2 refine x_step rfl ?_
  refine x_if_eq rfl (fun q1 => ?_) (fun q1 => ?_)
  · refine x_step rfl ?_
    exact x_iret rfl rfl rfl ⟨xm_yes q1, rfl⟩
  · iterate 2 refine x_step rfl ?_
    exact x_iret rfl rfl rfl ⟨xm_no q1, rfl⟩
/-- Message.isFromMachine -/
theorem m66 (h1 : hp[a]? = some (xO 4 [.ref b, .int n, .int x])) (h2 : hp[b]? = some (xI 0 130 f)) : XM l 66 d 0 0 [.ref a] hp (xm_is (some (.int (if f 0 &&& 128 = 0 then 0 else 1))) hp) := by
  refine XE (pl := [some (.ref a)]) xg66 rfl ?_
  refine x_step rfl ?_
  refine x_getf rfl h1 rfl ?_
  refine x_step rfl ?_
  refine x_iald rfl h2 rfl (by unfold vp_in; decide) ?_
  iterate 2 refine x_step rfl ?_
  refine x_if_eq rfl (fun q1 => ?_) (fun q1 => ?_)
  · refine x_step rfl ?_
    exact x_iret rfl rfl rfl ⟨xm_yes q1, rfl⟩
  · iterate 2 refine x_step rfl ?_
    exact x_iret rfl rfl rfl ⟨xm_no q1, rfl⟩
/-- Message.isForDeviceOne -/
theorem m67 (h1 : hp[a]? = some (xO 4 [.ref b, .int n, .int x])) (h2 : hp[b]? = some (xI 0 130 f)) : XM l 67 d 0 0 [.ref a] hp (xm_is (some (.int (if f 0 = 0 ∧ f 1 = 1 then 1 else 0))) hp) := by
  refine XE (pl := [some (.ref a)]) xg67 rfl ?_
  refine x_step rfl ?_
  refine x_getf rfl h1 rfl ?_
  refine x_step rfl ?_
  refine x_iald rfl h2 rfl (by unfold vp_in; decide) ?_
  refine x_if_ne rfl (fun q1 => ?_) (fun q1 => ?_)
  · refine x_step rfl ?_
    exact x_iret rfl rfl rfl ⟨by rw [if_neg (fun h => q1 h.1)], rfl⟩
  · refine x_step rfl ?_
    refine x_getf rfl h1 rfl ?_
    refine x_step rfl ?_
    refine x_iald rfl h2 rfl (by unfold vp_in; decide) ?_
    refine x_step rfl ?_
    refine x_icmp_ne rfl (fun q2 => ?_) (fun q2 => ?_)
    · refine x_step rfl ?_
      exact x_iret rfl rfl rfl ⟨by rw [if_neg (fun h => q2 h.2)], rfl⟩
    · iterate 2 refine x_step rfl ?_
      exact x_iret rfl rfl rfl ⟨by rw [if_pos ⟨q1, q2⟩], rfl⟩
/-- Message.isOnlyBlock -/
theorem m71 (h1 : hp[a]? = some (xO 4 [.ref b, .int n, .int x])) (h2 : hp[b]? = some (xI 0 130 f)) : XM l 71 d 0 0 [.ref a] hp (xm_is (some (.int (if f 4 = 128 ∧ f 5 = 1 then 1 else 0))) hp) := by
  refine XE (pl := [some (.ref a)]) xg71 rfl ?_
  refine x_step rfl ?_
  refine x_getf rfl h1 rfl ?_
  refine x_step rfl ?_
  refine x_iald rfl h2 rfl (by unfold vp_in; decide) ?_
  refine x_step rfl ?_
  refine x_icmp_ne rfl (fun q1 => ?_) (fun q1 => ?_)
  · refine x_step rfl ?_
    exact x_iret rfl rfl rfl ⟨by rw [if_neg (fun h => q1 h.1)], rfl⟩
  · refine x_step rfl ?_
    refine x_getf rfl h1 rfl ?_
    refine x_step rfl ?_
    refine x_iald rfl h2 rfl (by unfold vp_in; decide) ?_
    refine x_step rfl ?_
    refine x_icmp_ne rfl (fun q2 => ?_) (fun q2 => ?_)
    · refine x_step rfl ?_
      exact x_iret rfl rfl rfl ⟨by rw [if_neg (fun h => q2 h.2)], rfl⟩
    · iterate 2 refine x_step rfl ?_
      exact x_iret rfl rfl rfl ⟨by rw [if_pos ⟨q1, q2⟩], rfl⟩
/-- Message.function -/
theorem m72 (h1 : hp[a]? = some (xO 4 [.ref b, .int n, .int x])) (h2 : hp[b]? = some (xI 0 130 f)) : XM l 72 d 0 0 [.ref a] hp (xm_is (some (.int (f 3))) hp) := by
  refine XE (pl := [some (.ref a)]) xg72 rfl ?_
  refine x_step rfl ?_
  refine x_getf rfl h1 rfl ?_
  refine x_step rfl ?_
  refine x_iald rfl h2 rfl (by unfold vp_in; decide) ?_
  exact x_iret rfl rfl rfl ⟨rfl, rfl⟩
/-- Message.stream -/
theorem m76 (h1 : hp[a]? = some (xO 4 [.ref b, .int n, .int x])) (h2 : hp[b]? = some (xI 0 130 f)) : XM l 76 d 0 0 [.ref a] hp (xm_is (some (.int (f 2 &&& 127))) hp) := by
  refine XE (pl := [some (.ref a)]) xg76 rfl ?_
  refine x_step rfl ?_
  refine x_getf rfl h1 rfl ?_
  refine x_step rfl ?_
  refine x_iald rfl h2 rfl (by unfold vp_in; decide) ?_
  iterate 2 refine x_step rfl ?_
  exact x_iret rfl rfl rfl ⟨rfl, rfl⟩
/-- Message.system -/
theorem m98 (h1 : hp[a]? = some (xO 4 [.ref b, .int n, .int x])) (h2 : hp[b]? = some (xI 0 130 f)) : XM l 98 d 0 0 [.ref a] hp (xm_is (some (.int (f 6 <<< ((24 : Int32) &&& 31) ||| f 7 <<< ((16 : Int32) &&& 31) ||| f 8 <<< ((8 : Int32) &&& 31) ||| f 9))) hp) := by
  refine XE (pl := [some (.ref a)]) xg98 rfl ?_
  refine x_step rfl ?_
  refine x_getf rfl h1 rfl ?_
  refine x_step rfl ?_
  refine x_iald rfl h2 rfl (by unfold vp_in; decide) ?_
  iterate 3 refine x_step rfl ?_
  refine x_getf rfl h1 rfl ?_
  refine x_step rfl ?_
  refine x_iald rfl h2 rfl (by unfold vp_in; decide) ?_
  iterate 4 refine x_step rfl ?_
  refine x_getf rfl h1 rfl ?_
  refine x_step rfl ?_
  refine x_iald rfl h2 rfl (by unfold vp_in; decide) ?_
  iterate 4 refine x_step rfl ?_
  refine x_getf rfl h1 rfl ?_
  refine x_step rfl ?_
  refine x_iald rfl h2 rfl (by unfold vp_in; decide) ?_
  refine x_step rfl ?_
  exact x_iret rfl rfl rfl ⟨rfl, rfl⟩
/-- the sum's loop: from i with sum s -/
def xsumF (f : Nat → Int32) (n : Int32) : Nat → Int32 → Int32 → Int32
  | 0, _, s => s
  | m + 1, i, s => if n ≤ i then s else if 130 ≤ i then s else xsumF f n m (i + 1) (s + f i.toNatClampNeg)
def xsum (f : Nat → Int32) (n : Int32) : Int32 := xsumF f n 131 0 0 &&& 65535
theorem m53_loop (h1 : hp[a]? = some (xO 4 [.ref b, .int n, .int x])) (h2 : hp[b]? = some (xI 0 130 f)) : ∀ (m : Nat) (i s : Int32), 0 ≤ i → i.toInt + m = 131 → XW l 53 d 0 0 4 [some (.ref a), some (.int s), some (.int i)] [] hp (xm_is (some (.int (xsumF f n m i s &&& 65535))) hp) := by
  intro m
  induction m with
  | zero =>
    intro i s h0 hm
    iterate 2 refine x_step rfl ?_
    refine x_getf rfl h1 rfl ?_
    refine x_icmp_ge rfl (fun q1 => ?_) (fun q1 => ?_)
    · refine x_step rfl ?_
      refine x_ldc rfl (by decide) ?_
      refine x_step rfl ?_
      exact x_iret rfl rfl rfl ⟨rfl, rfl⟩
    · iterate 2 refine x_step rfl ?_
      refine x_icmp_ge rfl (fun q2 => ?_) (fun q2 => ?_)
      · refine x_step rfl ?_
        refine x_ldc rfl (by decide) ?_
        refine x_step rfl ?_
        exact x_iret rfl rfl rfl ⟨rfl, rfl⟩
      · exact absurd ((xm_le 130).mpr (by show (130 : Int) ≤ _; omega)) q2
  | succ m ih =>
    intro i s h0 hm
    iterate 2 refine x_step rfl ?_
    refine x_getf rfl h1 rfl ?_
    refine x_icmp_ge rfl (fun q1 => ?_) (fun q1 => ?_)
    · refine x_step rfl ?_
      refine x_ldc rfl (by decide) ?_
      refine x_step rfl ?_
      exact x_iret rfl rfl rfl ⟨by rw [xsumF, if_pos q1], rfl⟩
    · iterate 2 refine x_step rfl ?_
      refine x_icmp_ge rfl (fun q2 => ?_) (fun q2 => ?_)
      · refine x_step rfl ?_
        refine x_ldc rfl (by decide) ?_
        refine x_step rfl ?_
        exact x_iret rfl rfl rfl ⟨by rw [xsumF, if_neg q1, if_pos q2], rfl⟩
      · iterate 2 refine x_step rfl ?_
        refine x_getf rfl h1 rfl ?_
        refine x_step rfl ?_
        refine x_iald rfl h2 rfl (xm_in h0 (Int32.not_le.mp q2) rfl) ?_
        iterate 4 refine x_step rfl ?_
        rw [xsumF, if_neg q1, if_neg q2]
        have q3 := Int32.lt_iff_toInt_lt.mp (Int32.not_le.mp q2)
        have e1 : (i + 1).toInt = i.toInt + 1 := xm_inc (Int32.not_le.mp q2)
        exact ih (i + 1) (s + f i.toNatClampNeg) (xm_nn.mpr (by rw [e1]; have := xm_nn.mp h0; omega)) (by rw [e1]; omega)
/-- Message.sum -/
theorem m53 (h1 : hp[a]? = some (xO 4 [.ref b, .int n, .int x])) (h2 : hp[b]? = some (xI 0 130 f)) : XM l 53 d 0 0 [.ref a] hp (xm_is (some (.int (xsum f n))) hp) := by
  refine XE (pl := [some (.ref a), none, none]) xg53 rfl ?_
  iterate 4 refine x_step rfl ?_
  exact m53_loop h1 h2 131 0 0 (by decide) (by decide)
end EM
