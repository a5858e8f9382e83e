section XN
variable {l : Launch} {k d rc rs pc nx r1 r2 : Nat} {pl : List (Option Value)} {st : List Value} {hp : xm_H} {Q : xm_Q} {v : Int32} {P : xm_P}
theorem xm_ss {st' : List Value} (h : st = st') (kk : XG l P k d rc rs pc pl st' hp Q) : XG l P k d rc rs pc pl st hp Q := h ▸ kk
theorem x_ialdN {a t n : Nat} {f : Nat → Int32} {i : Int32} (nn : Nat) (hf : xm_code k pc = some (.iaload, nx, r1, r2, v)) (he : hp[a]? = some (xI t n f)) (hi : i = nI nn) (hn : nn < n) (kk : XG l P k d rc rs nx pl (.int (f nn) :: st) hp Q) (ht : xm_ty t = .int := by rfl) (hN : n < 2 ^ 31 := by decide) : XG l P k d rc rs pc pl (.int i :: .ref a :: st) hp Q := by
  subst hi
  refine x_iald hf he ht (vp_in_nI hn hN) ?_
  rw [nI_clamp (by omega)]
  exact kk
theorem x_zaldN {a t n : Nat} {f : Nat → Int32} {i : Int32} (nn : Nat) (hf : xm_code k pc = some (.baload, nx, r1, r2, v)) (he : hp[a]? = some (xI t n f)) (hi : i = nI nn) (hn : nn < n) (kk : XG l P k d rc rs nx pl (.int (f nn) :: st) hp Q) (ht : xm_ty t = .boolean := by rfl) (hN : n < 2 ^ 31 := by decide) : XG l P k d rc rs pc pl (.int i :: .ref a :: st) hp Q := by
  subst hi
  refine x_zald hf he ht (vp_in_nI hn hN) ?_
  rw [nI_clamp (by omega)]
  exact kk
theorem x_aaldN {a t n : Nat} {f : Nat → Value} {i : Int32} (nn : Nat) {x : Value} (hf : xm_code k pc = some (.aaload, nx, r1, r2, v)) (he : hp[a]? = some (xV t n f)) (hi : i = nI nn) (hn : nn < n) (hx : f nn = x) (kk : XG l P k d rc rs nx pl (x :: st) hp Q) (ht : (xm_ty t).isReference = true := by rfl) (hN : n < 2 ^ 31 := by decide) : XG l P k d rc rs pc pl (.int i :: .ref a :: st) hp Q := by
  subst hi
  exact x_aald hf he ht (vp_in_nI hn hN) (by rw [nI_clamp (by omega)]; exact hx) kk
theorem x_iastN {a t n : Nat} {f : Nat → Int32} {i x : Int32} (nn : Nat) (hf : xm_code k pc = some (.iastore, nx, r1, r2, v)) (he : hp[a]? = some (xI t n f)) (hi : i = nI nn) (hn : nn < n) (kk : XG l xm_any k d rc rs nx pl st (hp.set a (xI t n (upd f nn x))) Q) (ha : xm_c0 ≤ a := by decide) (ht : xm_ty t = .int := by rfl) (hN : n < 2 ^ 31 := by decide) : XG l xm_any k d rc rs pc pl (.int x :: .int i :: .ref a :: st) hp Q := by
  subst hi
  refine x_iast hf he ha ht (vp_in_nI hn hN) ?_
  rw [nI_clamp (by omega)]
  exact kk
theorem x_zastN {a t n : Nat} {f : Nat → Int32} {i x : Int32} (nn : Nat) (hf : xm_code k pc = some (.bastore, nx, r1, r2, v)) (he : hp[a]? = some (xI t n f)) (hi : i = nI nn) (hn : nn < n) (hx : x &&& 1 = x) (kk : XG l xm_any k d rc rs nx pl st (hp.set a (xI t n (upd f nn x))) Q) (ha : xm_c0 ≤ a := by decide) (ht : xm_ty t = .boolean := by rfl) (hN : n < 2 ^ 31 := by decide) : XG l xm_any k d rc rs pc pl (.int x :: .int i :: .ref a :: st) hp Q := by
  subst hi
  refine x_zast hf he ha ht (vp_in_nI hn hN) ?_
  rw [nI_clamp (by omega), hx]
  exact kk
theorem x_iremN {x y : Int32} (a b : Nat) (hf : xm_code k pc = some (.irem, nx, r1, r2, v)) (hx : x = nI a) (hy : y = nI b) (kk : XG l P k d rc rs nx pl (.int (nI (a % b)) :: st) hp Q) (ha : a < 2 ^ 31 := by omega) (h0 : 0 < b := by omega) (hb : b < 2 ^ 31 := by omega) : XG l P k d rc rs pc pl (.int y :: .int x :: st) hp Q := by
  subst hx hy
  refine x_irem hf (nI_ne0 h0 hb) ?_
  rw [pk_rem ha h0 hb]
  exact kk
theorem x_idivN {x y : Int32} (a b : Nat) (hf : xm_code k pc = some (.idiv, nx, r1, r2, v)) (hx : x = nI a) (hy : y = nI b) (kk : XG l P k d rc rs nx pl (.int (nI (a / b)) :: st) hp Q) (ha : a < 2 ^ 31 := by omega) (h0 : 0 < b := by omega) (hb : b < 2 ^ 31 := by omega) : XG l P k d rc rs pc pl (.int y :: .int x :: st) hp Q := by
  subst hx hy
  refine x_idiv hf (nI_ne0 h0 hb) ?_
  rw [pk_div ha h0 hb]
  exact kk
theorem x_icmpN_eq {x y : Int32} (a b : Nat) {i : Int} (hf : xm_code k pc = some (.if_icmp .eq i, nx, r1, r2, v)) (hx : x = nI a) (hy : y = nI b) (kt : a = b → XG l P k d rc rs r1 pl st hp Q) (kf : a ≠ b → XG l P k d rc rs nx pl st hp Q) (ha : a < 2 ^ 31 := by omega) (hb : b < 2 ^ 31 := by omega) : XG l P k d rc rs pc pl (.int y :: .int x :: st) hp Q := by
  subst hx hy
  exact x_icmp_eq hf (fun q => kt ((nI_eq ha hb).mp q)) (fun q => kf (fun z => q ((nI_eq ha hb).mpr z)))
theorem x_ifN_eq {x : Int32} (a : Nat) {i : Int} (hf : xm_code k pc = some (.ifCond .eq i, nx, r1, r2, v)) (hx : x = nI a) (kt : a = 0 → XG l P k d rc rs r1 pl st hp Q) (kf : a ≠ 0 → XG l P k d rc rs nx pl st hp Q) (ha : a < 2 ^ 31 := by omega) : XG l P k d rc rs pc pl (.int x :: st) hp Q := by
  subst hx
  have hb : (0 : Nat) < 2 ^ 31 := by decide
  exact x_if_eq hf (fun q => kt ((nI_eq ha hb).mp q)) (fun q => kf (fun z => q ((nI_eq ha hb).mpr z)))
theorem x_icmpN_ne {x y : Int32} (a b : Nat) {i : Int} (hf : xm_code k pc = some (.if_icmp .ne i, nx, r1, r2, v)) (hx : x = nI a) (hy : y = nI b) (kt : a ≠ b → XG l P k d rc rs r1 pl st hp Q) (kf : a = b → XG l P k d rc rs nx pl st hp Q) (ha : a < 2 ^ 31 := by omega) (hb : b < 2 ^ 31 := by omega) : XG l P k d rc rs pc pl (.int y :: .int x :: st) hp Q := by
  subst hx hy
  exact x_icmp_ne hf (fun q => kt (fun z => q ((nI_eq ha hb).mpr z))) (fun q => kf ((nI_eq ha hb).mp q))
theorem x_ifN_ne {x : Int32} (a : Nat) {i : Int} (hf : xm_code k pc = some (.ifCond .ne i, nx, r1, r2, v)) (hx : x = nI a) (kt : a ≠ 0 → XG l P k d rc rs r1 pl st hp Q) (kf : a = 0 → XG l P k d rc rs nx pl st hp Q) (ha : a < 2 ^ 31 := by omega) : XG l P k d rc rs pc pl (.int x :: st) hp Q := by
  subst hx
  have hb : (0 : Nat) < 2 ^ 31 := by decide
  exact x_if_ne hf (fun q => kt (fun z => q ((nI_eq ha hb).mpr z))) (fun q => kf ((nI_eq ha hb).mp q))
theorem x_icmpN_lt {x y : Int32} (a b : Nat) {i : Int} (hf : xm_code k pc = some (.if_icmp .lt i, nx, r1, r2, v)) (hx : x = nI a) (hy : y = nI b) (kt : a < b → XG l P k d rc rs r1 pl st hp Q) (kf : b ≤ a → XG l P k d rc rs nx pl st hp Q) (ha : a < 2 ^ 31 := by omega) (hb : b < 2 ^ 31 := by omega) : XG l P k d rc rs pc pl (.int y :: .int x :: st) hp Q := by
  subst hx hy
  exact x_icmp_lt hf (fun q => kt ((nI_ltI ha hb).mp q)) (fun q => kf (Nat.not_lt.mp fun z => q ((nI_ltI ha hb).mpr z)))
theorem x_ifN_lt {x : Int32} (a : Nat) {i : Int} (hf : xm_code k pc = some (.ifCond .lt i, nx, r1, r2, v)) (hx : x = nI a) (kt : a < 0 → XG l P k d rc rs r1 pl st hp Q) (kf : 0 ≤ a → XG l P k d rc rs nx pl st hp Q) (ha : a < 2 ^ 31 := by omega) : XG l P k d rc rs pc pl (.int x :: st) hp Q := by
  subst hx
  have hb : (0 : Nat) < 2 ^ 31 := by decide
  exact x_if_lt hf (fun q => kt ((nI_ltI ha hb).mp q)) (fun q => kf (Nat.not_lt.mp fun z => q ((nI_ltI ha hb).mpr z)))
theorem x_icmpN_ge {x y : Int32} (a b : Nat) {i : Int} (hf : xm_code k pc = some (.if_icmp .ge i, nx, r1, r2, v)) (hx : x = nI a) (hy : y = nI b) (kt : b ≤ a → XG l P k d rc rs r1 pl st hp Q) (kf : a < b → XG l P k d rc rs nx pl st hp Q) (ha : a < 2 ^ 31 := by omega) (hb : b < 2 ^ 31 := by omega) : XG l P k d rc rs pc pl (.int y :: .int x :: st) hp Q := by
  subst hx hy
  exact x_icmp_ge hf (fun q => kt ((nI_leI hb ha).mp q)) (fun q => kf (Nat.not_le.mp fun z => q ((nI_leI hb ha).mpr z)))
theorem x_ifN_ge {x : Int32} (a : Nat) {i : Int} (hf : xm_code k pc = some (.ifCond .ge i, nx, r1, r2, v)) (hx : x = nI a) (kt : 0 ≤ a → XG l P k d rc rs r1 pl st hp Q) (kf : a < 0 → XG l P k d rc rs nx pl st hp Q) (ha : a < 2 ^ 31 := by omega) : XG l P k d rc rs pc pl (.int x :: st) hp Q := by
  subst hx
  have hb : (0 : Nat) < 2 ^ 31 := by decide
  exact x_if_ge hf (fun q => kt ((nI_leI hb ha).mp q)) (fun q => kf (Nat.not_le.mp fun z => q ((nI_leI hb ha).mpr z)))
theorem x_icmpN_gt {x y : Int32} (a b : Nat) {i : Int} (hf : xm_code k pc = some (.if_icmp .gt i, nx, r1, r2, v)) (hx : x = nI a) (hy : y = nI b) (kt : b < a → XG l P k d rc rs r1 pl st hp Q) (kf : a ≤ b → XG l P k d rc rs nx pl st hp Q) (ha : a < 2 ^ 31 := by omega) (hb : b < 2 ^ 31 := by omega) : XG l P k d rc rs pc pl (.int y :: .int x :: st) hp Q := by
  subst hx hy
  exact x_icmp_gt hf (fun q => kt ((nI_ltI hb ha).mp q)) (fun q => kf (Nat.not_lt.mp fun z => q ((nI_ltI hb ha).mpr z)))
theorem x_ifN_gt {x : Int32} (a : Nat) {i : Int} (hf : xm_code k pc = some (.ifCond .gt i, nx, r1, r2, v)) (hx : x = nI a) (kt : 0 < a → XG l P k d rc rs r1 pl st hp Q) (kf : a ≤ 0 → XG l P k d rc rs nx pl st hp Q) (ha : a < 2 ^ 31 := by omega) : XG l P k d rc rs pc pl (.int x :: st) hp Q := by
  subst hx
  have hb : (0 : Nat) < 2 ^ 31 := by decide
  exact x_if_gt hf (fun q => kt ((nI_ltI hb ha).mp q)) (fun q => kf (Nat.not_lt.mp fun z => q ((nI_ltI hb ha).mpr z)))
theorem x_icmpN_le {x y : Int32} (a b : Nat) {i : Int} (hf : xm_code k pc = some (.if_icmp .le i, nx, r1, r2, v)) (hx : x = nI a) (hy : y = nI b) (kt : a ≤ b → XG l P k d rc rs r1 pl st hp Q) (kf : b < a → XG l P k d rc rs nx pl st hp Q) (ha : a < 2 ^ 31 := by omega) (hb : b < 2 ^ 31 := by omega) : XG l P k d rc rs pc pl (.int y :: .int x :: st) hp Q := by
  subst hx hy
  exact x_icmp_le hf (fun q => kt ((nI_leI ha hb).mp q)) (fun q => kf (Nat.not_le.mp fun z => q ((nI_leI ha hb).mpr z)))
theorem x_ifN_le {x : Int32} (a : Nat) {i : Int} (hf : xm_code k pc = some (.ifCond .le i, nx, r1, r2, v)) (hx : x = nI a) (kt : a ≤ 0 → XG l P k d rc rs r1 pl st hp Q) (kf : 0 < a → XG l P k d rc rs nx pl st hp Q) (ha : a < 2 ^ 31 := by omega) : XG l P k d rc rs pc pl (.int x :: st) hp Q := by
  subst hx
  have hb : (0 : Nat) < 2 ^ 31 := by decide
  exact x_if_le hf (fun q => kt ((nI_leI ha hb).mp q)) (fun q => kf (Nat.not_le.mp fun z => q ((nI_leI ha hb).mpr z)))
end XN
