section RE1
variable {β : Nat → Nat}
theorem nI_or {a b i : Nat} (hb : b < 2 ^ i) (hs : 2 ^ i * a + b < 2 ^ 32) : nI (2 ^ i * a) ||| nI b = nI (2 ^ i * a + b) := by
  apply Int32.toBitVec_inj.mp
  apply BitVec.eq_of_toNat_eq
  rw [Int32.toBitVec_or, BitVec.toNat_or, pk_tn (by omega), pk_tn (by omega), pk_tn hs, Nat.two_pow_add_eq_or_of_lt hb]
/-- the system bytes of a reply -/
theorem sy_nI {a b c d : Nat} (ha : a < 256) (hb : b < 256) (hc : c < 256) (hd : d < 256) : nI a <<< ((24 : Int32) &&& 31) ||| nI b <<< ((16 : Int32) &&& 31) ||| nI c <<< ((8 : Int32) &&& 31) ||| nI d = nI (2 ^ 8 * (2 ^ 8 * (2 ^ 8 * a + b) + c) + d) := by
  rw [pk_shlN ((24 : Int32) &&& 31) 24 (by decide) (by omega), pk_shlN ((16 : Int32) &&& 31) 16 (by decide) (by omega), pk_shlN ((8 : Int32) &&& 31) 8 (by decide) (by omega)]
  rw [show a * 2 ^ 24 = 2 ^ 24 * a by omega, nI_or (by omega) (by omega), show 2 ^ 24 * a + b * 2 ^ 16 = 2 ^ 16 * (2 ^ 8 * a + b) by omega, nI_or (by omega) (by omega), show 2 ^ 16 * (2 ^ 8 * a + b) + c * 2 ^ 8 = 2 ^ 8 * (2 ^ 8 * (2 ^ 8 * a + b) + c) by omega, nI_or (by omega) (by omega)]
theorem xhead_at (f : Nat → Int32) (s0 fn : Int32) {n : Nat} (hn : n < 2 ^ 32) (j : Nat) (hj : j < 10) : xhead f s0 fn (nI n) j = [128, 1, s0, fn, 128, 1, nI (n / 2 ^ 24), nI (n / 2 ^ 16 % 256), nI (n / 2 ^ 8 % 256), nI (n % 256)].getD j 0 := by
  unfold xhead
  rw [pk_ushrN hn 24 24 (by decide), pk_ushrN hn 16 16 (by decide), pk_ushrN hn 8 8 (by decide), pk_andN (by omega) (m := 255) 8 (by decide), pk_andN (by omega) (m := 255) 8 (by decide), pk_andN hn (m := 255) 8 (by decide)]
  match j, hj with
  | 0, _ => rfl
  | 1, _ => rfl
  | 2, _ => rfl
  | 3, _ => rfl
  | 4, _ => rfl
  | 5, _ => rfl
  | 6, _ => rfl
  | 7, _ => rfl
  | 8, _ => rfl
  | 9, _ => rfl
  | j + 10, h => exact absurd h (by omega)
theorem xcopyF_nI (f : Nat → Int32) (n : Nat) (hn : n ≤ 120) : ∀ (m i : Nat) (r : Nat → Int32), i ≤ n → n < i + m → xcopyF f (nI n) m (nI i) r = fun j => if 10 + i ≤ j ∧ j < 10 + n then f (j - 10) else r j := by
  intro m
  induction m with
  | zero => intro i r h1 h2; omega
  | succ m ih =>
    intro i r h1 h2
    rw [xcopyF]
    by_cases h : i = n
    · subst h
      rw [if_pos (nI_le (Nat.le_refl _) (by omega))]
      funext j
      rw [if_neg (by omega)]
    · rw [if_neg (nI_ge (by omega) (by omega)), if_neg (show ¬ 120 ≤ nI i from nI_ge (b := 120) (by omega) (by decide)), nI_1, show (10 : Int32) + nI i = nI (10 + i) from nI_add 10 i, nI_clamp (by omega), nI_clamp (by omega), ih (i + 1) _ (by omega) (by omega)]
      funext j
      by_cases hj : j = 10 + i
      · subst hj
        rw [if_neg (by omega), if_pos (by omega), pk_us, Nat.add_sub_cancel_left]
      · by_cases h3 : 10 + (i + 1) ≤ j ∧ j < 10 + n
        · rw [if_pos h3, if_pos (by omega)]
        · rw [if_neg h3, if_neg (by omega), pk_un hj]
theorem xcopy_nI (f r : Nat → Int32) {n : Nat} (hn : n ≤ 120) (j : Nat) : xcopy f (nI n) r j = if 10 ≤ j ∧ j < 10 + n then f (j - 10) else r j := by
  unfold xcopy
  rw [show xcopyF f (nI n) 121 0 r = xcopyF f (nI n) 121 (nI 0) r from rfl, xcopyF_nI f n hn 121 0 r (by omega) (by omega)]
theorem xsumF_nI (f : Nat → Int32) (n : Nat) (hn : n ≤ 130) (hf : ∀ i, i < n → f i = nI (β i)) : ∀ (m i : Nat), i ≤ n → n < i + m → xsumF f (nI n) m (nI i) (nI (bsum β i)) = nI (bsum β n) := by
  intro m
  induction m with
  | zero => intro i h1 h2; omega
  | succ m ih =>
    intro i h1 h2
    rw [xsumF]
    by_cases h : i = n
    · subst h
      rw [if_pos (nI_le (Nat.le_refl _) (by omega))]
    · rw [if_neg (nI_ge (by omega) (by omega)), if_neg (show ¬ 130 ≤ nI i from nI_ge (b := 130) (by omega) (by decide)), nI_1, nI_clamp (by omega), hf i (by omega), nI_add]
      exact ih (i + 1) (by omega) (by omega)
theorem bsum_lt (hβ : ∀ i, β i < 256) {n : Nat} (hn : n ≤ 130) : bsum β n < 65536 := by
  have := bsum_le hβ n
  have : n * 255 ≤ 130 * 255 := Nat.mul_le_mul_right _ hn
  omega
theorem xsum_nI (f : Nat → Int32) {n : Nat} (hn : n ≤ 130) (hf : ∀ i, i < n → f i = nI (β i)) (hβ : ∀ i, β i < 256) : xsum f (nI n) = nI (bsum β n) := by
  have h := bsum_lt hβ hn
  unfold xsum
  rw [show xsumF f (nI n) 131 0 0 = xsumF f (nI n) 131 (nI 0) (nI (bsum β 0)) from rfl, xsumF_nI f n hn hf 131 0 (by omega) (by omega), pk_andN (by omega) (m := 65535) 16 (by decide), Nat.mod_eq_of_lt (by omega)]
theorem rsum_nI (f : Nat → Int32) : ∀ (n : Nat), (∀ i, i < n → f i = nI (β i)) → rsum f n = nI (bsum β n) := by
  intro n
  induction n with
  | zero => intro _; rfl
  | succ n ih =>
    intro h
    rw [rsum, ih (fun i hi => h i (by omega)), h n (by omega), nI_add]
    rfl
theorem bsum_congr {β β' : Nat → Nat} : ∀ n, (∀ i, i < n → β i = β' i) → bsum β n = bsum β' n := by
  intro n
  induction n with
  | zero => intro _; rfl
  | succ n ih => intro h; rw [bsum, bsum, ih (fun i hi => h i (by omega)), h n (by omega)]
theorem b255 {b : Nat} (h : b < 256) : nI b &&& 255 = nI b := by
  rw [pk_andN (by omega) (m := 255) 8 (by decide), Nat.mod_eq_of_lt h]
def isB (x : Int32) : Prop := ∃ b : Nat, b < 256 ∧ x = nI b
theorem isB_n {b : Nat} (h : b < 256) : isB (nI b) := ⟨b, h, rfl⟩
theorem isB_255 {x : Int32} (h : isB x) : x &&& 255 = x := by
  obtain ⟨b, h1, rfl⟩ := h
  exact b255 h1
theorem isB_and (x : Int32) : isB (x &&& 255) := by
  obtain ⟨j, h1, h2⟩ := pk_andE x (m := 255) 8 (by decide)
  exact ⟨j, h1, h2⟩
-- the tape
def RT (N : Nat) (tc : Int32) (tf : Nat → Int32) (jc : Int32) (jr : Nat → Int32) : Prop := ∃ n, n ≤ N ∧ tc = nI n ∧ jc = nI n ∧ ∀ i, i < n → n ≤ i + 501 → tf (i % 501) = jr (i % 512)
theorem RT_say {n : Nat} {tf jr : Nat → Int32} (x : Int32) (h : ∀ i, i < n → n ≤ i + 501 → tf (i % 501) = jr (i % 512)) : ∀ i, i < n + 1 → n + 1 ≤ i + 501 → upd tf (n % 501) x (i % 501) = upd jr (n % 512) x (i % 512) := by
  intro i h1 h2
  by_cases e : i = n
  · subst e
    rw [pk_us, pk_us]
  · rw [pk_un (by omega), pk_un (by omega)]
    exact h i (by omega) (by omega)
theorem RT.say {N n : Nat} {tf jr : Nat → Int32} (x y : Int32) (h : RT N (nI n) tf (nI n) jr) (hn : n < 2 ^ 30) (hN : N < 2 ^ 30) (hxy : y = x) : RT (N + 1) (nI (n + 1)) (upd tf (n % 501) x) (nI (n + 1)) (upd jr (n % 512) y) := by
  obtain ⟨m, h1, h2, -, h4⟩ := h
  obtain rfl : n = m := (nI_eq (by omega) (by omega)).mp h2
  subst hxy
  exact ⟨n + 1, by omega, rfl, rfl, RT_say _ h4⟩
theorem RT.get {N : Nat} {tc jc : Int32} {tf jr : Nat → Int32} (h : RT N tc tf jc jr) : ∃ n, n ≤ N ∧ tc = nI n ∧ jc = nI n := by
  obtain ⟨n, h1, h2, h3, -⟩ := h
  exact ⟨n, h1, h2, h3⟩
theorem RT.mono {N M : Nat} {tc jc : Int32} {tf jr : Nat → Int32} (h : RT N tc tf jc jr) (hM : N ≤ M) : RT M tc tf jc jr := by
  obtain ⟨n, h1, h2, h3, h4⟩ := h
  exact ⟨n, by omega, h2, h3, h4⟩
theorem xrsay_nI (f : Nat → Int32) {n : Nat} (x : Int32) (h : n < 2 ^ 30) : xrsay f (nI n) x = upd f (n % 512) (x &&& 255) := by
  unfold xrsay
  rw [show nI n - nI n / 512 * 512 = nI (n % 512) from pk_rem (d := 512) (by omega) (by decide) (by decide), nI_clamp (by omega)]
theorem RT.settle {N : Nat} {tc jc : Int32} {tf jr : Nat → Int32} (ls oc : Int32) (h : RT N tc tf jc jr) (hN : N < 2 ^ 29) : RT (N + 1) (xsT ls oc tc) (xsF ls oc tf tc) (xrsC ls oc jc) (xrsR ls oc jr jc) := by
  obtain ⟨n, h1, rfl, rfl⟩ := h.get
  unfold xsT xsF xrsC xrsR
  by_cases c : ls = 0 ∧ ¬ oc ≤ 0
  · rw [if_pos c, if_pos c, if_pos c, xsay_nI tf 5 (by omega), xrsay_nI jr 5 (by omega), nI_1]
    exact h.say 5 _ (by omega) (by omega) rfl
  · rw [if_neg c, if_neg c, if_neg c]
    exact h.mono (by omega)
theorem RT_run {f g : Nat → Int32} (hfg : ∀ i, f i = g i) : ∀ (m n : Nat) (tf jr : Nat → Int32), (∀ i, i < n → n ≤ i + 501 → tf (i % 501) = jr (i % 512)) → (∀ i, i < m → g i &&& 255 = g i) → ∀ i, i < n + m → n + m ≤ i + 501 → xtp tf n f m (i % 501) = xrtp jr n g m (i % 512) := by
  intro m
  induction m with
  | zero => intro n tf jr h _; exact h
  | succ m ih =>
    intro n tf jr h hb i h1 h2
    rw [xtp, xrtp, hfg m, hb m (by omega)]
    exact RT_say (n := n + m) _ (ih n tf jr h (fun i hi => hb i (by omega))) i (by omega) (by omega)
theorem xtp_congr {f g : Nat → Int32} (tf : Nat → Int32) (n : Nat) : ∀ m, (∀ i, i < m → f i = g i) → xtp tf n f m = xtp tf n g m := by
  intro m
  induction m with
  | zero => intro _; rfl
  | succ m ih => intro h; rw [xtp, xtp, ih (fun i hi => h i (by omega)), h m (by omega)]
-- the queue
def RM (ml mx : Int32) (mb : Nat → Int32) (jz jf : Int32) (jQ : Nat → Int32) : Prop := ∃ m x : Nat, 10 ≤ m ∧ m ≤ 130 ∧ x < 4 ∧ ml = nI m ∧ jz = nI m ∧ mx = nI x ∧ jf = nI x ∧ ∀ i, i < m → mb i = jQ i ∧ isB (mb i)
def RQ (of oc : Int32) (ml mx : Nat → Int32) (mb : Nat → Nat → Int32) (jq : Int32) (jQ jz jf : Nat → Int32) : Prop := ∃ f0 q : Nat, f0 < 8 ∧ q ≤ 8 ∧ of = nI f0 ∧ oc = nI q ∧ jq = nI q ∧ ∀ k, k < q → RM (ml ((f0 + k) % 8)) (mx ((f0 + k) % 8)) (mb ((f0 + k) % 8)) (jz k) (jf k) (fun i => jQ (130 * k + i))
theorem slot_nI {f0 q : Nat} (hf : f0 < 8) (hq : q ≤ 8) : nI f0 + nI q - (nI f0 + nI q) / 8 * 8 = nI ((f0 + q) % 8) := by
  rw [nI_add]
  exact pk_rem (d := 8) (by omega) (by decide) (by decide)
theorem RQ.hi {of oc jq : Int32} {ml mx jQ jz jf : Nat → Int32} {mb : Nat → Nat → Int32} (h : RQ of oc ml mx mb jq jQ jz jf) : ¬ 8 ≤ oc → vp_in (of + oc - (of + oc) / 8 * 8) 8 := by
  obtain ⟨f0, q, h1, h2, rfl, rfl, -⟩ := h
  intro _
  rw [slot_nI h1 h2]
  exact vp_in_nI (by omega) (by decide)
theorem RQ.q {of oc jq : Int32} {ml mx jQ jz jf : Nat → Int32} {mb : Nat → Nat → Int32} (h : RQ of oc ml mx mb jq jQ jz jf) : ∃ q : Nat, q ≤ 8 ∧ oc = nI q ∧ jq = nI q := by
  obtain ⟨f0, q, h1, h2, h3, h4, h5, -⟩ := h
  exact ⟨q, h2, h4, h5⟩
/-- a message of the same header and body goes into both queues -/
theorem RQ.send {of oc jq : Int32} {ml mx jQ jz jf : Nat → Int32} {mb : Nat → Nat → Int32} {q n : Nat} (h : RQ of oc ml mx mb jq jQ jz jf) (hq : jq = nI q) (hq8 : q ≤ 8) (B : List Int32) (bf jy : Nat → Int32) (sb fn s0 s1 s2 s3 : Int32) (hB : B.length ≤ 120) (hb : ∀ x ∈ B, isB x) (hn : n < 2 ^ 32) (hsb : isB sb) (hfn : isB fn) (e0 : s0 = nI (n / 2 ^ 24)) (e1 : s1 = nI (n / 2 ^ 16 % 256)) (e2 : s2 = nI (n / 2 ^ 8 % 256)) (e3 : s3 = nI (n % 256)) : RQ of (xoc oc) (xml of oc ml (nI B.length)) (xmx of oc mx) (xmb of oc mb (xbd bf B) (nI B.length) sb fn (nI n)) (nI (xrq q)) (xrQ q jQ (xrbd jy B) B.length sb fn s0 s1 s2 s3) (xrz q jz B.length) (xrf q jf) := by
  obtain ⟨f0, q', h1, h2, rfl, rfl, h5, h6⟩ := h
  obtain rfl : q = q' := (nI_eq (by omega) (by omega)).mp (hq.symm.trans h5)
  subst hq
  by_cases h8 : q = 8
  · subst h8
    exact ⟨f0, 8, h1, by decide, rfl, rfl, rfl, h6⟩
  have c8 : ¬ (8 : Int32) ≤ nI q := nI_ge (b := 8) (by omega) (by decide)
  have hs : xslot (nI f0) (nI q) = (f0 + q) % 8 := by
    unfold xslot
    rw [slot_nI h1 h2, nI_clamp (by omega)]
  rw [xoc, xml, xmx, xmb, if_neg c8, if_neg c8, if_neg c8, if_neg c8, xrq, xrQ, xrz, xrf, if_neg h8, if_neg h8, if_neg h8, if_neg h8, hs, nI_1]
  refine ⟨f0, q + 1, h1, by omega, rfl, rfl, rfl, fun k hk => ?_⟩
  by_cases e : k = q
  · subst e
    refine ⟨10 + B.length, 0, by omega, by omega, by decide, ?_, ?_, ?_, ?_, fun i hi => ?_⟩
    · rw [pk_us, ← nI_add]; rfl
    · rw [pk_us]
    · rw [pk_us]; rfl
    · rw [pk_us]; rfl
    · rw [updf_same, xcopy_nI _ _ hB]
      by_cases h10 : 10 ≤ i
      · rw [if_pos ⟨h10, hi⟩]
        have a1 : xbd bf B (i - 10) = B.getD (i - 10) 0 := by unfold xbd; rw [if_pos (by omega)]
        have a2 : xrcp (xrhd jQ (130 * k) sb fn s0 s1 s2 s3) (xrbd jy B) (130 * k + 10) B.length (130 * k + i) = B.getD (i - 10) 0 := by
          unfold xrcp
          rw [if_pos (by omega), show 130 * k + i - (130 * k + 10) = i - 10 by omega]
          unfold xrbd
          rw [if_pos (by omega)]
        refine ⟨a1.trans a2.symm, ?_⟩
        rw [a1, List.getD_eq_getElem?_getD, List.getElem?_eq_getElem (by omega : i - 10 < B.length)]
        exact hb _ (List.getElem_mem _)
      · rw [if_neg (by omega), xhead_at _ _ _ hn i (by omega)]
        have a2 : xrcp (xrhd jQ (130 * k) sb fn s0 s1 s2 s3) (xrbd jy B) (130 * k + 10) B.length (130 * k + i) = xrhd jQ (130 * k) sb fn s0 s1 s2 s3 (130 * k + i) := by
          unfold xrcp
          rw [if_neg (by omega)]
        show _ = xrcp (xrhd jQ (130 * k) sb fn s0 s1 s2 s3) (xrbd jy B) (130 * k + 10) B.length (130 * k + i) ∧ _
        rw [a2, e0, e1, e2, e3]
        unfold xrhd
        match i, h10 with
        | 0, _ => exact ⟨by simp [upd], ⟨128, by decide, rfl⟩⟩
        | 1, _ => exact ⟨by simp [upd], ⟨1, by decide, rfl⟩⟩
        | 2, _ => exact ⟨by simp [upd], hsb⟩
        | 3, _ => exact ⟨by simp [upd], hfn⟩
        | 4, _ => exact ⟨by simp [upd], ⟨128, by decide, rfl⟩⟩
        | 5, _ => exact ⟨by simp [upd], ⟨1, by decide, rfl⟩⟩
        | 6, _ => exact ⟨by simp [upd], ⟨n / 2 ^ 24, by omega, rfl⟩⟩
        | 7, _ => exact ⟨by simp [upd], ⟨n / 2 ^ 16 % 256, by omega, rfl⟩⟩
        | 8, _ => exact ⟨by simp [upd], ⟨n / 2 ^ 8 % 256, by omega, rfl⟩⟩
        | 9, _ => exact ⟨by simp [upd], ⟨n % 256, by omega, rfl⟩⟩
        | i + 10, h => exact absurd (by omega) h
  · have hk2 : k < q := by omega
    have hne : (f0 + k) % 8 ≠ (f0 + q) % 8 := by omega
    obtain ⟨m, x, b1, b2, b3, b4, b5, b6, b7, b8⟩ := h6 k hk2
    refine ⟨m, x, b1, b2, b3, by rw [pk_un hne]; exact b4, by rw [pk_un e]; exact b5, by rw [pk_un hne]; exact b6, by rw [pk_un e]; exact b7, fun i hi => ?_⟩
    have a1 : xrcp (xrhd jQ (130 * q) sb fn s0 s1 s2 s3) (xrbd jy B) (130 * q + 10) B.length (130 * k + i) = jQ (130 * k + i) := by
      unfold xrcp
      rw [if_neg (by omega)]
      unfold xrhd
      rw [pk_un (by omega), pk_un (by omega), pk_un (by omega), pk_un (by omega), pk_un (by omega), pk_un (by omega), pk_un (by omega), pk_un (by omega), pk_un (by omega), pk_un (by omega)]
    have a2 : updf mb ((f0 + q) % 8) (xcopy (xbd bf B) (nI B.length) (xhead (mb ((f0 + q) % 8)) sb fn (nI n))) ((f0 + k) % 8) = mb ((f0 + k) % 8) := by
      unfold updf
      rw [if_neg hne]
    rw [a2]
    show mb ((f0 + k) % 8) i = xrcp (xrhd jQ (130 * q) sb fn s0 s1 s2 s3) (xrbd jy B) (130 * q + 10) B.length (130 * k + i) ∧ _
    rw [a1]
    exact b8 i hi
theorem xol_eq {q : Nat} (hq : q ≤ 8) (ol : Int32) : xro q ol = xol (nI q) ol := by
  unfold xro xol
  by_cases h : q = 8
  · subst h
    rfl
  · rw [if_neg h, if_neg (show ¬ (8 : Int32) ≤ nI q from nI_ge (b := 8) (by omega) (by decide))]
/-- the first one goes -/
theorem RQ.drop {ml mx jQ jz jf : Nat → Int32} {mb : Nat → Nat → Int32} {f0 q : Nat} (hf : f0 < 8) (hq : q < 8) (h : RQ (nI f0) (nI (q + 1)) ml mx mb (nI (q + 1)) jQ jz jf) (mx' jf' : Nat → Int32) (hm : ∀ j, j ≠ f0 → mx' j = mx j) (hj : ∀ k, k ≠ 0 → jf' k = jf k) : RQ (nI ((f0 + 1) % 8)) (nI q) ml mx' mb (nI q) (xshk jQ 0 (130 * q) 130) (xshk jz 0 q 1) (xshk jf' 0 q 1) := by
  obtain ⟨f1, q1, h1, h2, e1, e2, -, h6⟩ := h
  obtain rfl : f0 = f1 := (nI_eq (by omega) (by omega)).mp e1
  obtain rfl : q + 1 = q1 := (nI_eq (by omega) (by omega)).mp e2
  refine ⟨(f0 + 1) % 8, q, by omega, by omega, rfl, rfl, rfl, fun k hk => ?_⟩
  have hs : ((f0 + 1) % 8 + k) % 8 = (f0 + (k + 1)) % 8 := by omega
  obtain ⟨m, x, b1, b2, b3, b4, b5, b6, b7, b8⟩ := h6 (k + 1) (by omega)
  rw [hs]
  refine ⟨m, x, b1, b2, b3, b4, ?_, ?_, ?_, fun i hi => ?_⟩
  · unfold xshk; rw [if_pos (by omega)]; exact b5
  · rw [hm _ (by omega)]; exact b6
  · unfold xshk; rw [if_pos (by omega), hj _ (by omega)]; exact b7
  · have a1 : xshk jQ 0 (130 * q) 130 (130 * k + i) = jQ (130 * (k + 1) + i) := by
      unfold xshk
      rw [if_pos (by omega), show 130 * k + i + 130 = 130 * (k + 1) + i by omega]
    show mb _ i = xshk jQ 0 (130 * q) 130 (130 * k + i) ∧ _
    rw [a1]
    exact b8 i hi
theorem RQ.fail {ml mx jQ jz jf : Nat → Int32} {mb : Nat → Nat → Int32} {f0 q x : Nat} (hf : f0 < 8) (hq : q < 8) (h : RQ (nI f0) (nI (q + 1)) ml mx mb (nI (q + 1)) jQ jz jf) (hx : x < 3) : RQ (nI f0) (nI (q + 1)) ml (upd mx f0 (nI (x + 1))) mb (nI (q + 1)) jQ jz (upd jf 0 (nI (x + 1))) := by
  obtain ⟨f1, q1, h1, h2, e1, e2, -, h6⟩ := h
  obtain rfl : f0 = f1 := (nI_eq (by omega) (by omega)).mp e1
  obtain rfl : q + 1 = q1 := (nI_eq (by omega) (by omega)).mp e2
  refine ⟨f0, q + 1, h1, h2, rfl, rfl, rfl, fun k hk => ?_⟩
  obtain ⟨m, y, b1, b2, b3, b4, b5, b6, b7, b8⟩ := h6 k hk
  by_cases e : k = 0
  · subst e
    refine ⟨m, x + 1, b1, b2, by omega, b4, b5, ?_, pk_us, b8⟩
    rw [show (f0 + 0) % 8 = f0 by omega, pk_us]
  · exact ⟨m, y, b1, b2, b3, b4, b5, by rw [pk_un (by omega)]; exact b6, by rw [pk_un e]; exact b7, b8⟩
end RE1
