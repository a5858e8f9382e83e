section RE2
variable {β : Nat → Nat} {cr cv sz : Nat → Nat} {rp vp : Nat → Nat → Nat}
def RN (on jn : Int32) : Prop := ∃ n : Nat, n < 65536 ∧ on = nI n ∧ jn = nI n
theorem on_next {n : Nat} (h : n < 65536) : nI n + 1 &&& 65535 = nI ((n + 1) % 65536) := by
  rw [nI_1, pk_andN (by omega) (m := 65535) 16 (by decide)]
theorem RN_next {n : Nat} : RN (nI ((n + 1) % 65536)) (nI ((n + 1) % 65536)) := ⟨_, by omega, rfl, rfl⟩
-- the talks
def RK (A : Nat) (kc : Int32) (kh : Nat → Nat) (kr : Nat → Nat → Int32) (ka : Nat → Int32) (jt : Int32) (jH jA : Nat → Int32) : Prop := ∃ (t : Nat) (a : Nat → Nat), t ≤ 8 ∧ kc = nI t ∧ jt = nI t ∧ (∀ j, j < 8 → kh j < 8) ∧ (∀ i j, i < 8 → j < 8 → kh i = kh j → i = j) ∧ (∀ k, k < t → ka k = nI (a k) ∧ jA k = nI (a k) ∧ a k < A ∧ ∀ i, i < 10 → kr (kh k) i = jH (10 * k + i) ∧ isB (kr (kh k) i)) ∧ ∀ i j, i ≤ j → j < t → a j ≤ a i
theorem RK.t {A : Nat} {kc jt : Int32} {kh : Nat → Nat} {kr : Nat → Nat → Int32} {ka jH jA : Nat → Int32} (h : RK A kc kh kr ka jt jH jA) : ∃ t : Nat, t ≤ 8 ∧ kc = nI t ∧ jt = nI t ∧ ∀ j, j < 8 → kh j < 8 := by
  obtain ⟨t, a, h1, h2, h3, h4, -⟩ := h
  exact ⟨t, h1, h2, h3, h4⟩
theorem xcp_at (r h : Nat → Int32) : ∀ n j, xcp r h n j = if j < n then h j else r j := by
  intro n
  induction n with
  | zero => intro j; rw [if_neg (by omega)]; rfl
  | succ n ih =>
    intro j
    rw [xcp]
    by_cases e : j = n
    · subst e
      rw [pk_us, if_pos (by omega)]
    · rw [pk_un e, ih]
      by_cases h1 : j < n
      · rw [if_pos h1, if_pos (by omega)]
      · rw [if_neg h1, if_neg (by omega)]
theorem RK.opn {t : Nat} {kh : Nat → Nat} {kr : Nat → Nat → Int32} {ka jH jA f jQ : Nat → Int32} (ht : t < 8) (h : RK 45 (nI t) kh kr ka (nI t) jH jA) (hf : ∀ i, i < 10 → f i = jQ i ∧ isB (f i)) : RK 45 (nI (t + 1)) kh (updf kr (kh t) (xcp (kr (kh t)) f 10)) (upd ka t 0) (nI (t + 1)) (xrcp jH jQ (10 * t) 10) (upd jA t 0) := by
  obtain ⟨t', a, h1, h2, -, h4, h5, h6, h7⟩ := h
  obtain rfl : t = t' := (nI_eq (by omega) (by omega)).mp h2
  refine ⟨t + 1, updn a t 0, by omega, rfl, rfl, h4, h5, fun k hk => ?_, fun i j hij hj => ?_⟩
  · by_cases e : k = t
    · subst e
      refine ⟨by rw [pk_us]; unfold updn; rw [if_pos rfl]; rfl, by rw [pk_us]; unfold updn; rw [if_pos rfl]; rfl, by unfold updn; rw [if_pos rfl]; decide, fun i hi => ?_⟩
      rw [updf_same, xcp_at, if_pos hi]
      unfold xrcp
      rw [if_pos (by omega), Nat.add_sub_cancel_left]
      exact hf i hi
    · obtain ⟨b1, b2, b3, b4⟩ := h6 k (by omega)
      have e2 : updn a t 0 k = a k := by unfold updn; rw [if_neg e]
      rw [e2, pk_un e, pk_un e]
      refine ⟨b1, b2, b3, fun i hi => ?_⟩
      unfold updf xrcp
      rw [if_neg (fun z => e (h5 k t (by omega) ht z)), if_neg (by omega)]
      exact b4 i hi
  · unfold updn
    by_cases e : j = t
    · rw [if_pos e]; omega
    · rw [if_neg e, if_neg (by omega)]
      exact h7 i j hij (by omega)
theorem RK.close {A t c : Nat} {kh : Nat → Nat} {kr : Nat → Nat → Int32} {ka jH jA : Nat → Int32} (ht : t < 8) (hc : c ≤ t) (h : RK A (nI (t + 1)) kh kr ka (nI (t + 1)) jH jA) : RK A (nI t) (updn (xsh kh c (t - c)) t (kh c)) kr (xsh ka c (t - c)) (nI t) (xshk jH (10 * c) (10 * (t - c)) 10) (xshk jA c (t - c) 1) := by
  obtain ⟨t', a, h1, h2, -, h4, h5, h6, h7⟩ := h
  obtain rfl : t + 1 = t' := (nI_eq (by omega) (by omega)).mp h2
  have hv : ∀ j, updn (xsh kh c (t - c)) t (kh c) j = kh (if j = t then c else if c ≤ j ∧ j < t then j + 1 else j) := by
    intro j
    unfold updn xsh
    by_cases e : j = t
    · rw [if_pos e, if_pos e]
    · rw [if_neg e, if_neg e]
      by_cases e2 : c ≤ j ∧ j < t
      · rw [if_pos e2, if_pos (by omega)]
      · rw [if_neg e2, if_neg (by omega)]
  refine ⟨t, xsh a c (t - c), by omega, rfl, rfl, fun j hj => ?_, fun i j hi hj hij => ?_, fun k hk => ?_, fun i j hij hj => ?_⟩
  · rw [hv]
    apply h4
    split
    · omega
    · split <;> omega
  · rw [hv, hv] at hij
    have h9 := h5 _ _ (by split; omega; split <;> omega) (by split; omega; split <;> omega) hij
    split at h9 <;> split at h9 <;> (try split at h9) <;> (try split at h9) <;> omega
  · have e1 : updn (xsh kh c (t - c)) t (kh c) k = kh (if c ≤ k then k + 1 else k) := by
      rw [hv, if_neg (by omega)]
      by_cases e2 : c ≤ k
      · rw [if_pos ⟨e2, hk⟩, if_pos e2]
      · rw [if_neg (fun z => e2 z.1), if_neg e2]
    have e3 : ∀ {α : Type} (f : Nat → α), xsh f c (t - c) k = f (if c ≤ k then k + 1 else k) := by
      intro α f
      unfold xsh
      by_cases e2 : c ≤ k
      · rw [if_pos (by omega), if_pos e2]
      · rw [if_neg (by omega), if_neg e2]
    have e4 : xshk jA c (t - c) 1 k = jA (if c ≤ k then k + 1 else k) := by
      unfold xshk
      by_cases e2 : c ≤ k
      · rw [if_pos (by omega), if_pos e2]
      · rw [if_neg (by omega), if_neg e2]
    obtain ⟨b1, b2, b3, b4⟩ := h6 (if c ≤ k then k + 1 else k) (by split <;> omega)
    rw [e1, e3, e3, e4]
    refine ⟨b1, b2, b3, fun i hi => ?_⟩
    have e5 : xshk jH (10 * c) (10 * (t - c)) 10 (10 * k + i) = jH (10 * (if c ≤ k then k + 1 else k) + i) := by
      unfold xshk
      by_cases e2 : c ≤ k
      · rw [if_pos (by omega), if_pos e2, show 10 * k + i + 10 = 10 * (k + 1) + i by omega]
      · rw [if_neg (by omega), if_neg e2]
    rw [e5]
    exact b4 i hi
  · unfold xsh
    by_cases e1 : c ≤ j ∧ j < c + (t - c)
    · rw [if_pos e1]
      by_cases e2 : c ≤ i ∧ i < c + (t - c)
      · rw [if_pos e2]; exact h7 _ _ (by omega) (by omega)
      · rw [if_neg e2]; exact h7 _ _ (by omega) (by omega)
    · rw [if_neg e1, if_neg (by omega)]
      exact h7 _ _ hij (by omega)
theorem RK.inc {t : Nat} {kh : Nat → Nat} {kr : Nat → Nat → Int32} {ka jH jA : Nat → Int32} (ht : t ≤ 8) (h : RK 45 (nI t) kh kr ka (nI t) jH jA) : RK 46 (nI t) kh kr (xinc ka t) (nI t) jH (xinc jA t) := by
  obtain ⟨t', a, h1, h2, -, h4, h5, h6, h7⟩ := h
  obtain rfl : t = t' := (nI_eq (by omega) (by omega)).mp h2
  refine ⟨t, fun j => a j + 1, ht, rfl, rfl, h4, h5, fun k hk => ?_, fun i j hij hj => ?_⟩
  · obtain ⟨b1, b2, b3, b4⟩ := h6 k hk
    unfold xinc
    rw [if_pos hk, if_pos hk, b1, b2, nI_1]
    exact ⟨rfl, rfl, by show a k + 1 < 46; omega, b4⟩
  · have := h7 i j hij hj
    show a j + 1 ≤ a i + 1
    omega
theorem RK.down {kh : Nat → Nat} {kc jt : Int32} {kr : Nat → Nat → Int32} {ka jH jA : Nat → Int32} (h : RK 46 kc kh kr ka jt jH jA) (h0 : kc = nI 0 ∨ ∃ a, a < 45 ∧ ka 0 = nI a) : RK 45 kc kh kr ka jt jH jA := by
  obtain ⟨t, a, h1, h2, h3, h4, h5, h6, h7⟩ := h
  refine ⟨t, a, h1, h2, h3, h4, h5, fun k hk => ?_, h7⟩
  obtain ⟨b1, b2, b3, b4⟩ := h6 k hk
  refine ⟨b1, b2, ?_, b4⟩
  rcases h0 with h0 | ⟨x, hx, h0⟩
  · rw [h2] at h0
    have : t = 0 := (nI_eq (by omega) (by omega)).mp h0
    omega
  · have h8 := (h6 0 (by omega)).1
    have h9 := (h6 0 (by omega)).2.2.1
    rw [h0] at h8
    have : x = a 0 := (nI_eq (by omega) (by omega)).mp h8
    have := h7 0 k (by omega) hk
    omega
-- the line
def RR (u : Nat) (lk lg lh gl : Int32) (gb : Nat → Int32) (jh : Int32) (jb : Nat → Int32) : Prop := (lk = 0 ∧ lg = nI 0 ∧ lh = 0 ∧ jh = nI 0) ∨ (lk = 1 ∧ u < 2 ∧ ∃ len got : Nat, 10 ≤ len ∧ len ≤ 130 ∧ got ≤ len + 1 ∧ gl = nI len ∧ jb 0 = nI len ∧ lg = nI got ∧ jh = nI (got + 1) ∧ (∀ i, i < got → i < len → gb i = jb (i + 1)) ∧ lh = if got ≤ len then 0 else jb (len + 1))
def RL (ls lq lk lg lh gl : Int32) (gb : Nat → Int32) (jl js jh : Int32) (jb : Nat → Int32) : Prop := ∃ s u : Nat, s ≤ 3 ∧ u < 5 ∧ ls = nI s ∧ jl = nI s ∧ lq = nI u ∧ js = nI u ∧ (∀ i, i < 130 → isB (gb i)) ∧ (∀ i, i < 140 → isB (jb i)) ∧ (s = 1 → RR u lk lg lh gl gb jh jb)
def RZ (ls oc : Int32) : Prop := ∃ s q : Nat, s ≤ 3 ∧ q ≤ 8 ∧ ls = nI s ∧ oc = nI q ∧ (2 ≤ s → 1 ≤ q)
theorem RL.eqs {ls lq lk lg lh gl jl js jh : Int32} {gb jb : Nat → Int32} (h : RL ls lq lk lg lh gl gb jl js jh jb) : jl = ls ∧ js = lq := by
  obtain ⟨s, u, -, -, h1, h2, h3, h4, -⟩ := h
  exact ⟨h2.trans h1.symm, h4.trans h3.symm⟩
theorem RL.settle {ls lq lk lg lh gl jl js jh : Int32} {gb jb : Nat → Int32} (oc : Int32) (h : RL ls lq lk lg lh gl gb jl js jh jb) : RL (xsL ls oc) (xsQ ls oc lq) lk lg lh gl gb (xrsL jl oc) (xrsS jl oc js) jh jb := by
  obtain ⟨h1, h2⟩ := h.eqs
  subst h1 h2
  unfold xsL xsQ xrsL xrsS
  by_cases c : jl = 0 ∧ ¬ oc ≤ 0
  · rw [if_pos c, if_pos c]
    obtain ⟨s, u, -, -, -, -, -, -, h7, h8, -⟩ := h
    exact ⟨2, 0, by decide, by decide, rfl, rfl, rfl, rfl, h7, h8, fun z => absurd z (by decide)⟩
  · rw [if_neg c, if_neg c]
    exact h
theorem RZ.settle {ls oc : Int32} (h : RZ ls oc) : RZ (xsL ls oc) oc ∧ ¬ (xsL ls oc = 0 ∧ ¬ oc ≤ 0) := by
  unfold xsL
  by_cases c : ls = 0 ∧ ¬ oc ≤ 0
  · rw [if_pos c]
    obtain ⟨s, q, h1, h2, rfl, rfl, h5⟩ := h
    refine ⟨⟨2, q, by decide, h2, rfl, rfl, fun _ => Nat.pos_of_ne_zero fun z => c.2 (by rw [z]; decide)⟩, fun z => absurd z.1 (by decide)⟩
  · rw [if_neg c]
    exact ⟨h, c⟩
theorem RZ.send {ls oc : Int32} (h : RZ ls oc) : RZ ls (xoc oc) := by
  obtain ⟨s, q, h1, h2, rfl, rfl, h5⟩ := h
  unfold xoc
  by_cases c : (8 : Int32) ≤ nI q
  · rw [if_pos c]
    exact ⟨s, q, h1, h2, rfl, rfl, h5⟩
  · rw [if_neg c, nI_1]
    have : q < 8 := Nat.not_le.mp fun z => c (nI_le (a := 8) z (by omega))
    exact ⟨s, q + 1, h1, by omega, rfl, rfl, fun _ => by omega⟩
theorem RZ.free {oc : Int32} {q : Nat} (hq : q ≤ 8) (h : oc = nI q) : RZ 0 oc := ⟨0, q, by decide, hq, rfl, h, fun z => absurd z (by decide)⟩
-- the variables
def RV (vf vs : Nat → Int32) (vb : Nat → Nat → Int32) (jF jL jO : Nat → Int32) (jk jw : Int32) : Prop := ∃ (sz : Nat → Nat) (c w : Nat), (∀ v, v < 6 → vs v = nI (sz v) ∧ jL v = nI (sz v) ∧ sz v ≤ 8 ∧ vf v = jF v ∧ (∃ f, f < 64 ∧ vf v = nI f) ∧ ∀ k, k < sz v → vb v k = rvb jk jw jO v k ∧ isB (vb v k)) ∧ sz 0 = 1 ∧ sz 1 = 1 ∧ vf 0 = 41 ∧ vf 1 = 41 ∧ vb 0 0 = nI c ∧ jk = nI c ∧ c ≤ 3 ∧ vb 1 0 = nI w ∧ jw = nI w ∧ w ≤ 2
theorem RV.ctl {vf vs jF jL jO : Nat → Int32} {vb : Nat → Nat → Int32} {jk jw : Int32} (h : RV vf vs vb jF jL jO jk jw) (c : Nat) (hc : c ≤ 3) : RV vf vs (updf vb 0 (upd (vb 0) 0 (nI c))) jF jL jO (nI c) jw := by
  obtain ⟨sz, c0, w, h1, h2, h3, h4, h5, h6, h7, h8, h9, h10, h11⟩ := h
  refine ⟨sz, c, w, fun v hv => ?_, h2, h3, h4, h5, by rw [updf_same, pk_us], rfl, hc, by unfold updf; rw [if_neg (by decide)]; exact h9, h10, h11⟩
  obtain ⟨b1, b2, b3, b4, b5, b6⟩ := h1 v hv
  refine ⟨b1, b2, b3, b4, b5, fun k hk => ?_⟩
  by_cases e : v = 0
  · subst e
    obtain rfl : k = 0 := by omega
    rw [updf_same, pk_us]
    exact ⟨rfl, isB_n (by omega)⟩
  · obtain ⟨d1, d2⟩ := b6 k hk
    have e2 : updf vb 0 (upd (vb 0) 0 (nI c)) v = vb v := by unfold updf; rw [if_neg e]
    rw [e2]
    refine ⟨d1.trans ?_, d2⟩
    unfold rvb
    rw [if_neg e, if_neg e]
theorem RV.wrk {vf vs jF jL jO : Nat → Int32} {vb : Nat → Nat → Int32} {jk jw : Int32} (h : RV vf vs vb jF jL jO jk jw) (w : Nat) (hw : w ≤ 2) : RV vf vs (updf vb 1 (upd (vb 1) 0 (nI w))) jF jL jO jk (nI w) := by
  obtain ⟨sz, c, w0, h1, h2, h3, h4, h5, h6, h7, h8, h9, h10, h11⟩ := h
  refine ⟨sz, c, w, fun v hv => ?_, h2, h3, h4, h5, by unfold updf; rw [if_neg (by decide)]; exact h6, h7, h8, by rw [updf_same, pk_us], rfl, hw⟩
  obtain ⟨b1, b2, b3, b4, b5, b6⟩ := h1 v hv
  refine ⟨b1, b2, b3, b4, b5, fun k hk => ?_⟩
  by_cases e : v = 1
  · subst e
    obtain rfl : k = 0 := by omega
    rw [updf_same, pk_us]
    exact ⟨rfl, isB_n (by omega)⟩
  · obtain ⟨d1, d2⟩ := b6 k hk
    have e2 : updf vb 1 (upd (vb 1) 0 (nI w)) v = vb v := by unfold updf; rw [if_neg e]
    rw [e2]
    refine ⟨d1.trans ?_, d2⟩
    unfold rvb
    by_cases e0 : v = 0
    · rw [if_pos e0, if_pos e0]
    · rw [if_neg e0, if_neg e0, if_neg e, if_neg e]
theorem RV.c {vf vs jF jL jO : Nat → Int32} {vb : Nat → Nat → Int32} {jk jw : Int32} (h : RV vf vs vb jF jL jO jk jw) : (∃ c : Nat, c ≤ 3 ∧ vb 0 0 = nI c ∧ jk = nI c) ∧ ∃ w : Nat, w ≤ 2 ∧ vb 1 0 = nI w ∧ jw = nI w := by
  obtain ⟨sz, c, w, h1, h2, h3, h4, h5, h6, h7, h8, h9, h10, h11⟩ := h
  exact ⟨⟨c, h8, h6, h7⟩, w, h11, h9, h10⟩
-- reports and events
def kOk (s : dS) : Prop := (∀ r, s.1 r ≤ 3) ∧ (∀ r i, 1 ≤ r → r ≤ 4 → i < s.1 r → s.2.1 r i < 6) ∧ dOk s ∧ ∀ e i, 1 ≤ e → e ≤ 5 → i < s.2.2.1 e → 1 ≤ s.2.2.2 e i ∧ s.2.2.2 e i ≤ 4
def RG (nv : Nat → Int32) (nw : Nat → Nat → Int32) (nr : Nat → Int32) (nq : Nat → Nat → Int32) (ne jS jT jU jV jW : Nat → Int32) : Prop := (∃ s : dS, kOk s ∧ nv = (fun z1 => nI (s.1 z1)) ∧ nw = (fun z1 z2 => nI (s.2.1 z1 z2)) ∧ nr = (fun z1 => nI (s.2.2.1 z1)) ∧ nq = (fun z1 z2 => nI (s.2.2.2 z1 z2)) ∧ jS = (fun z1 => nI (s.1 z1)) ∧ jT = (fun z1 => nI (rt s.2.1 z1)) ∧ jU = (fun z1 => nI (s.2.2.1 z1)) ∧ jV = (fun z1 => nI (rf s.2.2.2 z1))) ∧ ne = jW ∧ ∀ e, ne e = 0 ∨ ne e = 1
theorem k_xlk {s : dS} (h : kOk s) {vs : Nat → Int32} (hs : ∀ v, v < 6 → vs v = nI (sz v) ∧ sz v ≤ 8) : xlk (fun z1 => nI (s.2.2.1 z1)) (fun z1 z2 => nI (s.2.2.2 z1 z2)) (fun z1 => nI (s.1 z1)) (fun z1 z2 => nI (s.2.1 z1 z2)) vs s.2.2.1 s.2.2.2 s.1 s.2.1 sz :=
  ⟨fun e h1 h5 => ⟨rfl, h.2.2.1.1 e, fun i hi => ⟨rfl, h.2.2.2 e i h1 h5 hi⟩⟩, fun r h1 h4 => ⟨rfl, h.1 r, fun i hi => ⟨rfl, h.2.1 r i h1 h4 hi⟩⟩, hs⟩
theorem k_rlk {s : dS} (h : kOk s) {jL : Nat → Int32} (hs : ∀ v, v < 6 → jL v = nI (sz v) ∧ sz v ≤ 8) : rlk (fun z1 => nI (s.2.2.1 z1)) (fun z1 => nI (rf s.2.2.2 z1)) (fun z1 => nI (s.1 z1)) (fun z1 => nI (rt s.2.1 z1)) jL s.2.2.1 s.2.2.2 s.1 s.2.1 sz := by
  refine ⟨fun e h1 h5 => ⟨rfl, h.2.2.1.1 e, fun i hi => ⟨?_, h.2.2.2 e i h1 h5 hi⟩⟩, fun r h1 h4 => ⟨rfl, h.1 r, fun i hi => ⟨?_, h.2.1 r i h1 h4 hi⟩⟩, hs⟩
  · have := h.2.2.1.1 e
    show nI (rf s.2.2.2 (2 * e + i)) = _
    unfold rf
    rw [show (2 * e + i) / 2 = e by omega, show (2 * e + i) % 2 = i by omega]
  · have := h.1 r
    show nI (rt s.2.1 (3 * r + i)) = _
    unfold rt
    rw [show (3 * r + i) / 3 = r by omega, show (3 * r + i) % 3 = i by omega]
-- lists
theorem xcat_mem {f : Nat → List Int32} {x : Int32} : ∀ n, x ∈ xcat f n → ∃ i, i < n ∧ x ∈ f i := by
  intro n
  induction n with
  | zero => intro h; exact absurd h (by simp [xcat])
  | succ n ih =>
    intro h
    rw [xcat, List.mem_append] at h
    rcases h with h | h
    · obtain ⟨i, h1, h2⟩ := ih h
      exact ⟨i, by omega, h2⟩
    · exact ⟨n, by omega, h⟩
def RW6 (vf jF : Nat → Int32) (vb wb : Nat → Nat → Int32) (sz : Nat → Nat) : Prop := ∀ v, v < 6 → sz v ≤ 8 ∧ vf v = jF v ∧ (∃ f, f < 64 ∧ vf v = nI f) ∧ ∀ k, k < sz v → vb v k = wb v k ∧ isB (vb v k)
theorem wvL_eq {vf jF : Nat → Int32} {vb wb : Nat → Nat → Int32} (h : RW6 vf jF vb wb sz) {v : Nat} (hv : v < 6) : wvL jF sz wb v = wvL vf sz vb v := by
  obtain ⟨-, h2, -, h4⟩ := h v hv
  rw [wvL, wvL, h2, xcat_congr (f := fun k => [wb v k]) (g := fun k => [vb v k]) (sz v) (fun k hk => by show [wb v k] = [vb v k]; rw [(h4 k hk).1])]
theorem wvL_B {vf jF : Nat → Int32} {vb wb : Nat → Nat → Int32} (h : RW6 vf jF vb wb sz) {v : Nat} (hv : v < 6) : ∀ x ∈ wvL vf sz vb v, isB x := by
  obtain ⟨h1, h2, ⟨f, hf, h3⟩, h4⟩ := h v hv
  intro x hx
  rw [wvL, List.mem_append] at hx
  rcases hx with hx | hx
  · simp only [List.mem_cons, List.not_mem_nil, or_false] at hx
    rcases hx with rfl | rfl
    · rw [h3, show (4 : Int32) * nI f = nI (4 * f) from pk_mul 4 f, nI_1]
      exact isB_n (by omega)
    · exact isB_n (by omega)
  · obtain ⟨i, hi, hx⟩ := xcat_mem _ hx
    simp only [List.mem_singleton] at hx
    subst hx
    exact (h4 i hi).2
theorem rpL_eq {vf jF : Nat → Int32} {vb wb : Nat → Nat → Int32} (h : RW6 vf jF vb wb sz) {r : Nat} (hv : ∀ i, i < cv r → vp r i < 6) : rpL jF sz wb cv vp r = rpL vf sz vb cv vp r := by
  rw [rpL, rpL, xcat_congr (cv r) (fun i hi => wvL_eq h (hv i hi))]
theorem rpL_B {vf jF : Nat → Int32} {vb wb : Nat → Nat → Int32} (h : RW6 vf jF vb wb sz) {r : Nat} (hr : r < 256) (hc : cv r ≤ 3) (hv : ∀ i, i < cv r → vp r i < 6) : ∀ x ∈ rpL vf sz vb cv vp r, isB x := by
  intro x hx
  rw [rpL, List.mem_append] at hx
  rcases hx with hx | hx
  · simp only [List.mem_cons, List.not_mem_nil, or_false] at hx
    rcases hx with rfl | rfl | rfl | rfl | rfl | rfl | rfl
    · exact ⟨1, by decide, rfl⟩
    · exact ⟨2, by decide, rfl⟩
    · exact ⟨165, by decide, rfl⟩
    · exact ⟨1, by decide, rfl⟩
    · exact isB_n hr
    · exact ⟨1, by decide, rfl⟩
    · exact isB_n (by omega)
  · obtain ⟨i, hi, hx⟩ := xcat_mem _ hx
    exact wvL_B h (hv i hi) x hx
theorem evL_eq {s : dS} (hk : kOk s) {vf jF : Nat → Int32} {vb wb : Nat → Nat → Int32} (h : RW6 vf jF vb wb sz) {e : Nat} (h1 : 1 ≤ e) (h5 : e ≤ 5) : evL jF sz wb s.1 s.2.1 s.2.2.1 s.2.2.2 e = evL vf sz vb s.1 s.2.1 s.2.2.1 s.2.2.2 e := by
  rw [evL, evL, xcat_congr (s.2.2.1 e) (fun i hi => rpL_eq h (fun k hk2 => hk.2.1 _ k (hk.2.2.2 e i h1 h5 hi).1 (hk.2.2.2 e i h1 h5 hi).2 hk2))]
theorem evL_B {s : dS} (hk : kOk s) {vf jF : Nat → Int32} {vb wb : Nat → Nat → Int32} (h : RW6 vf jF vb wb sz) {e : Nat} (h1 : 1 ≤ e) (h5 : e ≤ 5) : ∀ x ∈ evL vf sz vb s.1 s.2.1 s.2.2.1 s.2.2.2 e, isB x := by
  intro x hx
  have h2 := hk.2.2.1.1 e
  rw [evL, List.mem_append] at hx
  rcases hx with hx | hx
  · simp only [List.mem_cons, List.not_mem_nil, or_false] at hx
    rcases hx with rfl | rfl | rfl | rfl | rfl | rfl | rfl | rfl | rfl | rfl
    · exact ⟨1, by decide, rfl⟩
    · exact ⟨3, by decide, rfl⟩
    · exact ⟨165, by decide, rfl⟩
    · exact ⟨1, by decide, rfl⟩
    · exact ⟨0, by decide, rfl⟩
    · exact ⟨165, by decide, rfl⟩
    · exact ⟨1, by decide, rfl⟩
    · exact isB_n (by omega)
    · exact ⟨1, by decide, rfl⟩
    · exact isB_n (by omega)
  · obtain ⟨i, hi, hx⟩ := xcat_mem _ hx
    obtain ⟨g1, g2⟩ := hk.2.2.2 e i h1 h5 hi
    exact rpL_B h (by omega) (hk.1 _) (fun k hk2 => hk.2.1 _ k g1 g2 hk2) x hx
theorem tvL_eq {vf jF : Nat → Int32} {vb wb : Nat → Nat → Int32} (h : RW6 vf jF vb wb sz) (v : Nat) : tvL jF sz wb v = tvL vf sz vb v := by
  unfold tvL
  by_cases hv : v < 6
  · rw [if_pos hv, if_pos hv, wvL_eq h hv]
  · rw [if_neg hv, if_neg hv]
theorem tvL_B {vf jF : Nat → Int32} {vb wb : Nat → Nat → Int32} (h : RW6 vf jF vb wb sz) (v : Nat) : ∀ x ∈ tvL vf sz vb v, isB x := by
  intro x hx
  unfold tvL at hx
  by_cases hv : v < 6
  · rw [if_pos hv] at hx
    exact wvL_B h hv x hx
  · rw [if_neg hv] at hx
    simp only [List.mem_cons, List.not_mem_nil, or_false] at hx
    rcases hx with rfl | rfl
    · exact ⟨1, by decide, rfl⟩
    · exact ⟨0, by decide, rfl⟩
-- the machine
def RMa (io sp ch wt je jp jx ju : Int32) : Prop := je = io ∧ jp = sp ∧ jx = ch ∧ ju = wt ∧ (io = 0 ∨ io = 1) ∧ (sp = 0 ∨ sp = 1) ∧ (sp = 1 → io = 1) ∧ (ch = 2 ∨ ch = 3)
def RJ (wt : Int32) (vb : Nat → Nat → Int32) : Prop := ∃ w : Nat, w ≤ 30 ∧ wt = nI w ∧ (vb 1 0 = 0 ∨ w < 30)
theorem xon_ge {c : Nat} (hc : c ≤ 3) : ¬ xon (nI c) = 0 ↔ 2 ≤ nI c := by
  have h : c = 0 ∨ c = 1 ∨ c = 2 ∨ c = 3 := by omega
  rcases h with rfl | rfl | rfl | rfl <;> decide
end RE2
