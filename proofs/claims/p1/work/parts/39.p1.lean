section P1
variable {l : Launch} {L : Nat} {xs : Nat → Int32} {J : xm_H → Prop} {a b : Int32}
theorem fr_hold (i : Int32) : xholds 0 i = 0 := by
  unfold xholds
  split
  · rfl
  next h =>
    split
    · rfl
    next h2 => exact absurd (Int32.not_le.mp h2) h
theorem fr_rh (i : Int32) (h : xrh 0 i) : False := h.2.1 (Int32.not_lt.mp h.1)
set_option maxRecDepth 100000 in
theorem f0 (hfl : l.flags = pinnedFlags ++ [noTraceFlag]) (hJ : ∀ hp : xm_H, hp[0]? = some (xI 0 L xs) → J hp) : XCall l 0 a b (xw1 L xs) J := by
  unfold xw1
  by_cases hc : a < 0 ∨ 255 < a
  · exact g0t hfl hc (fun _ _ _ => hJ _ rfl)
  have h0 : ¬ a < 0 := fun q => hc (Or.inl q)
  have h1 : a ≤ 255 := Int32.not_lt.mp fun q => hc (Or.inr q)
  by_cases h5 : a = 5
  · exact g0b rfl rfl (by unfold vp_in; decide) (by decide) h5 rfl (fun _ _ _ => hJ _ rfl)
  · exact g0a h0 h1 rfl (by decide) rfl (by decide) h5 (fun _ _ _ => hJ _ rfl)
set_option maxRecDepth 100000 in
theorem f1 (hfl : l.flags = pinnedFlags ++ [noTraceFlag]) (hJ : ∀ hp : xm_H, hp[0]? = some (xI 0 L xs) → J hp) : XCall l 1 a b (xw1 L xs) J := by
  unfold xw1
  by_cases hc : a < 1 ∨ 60 < a
  · exact g1t hfl hc (fun _ _ _ => hJ _ rfl)
  obtain ⟨n, h1, h2, h3⟩ := x_units hc
  exact g1n n h1 h2 h3 (by decide) (by decide) rfl (by decide) (by decide) (by decide) rfl (by decide) (fun _ _ _ => hJ _ rfl)
set_option maxRecDepth 100000 in
theorem f2 (hfl : l.flags = pinnedFlags ++ [noTraceFlag]) (hJ : ∀ hp : xm_H, hp[0]? = some (xI 0 L xs) → J hp) : XCall l 2 a b (xw1 L xs) J := by
  unfold xw1
  by_cases hc : a = 0
  · exact g2t hfl (if_pos hc) rfl rfl (fun _ _ _ => hJ _ rfl)
  · exact g2o hc 0 0 (by decide) (by decide) rfl rfl (by decide) (by decide) (by unfold vp_in; decide) (by unfold vp_in; decide) rfl rfl (by decide) (fun _ _ _ => hJ _ rfl)
set_option maxRecDepth 100000 in
theorem f3 (hfl : l.flags = pinnedFlags ++ [noTraceFlag]) (hJ : ∀ hp : xm_H, hp[0]? = some (xI 0 L xs) → J hp) : XCall l 3 a b (xw1 L xs) J := by
  unfold xw1
  by_cases h0 : a = 0
  · exact g3z h0 (by decide) (by decide) rfl rfl (fun _ _ _ => hJ _ rfl)
  by_cases h2 : a = 2
  · exact g3b h2 (by decide) (by decide) (by decide) (by decide) (fun q => q.2.1 rfl) (fun q => q.2.2.1 rfl) (fun _ _ _ => hJ _ rfl)
  by_cases h3 : a = 3
  · exact g3c h3 (by decide) (by decide) (by decide) (by decide) (fun q => q.2.1 rfl) (fun q => q.2.2.1 rfl) (fun _ _ _ => hJ _ rfl)
  exact g3t hfl h0 h2 h3 (fun _ _ _ => hJ _ rfl)
set_option maxRecDepth 100000 in
theorem f4 (hJ : ∀ hp : xm_H, hp[0]? = some (xI 0 L xs) → J hp) : XCall l 4 a b (xw1 L xs) J := by
  unfold xw1
  exact g4n (fun q => q.2.1 rfl) (by decide) (fun q => q.2.2.1 rfl) (by decide) (fun _ _ _ => hJ _ rfl)
set_option maxRecDepth 100000 in
theorem f_step (hfl : l.flags = pinnedFlags ++ [noTraceFlag]) (hL : L ≤ 3) : XStep l L xs (fun n hp => (n = 0 → hp = xw1 L xs) ∧ hp[0]? = some (xI 0 L xs)) := by
  intro n hp j hn hj hI
  obtain rfl : n = 0 := by omega
  obtain rfl := hI.1 rfl
  have hJ : ∀ hp : xm_H, hp[0]? = some (xI 0 L xs) → ((0 + 1 = 0 → hp = xw1 L xs) ∧ hp[0]? = some (xI 0 L xs)) := fun hp h => ⟨fun z => by omega, h⟩
  match j, hj with
  | 0, _ => exact f0 hfl hJ
  | 1, _ => exact f1 hfl hJ
  | 2, _ => exact f2 hfl hJ
  | 3, _ => exact f3 hfl hJ
  | 4, _ => exact f4 hJ
  | 5, _ => unfold xw1; exact c5 rfl (fun _ _ _ => hJ _ rfl)
  | 6, _ => unfold xw1; exact c6 hfl (fun i h => absurd (fr_hold i) h) (fun i _ h => fr_rh i h) (fun _ _ _ => hJ _ rfl)
  | 7, _ => unfold xw1; exact c7 hfl rfl rfl rfl rfl rfl rfl rfl rfl (fun _ _ _ => hJ _ rfl)
  | 8, _ => unfold xw1; exact c8 hfl (fun _ _ => rfl) (fun _ _ _ => hJ _ rfl)
  | 9, _ => unfold xw1; exact c9 hfl (fun _ _ => ⟨rfl, Iff.rfl⟩) (fun _ _ _ => hJ _ rfl)
  | 10, _ => unfold xw1; exact c10 hfl (fun _ _ => rfl) (fun _ _ _ => hJ _ rfl)
  | 11, _ => unfold xw1; exact c11 hfl (n := fun _ => 1) (fun _ _ => ⟨rfl, by decide⟩) (fun _ _ => rfl) (fun v k _ _ => by by_cases h : v = 0 <;> by_cases h2 : v = 1 <;> simp [h, h2]) (fun _ _ _ => hJ _ rfl)
  | j + 12, h => unfold xw1; exact c12 (by omega) (hJ _ rfl)
theorem f_laws (hfl : l.flags = pinnedFlags ++ [noTraceFlag]) (hL : L ≤ 3) : XLaw l L xs := xl_law1 (by omega) ⟨fun _ => rfl, rfl⟩ (fun n hp h => h.2) (f_step hfl hL)
end P1
