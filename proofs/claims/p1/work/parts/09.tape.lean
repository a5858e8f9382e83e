/-! Tape, and Math.floorMod -/
section TP
variable {l : Launch} {d : Nat} {hp : xm_H}
def xfm (x y : Int32) : Int32 := if x ^^^ y < 0 ∧ ¬ (x - x / y * y = 0) then x - x / y * y + y else x - x / y * y
theorem m41 (x y : Int32) (hy : ¬ y = 0) : XM l 41 d 0 0 [.int x, .int y] hp (xm_is (some (.int (xfm x y))) hp) := by
  refine XE (pl := [some (.int x), some (.int y), none]) xg41 rfl ?_
  iterate 2 refine x_step rfl ?_
  refine x_irem rfl hy ?_
  iterate 4 refine x_step rfl ?_
  refine x_if_ge rfl (fun q1 => ?_) (fun q1 => ?_)
  · refine x_step rfl ?_
    exact x_iret rfl rfl rfl ⟨by rw [xfm, if_neg]; exact fun h => (Int32.not_lt.mpr q1) h.1, rfl⟩
  · refine x_step rfl ?_
    refine x_if_eq rfl (fun q2 => ?_) (fun q2 => ?_)
    · refine x_step rfl ?_
      exact x_iret rfl rfl rfl ⟨by rw [xfm, if_neg]; exact fun h => h.2 q2, rfl⟩
    · iterate 3 refine x_step rfl ?_
      exact x_iret rfl rfl rfl ⟨by rw [xfm, if_pos ⟨Int32.not_le.mp q1, q2⟩], rfl⟩
def xholds (c i : Int32) : Int32 := if i < 0 then 0 else if c ≤ i then 0 else if 501 < c - i then 0 else 1
theorem m154 {a b : Nat} {c : Int32} (i : Int32) (h1 : hp[a]? = some (xO 1 [.ref b, .int c])) : XM l 154 d 0 0 [.ref a, .int i] hp (xm_is (some (.int (xholds c i))) hp) := by
  refine XE (pl := [some (.ref a), some (.int i)]) xg154 rfl ?_
  refine x_step rfl ?_
  refine x_if_lt rfl (fun q1 => ?_) (fun q1 => ?_)
  · refine x_step rfl ?_
    exact x_iret rfl rfl rfl ⟨by simp [xholds, q1], rfl⟩
  · iterate 2 refine x_step rfl ?_
    refine x_getf rfl h1 rfl ?_
    refine x_icmp_ge rfl (fun q2 => ?_) (fun q2 => ?_)
    · refine x_step rfl ?_
      exact x_iret rfl rfl rfl ⟨by simp [xholds, q1, q2], rfl⟩
    · refine x_step rfl ?_
      refine x_getf rfl h1 rfl ?_
      iterate 3 refine x_step rfl ?_
      refine x_icmp_gt rfl (fun q3 => ?_) (fun q3 => ?_)
      · refine x_step rfl ?_
        exact x_iret rfl rfl rfl ⟨by simp [xholds, q1, q2, q3], rfl⟩
      · iterate 2 refine x_step rfl ?_
        exact x_iret rfl rfl rfl ⟨by simp [xholds, q1, q2, q3], rfl⟩
theorem m40 {a b : Nat} {c : Int32} {f : Nat → Int32} (x : Int32) (hd : 1 ≤ d) (ha : xm_c0 ≤ a) (hb : xm_c0 ≤ b) (hab : a ≠ b) (hc : vp_in (xfm c 501) 501) (h1 : hp[a]? = some (xO 1 [.ref b, .int c])) (h2 : hp[b]? = some (xI 0 501 f)) : XM l 40 d 0 0 [.ref a, .int x] hp (xm_is none ((hp.set b (xI 0 501 (upd f (xfm c 501).toNatClampNeg x))).set a (xO 1 [.ref b, .int (c + 1)]))) := by
  refine XE (pl := [some (.ref a), some (.int x)]) xg40 rfl ?_
  refine x_step rfl ?_
  refine x_getf rfl h1 rfl ?_
  refine x_step rfl ?_
  refine x_getf rfl h1 rfl ?_
  refine x_step rfl ?_
  refine x_callsE rfl (m41 (d := 0) c 501 (by decide)) rfl rfl ?_
  refine x_step rfl ?_
  refine x_iast rfl h2 hb rfl hc ?_
  have h3 : (hp.set b (xI 0 501 (upd f (xfm c 501).toNatClampNeg x)))[a]? = some (xO 1 [.ref b, .int c]) := by rw [List.getElem?_set_ne (Ne.symm hab)]; exact h1
  iterate 2 refine x_step rfl ?_
  refine x_getf rfl h3 rfl ?_
  iterate 2 refine x_step rfl ?_
  refine x_putf rfl h3 (Nat.le_of_ble_eq_true rfl) ha rfl rfl ?_
  exact x_ret rfl rfl ⟨rfl, rfl⟩
end TP
