/-! One step as a function: what straight stretches do, so that a stretch is walked by rfl. -/
abbrev xm_F : Type := Nat × List (Option Value) × List Value × xm_H
/-- constants, the stack, arithmetic -/
def xm_sA (i : Instr) (nx r1 : Nat) (v : Int32) (pl : List (Option Value)) (st : List Value) (hp : xm_H) : Option xm_F := match i with
  | .iconst _ => some (nx, pl, .int v :: st, hp)
  | .bipush _ => some (nx, pl, .int v :: st, hp)
  | .sipush _ => some (nx, pl, .int v :: st, hp)
  | .goto _ => some (r1, pl, st, hp)
  | .iadd => match st with
    | .int y :: .int x :: st => some (nx, pl, .int (x + y) :: st, hp)
    | _ => none
  | .isub => match st with
    | .int y :: .int x :: st => some (nx, pl, .int (x - y) :: st, hp)
    | _ => none
  | .imul => match st with
    | .int y :: .int x :: st => some (nx, pl, .int (x * y) :: st, hp)
    | _ => none
  | .iand => match st with
    | .int y :: .int x :: st => some (nx, pl, .int (x &&& y) :: st, hp)
    | _ => none
  | .ior => match st with
    | .int y :: .int x :: st => some (nx, pl, .int (x ||| y) :: st, hp)
    | _ => none
  | .ixor => match st with
    | .int y :: .int x :: st => some (nx, pl, .int (x ^^^ y) :: st, hp)
    | _ => none
  | .ishl => match st with
    | .int y :: .int x :: st => some (nx, pl, .int (x <<< (y &&& 31)) :: st, hp)
    | _ => none
  | .ishr => match st with
    | .int y :: .int x :: st => some (nx, pl, .int (x >>> (y &&& 31)) :: st, hp)
    | _ => none
  | .iushr => match st with
    | .int y :: .int x :: st => some (nx, pl, .int ((x.toUInt32 >>> (y.toUInt32 &&& Int32.toUInt32 31)).toInt32) :: st, hp)
    | _ => none
  | .ineg => match st with
    | .int x :: st => some (nx, pl, .int (-x) :: st, hp)
    | _ => none
  | .i2l => match st with
    | .int x :: st => some (nx, pl, .long (x.toInt64) :: st, hp)
    | _ => none
  | .lcmp => match st with
    | .long y :: .long x :: st => some (nx, pl, .int (lg_cmp x y) :: st, hp)
    | _ => none
  | .dup => match st with
    | .int x :: st => some (nx, pl, .int x :: .int x :: st, hp)
    | .ref x :: st => some (nx, pl, .ref x :: .ref x :: st, hp)
    | _ => none
  | .pop => match st with
    | .int _ :: st => some (nx, pl, st, hp)
    | .ref _ :: st => some (nx, pl, st, hp)
    | _ => none
  | .dup2 => match st with
    | .int x :: .ref y :: st => some (nx, pl, .int x :: .ref y :: .int x :: .ref y :: st, hp)
    | _ => none
  | _ => none
/-- locals -/
def xm_sL (k : Nat) (i : Instr) (nx : Nat) (v : Int32) (pl : List (Option Value)) (st : List Value) (hp : xm_H) : Option xm_F := match i, st with
  | .iload j, st => match pl[j]? with
    | some (some (.int x)) => some (nx, pl, .int x :: st, hp)
    | _ => none
  | .iload_n j, st => match pl[(j : Nat)]? with
    | some (some (.int x)) => some (nx, pl, .int x :: st, hp)
    | _ => none
  | .aload j, st => match pl[j]? with
    | some (some (.ref x)) => some (nx, pl, .ref x :: st, hp)
    | _ => none
  | .aload_n j, st => match pl[(j : Nat)]? with
    | some (some (.ref x)) => some (nx, pl, .ref x :: st, hp)
    | _ => none
  | .istore j, .int x :: st => if j < xm_ml k then some (nx, pl.set j (some (.int x)), st, hp) else none
  | .istore_n j, .int x :: st => if (j : Nat) < xm_ml k then some (nx, pl.set j (some (.int x)), st, hp) else none
  | .astore j, .ref x :: st => if j < xm_ml k then some (nx, pl.set j (some (.ref x)), st, hp) else none
  | .astore_n j, .ref x :: st => if (j : Nat) < xm_ml k then some (nx, pl.set j (some (.ref x)), st, hp) else none
  | .iinc j _, st => if j < xm_ml k then match pl[j]? with
      | some (some (.int x)) => some (nx, pl.set j (some (.int (x + v))), st, hp)
      | _ => none
    else none
  | _, _ => none
/-- fields: reading, and writing an int or a reference -/
def xm_sF (i : Instr) (nx r1 r2 : Nat) (pl : List (Option Value)) (st : List Value) (hp : xm_H) : Option xm_F := match i, st with
  | .getfield _, .ref a :: st => match hp[a]? with
    | some (some (.inr (.inr (.inl (c, fs))))) => if c = r1 then match fs[r2]? with
        | some x => some (nx, pl, x :: st, hp)
        | none => none
      else none
    | _ => none
  | .putfield _, .int x :: .ref a :: st => match hp[a]? with
    | some (some (.inr (.inr (.inl (c, fs))))) => if c = r1 ∧ xm_c0 ≤ a ∧ r2 < fs.length ∧ xm_ft r1 r2 = .int then some (nx, pl, st, hp.set a (xO r1 (fs.set r2 (.int x)))) else none
    | _ => none
  | .putfield _, .ref x :: .ref a :: st => match hp[a]? with
    | some (some (.inr (.inr (.inl (c, fs))))) => if c = r1 ∧ xm_c0 ≤ a ∧ r2 < fs.length ∧ (xm_ft r1 r2).isReference = true then some (nx, pl, st, hp.set a (xO r1 (fs.set r2 (.ref x)))) else none
    | _ => none
  | _, _ => none
def xm_step (k pc : Nat) (pl : List (Option Value)) (st : List Value) (hp : xm_H) : Option xm_F := match xm_code k pc with
  | none => none
  | some (i, nx, r1, r2, v) => match xm_sA i nx r1 v pl st hp with
    | some f => some f
    | none => match xm_sL k i nx v pl st hp with
      | some f => some f
      | none => xm_sF i nx r1 r2 pl st hp
section XS
variable {l : Launch} {k d rc rs pc nx r1 r2 pc' : Nat} {i : Instr} {pl pl' : List (Option Value)} {st st' : List Value} {hp hp' : xm_H} {Q : xm_Q} {v : Int32}
theorem xm_sA_ok (hf : xm_code k pc = some (i, nx, r1, r2, v)) (h : xm_sA i nx r1 v pl st hp = some (pc', pl', st', hp')) (kk : XG l xm_any k d rc rs pc' pl' st' hp' Q) : XG l xm_any k d rc rs pc pl st hp Q := by
  unfold xm_sA at h
  split at h
  · cases h; exact x_iconst hf kk
  · cases h; exact x_bipush hf kk
  · cases h; exact x_sipush hf kk
  · cases h; exact x_goto hf kk
  · split at h
    · cases h; exact x_iadd hf kk
    · cases h
  · split at h
    · cases h; exact x_isub hf kk
    · cases h
  · split at h
    · cases h; exact x_imul hf kk
    · cases h
  · split at h
    · cases h; exact x_iand hf kk
    · cases h
  · split at h
    · cases h; exact x_ior hf kk
    · cases h
  · split at h
    · cases h; exact x_ixor hf kk
    · cases h
  · split at h
    · cases h; exact x_ishl hf kk
    · cases h
  · split at h
    · cases h; exact x_ishr hf kk
    · cases h
  · split at h
    · cases h; exact x_iushr hf kk
    · cases h
  · split at h
    · cases h; exact x_ineg hf kk
    · cases h
  · split at h
    · cases h; exact x_i2l hf kk
    · cases h
  · split at h
    · cases h; exact x_lcmp hf kk
    · cases h
  · split at h
    · cases h; exact x_dup hf rfl kk
    · cases h; exact x_dup hf rfl kk
    · cases h
  · split at h
    · cases h; exact x_pop hf rfl kk
    · cases h; exact x_pop hf rfl kk
    · cases h
  · split at h
    · cases h; exact x_dup2 hf rfl rfl kk
    · cases h
  · cases h
theorem xm_sL_ok (hf : xm_code k pc = some (i, nx, r1, r2, v)) (h : xm_sL k i nx v pl st hp = some (pc', pl', st', hp')) (kk : XG l xm_any k d rc rs pc' pl' st' hp' Q) : XG l xm_any k d rc rs pc pl st hp Q := by
  unfold xm_sL at h
  split at h
  · split at h
    next hl => cases h; exact x_iload hf hl kk
    next => cases h
  · split at h
    next hl => cases h; exact x_iload_n hf hl kk
    next => cases h
  · split at h
    next hl => cases h; exact x_aload hf hl kk
    next => cases h
  · split at h
    next hl => cases h; exact x_aload_n hf hl kk
    next => cases h
  · split at h
    next hi => cases h; exact x_istore hf hi kk
    next => cases h
  · split at h
    next hi => cases h; exact x_istore_n hf hi kk
    next => cases h
  · split at h
    next hi => cases h; exact x_astore hf hi kk
    next => cases h
  · split at h
    next hi => cases h; exact x_astore_n hf hi kk
    next => cases h
  · split at h
    next hi =>
      split at h
      next hl => cases h; exact x_iinc hf hl hi kk
      next => cases h
    next => cases h
  · cases h
theorem xm_sF_ok (hf : xm_code k pc = some (i, nx, r1, r2, v)) (h : xm_sF i nx r1 r2 pl st hp = some (pc', pl', st', hp')) (kk : XG l xm_any k d rc rs pc' pl' st' hp' Q) : XG l xm_any k d rc rs pc pl st hp Q := by
  unfold xm_sF at h
  split at h
  · split at h
    next c fs he =>
      split at h
      next hc =>
        subst hc
        split at h
        next x hx => cases h; exact x_getf hf he hx kk
        next => cases h
      next => cases h
    next => cases h
  · split at h
    next c fs he =>
      split at h
      next hc =>
        obtain ⟨rfl, h1, h2, h3⟩ := hc
        cases h
        exact x_putf hf he h2 h1 (by rw [h3]; rfl) (by rw [h3]; rfl) kk
      next => cases h
    next => cases h
  · split at h
    next c fs he =>
      split at h
      next hc =>
        obtain ⟨rfl, h1, h2, h3⟩ := hc
        cases h
        refine x_putf hf he h2 h1 ?_ ?_ kk
        · cases hty : xm_ft c r2 <;> first | rfl | (rw [hty] at h3; cases h3)
        · cases hty : xm_ft c r2 <;> first | rfl | (rw [hty] at h3; cases h3)
      next => cases h
    next => cases h
  · cases h
theorem x_step (h : xm_step k pc pl st hp = some (pc', pl', st', hp')) (kk : XG l xm_any k d rc rs pc' pl' st' hp' Q) : XG l xm_any k d rc rs pc pl st hp Q := by
  unfold xm_step at h
  split at h
  next => cases h
  next i nx r1 r2 v hf =>
    split at h
    next f hA => cases h; exact xm_sA_ok hf hA kk
    next =>
      split at h
      next f hL => cases h; exact xm_sL_ok hf hL kk
      next => exact xm_sF_ok hf h kk
theorem XE {Q0 : Option Value → xm_H → Prop} {mc ms : Nat} {as : List Value} (hg : xm_good k) (hpl : as.map some ++ List.replicate (xm_ml k - as.length) none = pl) (h : XG l xm_any k d mc ms 0 pl [] hp (xm_ret Q0)) (hpn : plainFor (xm_nm k) = true := by decide +kernel) (hca : as.all (fun v => Nat.beq v.category 1) = true := by rfl) (hle : Nat.ble as.length (xm_ml k) = true := by rfl) : XM l k d mc ms as hp Q0 :=
  XM_of hg hpn (fun v hv => Nat.eq_of_beq_eq_true (List.all_eq_true.mp hca v hv)) (Nat.le_of_ble_eq_true hle) hpl h
end XS
