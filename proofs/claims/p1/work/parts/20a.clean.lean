/-! straight steps on clean roads; read-only contracts -/
def xm_stepC (k pc : Nat) (pl : List (Option Value)) (st : List Value) (hp : xm_H) : Option xm_F := match xm_code k pc with
  | none => none
  | some (i, nx, r1, r2, v) => match xm_sA i nx r1 v pl st hp with
    | some f => some f
    | none => match xm_sL k i nx v pl st hp with
      | some f => some f
      | none => match i, st with
        | .getfield _, .ref a :: st => match hp[a]? with
          | some (some (.inr (.inr (.inl (c, fs))))) => if c = r1 then match fs[r2]? with
              | some x => some (nx, pl, x :: st, hp)
              | none => none
            else none
          | _ => none
        | _, _ => none
section XSC
variable {l : Launch} {P : xm_P} {k d rc rs pc nx r1 r2 pc' : Nat} {i : Instr} {pl pl' : List (Option Value)} {st st' : List Value} {hp hp' : xm_H} {Q : xm_Q} {v : Int32}
theorem xm_sA_okC (hf : xm_code k pc = some (i, nx, r1, r2, v)) (h : xm_sA i nx r1 v pl st hp = some (pc', pl', st', hp')) (kk : XG l P k d rc rs pc' pl' st' hp' Q) : XG l P k d rc rs pc pl st hp Q := by
  unfold xm_sA at h
  split at h
  · cases h; exact x_iconst hf kk
  · cases h; exact x_bipush hf kk
  · cases h; exact x_sipush hf kk
  · cases h; exact x_goto hf kk
  · split at h
    · cases h; exact x_iadd hf kk
    · cases h
  · split at h
    · cases h; exact x_isub hf kk
    · cases h
  · split at h
    · cases h; exact x_imul hf kk
    · cases h
  · split at h
    · cases h; exact x_iand hf kk
    · cases h
  · split at h
    · cases h; exact x_ior hf kk
    · cases h
  · split at h
    · cases h; exact x_ixor hf kk
    · cases h
  · split at h
    · cases h; exact x_ishl hf kk
    · cases h
  · split at h
    · cases h; exact x_ishr hf kk
    · cases h
  · split at h
    · cases h; exact x_iushr hf kk
    · cases h
  · split at h
    · cases h; exact x_ineg hf kk
    · cases h
  · split at h
    · cases h; exact x_i2l hf kk
    · cases h
  · split at h
    · cases h; exact x_lcmp hf kk
    · cases h
  · split at h
    · cases h; exact x_dup hf rfl kk
    · cases h; exact x_dup hf rfl kk
    · cases h
  · split at h
    · cases h; exact x_pop hf rfl kk
    · cases h; exact x_pop hf rfl kk
    · cases h
  · split at h
    · cases h; exact x_dup2 hf rfl rfl kk
    · cases h
  · cases h
theorem xm_sL_okC (hf : xm_code k pc = some (i, nx, r1, r2, v)) (h : xm_sL k i nx v pl st hp = some (pc', pl', st', hp')) (kk : XG l P k d rc rs pc' pl' st' hp' Q) : XG l P k d rc rs pc pl st hp Q := by
  unfold xm_sL at h
  split at h
  · split at h
    next hl => cases h; exact x_iload hf hl kk
    next => cases h
  · split at h
    next hl => cases h; exact x_iload_n hf hl kk
    next => cases h
  · split at h
    next hl => cases h; exact x_aload hf hl kk
    next => cases h
  · split at h
    next hl => cases h; exact x_aload_n hf hl kk
    next => cases h
  · split at h
    next hi => cases h; exact x_istore hf hi kk
    next => cases h
  · split at h
    next hi => cases h; exact x_istore_n hf hi kk
    next => cases h
  · split at h
    next hi => cases h; exact x_astore hf hi kk
    next => cases h
  · split at h
    next hi => cases h; exact x_astore_n hf hi kk
    next => cases h
  · split at h
    next hi =>
      split at h
      next hl => cases h; exact x_iinc hf hl hi kk
      next => cases h
    next => cases h
  · cases h
theorem x_stepC (h : xm_stepC k pc pl st hp = some (pc', pl', st', hp')) (kk : XG l P k d rc rs pc' pl' st' hp' Q) : XG l P k d rc rs pc pl st hp Q := by
  unfold xm_stepC at h
  split at h
  next => cases h
  next i nx r1 r2 v hf =>
    split at h
    next f hA => cases h; exact xm_sA_okC hf hA kk
    next =>
      split at h
      next f hL => cases h; exact xm_sL_okC hf hL kk
      next =>
        split at h
        · split at h
          next c fs he =>
            split at h
            next hc =>
              subst hc
              split at h
              next x hx => cases h; exact x_getf hf he hx kk
              next => cases h
            next => cases h
          next => cases h
        · cases h
theorem XER {as : List Value} {v0 : Option Value} (hg : xm_good k) (hpl : as.map some ++ List.replicate (xm_ml k - as.length) none = pl) (h : XG l xm_clean k d 0 0 0 pl [] hp (xm_retR v0)) (hpn : plainFor (xm_nm k) = true := by decide +kernel) (hca : as.all (fun v => Nat.beq v.category 1) = true := by rfl) (hle : Nat.ble as.length (xm_ml k) = true := by rfl) : XMR l k d as hp v0 := by
  intro G
  refine va_MetF (cc := xm_by k) (maxL := xm_ml k) (ret := xm_rt k) hpn rfl ?_
  intro p e s m args below meth c s₁ B hml hv
  obtain ⟨rfl, hK, hR⟩ := hv
  rw [lg_entry_eq]
  have hsz : G.2.2.2 ≤ s.heap.size := by have h1 := hR.1; have h2 := hR.2.1; omega
  exact h G p e _ s m _ below meth c s.heap [] 0 0 _ ⟨⟨hg, B.exec, B.bytes, hml, findClass_of_methodNamed B.named, B.returns, B.notSynchronized, (name_of_methodNamed B.named B.method).1, hK, Nat.le_refl _, Nat.le_refl _, by simp [headSpec], by simp [headSpec], fun q hq => (by cases hq), fun q _ => rfl, hsz, B.named⟩, rfl, rfl, rfl, rfl⟩ hR (xm_entryL (fun v hv => Nat.eq_of_beq_eq_true (List.all_eq_true.mp hca v hv)) (Nat.le_of_ble_eq_true hle) hpl)
theorem x_callvRE {idx j n dd a c0 : Nat} {as rest : List Value} {fs : List Value} {v0 : Option Value} (hf : xm_code k pc = some (.invokevirtual idx, nx, j, n, v)) (hM : XMR l j dd (.ref a :: as) hp v0) (hst : st = as.reverse ++ .ref a :: rest) (hn0 : as.length = n) (he : hp[a]? = some (xO c0 fs)) (kk : XG l xm_clean k d rc rs nx pl (v0.toList ++ rest) hp Q) (hcn : xm_cl[c0]?.map (fun r => r.1) = some (xm_nm j).cls := by rfl) (hj9 : ¬ 900 ≤ j := by decide) (hdd : dd < d := by omega) (hw8 : Nat.ble (rest.map fun v => v.category).sum 8 = true := by rfl) : XG l xm_clean k d rc rs pc pl st hp Q :=
  x_callvR hf hj9 hM hdd hst hn0 (Nat.le_of_ble_eq_true hw8) he hcn kk
theorem x_callsRE {idx j n dd : Nat} {as rest : List Value} {v0 : Option Value} (hf : xm_code k pc = some (.invokestatic idx, nx, j, n, v)) (hM : XMR l j dd as hp v0) (hst : st = as.reverse ++ rest) (hn0 : as.length = n) (kk : XG l xm_clean k d rc rs nx pl (v0.toList ++ rest) hp Q) (hj9 : ¬ 900 ≤ j := by decide) (hdd : dd < d := by omega) (hw8 : Nat.ble (rest.map fun v => v.category).sum 8 = true := by rfl) : XG l xm_clean k d rc rs pc pl st hp Q :=
  x_callsR hf hj9 hM hdd hst hn0 (Nat.le_of_ble_eq_true hw8) kk
/-- a throw: new X(text) at pc -/
theorem x_thrE {X : String} {iC iS iI a0 a1 : Nat} {h0 : xm_H} {q1 q2 q3 q4 q5 q6 q7 q8 q9 : Nat} {v0 v1 v2 v3 v4 : Int32} (hfl : l.flags = pinnedFlags ++ [noTraceFlag]) (hX : xm_twok X = true)
    (f0 : xm_code k pc = some (.new iC, pc + 3, q1, q2, v0)) (f1 : xm_code k (pc + 3) = some (.dup, pc + 4, q3, q4, v1)) (f2 : xm_code k (pc + 4) = some (.ldc iS, pc + 6, a0, 900, v2)) (f3 : xm_code k (pc + 6) = some (.invokespecial iI, pc + 9, q5, q6, v3)) (f4 : xm_code k (pc + 9) = some (.athrow, q7, q8, q9, v4))
    (hlC : xm_lk (xm_pn k) iC = some (.classLink (xm_nm k).cls iC X)) (hlI : xm_lk (xm_pn k) iI = some (.methodLink (xm_nm k).cls iI (Bundle.initS X)))
    (h31 : hp[31]? = some (xS 0)) (ha1 : hp.length = a1) (hh0 : hp ++ [none] = h0) (hkd : xm_kd k = 1 := by rfl) (hkM : k < xm_nM := by decide +kernel) (hXf : Bundle.fit X = true := by decide +kernel) (hon : (xm_twA X ++ xm_twB X).all (fun w => w.onTables || xm_isLS w) = true := by decide +kernel) (hd6 : 6 ≤ d := by omega) (hw8 : (st.map fun v => v.category).sum ≤ 8 := by decide) (hrc : 1 ≤ rc := by omega) (hrs : 6 ≤ rs := by omega) : XG l xm_clean k d rc rs pc pl st hp (xm_thr X a1 h0) := by
  subst ha1 hh0
  exact x_throw hfl hX hXf hon f0 f1 f2 f3 f4 hlC hlI h31 hkd hkM hd6 hw8 hrc hrs
end XSC
