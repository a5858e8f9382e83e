/-! the law's helpers -/
section XH
variable {l : Launch} {k d rc rs pc nx : Nat} {pl : List (Option Value)} {st : List Value} {hp hp1 h0 : xm_H} {Q : xm_Q} {v : Int32} {dd mc ms a1 : Nat} {fs : List Value} {f : Nat → Value} {a b r : Int32} {X : String}
theorem XEW {Q0 : Option Value → xm_H → Prop} {as : List Value} (hg : xm_good k) (hpl : as.map some ++ List.replicate (xm_ml k - as.length) none = pl) (h : XG l xm_any k d mc ms 0 pl [] hp (xm_ret Q0)) (hpn : plainName (xm_nm k).cls = true := by decide +kernel) (hca : as.all (fun v => Nat.beq v.category 1) = true := by rfl) (hle : Nat.ble as.length (xm_ml k) = true := by rfl) : XMW l k d mc ms as hp Q0 :=
  XMW_of hg hpn (fun v hv => Nat.eq_of_beq_eq_true (List.all_eq_true.mp hca v hv)) (Nat.le_of_ble_eq_true hle) hpl h
theorem XET {as : List Value} (hg : xm_good k) (hpl : as.map some ++ List.replicate (xm_ml k - as.length) none = pl) (h : XG l xm_clean k d mc ms 0 pl [] hp (xm_thr X a1 h0)) (hpn : plainFor (xm_nm k) = true := by decide +kernel) (hca : as.all (fun v => Nat.beq v.category 1) = true := by rfl) (hle : Nat.ble as.length (xm_ml k) = true := by rfl) : XMT l k d mc ms as hp X a1 h0 :=
  XMT_of hg hpn (fun v hv => Nat.eq_of_beq_eq_true (List.all_eq_true.mp hca v hv)) (Nat.le_of_ble_eq_true hle) hpl h
theorem xh_ini : Cond.initialized "FabLinkLaw" ∈ tables_1 := by
  unfold tables_1
  simp only [List.mem_append]
  exact Or.inl (List.mem_of_getElem? (i := 0) rfl)
theorem xh241 : Cond.codeWith (xm_nm 241) (xm_by 241) (xm_ml 241) (xm_rt 241) (xm_hh 241) ∈ tables_1 := by
  unfold tables_1
  simp only [List.mem_append]
  exact Or.inr (Or.inl (List.mem_of_getElem? (i := 183) rfl))
theorem xhs241 : Cond.static (xm_nm 241) ∈ tables_1 := by
  unfold tables_1
  simp only [List.mem_append]
  exact Or.inr (Or.inl (List.mem_of_getElem? (i := 182) rfl))
/-- hear: an answer -/
theorem h241r (hM : XM l 45 dd mc ms [.ref 32, .int a] hp (xm_is (some (.int r)) hp1)) (hdd : dd < d) (he : hp[32]? = some (xO 0 fs)) (hl : hp1[121]? = some (xV 1 1 f)) : XMW l 241 d mc ms [.ref 32, .int a, .ref 121] hp (xm_is (some (.int 0)) (hp1.set 121 (xV 1 1 (updV f 0 (.long r.toInt64))))) := by
  refine XEW (pl := [some (.ref 32), some (.int a), some (.ref 121), none]) xg241 rfl ?_
  iterate 4 refine x_step rfl ?_
  refine x_callvE (a := 32) (as := [.int a]) (rest := [.int 0, .ref 121]) rfl hM rfl rfl he ?_
  refine x_step rfl ?_
  refine x_last rfl hl (by decide) rfl (by unfold vp_in; decide) ?_
  iterate 2 refine x_step rfl ?_
  exact x_iret rfl rfl rfl ⟨rfl, rfl⟩
/-- hear: a throw -/
theorem h241t (hM : XMT l 45 dd mc ms [.ref 32, .int a] hp "java/lang/IllegalArgumentException" a1 h0) (hdd : dd < d) (he : hp[32]? = some (xO 0 fs)) : XMW l 241 d mc ms [.ref 32, .int a, .ref 121] hp (xm_is (some (.int 1)) h0) := by
  refine XEW (pl := [some (.ref 32), some (.int a), some (.ref 121), none]) xg241 rfl ?_
  iterate 4 refine x_step rfl ?_
  refine x_callvT (a := 32) (as := [.int a]) (rest := [.int 0, .ref 121]) (s0 := 0) (e0 := 9) (hpc := 12) (ct := 13) rfl (by decide) hM hdd (Nat.le_refl _) (Nat.le_refl _) rfl rfl (by decide) he rfl rfl rfl xh241 ⟨by decide, by decide⟩ (by decide) rfl ?_
  iterate 2 refine x_step rfl ?_
  exact x_iret rfl rfl rfl ⟨rfl, rfl⟩
theorem xh242 : Cond.codeWith (xm_nm 242) (xm_by 242) (xm_ml 242) (xm_rt 242) (xm_hh 242) ∈ tables_1 := by
  unfold tables_1
  simp only [List.mem_append]
  exact Or.inr (Or.inr (Or.inr (Or.inr (Or.inl (List.mem_of_getElem? (i := 24) rfl)))))
theorem xhs242 : Cond.static (xm_nm 242) ∈ tables_1 := by
  unfold tables_1
  simp only [List.mem_append]
  exact Or.inr (Or.inr (Or.inr (Or.inr (Or.inl (List.mem_of_getElem? (i := 23) rfl)))))
/-- tick: an answer -/
theorem h242r (hM : XM l 145 dd mc ms [.ref 32, .int a] hp (xm_is (some (.int r)) hp1)) (hdd : dd < d) (he : hp[32]? = some (xO 0 fs)) (hl : hp1[121]? = some (xV 1 1 f)) : XMW l 242 d mc ms [.ref 32, .int a, .ref 121] hp (xm_is (some (.int 0)) (hp1.set 121 (xV 1 1 (updV f 0 (.long r.toInt64))))) := by
  refine XEW (pl := [some (.ref 32), some (.int a), some (.ref 121), none]) xg242 rfl ?_
  iterate 4 refine x_step rfl ?_
  refine x_callvE (a := 32) (as := [.int a]) (rest := [.int 0, .ref 121]) rfl hM rfl rfl he ?_
  refine x_step rfl ?_
  refine x_last rfl hl (by decide) rfl (by unfold vp_in; decide) ?_
  iterate 2 refine x_step rfl ?_
  exact x_iret rfl rfl rfl ⟨rfl, rfl⟩
/-- tick: a throw -/
theorem h242t (hM : XMT l 145 dd mc ms [.ref 32, .int a] hp "java/lang/IllegalArgumentException" a1 h0) (hdd : dd < d) (he : hp[32]? = some (xO 0 fs)) : XMW l 242 d mc ms [.ref 32, .int a, .ref 121] hp (xm_is (some (.int 1)) h0) := by
  refine XEW (pl := [some (.ref 32), some (.int a), some (.ref 121), none]) xg242 rfl ?_
  iterate 4 refine x_step rfl ?_
  refine x_callvT (a := 32) (as := [.int a]) (rest := [.int 0, .ref 121]) (s0 := 0) (e0 := 9) (hpc := 12) (ct := 13) rfl (by decide) hM hdd (Nat.le_refl _) (Nat.le_refl _) rfl rfl (by decide) he rfl rfl rfl xh242 ⟨by decide, by decide⟩ (by decide) rfl ?_
  iterate 2 refine x_step rfl ?_
  exact x_iret rfl rfl rfl ⟨rfl, rfl⟩
theorem xh243 : Cond.codeWith (xm_nm 243) (xm_by 243) (xm_ml 243) (xm_rt 243) (xm_hh 243) ∈ tables_1 := by
  unfold tables_1
  simp only [List.mem_append]
  exact Or.inr (Or.inr (Or.inr (Or.inr (Or.inl (List.mem_of_getElem? (i := 46) rfl)))))
theorem xhs243 : Cond.static (xm_nm 243) ∈ tables_1 := by
  unfold tables_1
  simp only [List.mem_append]
  exact Or.inr (Or.inr (Or.inr (Or.inr (Or.inl (List.mem_of_getElem? (i := 45) rfl)))))
/-- enable: an answer -/
theorem h243r (hM : XM l 149 dd mc ms [.ref 32, .int a] hp (xm_is (none) hp1)) (hdd : dd < d) (he : hp[32]? = some (xO 0 fs)) : XMW l 243 d mc ms [.ref 32, .int a] hp (xm_is (some (.int 0)) hp1) := by
  refine XEW (pl := [some (.ref 32), some (.int a), none]) xg243 rfl ?_
  iterate 2 refine x_step rfl ?_
  refine x_callvE (a := 32) (as := [.int a]) (rest := []) rfl hM rfl rfl he ?_
  iterate 2 refine x_step rfl ?_
  exact x_iret rfl rfl rfl ⟨rfl, rfl⟩
/-- enable: a throw -/
theorem h243t (hM : XMT l 149 dd mc ms [.ref 32, .int a] hp "java/lang/IllegalStateException" a1 h0) (hdd : dd < d) (he : hp[32]? = some (xO 0 fs)) : XMW l 243 d mc ms [.ref 32, .int a] hp (xm_is (some (.int 1)) h0) := by
  refine XEW (pl := [some (.ref 32), some (.int a), none]) xg243 rfl ?_
  iterate 2 refine x_step rfl ?_
  refine x_callvT (a := 32) (as := [.int a]) (rest := []) (s0 := 0) (e0 := 5) (hpc := 8) (ct := 22) rfl (by decide) hM hdd (Nat.le_refl _) (Nat.le_refl _) rfl rfl (by decide) he rfl rfl rfl xh243 ⟨by decide, by decide⟩ (by decide) rfl ?_
  iterate 2 refine x_step rfl ?_
  exact x_iret rfl rfl rfl ⟨rfl, rfl⟩
theorem xh244 : Cond.codeWith (xm_nm 244) (xm_by 244) (xm_ml 244) (xm_rt 244) (xm_hh 244) ∈ tables_1 := by
  unfold tables_1
  simp only [List.mem_append]
  exact Or.inr (Or.inr (Or.inr (Or.inr (Or.inl (List.mem_of_getElem? (i := 76) rfl)))))
theorem xhs244 : Cond.static (xm_nm 244) ∈ tables_1 := by
  unfold tables_1
  simp only [List.mem_append]
  exact Or.inr (Or.inr (Or.inr (Or.inr (Or.inl (List.mem_of_getElem? (i := 75) rfl)))))
/-- control: an answer -/
theorem h244r (hM : XM l 151 dd mc ms [.ref 32, .int a] hp (xm_is (none) hp1)) (hdd : dd < d) (he : hp[32]? = some (xO 0 fs)) : XMW l 244 d mc ms [.ref 32, .int a] hp (xm_is (some (.int 0)) hp1) := by
  refine XEW (pl := [some (.ref 32), some (.int a), none]) xg244 rfl ?_
  iterate 2 refine x_step rfl ?_
  refine x_callvE (a := 32) (as := [.int a]) (rest := []) rfl hM rfl rfl he ?_
  iterate 2 refine x_step rfl ?_
  exact x_iret rfl rfl rfl ⟨rfl, rfl⟩
/-- control: a throw -/
theorem h244t (hM : XMT l 151 dd mc ms [.ref 32, .int a] hp "java/lang/IllegalArgumentException" a1 h0) (hdd : dd < d) (he : hp[32]? = some (xO 0 fs)) : XMW l 244 d mc ms [.ref 32, .int a] hp (xm_is (some (.int 1)) h0) := by
  refine XEW (pl := [some (.ref 32), some (.int a), none]) xg244 rfl ?_
  iterate 2 refine x_step rfl ?_
  refine x_callvT (a := 32) (as := [.int a]) (rest := []) (s0 := 0) (e0 := 5) (hpc := 8) (ct := 13) rfl (by decide) hM hdd (Nat.le_refl _) (Nat.le_refl _) rfl rfl (by decide) he rfl rfl rfl xh244 ⟨by decide, by decide⟩ (by decide) rfl ?_
  iterate 2 refine x_step rfl ?_
  exact x_iret rfl rfl rfl ⟨rfl, rfl⟩
theorem xh245 : Cond.codeWith (xm_nm 245) (xm_by 245) (xm_ml 245) (xm_rt 245) (xm_hh 245) ∈ tables_1 := by
  unfold tables_1
  simp only [List.mem_append]
  exact Or.inr (Or.inr (Or.inr (Or.inr (Or.inl (List.mem_of_getElem? (i := 88) rfl)))))
theorem xhs245 : Cond.static (xm_nm 245) ∈ tables_1 := by
  unfold tables_1
  simp only [List.mem_append]
  exact Or.inr (Or.inr (Or.inr (Or.inr (Or.inl (List.mem_of_getElem? (i := 87) rfl)))))
/-- saidAt: an answer -/
theorem h245r (hM : XM l 153 dd mc ms [.ref 32, .int a] hp (xm_is (some (.int r)) hp1)) (hdd : dd < d) (he : hp[32]? = some (xO 0 fs)) (hl : hp1[121]? = some (xV 1 1 f)) : XMW l 245 d mc ms [.ref 32, .int a, .ref 121] hp (xm_is (some (.int 0)) (hp1.set 121 (xV 1 1 (updV f 0 (.long r.toInt64))))) := by
  refine XEW (pl := [some (.ref 32), some (.int a), some (.ref 121), none]) xg245 rfl ?_
  iterate 4 refine x_step rfl ?_
  refine x_callvE (a := 32) (as := [.int a]) (rest := [.int 0, .ref 121]) rfl hM rfl rfl he ?_
  refine x_step rfl ?_
  refine x_last rfl hl (by decide) rfl (by unfold vp_in; decide) ?_
  iterate 2 refine x_step rfl ?_
  exact x_iret rfl rfl rfl ⟨rfl, rfl⟩
/-- saidAt: a throw -/
theorem h245t (hM : XMT l 153 dd mc ms [.ref 32, .int a] hp "java/lang/IndexOutOfBoundsException" a1 h0) (hdd : dd < d) (he : hp[32]? = some (xO 0 fs)) : XMW l 245 d mc ms [.ref 32, .int a, .ref 121] hp (xm_is (some (.int 1)) h0) := by
  refine XEW (pl := [some (.ref 32), some (.int a), some (.ref 121), none]) xg245 rfl ?_
  iterate 4 refine x_step rfl ?_
  refine x_callvT (a := 32) (as := [.int a]) (rest := [.int 0, .ref 121]) (s0 := 0) (e0 := 9) (hpc := 12) (ct := 31) rfl (by decide) hM hdd (Nat.le_refl _) (Nat.le_refl _) rfl rfl (by decide) he rfl rfl rfl xh245 ⟨by decide, by decide⟩ (by decide) rfl ?_
  iterate 2 refine x_step rfl ?_
  exact x_iret rfl rfl rfl ⟨rfl, rfl⟩
theorem xh246 : Cond.codeWith (xm_nm 246) (xm_by 246) (xm_ml 246) (xm_rt 246) (xm_hh 246) ∈ tables_1 := by
  unfold tables_1
  simp only [List.mem_append]
  exact Or.inr (Or.inr (Or.inr (Or.inr (Or.inl (List.mem_of_getElem? (i := 121) rfl)))))
theorem xhs246 : Cond.static (xm_nm 246) ∈ tables_1 := by
  unfold tables_1
  simp only [List.mem_append]
  exact Or.inr (Or.inr (Or.inr (Or.inr (Or.inl (List.mem_of_getElem? (i := 120) rfl)))))
/-- look: an answer -/
theorem h246r (hM : XM l 156 dd mc ms [.ref 32, .int a] hp (xm_is (some (.int r)) hp1)) (hdd : dd < d) (he : hp[32]? = some (xO 0 fs)) (hl : hp1[121]? = some (xV 1 1 f)) : XMW l 246 d mc ms [.ref 32, .int a, .ref 121] hp (xm_is (some (.int 0)) (hp1.set 121 (xV 1 1 (updV f 0 (.long r.toInt64))))) := by
  refine XEW (pl := [some (.ref 32), some (.int a), some (.ref 121), none]) xg246 rfl ?_
  iterate 4 refine x_step rfl ?_
  refine x_callvE (a := 32) (as := [.int a]) (rest := [.int 0, .ref 121]) rfl hM rfl rfl he ?_
  refine x_step rfl ?_
  refine x_last rfl hl (by decide) rfl (by unfold vp_in; decide) ?_
  iterate 2 refine x_step rfl ?_
  exact x_iret rfl rfl rfl ⟨rfl, rfl⟩
/-- look: a throw -/
theorem h246t (hM : XMT l 156 dd mc ms [.ref 32, .int a] hp "java/lang/IllegalArgumentException" a1 h0) (hdd : dd < d) (he : hp[32]? = some (xO 0 fs)) : XMW l 246 d mc ms [.ref 32, .int a, .ref 121] hp (xm_is (some (.int 1)) h0) := by
  refine XEW (pl := [some (.ref 32), some (.int a), some (.ref 121), none]) xg246 rfl ?_
  iterate 4 refine x_step rfl ?_
  refine x_callvT (a := 32) (as := [.int a]) (rest := [.int 0, .ref 121]) (s0 := 0) (e0 := 9) (hpc := 12) (ct := 13) rfl (by decide) hM hdd (Nat.le_refl _) (Nat.le_refl _) rfl rfl (by decide) he rfl rfl rfl xh246 ⟨by decide, by decide⟩ (by decide) rfl ?_
  iterate 2 refine x_step rfl ?_
  exact x_iret rfl rfl rfl ⟨rfl, rfl⟩
theorem xh247 : Cond.codeWith (xm_nm 247) (xm_by 247) (xm_ml 247) (xm_rt 247) (xm_hh 247) ∈ tables_1 := by
  unfold tables_1
  simp only [List.mem_append]
  exact Or.inr (Or.inr (Or.inr (Or.inr (Or.inl (List.mem_of_getElem? (i := 152) rfl)))))
theorem xhs247 : Cond.static (xm_nm 247) ∈ tables_1 := by
  unfold tables_1
  simp only [List.mem_append]
  exact Or.inr (Or.inr (Or.inr (Or.inr (Or.inl (List.mem_of_getElem? (i := 151) rfl)))))
/-- report: an answer -/
theorem h247r (hM : XM l 162 dd mc ms [.ref 32, .int a] hp (xm_is (some (.int r)) hp1)) (hdd : dd < d) (he : hp[32]? = some (xO 0 fs)) (hl : hp1[121]? = some (xV 1 1 f)) : XMW l 247 d mc ms [.ref 32, .int a, .ref 121] hp (xm_is (some (.int 0)) (hp1.set 121 (xV 1 1 (updV f 0 (.long r.toInt64))))) := by
  refine XEW (pl := [some (.ref 32), some (.int a), some (.ref 121), none]) xg247 rfl ?_
  iterate 4 refine x_step rfl ?_
  refine x_callvE (a := 32) (as := [.int a]) (rest := [.int 0, .ref 121]) rfl hM rfl rfl he ?_
  refine x_step rfl ?_
  refine x_last rfl hl (by decide) rfl (by unfold vp_in; decide) ?_
  iterate 2 refine x_step rfl ?_
  exact x_iret rfl rfl rfl ⟨rfl, rfl⟩
/-- report: a throw -/
theorem h247t (hM : XMT l 162 dd mc ms [.ref 32, .int a] hp "java/lang/IndexOutOfBoundsException" a1 h0) (hdd : dd < d) (he : hp[32]? = some (xO 0 fs)) : XMW l 247 d mc ms [.ref 32, .int a, .ref 121] hp (xm_is (some (.int 1)) h0) := by
  refine XEW (pl := [some (.ref 32), some (.int a), some (.ref 121), none]) xg247 rfl ?_
  iterate 4 refine x_step rfl ?_
  refine x_callvT (a := 32) (as := [.int a]) (rest := [.int 0, .ref 121]) (s0 := 0) (e0 := 9) (hpc := 12) (ct := 31) rfl (by decide) hM hdd (Nat.le_refl _) (Nat.le_refl _) rfl rfl (by decide) he rfl rfl rfl xh247 ⟨by decide, by decide⟩ (by decide) rfl ?_
  iterate 2 refine x_step rfl ?_
  exact x_iret rfl rfl rfl ⟨rfl, rfl⟩
theorem xh248 : Cond.codeWith (xm_nm 248) (xm_by 248) (xm_ml 248) (xm_rt 248) (xm_hh 248) ∈ tables_1 := by
  unfold tables_1
  simp only [List.mem_append]
  exact Or.inr (Or.inr (Or.inr (Or.inr (Or.inl (List.mem_of_getElem? (i := 163) rfl)))))
theorem xhs248 : Cond.static (xm_nm 248) ∈ tables_1 := by
  unfold tables_1
  simp only [List.mem_append]
  exact Or.inr (Or.inr (Or.inr (Or.inr (Or.inl (List.mem_of_getElem? (i := 162) rfl)))))
/-- event: an answer -/
theorem h248r (hM : XM l 163 dd mc ms [.ref 32, .int a] hp (xm_is (some (.int r)) hp1)) (hdd : dd < d) (he : hp[32]? = some (xO 0 fs)) (hl : hp1[121]? = some (xV 1 1 f)) : XMW l 248 d mc ms [.ref 32, .int a, .ref 121] hp (xm_is (some (.int 0)) (hp1.set 121 (xV 1 1 (updV f 0 (.long r.toInt64))))) := by
  refine XEW (pl := [some (.ref 32), some (.int a), some (.ref 121), none]) xg248 rfl ?_
  iterate 4 refine x_step rfl ?_
  refine x_callvE (a := 32) (as := [.int a]) (rest := [.int 0, .ref 121]) rfl hM rfl rfl he ?_
  refine x_step rfl ?_
  refine x_last rfl hl (by decide) rfl (by unfold vp_in; decide) ?_
  iterate 2 refine x_step rfl ?_
  exact x_iret rfl rfl rfl ⟨rfl, rfl⟩
/-- event: a throw -/
theorem h248t (hM : XMT l 163 dd mc ms [.ref 32, .int a] hp "java/lang/IndexOutOfBoundsException" a1 h0) (hdd : dd < d) (he : hp[32]? = some (xO 0 fs)) : XMW l 248 d mc ms [.ref 32, .int a, .ref 121] hp (xm_is (some (.int 1)) h0) := by
  refine XEW (pl := [some (.ref 32), some (.int a), some (.ref 121), none]) xg248 rfl ?_
  iterate 4 refine x_step rfl ?_
  refine x_callvT (a := 32) (as := [.int a]) (rest := [.int 0, .ref 121]) (s0 := 0) (e0 := 9) (hpc := 12) (ct := 31) rfl (by decide) hM hdd (Nat.le_refl _) (Nat.le_refl _) rfl rfl (by decide) he rfl rfl rfl xh248 ⟨by decide, by decide⟩ (by decide) rfl ?_
  iterate 2 refine x_step rfl ?_
  exact x_iret rfl rfl rfl ⟨rfl, rfl⟩
theorem xh249 : Cond.codeWith (xm_nm 249) (xm_by 249) (xm_ml 249) (xm_rt 249) (xm_hh 249) ∈ tables_1 := by
  unfold tables_1
  simp only [List.mem_append]
  exact Or.inr (Or.inr (Or.inr (Or.inr (Or.inl (List.mem_of_getElem? (i := 177) rfl)))))
theorem xhs249 : Cond.static (xm_nm 249) ∈ tables_1 := by
  unfold tables_1
  simp only [List.mem_append]
  exact Or.inr (Or.inr (Or.inr (Or.inr (Or.inl (List.mem_of_getElem? (i := 176) rfl)))))
/-- format: an answer -/
theorem h249r (hM : XM l 165 dd mc ms [.ref 32, .int a] hp (xm_is (some (.int r)) hp1)) (hdd : dd < d) (he : hp[32]? = some (xO 0 fs)) (hl : hp1[121]? = some (xV 1 1 f)) : XMW l 249 d mc ms [.ref 32, .int a, .ref 121] hp (xm_is (some (.int 0)) (hp1.set 121 (xV 1 1 (updV f 0 (.long r.toInt64))))) := by
  refine XEW (pl := [some (.ref 32), some (.int a), some (.ref 121), none]) xg249 rfl ?_
  iterate 4 refine x_step rfl ?_
  refine x_callvE (a := 32) (as := [.int a]) (rest := [.int 0, .ref 121]) rfl hM rfl rfl he ?_
  refine x_step rfl ?_
  refine x_last rfl hl (by decide) rfl (by unfold vp_in; decide) ?_
  iterate 2 refine x_step rfl ?_
  exact x_iret rfl rfl rfl ⟨rfl, rfl⟩
/-- format: a throw -/
theorem h249t (hM : XMT l 165 dd mc ms [.ref 32, .int a] hp "java/lang/IndexOutOfBoundsException" a1 h0) (hdd : dd < d) (he : hp[32]? = some (xO 0 fs)) : XMW l 249 d mc ms [.ref 32, .int a, .ref 121] hp (xm_is (some (.int 1)) h0) := by
  refine XEW (pl := [some (.ref 32), some (.int a), some (.ref 121), none]) xg249 rfl ?_
  iterate 4 refine x_step rfl ?_
  refine x_callvT (a := 32) (as := [.int a]) (rest := [.int 0, .ref 121]) (s0 := 0) (e0 := 9) (hpc := 12) (ct := 31) rfl (by decide) hM hdd (Nat.le_refl _) (Nat.le_refl _) rfl rfl (by decide) he rfl rfl rfl xh249 ⟨by decide, by decide⟩ (by decide) rfl ?_
  iterate 2 refine x_step rfl ?_
  exact x_iret rfl rfl rfl ⟨rfl, rfl⟩
theorem xh250 : Cond.codeWith (xm_nm 250) (xm_by 250) (xm_ml 250) (xm_rt 250) (xm_hh 250) ∈ tables_1 := by
  unfold tables_1
  simp only [List.mem_append]
  exact Or.inr (Or.inr (Or.inr (Or.inr (Or.inl (List.mem_of_getElem? (i := 191) rfl)))))
theorem xhs250 : Cond.static (xm_nm 250) ∈ tables_1 := by
  unfold tables_1
  simp only [List.mem_append]
  exact Or.inr (Or.inr (Or.inr (Or.inr (Or.inl (List.mem_of_getElem? (i := 190) rfl)))))
/-- octet: an answer -/
theorem h250r (hM : XM l 167 dd mc ms [.ref 32, .int a, .int b] hp (xm_is (some (.int r)) hp1)) (hdd : dd < d) (he : hp[32]? = some (xO 0 fs)) (hl : hp1[121]? = some (xV 1 1 f)) : XMW l 250 d mc ms [.ref 32, .int a, .int b, .ref 121] hp (xm_is (some (.int 0)) (hp1.set 121 (xV 1 1 (updV f 0 (.long r.toInt64))))) := by
  refine XEW (pl := [some (.ref 32), some (.int a), some (.int b), some (.ref 121), none]) xg250 rfl ?_
  iterate 5 refine x_step rfl ?_
  refine x_callvE (a := 32) (as := [.int a, .int b]) (rest := [.int 0, .ref 121]) rfl hM rfl rfl he ?_
  refine x_step rfl ?_
  refine x_last rfl hl (by decide) rfl (by unfold vp_in; decide) ?_
  iterate 2 refine x_step rfl ?_
  exact x_iret rfl rfl rfl ⟨rfl, rfl⟩
/-- octet: a throw -/
theorem h250t (hM : XMT l 167 dd mc ms [.ref 32, .int a, .int b] hp "java/lang/IndexOutOfBoundsException" a1 h0) (hdd : dd < d) (he : hp[32]? = some (xO 0 fs)) : XMW l 250 d mc ms [.ref 32, .int a, .int b, .ref 121] hp (xm_is (some (.int 1)) h0) := by
  refine XEW (pl := [some (.ref 32), some (.int a), some (.int b), some (.ref 121), none]) xg250 rfl ?_
  iterate 5 refine x_step rfl ?_
  refine x_callvT (a := 32) (as := [.int a, .int b]) (rest := [.int 0, .ref 121]) (s0 := 0) (e0 := 10) (hpc := 13) (ct := 31) rfl (by decide) hM hdd (Nat.le_refl _) (Nat.le_refl _) rfl rfl (by decide) he rfl rfl rfl xh250 ⟨by decide, by decide⟩ (by decide) rfl ?_
  iterate 2 refine x_step rfl ?_
  exact x_iret rfl rfl rfl ⟨rfl, rfl⟩
end XH
