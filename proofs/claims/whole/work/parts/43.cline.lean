section EC3
variable {l : Launch} {d L : Nat} {xs : Nat → Int32} {g : xm_H} {tc : Int32} {tf : (Nat → Int32)} {bl : Int32} {bf : (Nat → Int32)} {of : Int32} {oc : Int32} {ol : Int32} {on : Int32} {ml : (Nat → Int32)} {mx : (Nat → Int32)} {mb : (Nat → Nat → Int32)} {kc : Int32} {kh : (Nat → Nat)} {kr : (Nat → Nat → Int32)} {ka : (Nat → Int32)} {gl : Int32} {gx : Int32} {gb : (Nat → Int32)} {ls : Int32} {lq : Int32} {lk : Int32} {lg : Int32} {lh : Int32} {vf : (Nat → Int32)} {vs : (Nat → Int32)} {vb : (Nat → Nat → Int32)} {nv : (Nat → Int32)} {nw : (Nat → Nat → Int32)} {nr : (Nat → Int32)} {nq : (Nat → Nat → Int32)} {ne : (Nat → Int32)} {io : Int32} {sp : Int32} {ch : Int32} {wt : Int32} {xf : (Nat → Int32)} {xz : (Nat → Int32)} {xt : (Nat → Int32)} {xb : (Nat → Int32)} {xc : Int32}
theorem xsay_nI (f : Nat → Int32) {n : Nat} (x : Int32) (h : n < 2 ^ 30) : xsay f (nI n) x = upd f (n % 501) x := by
  unfold xsay
  have e : xfm (nI n) 501 = nI (n % 501) := xfm_nI (e := 501) (by omega) (by decide) (by decide)
  rw [e, nI_clamp (by omega)]
/-- Tape.say -/
theorem n40 (n : Nat) (x : Int32) (hd : 1 ≤ d) (h : n < 2 ^ 30) : XM l 40 d 0 0 [.ref 33, .int x] (cw L xs g (nI n) tf bl bf of oc ol on ml mx mb kc kh kr ka gl gx gb ls lq lk lg lh vf vs vb nv nw nr nq ne io sp ch wt xf xz xt xb xc) (xm_is none (cw L xs g (nI (n + 1)) (upd tf (n % 501) x) bl bf of oc ol on ml mx mb kc kh kr ka gl gx gb ls lq lk lg lh vf vs vb nv nw nr nq ne io sp ch wt xf xz xt xb xc)) := by
  rw [nI_succ, ← xsay_nI tf x h]
  exact m40w x hd (xfm_in (by omega))
/-- Outbox.first -/
theorem n55 (f0 : Nat) (hf : f0 < 8) : XM l 55 d 0 0 [.ref 35] (cw L xs g tc tf bl bf (nI f0) oc ol on ml mx mb kc kh kr ka gl gx gb ls lq lk lg lh vf vs vb nv nw nr nq ne io sp ch wt xf xz xt xb xc) (xm_is (some (.ref (39 + 2 * f0))) (cw L xs g tc tf bl bf (nI f0) oc ol on ml mx mb kc kh kr ka gl gx gb ls lq lk lg lh vf vs vb nv nw nr nq ne io sp ch wt xf xz xt xb xc)) := by
  have h := m55 (l := l) (d := d) (L := L) (xs := xs) (g := g) (tc := tc) (tf := tf) (bl := bl) (bf := bf) (of := nI f0) (oc := oc) (ol := ol) (on := on) (ml := ml) (mx := mx) (mb := mb) (kc := kc) (kh := kh) (kr := kr) (ka := ka) (gl := gl) (gx := gx) (gb := gb) (ls := ls) (lq := lq) (lk := lk) (lg := lg) (lh := lh) (vf := vf) (vs := vs) (vb := vb) (nv := nv) (nw := nw) (nr := nr) (nq := nq) (ne := ne) (io := io) (sp := sp) (ch := ch) (wt := wt) (xf := xf) (xz := xz) (xt := xt) (xb := xb) (xc := xc) (vp_in_nI hf (by decide))
  rwa [nI_clamp (by omega)] at h
/-- bytes f 0 .. f (i - 1) said from n on -/
def xtp (tf : Nat → Int32) (n : Nat) (f : Nat → Int32) : Nat → Nat → Int32
  | 0 => tf
  | i + 1 => upd (xtp tf n f i) ((n + i) % 501) (f i)
theorem cw_setk {j : Nat} (hj : j < 8) (f : Nat → Int32) : ((cw L xs g tc tf bl bf of oc ol on ml mx mb kc kh kr ka gl gx gb ls lq lk lg lh vf vs vb nv nw nr nq ne io sp ch wt xf xz xt xb xc)).set (57 + j) (xI 0 10 f) = (cw L xs g tc tf bl bf of oc ol on ml mx mb kc kh (updf kr j f) ka gl gx gb ls lq lk lg lh vf vs vb nv nw nr nq ne io sp ch wt xf xz xt xb xc) := by
  rcases xm_8 hj with h | h | h | h | h | h | h | h <;> (subst h; rfl)
theorem updf_id (m : Nat → Nat → Int32) (j : Nat) : updf m j (m j) = m := by
  funext i
  unfold updf
  by_cases h : i = j
  · rw [if_pos h, h]
  · rw [if_neg h]
theorem upd_id (m : Nat → Int32) (j : Nat) : upd m j (m j) = m := by
  funext i
  by_cases h : i = j
  · rw [h, pk_us]
  · rw [pk_un h]
theorem n54_loop (n f0 m : Nat) (S : Int32) (hd : 2 ≤ d) (hf : f0 < 8) (hm : ml f0 = nI m) (hm2 : m ≤ 130) (hn : n < 2 ^ 29) : ∀ (r i : Nat), i + r = m → XW l 54 d 0 0 32 [some (.ref 66), some (.ref (39 + 2 * f0)), some (.ref (40 + 2 * f0)), some (.int S), some (.int (nI i))] [] (cw L xs g (nI (n + i)) (xtp tf n (mb f0) i) bl bf (nI f0) oc ol on ml mx mb kc kh kr ka gl gx gb ls lq lk lg lh vf vs vb nv nw nr nq ne io sp ch wt xf xz xt xb xc) (xm_is none (cw L xs g (nI (n + m + 2)) (upd (upd (xtp tf n (mb f0) m) ((n + m) % 501) (S >>> ((8 : Int32) &&& 31))) ((n + m + 1) % 501) (S &&& 255)) bl bf (nI f0) oc ol on ml mx mb kc kh kr ka gl gx gb (3) (0) lk lg lh vf vs vb nv nw nr nq ne io sp ch wt xf xz xt xb xc)) := by
  intro r
  induction r with
  | zero =>
    intro i hi
    obtain rfl : i = m := by omega
    iterate 2 refine x_step rfl ?_
    refine x_callvE rfl (m51 (d := 0) (cw_msg hf)) rfl rfl (cw_msg hf) ?_
    refine x_icmpN_ge (i) (i) rfl rfl hm (fun _ => ?_) (fun q => False.elim (by omega))
    iterate 5 refine x_step rfl ?_
    refine x_callvE rfl (n40 (d := 1) (n + i) (S >>> ((8 : Int32) &&& 31)) (by omega) (by omega)) rfl rfl rfl ?_
    iterate 5 refine x_step rfl ?_
    refine x_callvE rfl (n40 (d := 1) (n + i + 1) (S &&& 255) (by omega) (by omega)) rfl rfl rfl ?_
    iterate 2 refine x_step rfl ?_
    refine x_callvE rfl (m42 (d := 0) 3) rfl rfl rfl ?_
    exact x_ret rfl rfl ⟨rfl, rfl⟩
  | succ r ih =>
    intro i hi
    iterate 2 refine x_step rfl ?_
    refine x_callvE rfl (m51 (d := 0) (cw_msg hf)) rfl rfl (cw_msg hf) ?_
    refine x_icmpN_ge (i) (m) rfl rfl hm (fun q => False.elim (by omega)) (fun _ => ?_)
    iterate 2 refine x_step rfl ?_
    refine x_alen rfl (cw_row hf) (Or.inl ⟨_, _, rfl⟩) rfl ?_
    refine x_icmpN_ge (i) (130) rfl rfl rfl (fun q => False.elim (by omega)) (fun _ => ?_)
    iterate 4 refine x_step rfl ?_
    refine x_ialdN (i) rfl (cw_row hf) rfl (by omega) ?_
    refine x_callvE rfl (n40 (d := 1) (n + i) (mb f0 i) (by omega) (by omega)) rfl rfl rfl ?_
    iterate 2 refine x_step rfl ?_
    refine xm_ls (pl' := [some (.ref 66), some (.ref (39 + 2 * f0)), some (.ref (40 + 2 * f0)), some (.int S), some (.int (nI (i + 1)))]) (by rw [nI_succ] <;> rfl) ?_
    refine xm_hs (hp' := (cw L xs g (nI (n + (i + 1))) (xtp tf n (mb f0) (i + 1)) bl bf (nI f0) oc ol on ml mx mb kc kh kr ka gl gx gb ls lq lk lg lh vf vs vb nv nw nr nq ne io sp ch wt xf xz xt xb xc)) rfl ?_
    exact ih (i + 1) (by omega)
/-- Line.sayBlock -/
theorem n54 (n f0 m : Nat) (hd : 2 ≤ d) (hf : f0 < 8) (hm : ml f0 = nI m) (hm2 : m ≤ 130) (hn : n < 2 ^ 28) : XM l 54 d 0 0 [.ref 66] (cw L xs g (nI n) tf bl bf (nI f0) oc ol on ml mx mb kc kh kr ka gl gx gb ls lq lk lg lh vf vs vb nv nw nr nq ne io sp ch wt xf xz xt xb xc) (xm_is none (cw L xs g (nI (n + 1 + m + 2)) (upd (upd (xtp (upd tf (n % 501) (nI m)) (n + 1) (mb f0) m) ((n + 1 + m) % 501) ((xsum (mb f0) (nI m)) >>> ((8 : Int32) &&& 31))) ((n + 1 + m + 1) % 501) ((xsum (mb f0) (nI m)) &&& 255)) bl bf (nI f0) oc ol on ml mx mb kc kh kr ka gl gx gb (3) (0) lk lg lh vf vs vb nv nw nr nq ne io sp ch wt xf xz xt xb xc)) := by
  refine XE (pl := [some (.ref 66), none, none, none, none]) xg54 rfl ?_
  iterate 2 refine x_step rfl ?_
  refine x_callvE rfl (n55 (d := 0) f0 hf) rfl rfl rfl ?_
  iterate 2 refine x_step rfl ?_
  refine x_callvE rfl (m36 (d := 0) (cw_msg hf)) rfl rfl (cw_msg hf) ?_
  iterate 2 refine x_step rfl ?_
  refine x_callvE rfl (m53 (d := 0) (cw_msg hf) (cw_row hf)) rfl rfl (cw_msg hf) ?_
  iterate 4 refine x_step rfl ?_
  refine x_callvE rfl (m51 (d := 0) (cw_msg hf)) rfl rfl (cw_msg hf) ?_
  refine x_callvE rfl (n40 (d := 1) n (ml f0) (by omega) (by omega)) rfl rfl rfl ?_
  iterate 2 refine x_step rfl ?_
  refine xm_ls (pl' := [some (.ref 66), some (.ref (39 + 2 * f0)), some (.ref (40 + 2 * f0)), some (.int (xsum (mb f0) (nI m))), some (.int (nI 0))]) (by rw [hm] <;> rfl) ?_
  refine xm_hs (hp' := (cw L xs g (nI (n + 1 + 0)) (xtp (upd tf (n % 501) (nI m)) (n + 1) (mb f0) 0) bl bf (nI f0) oc ol on ml mx mb kc kh kr ka gl gx gb ls lq lk lg lh vf vs vb nv nw nr nq ne io sp ch wt xf xz xt xb xc)) (by rw [hm] <;> rfl) ?_
  exact n54_loop (n + 1) f0 m (xsum (mb f0) (nI m)) hd hf hm hm2 (by omega) m 0 (by omega)
/-- the first i entries of h over r -/
def xcp (r h : Nat → Int32) : Nat → Nat → Int32
  | 0 => r
  | i + 1 => upd (xcp r h i) i (h i)
theorem n62_loop (t f0 : Nat) (ht : t < 8) (hk : kh t < 8) (hf : f0 < 8) : ∀ (r i : Nat), i + r = 10 → XW l 62 d 0 0 12 [some (.ref 55), some (.ref (40 + 2 * f0)), some (.int (nI i))] [] (cw L xs g tc tf bl bf of oc ol on ml mx mb (nI t) kh (updf kr (kh t) (xcp (kr (kh t)) (mb f0) i)) ka gl gx gb ls lq lk lg lh vf vs vb nv nw nr nq ne io sp ch wt xf xz xt xb xc) (xm_is none (cw L xs g tc tf bl bf of oc ol on ml mx mb (nI (t + 1)) kh (updf kr (kh t) (xcp (kr (kh t)) (mb f0) 10)) (upd ka t 0) gl gx gb ls lq lk lg lh vf vs vb nv nw nr nq ne io sp ch wt xf xz xt xb xc)) := by
  intro r
  induction r with
  | zero =>
    intro i hi
    obtain rfl : i = 10 := by omega
    iterate 2 refine x_step rfl ?_
    refine x_icmpN_ge (10) (10) rfl rfl rfl (fun _ => ?_) (fun q => False.elim (by omega))
    iterate 5 refine x_step rfl ?_
    refine x_iastN (t) rfl rfl rfl (by omega) ?_
    iterate 6 refine x_step rfl ?_
    exact x_ret rfl rfl ⟨rfl, by rw [nI_succ]; rfl⟩
  | succ r ih =>
    intro i hi
    iterate 2 refine x_step rfl ?_
    refine x_icmpN_ge (i) (10) rfl rfl rfl (fun q => False.elim (by omega)) (fun _ => ?_)
    iterate 2 refine x_step rfl ?_
    refine x_alen rfl (cw_row hf) (Or.inl ⟨_, _, rfl⟩) rfl ?_
    refine x_icmpN_ge (i) (130) rfl rfl rfl (fun q => False.elim (by omega)) (fun _ => ?_)
    iterate 4 refine x_step rfl ?_
    refine x_aaldN (t) rfl rfl rfl (by omega) rfl ?_
    iterate 3 refine x_step rfl ?_
    refine x_ialdN (i) rfl (cw_row hf) rfl (by omega) ?_
    refine x_iastN (i) rfl (cw_talk hk) rfl (by omega) ?_ (ha := (by show 32 ≤ 57 + kh t; omega))
    iterate 2 refine x_step rfl ?_
    refine xm_ls (pl' := [some (.ref 55), some (.ref (40 + 2 * f0)), some (.int (nI (i + 1)))]) (by rw [nI_succ] <;> rfl) ?_
    refine xm_hs (hp' := (cw L xs g tc tf bl bf of oc ol on ml mx mb (nI t) kh (updf kr (kh t) (xcp (kr (kh t)) (mb f0) (i + 1))) ka gl gx gb ls lq lk lg lh vf vs vb nv nw nr nq ne io sp ch wt xf xz xt xb xc)) (by rw [cw_setk hk, updf_same, updf_updf] <;> rfl) ?_
    exact ih (i + 1) (by omega)
/-- Talks.begin -/
theorem n62 (t f0 : Nat) (ht : t < 8) (hk : kh t < 8) (hf : f0 < 8) : XM l 62 d 0 0 [.ref 55, .ref (40 + 2 * f0)] (cw L xs g tc tf bl bf of oc ol on ml mx mb (nI t) kh kr ka gl gx gb ls lq lk lg lh vf vs vb nv nw nr nq ne io sp ch wt xf xz xt xb xc) (xm_is none (cw L xs g tc tf bl bf of oc ol on ml mx mb (nI (t + 1)) kh (updf kr (kh t) (xcp (kr (kh t)) (mb f0) 10)) (upd ka t 0) gl gx gb ls lq lk lg lh vf vs vb nv nw nr nq ne io sp ch wt xf xz xt xb xc)) := by
  refine XE (pl := [some (.ref 55), some (.ref (40 + 2 * f0)), none]) xg62 rfl ?_
  iterate 3 refine x_step rfl ?_
  refine x_icmpN_lt (t) (8) rfl rfl rfl (fun _ => ?_) (fun q => False.elim (by omega))
  iterate 2 refine x_step rfl ?_
  refine xm_ls (pl' := [some (.ref 55), some (.ref (40 + 2 * f0)), some (.int (nI 0))]) rfl ?_
  refine xm_hs (hp' := (cw L xs g tc tf bl bf of oc ol on ml mx mb (nI t) kh (updf kr (kh t) (xcp (kr (kh t)) (mb f0) 0)) ka gl gx gb ls lq lk lg lh vf vs vb nv nw nr nq ne io sp ch wt xf xz xt xb xc)) (by show _ = _; rw [show xcp (kr (kh t)) (mb f0) 0 = kr (kh t) from rfl, updf_id] <;> rfl) ?_
  exact n62_loop t f0 ht hk hf 10 0 (by omega)
/-- Talks.begin -/
theorem n62f (b : Nat) : XM l 62 d 0 0 [.ref 55, .ref b] (cw L xs g tc tf bl bf of oc ol on ml mx mb (8) kh kr ka gl gx gb ls lq lk lg lh vf vs vb nv nw nr nq ne io sp ch wt xf xz xt xb xc) (xm_is none (cw L xs g tc tf bl bf of oc ol on ml mx mb (8) kh kr ka gl gx gb ls lq lk lg lh vf vs vb nv nw nr nq ne io sp ch wt xf xz xt xb xc)) := by
  refine XE (pl := [some (.ref 55), some (.ref b), none]) xg62 rfl ?_
  iterate 3 refine x_step rfl ?_
  refine x_icmp_lt rfl (fun q => absurd q (by decide)) (fun _ => ?_)
  exact x_ret rfl rfl ⟨rfl, rfl⟩
/-- Outbox.dropFirst -/
theorem n60 (f0 q : Nat) (hf : f0 < 8) (hq : q < 8) : XM l 60 d 0 0 [.ref 35] (cw L xs g tc tf bl bf (nI f0) (nI (q + 1)) ol on ml mx mb kc kh kr ka gl gx gb ls lq lk lg lh vf vs vb nv nw nr nq ne io sp ch wt xf xz xt xb xc) (xm_is none (cw L xs g tc tf bl bf (nI ((f0 + 1) % 8)) (nI q) ol on ml mx mb kc kh kr ka gl gx gb ls lq lk lg lh vf vs vb nv nw nr nq ne io sp ch wt xf xz xt xb xc)) := by
  have e : nI f0 + 1 - (nI f0 + 1) / 8 * 8 = nI ((f0 + 1) % 8) := by
    rw [← nI_succ]
    exact pk_rem (d := 8) (by omega) (by decide) (by decide)
  rw [← e, ← nI_pred q]
  exact m60 (nI_nle (by omega) (by omega))
/-- Line.fail: the message stays -/
theorem n57a (f0 x : Nat) (hd : 2 ≤ d) (hf : f0 < 8) (hx : mx f0 = nI x) (h3 : x < 3) : XM l 57 d 0 0 [.ref 66] (cw L xs g tc tf bl bf (nI f0) oc ol on ml mx mb kc kh kr ka gl gx gb ls lq lk lg lh vf vs vb nv nw nr nq ne io sp ch wt xf xz xt xb xc) (xm_is none (cw L xs g tc tf bl bf (nI f0) oc ol on ml (upd mx f0 (nI (x + 1))) mb kc kh kr ka gl gx gb (0) (0) lk lg lh vf vs vb nv nw nr nq ne io sp ch wt xf xz xt xb xc)) := by
  have h := m57a (l := l) (d := d) (L := L) (xs := xs) (g := g) (tc := tc) (tf := tf) (bl := bl) (bf := bf) (of := nI f0) (oc := oc) (ol := ol) (on := on) (ml := ml) (mx := mx) (mb := mb) (kc := kc) (kh := kh) (kr := kr) (ka := ka) (gl := gl) (gx := gx) (gb := gb) (ls := ls) (lq := lq) (lk := lk) (lg := lg) (lh := lh) (vf := vf) (vs := vs) (vb := vb) (nv := nv) (nw := nw) (nr := nr) (nq := nq) (ne := ne) (io := io) (sp := sp) (ch := ch) (wt := wt) (xf := xf) (xz := xz) (xt := xt) (xb := xb) (xc := xc) hd (vp_in_nI hf (by decide)) (by rw [nI_clamp (by omega)]; exact hf) (by rw [nI_clamp (by omega), hx, ← nI_succ]; exact nI_lt (b := 4) (by omega) (by decide))
  rwa [nI_clamp (by omega), upd_id, hx, ← nI_succ] at h
/-- Line.fail: the message is lost -/
theorem n57b (f0 q x : Nat) (hd : 2 ≤ d) (hf : f0 < 8) (hq : q < 8) (hx : mx f0 = nI x) (h3 : 3 ≤ x) (h4 : x < 2 ^ 30) : XM l 57 d 0 0 [.ref 66] (cw L xs g tc tf bl bf (nI f0) (nI (q + 1)) ol on ml mx mb kc kh kr ka gl gx gb ls lq lk lg lh vf vs vb nv nw nr nq ne io sp ch wt xf xz xt xb xc) (xm_is none (cw L xs g tc tf bl bf (nI ((f0 + 1) % 8)) (nI q) (ol + 1) on ml (upd mx f0 (nI (x + 1))) mb kc kh kr ka gl gx gb (0) (0) lk lg lh vf vs vb nv nw nr nq ne io sp ch wt xf xz xt xb xc)) := by
  have h := m57b (l := l) (d := d) (L := L) (xs := xs) (g := g) (tc := tc) (tf := tf) (bl := bl) (bf := bf) (of := nI f0) (oc := nI (q + 1)) (ol := ol) (on := on) (ml := ml) (mx := mx) (mb := mb) (kc := kc) (kh := kh) (kr := kr) (ka := ka) (gl := gl) (gx := gx) (gb := gb) (ls := ls) (lq := lq) (lk := lk) (lg := lg) (lh := lh) (vf := vf) (vs := vs) (vb := vb) (nv := nv) (nw := nw) (nr := nr) (nq := nq) (ne := ne) (io := io) (sp := sp) (ch := ch) (wt := wt) (xf := xf) (xz := xz) (xt := xt) (xb := xb) (xc := xc) hd (vp_in_nI hf (by decide)) (by rw [nI_clamp (by omega)]; exact hf) (by rw [nI_clamp (by omega), hx, ← nI_succ]; exact nI_nlt (b := 4) (by omega) (by omega)) (nI_nle (by omega) (by omega))
  have e : nI f0 + 1 - (nI f0 + 1) / 8 * 8 = nI ((f0 + 1) % 8) := by
    rw [← nI_succ]
    exact pk_rem (d := 8) (by omega) (by decide) (by decide)
  rwa [nI_clamp (by omega), upd_id, e, nI_pred, hx, ← nI_succ] at h
/-- Line.hearVerdict -/
theorem n56f {h0 : xm_H} {dd : Nat} (x : Int32) (hx : ¬ x = 6) (hdd : dd < d) (hM : XM l 57 dd 0 0 [.ref 66] (cw L xs g tc tf bl bf of oc ol on ml mx mb kc kh kr ka gl gx gb ls lq lk lg lh vf vs vb nv nw nr nq ne io sp ch wt xf xz xt xb xc) (xm_is none h0)) : XM l 56 d 0 0 [.ref 66, .int x] (cw L xs g tc tf bl bf of oc ol on ml mx mb kc kh kr ka gl gx gb ls lq lk lg lh vf vs vb nv nw nr nq ne io sp ch wt xf xz xt xb xc) (xm_is none h0) := by
  refine XE (pl := [some (.ref 66), some (.int x), none]) xg56 rfl ?_
  iterate 2 refine x_step rfl ?_
  refine x_icmp_eq rfl (fun q => absurd q (hx)) (fun _ => ?_)
  refine x_step rfl ?_
  refine x_callvE rfl (hM) rfl rfl rfl ?_
  exact x_ret rfl rfl ⟨rfl, rfl⟩
/-- Line.hearVerdict -/
theorem n56r (f0 q : Nat) (hf : f0 < 8) (hq : q < 8) (t : Nat) (ht : t < 8) (hk : kh t < 8) (hd : 1 ≤ d) (hw : ¬ mb f0 2 &&& 128 = 0) : XM l 56 d 0 0 [.ref 66, .int 6] (cw L xs g tc tf bl bf (nI f0) (nI (q + 1)) ol on ml mx mb (nI t) kh kr ka gl gx gb ls lq lk lg lh vf vs vb nv nw nr nq ne io sp ch wt xf xz xt xb xc) (xm_is none (cw L xs g tc tf bl bf (nI ((f0 + 1) % 8)) (nI q) ol on ml mx mb (nI (t + 1)) kh (updf kr (kh t) (xcp (kr (kh t)) (mb f0) 10)) (upd ka t 0) gl gx gb (0) (0) lk lg lh vf vs vb nv nw nr nq ne io sp ch wt xf xz xt xb xc)) := by
  refine XE (pl := [some (.ref 66), some (.int 6), none]) xg56 rfl ?_
  iterate 2 refine x_step rfl ?_
  refine x_icmp_eq rfl (fun _ => ?_) (fun q => absurd (by decide) q)
  iterate 2 refine x_step rfl ?_
  refine x_callvE rfl (n55 (d := 0) f0 hf) rfl rfl rfl ?_
  iterate 2 refine x_step rfl ?_
  refine x_callvE rfl (m61 (d := 0) (cw_msg hf) (cw_row hf)) rfl rfl (cw_msg hf) ?_
  refine x_if_eq rfl (fun z => absurd z (by rw [if_neg hw]; decide)) (fun _ => ?_)
  iterate 3 refine x_step rfl ?_
  refine x_callvE rfl (m36 (d := 0) (cw_msg hf)) rfl rfl (cw_msg hf) ?_
  refine x_callvE rfl (n62 (d := 0) t f0 ht hk hf) rfl rfl rfl ?_
  iterate 2 refine x_step rfl ?_
  refine x_callvE rfl (n60 (d := 0) f0 q hf hq) rfl rfl rfl ?_
  iterate 2 refine x_step rfl ?_
  refine x_callvE rfl (m42 (d := 0) 0) rfl rfl rfl ?_
  exact x_ret rfl rfl ⟨rfl, rfl⟩
/-- Line.hearVerdict -/
theorem n56x (f0 q : Nat) (hf : f0 < 8) (hq : q < 8) (hd : 1 ≤ d) (hw : ¬ mb f0 2 &&& 128 = 0) : XM l 56 d 0 0 [.ref 66, .int 6] (cw L xs g tc tf bl bf (nI f0) (nI (q + 1)) ol on ml mx mb (8) kh kr ka gl gx gb ls lq lk lg lh vf vs vb nv nw nr nq ne io sp ch wt xf xz xt xb xc) (xm_is none (cw L xs g tc tf bl bf (nI ((f0 + 1) % 8)) (nI q) ol on ml mx mb (8) kh kr ka gl gx gb (0) (0) lk lg lh vf vs vb nv nw nr nq ne io sp ch wt xf xz xt xb xc)) := by
  refine XE (pl := [some (.ref 66), some (.int 6), none]) xg56 rfl ?_
  iterate 2 refine x_step rfl ?_
  refine x_icmp_eq rfl (fun _ => ?_) (fun q => absurd (by decide) q)
  iterate 2 refine x_step rfl ?_
  refine x_callvE rfl (n55 (d := 0) f0 hf) rfl rfl rfl ?_
  iterate 2 refine x_step rfl ?_
  refine x_callvE rfl (m61 (d := 0) (cw_msg hf) (cw_row hf)) rfl rfl (cw_msg hf) ?_
  refine x_if_eq rfl (fun z => absurd z (by rw [if_neg hw]; decide)) (fun _ => ?_)
  iterate 3 refine x_step rfl ?_
  refine x_callvE rfl (m36 (d := 0) (cw_msg hf)) rfl rfl (cw_msg hf) ?_
  refine x_callvE rfl (n62f (d := 0) (40 + 2 * f0)) rfl rfl rfl ?_
  iterate 2 refine x_step rfl ?_
  refine x_callvE rfl (n60 (d := 0) f0 q hf hq) rfl rfl rfl ?_
  iterate 2 refine x_step rfl ?_
  refine x_callvE rfl (m42 (d := 0) 0) rfl rfl rfl ?_
  exact x_ret rfl rfl ⟨rfl, rfl⟩
/-- Line.hearVerdict -/
theorem n56n (f0 q : Nat) (hf : f0 < 8) (hq : q < 8) (hd : 1 ≤ d) (hw : mb f0 2 &&& 128 = 0) : XM l 56 d 0 0 [.ref 66, .int 6] (cw L xs g tc tf bl bf (nI f0) (nI (q + 1)) ol on ml mx mb kc kh kr ka gl gx gb ls lq lk lg lh vf vs vb nv nw nr nq ne io sp ch wt xf xz xt xb xc) (xm_is none (cw L xs g tc tf bl bf (nI ((f0 + 1) % 8)) (nI q) ol on ml mx mb kc kh kr ka gl gx gb (0) (0) lk lg lh vf vs vb nv nw nr nq ne io sp ch wt xf xz xt xb xc)) := by
  refine XE (pl := [some (.ref 66), some (.int 6), none]) xg56 rfl ?_
  iterate 2 refine x_step rfl ?_
  refine x_icmp_eq rfl (fun _ => ?_) (fun q => absurd (by decide) q)
  iterate 2 refine x_step rfl ?_
  refine x_callvE rfl (n55 (d := 0) f0 hf) rfl rfl rfl ?_
  iterate 2 refine x_step rfl ?_
  refine x_callvE rfl (m61 (d := 0) (cw_msg hf) (cw_row hf)) rfl rfl (cw_msg hf) ?_
  refine x_if_eq rfl (fun _ => ?_) (fun z => absurd (by rw [if_pos hw]) z)
  iterate 2 refine x_step rfl ?_
  refine x_callvE rfl (n60 (d := 0) f0 q hf hq) rfl rfl rfl ?_
  iterate 2 refine x_step rfl ?_
  refine x_callvE rfl (m42 (d := 0) 0) rfl rfl rfl ?_
  exact x_ret rfl rfl ⟨rfl, rfl⟩
/-- Line.passUnit -/
theorem n148rk (u : Nat) (hk : ¬ lk = 0) (hu : u + 1 < 2) : XM l 148 d 0 0 [.ref 66] (cw L xs g tc tf bl bf of oc ol on ml mx mb kc kh kr ka gl gx gb (1) (nI u) lk lg lh vf vs vb nv nw nr nq ne io sp ch wt xf xz xt xb xc) (xm_is none (cw L xs g tc tf bl bf of oc ol on ml mx mb kc kh kr ka gl gx gb (1) (nI (u + 1)) lk lg lh vf vs vb nv nw nr nq ne io sp ch wt xf xz xt xb xc)) := by
  refine XE (pl := [some (.ref 66), none]) xg148 rfl ?_
  iterate 2 refine x_step rfl ?_
  refine x_if_ne rfl (fun _ => ?_) (fun q => absurd q (by decide))
  iterate 6 refine x_step rfl ?_
  refine xm_hs (hp' := (cw L xs g tc tf bl bf of oc ol on ml mx mb kc kh kr ka gl gx gb (1) (nI (u + 1)) lk lg lh vf vs vb nv nw nr nq ne io sp ch wt xf xz xt xb xc)) (by rw [nI_succ] <;> rfl) ?_
  iterate 3 refine x_step rfl ?_
  refine x_icmp_ne rfl (fun q => absurd rfl q) (fun _ => ?_)
  iterate 2 refine x_step rfl ?_
  refine x_if_eq rfl (fun q => absurd q hk) (fun _ => ?_)
  iterate 6 refine x_step rfl ?_
  refine x_if_eq rfl (fun q => absurd q (by decide)) (fun _ => ?_)
  iterate 2 refine x_step rfl ?_
  refine x_icmpN_ge (u + 1) (2) rfl rfl rfl (fun q => False.elim (by omega)) (fun _ => ?_)
  exact x_ret rfl rfl ⟨rfl, rfl⟩
/-- Line.passUnit -/
theorem n148tk (u n : Nat) (hk : ¬ lk = 0) (hu : u + 1 = 2) (hd : 3 ≤ d) (hn : n < 2 ^ 30) : XM l 148 d 0 0 [.ref 66] (cw L xs g (nI n) tf bl bf of oc ol on ml mx mb kc kh kr ka gl gx gb (1) (nI u) lk lg lh vf vs vb nv nw nr nq ne io sp ch wt xf xz xt xb xc) (xm_is none (cw L xs g (nI (n + 1)) (upd tf (n % 501) 21) bl bf of oc ol on ml mx mb kc kh kr ka gl gx gb (0) (0) lk lg lh vf vs vb nv nw nr nq ne io sp ch wt xf xz xt xb xc)) := by
  refine XE (pl := [some (.ref 66), none]) xg148 rfl ?_
  iterate 2 refine x_step rfl ?_
  refine x_if_ne rfl (fun _ => ?_) (fun q => absurd q (by decide))
  iterate 6 refine x_step rfl ?_
  refine xm_hs (hp' := (cw L xs g (nI n) tf bl bf of oc ol on ml mx mb kc kh kr ka gl gx gb (1) (nI (u + 1)) lk lg lh vf vs vb nv nw nr nq ne io sp ch wt xf xz xt xb xc)) (by rw [nI_succ] <;> rfl) ?_
  iterate 3 refine x_step rfl ?_
  refine x_icmp_ne rfl (fun q => absurd rfl q) (fun _ => ?_)
  iterate 2 refine x_step rfl ?_
  refine x_if_eq rfl (fun q => absurd q hk) (fun _ => ?_)
  iterate 6 refine x_step rfl ?_
  refine x_if_eq rfl (fun q => absurd q (by decide)) (fun _ => ?_)
  iterate 2 refine x_step rfl ?_
  refine x_icmpN_ge (u + 1) (2) rfl rfl rfl (fun _ => ?_) (fun q => False.elim (by omega))
  iterate 3 refine x_step rfl ?_
  refine x_icmp_ne rfl (fun q => absurd rfl q) (fun _ => ?_)
  iterate 2 refine x_step rfl ?_
  refine x_callvE rfl (m50 (d := 2) 21 (by omega) (xfm_in (by omega))) rfl rfl rfl ?_
  refine x_step rfl ?_
  exact x_ret rfl rfl ⟨rfl, by rw [xsay_nI tf 21 hn, nI_succ] <;> rfl⟩
/-- Line.passUnit -/
theorem n148ru (u : Nat) (hk : lk = 0) (hu : u + 1 < 5) : XM l 148 d 0 0 [.ref 66] (cw L xs g tc tf bl bf of oc ol on ml mx mb kc kh kr ka gl gx gb (1) (nI u) lk lg lh vf vs vb nv nw nr nq ne io sp ch wt xf xz xt xb xc) (xm_is none (cw L xs g tc tf bl bf of oc ol on ml mx mb kc kh kr ka gl gx gb (1) (nI (u + 1)) lk lg lh vf vs vb nv nw nr nq ne io sp ch wt xf xz xt xb xc)) := by
  refine XE (pl := [some (.ref 66), none]) xg148 rfl ?_
  iterate 2 refine x_step rfl ?_
  refine x_if_ne rfl (fun _ => ?_) (fun q => absurd q (by decide))
  iterate 6 refine x_step rfl ?_
  refine xm_hs (hp' := (cw L xs g tc tf bl bf of oc ol on ml mx mb kc kh kr ka gl gx gb (1) (nI (u + 1)) lk lg lh vf vs vb nv nw nr nq ne io sp ch wt xf xz xt xb xc)) (by rw [nI_succ] <;> rfl) ?_
  iterate 3 refine x_step rfl ?_
  refine x_icmp_ne rfl (fun q => absurd rfl q) (fun _ => ?_)
  iterate 2 refine x_step rfl ?_
  refine x_if_eq rfl (fun _ => ?_) (fun q => absurd hk q)
  iterate 5 refine x_step rfl ?_
  refine x_if_eq rfl (fun _ => ?_) (fun q => absurd (by decide) q)
  refine x_step rfl ?_
  refine x_icmpN_ge (u + 1) (5) rfl rfl rfl (fun q => False.elim (by omega)) (fun _ => ?_)
  exact x_ret rfl rfl ⟨rfl, rfl⟩
/-- Line.passUnit -/
theorem n148tu (u n : Nat) (hk : lk = 0) (hu : u + 1 = 5) (hd : 3 ≤ d) (hn : n < 2 ^ 30) : XM l 148 d 0 0 [.ref 66] (cw L xs g (nI n) tf bl bf of oc ol on ml mx mb kc kh kr ka gl gx gb (1) (nI u) lk lg lh vf vs vb nv nw nr nq ne io sp ch wt xf xz xt xb xc) (xm_is none (cw L xs g (nI (n + 1)) (upd tf (n % 501) 21) bl bf of oc ol on ml mx mb kc kh kr ka gl gx gb (0) (0) lk lg lh vf vs vb nv nw nr nq ne io sp ch wt xf xz xt xb xc)) := by
  refine XE (pl := [some (.ref 66), none]) xg148 rfl ?_
  iterate 2 refine x_step rfl ?_
  refine x_if_ne rfl (fun _ => ?_) (fun q => absurd q (by decide))
  iterate 6 refine x_step rfl ?_
  refine xm_hs (hp' := (cw L xs g (nI n) tf bl bf of oc ol on ml mx mb kc kh kr ka gl gx gb (1) (nI (u + 1)) lk lg lh vf vs vb nv nw nr nq ne io sp ch wt xf xz xt xb xc)) (by rw [nI_succ] <;> rfl) ?_
  iterate 3 refine x_step rfl ?_
  refine x_icmp_ne rfl (fun q => absurd rfl q) (fun _ => ?_)
  iterate 2 refine x_step rfl ?_
  refine x_if_eq rfl (fun _ => ?_) (fun q => absurd hk q)
  iterate 5 refine x_step rfl ?_
  refine x_if_eq rfl (fun _ => ?_) (fun q => absurd (by decide) q)
  refine x_step rfl ?_
  refine x_icmpN_ge (u + 1) (5) rfl rfl rfl (fun _ => ?_) (fun q => False.elim (by omega))
  iterate 3 refine x_step rfl ?_
  refine x_icmp_ne rfl (fun q => absurd rfl q) (fun _ => ?_)
  iterate 2 refine x_step rfl ?_
  refine x_callvE rfl (m50 (d := 2) 21 (by omega) (xfm_in (by omega))) rfl rfl rfl ?_
  refine x_step rfl ?_
  exact x_ret rfl rfl ⟨rfl, by rw [xsay_nI tf 21 hn, nI_succ] <;> rfl⟩
/-- Line.passUnit -/
theorem n148o (u : Nat) (h0 : ¬ ls = 0) (h1 : ¬ ls = 1) (hu : u + 1 < 5) : XM l 148 d 0 0 [.ref 66] (cw L xs g tc tf bl bf of oc ol on ml mx mb kc kh kr ka gl gx gb ls (nI u) lk lg lh vf vs vb nv nw nr nq ne io sp ch wt xf xz xt xb xc) (xm_is none (cw L xs g tc tf bl bf of oc ol on ml mx mb kc kh kr ka gl gx gb ls (nI (u + 1)) lk lg lh vf vs vb nv nw nr nq ne io sp ch wt xf xz xt xb xc)) := by
  refine XE (pl := [some (.ref 66), none]) xg148 rfl ?_
  iterate 2 refine x_step rfl ?_
  refine x_if_ne rfl (fun _ => ?_) (fun q => absurd q h0)
  iterate 6 refine x_step rfl ?_
  refine xm_hs (hp' := (cw L xs g tc tf bl bf of oc ol on ml mx mb kc kh kr ka gl gx gb ls (nI (u + 1)) lk lg lh vf vs vb nv nw nr nq ne io sp ch wt xf xz xt xb xc)) (by rw [nI_succ] <;> rfl) ?_
  iterate 3 refine x_step rfl ?_
  refine x_icmp_ne rfl (fun _ => ?_) (fun q => absurd q h1)
  iterate 5 refine x_step rfl ?_
  refine x_if_eq rfl (fun _ => ?_) (fun q => absurd (by decide) q)
  refine x_step rfl ?_
  refine x_icmpN_ge (u + 1) (5) rfl rfl rfl (fun q => False.elim (by omega)) (fun _ => ?_)
  exact x_ret rfl rfl ⟨rfl, rfl⟩
/-- Line.passUnit -/
theorem n148f {h9 : xm_H} {dd : Nat} (u : Nat) (h0 : ¬ ls = 0) (h1 : ¬ ls = 1) (hu : u + 1 = 5) (hdd : dd < d) (hM : XM l 57 dd 0 0 [.ref 66] (cw L xs g tc tf bl bf of oc ol on ml mx mb kc kh kr ka gl gx gb ls (nI (u + 1)) lk lg lh vf vs vb nv nw nr nq ne io sp ch wt xf xz xt xb xc) (xm_is none h9)) : XM l 148 d 0 0 [.ref 66] (cw L xs g tc tf bl bf of oc ol on ml mx mb kc kh kr ka gl gx gb ls (nI u) lk lg lh vf vs vb nv nw nr nq ne io sp ch wt xf xz xt xb xc) (xm_is none h9) := by
  refine XE (pl := [some (.ref 66), none]) xg148 rfl ?_
  iterate 2 refine x_step rfl ?_
  refine x_if_ne rfl (fun _ => ?_) (fun q => absurd q h0)
  iterate 6 refine x_step rfl ?_
  refine xm_hs (hp' := (cw L xs g tc tf bl bf of oc ol on ml mx mb kc kh kr ka gl gx gb ls (nI (u + 1)) lk lg lh vf vs vb nv nw nr nq ne io sp ch wt xf xz xt xb xc)) (by rw [nI_succ] <;> rfl) ?_
  iterate 3 refine x_step rfl ?_
  refine x_icmp_ne rfl (fun _ => ?_) (fun q => absurd q h1)
  iterate 5 refine x_step rfl ?_
  refine x_if_eq rfl (fun _ => ?_) (fun q => absurd (by decide) q)
  refine x_step rfl ?_
  refine x_icmpN_ge (u + 1) (5) rfl rfl rfl (fun _ => ?_) (fun q => False.elim (by omega))
  iterate 3 refine x_step rfl ?_
  refine x_icmp_ne rfl (fun _ => ?_) (fun q => absurd q h1)
  refine x_step rfl ?_
  refine x_callvE rfl (hM) rfl rfl rfl ?_
  exact x_ret rfl rfl ⟨rfl, rfl⟩
/-- Machine.changeControl -/
theorem n116 {h9 : xm_H} {dd : Nat} {r : Int32} (x : Int32) (hd : 2 ≤ d) (h : ¬ x = vb 0 0) (hdd : dd < d) (hM : XM l 14 dd 0 0 [.ref 69, .int 1] (cw L xs g tc tf bl bf of oc ol on ml mx mb kc kh kr ka gl gx gb ls lq lk lg lh vf vs (updf vb 0 (upd (vb 0) 0 x)) nv nw nr nq ne io sp ch wt xf xz xt xb xc) (xm_is (some (.int r)) h9)) : XM l 116 d 0 0 [.ref 69, .int x] (cw L xs g tc tf bl bf of oc ol on ml mx mb kc kh kr ka gl gx gb ls lq lk lg lh vf vs vb nv nw nr nq ne io sp ch wt xf xz xt xb xc) (xm_is none h9) := by
  refine XE (pl := [some (.ref 69), some (.int x)]) xg116 rfl ?_
  iterate 2 refine x_step rfl ?_
  refine x_callvE rfl ((r117 (d := 1) (by omega)).xm) rfl rfl rfl ?_
  refine x_icmp_eq rfl (fun q => absurd q h) (fun _ => ?_)
  iterate 3 refine x_step rfl ?_
  refine x_callvE rfl (m119 (d := 0) x) rfl rfl rfl ?_
  iterate 2 refine x_step rfl ?_
  refine x_callvE rfl (hM) rfl rfl rfl ?_
  refine x_step rfl ?_
  exact x_ret rfl rfl ⟨rfl, rfl⟩
/-- Machine.passUnit -/
theorem n147a (u : Nat) (hd : 2 ≤ d) (h : vb 1 0 = 1) (hu : u + 1 < 30) : XM l 147 d 0 0 [.ref 69] (cw L xs g tc tf bl bf of oc ol on ml mx mb kc kh kr ka gl gx gb ls lq lk lg lh vf vs vb nv nw nr nq ne io sp ch (nI u) xf xz xt xb xc) (xm_is none (cw L xs g tc tf bl bf of oc ol on ml mx mb kc kh kr ka gl gx gb ls lq lk lg lh vf vs vb nv nw nr nq ne io sp ch (nI (u + 1)) xf xz xt xb xc)) := by
  refine XE (pl := [some (.ref 69)]) xg147 rfl ?_
  refine x_step rfl ?_
  refine x_callvE rfl ((r139 (d := 1) (by omega)).xm) rfl rfl rfl ?_
  refine x_step rfl ?_
  refine x_icmp_eq rfl (fun _ => ?_) (fun q => absurd h q)
  iterate 6 refine x_step rfl ?_
  refine xm_hs (hp' := (cw L xs g tc tf bl bf of oc ol on ml mx mb kc kh kr ka gl gx gb ls lq lk lg lh vf vs vb nv nw nr nq ne io sp ch (nI (u + 1)) xf xz xt xb xc)) (by rw [nI_succ] <;> rfl) ?_
  iterate 3 refine x_step rfl ?_
  refine x_icmpN_lt (u + 1) (30) rfl rfl rfl (fun _ => ?_) (fun q => False.elim (by omega))
  exact x_ret rfl rfl ⟨rfl, rfl⟩
/-- Machine.passUnit -/
theorem n147e {h9 : xm_H} {dd : Nat} {r : Int32} (u : Nat) (hd : 2 ≤ d) (h : vb 1 0 = 1) (hu : u + 1 = 30) (hdd : dd < d) (hM : XM l 14 dd 0 0 [.ref 69, .int 3] (cw L xs g tc tf bl bf of oc ol on ml mx mb kc kh kr ka gl gx gb ls lq lk lg lh vf vs (updf vb 1 (upd (vb 1) 0 0)) nv nw nr nq ne io sp ch (nI (u + 1)) xf xz xt xb xc) (xm_is (some (.int r)) h9)) : XM l 147 d 0 0 [.ref 69] (cw L xs g tc tf bl bf of oc ol on ml mx mb kc kh kr ka gl gx gb ls lq lk lg lh vf vs vb nv nw nr nq ne io sp ch (nI u) xf xz xt xb xc) (xm_is none h9) := by
  refine XE (pl := [some (.ref 69)]) xg147 rfl ?_
  refine x_step rfl ?_
  refine x_callvE rfl ((r139 (d := 1) (by omega)).xm) rfl rfl rfl ?_
  refine x_step rfl ?_
  refine x_icmp_eq rfl (fun _ => ?_) (fun q => absurd h q)
  iterate 6 refine x_step rfl ?_
  refine xm_hs (hp' := (cw L xs g tc tf bl bf of oc ol on ml mx mb kc kh kr ka gl gx gb ls lq lk lg lh vf vs vb nv nw nr nq ne io sp ch (nI (u + 1)) xf xz xt xb xc)) (by rw [nI_succ] <;> rfl) ?_
  iterate 3 refine x_step rfl ?_
  refine x_icmpN_lt (u + 1) (30) rfl rfl rfl (fun q => False.elim (by omega)) (fun _ => ?_)
  iterate 3 refine x_step rfl ?_
  refine x_callvE rfl (m143 (d := 0) 0) rfl rfl rfl ?_
  iterate 2 refine x_step rfl ?_
  refine x_callvE rfl (hM) rfl rfl rfl ?_
  refine x_step rfl ?_
  exact x_ret rfl rfl ⟨rfl, rfl⟩
/-- Machine.changeWork -/
theorem n142r (m nx e : Int32) (hd : 2 ≤ d) (h : m = 0 ∨ ¬ vb 0 0 = 3) : XM l 142 d 0 0 [.ref 69, .int m, .int nx, .int e] (cw L xs g tc tf bl bf of oc ol on ml mx mb kc kh kr ka gl gx gb ls lq lk lg lh vf vs vb nv nw nr nq ne io sp ch wt xf xz xt xb xc) (xm_is (some (.int 2)) (cw L xs g tc tf bl bf of oc ol on ml mx mb kc kh kr ka gl gx gb ls lq lk lg lh vf vs vb nv nw nr nq ne io sp ch wt xf xz xt xb xc)) := by
  refine XE (pl := [some (.ref 69), some (.int m), some (.int nx), some (.int e)]) xg142 rfl ?_
  refine x_step rfl ?_
  refine x_if_eq rfl (fun h1 => ?_) (fun h1 => ?_)
  · refine x_step rfl ?_
    exact x_iret rfl rfl rfl ⟨rfl, rfl⟩
  · refine x_step rfl ?_
    refine x_callvE rfl ((r117 (d := 1) (by omega)).xm) rfl rfl rfl ?_
    refine x_step rfl ?_
    refine x_icmp_eq rfl (fun q => absurd q (h.resolve_left h1)) (fun _ => ?_)
    refine x_step rfl ?_
    exact x_iret rfl rfl rfl ⟨rfl, rfl⟩
/-- Machine.changeWork -/
theorem n142s {h9 : xm_H} {dd : Nat} {r : Int32} (hd : 2 ≤ d) (h : vb 0 0 = 3) (hdd : dd < d) (hM : XM l 14 dd 0 0 [.ref 69, .int 2] (cw L xs g tc tf bl bf of oc ol on ml mx mb kc kh kr ka gl gx gb ls lq lk lg lh vf vs (updf vb 1 (upd (vb 1) 0 1)) nv nw nr nq ne io sp ch (0) xf xz xt xb xc) (xm_is (some (.int r)) h9)) : XM l 142 d 0 0 [.ref 69, .int 1, .int 1, .int 2] (cw L xs g tc tf bl bf of oc ol on ml mx mb kc kh kr ka gl gx gb ls lq lk lg lh vf vs vb nv nw nr nq ne io sp ch wt xf xz xt xb xc) (xm_is (some (.int 0)) h9) := by
  refine XE (pl := [some (.ref 69), some (.int 1), some (.int 1), some (.int 2)]) xg142 rfl ?_
  refine x_step rfl ?_
  refine x_if_eq rfl (fun q => absurd q (by decide)) (fun _ => ?_)
  refine x_step rfl ?_
  refine x_callvE rfl ((r117 (d := 1) (by omega)).xm) rfl rfl rfl ?_
  refine x_step rfl ?_
  refine x_icmp_eq rfl (fun _ => ?_) (fun q => absurd h q)
  iterate 2 refine x_step rfl ?_
  refine x_icmp_ne rfl (fun q => absurd rfl q) (fun _ => ?_)
  iterate 3 refine x_step rfl ?_
  refine xm_hs (hp' := (cw L xs g tc tf bl bf of oc ol on ml mx mb kc kh kr ka gl gx gb ls lq lk lg lh vf vs vb nv nw nr nq ne io sp ch (0) xf xz xt xb xc)) rfl ?_
  iterate 3 refine x_step rfl ?_
  refine x_callvE rfl (m143 (d := 0) 1) rfl rfl rfl ?_
  refine x_step rfl ?_
  refine x_if_eq rfl (fun q => absurd q (by decide)) (fun _ => ?_)
  iterate 2 refine x_step rfl ?_
  refine x_callvE rfl (hM) rfl rfl rfl ?_
  iterate 2 refine x_step rfl ?_
  exact x_iret rfl rfl rfl ⟨rfl, rfl⟩
/-- Machine.changeWork -/
theorem n142e {h9 : xm_H} {dd : Nat} {r : Int32} (nx e : Int32) (hd : 2 ≤ d) (h : vb 0 0 = 3) (h2 : ¬ e = 2) (h0 : ¬ e = 0) (hdd : dd < d) (hM : XM l 14 dd 0 0 [.ref 69, .int e] (cw L xs g tc tf bl bf of oc ol on ml mx mb kc kh kr ka gl gx gb ls lq lk lg lh vf vs (updf vb 1 (upd (vb 1) 0 nx)) nv nw nr nq ne io sp ch wt xf xz xt xb xc) (xm_is (some (.int r)) h9)) : XM l 142 d 0 0 [.ref 69, .int 1, .int nx, .int e] (cw L xs g tc tf bl bf of oc ol on ml mx mb kc kh kr ka gl gx gb ls lq lk lg lh vf vs vb nv nw nr nq ne io sp ch wt xf xz xt xb xc) (xm_is (some (.int 0)) h9) := by
  refine XE (pl := [some (.ref 69), some (.int 1), some (.int nx), some (.int e)]) xg142 rfl ?_
  refine x_step rfl ?_
  refine x_if_eq rfl (fun q => absurd q (by decide)) (fun _ => ?_)
  refine x_step rfl ?_
  refine x_callvE rfl ((r117 (d := 1) (by omega)).xm) rfl rfl rfl ?_
  refine x_step rfl ?_
  refine x_icmp_eq rfl (fun _ => ?_) (fun q => absurd h q)
  iterate 2 refine x_step rfl ?_
  refine x_icmp_ne rfl (fun _ => ?_) (fun q => absurd q h2)
  iterate 3 refine x_step rfl ?_
  refine x_callvE rfl (m143 (d := 0) nx) rfl rfl rfl ?_
  refine x_step rfl ?_
  refine x_if_eq rfl (fun q => absurd q (h0)) (fun _ => ?_)
  iterate 2 refine x_step rfl ?_
  refine x_callvE rfl (hM) rfl rfl rfl ?_
  iterate 2 refine x_step rfl ?_
  exact x_iret rfl rfl rfl ⟨rfl, rfl⟩
/-- Machine.changeWork -/
theorem n142g (hd : 2 ≤ d) (h : vb 0 0 = 3) : XM l 142 d 0 0 [.ref 69, .int 1, .int 1, .int 0] (cw L xs g tc tf bl bf of oc ol on ml mx mb kc kh kr ka gl gx gb ls lq lk lg lh vf vs vb nv nw nr nq ne io sp ch wt xf xz xt xb xc) (xm_is (some (.int 0)) (cw L xs g tc tf bl bf of oc ol on ml mx mb kc kh kr ka gl gx gb ls lq lk lg lh vf vs (updf vb 1 (upd (vb 1) 0 1)) nv nw nr nq ne io sp ch wt xf xz xt xb xc)) := by
  refine XE (pl := [some (.ref 69), some (.int 1), some (.int 1), some (.int 0)]) xg142 rfl ?_
  refine x_step rfl ?_
  refine x_if_eq rfl (fun q => absurd q (by decide)) (fun _ => ?_)
  refine x_step rfl ?_
  refine x_callvE rfl ((r117 (d := 1) (by omega)).xm) rfl rfl rfl ?_
  refine x_step rfl ?_
  refine x_icmp_eq rfl (fun _ => ?_) (fun q => absurd h q)
  iterate 2 refine x_step rfl ?_
  refine x_icmp_ne rfl (fun _ => ?_) (fun q => absurd q (by decide))
  iterate 3 refine x_step rfl ?_
  refine x_callvE rfl (m143 (d := 0) 1) rfl rfl rfl ?_
  refine x_step rfl ?_
  refine x_if_eq rfl (fun _ => ?_) (fun q => absurd (by decide) q)
  refine x_step rfl ?_
  exact x_iret rfl rfl rfl ⟨rfl, rfl⟩
/-- Machine.goOnline -/
theorem n121a (hd : 2 ≤ d) (h : vb 0 0 = 0) : XM l 121 d 0 0 [.ref 69] (cw L xs g tc tf bl bf of oc ol on ml mx mb kc kh kr ka gl gx gb ls lq lk lg lh vf vs vb nv nw nr nq ne io sp ch wt xf xz xt xb xc) (xm_is (some (.int 1)) (cw L xs g tc tf bl bf of oc ol on ml mx mb kc kh kr ka gl gx gb ls lq lk lg lh vf vs vb nv nw nr nq ne io sp ch wt xf xz xt xb xc)) := by
  refine XE (pl := [some (.ref 69)]) xg121 rfl ?_
  refine x_step rfl ?_
  refine x_callvE rfl ((r117 (d := 1) (by omega)).xm) rfl rfl rfl ?_
  refine x_if_ne rfl (fun q => absurd h q) (fun _ => ?_)
  refine x_step rfl ?_
  exact x_iret rfl rfl rfl ⟨rfl, rfl⟩
/-- Machine.goOnline -/
theorem n121b (hd : 2 ≤ d) (h : ¬ vb 0 0 = 0) (h2 : ¬ xon (vb 0 0) = 0) : XM l 121 d 0 0 [.ref 69] (cw L xs g tc tf bl bf of oc ol on ml mx mb kc kh kr ka gl gx gb ls lq lk lg lh vf vs vb nv nw nr nq ne io sp ch wt xf xz xt xb xc) (xm_is (some (.int 2)) (cw L xs g tc tf bl bf of oc ol on ml mx mb kc kh kr ka gl gx gb ls lq lk lg lh vf vs vb nv nw nr nq ne io sp ch wt xf xz xt xb xc)) := by
  refine XE (pl := [some (.ref 69)]) xg121 rfl ?_
  refine x_step rfl ?_
  refine x_callvE rfl ((r117 (d := 1) (by omega)).xm) rfl rfl rfl ?_
  refine x_if_ne rfl (fun _ => ?_) (fun q => absurd q h)
  iterate 2 refine x_step rfl ?_
  refine x_callvE rfl ((r17 (d := 0)).xm) rfl rfl rfl ?_
  refine x_if_eq rfl (fun q => absurd q h2) (fun _ => ?_)
  refine x_step rfl ?_
  exact x_iret rfl rfl rfl ⟨rfl, rfl⟩
/-- Machine.goOnline -/
theorem n121c {h9 : xm_H} {dd : Nat} (hd : 2 ≤ d) (h : ¬ vb 0 0 = 0) (h2 : xon (vb 0 0) = 0) (hdd : dd < d) (hM : XM l 116 dd 0 0 [.ref 69, .int ch] (cw L xs g tc tf bl bf of oc ol on ml mx mb kc kh kr ka gl gx gb ls lq lk lg lh vf vs vb nv nw nr nq ne io sp ch wt xf xz xt xb xc) (xm_is none h9)) : XM l 121 d 0 0 [.ref 69] (cw L xs g tc tf bl bf of oc ol on ml mx mb kc kh kr ka gl gx gb ls lq lk lg lh vf vs vb nv nw nr nq ne io sp ch wt xf xz xt xb xc) (xm_is (some (.int 0)) h9) := by
  refine XE (pl := [some (.ref 69)]) xg121 rfl ?_
  refine x_step rfl ?_
  refine x_callvE rfl ((r117 (d := 1) (by omega)).xm) rfl rfl rfl ?_
  refine x_if_ne rfl (fun _ => ?_) (fun q => absurd q h)
  iterate 2 refine x_step rfl ?_
  refine x_callvE rfl ((r17 (d := 0)).xm) rfl rfl rfl ?_
  refine x_if_eq rfl (fun _ => ?_) (fun q => absurd h2 q)
  iterate 3 refine x_step rfl ?_
  refine x_callvE rfl (hM) rfl rfl rfl ?_
  refine x_step rfl ?_
  exact x_iret rfl rfl rfl ⟨rfl, rfl⟩
end EC3
