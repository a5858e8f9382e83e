section FR
variable {l : Launch} {k d rc rs pc L : Nat} {xs : Nat → Int32} {pl : List (Option Value)} {st : List Value} {hp : xm_H} {Q : xm_Q} {P : xm_P}
theorem xm_R.funI {G : xm_G} {U : State} {H : Heap} {a t n : Nat} {f f' : Nat → Int32} (h : xm_R G U hp H) (he : hp[a]? = some (xI t n f)) (hf : ∀ j, j < n → f j = f' j) : xm_R G U (hp.set a (xI t n f')) H := by
  refine ⟨by simpa using h.1, by simpa using h.2.1, fun b e hb => ?_⟩
  by_cases hab : a = b
  · subst hab
    have hlt := (List.getElem?_eq_some_iff.mp he).1
    rw [List.getElem?_set_self hlt] at hb
    cases hb
    obtain ⟨cell, h1, h2, h3, h4, h5, h6⟩ := h.2.2 a _ he
    exact ⟨cell, h1, h2, h3, h4, fun j hj => by rw [← hf j hj]; exact h5 j hj, h6⟩
  · rw [List.getElem?_set_ne hab] at hb
    exact h.2.2 b e hb
theorem xm_R.funV {G : xm_G} {U : State} {H : Heap} {a t n : Nat} {f f' : Nat → Value} (h : xm_R G U hp H) (he : hp[a]? = some (xV t n f)) (hf : ∀ j, j < n → f j = f' j) : xm_R G U (hp.set a (xV t n f')) H := by
  refine ⟨by simpa using h.1, by simpa using h.2.1, fun b e hb => ?_⟩
  by_cases hab : a = b
  · subst hab
    have hlt := (List.getElem?_eq_some_iff.mp he).1
    rw [List.getElem?_set_self hlt] at hb
    cases hb
    obtain ⟨cell, h1, h2, h3, h4, h5, h6⟩ := h.2.2 a _ he
    exact ⟨cell, h1, h2, h3, h4, fun j hj => by rw [← hf j hj]; exact h5 j hj, h6⟩
  · rw [List.getElem?_set_ne hab] at hb
    exact h.2.2 b e hb
theorem x_funI {a t n : Nat} {f : Nat → Int32} (f' : Nat → Int32) (he : hp[a]? = some (xI t n f)) (hf : ∀ j, j < n → f j = f' j) (kk : XG l P k d rc rs pc pl st (hp.set a (xI t n f')) Q) : XG l P k d rc rs pc pl st hp Q := by
  intro G p e R s m args below meth c H locs cells slots ls hCP hR hL
  exact kk G p e R s m args below meth c H locs cells slots ls hCP (hR.funI he hf) hL
theorem x_funV {a t n : Nat} {f : Nat → Value} (f' : Nat → Value) (he : hp[a]? = some (xV t n f)) (hf : ∀ j, j < n → f j = f' j) (kk : XG l P k d rc rs pc pl st (hp.set a (xV t n f')) Q) : XG l P k d rc rs pc pl st hp Q := by
  intro G p e R s m args below meth c H locs cells slots ls hCP hR hL
  exact kk G p e R s m args below meth c H locs cells slots ls hCP (hR.funV he hf) hL
/-- the world when the loop begins -/
def xw1 (L : Nat) (xs : Nat → Int32) : xm_H := cw L xs (rw 0 0 0 0 (fun _ => 0) 0 (fun _ => 0) 0 (fun _ => 0) (fun _ => 0) (fun _ => 0) 0 0 0 (fun _ => 0) (fun _ => 0) 0 (fun _ => 0) 0 0 0 3 0 0 (fun _ => 41) (fun _ => 1) (fun _ => 0) (fun _ => 0) (fun _ => 0) (fun _ => 0) (fun _ => 0) (fun _ => 0) 0 (fun _ => 0) (fun _ => .long 0) []) 0 (fun _ => 0) 0 (fun _ => 0) 0 0 0 0 (fun _ => 0) (fun _ => 0) (fun _ _ => 0) 0 (fun j => j) (fun _ _ => 0) (fun _ => 0) 0 0 (fun _ => 0) 0 0 0 0 0 (fun _ => 41) (fun _ => 1) (fun _ _ => 0) (fun _ => 0) (fun _ _ => 0) (fun _ => 0) (fun _ _ => 0) (fun _ => 0) 0 0 3 0 (fun _ => 0) (fun _ => 0) (fun _ => 0) (fun _ => 0) 0
theorem fr6 (c : Int32) : ∀ j, j < 6 → (upd (upd (upd (upd (upd (upd (fun _ => 0) 0 c) 1 c) 2 c) 3 c) 4 c) 5 c) j = c
  | 0, _ => rfl
  | 1, _ => rfl
  | 2, _ => rfl
  | 3, _ => rfl
  | 4, _ => rfl
  | 5, _ => rfl
  | n + 6, h => absurd h (by omega)
theorem fr8 : ∀ j, j < 8 → (updV (updV (updV (updV (updV (updV (updV (updV (fun _ => .null) 0 (.ref 39)) 1 (.ref 41)) 2 (.ref 43)) 3 (.ref 45)) 4 (.ref 47)) 5 (.ref 49)) 6 (.ref 51)) 7 (.ref 53)) j = .ref (39 + 2 * j)
  | 0, _ => rfl
  | 1, _ => rfl
  | 2, _ => rfl
  | 3, _ => rfl
  | 4, _ => rfl
  | 5, _ => rfl
  | 6, _ => rfl
  | 7, _ => rfl
  | n + 8, h => absurd h (by omega)
set_option maxRecDepth 100000 in
theorem xl_fresh (h : XG l P k d rc rs pc pl st (xw1 L xs) Q) : XG l P k d rc rs pc pl st (xw0 L xs) Q := by
  refine x_funV (a := 36) (fun j => .ref (39 + 2 * j)) rfl fr8 ?_
  refine x_funI (a := 71) (fun _ => 41) rfl (fr6 41) ?_
  refine x_funI (a := 72) (fun _ => 1) rfl (fr6 1) ?_
  refine x_funI (a := 112) (fun _ => 41) rfl (fr6 41) ?_
  refine x_funI (a := 113) (fun _ => 1) rfl (fr6 1) ?_
  refine x_funV (a := 56) (fun j => .ref (57 + j)) rfl (fun j _ => rfl) ?_
  refine xm_hs (hp' := xw1 L xs) rfl ?_
  exact h
/-- the law, out of a relation of the two that every call keeps -/
theorem xl_law1 {Inv : Nat → xm_H → Prop} (hL : L ≤ 300000) (h0 : Inv 0 (xw1 L xs)) (hI : ∀ n hp, Inv n hp → hp[0]? = some (xI 0 L xs)) (hst : XStep l L xs Inv) : XLaw l L xs :=
  xl_start (xl_fresh (xl_loop (by omega) hI hst (L / 3) 0 _ _ none none _ (by omega) (by omega) (by omega) (by omega) h0))
end FR
