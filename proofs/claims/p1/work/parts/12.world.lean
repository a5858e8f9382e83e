def cw (L : Nat) (xs : Nat → Int32) (g : xm_H) (tc : Int32) (tf : (Nat → Int32)) (bl : Int32) (bf : (Nat → Int32)) (of : Int32) (oc : Int32) (ol : Int32) (on : Int32) (ml : (Nat → Int32)) (mx : (Nat → Int32)) (mb : (Nat → Nat → Int32)) (kc : Int32) (kh : (Nat → Nat)) (kr : (Nat → Nat → Int32)) (ka : (Nat → Int32)) (gl : Int32) (gx : Int32) (gb : (Nat → Int32)) (ls : Int32) (lq : Int32) (lk : Int32) (lg : Int32) (lh : Int32) (vf : (Nat → Int32)) (vs : (Nat → Int32)) (vb : (Nat → Nat → Int32)) (nv : (Nat → Int32)) (nw : (Nat → Nat → Int32)) (nr : (Nat → Int32)) (nq : (Nat → Nat → Int32)) (ne : (Nat → Int32)) (io : Int32) (sp : Int32) (ch : Int32) (wt : Int32) (xf : (Nat → Int32)) (xz : (Nat → Int32)) (xt : (Nat → Int32)) (xb : (Nat → Int32)) (xc : Int32) : xm_H :=
  hz L xs ++ (xO 0 [.ref 33, .ref 35, .ref 55, .ref 66, .ref 69, .ref 97] ::
  xO 1 [.ref 34, .int tc] ::
  xI 0 501 tf ::
  xO 2 [.ref 36, .ref 37, .int of, .int oc, .int ol, .int on] ::
  xV 3 8 (fun j => .ref (39 + 2 * j)) ::
  xO 3 [.ref 38, .int bl] ::
  xI 0 120 bf ::
  xO 4 [.ref 40, .int (ml 0), .int (mx 0)] ::
  xI 0 130 (mb 0) ::
  xO 4 [.ref 42, .int (ml 1), .int (mx 1)] ::
  xI 0 130 (mb 1) ::
  xO 4 [.ref 44, .int (ml 2), .int (mx 2)] ::
  xI 0 130 (mb 2) ::
  xO 4 [.ref 46, .int (ml 3), .int (mx 3)] ::
  xI 0 130 (mb 3) ::
  xO 4 [.ref 48, .int (ml 4), .int (mx 4)] ::
  xI 0 130 (mb 4) ::
  xO 4 [.ref 50, .int (ml 5), .int (mx 5)] ::
  xI 0 130 (mb 5) ::
  xO 4 [.ref 52, .int (ml 6), .int (mx 6)] ::
  xI 0 130 (mb 6) ::
  xO 4 [.ref 54, .int (ml 7), .int (mx 7)] ::
  xI 0 130 (mb 7) ::
  xO 5 [.ref 56, .ref 65, .int kc] ::
  xV 4 8 (fun j => .ref (57 + kh j)) ::
  xI 0 10 (kr 0) ::
  xI 0 10 (kr 1) ::
  xI 0 10 (kr 2) ::
  xI 0 10 (kr 3) ::
  xI 0 10 (kr 4) ::
  xI 0 10 (kr 5) ::
  xI 0 10 (kr 6) ::
  xI 0 10 (kr 7) ::
  xI 0 8 ka ::
  xO 6 [.ref 33, .ref 35, .ref 55, .ref 67, .int ls, .int lq, .int lk, .int lg, .int lh] ::
  xO 4 [.ref 68, .int gl, .int gx] ::
  xI 0 130 gb ::
  xO 7 [.ref 35, .ref 70, .ref 80, .int io, .int sp, .int ch, .int wt] ::
  xO 8 [.ref 71, .ref 72, .ref 73] ::
  xI 0 6 vf ::
  xI 0 6 vs ::
  xV 4 6 (fun j => .ref (74 + j)) ::
  xI 0 8 (vb 0) ::
  xI 0 8 (vb 1) ::
  xI 0 8 (vb 2) ::
  xI 0 8 (vb 3) ::
  xI 0 8 (vb 4) ::
  xI 0 8 (vb 5) ::
  xO 9 [.ref 81, .ref 82, .ref 88, .ref 89, .ref 96] ::
  xI 0 5 nv ::
  xV 4 5 (fun j => .ref (83 + j)) ::
  xI 0 3 (nw 0) ::
  xI 0 3 (nw 1) ::
  xI 0 3 (nw 2) ::
  xI 0 3 (nw 3) ::
  xI 0 3 (nw 4) ::
  xI 0 6 nr ::
  xV 4 6 (fun j => .ref (90 + j)) ::
  xI 0 2 (nq 0) ::
  xI 0 2 (nq 1) ::
  xI 0 2 (nq 2) ::
  xI 0 2 (nq 3) ::
  xI 0 2 (nq 4) ::
  xI 0 2 (nq 5) ::
  xI 2 6 ne ::
  xO 10 [.ref 67, .ref 69, .ref 35, .ref 55, .ref 98] ::
  xO 11 [.ref 99, .ref 100, .ref 101, .ref 102, .ref 67, .int xc] ::
  xI 0 60 xf ::
  xI 0 60 xz ::
  xI 0 60 xt ::
  xI 0 60 xb :: g)

theorem xm_clamp {i : Int32} (h0 : 0 ≤ i) : (i.toNatClampNeg : Int) = i.toInt := by
  have h1 : (0 : Int) ≤ i.toInt := by simpa using Int32.le_iff_toInt_le.mp h0
  show ((i.toInt.toNat : Nat) : Int) = i.toInt
  omega
theorem xm_in {i m : Int32} {n : Nat} (h0 : 0 ≤ i) (h1 : i < m) (hm : m.toInt = (n : Int)) : vp_in i n := by
  intro h
  have e := xm_clamp h0
  have h2 := Int32.lt_iff_toInt_lt.mp h1
  rcases h with h | h
  · have h3 := Int32.lt_iff_toInt_lt.mp h
    have h4 := Int32.le_iff_toInt_le.mp h0
    omega
  · omega
theorem xm_inc {i m : Int32} (h : i < m) : (i + 1).toInt = i.toInt + 1 := by
  have h1 := Int32.lt_iff_toInt_lt.mp h
  have h2 := Int32.toInt_lt m
  have h3 := Int32.le_toInt i
  rw [Int32.toInt_add]
  simp only [show (1 : Int32).toInt = 1 from rfl]
  rw [Int.bmod_eq_of_le] <;> omega
theorem xm_nn {i : Int32} : (0 : Int32) ≤ i ↔ (0 : Int) ≤ i.toInt := Int32.le_iff_toInt_le
theorem xm_le {i : Int32} (m : Int32) : m ≤ i ↔ m.toInt ≤ i.toInt := Int32.le_iff_toInt_le
theorem xm_lt2 {i m : Int32} : i < m ↔ i.toInt < m.toInt := Int32.lt_iff_toInt_lt
theorem xm_yes {p : Prop} [Decidable p] {a b : Int32} (h : p) : some (Value.int a) = some (Value.int (if p then a else b)) := by rw [if_pos h]
theorem xm_no {p : Prop} [Decidable p] {a b : Int32} (h : ¬ p) : some (Value.int b) = some (Value.int (if p then a else b)) := by rw [if_neg h]
