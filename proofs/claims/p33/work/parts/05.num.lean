/-! numbers: measures of loops, indices -/
theorem h_toN {x : Int32} {n : Nat} (h0 : 0 ≤ x.toInt) (h1 : x.toInt < (n : Int)) : ∃ j : Nat, j < n ∧ x = nI j := by
  refine ⟨x.toInt.toNat, by omega, ?_⟩
  have := Int32.toInt_lt x
  apply Int32.toInt_inj.mp
  rw [nI_toInt (by omega)]
  omega
theorem h_add1 {w : Int32} (h : w.toInt < 2147483647) : (w + 1).toInt = w.toInt + 1 := by
  have := Int32.le_toInt w
  rw [Jvm.Kit.i32_add (by show -2147483648 ≤ w.toInt + (1 : Int32).toInt; rw [show (1 : Int32).toInt = 1 from rfl]; omega) (by rw [show (1 : Int32).toInt = 1 from rfl]; omega)]
  rfl
theorem h_dn {w x : Int32} {n : Nat} (hm : 2147483647 - w.toInt < ((n + 1 : Nat) : Int)) (e : x = w + 1) (h : w.toInt < 2147483647) : 2147483647 - x.toInt < (n : Int) := by
  rw [e, h_add1 h]; omega
theorem h_nn {w x : Int32} (hz : 0 ≤ w.toInt) (e : x = w + 1) (h : w.toInt < 2147483647) : 0 ≤ x.toInt := by
  rw [e, h_add1 h]; omega
theorem h_lu {w y : Int32} (h : ¬ y ≤ w) : w.toInt < 2147483647 := by
  have := Int32.toInt_lt y
  have h2 := mt Int32.le_iff_toInt_le.mpr h
  omega
theorem h_lu2 {w y : Int32} (h : w < y) : w.toInt < 2147483647 := by
  have := Int32.toInt_lt y
  have h2 := Int32.lt_iff_toInt_lt.mp h
  omega
theorem h_m0 (w : Int32) : 2147483647 - w.toInt < ((4294967296 : Nat) : Int) := by
  have := Int32.le_toInt w
  omega
theorem h_m1 (w : Int32) : w.toInt + 2147483648 < ((4294967296 : Nat) : Int) := by
  have := Int32.toInt_lt w
  omega
theorem h_dn8 {w x : Int32} {n : Nat} (hm : w.toInt + 2147483648 < ((n + 1 : Nat) : Int)) (e : x = w + (-8)) (h : 0 ≤ w.toInt) : x.toInt + 2147483648 < (n : Int) := by
  have := Int32.toInt_lt w
  rw [e, Jvm.Kit.i32_add (by rw [show (-8 : Int32).toInt = -8 from rfl]; omega) (by rw [show (-8 : Int32).toInt = -8 from rfl]; omega), show (-8 : Int32).toInt = -8 from rfl]
  omega
theorem h_nadd (a b : Nat) : nI a + nI b = nI (a + b) := nI_add a b
theorem h_nmul (a b : Nat) : nI a * nI b = nI (a * b) := by
  unfold nI
  simp
theorem h_d6 : ∀ j : Nat, j < 48 → 0 ≤ (nI j / 6).toInt ∧ (nI j / 6).toInt < 8 := by decide +kernel
theorem h_div6 {a x : Int32} (e : x = a / 6) (h0 : 0 ≤ a.toInt) (h1 : a.toInt < 48) : 0 ≤ x.toInt ∧ x.toInt < 8 := by
  obtain ⟨j, hj, rfl⟩ := h_toN (n := 48) h0 h1
  rw [e]; exact h_d6 j hj
theorem h_inN {w : Int32} {n : Nat} (hn : n < 100) (h0 : 0 ≤ w.toInt) (h : ¬ nI n ≤ w) : vp_in w n := by
  have h2 := mt Int32.le_iff_toInt_le.mpr h
  rw [nI_toInt (by omega)] at h2
  exact vp_in_iff.mpr ⟨h0, by omega⟩
theorem h_ltN {w : Int32} {n : Nat} (hn : n < 100) (h0 : 0 ≤ w.toInt) (h : ¬ nI n ≤ w) : w.toNatClampNeg < n := by
  have h2 := mt Int32.le_iff_toInt_le.mpr h
  rw [nI_toInt (by omega)] at h2
  show w.toInt.toNat < n
  omega
theorem h_xneg {u m q : Int32} (hm : 0 ≤ m.toInt) (e : q = u ^^^ m) : q.toInt < 0 ↔ u.toInt < 0 := by
  have k : ∀ x : Int32, x.toInt < 0 ↔ x.toBitVec.msb = true := fun x => by
    show x.toBitVec.toInt < 0 ↔ _
    rw [BitVec.msb_eq_toInt]; simp
  have hm2 : m.toBitVec.msb = false := by
    cases h : m.toBitVec.msb with
    | false => rfl
    | true => have := (k m).mpr h; omega
  rw [k, k, e, Int32.toBitVec_xor, BitVec.msb_xor, hm2]
  simp
theorem fm_r {u m r : Int32} (hm : 0 < m.toInt) (er : r = u - u / m * m) : -m.toInt < r.toInt ∧ r.toInt < m.toInt ∧ (0 ≤ u.toInt → 0 ≤ r.toInt) ∧ (u.toInt < 0 → r.toInt ≤ 0) := by
  have e : r.toInt = u.toInt.tmod m.toInt := by rw [er]; exact rem_toInt u m
  have t := tmod_bounds (a := u.toInt) hm
  rw [e]
  refine ⟨t.1, t.2, fun h => Int.tmod_nonneg _ h, fun h => ?_⟩
  have h2 : (-u.toInt).tmod m.toInt = -(u.toInt.tmod m.toInt) := Int.neg_tmod ..
  have h3 : 0 ≤ (-u.toInt).tmod m.toInt := Int.tmod_nonneg _ (by omega)
  omega
theorem fm_a {u m r q : Int32} (hm : 0 < m.toInt) (er : r = u - u / m * m) (eq : q = u ^^^ m) (h : 0 ≤ q) : 0 ≤ r.toInt ∧ r.toInt < m.toInt := by
  have h1 := Int32.le_iff_toInt_le.mp h
  have h2 := h_xneg (by omega) eq
  obtain ⟨a, b, c, d⟩ := fm_r hm er
  rw [show (0 : Int32).toInt = 0 from rfl] at h1
  exact ⟨c (by omega), b⟩
theorem fm_c {r : Int32} {n : Nat} (h : r = 0) : 0 ≤ r.toInt ∧ r.toInt < ((n + 1 : Nat) : Int) := by
  rw [h, show (0 : Int32).toInt = 0 from rfl]; omega
theorem fm_b {u m r q v : Int32} (hm : 0 < m.toInt) (er : r = u - u / m * m) (eq : q = u ^^^ m) (h : ¬ 0 ≤ q) (h0 : ¬ r = 0) (ev : v = r + m) : 0 ≤ v.toInt ∧ v.toInt < m.toInt := by
  have h1 := mt Int32.le_iff_toInt_le.mpr h
  rw [show (0 : Int32).toInt = 0 from rfl] at h1
  have h2 := h_xneg (by omega) eq
  obtain ⟨a, b, c, d⟩ := fm_r hm er
  have d := d (by omega)
  have h3 : r.toInt ≠ 0 := fun k => h0 (Int32.toInt_inj.mp (by rw [k]; rfl))
  have := Int32.toInt_lt m
  rw [ev, Jvm.Kit.i32_add (by omega) (by omega)]
  omega
/-- a char of a string constant -/
def h_chr (i : Nat) (u : Int32) : Int32 := (h_byt.getD i []).getD u.toNatClampNeg 0
theorem h_ckk : ∀ i : Nat, i < 6 → ∀ j : Nat, j < h_len.getD i 0 → (((h_byt.getD i []).getD j 0 &&& 255).toUInt32 % 65536).toInt32 = (h_byt.getD i []).getD j 0 ∧ narrow .char (.int ((h_byt.getD i []).getD j 0)) = .int ((h_byt.getD i []).getD j 0) := by decide +kernel
theorem h_cok (i : Nat) (hi : i < 6) (u : Int32) (h : u.toNatClampNeg < h_len.getD i 0) : ((h_chr i u &&& 255).toUInt32 % 65536).toInt32 = h_chr i u ∧ narrow .char (.int (h_chr i u)) = .int (h_chr i u) := h_ckk i hi _ h
theorem h_ltC {u : Int32} {n : Nat} (h0 : 0 ≤ u.toInt) (h1 : u.toInt < (n : Int)) : u.toNatClampNeg < n := by
  show u.toInt.toNat < n
  omega
