/-! The reference's cells: what each of them may hold, whatever was called; which of them the invariant speaks of. -/
def mP (j : Nat) (x : Int32) : Prop :=
  (j % 600 = 0 → 0 ≤ x.toInt ∧ x.toInt ≤ 8) ∧
  ((j % 600 = 1 ∨ j % 600 = 6 ∨ j % 600 = 16 ∨ j % 600 = 19 ∨ j % 600 = 20) → -1 ≤ x.toInt ∧ x.toInt ≤ 7) ∧
  ((j % 600 = 7 ∨ j % 600 = 8 ∨ j % 600 = 11 ∨ j % 600 = 12) → 0 ≤ x.toInt ∧ x.toInt ≤ 7) ∧
  (j % 600 = 31 → 0 ≤ x.toInt ∧ x.toInt ≤ 16) ∧
  (j % 600 = 32 → 0 ≤ x.toInt ∧ x.toInt ≤ 24) ∧
  (80 ≤ j % 600 ∧ j % 600 < 88 → 0 ≤ x.toInt ∧ x.toInt ≤ 6) ∧
  (88 ≤ j % 600 ∧ j % 600 < 96 → 0 ≤ x.toInt ∧ x.toInt ≤ 8) ∧
  (96 ≤ j % 600 ∧ j % 600 < 288 ∧ (j % 4 = 1 ∨ j % 4 = 2) → 0 ≤ x.toInt ∧ x.toInt ≤ 7) ∧
  (288 ≤ j % 600 ∧ j % 600 < 416 → 0 ≤ x.toInt ∧ x.toInt ≤ 7)
section MP
variable {j : Nat} {x : Int32}
theorem mP_N (h : mP j x) (e : j = 0) : 0 ≤ x.toInt ∧ x.toInt ≤ 8 := h.1 (by omega)
theorem mP_m1 (h : mP j x) (e : j = 1 ∨ j = 6 ∨ j = 16 ∨ j = 19 ∨ j = 20) : -1 ≤ x.toInt ∧ x.toInt ≤ 7 := h.2.1 (by omega)
theorem mP_l (h : mP j x) (e : j = 7 ∨ j = 8 ∨ j = 11 ∨ j = 12) : 0 ≤ x.toInt ∧ x.toInt ≤ 7 := h.2.2.1 (by omega)
theorem mP_gm (h : mP j x) (e : j = 31) : 0 ≤ x.toInt ∧ x.toInt ≤ 16 := h.2.2.2.1 (by omega)
theorem mP_em (h : mP j x) (e : j = 32) : 0 ≤ x.toInt ∧ x.toInt ≤ 24 := h.2.2.2.2.1 (by omega)
theorem mP_wm (h : mP j x) (e : 80 ≤ j ∧ j < 88) : 0 ≤ x.toInt ∧ x.toInt ≤ 6 := h.2.2.2.2.2.1 (by omega)
theorem mP_rm (h : mP j x) (e : 88 ≤ j ∧ j < 96) : 0 ≤ x.toInt ∧ x.toInt ≤ 8 := h.2.2.2.2.2.2.1 (by omega)
theorem mP_w (h : mP j x) (e : 96 ≤ j ∧ j < 288 ∧ (j % 4 = 1 ∨ j % 4 = 2)) : 0 ≤ x.toInt ∧ x.toInt ≤ 7 := h.2.2.2.2.2.2.2.1 (by omega)
theorem mP_ra (h : mP j x) (e : 288 ≤ j ∧ j < 416) : 0 ≤ x.toInt ∧ x.toInt ≤ 7 := h.2.2.2.2.2.2.2.2 (by omega)
theorem mP_mk (h1 : j % 600 = 0 → 0 ≤ x.toInt ∧ x.toInt ≤ 8) (h2 : (j % 600 = 1 ∨ j % 600 = 6 ∨ j % 600 = 16 ∨ j % 600 = 19 ∨ j % 600 = 20) → -1 ≤ x.toInt ∧ x.toInt ≤ 7)
    (h3 : (j % 600 = 7 ∨ j % 600 = 8 ∨ j % 600 = 11 ∨ j % 600 = 12) → 0 ≤ x.toInt ∧ x.toInt ≤ 7) (h4 : j % 600 = 31 → 0 ≤ x.toInt ∧ x.toInt ≤ 16) (h5 : j % 600 = 32 → 0 ≤ x.toInt ∧ x.toInt ≤ 24)
    (h6 : 80 ≤ j % 600 ∧ j % 600 < 88 → 0 ≤ x.toInt ∧ x.toInt ≤ 6) (h7 : 88 ≤ j % 600 ∧ j % 600 < 96 → 0 ≤ x.toInt ∧ x.toInt ≤ 8)
    (h8 : 96 ≤ j % 600 ∧ j % 600 < 288 ∧ (j % 4 = 1 ∨ j % 4 = 2) → 0 ≤ x.toInt ∧ x.toInt ≤ 7) (h9 : 288 ≤ j % 600 ∧ j % 600 < 416 → 0 ≤ x.toInt ∧ x.toInt ≤ 7) : mP j x := ⟨h1, h2, h3, h4, h5, h6, h7, h8, h9⟩
/-- a cell of which nothing is asked -/
def mFree (j : Nat) : Prop := j < 600 ∧ (j = 2 ∨ j = 3 ∨ j = 4 ∨ j = 5 ∨ j = 9 ∨ j = 10 ∨ j = 13 ∨ j = 14 ∨ j = 15 ∨ j = 17 ∨ j = 18 ∨ (21 ≤ j ∧ j < 31) ∨ (33 ≤ j ∧ j < 80) ∨ (96 ≤ j ∧ j < 288 ∧ (j % 4 = 0 ∨ j % 4 = 3)) ∨ 416 ≤ j)
theorem mP_free (h : mFree j) : mP j x := by
  unfold mFree at h
  exact ⟨fun e => by omega, fun e => by omega, fun e => by omega, fun e => by omega, fun e => by omega, fun e => by omega, fun e => by omega, fun e => by omega, fun e => by omega⟩
/-- 0 fits everywhere, and what lies from 0 to 6 -/
theorem mP_06 (h0 : 0 ≤ x.toInt) (h : x.toInt ≤ 6) : mP j x := ⟨fun _ => by omega, fun _ => by omega, fun _ => by omega, fun _ => by omega, fun _ => by omega, fun _ => by omega, fun _ => by omega, fun _ => by omega, fun _ => by omega⟩
theorem mP_zero : mP j 0 := mP_06 (by decide) (by decide)
theorem mP_07 (hj : ¬ (80 ≤ j % 600 ∧ j % 600 < 88)) (h0 : 0 ≤ x.toInt) (h : x.toInt ≤ 7) : mP j x := ⟨fun _ => by omega, fun _ => by omega, fun _ => by omega, fun _ => by omega, fun _ => by omega, fun e => absurd e hj, fun _ => by omega, fun _ => by omega, fun _ => by omega⟩
theorem mP_of7 (e : j = 7 ∨ j = 8 ∨ j = 11 ∨ j = 12 ∨ (96 ≤ j ∧ j < 416)) (h0 : 0 ≤ x.toInt) (h : x.toInt ≤ 7) : mP j x := mP_07 (by omega) h0 h
theorem mP_of1 (e : j = 1 ∨ j = 6 ∨ j = 16 ∨ j = 19 ∨ j = 20) (h0 : -1 ≤ x.toInt) (h : x.toInt ≤ 7) : mP j x := ⟨fun _ => by omega, fun _ => by omega, fun _ => by omega, fun _ => by omega, fun _ => by omega, fun _ => by omega, fun _ => by omega, fun _ => by omega, fun _ => by omega⟩
theorem mP_of8 (e : j = 0 ∨ (88 ≤ j ∧ j < 96)) (h0 : 0 ≤ x.toInt) (h : x.toInt ≤ 8) : mP j x := ⟨fun _ => by omega, fun _ => by omega, fun _ => by omega, fun _ => by omega, fun _ => by omega, fun _ => by omega, fun _ => by omega, fun _ => by omega, fun _ => by omega⟩
theorem mP_of16 (e : j = 31) (h0 : 0 ≤ x.toInt) (h : x.toInt ≤ 16) : mP j x := ⟨fun _ => by omega, fun _ => by omega, fun _ => by omega, fun _ => by omega, fun _ => by omega, fun _ => by omega, fun _ => by omega, fun _ => by omega, fun _ => by omega⟩
theorem mP_of24 (e : j = 32) (h0 : 0 ≤ x.toInt) (h : x.toInt ≤ 24) : mP j x := ⟨fun _ => by omega, fun _ => by omega, fun _ => by omega, fun _ => by omega, fun _ => by omega, fun _ => by omega, fun _ => by omega, fun _ => by omega, fun _ => by omega⟩
/-- cells that lie apart by 4, in the rows of what waits -/
theorem mP_row {k : Nat} (h : mP j x) (e : j = k + 4) (h1 : 96 ≤ k) (h2 : k < 284) : mP k x := ⟨fun _ => by omega, fun _ => by omega, fun _ => by omega, fun _ => by omega, fun _ => by omega, fun _ => by omega, fun _ => by omega, fun q => h.2.2.2.2.2.2.2.1 (by omega), fun _ => by omega⟩
/-- a cell of another region -/
theorem mP_reg {k a b : Nat} (h : mP (600 * a + k) x) (hk : k < 600) : mP (600 * b + k) x := by
  obtain ⟨h1, h2, h3, h4, h5, h6, h7, h8, h9⟩ := h
  exact ⟨fun q => h1 (by omega), fun q => h2 (by omega), fun q => h3 (by omega), fun q => h4 (by omega), fun q => h5 (by omega), fun q => h6 (by omega), fun q => h7 (by omega), fun q => h8 (by omega), fun q => h9 (by omega)⟩
end MP
def tM (P : Int32 → Prop) : hTb := (fun ci k => match ci, k with
  | 11, 2 => P
  | 11, 5 => fun x => x = 0 ∨ x = 1
  | 11, 6 => fun x => x = 0 ∨ x = 1
  | 11, 10 => fun x => 0 ≤ x.toInt ∧ x.toInt ≤ 500
  | 11, 11 => fun x => 0 ≤ x.toInt ∧ x.toInt ≤ 500
  | 11, 13 => fun x => 0 ≤ x.toInt ∧ x.toInt ≤ 500
  | 11, 14 => fun x => 0 ≤ x.toInt ∧ x.toInt ≤ 500
  | 11, 19 => fun x => 0 ≤ x.toInt ∧ x.toInt < 139968
  | _, _ => fun _ => True, fun r => match r with
  | 1100 => mP
  | _ => fun _ _ => True)
def mK (j : Nat) : Prop := j = 0 ∨ j = 7 ∨ j = 16 ∨ (88 ≤ j ∧ j < 96) ∨ (288 ≤ j ∧ j < 416) ∨ 600 ≤ j
def mE (o : Nat) (H H1 : Heap) : Prop := ∀ j : Nat, mK j → h_ai H1 (o + 1) j = h_ai H (o + 1) j
def mU (o : Nat) (H H1 : Heap) : Prop := ∀ j : Nat, (j = 0 ∨ 600 ≤ j) → h_ai H1 (o + 1) j = h_ai H (o + 1) j
def mW (o : Nat) (H H1 : Heap) : Prop := ∀ j : Nat, 600 ≤ j → h_ai H1 (o + 1) j = h_ai H (o + 1) j
def mV (o : Nat) (H H1 : Heap) : Prop := ∀ j : Nat, 1200 ≤ j → h_ai H1 (o + 1) j = h_ai H (o + 1) j
/-! the raises: each NEW above its OLD, all of them together no higher than the LEVEL -/
def rT (F : Nat → Int32) (j : Nat) : Int := if ((j % 8 : Nat) : Int) < (F (88 + j / 8)).toInt then (F (289 + 2 * j)).toInt - (F (288 + 2 * j)).toInt else 0
def rS (F : Nat → Int32) : Nat → Int
  | 0 => 0
  | n + 1 => rS F n + rT F n
def RR (F : Nat → Int32) : Prop := (∀ j : Nat, j < 64 → ((j % 8 : Nat) : Int) < (F (88 + j / 8)).toInt → (F (288 + 2 * j)).toInt < (F (289 + 2 * j)).toInt) ∧ rS F 64 ≤ (F 7).toInt ∧ ∀ s : Nat, s < 8 → (F 0).toInt ≤ (s : Int) → (F (88 + s)).toInt ≤ 0
section RS
variable {F F1 : Nat → Int32}
theorem rS_same {n : Nat} (h : ∀ j : Nat, j < n → rT F1 j = rT F j) : rS F1 n = rS F n := by
  induction n with
  | zero => rfl
  | succ n ih => unfold rS; rw [ih (fun j hj => h j (by omega)), h n (by omega)]
theorem rS_le {n : Nat} (h : ∀ j : Nat, j < n → rT F1 j ≤ rT F j) : rS F1 n ≤ rS F n := by
  induction n with
  | zero => exact Int.le_refl _
  | succ n ih =>
    have h1 := ih (fun j hj => h j (by omega))
    have h2 := h n (by omega)
    unfold rS; omega
theorem rS_one {n k : Nat} (hk : k < n) (h : ∀ j : Nat, j < n → j ≠ k → rT F1 j = rT F j) : rS F1 n = rS F n - rT F k + rT F1 k := by
  induction n with
  | zero => omega
  | succ n ih =>
    unfold rS
    by_cases e : k = n
    · subst e
      rw [rS_same (fun j hj => h j (by omega) (by omega))]; omega
    · rw [ih (by omega) (fun j hj => h j (by omega)), h n (by omega) (fun q => e q.symm)]; omega
theorem rT_nn (h : RR F) {j : Nat} (hj : j < 64) : 0 ≤ rT F j := by
  unfold rT
  split
  · rename_i q
    have := h.1 j hj q
    omega
  · omega
theorem rS_nn (h : RR F) {n : Nat} (hn : n ≤ 64) : 0 ≤ rS F n := by
  induction n with
  | zero => exact Int.le_refl _
  | succ n ih =>
    have h1 := ih (by omega)
    have h2 := rT_nn h (j := n) (by omega)
    unfold rS; omega
theorem rS_up (h : RR F) {n k : Nat} (hn : n + k ≤ 64) : rS F n ≤ rS F (n + k) := by
  induction k with
  | zero => exact Int.le_refl _
  | succ k ih =>
    have h1 := ih (by omega)
    have h2 := rT_nn h (j := n + k) (by omega)
    have : rS F (n + (k + 1)) = rS F (n + k) + rT F (n + k) := rfl
    omega
theorem rS_cnt (h : RR F) {s : Nat} (hs : s < 8) {k : Nat} (hk : k ≤ 8) (hm : (k : Int) ≤ (F (88 + s)).toInt) : (k : Int) ≤ rS F (8 * s + k) := by
  induction k with
  | zero => have := rS_nn h (n := 8 * s + 0) (by omega); omega
  | succ k ih =>
    have h1 := ih (by omega) (by omega)
    have e1 : (8 * s + k) % 8 = k := by omega
    have e2 : (8 * s + k) / 8 = s := by omega
    have q : (((8 * s + k) % 8 : Nat) : Int) < (F (88 + (8 * s + k) / 8)).toInt := by rw [e1, e2]; omega
    have h2 := h.1 (8 * s + k) (by omega) q
    have h3 : rT F (8 * s + k) = (F (289 + 2 * (8 * s + k))).toInt - (F (288 + 2 * (8 * s + k))).toInt := by unfold rT; rw [if_pos q]
    have : rS F (8 * s + (k + 1)) = rS F (8 * s + k) + rT F (8 * s + k) := rfl
    omega
/-- so many raises of one station: no more than the level -/
theorem RR_top (h : RR F) {s : Nat} (hs : s < 8) (h0 : 0 ≤ (F (88 + s)).toInt) (h8 : (F (88 + s)).toInt ≤ 8) : (F (88 + s)).toInt ≤ (F 7).toInt := by
  have h1 := rS_cnt h hs (k := (F (88 + s)).toInt.toNat) (by omega) (by omega)
  have h2 := rS_up h (n := 8 * s + (F (88 + s)).toInt.toNat) (k := 64 - (8 * s + (F (88 + s)).toInt.toNat)) (by omega)
  rw [show 8 * s + (F (88 + s)).toInt.toNat + (64 - (8 * s + (F (88 + s)).toInt.toNat)) = 64 by omega] at h2
  have h3 := h.2.1
  omega
theorem RR_same (e : ∀ j : Nat, mK j → j ≠ 16 → F1 j = F j) (h : RR F) : RR F1 := by
  have t : ∀ j : Nat, j < 64 → rT F1 j = rT F j := fun j hj => by
    unfold rT
    rw [e (88 + j / 8) (by unfold mK; omega) (by omega), e (289 + 2 * j) (by unfold mK; omega) (by omega), e (288 + 2 * j) (by unfold mK; omega) (by omega)]
  refine ⟨fun j hj q => ?_, ?_, fun s hs q => ?_⟩
  · rw [e (88 + j / 8) (by unfold mK; omega) (by omega)] at q
    rw [e (289 + 2 * j) (by unfold mK; omega) (by omega), e (288 + 2 * j) (by unfold mK; omega) (by omega)]
    exact h.1 j hj q
  · rw [rS_same t, e 7 (by unfold mK; omega) (by omega)]; exact h.2.1
  · rw [e (88 + s) (by unfold mK; omega) (by omega)]
    rw [e 0 (by unfold mK; omega) (by omega)] at q
    exact h.2.2 s hs q
/-- a station's raises go -/
theorem RR_drop {k : Nat} (hk : 80 ≤ k ∧ k < 96) (e : ∀ j : Nat, mK j → j ≠ k → F1 j = F j) (h0 : (F1 k).toInt ≤ 0) (h : RR F) : RR F1 := by
  have a : ∀ s : Nat, s < 8 → (F1 (88 + s)).toInt ≤ (F (88 + s)).toInt ∨ (F1 (88 + s)).toInt ≤ 0 := fun s hs => by
    by_cases q : 88 + s = k
    · exact Or.inr (by rw [q]; exact h0)
    · exact Or.inl (by rw [e _ (by unfold mK; omega) q]; exact Int.le_refl _)
  refine ⟨fun j hj q => ?_, ?_, fun s hs q => ?_⟩
  · rw [e (289 + 2 * j) (by unfold mK; omega) (by omega), e (288 + 2 * j) (by unfold mK; omega) (by omega)]
    have := a (j / 8) (by omega)
    exact h.1 j hj (by omega)
  · rw [e 7 (by unfold mK; omega) (by omega)]
    refine Int.le_trans (rS_le fun j hj => ?_) h.2.1
    have hn := rT_nn h hj
    unfold rT at hn ⊢
    rw [e (289 + 2 * j) (by unfold mK; omega) (by omega), e (288 + 2 * j) (by unfold mK; omega) (by omega)]
    have := a (j / 8) (by omega)
    split
    · rw [if_pos (by omega)]; exact Int.le_refl _
    · exact hn
  · rw [e 0 (by unfold mK; omega) (by omega)] at q
    have := a s hs
    have := h.2.2 s hs q
    omega
theorem RR_zero (h : ∀ s : Nat, s < 8 → (F (88 + s)).toInt ≤ 0) (h7 : 0 ≤ (F 7).toInt) : RR F := by
  refine ⟨fun j hj q => ?_, ?_, fun s hs _ => h s hs⟩
  · have := h (j / 8) (by omega); omega
  · have t : ∀ n : Nat, n ≤ 64 → rS F n = 0 := fun n => by
      induction n with
      | zero => intro _; rfl
      | succ n ih =>
        intro hn
        have := h (n / 8) (by omega)
        unfold rS
        rw [ih (by omega)]
        unfold rT
        rw [if_neg (by omega)]
        rfl
    rw [t 64 (by omega)]; exact h7
section R1
variable {s m : Nat}
theorem r_at (hm : m < 8) : (8 * s + m) % 8 = m ∧ (8 * s + m) / 8 = s := by omega
/-- the topmost NEW, which is the level, and the level change alike -/
theorem RR_set (hs : s < 8) (hm : m < 8) (hc : (F (88 + s)).toInt = (m : Int) + 1) (hl : (F (289 + 2 * (8 * s + m))).toInt = (F 7).toInt) (h : RR F)
    (e7 : (F1 7).toInt = (F1 (289 + 2 * (8 * s + m))).toInt) (eg : (F (288 + 2 * (8 * s + m))).toInt < (F1 7).toInt) (e : ∀ j : Nat, mK j → j ≠ 7 → j ≠ 289 + 2 * (8 * s + m) → F1 j = F j) : RR F1 := by
  have t : ∀ j : Nat, j < 64 → j ≠ 8 * s + m → rT F1 j = rT F j := fun j hj q => by
    unfold rT
    rw [e (88 + j / 8) (by unfold mK; omega) (by omega) (by omega), e (289 + 2 * j) (by unfold mK; omega) (by omega) (by omega), e (288 + 2 * j) (by unfold mK; omega) (by omega) (by omega)]
  have tk : rT F (8 * s + m) = (F 7).toInt - (F (288 + 2 * (8 * s + m))).toInt := by
    unfold rT; rw [(r_at hm).1, (r_at hm).2, if_pos (by omega), hl]
  have tk1 : rT F1 (8 * s + m) = (F1 7).toInt - (F (288 + 2 * (8 * s + m))).toInt := by
    unfold rT; rw [(r_at hm).1, (r_at hm).2, e (88 + s) (by unfold mK; omega) (by omega) (by omega), if_pos (by omega), ← e7, e (288 + 2 * (8 * s + m)) (by unfold mK; omega) (by omega) (by omega)]
  refine ⟨fun j hj q => ?_, ?_, fun a ha q => ?_⟩
  · rw [e (88 + j / 8) (by unfold mK; omega) (by omega) (by omega)] at q
    rw [e (288 + 2 * j) (by unfold mK; omega) (by omega) (by omega)]
    by_cases c : j = 8 * s + m
    · subst c; rw [← e7]; exact eg
    · rw [e (289 + 2 * j) (by unfold mK; omega) (by omega) (by omega)]; exact h.1 j hj q
  · rw [rS_one (k := 8 * s + m) (by omega) t, tk, tk1]
    have := h.2.1
    omega
  · rw [e (88 + a) (by unfold mK; omega) (by omega) (by omega)]
    rw [e 0 (by unfold mK; omega) (by omega) (by omega)] at q
    exact h.2.2 a ha q
/-- the level is lowered to the topmost OLD, that raise goes -/
theorem RR_low (hs : s < 8) (hm : m < 8) (hc : (F (88 + s)).toInt = (m : Int) + 1) (hl : (F (289 + 2 * (8 * s + m))).toInt = (F 7).toInt) (h : RR F)
    (e7 : (F1 7).toInt = (F (288 + 2 * (8 * s + m))).toInt) (e8 : (F1 (88 + s)).toInt = (m : Int)) (e : ∀ j : Nat, mK j → j ≠ 7 → j ≠ 88 + s → F1 j = F j) : RR F1 := by
  have t : ∀ j : Nat, j < 64 → j ≠ 8 * s + m → rT F1 j = rT F j := fun j hj q => by
    unfold rT
    rw [e (289 + 2 * j) (by unfold mK; omega) (by omega) (by omega), e (288 + 2 * j) (by unfold mK; omega) (by omega) (by omega)]
    by_cases c : 88 + j / 8 = 88 + s
    · rw [c, e8, hc]
      by_cases d : ((j % 8 : Nat) : Int) < (m : Int)
      · rw [if_pos d, if_pos (by omega)]
      · rw [if_neg d, if_neg (by omega)]
    · rw [e (88 + j / 8) (by unfold mK; omega) (by omega) c]
  have tk : rT F (8 * s + m) = (F 7).toInt - (F (288 + 2 * (8 * s + m))).toInt := by
    unfold rT; rw [(r_at hm).1, (r_at hm).2, if_pos (by omega), hl]
  have tk1 : rT F1 (8 * s + m) = 0 := by
    unfold rT; rw [(r_at hm).1, (r_at hm).2, e8, if_neg (by omega)]
  refine ⟨fun j hj q => ?_, ?_, fun a ha q => ?_⟩
  · rw [e (289 + 2 * j) (by unfold mK; omega) (by omega) (by omega), e (288 + 2 * j) (by unfold mK; omega) (by omega) (by omega)]
    by_cases c : 88 + j / 8 = 88 + s
    · rw [c, e8] at q
      exact h.1 j hj (by rw [c, hc]; omega)
    · rw [e (88 + j / 8) (by unfold mK; omega) (by omega) c] at q
      exact h.1 j hj q
  · rw [rS_one (k := 8 * s + m) (by omega) t, tk, tk1]
    have := h.2.1
    omega
  · rw [e 0 (by unfold mK; omega) (by omega) (by omega)] at q
    have := h.2.2 a ha q
    by_cases c : 88 + a = 88 + s
    · rw [c, e8]; rw [c, hc] at this; omega
    · rw [e (88 + a) (by unfold mK; omega) (by omega) c]; exact this
/-- a raise more -/
theorem RR_push (hs : s < 8) (hm : m < 8) (hc : (F (88 + s)).toInt = (m : Int)) (hN : (s : Int) < (F 0).toInt) (hg : (F 7).toInt < (F1 7).toInt) (h : RR F)
    (eo : (F1 (288 + 2 * (8 * s + m))).toInt = (F 7).toInt) (en : (F1 (289 + 2 * (8 * s + m))).toInt = (F1 7).toInt) (e8 : (F1 (88 + s)).toInt = (m : Int) + 1)
    (e : ∀ j : Nat, mK j → j ≠ 7 → j ≠ 88 + s → j ≠ 288 + 2 * (8 * s + m) → j ≠ 289 + 2 * (8 * s + m) → F1 j = F j) : RR F1 := by
  have t : ∀ j : Nat, j < 64 → j ≠ 8 * s + m → rT F1 j = rT F j := fun j hj q => by
    unfold rT
    rw [e (289 + 2 * j) (by unfold mK; omega) (by omega) (by omega) (by omega) (by omega), e (288 + 2 * j) (by unfold mK; omega) (by omega) (by omega) (by omega) (by omega)]
    by_cases c : 88 + j / 8 = 88 + s
    · rw [c, e8, hc]
      by_cases d : ((j % 8 : Nat) : Int) < (m : Int)
      · rw [if_pos d, if_pos (by omega)]
      · rw [if_neg d, if_neg (by omega)]
    · rw [e (88 + j / 8) (by unfold mK; omega) (by omega) c (by omega) (by omega)]
  have tk : rT F (8 * s + m) = 0 := by
    unfold rT; rw [(r_at hm).1, (r_at hm).2, hc, if_neg (by omega)]
  have tk1 : rT F1 (8 * s + m) = (F1 7).toInt - (F 7).toInt := by
    unfold rT; rw [(r_at hm).1, (r_at hm).2, e8, if_pos (by omega), eo, en]
  refine ⟨fun j hj q => ?_, ?_, fun a ha q => ?_⟩
  · by_cases d : j = 8 * s + m
    · subst d; rw [eo, en]; exact hg
    · rw [e (289 + 2 * j) (by unfold mK; omega) (by omega) (by omega) (by omega) (by omega), e (288 + 2 * j) (by unfold mK; omega) (by omega) (by omega) (by omega) (by omega)]
      by_cases c : 88 + j / 8 = 88 + s
      · rw [c, e8] at q
        exact h.1 j hj (by rw [c, hc]; omega)
      · rw [e (88 + j / 8) (by unfold mK; omega) (by omega) c (by omega) (by omega)] at q
        exact h.1 j hj q
  · rw [rS_one (k := 8 * s + m) (by omega) t, tk, tk1]
    have := h.2.1
    omega
  · rw [e 0 (by unfold mK; omega) (by omega) (by omega) (by omega) (by omega)] at q
    rw [e (88 + a) (by unfold mK; omega) (by omega) (by omega) (by omega) (by omega)]
    exact h.2.2 a ha q
end R1
/-- a station more -/
theorem RR_add (h : RR F) (e : ∀ j : Nat, mK j → j ≠ 0 → F1 j = F j) (e0 : (F 0).toInt ≤ (F1 0).toInt) : RR F1 := by
  have t : ∀ j : Nat, j < 64 → rT F1 j = rT F j := fun j hj => by
    unfold rT
    rw [e (88 + j / 8) (by unfold mK; omega) (by omega), e (289 + 2 * j) (by unfold mK; omega) (by omega), e (288 + 2 * j) (by unfold mK; omega) (by omega)]
  refine ⟨fun j hj q => ?_, ?_, fun s hs q => ?_⟩
  · rw [e (88 + j / 8) (by unfold mK; omega) (by omega)] at q
    rw [e (289 + 2 * j) (by unfold mK; omega) (by omega), e (288 + 2 * j) (by unfold mK; omega) (by omega)]
    exact h.1 j hj q
  · rw [rS_same t, e 7 (by unfold mK; omega) (by omega)]; exact h.2.1
  · rw [e (88 + s) (by unfold mK; omega) (by omega)]
    exact h.2.2 s hs (by omega)
end RS
/-- the invariant of a region of the cells -/
def mI (F : Nat → Int32) : Prop := RR F ∧ (F 16).toInt < (F 0).toInt
def mR (o : Nat) (H : Heap) : Prop := mI (fun j => h_ai H (o + 1) j)
def mRa (o : Nat) (H : Heap) (b : Nat) : Prop := mI (fun j => h_ai H (o + 1) (b + j))
section MI
variable {F F1 : Nat → Int32} {o : Nat} {H H1 : Heap}
theorem mI_low (e : ∀ j : Nat, j < 600 → F1 j = F j) (h : mI F) : mI F1 := by
  refine ⟨?_, by rw [e 16 (by omega), e 0 (by omega)]; exact h.2⟩
  have t : ∀ j : Nat, j < 64 → rT F1 j = rT F j := fun j hj => by
    unfold rT
    rw [e (88 + j / 8) (by omega), e (289 + 2 * j) (by omega), e (288 + 2 * j) (by omega)]
  refine ⟨fun j hj q => ?_, ?_, fun s hs q => ?_⟩
  · rw [e (88 + j / 8) (by omega)] at q
    rw [e (289 + 2 * j) (by omega), e (288 + 2 * j) (by omega)]
    exact h.1.1 j hj q
  · rw [rS_same t, e 7 (by omega)]; exact h.1.2.1
  · rw [e (88 + s) (by omega)]
    rw [e 0 (by omega)] at q
    exact h.1.2.2 s hs q
theorem mR.keep (h : mR o H) (e : mE o H H1) : mR o H1 := ⟨RR_same (fun j hj _ => e j hj) h.1, by
  show (h_ai H1 (o + 1) 16).toInt < (h_ai H1 (o + 1) 0).toInt
  rw [e 16 (by unfold mK; omega), e 0 (by unfold mK; omega)]; exact h.2⟩
theorem mR.copy {b : Nat} (h : mRa o H b) (e : ∀ j : Nat, j < 600 → h_ai H1 (o + 1) j = h_ai H (o + 1) (b + j)) : mR o H1 := mI_low (F := fun j => h_ai H (o + 1) (b + j)) e h
theorem mR.aside {b : Nat} (h : mR o H) (e : ∀ j : Nat, j < 600 → h_ai H1 (o + 1) (b + j) = h_ai H (o + 1) j) : mRa o H1 b := mI_low (F := fun j => h_ai H (o + 1) j) e h
theorem mRa.kept {b : Nat} (h : mRa o H b) (e : ∀ j : Nat, j < 600 → h_ai H1 (o + 1) (b + j) = h_ai H (o + 1) (b + j)) : mRa o H1 b := mI_low (F := fun j => h_ai H (o + 1) (b + j)) e h
theorem mR.same (h : mR o H) (e : H1[o + 1]? = H[o + 1]?) : mR o H1 := h.keep fun _ _ => h_ai_same e
end MI
/-! int arithmetic, by its values -/
theorem h_addX (a b : Int32) (i j : Int) (ha : a.toInt = i) (hb : b.toInt = j) (h1 : -2147483648 ≤ i + j) (h2 : i + j < 2147483648) : ∃ x : Int32, a + b = x ∧ x.toInt = i + j := ⟨_, rfl, by subst ha; subst hb; exact Jvm.Kit.i32_add h1 h2⟩
theorem h_subX (a b : Int32) (i j : Int) (ha : a.toInt = i) (hb : b.toInt = j) (h1 : -2147483648 ≤ i - j) (h2 : i - j < 2147483648) : ∃ x : Int32, a - b = x ∧ x.toInt = i - j := ⟨_, rfl, by subst ha; subst hb; exact Jvm.Kit.i32_sub h1 h2⟩
theorem h_mulX (a b : Int32) (i j : Int) (ha : a.toInt = i) (hb : b.toInt = j) (h1 : -2147483648 ≤ i * j) (h2 : i * j < 2147483648) : ∃ x : Int32, a * b = x ∧ x.toInt = i * j := ⟨_, rfl, by subst ha; subst hb; exact Jvm.Kit.i32_mul h1 h2⟩
theorem h_addE (a b x : Int32) (i j : Int) (ha : a.toInt = i) (hb : b.toInt = j) (h1 : -2147483648 ≤ i + j) (h2 : i + j < 2147483648) (h : i + j = x.toInt) : a + b = x := by
  obtain ⟨y, h3, h4⟩ := h_addX a b i j ha hb h1 h2
  rw [h3]; exact Int32.toInt_inj.mp (h4.trans h)
theorem h_subE (a b x : Int32) (i j : Int) (ha : a.toInt = i) (hb : b.toInt = j) (h1 : -2147483648 ≤ i - j) (h2 : i - j < 2147483648) (h : i - j = x.toInt) : a - b = x := by
  obtain ⟨y, h3, h4⟩ := h_subX a b i j ha hb h1 h2
  rw [h3]; exact Int32.toInt_inj.mp (h4.trans h)
theorem h_mulE (a b x : Int32) (i j : Int) (ha : a.toInt = i) (hb : b.toInt = j) (h1 : -2147483648 ≤ i * j) (h2 : i * j < 2147483648) (h : i * j = x.toInt) : a * b = x := by
  obtain ⟨y, h3, h4⟩ := h_mulX a b i j ha hb h1 h2
  rw [h3]; exact Int32.toInt_inj.mp (h4.trans h)
theorem h_remX (a b : Int32) (i j : Int) (ha : a.toInt = i) (hb : b.toInt = j) (h0 : 0 ≤ i) (hj : 0 < j) : ∃ x : Int32, a - a / b * b = x ∧ x.toInt = i % j := ⟨_, rfl, by
  subst ha; subst hb
  rw [rem_toInt]
  exact Int.tmod_eq_emod_of_nonneg h0⟩
theorem h_rem0 (a b : Int32) (i j : Int) (ha : a.toInt = i) (hb : b.toInt = j) (h0 : 0 ≤ i) (hj : 0 < j) : ∃ x : Int32, a - a / b * b = x ∧ 0 ≤ x.toInt ∧ x.toInt < j ∧ (i < j → x.toInt = i) ∧ (i = j → x.toInt = 0) := by
  obtain ⟨x, h1, h2⟩ := h_remX a b i j ha hb h0 hj
  refine ⟨x, h1, by rw [h2]; exact Int.emod_nonneg _ (by omega), by rw [h2]; exact Int.emod_lt_of_pos _ hj, fun h => by rw [h2]; exact Int.emod_eq_of_lt h0 h, fun h => by rw [h2, h]; exact Int.emod_self⟩
theorem h_divX (a b : Int32) (i j n : Int) (ha : a.toInt = i) (hb : b.toInt = j) (h0 : 0 ≤ i) (hj : 0 < j) (hn : i < n * j) : ∃ x : Int32, a / b = x ∧ 0 ≤ x.toInt ∧ x.toInt < n := ⟨_, rfl, by
  subst ha; subst hb
  rw [Jvm.Kit.i32_div (by omega), Int.tdiv_eq_ediv_of_nonneg h0]
  exact ⟨Int.ediv_nonneg h0 (by omega), Int.ediv_lt_of_lt_mul hj hn⟩⟩
theorem h_drawX (a b : Int32) (h1 : 0 ≤ a.toInt) (h2 : a.toInt < 139968) (h3 : 0 ≤ b.toInt) (h4 : b.toInt ≤ 16) : ∃ x : Int32, a * b = x ∧ 0 ≤ x.toInt ∧ x.toInt ≤ b.toInt * 139967 := by
  have q1 : 0 ≤ a.toInt * b.toInt := Int.mul_nonneg h1 h3
  have q2 : a.toInt * b.toInt ≤ 139967 * b.toInt := Int.mul_le_mul_of_nonneg_right (by omega) h3
  have e : (a * b).toInt = a.toInt * b.toInt := Jvm.Kit.i32_mul (by omega) (by omega)
  exact ⟨_, rfl, by rw [e]; exact q1, by rw [e]; omega⟩
theorem h_neI {a b : Int32} (h : ¬ a = b) : ¬ a.toInt = b.toInt := fun q => h (Int32.toInt_inj.mp q)
theorem h_nltI {a b : Int32} (h : ¬ a < b) : ¬ a.toInt < b.toInt := fun q => h (Int32.lt_iff_toInt_lt.mpr q)
theorem h_nleI {a b : Int32} (h : ¬ a ≤ b) : ¬ a.toInt ≤ b.toInt := fun q => h (Int32.le_iff_toInt_le.mpr q)
theorem h_vin {x : Int32} {n : Nat} (h0 : 0 ≤ x.toInt) (h1 : x.toInt < (n : Int)) : vp_in x n := vp_in_iff.mpr ⟨h0, h1⟩

theorem mP_cell {G : hG} {Y : hW} {P : Int32 → Prop} {o : Nat} {H : Heap} (hM : h_On Y o (modE (tM P) o)) (hT0 : hT G Y H) {j : Nat} (hj : j < 3600) : mP j (h_ai H (o + 1) j) := (hT0.ai (hM.at 1 rfl) hj).1
section MH
variable {o : Nat} {H H1 : Heap} {v : Int32}
theorem mR_break (hp : h_apu H H1 (o + 1) 16 (.int v)) (h : v.toInt < (h_ai H (o + 1) 0).toInt) (hR : mR o H) : mR o H1 := by
  refine ⟨RR_same (fun j _ hj => h_apn hp hj) hR.1, ?_⟩
  · show (h_ai H1 (o + 1) 16).toInt < (h_ai H1 (o + 1) 0).toInt
    rw [h_aps hp, h_apn hp (by decide)]; exact h
theorem mR_add (hp : h_apu H H1 (o + 1) 0 (.int v)) (h : (h_ai H (o + 1) 0).toInt ≤ v.toInt) (hR : mR o H) : mR o H1 := by
  refine ⟨RR_add hR.1 (fun j _ hj => h_apn hp hj) (by show (h_ai H (o + 1) 0).toInt ≤ (h_ai H1 (o + 1) 0).toInt; rw [h_aps hp]; exact h), ?_⟩
  show (h_ai H1 (o + 1) 16).toInt < (h_ai H1 (o + 1) 0).toInt
  have := hR.2
  have : (h_ai H (o + 1) 16).toInt < (h_ai H (o + 1) 0).toInt := this
  rw [h_aps hp, h_apn hp (by decide)]; omega
theorem mR_drop {k : Nat} (hk : 80 ≤ k ∧ k < 96) (hp : h_apu H H1 (o + 1) k (.int 0)) (hR : mR o H) : mR o H1 := by
  refine ⟨RR_drop hk (fun j _ hj => h_apn hp hj) (by show (h_ai H1 (o + 1) k).toInt ≤ 0; rw [h_aps hp]; decide) hR.1, ?_⟩
  show (h_ai H1 (o + 1) 16).toInt < (h_ai H1 (o + 1) 0).toInt
  rw [h_apn hp (by omega), h_apn hp (by omega)]; exact hR.2
theorem mR_fix (hR : mR o H) (e : ∀ j : Nat, (j = 0 ∨ j = 16) → h_ai H1 (o + 1) j = h_ai H (o + 1) j) (h : RR (fun j => h_ai H1 (o + 1) j)) : mR o H1 := ⟨h, by
  show (h_ai H1 (o + 1) 16).toInt < (h_ai H1 (o + 1) 0).toInt
  rw [e 16 (by omega), e 0 (by omega)]; exact hR.2⟩
theorem mR_set (s m : Nat) {k8 kr kn : Nat} (hs : s < 8) (hm : m < 8) (e8 : k8 = 88 + s) (er : kr = 288 + 2 * (8 * s + m)) (en : kn = 289 + 2 * (8 * s + m)) (hR : mR o H)
    (hc : (h_ai H (o + 1) k8).toInt = (m : Int) + 1) (hl : (h_ai H (o + 1) kn).toInt = (h_ai H (o + 1) 7).toInt) (e7 : (h_ai H1 (o + 1) 7).toInt = (h_ai H1 (o + 1) kn).toInt) (eg : (h_ai H (o + 1) kr).toInt < (h_ai H1 (o + 1) 7).toInt)
    (e : ∀ j : Nat, mK j → j ≠ 7 → j ≠ kn → h_ai H1 (o + 1) j = h_ai H (o + 1) j) : mR o H1 := by
  subst e8; subst er; subst en
  exact mR_fix hR (fun j hj => e j (by unfold mK; omega) (by omega) (by omega)) (RR_set (F := fun j => h_ai H (o + 1) j) hs hm hc hl hR.1 e7 eg e)
theorem mR_low (s m : Nat) {k8 kr kn : Nat} (hs : s < 8) (hm : m < 8) (e8 : k8 = 88 + s) (er : kr = 288 + 2 * (8 * s + m)) (en : kn = 289 + 2 * (8 * s + m)) (hR : mR o H)
    (hc : (h_ai H (o + 1) k8).toInt = (m : Int) + 1) (hl : (h_ai H (o + 1) kn).toInt = (h_ai H (o + 1) 7).toInt) (e7 : (h_ai H1 (o + 1) 7).toInt = (h_ai H (o + 1) kr).toInt) (ec : (h_ai H1 (o + 1) k8).toInt = (m : Int))
    (e : ∀ j : Nat, mK j → j ≠ 7 → j ≠ k8 → h_ai H1 (o + 1) j = h_ai H (o + 1) j) : mR o H1 := by
  subst e8; subst er; subst en
  exact mR_fix hR (fun j hj => e j (by unfold mK; omega) (by omega) (by omega)) (RR_low (F := fun j => h_ai H (o + 1) j) hs hm hc hl hR.1 e7 ec e)
theorem mR_push (s m : Nat) {k8 kr kn : Nat} (hs : s < 8) (hm : m < 8) (e8 : k8 = 88 + s) (er : kr = 288 + 2 * (8 * s + m)) (en : kn = 289 + 2 * (8 * s + m)) (hR : mR o H)
    (hc : (h_ai H (o + 1) k8).toInt = (m : Int)) (hN : (s : Int) < (h_ai H (o + 1) 0).toInt) (hg : (h_ai H (o + 1) 7).toInt < (h_ai H1 (o + 1) 7).toInt)
    (eo : (h_ai H1 (o + 1) kr).toInt = (h_ai H (o + 1) 7).toInt) (ew : (h_ai H1 (o + 1) kn).toInt = (h_ai H1 (o + 1) 7).toInt) (ec : (h_ai H1 (o + 1) k8).toInt = (m : Int) + 1)
    (e : ∀ j : Nat, mK j → j ≠ 7 → j ≠ k8 → j ≠ kr → j ≠ kn → h_ai H1 (o + 1) j = h_ai H (o + 1) j) : mR o H1 := by
  subst e8; subst er; subst en
  exact mR_fix hR (fun j hj => e j (by unfold mK; omega) (by omega) (by omega) (by omega) (by omega)) (RR_push (F := fun j => h_ai H (o + 1) j) hs hm hc hN hg hR.1 eo ew ec e)
theorem mR_top (s : Nat) {k8 : Nat} (hs : s < 8) (e8 : k8 = 88 + s) (hR : mR o H) (h0 : 0 ≤ (h_ai H (o + 1) k8).toInt) (h8 : (h_ai H (o + 1) k8).toInt ≤ 8) : (h_ai H (o + 1) k8).toInt ≤ (h_ai H (o + 1) 7).toInt := by
  subst e8
  exact RR_top (F := fun j => h_ai H (o + 1) j) hR.1 hs h0 h8
theorem mR_pair (s m : Nat) {k8 kr kn : Nat} (hs : s < 8) (hm : m < 8) (e8 : k8 = 88 + s) (er : kr = 288 + 2 * (8 * s + m)) (en : kn = 289 + 2 * (8 * s + m)) (hR : mR o H)
    (hc : (h_ai H (o + 1) k8).toInt = (m : Int) + 1) : (h_ai H (o + 1) kr).toInt < (h_ai H (o + 1) kn).toInt := by
  subst e8; subst er; subst en
  refine hR.1.1 (8 * s + m) (by omega) ?_
  rw [(r_at hm).1, (r_at hm).2]
  show (m : Int) < (h_ai H (o + 1) (88 + s)).toInt
  omega
theorem mR_none (hR : mR o H) (s : Nat) (hs : s < 8) (h : (h_ai H (o + 1) 0).toInt ≤ (s : Int)) : (h_ai H (o + 1) (88 + s)).toInt ≤ 0 := hR.1.2.2 s hs h
/-- all raises gone, the level 0 -/
theorem mR_zero (hR : mR o H) (h : ∀ s : Nat, s < 8 → (h_ai H (o + 1) (88 + s)).toInt ≤ 0) (hp : h_apu H H1 (o + 1) 7 (.int 0)) : mR o H1 :=
  mR_fix hR (fun j hj => h_apn hp (by omega)) (RR_zero (fun s hs => by show (h_ai H1 (o + 1) (88 + s)).toInt ≤ 0; rw [h_apn hp (by omega)]; exact h s hs) (by show 0 ≤ (h_ai H1 (o + 1) 7).toInt; rw [h_aps hp]; decide))
theorem mR_copy6 (hA : mRa o H 600) (e : ∀ j : Nat, j < 600 → h_ai H1 (o + 1) (600 * 0 + j) = h_ai H (o + 1) (600 * 1 + j)) : mR o H1 := mR.copy hA fun j hj => by have q := e j hj; rw [show 600 * 0 + j = j by omega, show 600 * 1 + j = 600 + j by omega] at q; exact q
theorem mR_aside6 (hR : mR o H) (e : ∀ j : Nat, j < 600 → h_ai H1 (o + 1) (600 * 1 + j) = h_ai H (o + 1) (600 * 0 + j)) : mRa o H1 600 := mR.aside hR fun j hj => by have q := e j hj; rw [show 600 * 0 + j = j by omega, show 600 * 1 + j = 600 + j by omega] at q; exact q
theorem mR_copyk {a : Nat} (hA : mRa o H (600 * a)) (e : ∀ j : Nat, j < 600 → h_ai H1 (o + 1) (600 * 0 + j) = h_ai H (o + 1) (600 * a + j)) : mR o H1 := mR.copy hA fun j hj => by have q := e j hj; rw [show 600 * 0 + j = j by omega] at q; exact q
theorem mR_asidek {a : Nat} (hR : mR o H) (e : ∀ j : Nat, j < 600 → h_ai H1 (o + 1) (600 * a + j) = h_ai H (o + 1) (600 * 0 + j)) : mRa o H1 (600 * a) := mR.aside hR fun j hj => by have q := e j hj; rw [show 600 * 0 + j = j by omega] at q; exact q
theorem mR_low6 (hR : mR o H) (e : ∀ j : Nat, j < 600 → h_ai H1 (o + 1) j = h_ai H (o + 1) j) : mR o H1 := mI_low (F := fun j => h_ai H (o + 1) j) e hR
end MH
section ML
variable {p : Program} {l : Launch} {e : Env} {R : Room} {s : State} {m : MethodId} {args : Array Value} {below : List Frame} {meth : Method} {c : Code} {H : Heap} {locs : List Loc} {cells slots : Nat} {Q : State → Prop}
variable {cc : ByteArray} {pc : Nat} {ls : Array Slot} {rest : List Value} {G : hG} {Y : hW} {A : Nat → Prop} {a : Nat} {H0 : Heap}
theorem h_lald (hexec : p.tables.exec = Jvm.exec) (hb : c.code = cc) (hK : h_K G s) (hT0 : hT G Y H) {n : Nat} (ha : Y a = some (.inr (3, n, .inr (.inl ())))) {i : Int32} (hin : vp_in i n) (hdg : decode cc pc = .ok (.laload, 1))
    (kk : ∀ x : Int64, W p l e R s m args below meth c H locs cells slots Q (F0 m (pc + 1) ls (.long x :: rest))) : W p l e R s m args below meth c H locs cells slots Q (F0 m pc ls (.int i :: .ref a :: rest)) := by
  have hlt : i.toNatClampNeg < n := Nat.not_le.mp fun q => hin (Or.inr q)
  obtain ⟨V, h1, h2⟩ := hT0 a _ ha
  obtain ⟨x, hx⟩ := h2 _ hlt
  exact W.lald (v := .long x) hexec hb h1 ((hK.2 3 (by decide)).1 n V) (fun q => by cases q) (by show ¬ (i < 0 ∨ (arrV _ _ _).slots.size ≤ _); rw [arrV_size]; exact hin) (by show (arrV _ _ _).slots[_]? = _; rw [arrV_read _ _ hlt, hx]) rfl rfl hdg (kk x)
theorem h_last (hexec : p.tables.exec = Jvm.exec) (hb : c.code = cc) (hK : h_K G s) (hT0 : hT G Y H) (hA : ∀ q, h_A Y q → A q) (hS0 : va_S A H0 H locs) {n : Nat} (ha : Y a = some (.inr (3, n, .inr (.inl ())))) {i : Int32} {x : Int64} (hin : vp_in i n) (hdg : decode cc pc = .ok (.lastore, 1))
    (kk : ∀ (H1 : Heap) (locs1 : List Loc), hT G Y H1 → va_S A H0 H1 locs1 → h_apu H H1 a i.toNatClampNeg (.long x) → W p l e R s m args below meth c H1 locs1 cells slots Q (F0 m (pc + 1) ls rest)) : W p l e R s m args below meth c H locs cells slots Q (F0 m pc ls (.long x :: .int i :: .ref a :: rest)) := by
  have hlt : i.toNatClampNeg < n := Nat.not_le.mp fun q => hin (Or.inr q)
  obtain ⟨V, h1, h2⟩ := hT0 a _ ha
  refine W.last hexec hb h1 ((hK.2 3 (by decide)).1 n V) (fun q => by cases q) (by show ¬ (i < 0 ∨ (arrV _ _ _).slots.size ≤ _); rw [arrV_size]; exact hin) rfl rfl hdg fun H1 e1 e2 e3 => ?_
  rw [arrV_store] at e1
  have hv : ∀ j : Nat, j < n → h_av H1 a j = updV V i.toNatClampNeg (.long x) j := fun j hj => h_av_eq e1 (arrV_read _ _ hj)
  refine kk H1 _ (hT0.kept ha ⟨_, e1, fun j hj => ?_⟩ e3) (hS0.one e2 e3 (hA _ ⟨_, ha⟩)) ⟨e2, e3, ?_, fun j hjk => ?_⟩
  · by_cases hjk : j = i.toNatClampNeg
    · exact ⟨x, by simp [updV, hjk]⟩
    · obtain ⟨y, hy⟩ := h2 j hj
      exact ⟨y, by simp [updV, hjk, hy]⟩
  · rw [hv _ hlt]; simp [updV]
  · by_cases hj : j < n
    · rw [hv j hj]
      have : h_av H a j = V j := h_av_eq h1 (arrV_read _ _ hj)
      rw [this]; simp [updV, hjk]
    · have hs : ∀ V : Nat → Value, (arrV (G.2.1 3) n V).slots[j]? = none := fun V => by
        apply Array.getElem?_eq_none
        rw [arrV_size]; omega
      unfold h_av
      rw [e1, h1]
      simp only [hs]
end ML

