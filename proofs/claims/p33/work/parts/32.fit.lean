/-! what is exactly there fits what the static map says -/
def c_fl : List Value → List hF → Prop
  | [], [] => True
  | v :: vs, f :: fs => h_fv f v ∧ c_fl vs fs
  | _, _ => False
theorem c_fl.at : ∀ {vs : List Value} {fs : List hF}, c_fl vs fs → ∀ (k : Nat) (f : hF), fs[k]? = some f → k < vs.length ∧ h_fv f (vp_V vs k)
  | [], [], _, k, f, h => by simp at h
  | v :: vs, f0 :: fs, hh, k, f, h => by
    cases k with
    | zero =>
      rw [List.getElem?_cons_zero] at h
      cases h
      exact ⟨by simp, hh.1⟩
    | succ k =>
      rw [List.getElem?_cons_succ] at h
      obtain ⟨h1, h2⟩ := c_fl.at hh.2 k f h
      exact ⟨by simp; omega, by simpa [vp_V] using h2⟩
  | [], _ :: _, hh, _, _, _ => hh.elim
  | _ :: _, [], hh, _, _, _ => hh.elim
def c_fit (G : hG) (v : va_E) (e : hE) : Prop := match v, e with
  | .inr (ci, vs), .inl (ci', fs) => ci = ci' ∧ (vwCl[ci]?).map (fun r => r.2.2) = some vs.length ∧ c_fl vs fs
  | .inl (cA, n, .inl f), .inr (t, n', .inl P) => cA = G.2.1 t ∧ n = n' ∧ ∀ j, j < n → fits (h_ty t) (.int (f j)) = true ∧ P j (f j)
  | .inl (cA, n, .inr (.inl _)), .inr (t, n', .inr (.inl _)) => cA = G.2.1 t ∧ n = n'
  | .inl (cA, n, .inr (.inr (.inr (.inr f)))), .inr (t, n', .inr (.inr r)) => cA = G.2.1 t ∧ n = n' ∧ ∀ j, j < n → f j = some (r j)
  | _, _ => False
theorem c_fit.at {G : hG} {a : Nat} {v : va_E} {e : hE} {H : Heap} (h : va_at G.1 vwCl (a, v) H) (hf : c_fit G v e) : h_at G a e H := by
  match v, e, hf with
  | .inr (ci, vs), .inl (ci', fs), hf =>
    obtain ⟨rfl, hN, hfl⟩ := hf
    obtain ⟨r, h1, h2⟩ := h
    refine ⟨r, vp_V vs, h1, h2, fun k f hk => ?_⟩
    obtain ⟨g1, g2⟩ := hfl.at k f hk
    have h1' : vwCl[ci]? = some r := h1
    rw [h1'] at hN
    have hN : r.2.2 = vs.length := Option.some.inj hN
    exact ⟨by omega, g2⟩
  | .inl (cA, n, .inl f), .inr (t, n', .inl P), hf =>
    obtain ⟨rfl, rfl, hf⟩ := hf
    exact ⟨fun j => .int (f j), h, fun j hj => ⟨f j, rfl, (hf j hj).1, (hf j hj).2⟩⟩
  | .inl (cA, n, .inr (.inl f)), .inr (t, n', .inr (.inl u)), hf =>
    obtain ⟨rfl, rfl⟩ := hf
    exact ⟨fun j => .long (f j), h, fun j hj => ⟨f j, rfl⟩⟩
  | .inl (cA, n, .inr (.inr (.inr (.inr f)))), .inr (t, n', .inr (.inr r)), hf =>
    obtain ⟨rfl, rfl, hf⟩ := hf
    exact ⟨fun j => va_rf (f j), h, fun j hj => by show va_rf (f j) = _; rw [hf j hj]; rfl⟩
def c_all (G : hG) : List va_E → List hE → Prop
  | [], [] => True
  | v :: V, e :: E => c_fit G v e ∧ c_all G V E
  | _, _ => False
theorem c_all.at {G : hG} : ∀ {V : List va_E} {E : List hE}, c_all G V E → ∀ (i : Nat) (e : hE), E[i]? = some e → ∃ v, V[i]? = some v ∧ c_fit G v e
  | [], [], _, i, e, h => by simp at h
  | v :: V, e0 :: E, hh, i, e, h => by
    cases i with
    | zero =>
      rw [List.getElem?_cons_zero] at h
      cases h
      exact ⟨v, rfl, hh.1⟩
    | succ i =>
      rw [List.getElem?_cons_succ] at h
      obtain ⟨w, h1, h2⟩ := c_all.at hh.2 i e h
      exact ⟨w, by rw [List.getElem?_cons_succ]; exact h1, h2⟩
  | [], _ :: _, hh, _, _, _ => hh.elim
  | _ :: _, [], hh, _, _, _ => hh.elim
theorem c_all.app {G : hG} : ∀ {V1 : List va_E} {E1 : List hE} {V2 : List va_E} {E2 : List hE}, c_all G V1 E1 → c_all G V2 E2 → c_all G (V1 ++ V2) (E1 ++ E2)
  | [], [], _, _, _, h2 => h2
  | v :: V, e :: E, _, _, h1, h2 => ⟨h1.1, c_all.app h1.2 h2⟩
  | [], _ :: _, _, _, h, _ => h.elim
  | _ :: _, [], _, _, h, _ => h.elim
theorem c_all.on {G : hG} {V : List va_E} {E : List hE} (h : c_all G V E) {a : Nat} {H : Heap} (hc : cw G a V H) (i : Nat) (e : hE) (hi : E[i]? = some e) : h_at G (a + i) e H := by
  obtain ⟨v, h1, h2⟩ := h.at i e hi
  exact h2.at (hc i v h1)
/-- the map of both objects -/
def h_Y (t : hTb) (x m : Nat) : hW := fun q => if x ≤ q ∧ q < x + 169 then (wldE t x)[q - x]? else if m ≤ q ∧ q < m + 7 then (modE t m)[q - m]? else none
def m_Y (t : hTb) (m : Nat) : hW := fun q => if m ≤ q ∧ q < m + 7 then (modE t m)[q - m]? else none
theorem h_Y_w {t : hTb} {x m : Nat} : h_On (h_Y t x m) x (wldE t x) := fun i e hi => by
  have := (List.getElem?_eq_some_iff.mp hi).1
  rw [wldE_len] at this
  unfold h_Y
  rw [if_pos (by omega), Nat.add_sub_cancel_left]
  exact hi
theorem h_Y_m {t : hTb} {x m : Nat} (hm : x + 169 ≤ m) : h_On (h_Y t x m) m (modE t m) := fun i e hi => by
  have h7 : i < 7 := (List.getElem?_eq_some_iff.mp hi).1
  unfold h_Y
  rw [if_neg (by omega), if_pos (by omega), Nat.add_sub_cancel_left]
  exact hi
theorem m_Y_m {t : hTb} {m : Nat} : h_On (m_Y t m) m (modE t m) := fun i e hi => by
  have h7 : i < 7 := (List.getElem?_eq_some_iff.mp hi).1
  unfold m_Y
  rw [if_pos (by omega), Nat.add_sub_cancel_left]
  exact hi
theorem h_Y_T {G : hG} {t : hTb} {x m : Nat} {V W : List va_E} {H : Heap} (hV : c_all G V (wldE t x)) (hW : c_all G W (modE t m)) (h1 : cw G x V H) (h2 : cw G m W H) : hT G (h_Y t x m) H := by
  intro q e hq
  unfold h_Y at hq
  by_cases c1 : x ≤ q ∧ q < x + 169
  · rw [if_pos c1] at hq
    have := hV.on h1 _ e hq
    rwa [show x + (q - x) = q by omega] at this
  · rw [if_neg c1] at hq
    by_cases c2 : m ≤ q ∧ q < m + 7
    · rw [if_pos c2] at hq
      have := hW.on h2 _ e hq
      rwa [show m + (q - m) = q by omega] at this
    · rw [if_neg c2] at hq
      cases hq
theorem m_Y_T {G : hG} {t : hTb} {m : Nat} {W : List va_E} {H : Heap} (hW : c_all G W (modE t m)) (h2 : cw G m W H) : hT G (m_Y t m) H := by
  intro q e hq
  unfold m_Y at hq
  by_cases c2 : m ≤ q ∧ q < m + 7
  · rw [if_pos c2] at hq
    have := hW.on h2 _ e hq
    rwa [show m + (q - m) = q by omega] at this
  · rw [if_neg c2] at hq
    cases hq
theorem h_Y_A {t : hTb} {x m z : Nat} (hx : z ≤ x) (hm : z ≤ m) : ∀ q, h_A (h_Y t x m) q → z ≤ q := by
  intro q ⟨e, hq⟩
  unfold h_Y at hq
  by_cases c1 : x ≤ q ∧ q < x + 169
  · omega
  · rw [if_neg c1] at hq
    by_cases c2 : m ≤ q ∧ q < m + 7
    · omega
    · rw [if_neg c2] at hq
      cases hq
theorem m_Y_A {t : hTb} {m : Nat} : ∀ q, h_A (m_Y t m) q → m ≤ q := by
  intro q ⟨e, hq⟩
  unfold m_Y at hq
  by_cases c2 : m ≤ q ∧ q < m + 7
  · omega
  · rw [if_neg c2] at hq
    cases hq
/-- what a field, an element holds, of a cell that is exactly known -/
theorem cw.gi {G : hG} {b i ci : Nat} {L : List va_E} {H : Heap} (h : cw G b L H) {vs : List Value} (hi : L[i]? = some (.inr (ci, vs))) {r : vw_C} (hr : vwCl[ci]? = some r) (k : Nat) (hk : k < r.2.2) {v : Int32} (hv : vs[k]? = some (.int v)) : h_gi G H ci (b + i) k = v := by
  obtain ⟨r', h1, cell, q1, q2, q3, q4⟩ := h i _ hi
  have hr' : r' = r := Option.some.inj (h1.symm.trans hr)
  subst hr'
  unfold h_gi
  rw [h_gv_eq q1 (q4 k hk)]
  simp [vp_V, hv, h_i]
theorem cw.ai {G : hG} {b i n : Nat} {cA : ClassId} {L : List va_E} {H : Heap} (h : cw G b L H) {f : Nat → Int32} (hi : L[i]? = some (.inl (cA, n, .inl f))) (j : Nat) (hj : j < n) : h_ai H (b + i) j = f j := by
  have h1 : H[b + i]? = some (arrV cA n (fun j => .int (f j))) := h i _ hi
  unfold h_ai
  rw [h_av_eq h1 (arrV_read _ _ hj)]
  rfl
theorem fC_Stations (G : hG) (a : Nat) : c_all G (stV G a) (stE (tC (fun v => v = 0)) a) := ⟨⟨rfl, rfl, ⟨rfl, ⟨rfl, ⟨rfl, ⟨rfl, ⟨rfl, ⟨⟨_, rfl, trivial⟩, ⟨⟨_, rfl, trivial⟩, ⟨⟨_, rfl, trivial⟩, ⟨⟨_, rfl, trivial⟩, trivial⟩⟩⟩⟩⟩⟩⟩⟩⟩⟩, ⟨⟨rfl, rfl, fun _ _ => ⟨rfl, trivial⟩⟩, ⟨⟨rfl, rfl, fun _ _ => ⟨rfl, trivial⟩⟩, ⟨⟨rfl, rfl, fun _ _ => ⟨rfl, trivial⟩⟩, ⟨⟨rfl, rfl, fun _ _ => ⟨rfl, trivial⟩⟩, ⟨⟨rfl, rfl, fun _ _ => ⟨rfl, trivial⟩⟩, trivial⟩⟩⟩⟩⟩⟩
theorem fC_Queues (G : hG) (a : Nat) : c_all G (quV G a) (quE (tC (fun v => v = 0)) a) := ⟨⟨rfl, rfl, ⟨rfl, ⟨rfl, ⟨rfl, ⟨rfl, ⟨rfl, trivial⟩⟩⟩⟩⟩⟩, ⟨⟨rfl, rfl, fun _ _ => ⟨rfl, trivial⟩⟩, ⟨⟨rfl, rfl, fun _ _ => ⟨rfl, trivial⟩⟩, ⟨⟨rfl, rfl, fun _ _ => ⟨rfl, trivial⟩⟩, ⟨⟨rfl, rfl, fun _ _ => ⟨rfl, trivial⟩⟩, ⟨⟨rfl, rfl, fun _ _ => ⟨rfl, trivial⟩⟩, trivial⟩⟩⟩⟩⟩⟩
theorem fC_Raises (G : hG) (a : Nat) : c_all G (raV G a) (raE (tC (fun v => v = 0)) a) := ⟨⟨rfl, rfl, ⟨rfl, ⟨rfl, ⟨rfl, trivial⟩⟩⟩⟩, ⟨⟨rfl, rfl, fun _ _ => ⟨rfl, trivial⟩⟩, ⟨⟨rfl, rfl, fun _ _ => ⟨rfl, trivial⟩⟩, ⟨⟨rfl, rfl, fun _ _ => ⟨rfl, trivial⟩⟩, trivial⟩⟩⟩⟩
theorem fC_Way (G : hG) (a : Nat) : c_all G (waV G a) (waE (tC (fun v => v = 0)) a) := ⟨⟨rfl, rfl, ⟨⟨_, rfl, trivial⟩, ⟨⟨_, rfl, trivial⟩, ⟨⟨_, rfl, trivial⟩, ⟨⟨_, rfl, trivial⟩, ⟨⟨_, rfl, Or.inl rfl⟩, ⟨⟨_, rfl, trivial⟩, ⟨⟨_, rfl, trivial⟩, ⟨⟨_, rfl, trivial⟩, ⟨⟨_, rfl, Or.inl rfl⟩, ⟨⟨_, rfl, trivial⟩, ⟨⟨_, rfl, trivial⟩, trivial⟩⟩⟩⟩⟩⟩⟩⟩⟩⟩⟩⟩, trivial⟩
theorem fC_Silence (G : hG) (a : Nat) : c_all G (siV G a) (siE (tC (fun v => v = 0)) a) := ⟨⟨rfl, rfl, ⟨⟨_, rfl, trivial⟩, ⟨⟨_, rfl, trivial⟩, ⟨⟨_, rfl, trivial⟩, ⟨⟨_, rfl, trivial⟩, trivial⟩⟩⟩⟩⟩, trivial⟩
theorem fC_Book (G : hG) (a : Nat) : c_all G (boV G a) (boE (tC (fun v => v = 0)) a) := ⟨⟨rfl, rfl, ⟨rfl, ⟨rfl, ⟨rfl, ⟨rfl, ⟨rfl, ⟨⟨_, rfl, trivial⟩, trivial⟩⟩⟩⟩⟩⟩⟩, ⟨⟨rfl, rfl, fun _ _ => ⟨rfl, trivial⟩⟩, ⟨⟨rfl, rfl, fun _ _ => ⟨rfl, trivial⟩⟩, ⟨⟨rfl, rfl, fun _ _ => ⟨rfl, trivial⟩⟩, ⟨⟨rfl, rfl, fun _ _ => ⟨rfl, trivial⟩⟩, ⟨⟨rfl, rfl, fun _ _ => ⟨rfl, trivial⟩⟩, trivial⟩⟩⟩⟩⟩⟩
theorem fC_Tape (G : hG) (a : Nat) : c_all G (taV G a) (taE (tC (fun v => v = 0)) a) := ⟨⟨rfl, rfl, ⟨rfl, ⟨⟨_, rfl, trivial⟩, ⟨⟨_, rfl, trivial⟩, ⟨⟨_, rfl, trivial⟩, trivial⟩⟩⟩⟩⟩, ⟨⟨rfl, rfl, fun _ _ => ⟨rfl, trivial⟩⟩, trivial⟩⟩
theorem fC_Paper (G : hG) (a : Nat) (r c0 : Nat) : c_all G (paV G a r c0) (paE (tC (fun v => v = 0)) a r c0) := ⟨⟨rfl, rfl, ⟨rfl, ⟨rfl, ⟨rfl, ⟨rfl, trivial⟩⟩⟩⟩⟩, ⟨⟨rfl, rfl, fun _ _ => ⟨rfl, trivial⟩⟩, ⟨⟨rfl, rfl, fun _ _ => ⟨rfl, trivial⟩⟩, trivial⟩⟩⟩
theorem fC_Reader (G : hG) (a : Nat) (tp r : Nat) : c_all G (reV G a tp r) (reE (tC (fun v => v = 0)) a tp r) := ⟨⟨rfl, rfl, ⟨rfl, ⟨rfl, ⟨rfl, ⟨rfl, ⟨⟨_, rfl, trivial⟩, ⟨⟨_, rfl, trivial⟩, ⟨⟨_, rfl, trivial⟩, ⟨⟨_, rfl, trivial⟩, ⟨⟨_, rfl, trivial⟩, ⟨⟨_, rfl, trivial⟩, ⟨⟨_, rfl, trivial⟩, ⟨⟨_, rfl, trivial⟩, ⟨⟨_, rfl, trivial⟩, trivial⟩⟩⟩⟩⟩⟩⟩⟩⟩⟩⟩⟩⟩⟩, ⟨⟨rfl, rfl, fun _ _ => ⟨rfl, trivial⟩⟩, ⟨⟨rfl, rfl, fun _ _ => ⟨rfl, trivial⟩⟩, trivial⟩⟩⟩
theorem fC_Ring (G : hG) (a : Nat) : c_all G (ringV G a) (ringE (tC (fun v => v = 0)) a) := (c_all.app (V1 := [_]) (E1 := [_]) ⟨⟨rfl, rfl, ⟨rfl, ⟨rfl, ⟨rfl, ⟨rfl, ⟨rfl, ⟨rfl, ⟨⟨_, rfl, trivial⟩, ⟨⟨_, rfl, trivial⟩, ⟨⟨_, rfl, trivial⟩, ⟨⟨_, rfl, trivial⟩, ⟨⟨_, rfl, Or.inl rfl⟩, trivial⟩⟩⟩⟩⟩⟩⟩⟩⟩⟩⟩⟩, trivial⟩ ((fC_Stations G (a + 1)).app ((fC_Queues G (a + 7)).app ((fC_Raises G (a + 13)).app ((fC_Way G (a + 17)).app ((fC_Silence G (a + 18)).app (fC_Book G (a + 19))))))))
set_option maxRecDepth 100000 in
theorem fC_W (G : hG) (a : Nat) : c_all G (wldV G a) (wldE (tC (fun v => v = 0)) a) := c_all.app (V1 := [_]) (E1 := [_]) ⟨⟨rfl, rfl, ⟨rfl, ⟨rfl, ⟨rfl, ⟨rfl, ⟨rfl, ⟨rfl, ⟨rfl, ⟨⟨_, rfl, rfl⟩, ⟨⟨_, rfl, trivial⟩, trivial⟩⟩⟩⟩⟩⟩⟩⟩⟩⟩, trivial⟩ ((fC_Tape G (a + 1)).app ((fC_Ring G (a + 3)).app ((fC_Ring G (a + 28)).app ((fC_Paper G (a + 53) (a + 3) (a + 28)).app ((fC_Reader G (a + 56) (a + 1) (a + 28)).app (c_all.app (V1 := [_]) (E1 := [_]) ⟨⟨rfl, rfl, fun j hj => by rcases (show j = 0 ∨ j = 1 ∨ j = 2 ∨ j = 3 by omega) with rfl | rfl | rfl | rfl <;> rfl⟩, trivial⟩ (c_all.app (V1 := [_]) (E1 := [_]) ⟨⟨rfl, rfl, fun j hj => by rcases (show j = 0 ∨ j = 1 ∨ j = 2 ∨ j = 3 by omega) with rfl | rfl | rfl | rfl <;> rfl⟩, trivial⟩ ((fC_Ring G (a + 61)).app ((fC_Tape G (a + 86)).app ((fC_Ring G (a + 88)).app ((fC_Tape G (a + 113)).app ((fC_Ring G (a + 115)).app ((fC_Tape G (a + 140)).app ((fC_Ring G (a + 142)).app (fC_Tape G (a + 167))))))))))))))))
def modV (G : hG) (a : Nat) (F : Nat → Int32) : List va_E := [.inr (11, [.ref (a + 1), .int 0, .int 0, .int 0, .int 0, .int 0, .int 0, .ref (a + 2), .ref (a + 3), .ref (a + 4), .int 0, .int 0, .int 0, .int 0, .int 0, .int 0, .int 0, .int (-1), .int (-1), .int 0, .int 0, .ref (a + 5), .ref (a + 6)]), .inl (G.2.1 0, 3600, .inl F), zA G 1 500, zA G 1 500, zJ G 8, zA G 0 48, zA G 0 96]
theorem fC_M (G : hG) (a : Nat) : c_all G (modV G a (fun _ => 0)) (modE (tM (fun v => v = 0)) a) := ⟨⟨rfl, rfl, ⟨rfl, ⟨⟨_, rfl, trivial⟩, ⟨⟨_, rfl, rfl⟩, ⟨⟨_, rfl, trivial⟩, ⟨⟨_, rfl, trivial⟩, ⟨⟨_, rfl, Or.inl rfl⟩, ⟨⟨_, rfl, Or.inl rfl⟩, ⟨rfl, ⟨rfl, ⟨rfl, ⟨⟨_, rfl, show 0 ≤ (0 : Int) ∧ (0 : Int) ≤ 500 from by decide⟩, ⟨⟨_, rfl, show 0 ≤ (0 : Int) ∧ (0 : Int) ≤ 500 from by decide⟩, ⟨⟨_, rfl, trivial⟩, ⟨⟨_, rfl, show 0 ≤ (0 : Int) ∧ (0 : Int) ≤ 500 from by decide⟩, ⟨⟨_, rfl, show 0 ≤ (0 : Int) ∧ (0 : Int) ≤ 500 from by decide⟩, ⟨⟨_, rfl, trivial⟩, ⟨⟨_, rfl, trivial⟩, ⟨⟨_, rfl, trivial⟩, ⟨⟨_, rfl, trivial⟩, ⟨⟨_, rfl, show 0 ≤ (0 : Int) ∧ (0 : Int) < 139968 from by decide⟩, ⟨⟨_, rfl, trivial⟩, ⟨rfl, ⟨rfl, trivial⟩⟩⟩⟩⟩⟩⟩⟩⟩⟩⟩⟩⟩⟩⟩⟩⟩⟩⟩⟩⟩⟩⟩⟩, ⟨⟨rfl, rfl, fun j _ => ⟨rfl, mP_zero⟩⟩, ⟨⟨rfl, rfl, fun _ _ => ⟨rfl, trivial⟩⟩, ⟨⟨rfl, rfl, fun _ _ => ⟨rfl, trivial⟩⟩, ⟨⟨rfl, rfl⟩, ⟨⟨rfl, rfl, fun _ _ => ⟨rfl, trivial⟩⟩, ⟨⟨rfl, rfl, fun _ _ => ⟨rfl, trivial⟩⟩, trivial⟩⟩⟩⟩⟩⟩⟩
