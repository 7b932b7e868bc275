/-! The objects of the class and of the reference, as they lie in the heap: one behind the other, from an address on. -/
abbrev hTb : Type := (Nat → Nat → Int32 → Prop) × (Nat → Nat → Int32 → Prop)
def h_On (Y : hW) (a : Nat) (L : List hE) : Prop := ∀ (i : Nat) (e : hE), L[i]? = some e → Y (a + i) = some e
theorem h_On.at {Y : hW} {a : Nat} {L : List hE} (h : h_On Y a L) (i : Nat) {e : hE} (hi : L[i]? = some e) : Y (a + i) = some e := h i e hi
theorem h_On.o {Y : hW} {a : Nat} {L : List hE} (h : h_On Y a L) {e : hE} (hi : L[0]? = some e) : Y a = some e := h 0 e hi
theorem h_On.left {Y : hW} {a : Nat} {L1 L2 : List hE} (h : h_On Y a (L1 ++ L2)) : h_On Y a L1 := fun i e hi => h i e (by
  rw [List.getElem?_append_left (List.getElem?_eq_some_iff.mp hi).1]; exact hi)
theorem h_On.right {Y : hW} {a : Nat} {L1 L2 : List hE} (h : h_On Y a (L1 ++ L2)) (k : Nat) (hk : L1.length = k) : h_On Y (a + k) L2 := fun i e hi => by
  subst hk
  rw [Nat.add_assoc]
  exact h _ e (by rw [List.getElem?_append_right (Nat.le_add_right _ _), Nat.add_sub_cancel_left]; exact hi)
abbrev aI (t : hTb) (n r : Nat) : hE := .inr (0, n, .inl (t.2 r))
abbrev stE (t : hTb) (a : Nat) : List hE := [.inl (7, [.inl (a + 1), .inl (a + 2), .inl (a + 3), .inl (a + 4), .inl (a + 5), .inr (t.1 7 5), .inr (t.1 7 6), .inr (t.1 7 7), .inr (t.1 7 8)]), aI t 8 700, .inr (2, 8, .inl (t.2 701)), aI t 8 702, aI t 8 703, aI t 8 704]
abbrev quE (t : hTb) (a : Nat) : List hE := [.inl (2, [.inl (a + 1), .inl (a + 2), .inl (a + 3), .inl (a + 4), .inl (a + 5)]), aI t 48 200, aI t 48 201, aI t 48 202, aI t 48 203, aI t 8 204]
abbrev raE (t : hTb) (a : Nat) : List hE := [.inl (3, [.inl (a + 1), .inl (a + 2), .inl (a + 3)]), aI t 64 300, aI t 64 301, aI t 8 302]
abbrev waE (t : hTb) (_ : Nat) : List hE := [.inl (9, [.inr (t.1 9 0), .inr (t.1 9 1), .inr (t.1 9 2), .inr (t.1 9 3), .inr (t.1 9 4), .inr (t.1 9 5), .inr (t.1 9 6), .inr (t.1 9 7), .inr (t.1 9 8), .inr (t.1 9 9), .inr (t.1 9 10)])]
abbrev siE (t : hTb) (_ : Nat) : List hE := [.inl (6, [.inr (t.1 6 0), .inr (t.1 6 1), .inr (t.1 6 2), .inr (t.1 6 3)])]
abbrev boE (t : hTb) (a : Nat) : List hE := [.inl (0, [.inl (a + 1), .inl (a + 2), .inl (a + 3), .inl (a + 4), .inl (a + 5), .inr (t.1 0 5)]), aI t 10 0, aI t 8 1, aI t 8 2, aI t 96 3, aI t 72 4]
abbrev taE (t : hTb) (a : Nat) : List hE := [.inl (8, [.inl (a + 1), .inr (t.1 8 1), .inr (t.1 8 2), .inr (t.1 8 3)]), .inr (1, 500, .inl (t.2 800))]
abbrev rgE (t : hTb) (a : Nat) : hE := .inl (5, [.inl (a + 1), .inl (a + 7), .inl (a + 13), .inl (a + 17), .inl (a + 18), .inl (a + 19), .inr (t.1 5 6), .inr (t.1 5 7), .inr (t.1 5 8), .inr (t.1 5 9), .inr (t.1 5 10)])
def ringE (t : hTb) (a : Nat) : List hE := [rgE t a] ++ (stE t (a + 1) ++ (quE t (a + 7) ++ (raE t (a + 13) ++ (waE t (a + 17) ++ (siE t (a + 18) ++ boE t (a + 19))))))
abbrev paE (t : hTb) (a r c : Nat) : List hE := [.inl (1, [.inl r, .inl c, .inl (a + 1), .inl (a + 2)]), aI t 48 102, aI t 48 103]
abbrev reE (t : hTb) (a tp r : Nat) : List hE := [.inl (4, [.inl tp, .inl r, .inl (a + 1), .inl (a + 2), .inr (t.1 4 4), .inr (t.1 4 5), .inr (t.1 4 6), .inr (t.1 4 7), .inr (t.1 4 8), .inr (t.1 4 9), .inr (t.1 4 10), .inr (t.1 4 11), .inr (t.1 4 12)]), aI t 8 402, aI t 8 403]
abbrev rrE (t : hTb) (a : Nat) : hE := .inl (10, [.inl (a + 1), .inl (a + 3), .inl (a + 28), .inl (a + 53), .inl (a + 56), .inl (a + 59), .inl (a + 60), .inr (t.1 10 7), .inr (t.1 10 8)])
abbrev mkE (a : Nat) : List hE := [.inr (4, 4, .inr (.inr (fun j => a + 61 + 27 * j))), .inr (5, 4, .inr (.inr (fun j => a + 61 + 27 * j + 25)))]
def wldE (t : hTb) (a : Nat) : List hE := [rrE t a] ++ (taE t (a + 1) ++ (ringE t (a + 3) ++ (ringE t (a + 28) ++ (paE t (a + 53) (a + 3) (a + 28) ++ (reE t (a + 56) (a + 1) (a + 28) ++ (mkE a ++ (ringE t (a + 61) ++ (taE t (a + 86) ++ (ringE t (a + 88) ++ (taE t (a + 113) ++ (ringE t (a + 115) ++ (taE t (a + 140) ++ (ringE t (a + 142) ++ taE t (a + 167))))))))))))))
def modE (t : hTb) (a : Nat) : List hE := [.inl (11, [.inl (a + 1), .inr (t.1 11 1), .inr (t.1 11 2), .inr (t.1 11 3), .inr (t.1 11 4), .inr (t.1 11 5), .inr (t.1 11 6), .inl (a + 2), .inl (a + 3), .inl (a + 4), .inr (t.1 11 10), .inr (t.1 11 11), .inr (t.1 11 12), .inr (t.1 11 13), .inr (t.1 11 14), .inr (t.1 11 15), .inr (t.1 11 16), .inr (t.1 11 17), .inr (t.1 11 18), .inr (t.1 11 19), .inr (t.1 11 20), .inl (a + 5), .inl (a + 6)]), aI t 3600 1100, .inr (1, 500, .inl (t.2 1107)), .inr (1, 500, .inl (t.2 1108)), .inr (3, 8, .inr (.inl ())), aI t 48 1121, aI t 96 1122]
theorem ringE_len (t : hTb) (a : Nat) : (ringE t a).length = 25 := rfl
set_option maxRecDepth 100000 in
theorem wldE_len (t : hTb) (a : Nat) : (wldE t a).length = 169 := rfl
section RG
variable {Y : hW} {t : hTb} {a : Nat}
theorem on_rg (h : h_On Y a (ringE t a)) : Y a = some (rgE t a) := h.at 0 rfl
theorem on_st (h : h_On Y a (ringE t a)) : h_On Y (a + 1) (stE t (a + 1)) := (h.right 1 rfl).left
theorem on_qu (h : h_On Y a (ringE t a)) : h_On Y (a + 7) (quE t (a + 7)) := ((h.right 1 rfl).right 6 rfl).left
theorem on_ra (h : h_On Y a (ringE t a)) : h_On Y (a + 13) (raE t (a + 13)) := (((h.right 1 rfl).right 6 rfl).right 6 rfl).left
theorem on_wa (h : h_On Y a (ringE t a)) : h_On Y (a + 17) (waE t (a + 17)) := ((((h.right 1 rfl).right 6 rfl).right 6 rfl).right 4 rfl).left
theorem on_si (h : h_On Y a (ringE t a)) : h_On Y (a + 18) (siE t (a + 18)) := (((((h.right 1 rfl).right 6 rfl).right 6 rfl).right 4 rfl).right 1 rfl).left
theorem on_bo (h : h_On Y a (ringE t a)) : h_On Y (a + 19) (boE t (a + 19)) := (((((h.right 1 rfl).right 6 rfl).right 6 rfl).right 4 rfl).right 1 rfl).right 1 rfl
theorem on_w0 (h : h_On Y a (wldE t a)) : Y a = some (rrE t a) := h.at 0 rfl
theorem on_wt (h : h_On Y a (wldE t a)) : h_On Y (a + 1) (taE t (a + 1)) := (h.right 1 rfl).left
theorem on_wr (h : h_On Y a (wldE t a)) : h_On Y (a + 3) (ringE t (a + 3)) := ((h.right 1 rfl).right 2 rfl).left
theorem on_ws (h : h_On Y a (wldE t a)) : h_On Y (a + 28) (ringE t (a + 28)) := (((h.right 1 rfl).right 2 rfl).right 25 rfl).left
theorem on_wp (h : h_On Y a (wldE t a)) : h_On Y (a + 53) (paE t (a + 53) (a + 3) (a + 28)) := ((((h.right 1 rfl).right 2 rfl).right 25 rfl).right 25 rfl).left
theorem on_we (h : h_On Y a (wldE t a)) : h_On Y (a + 56) (reE t (a + 56) (a + 1) (a + 28)) := (((((h.right 1 rfl).right 2 rfl).right 25 rfl).right 25 rfl).right 3 rfl).left
theorem on_wm (h : h_On Y a (wldE t a)) : h_On Y (a + 59) (mkE a) := ((((((h.right 1 rfl).right 2 rfl).right 25 rfl).right 25 rfl).right 3 rfl).right 3 rfl).left
theorem on_wk (h : h_On Y a (wldE t a)) : h_On Y (a + 61) (ringE t (a + 61) ++ (taE t (a + 86) ++ (ringE t (a + 88) ++ (taE t (a + 113) ++ (ringE t (a + 115) ++ (taE t (a + 140) ++ (ringE t (a + 142) ++ taE t (a + 167)))))))) := ((((((h.right 1 rfl).right 2 rfl).right 25 rfl).right 25 rfl).right 3 rfl).right 3 rfl).right 2 rfl
theorem on_kr (h : h_On Y a (wldE t a)) {j : Nat} (hj : j < 4) : h_On Y (a + 61 + 27 * j) (ringE t (a + 61 + 27 * j)) := by
  have k0 := on_wk h
  have k1 := (k0.right 25 rfl).right 2 rfl
  have k2 := (k1.right 25 rfl).right 2 rfl
  have k3 := (k2.right 25 rfl).right 2 rfl
  match j, hj with
  | 0, _ => exact k0.left
  | 1, _ => exact k1.left
  | 2, _ => exact k2.left
  | 3, _ => exact k3.left
  | j + 4, hj => omega
theorem on_kt (h : h_On Y a (wldE t a)) {j : Nat} (hj : j < 4) : h_On Y (a + 61 + 27 * j + 25) (taE t (a + 61 + 27 * j + 25)) := by
  have k0 := on_wk h
  have k1 := (k0.right 25 rfl).right 2 rfl
  have k2 := (k1.right 25 rfl).right 2 rfl
  have k3 := (k2.right 25 rfl).right 2 rfl
  match j, hj with
  | 0, _ => exact (k0.right 25 rfl).left
  | 1, _ => exact (k1.right 25 rfl).left
  | 2, _ => exact (k2.right 25 rfl).left
  | 3, _ => exact k3.right 25 rfl
  | j + 4, hj => omega
end RG
/-! more rows -/
section HR3
variable {p : Program} {l : Launch} {e : Env} {R : Room} {s : State} {m : MethodId} {args : Array Value} {below : List Frame} {meth : Method} {c : Code} {H : Heap} {locs : List Loc} {cells slots : Nat} {Q : State → Prop}
variable {cc : ByteArray} {pc : Nat} {ls : Array Slot} {rest : List Value} {G : hG} {Y : hW} {A : Nat → Prop} {a : Nat} {H0 : Heap}
/-- the int on top, by another name -/
theorem h_top {x v : Int32} (h : x = v) (kk : W p l e R s m args below meth c H locs cells slots Q (F0 m pc ls (.int v :: rest))) : W p l e R s m args below meth c H locs cells slots Q (F0 m pc ls (.int x :: rest)) := by
  rw [h]; exact kk
/-- a field that holds one int alone -/
theorem h_getc (hexec : p.tables.exec = Jvm.exec) (hb : c.code = cc) (hts : ∀ w ∈ wsL_law, w.before args s = true) {own ref C : String} {T : u_T} {N ci index : Nat} (hin : ∀ w ∈ u_ws C T N, w ∈ wsL_law) (hown : s.vm.findClass own = some m.cls) (hK : h_K G s) (hT0 : hT G Y H) {fs : List hF} (ha : Y a = some (.inl (ci, fs))) (hc : vwCl[ci]? = some (C, T, N)) (k : Nat) {P : Int32 → Prop} (hf : fs[k]? = some (.inr P)) (hlink : Cond.fieldLink own index ref (T k).2.1 (T k).2.2.1 ∈ wsL_law) (hsame : (T k).1 = ref) {v : Int32} (hv : ∀ x : Int32, P x → x = v) (hdg : decode cc pc = .ok (.getfield index, 3))
    (kk : W p l e R s m args below meth c H locs cells slots Q (F0 m (pc + 3) ls (.int v :: rest))) : W p l e R s m args below meth c H locs cells slots Q (F0 m pc ls (.ref a :: rest)) :=
  h_geti hexec hb hts hin hown hK hT0 ha hc k hf hlink hsame hdg (fun h => by rw [hv _ h]; exact kk)
end HR3
