def tC (P : Int32 → Prop) : hTb := (fun ci k => match ci, k with
  | 10, 7 => P
  | 9, 4 => fun x => x = 0 ∨ x = 1
  | 9, 8 => fun x => x = 0 ∨ x = 1
  | 5, 10 => fun x => x = 0 ∨ x = 1
  | _, _ => fun _ => True, fun _ => fun _ _ => True)
