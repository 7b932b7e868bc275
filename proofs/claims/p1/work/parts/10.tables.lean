def tF : hTb := (fun ci k => match ci, k with
  | 0, 5 => fun x => x = 0
  | 5, 7 => fun x => x = 0
  | 5, 8 => fun x => x = (-1)
  | 5, 9 => fun x => x = (-1)
  | 5, 10 => fun x => x = 0
  | 6, 1 => fun x => x = 0
  | 6, 2 => fun x => x = (-1)
  | 6, 3 => fun x => x = (-1)
  | 7, 5 => fun x => x = 0
  | 7, 6 => fun x => x = (-1)
  | 7, 7 => fun x => x = (-1)
  | 7, 8 => fun x => x = (-1)
  | 9, 0 => fun x => x = 0
  | 9, 4 => fun x => x = 0
  | 9, 8 => fun x => x = 0
  | 11, 5 => fun x => x = 0 ∨ x = 1
  | 11, 6 => fun x => x = 0 ∨ x = 1
  | _, _ => fun _ => True, fun r => match r with
  | 0 => fun _ x => x = 0
  | 1 => fun _ x => x = 0
  | 2 => fun _ x => x = 0
  | 204 => fun _ x => x = 0
  | 302 => fun _ x => x = 0
  | 102 => fun _ x => x = 0 ∨ x = -1
  | 103 => fun _ x => x = 0 ∨ x = -1
  | 1100 => fun j x => j < 600 → j ≠ 3 → j ≠ 4 → x = if j = 1 ∨ j = 16 then -1 else 0
  | _ => fun _ _ => True)
