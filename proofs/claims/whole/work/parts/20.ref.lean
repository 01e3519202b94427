
/-- the model's row of numbers for a state -/
def nwF (v : SV) : Nat → Int32
  | 0 => nI v.1
  | 1 => v.2.2.2.2.1 0
  | 2 => v.2.2.2.2.1 1
  | 3 => v.2.2.2.2.1 2
  | 4 => v.2.2.2.2.1 3
  | 5 => v.2.2.2.2.1 4
  | 6 => v.2.2.2.2.1 5
  | 7 => v.2.2.2.2.1 6
  | 8 => nI v.2.2.2.2.2.1
  | 9 => v.2.2.2.2.2.2.1
  | 10 => v.2.2.2.2.2.2.2.1
  | 11 => v.2.2.2.2.2.2.2.2.1
  | 12 => v.2.2.2.2.2.2.2.2.2.1
  | 13 => v.2.2.2.2.2.2.2.2.2.2.1
  | 14 => v.2.2.2.2.2.2.2.2.2.2.2.1
  | 15 => v.2.2.2.2.2.2.2.2.2.2.2.2
  | j + 16 => if j % 3 = 0 then v.2.1 (j / 3) else if j % 3 = 1 then v.2.2.1 (j / 3) else v.2.2.2.1 (j / 3)
theorem nw_ce (v : SV) (x : Nat) : nwF v (16 + 3 * x) = v.2.1 x := by
  rw [Nat.add_comm 16 (3 * x)]
  show (if 3 * x % 3 = 0 then v.2.1 (3 * x / 3) else _) = _
  rw [if_pos (by omega), show 3 * x / 3 = x by omega]
theorem nw_gr (v : SV) (x : Nat) : nwF v (16 + 3 * x + 1) = v.2.2.1 x := by
  rw [show 16 + 3 * x + 1 = 3 * x + 1 + 16 by omega]
  show (if (3 * x + 1) % 3 = 0 then _ else if (3 * x + 1) % 3 = 1 then v.2.2.1 ((3 * x + 1) / 3) else _) = _
  rw [if_neg (by omega), if_pos (by omega), show (3 * x + 1) / 3 = x by omega]
theorem nw_be (v : SV) (x : Nat) : nwF v (16 + 3 * x + 2) = v.2.2.2.1 x := by
  rw [show 16 + 3 * x + 2 = 3 * x + 2 + 16 by omega]
  show (if (3 * x + 2) % 3 = 0 then _ else if (3 * x + 2) % 3 = 1 then _ else v.2.2.2.1 ((3 * x + 2) / 3)) = _
  rw [if_neg (by omega), if_neg (by omega), show (3 * x + 2) / 3 = x by omega]
theorem nw_st (v : SV) {w : Nat} (h : w < 7) : nwF v (1 + w) = v.2.2.2.2.1 w := by
  match w, h with
  | 0, _ => rfl
  | 1, _ => rfl
  | 2, _ => rfl
  | 3, _ => rfl
  | 4, _ => rfl
  | 5, _ => rfl
  | 6, _ => rfl
  | w + 7, h => omega
theorem nwU_0 (v : SV) (x : Nat) (j : Nat) : upd (nwF v) 0 (nI x) j = nwF (x, v.2.1, v.2.2.1, v.2.2.2.1, v.2.2.2.2.1, v.2.2.2.2.2.1, v.2.2.2.2.2.2.1, v.2.2.2.2.2.2.2.1, v.2.2.2.2.2.2.2.2.1, v.2.2.2.2.2.2.2.2.2.1, v.2.2.2.2.2.2.2.2.2.2.1, v.2.2.2.2.2.2.2.2.2.2.2.1, v.2.2.2.2.2.2.2.2.2.2.2.2) j := by
  unfold upd
  match j with
  | 0 => rfl
  | 1 => rfl
  | 2 => rfl
  | 3 => rfl
  | 4 => rfl
  | 5 => rfl
  | 6 => rfl
  | 7 => rfl
  | 8 => rfl
  | 9 => rfl
  | 10 => rfl
  | 11 => rfl
  | 12 => rfl
  | 13 => rfl
  | 14 => rfl
  | 15 => rfl
  | j + 16 => rw [if_neg (by omega)]; rfl
theorem nwU_1 (v : SV) (x : Int32) (j : Nat) : upd (nwF v) 1 x j = nwF (v.1, v.2.1, v.2.2.1, v.2.2.2.1, upd v.2.2.2.2.1 0 x, v.2.2.2.2.2.1, v.2.2.2.2.2.2.1, v.2.2.2.2.2.2.2.1, v.2.2.2.2.2.2.2.2.1, v.2.2.2.2.2.2.2.2.2.1, v.2.2.2.2.2.2.2.2.2.2.1, v.2.2.2.2.2.2.2.2.2.2.2.1, v.2.2.2.2.2.2.2.2.2.2.2.2) j := by
  unfold upd
  match j with
  | 0 => rfl
  | 1 => rfl
  | 2 => rfl
  | 3 => rfl
  | 4 => rfl
  | 5 => rfl
  | 6 => rfl
  | 7 => rfl
  | 8 => rfl
  | 9 => rfl
  | 10 => rfl
  | 11 => rfl
  | 12 => rfl
  | 13 => rfl
  | 14 => rfl
  | 15 => rfl
  | j + 16 => rw [if_neg (by omega)]; rfl
theorem nwU_2 (v : SV) (x : Int32) (j : Nat) : upd (nwF v) 2 x j = nwF (v.1, v.2.1, v.2.2.1, v.2.2.2.1, upd v.2.2.2.2.1 1 x, v.2.2.2.2.2.1, v.2.2.2.2.2.2.1, v.2.2.2.2.2.2.2.1, v.2.2.2.2.2.2.2.2.1, v.2.2.2.2.2.2.2.2.2.1, v.2.2.2.2.2.2.2.2.2.2.1, v.2.2.2.2.2.2.2.2.2.2.2.1, v.2.2.2.2.2.2.2.2.2.2.2.2) j := by
  unfold upd
  match j with
  | 0 => rfl
  | 1 => rfl
  | 2 => rfl
  | 3 => rfl
  | 4 => rfl
  | 5 => rfl
  | 6 => rfl
  | 7 => rfl
  | 8 => rfl
  | 9 => rfl
  | 10 => rfl
  | 11 => rfl
  | 12 => rfl
  | 13 => rfl
  | 14 => rfl
  | 15 => rfl
  | j + 16 => rw [if_neg (by omega)]; rfl
theorem nwU_3 (v : SV) (x : Int32) (j : Nat) : upd (nwF v) 3 x j = nwF (v.1, v.2.1, v.2.2.1, v.2.2.2.1, upd v.2.2.2.2.1 2 x, v.2.2.2.2.2.1, v.2.2.2.2.2.2.1, v.2.2.2.2.2.2.2.1, v.2.2.2.2.2.2.2.2.1, v.2.2.2.2.2.2.2.2.2.1, v.2.2.2.2.2.2.2.2.2.2.1, v.2.2.2.2.2.2.2.2.2.2.2.1, v.2.2.2.2.2.2.2.2.2.2.2.2) j := by
  unfold upd
  match j with
  | 0 => rfl
  | 1 => rfl
  | 2 => rfl
  | 3 => rfl
  | 4 => rfl
  | 5 => rfl
  | 6 => rfl
  | 7 => rfl
  | 8 => rfl
  | 9 => rfl
  | 10 => rfl
  | 11 => rfl
  | 12 => rfl
  | 13 => rfl
  | 14 => rfl
  | 15 => rfl
  | j + 16 => rw [if_neg (by omega)]; rfl
theorem nwU_4 (v : SV) (x : Int32) (j : Nat) : upd (nwF v) 4 x j = nwF (v.1, v.2.1, v.2.2.1, v.2.2.2.1, upd v.2.2.2.2.1 3 x, v.2.2.2.2.2.1, v.2.2.2.2.2.2.1, v.2.2.2.2.2.2.2.1, v.2.2.2.2.2.2.2.2.1, v.2.2.2.2.2.2.2.2.2.1, v.2.2.2.2.2.2.2.2.2.2.1, v.2.2.2.2.2.2.2.2.2.2.2.1, v.2.2.2.2.2.2.2.2.2.2.2.2) j := by
  unfold upd
  match j with
  | 0 => rfl
  | 1 => rfl
  | 2 => rfl
  | 3 => rfl
  | 4 => rfl
  | 5 => rfl
  | 6 => rfl
  | 7 => rfl
  | 8 => rfl
  | 9 => rfl
  | 10 => rfl
  | 11 => rfl
  | 12 => rfl
  | 13 => rfl
  | 14 => rfl
  | 15 => rfl
  | j + 16 => rw [if_neg (by omega)]; rfl
theorem nwU_5 (v : SV) (x : Int32) (j : Nat) : upd (nwF v) 5 x j = nwF (v.1, v.2.1, v.2.2.1, v.2.2.2.1, upd v.2.2.2.2.1 4 x, v.2.2.2.2.2.1, v.2.2.2.2.2.2.1, v.2.2.2.2.2.2.2.1, v.2.2.2.2.2.2.2.2.1, v.2.2.2.2.2.2.2.2.2.1, v.2.2.2.2.2.2.2.2.2.2.1, v.2.2.2.2.2.2.2.2.2.2.2.1, v.2.2.2.2.2.2.2.2.2.2.2.2) j := by
  unfold upd
  match j with
  | 0 => rfl
  | 1 => rfl
  | 2 => rfl
  | 3 => rfl
  | 4 => rfl
  | 5 => rfl
  | 6 => rfl
  | 7 => rfl
  | 8 => rfl
  | 9 => rfl
  | 10 => rfl
  | 11 => rfl
  | 12 => rfl
  | 13 => rfl
  | 14 => rfl
  | 15 => rfl
  | j + 16 => rw [if_neg (by omega)]; rfl
theorem nwU_6 (v : SV) (x : Int32) (j : Nat) : upd (nwF v) 6 x j = nwF (v.1, v.2.1, v.2.2.1, v.2.2.2.1, upd v.2.2.2.2.1 5 x, v.2.2.2.2.2.1, v.2.2.2.2.2.2.1, v.2.2.2.2.2.2.2.1, v.2.2.2.2.2.2.2.2.1, v.2.2.2.2.2.2.2.2.2.1, v.2.2.2.2.2.2.2.2.2.2.1, v.2.2.2.2.2.2.2.2.2.2.2.1, v.2.2.2.2.2.2.2.2.2.2.2.2) j := by
  unfold upd
  match j with
  | 0 => rfl
  | 1 => rfl
  | 2 => rfl
  | 3 => rfl
  | 4 => rfl
  | 5 => rfl
  | 6 => rfl
  | 7 => rfl
  | 8 => rfl
  | 9 => rfl
  | 10 => rfl
  | 11 => rfl
  | 12 => rfl
  | 13 => rfl
  | 14 => rfl
  | 15 => rfl
  | j + 16 => rw [if_neg (by omega)]; rfl
theorem nwU_7 (v : SV) (x : Int32) (j : Nat) : upd (nwF v) 7 x j = nwF (v.1, v.2.1, v.2.2.1, v.2.2.2.1, upd v.2.2.2.2.1 6 x, v.2.2.2.2.2.1, v.2.2.2.2.2.2.1, v.2.2.2.2.2.2.2.1, v.2.2.2.2.2.2.2.2.1, v.2.2.2.2.2.2.2.2.2.1, v.2.2.2.2.2.2.2.2.2.2.1, v.2.2.2.2.2.2.2.2.2.2.2.1, v.2.2.2.2.2.2.2.2.2.2.2.2) j := by
  unfold upd
  match j with
  | 0 => rfl
  | 1 => rfl
  | 2 => rfl
  | 3 => rfl
  | 4 => rfl
  | 5 => rfl
  | 6 => rfl
  | 7 => rfl
  | 8 => rfl
  | 9 => rfl
  | 10 => rfl
  | 11 => rfl
  | 12 => rfl
  | 13 => rfl
  | 14 => rfl
  | 15 => rfl
  | j + 16 => rw [if_neg (by omega)]; rfl
theorem nwU_8 (v : SV) (x : Nat) (j : Nat) : upd (nwF v) 8 (nI x) j = nwF (v.1, v.2.1, v.2.2.1, v.2.2.2.1, v.2.2.2.2.1, x, v.2.2.2.2.2.2.1, v.2.2.2.2.2.2.2.1, v.2.2.2.2.2.2.2.2.1, v.2.2.2.2.2.2.2.2.2.1, v.2.2.2.2.2.2.2.2.2.2.1, v.2.2.2.2.2.2.2.2.2.2.2.1, v.2.2.2.2.2.2.2.2.2.2.2.2) j := by
  unfold upd
  match j with
  | 0 => rfl
  | 1 => rfl
  | 2 => rfl
  | 3 => rfl
  | 4 => rfl
  | 5 => rfl
  | 6 => rfl
  | 7 => rfl
  | 8 => rfl
  | 9 => rfl
  | 10 => rfl
  | 11 => rfl
  | 12 => rfl
  | 13 => rfl
  | 14 => rfl
  | 15 => rfl
  | j + 16 => rw [if_neg (by omega)]; rfl
theorem nwU_9 (v : SV) (x : Int32) (j : Nat) : upd (nwF v) 9 x j = nwF (v.1, v.2.1, v.2.2.1, v.2.2.2.1, v.2.2.2.2.1, v.2.2.2.2.2.1, x, v.2.2.2.2.2.2.2.1, v.2.2.2.2.2.2.2.2.1, v.2.2.2.2.2.2.2.2.2.1, v.2.2.2.2.2.2.2.2.2.2.1, v.2.2.2.2.2.2.2.2.2.2.2.1, v.2.2.2.2.2.2.2.2.2.2.2.2) j := by
  unfold upd
  match j with
  | 0 => rfl
  | 1 => rfl
  | 2 => rfl
  | 3 => rfl
  | 4 => rfl
  | 5 => rfl
  | 6 => rfl
  | 7 => rfl
  | 8 => rfl
  | 9 => rfl
  | 10 => rfl
  | 11 => rfl
  | 12 => rfl
  | 13 => rfl
  | 14 => rfl
  | 15 => rfl
  | j + 16 => rw [if_neg (by omega)]; rfl
theorem nwU_10 (v : SV) (x : Int32) (j : Nat) : upd (nwF v) 10 x j = nwF (v.1, v.2.1, v.2.2.1, v.2.2.2.1, v.2.2.2.2.1, v.2.2.2.2.2.1, v.2.2.2.2.2.2.1, x, v.2.2.2.2.2.2.2.2.1, v.2.2.2.2.2.2.2.2.2.1, v.2.2.2.2.2.2.2.2.2.2.1, v.2.2.2.2.2.2.2.2.2.2.2.1, v.2.2.2.2.2.2.2.2.2.2.2.2) j := by
  unfold upd
  match j with
  | 0 => rfl
  | 1 => rfl
  | 2 => rfl
  | 3 => rfl
  | 4 => rfl
  | 5 => rfl
  | 6 => rfl
  | 7 => rfl
  | 8 => rfl
  | 9 => rfl
  | 10 => rfl
  | 11 => rfl
  | 12 => rfl
  | 13 => rfl
  | 14 => rfl
  | 15 => rfl
  | j + 16 => rw [if_neg (by omega)]; rfl
theorem nwU_11 (v : SV) (x : Int32) (j : Nat) : upd (nwF v) 11 x j = nwF (v.1, v.2.1, v.2.2.1, v.2.2.2.1, v.2.2.2.2.1, v.2.2.2.2.2.1, v.2.2.2.2.2.2.1, v.2.2.2.2.2.2.2.1, x, v.2.2.2.2.2.2.2.2.2.1, v.2.2.2.2.2.2.2.2.2.2.1, v.2.2.2.2.2.2.2.2.2.2.2.1, v.2.2.2.2.2.2.2.2.2.2.2.2) j := by
  unfold upd
  match j with
  | 0 => rfl
  | 1 => rfl
  | 2 => rfl
  | 3 => rfl
  | 4 => rfl
  | 5 => rfl
  | 6 => rfl
  | 7 => rfl
  | 8 => rfl
  | 9 => rfl
  | 10 => rfl
  | 11 => rfl
  | 12 => rfl
  | 13 => rfl
  | 14 => rfl
  | 15 => rfl
  | j + 16 => rw [if_neg (by omega)]; rfl
theorem nwU_12 (v : SV) (x : Int32) (j : Nat) : upd (nwF v) 12 x j = nwF (v.1, v.2.1, v.2.2.1, v.2.2.2.1, v.2.2.2.2.1, v.2.2.2.2.2.1, v.2.2.2.2.2.2.1, v.2.2.2.2.2.2.2.1, v.2.2.2.2.2.2.2.2.1, x, v.2.2.2.2.2.2.2.2.2.2.1, v.2.2.2.2.2.2.2.2.2.2.2.1, v.2.2.2.2.2.2.2.2.2.2.2.2) j := by
  unfold upd
  match j with
  | 0 => rfl
  | 1 => rfl
  | 2 => rfl
  | 3 => rfl
  | 4 => rfl
  | 5 => rfl
  | 6 => rfl
  | 7 => rfl
  | 8 => rfl
  | 9 => rfl
  | 10 => rfl
  | 11 => rfl
  | 12 => rfl
  | 13 => rfl
  | 14 => rfl
  | 15 => rfl
  | j + 16 => rw [if_neg (by omega)]; rfl
theorem nwU_13 (v : SV) (x : Int32) (j : Nat) : upd (nwF v) 13 x j = nwF (v.1, v.2.1, v.2.2.1, v.2.2.2.1, v.2.2.2.2.1, v.2.2.2.2.2.1, v.2.2.2.2.2.2.1, v.2.2.2.2.2.2.2.1, v.2.2.2.2.2.2.2.2.1, v.2.2.2.2.2.2.2.2.2.1, x, v.2.2.2.2.2.2.2.2.2.2.2.1, v.2.2.2.2.2.2.2.2.2.2.2.2) j := by
  unfold upd
  match j with
  | 0 => rfl
  | 1 => rfl
  | 2 => rfl
  | 3 => rfl
  | 4 => rfl
  | 5 => rfl
  | 6 => rfl
  | 7 => rfl
  | 8 => rfl
  | 9 => rfl
  | 10 => rfl
  | 11 => rfl
  | 12 => rfl
  | 13 => rfl
  | 14 => rfl
  | 15 => rfl
  | j + 16 => rw [if_neg (by omega)]; rfl
theorem nwU_14 (v : SV) (x : Int32) (j : Nat) : upd (nwF v) 14 x j = nwF (v.1, v.2.1, v.2.2.1, v.2.2.2.1, v.2.2.2.2.1, v.2.2.2.2.2.1, v.2.2.2.2.2.2.1, v.2.2.2.2.2.2.2.1, v.2.2.2.2.2.2.2.2.1, v.2.2.2.2.2.2.2.2.2.1, v.2.2.2.2.2.2.2.2.2.2.1, x, v.2.2.2.2.2.2.2.2.2.2.2.2) j := by
  unfold upd
  match j with
  | 0 => rfl
  | 1 => rfl
  | 2 => rfl
  | 3 => rfl
  | 4 => rfl
  | 5 => rfl
  | 6 => rfl
  | 7 => rfl
  | 8 => rfl
  | 9 => rfl
  | 10 => rfl
  | 11 => rfl
  | 12 => rfl
  | 13 => rfl
  | 14 => rfl
  | 15 => rfl
  | j + 16 => rw [if_neg (by omega)]; rfl
theorem nwU_15 (v : SV) (x : Int32) (j : Nat) : upd (nwF v) 15 x j = nwF (v.1, v.2.1, v.2.2.1, v.2.2.2.1, v.2.2.2.2.1, v.2.2.2.2.2.1, v.2.2.2.2.2.2.1, v.2.2.2.2.2.2.2.1, v.2.2.2.2.2.2.2.2.1, v.2.2.2.2.2.2.2.2.2.1, v.2.2.2.2.2.2.2.2.2.2.1, v.2.2.2.2.2.2.2.2.2.2.2.1, x) j := by
  unfold upd
  match j with
  | 0 => rfl
  | 1 => rfl
  | 2 => rfl
  | 3 => rfl
  | 4 => rfl
  | 5 => rfl
  | 6 => rfl
  | 7 => rfl
  | 8 => rfl
  | 9 => rfl
  | 10 => rfl
  | 11 => rfl
  | 12 => rfl
  | 13 => rfl
  | 14 => rfl
  | 15 => rfl
  | j + 16 => rw [if_neg (by omega)]; rfl
theorem nwU_st (v : SV) (x : Int32) {w : Nat} (h : w < 7) (j : Nat) : upd (nwF v) (1 + w) x j = nwF (v.1, v.2.1, v.2.2.1, v.2.2.2.1, upd v.2.2.2.2.1 w x, v.2.2.2.2.2) j := by
  match w, h with
  | 0, _ => exact nwU_1 v x j
  | 1, _ => exact nwU_2 v x j
  | 2, _ => exact nwU_3 v x j
  | 3, _ => exact nwU_4 v x j
  | 4, _ => exact nwU_5 v x j
  | 5, _ => exact nwU_6 v x j
  | 6, _ => exact nwU_7 v x j
  | w + 7, h => omega
theorem nwU_ce (v : SV) (x : Int32) (y : Nat) (j : Nat) : upd (nwF v) (16 + 3 * y) x j = nwF (v.1, upd v.2.1 y x, v.2.2.1, v.2.2.2.1, v.2.2.2.2.1, v.2.2.2.2.2) j := by
  unfold upd
  match j with
  | 0 => rw [if_neg (by omega)]; rfl
  | 1 => rw [if_neg (by omega)]; rfl
  | 2 => rw [if_neg (by omega)]; rfl
  | 3 => rw [if_neg (by omega)]; rfl
  | 4 => rw [if_neg (by omega)]; rfl
  | 5 => rw [if_neg (by omega)]; rfl
  | 6 => rw [if_neg (by omega)]; rfl
  | 7 => rw [if_neg (by omega)]; rfl
  | 8 => rw [if_neg (by omega)]; rfl
  | 9 => rw [if_neg (by omega)]; rfl
  | 10 => rw [if_neg (by omega)]; rfl
  | 11 => rw [if_neg (by omega)]; rfl
  | 12 => rw [if_neg (by omega)]; rfl
  | 13 => rw [if_neg (by omega)]; rfl
  | 14 => rw [if_neg (by omega)]; rfl
  | 15 => rw [if_neg (by omega)]; rfl
  | j + 16 =>
    show (if j + 16 = 16 + 3 * y then x else if j % 3 = 0 then v.2.1 (j / 3) else if j % 3 = 1 then v.2.2.1 (j / 3) else v.2.2.2.1 (j / 3)) = (if j % 3 = 0 then (upd v.2.1 y x) (j / 3) else if j % 3 = 1 then v.2.2.1 (j / 3) else v.2.2.2.1 (j / 3))
    by_cases h0 : j % 3 = 0
    · simp only [if_pos h0]
      by_cases he : j / 3 = y
      · rw [if_pos (by omega)]; unfold upd; rw [if_pos he]
      · rw [if_neg (by omega)]; unfold upd; rw [if_neg he]
    · simp only [if_neg h0]
      by_cases h1 : j % 3 = 1
      · simp only [if_pos h1]
        rw [if_neg (by omega)]
      · simp only [if_neg h1]
        rw [if_neg (by omega)]
theorem nwU_gr (v : SV) (x : Int32) (y : Nat) (j : Nat) : upd (nwF v) (16 + 3 * y + 1) x j = nwF (v.1, v.2.1, upd v.2.2.1 y x, v.2.2.2.1, v.2.2.2.2.1, v.2.2.2.2.2) j := by
  unfold upd
  match j with
  | 0 => rw [if_neg (by omega)]; rfl
  | 1 => rw [if_neg (by omega)]; rfl
  | 2 => rw [if_neg (by omega)]; rfl
  | 3 => rw [if_neg (by omega)]; rfl
  | 4 => rw [if_neg (by omega)]; rfl
  | 5 => rw [if_neg (by omega)]; rfl
  | 6 => rw [if_neg (by omega)]; rfl
  | 7 => rw [if_neg (by omega)]; rfl
  | 8 => rw [if_neg (by omega)]; rfl
  | 9 => rw [if_neg (by omega)]; rfl
  | 10 => rw [if_neg (by omega)]; rfl
  | 11 => rw [if_neg (by omega)]; rfl
  | 12 => rw [if_neg (by omega)]; rfl
  | 13 => rw [if_neg (by omega)]; rfl
  | 14 => rw [if_neg (by omega)]; rfl
  | 15 => rw [if_neg (by omega)]; rfl
  | j + 16 =>
    show (if j + 16 = 16 + 3 * y + 1 then x else if j % 3 = 0 then v.2.1 (j / 3) else if j % 3 = 1 then v.2.2.1 (j / 3) else v.2.2.2.1 (j / 3)) = (if j % 3 = 0 then v.2.1 (j / 3) else if j % 3 = 1 then (upd v.2.2.1 y x) (j / 3) else v.2.2.2.1 (j / 3))
    by_cases h0 : j % 3 = 0
    · simp only [if_pos h0]
      rw [if_neg (by omega)]
    · simp only [if_neg h0]
      by_cases h1 : j % 3 = 1
      · simp only [if_pos h1]
        by_cases he : j / 3 = y
        · rw [if_pos (by omega)]; unfold upd; rw [if_pos he]
        · rw [if_neg (by omega)]; unfold upd; rw [if_neg he]
      · simp only [if_neg h1]
        rw [if_neg (by omega)]
theorem nwU_be (v : SV) (x : Int32) (y : Nat) (j : Nat) : upd (nwF v) (16 + 3 * y + 2) x j = nwF (v.1, v.2.1, v.2.2.1, upd v.2.2.2.1 y x, v.2.2.2.2.1, v.2.2.2.2.2) j := by
  unfold upd
  match j with
  | 0 => rw [if_neg (by omega)]; rfl
  | 1 => rw [if_neg (by omega)]; rfl
  | 2 => rw [if_neg (by omega)]; rfl
  | 3 => rw [if_neg (by omega)]; rfl
  | 4 => rw [if_neg (by omega)]; rfl
  | 5 => rw [if_neg (by omega)]; rfl
  | 6 => rw [if_neg (by omega)]; rfl
  | 7 => rw [if_neg (by omega)]; rfl
  | 8 => rw [if_neg (by omega)]; rfl
  | 9 => rw [if_neg (by omega)]; rfl
  | 10 => rw [if_neg (by omega)]; rfl
  | 11 => rw [if_neg (by omega)]; rfl
  | 12 => rw [if_neg (by omega)]; rfl
  | 13 => rw [if_neg (by omega)]; rfl
  | 14 => rw [if_neg (by omega)]; rfl
  | 15 => rw [if_neg (by omega)]; rfl
  | j + 16 =>
    show (if j + 16 = 16 + 3 * y + 2 then x else if j % 3 = 0 then v.2.1 (j / 3) else if j % 3 = 1 then v.2.2.1 (j / 3) else v.2.2.2.1 (j / 3)) = (if j % 3 = 0 then v.2.1 (j / 3) else if j % 3 = 1 then v.2.2.1 (j / 3) else (upd v.2.2.2.1 y x) (j / 3))
    by_cases h0 : j % 3 = 0
    · simp only [if_pos h0]
      rw [if_neg (by omega)]
    · simp only [if_neg h0]
      by_cases h1 : j % 3 = 1
      · simp only [if_pos h1]
        rw [if_neg (by omega)]
      · simp only [if_neg h1]
        by_cases he : j / 3 = y
        · rw [if_pos (by omega)]; unfold upd; rw [if_pos he]
        · rw [if_neg (by omega)]; unfold upd; rw [if_neg he]

/-- the states that are kept, row behind row -/
def pF (P : Nat → SV) : Nat → Int32 := fun j => nwF (P (j / 616)) (j % 616)
theorem pF_at (P : Nat → SV) {i k : Nat} (hk : k < 616) : pF P (616 * i + k) = nwF (P i) k := by
  unfold pF
  rw [show (616 * i + k) / 616 = i by omega, show (616 * i + k) % 616 = k by omega]
def kpF (P : Nat → SV) (v : SV) (i k : Nat) : Nat → Int32 := fun j => if 616 * i ≤ j ∧ j < 616 * i + k then nwF v (j - 616 * i) else pF P j
theorem kpF_0 (P : Nat → SV) (v : SV) (i j : Nat) : kpF P v i 0 j = pF P j := if_neg (by omega)
theorem kpF_s (P : Nat → SV) (v : SV) (i k j : Nat) : upd (kpF P v i k) (616 * i + k) (nwF v k) j = kpF P v i (k + 1) j := by
  unfold upd kpF
  by_cases h : j = 616 * i + k
  · rw [if_pos h, if_pos (by omega), show j - 616 * i = k by omega]
  · rw [if_neg h]
    by_cases h2 : 616 * i ≤ j ∧ j < 616 * i + k
    · rw [if_pos h2, if_pos (by omega)]
    · rw [if_neg h2, if_neg (by omega)]
theorem kpF_e (P : Nat → SV) (v : SV) (i j : Nat) : kpF P v i 616 j = pF (va_up P i v) j := by
  unfold kpF pF va_up
  by_cases h : 616 * i ≤ j ∧ j < 616 * i + 616
  · rw [if_pos h, if_pos (by omega), show j - 616 * i = j % 616 by omega]
  · rw [if_neg h, if_neg (by omega)]
def tkF (P : Nat → SV) (v : SV) (i k : Nat) : Nat → Int32 := fun j => if j < k then nwF (P i) j else nwF v j
theorem tkF_0 (P : Nat → SV) (v : SV) (i j : Nat) : tkF P v i 0 j = nwF v j := if_neg (by omega)
theorem tkF_s (P : Nat → SV) (v : SV) (i k j : Nat) : upd (tkF P v i k) k (nwF (P i) k) j = tkF P v i (k + 1) j := by
  unfold upd tkF
  by_cases h : j = k
  · subst h; rw [if_pos rfl, if_pos (by omega)]
  · rw [if_neg h]
    by_cases h2 : j < k
    · rw [if_pos h2, if_pos (by omega)]
    · rw [if_neg h2, if_neg (by omega)]
theorem tkF_e (P : Nat → SV) (v : SV) (i j : Nat) (h : j < 616) : tkF P v i 616 j = nwF (P i) j := if_pos h
/-- the oldest one goes -/
def shP (P : Nat → SV) : Nat → SV := fun i => if i < 5 then P (i + 1) else P i
def shF (P : Nat → SV) (k : Nat) : Nat → Int32 := fun j => if j < k then pF P (j + 616) else pF P j
theorem shF_0 (P : Nat → SV) (j : Nat) : shF P 0 j = pF P j := if_neg (by omega)
theorem shF_r (P : Nat → SV) (k : Nat) : shF P k (k + 616) = pF P (k + 616) := if_neg (by omega)
theorem shF_s (P : Nat → SV) (k j : Nat) : upd (shF P k) k (pF P (k + 616)) j = shF P (k + 1) j := by
  unfold upd shF
  by_cases h : j = k
  · subst h; rw [if_pos rfl, if_pos (by omega)]
  · rw [if_neg h]
    by_cases h2 : j < k
    · rw [if_pos h2, if_pos (by omega)]
    · rw [if_neg h2, if_neg (by omega)]
theorem shF_e (P : Nat → SV) (j : Nat) : shF P 3080 j = pF (shP P) j := by
  unfold shF pF shP
  by_cases h : j < 3080
  · rw [if_pos h, if_pos (by omega), show (j + 616) / 616 = j / 616 + 1 by omega, show (j + 616) % 616 = j % 616 by omega]
  · rw [if_neg h, if_neg (by omega)]
def ntP (P : Nat → SV) (hs : Nat) (v : SV) : Nat → SV := if hs = 6 then va_up (shP P) 5 v else va_up P hs v
/-- CEILING IN FORCE, cell by cell -/
def infL (ce : Nat → Int32) (x len : Nat) : Nat → Int32
  | 0 => ce x
  | k + 1 => if len ≤ x + 1 + k ∧ ce (x + 1 + k - len) < infL ce x len k then ce (x + 1 + k - len) else infL ce x len k
def infF (ce : Nat → Int32) (len x : Nat) : Int32 := infL ce x len (len - 1)
theorem if_lo {x k len : Nat} (hx : x < 2 ^ 29) (hk : k < 2 ^ 29) (hl : len < 2 ^ 29) : nI (x + 1 + k) - nI len < 0 ↔ x + 1 + k < len := by
  have e : (nI (x + 1 + k) - nI len).toInt = ((x + 1 + k : Nat) : Int) - len := pk_sub_toInt (by omega) (by omega)
  rw [Int32.lt_iff_toInt_lt, e, show (0 : Int32).toInt = 0 from rfl]
  omega
theorem if_ge {x k len : Nat} (hx : x < 2 ^ 29) (hk : k < 2 ^ 29) (hl : len < 2 ^ 29) : nI x ≤ nI (x + 1 + k) - nI len ↔ len ≤ k + 1 := by
  have e : (nI (x + 1 + k) - nI len).toInt = ((x + 1 + k : Nat) : Int) - len := pk_sub_toInt (by omega) (by omega)
  rw [Int32.le_iff_toInt_le, e, nI_toInt (by omega)]
  omega
theorem if_st (x k len : Nat) : nI (x + 1 + k) - nI len + Int32.ofInt 1 = nI (x + 1 + (k + 1)) - nI len := by
  rw [show x + 1 + (k + 1) = (x + 1 + k) + 1 by omega, ← nI_1 (x + 1 + k)]
  show nI (x + 1 + k) - nI len + 1 = nI (x + 1 + k) + 1 - nI len
  rw [Int32.sub_eq_add_neg, Int32.sub_eq_add_neg, Int32.add_assoc, Int32.add_assoc, Int32.add_comm (-nI len) 1]
theorem if_en (x len : Nat) : nI x - nI len + 1 = nI (x + 1 + 0) - nI len := by
  rw [Nat.add_zero, ← nI_1 x, Int32.sub_eq_add_neg, Int32.sub_eq_add_neg, Int32.add_assoc, Int32.add_assoc, Int32.add_comm (-nI len) 1]
/-- LAWFUL as the model draws it -/
def lwQ (ce gr : Nat → Int32) (b : Int32) (len L k : Nat) (sq : Nat → Int32) : Nat → Int32 := fun j => if k ≤ j ∧ j ≤ L then lwD (infF ce len) gr b L (L - j) else sq j
theorem lwQ_0 (ce gr : Nat → Int32) (b : Int32) (len L : Nat) (sq : Nat → Int32) (j : Nat) : upd sq L 0 j = lwQ ce gr b len L L sq j := by
  unfold upd lwQ
  by_cases h : j = L
  · subst h; rw [if_pos rfl, if_pos (by omega), Nat.sub_self]; rfl
  · rw [if_neg h, if_neg (by omega)]
theorem lwQ_r (ce gr : Nat → Int32) (b : Int32) (len L k : Nat) (sq : Nat → Int32) (h : k ≤ L) : lwQ ce gr b len L k sq k = lwD (infF ce len) gr b L (L - k) := if_pos (by omega)
theorem lwQ_s (ce gr : Nat → Int32) (b : Int32) (len L k : Nat) (sq : Nat → Int32) (h : k < L) (z : Int32) (hz : z = lwD (infF ce len) gr b L (L - k)) (j : Nat) : upd (lwQ ce gr b len L (k + 1) sq) k z j = lwQ ce gr b len L k sq j := by
  subst hz
  unfold upd lwQ
  by_cases hj : j = k
  · subst hj; rw [if_pos rfl, if_pos (by omega)]
  · rw [if_neg hj]
    by_cases h2 : k ≤ j ∧ j ≤ L
    · rw [if_pos h2, if_pos (by omega)]
    · rw [if_neg h2, if_neg (by omega)]
theorem lwQ_a (ce gr : Nat → Int32) (b : Int32) (len L k : Nat) (h : k < L) (hc : lwD (infF ce len) gr b L (L - (k + 1)) + dcl b (gr k) ≤ infF ce len k * infF ce len k) : lwD (infF ce len) gr b L (L - (k + 1)) + dcl b (gr k) = lwD (infF ce len) gr b L (L - k) := by
  rw [lwD_st _ _ _ _ _ h]
  split
  · rfl
  · rename_i h2
    exact Int32.le_antisymm hc (Int32.not_lt.mp h2)
theorem lwQ_b (ce gr : Nat → Int32) (b : Int32) (len L k : Nat) (h : k < L) (hc : ¬ lwD (infF ce len) gr b L (L - (k + 1)) + dcl b (gr k) ≤ infF ce len k * infF ce len k) : infF ce len k * infF ce len k = lwD (infF ce len) gr b L (L - k) := by
  rw [lwD_st _ _ _ _ _ h, if_neg (fun z => hc (Int32.le_of_lt z))]
theorem dcl_r (b gd : Int32) (h : ¬ 1 ≤ b + gd) : (1 : Int32) = dcl b gd := by
  unfold dcl
  rw [if_neg (fun z => h (Int32.le_of_lt z))]
theorem dcl_q (b gd : Int32) (h : 1 ≤ b + gd) : b + gd = dcl b gd := by
  unfold dcl
  split
  · rfl
  · rename_i h2
    exact (Int32.le_antisymm h (Int32.not_lt.mp h2)).symm
/-- roots -/
theorem rt_ok : ∀ (j f y : Nat), f + 2 ^ j ≤ 2 ^ 15 → y < 2 ^ 30 → f * f ≤ y → y < (f + 2 ^ j) * (f + 2 ^ j) → rtL j f (nI y) * rtL j f (nI y) ≤ y ∧ y < (rtL j f (nI y) + 1) * (rtL j f (nI y) + 1)
  | 0, f, y, _, _, h1, h2 => ⟨h1, h2⟩
  | j + 1, f, y, hf, hy, h1, h2 => by
    rw [rtL]
    rw [Nat.pow_succ] at hf h2
    have hb : (f + 2 ^ j) * (f + 2 ^ j) ≤ 2 ^ 15 * 2 ^ 15 := Nat.mul_le_mul (by omega) (by omega)
    split
    · rename_i h3
      have h4 := (n_le (by omega) (by omega)).mp h3
      exact rt_ok j (f + 2 ^ j) y (by omega) hy h4 (by rw [show f + 2 ^ j + 2 ^ j = f + 2 ^ j * 2 by omega]; exact h2)
    · rename_i h3
      have h4 : y < (f + 2 ^ j) * (f + 2 ^ j) := Nat.lt_of_not_le fun z => h3 ((n_le (by omega) (by omega)).mpr z)
      exact rt_ok j f y (by omega) hy h1 h4
theorem rt_15 {y : Nat} (h : y < 2 ^ 30) : rtL 15 0 (nI y) * rtL 15 0 (nI y) ≤ y ∧ y < (rtL 15 0 (nI y) + 1) * (rtL 15 0 (nI y) + 1) := rt_ok 15 0 y (by decide) h (Nat.zero_le _) (by simpa using h)
theorem rt_is {y z : Nat} (h : y < 2 ^ 30) (h1 : z * z ≤ y) (h2 : y < (z + 1) * (z + 1)) : z = rtL 15 0 (nI y) := by
  obtain ⟨q1, q2⟩ := rt_15 h
  rcases Nat.lt_trichotomy z (rtL 15 0 (nI y)) with a | a | a
  · have := Nat.mul_le_mul (show z + 1 ≤ rtL 15 0 (nI y) by omega) (show z + 1 ≤ rtL 15 0 (nI y) by omega)
    omega
  · exact a
  · have := Nat.mul_le_mul (show rtL 15 0 (nI y) + 1 ≤ z by omega) (show rtL 15 0 (nI y) + 1 ≤ z by omega)
    omega
theorem sq_lt {r y : Nat} (h : r * r ≤ y) (hy : y < 2 ^ 30) : r < 2 ^ 15 := by
  rcases Nat.lt_or_ge r (2 ^ 15) with a | a
  · exact a
  · have := Nat.mul_le_mul a a
    omega
theorem sq_b {r : Nat} (h : r < 2 ^ 15) : (r + 1) * (r + 1) < 2 ^ 31 := by
  have := Nat.mul_le_mul (show r + 1 ≤ 2 ^ 15 by omega) (show r + 1 ≤ 2 ^ 15 by omega)
  omega
theorem kpt_0 {L : Nat} {x : Int32} (hL : L ≤ 200) (h : ¬ 0 ≤ x) : (0 : Nat) = kpt L x := by
  have h1 : x < 0 := Int32.not_le.mp h
  unfold kpt
  rw [if_neg (fun z => absurd (Int32.lt_trans z h1) (nI_pos (by omega)))]
  have h2 : x.toInt < 0 := by simpa using Int32.lt_iff_toInt_lt.mp h1
  show 0 = x.toInt.toNat
  omega
theorem kpt_L {L : Nat} {x : Int32} (hL1 : 1 ≤ L) (hL : L ≤ 200) (h : ¬ x < nI L) : L - 1 = kpt L x := by
  have h1 : nI L ≤ x := Int32.not_lt.mp h
  unfold kpt
  rw [if_pos (Int32.lt_of_lt_of_le ((n_lt (a := L - 1) (b := L) (by omega) (by omega)).mpr (by omega)) h1)]
theorem kpt_x {L : Nat} {x : Int32} (hL1 : 1 ≤ L) (hL : L ≤ 200) (h0 : 0 ≤ x) (h : x < nI L) : x = nI (kpt L x) := by
  obtain ⟨j, hj, rfl⟩ := nI_of (Int32.not_lt.mpr h0)
  have h1 := (n_lt hj (by omega)).mp h
  unfold kpt
  rw [if_neg (fun z => absurd ((n_lt (by omega) hj).mp z) (by omega)), nI_clamp hj]

set_option maxRecDepth 100000 in
set_option maxHeartbeats 4000000 in
theorem c_X8_in (l : Launch) (g : xCfg) (x : Int32) (lo : Int32) (hi : Int32)  : Ct l g yX8_in cX8_in 3 (some .boolean) (xR 0 0) [.int x, .int lo, .int hi] [] (is1 (some (.int (bI (lo ≤ x ∧ x ≤ hi)))) []) := by
  refine Ct.walk (by decide) (Nat.le_of_ble_eq_true rfl) ?_
  intro p0 e0 s0 m0 below meth c0 A0 ls Q hQ E hr hnm hw hl
  have hx := E.x
  have hb := E.b
  have hl : lv_has ls 3 [(0, .int x), (1, .int lo), (2, .int hi)] := hl
  refine lv_iload_n hx hb dX8_in_0 rfl (lv_at hl 0 rfl) ?_
  refine lv_iload_n hx hb dX8_in_1 rfl (lv_at hl 1 rfl) ?_
  refine lv_icmp_lt (tgt := 14) hx hb dX8_in_2 (by decide) (fun c_1 => ?_) (fun c_1 => ?_)
  · refine lv_iconst (v := 0) hx hb dX8_in_14 (by decide) ?_
    exact xr_z hQ E hr hw dX8_in_15 (by decide) ⟨congrArg (fun z => some (Value.int z)) (by unfold bI; split <;> first | rfl | (exfalso; simp only [Int32.lt_iff_toInt_lt, Int32.le_iff_toInt_le] at *; omega)), rfl⟩
  · refine lv_iload_n hx hb dX8_in_5 rfl (lv_at hl 0 rfl) ?_
    refine lv_iload_n hx hb dX8_in_6 rfl (lv_at hl 2 rfl) ?_
    refine lv_icmp_gt (tgt := 14) hx hb dX8_in_7 (by decide) (fun c_2 => ?_) (fun c_2 => ?_)
    · refine lv_iconst (v := 0) hx hb dX8_in_14 (by decide) ?_
      exact xr_z hQ E hr hw dX8_in_15 (by decide) ⟨congrArg (fun z => some (Value.int z)) (by unfold bI; split <;> first | rfl | (exfalso; simp only [Int32.lt_iff_toInt_lt, Int32.le_iff_toInt_le] at *; omega)), rfl⟩
    · refine lv_iconst (v := 1) hx hb dX8_in_10 (by decide) ?_
      refine lv_goto (tgt := 15) hx hb dX8_in_11 (by decide) ?_
      exact xr_z hQ E hr hw dX8_in_15 (by decide) ⟨congrArg (fun z => some (Value.int z)) (by unfold bI; split <;> first | rfl | (exfalso; simp only [Int32.lt_iff_toInt_lt, Int32.le_iff_toInt_le] at *; omega)), rfl⟩

theorem c_X8_in_ok (l : Launch) (g : xCfg) (x lo hi : Int32) (h1 : lo ≤ x) (h2 : x ≤ hi) : Ct l g yX8_in cX8_in 3 (some .boolean) (xR 0 0) [.int x, .int lo, .int hi] [] (is1 (some (.int 1)) []) := by
  have h := c_X8_in l g x lo hi
  rw [bI_t ⟨h1, h2⟩] at h
  exact h

set_option maxRecDepth 100000 in
set_option maxHeartbeats 4000000 in
theorem c_X8_bad (l : Launch) (g : xCfg) (o : Nat → Nat) (hs : Nat) (bads : Int32) (nos : Int32) (fuls : Int32) (cau : Int32) (whe : Int32) (cnt : Nat) (p : Nat) (fau : Int32) (isw : Int32) (ods : Int32)  : Ct l g yX8_bad cX8_bad 1 (some .int) (xR 0 0) [.ref (o 0)] [(o 0, .inr (8, [.ref (o 1), .ref (o 2), .int (nI hs), .int bads, .int nos, .int fuls, .int cau, .int whe, .ref (o 3), .ref (o 4), .int (nI cnt), .int (nI p), .int fau, .int isw, .int ods, .ref (o 5), .ref (o 6)]))] (is1 (some (.int (-2))) [(o 0, .inr (8, [.ref (o 1), .ref (o 2), .int (nI hs), .int (bads + 1), .int nos, .int fuls, .int cau, .int whe, .ref (o 3), .ref (o 4), .int (nI cnt), .int (nI p), .int fau, .int isw, .int ods, .ref (o 5), .ref (o 6)]))]) := by
  refine Ct.walk (by decide) (Nat.le_of_ble_eq_true rfl) ?_
  intro p0 e0 s0 m0 below meth c0 A0 ls Q hQ E hr hnm hw hl
  have hx := E.x
  have hb := E.b
  have hl : lv_has ls 1 [(0, .ref (o 0))] := hl
  refine lv_aload_n hx hb dX8_bad_0 rfl (lv_at hl 0 rfl) ?_
  refine lv_dup hx hb dX8_bad_1 rfl ?_
  refine x_get E hw kf_X8_32 0 rfl rfl dX8_bad_2 ?_
  refine lv_iconst (v := 1) hx hb dX8_bad_5 (by decide) ?_
  refine lv_iadd hx hb dX8_bad_6 ?_
  refine x_put E hw kf_X8_32 kp_X8_3 0 rfl (ty := .int) (by decide +kernel) rfl rfl (by simp) (ws' := [(o 0, .inr (8, [.ref (o 1), .ref (o 2), .int (nI hs), .int (bads + 1), .int nos, .int fuls, .int cau, .int whe, .ref (o 3), .ref (o 4), .int (nI cnt), .int (nI p), .int fau, .int isw, .int ods, .ref (o 5), .ref (o 6)]))]) rfl dX8_bad_7 (fun H locs hw => ?_)
  refine lv_bipush (v := -2) hx hb dX8_bad_10 (by decide) ?_
  exact xr_i hQ E hr hw dX8_bad_12 ⟨rfl, rfl⟩

set_option maxRecDepth 100000 in
set_option maxHeartbeats 4000000 in
theorem c_X8_no (l : Launch) (g : xCfg) (o : Nat → Nat) (hs : Nat) (bads : Int32) (nos : Int32) (fuls : Int32) (cau : Int32) (whe : Int32) (cnt : Nat) (p : Nat) (fau : Int32) (isw : Int32) (ods : Int32)  : Ct l g yX8_no cX8_no 1 (some .int) (xR 0 0) [.ref (o 0)] [(o 0, .inr (8, [.ref (o 1), .ref (o 2), .int (nI hs), .int bads, .int nos, .int fuls, .int cau, .int whe, .ref (o 3), .ref (o 4), .int (nI cnt), .int (nI p), .int fau, .int isw, .int ods, .ref (o 5), .ref (o 6)]))] (is1 (some (.int (-3))) [(o 0, .inr (8, [.ref (o 1), .ref (o 2), .int (nI hs), .int bads, .int (nos + 1), .int fuls, .int cau, .int whe, .ref (o 3), .ref (o 4), .int (nI cnt), .int (nI p), .int fau, .int isw, .int ods, .ref (o 5), .ref (o 6)]))]) := by
  refine Ct.walk (by decide) (Nat.le_of_ble_eq_true rfl) ?_
  intro p0 e0 s0 m0 below meth c0 A0 ls Q hQ E hr hnm hw hl
  have hx := E.x
  have hb := E.b
  have hl : lv_has ls 1 [(0, .ref (o 0))] := hl
  refine lv_aload_n hx hb dX8_no_0 rfl (lv_at hl 0 rfl) ?_
  refine lv_dup hx hb dX8_no_1 rfl ?_
  refine x_get E hw kf_X8_35 0 rfl rfl dX8_no_2 ?_
  refine lv_iconst (v := 1) hx hb dX8_no_5 (by decide) ?_
  refine lv_iadd hx hb dX8_no_6 ?_
  refine x_put E hw kf_X8_35 kp_X8_4 0 rfl (ty := .int) (by decide +kernel) rfl rfl (by simp) (ws' := [(o 0, .inr (8, [.ref (o 1), .ref (o 2), .int (nI hs), .int bads, .int (nos + 1), .int fuls, .int cau, .int whe, .ref (o 3), .ref (o 4), .int (nI cnt), .int (nI p), .int fau, .int isw, .int ods, .ref (o 5), .ref (o 6)]))]) rfl dX8_no_7 (fun H locs hw => ?_)
  refine lv_bipush (v := -3) hx hb dX8_no_10 (by decide) ?_
  exact xr_i hQ E hr hw dX8_no_12 ⟨rfl, rfl⟩

set_option maxRecDepth 100000 in
set_option maxHeartbeats 4000000 in
theorem c_X8_keepTo (l : Launch) (g : xCfg) (o : Nat → Nat) (hs : Nat) (bads : Int32) (nos : Int32) (fuls : Int32) (cau : Int32) (whe : Int32) (cnt : Nat) (p : Nat) (fau : Int32) (isw : Int32) (ods : Int32) (v : SV) (P : Nat → SV) (k : Nat) (hk : k < 7) : Ct l g yX8_keepTo cX8_keepTo 3 none (xR 0 0) [.ref (o 0), .int (nI k)] [(o 0, .inr (8, [.ref (o 1), .ref (o 2), .int (nI hs), .int bads, .int nos, .int fuls, .int cau, .int whe, .ref (o 3), .ref (o 4), .int (nI cnt), .int (nI p), .int fau, .int isw, .int ods, .ref (o 5), .ref (o 6)])), (o 1, .inl (g.2.1, 616, .inl (nwF v))), (o 2, .inl (g.2.1, 4312, .inl (pF P)))] (is1 none [(o 0, .inr (8, [.ref (o 1), .ref (o 2), .int (nI hs), .int bads, .int nos, .int fuls, .int cau, .int whe, .ref (o 3), .ref (o 4), .int (nI cnt), .int (nI p), .int fau, .int isw, .int ods, .ref (o 5), .ref (o 6)])), (o 1, .inl (g.2.1, 616, .inl (nwF v))), (o 2, .inl (g.2.1, 4312, .inl (pF (va_up P k v))))]) := by
  refine Ct.walk (by decide) (Nat.le_of_ble_eq_true rfl) ?_
  intro p0 e0 s0 m0 below meth c0 A0 ls Q hQ E hr hnm hw hl
  have hx := E.x
  have hb := E.b
  have hl : lv_has ls 3 [(0, .ref (o 0)), (1, .int (nI k))] := hl
  refine lv_iconst (v := 0) hx hb dX8_keepTo_0 (by decide) ?_
  refine lv_istore_n (lv' := [(2, .int 0), (0, .ref (o 0)), (1, .int (nI k))]) hx hb dX8_keepTo_1 rfl hl (by decide) rfl (fun ls hl => ?_)
  have lp_2 : ∀ (fuel : Nat) (j : Nat), 616 - j < fuel → j ≤ 616 → ∀ (H : Heap) (locs : List Loc) (ls : Array Slot), xW g A0 s0 [(o 0, .inr (8, [.ref (o 1), .ref (o 2), .int (nI hs), .int bads, .int nos, .int fuls, .int cau, .int whe, .ref (o 3), .ref (o 4), .int (nI cnt), .int (nI p), .int fau, .int isw, .int ods, .ref (o 5), .ref (o 6)])), (o 1, .inl (g.2.1, 616, .inl (nwF v))), (o 2, .inl (g.2.1, 4312, .inl (kpF P v k j)))] H locs → lv_has ls 3 [(2, .int (nI j)), (0, .ref (o 0)), (1, .int (nI k))] → W p0 l e0 (xR 0 0) s0 m0 [.ref (o 0), .int (nI k)].toArray below meth c0 H locs 0 0 Q (F0 m0 2 ls []) := by
    intro fuel
    induction fuel with
    | zero => intro j hm; exact absurd hm (Nat.not_lt_zero _)
    | succ fuel ih =>
      intro j hm hj H locs ls hw hl
      refine lv_iload_n hx hb dX8_keepTo_2 rfl (lv_at hl 0 rfl) ?_
      refine lv_sipush (v := 616) hx hb dX8_keepTo_3 (by decide) ?_
      refine xn_ge (tgt := 33) hx hb j 616 rfl rfl (by omega) (by omega) dX8_keepTo_6 (by decide) (fun c_1 => ?_) (fun c_1 => ?_)
      · obtain rfl : j = 616 := by omega
        have hw := hw.arr (f' := (pF (va_up P k v))) (ws' := [(o 0, .inr (8, [.ref (o 1), .ref (o 2), .int (nI hs), .int bads, .int nos, .int fuls, .int cau, .int whe, .ref (o 3), .ref (o 4), .int (nI cnt), .int (nI p), .int fau, .int isw, .int ods, .ref (o 5), .ref (o 6)])), (o 1, .inl (g.2.1, 616, .inl (nwF v))), (o 2, .inl (g.2.1, 4312, .inl (pF (va_up P k v))))]) 2 rfl (fun j _ => kpF_e P v k j) rfl
        exact xr_v hQ E hr hw dX8_keepTo_33 ⟨rfl, rfl⟩
      · refine lv_aload_n hx hb dX8_keepTo_9 rfl (lv_at hl 1 rfl) ?_
        refine x_get E hw kf_X8_13 0 rfl rfl dX8_keepTo_10 ?_
        refine lv_sipush (v := 616) hx hb dX8_keepTo_13 (by decide) ?_
        refine lv_iload_n hx hb dX8_keepTo_16 rfl (lv_at hl 2 rfl) ?_
        refine xn_mul hx hb 616 k rfl rfl dX8_keepTo_17 ?_
        refine lv_iload_n hx hb dX8_keepTo_18 rfl (lv_at hl 0 rfl) ?_
        refine xn_add hx hb (616 * k) j rfl rfl dX8_keepTo_19 ?_
        refine lv_aload_n hx hb dX8_keepTo_20 rfl (lv_at hl 1 rfl) ?_
        refine x_get E hw kf_X8_7 0 rfl rfl dX8_keepTo_21 ?_
        refine lv_iload_n hx hb dX8_keepTo_24 rfl (lv_at hl 0 rfl) ?_
        refine x_ld (v := nwF v j) E hw 1 rfl j rfl (by omega) (by decide) rfl dX8_keepTo_25 ?_
        refine x_ist E hw 2 rfl (616 * k + j) rfl (by omega) (by decide) (ws' := [(o 0, .inr (8, [.ref (o 1), .ref (o 2), .int (nI hs), .int bads, .int nos, .int fuls, .int cau, .int whe, .ref (o 3), .ref (o 4), .int (nI cnt), .int (nI p), .int fau, .int isw, .int ods, .ref (o 5), .ref (o 6)])), (o 1, .inl (g.2.1, 616, .inl (nwF v))), (o 2, .inl (g.2.1, 4312, .inl (upd (kpF P v k j) (616 * k + j) (nwF v j))))]) rfl dX8_keepTo_26 (fun H locs hw => ?_)
        refine lv_iinc (v := nI (j + 1)) (lv' := [(2, .int (nI (j + 1))), (0, .ref (o 0)), (1, .int (nI k))]) hx hb dX8_keepTo_27 hl (k := 0) rfl (nI_1 _) (by decide) rfl (fun ls hl => ?_)
        refine lv_goto (tgt := 2) hx hb dX8_keepTo_30 (by decide) ?_
        have hw := hw.arr (f' := (kpF P v k (j + 1))) (ws' := [(o 0, .inr (8, [.ref (o 1), .ref (o 2), .int (nI hs), .int bads, .int nos, .int fuls, .int cau, .int whe, .ref (o 3), .ref (o 4), .int (nI cnt), .int (nI p), .int fau, .int isw, .int ods, .ref (o 5), .ref (o 6)])), (o 1, .inl (g.2.1, 616, .inl (nwF v))), (o 2, .inl (g.2.1, 4312, .inl (kpF P v k (j + 1))))]) 2 rfl (fun z _ => kpF_s P v k j z) rfl
        have hl : lv_has ls 3 [(2, .int (nI (j + 1))), (0, .ref (o 0)), (1, .int (nI k))] := lv_sub hl [0, 1, 2] rfl
        have hl : lv_has ls 3 [(2, .int (nI (j + 1))), (0, .ref (o 0)), (1, .int (nI k))] := hl
        have hw : xW g A0 s0 [(o 0, .inr (8, [.ref (o 1), .ref (o 2), .int (nI hs), .int bads, .int nos, .int fuls, .int cau, .int whe, .ref (o 3), .ref (o 4), .int (nI cnt), .int (nI p), .int fau, .int isw, .int ods, .ref (o 5), .ref (o 6)])), (o 1, .inl (g.2.1, 616, .inl (nwF v))), (o 2, .inl (g.2.1, 4312, .inl (kpF P v k (j + 1))))] _ _ := hw
        exact ih (j + 1) (by omega) (by omega) _ _ _ hw hl
  have hw := hw.arr (f' := (kpF P v k 0)) (ws' := [(o 0, .inr (8, [.ref (o 1), .ref (o 2), .int (nI hs), .int bads, .int nos, .int fuls, .int cau, .int whe, .ref (o 3), .ref (o 4), .int (nI cnt), .int (nI p), .int fau, .int isw, .int ods, .ref (o 5), .ref (o 6)])), (o 1, .inl (g.2.1, 616, .inl (nwF v))), (o 2, .inl (g.2.1, 4312, .inl (kpF P v k 0)))]) 2 rfl (fun j _ => (kpF_0 P v k j).symm) rfl
  have hl : lv_has ls 3 [(2, .int 0), (0, .ref (o 0)), (1, .int (nI k))] := lv_sub hl [0, 1, 2] rfl
  have hl : lv_has ls 3 [(2, .int 0), (0, .ref (o 0)), (1, .int (nI k))] := hl
  have hw : xW g A0 s0 [(o 0, .inr (8, [.ref (o 1), .ref (o 2), .int (nI hs), .int bads, .int nos, .int fuls, .int cau, .int whe, .ref (o 3), .ref (o 4), .int (nI cnt), .int (nI p), .int fau, .int isw, .int ods, .ref (o 5), .ref (o 6)])), (o 1, .inl (g.2.1, 616, .inl (nwF v))), (o 2, .inl (g.2.1, 4312, .inl (kpF P v k 0)))] _ _ := hw
  exact lp_2 ((616 - 0) + 1) 0 (Nat.lt_succ_self _) (by omega) _ _ _ hw hl

set_option maxRecDepth 100000 in
set_option maxHeartbeats 4000000 in
theorem c_X8_takeFrom (l : Launch) (g : xCfg) (o : Nat → Nat) (hs : Nat) (bads : Int32) (nos : Int32) (fuls : Int32) (cau : Int32) (whe : Int32) (cnt : Nat) (p : Nat) (fau : Int32) (isw : Int32) (ods : Int32) (v : SV) (P : Nat → SV) (k : Nat) (hk : k < 7) : Ct l g yX8_takeFrom cX8_takeFrom 3 none (xR 0 0) [.ref (o 0), .int (nI k)] [(o 0, .inr (8, [.ref (o 1), .ref (o 2), .int (nI hs), .int bads, .int nos, .int fuls, .int cau, .int whe, .ref (o 3), .ref (o 4), .int (nI cnt), .int (nI p), .int fau, .int isw, .int ods, .ref (o 5), .ref (o 6)])), (o 1, .inl (g.2.1, 616, .inl (nwF v))), (o 2, .inl (g.2.1, 4312, .inl (pF P)))] (is1 none [(o 0, .inr (8, [.ref (o 1), .ref (o 2), .int (nI hs), .int bads, .int nos, .int fuls, .int cau, .int whe, .ref (o 3), .ref (o 4), .int (nI cnt), .int (nI p), .int fau, .int isw, .int ods, .ref (o 5), .ref (o 6)])), (o 1, .inl (g.2.1, 616, .inl (nwF (P k)))), (o 2, .inl (g.2.1, 4312, .inl (pF P)))]) := by
  refine Ct.walk (by decide) (Nat.le_of_ble_eq_true rfl) ?_
  intro p0 e0 s0 m0 below meth c0 A0 ls Q hQ E hr hnm hw hl
  have hx := E.x
  have hb := E.b
  have hl : lv_has ls 3 [(0, .ref (o 0)), (1, .int (nI k))] := hl
  refine lv_iconst (v := 0) hx hb dX8_takeFrom_0 (by decide) ?_
  refine lv_istore_n (lv' := [(2, .int 0), (0, .ref (o 0)), (1, .int (nI k))]) hx hb dX8_takeFrom_1 rfl hl (by decide) rfl (fun ls hl => ?_)
  have lp_2 : ∀ (fuel : Nat) (j : Nat), 616 - j < fuel → j ≤ 616 → ∀ (H : Heap) (locs : List Loc) (ls : Array Slot), xW g A0 s0 [(o 0, .inr (8, [.ref (o 1), .ref (o 2), .int (nI hs), .int bads, .int nos, .int fuls, .int cau, .int whe, .ref (o 3), .ref (o 4), .int (nI cnt), .int (nI p), .int fau, .int isw, .int ods, .ref (o 5), .ref (o 6)])), (o 1, .inl (g.2.1, 616, .inl (tkF P v k j))), (o 2, .inl (g.2.1, 4312, .inl (pF P)))] H locs → lv_has ls 3 [(2, .int (nI j)), (0, .ref (o 0)), (1, .int (nI k))] → W p0 l e0 (xR 0 0) s0 m0 [.ref (o 0), .int (nI k)].toArray below meth c0 H locs 0 0 Q (F0 m0 2 ls []) := by
    intro fuel
    induction fuel with
    | zero => intro j hm; exact absurd hm (Nat.not_lt_zero _)
    | succ fuel ih =>
      intro j hm hj H locs ls hw hl
      refine lv_iload_n hx hb dX8_takeFrom_2 rfl (lv_at hl 0 rfl) ?_
      refine lv_sipush (v := 616) hx hb dX8_takeFrom_3 (by decide) ?_
      refine xn_ge (tgt := 33) hx hb j 616 rfl rfl (by omega) (by omega) dX8_takeFrom_6 (by decide) (fun c_1 => ?_) (fun c_1 => ?_)
      · obtain rfl : j = 616 := by omega
        have hw := hw.arr (f' := (nwF (P k))) (ws' := [(o 0, .inr (8, [.ref (o 1), .ref (o 2), .int (nI hs), .int bads, .int nos, .int fuls, .int cau, .int whe, .ref (o 3), .ref (o 4), .int (nI cnt), .int (nI p), .int fau, .int isw, .int ods, .ref (o 5), .ref (o 6)])), (o 1, .inl (g.2.1, 616, .inl (nwF (P k)))), (o 2, .inl (g.2.1, 4312, .inl (pF P)))]) 1 rfl (fun j hj => tkF_e P v k j hj) rfl
        exact xr_v hQ E hr hw dX8_takeFrom_33 ⟨rfl, rfl⟩
      · refine lv_aload_n hx hb dX8_takeFrom_9 rfl (lv_at hl 1 rfl) ?_
        refine x_get E hw kf_X8_7 0 rfl rfl dX8_takeFrom_10 ?_
        refine lv_iload_n hx hb dX8_takeFrom_13 rfl (lv_at hl 0 rfl) ?_
        refine lv_aload_n hx hb dX8_takeFrom_14 rfl (lv_at hl 1 rfl) ?_
        refine x_get E hw kf_X8_13 0 rfl rfl dX8_takeFrom_15 ?_
        refine lv_sipush (v := 616) hx hb dX8_takeFrom_18 (by decide) ?_
        refine lv_iload_n hx hb dX8_takeFrom_21 rfl (lv_at hl 2 rfl) ?_
        refine xn_mul hx hb 616 k rfl rfl dX8_takeFrom_22 ?_
        refine lv_iload_n hx hb dX8_takeFrom_23 rfl (lv_at hl 0 rfl) ?_
        refine xn_add hx hb (616 * k) j rfl rfl dX8_takeFrom_24 ?_
        refine x_ld (v := nwF (P k) j) E hw 2 rfl (616 * k + j) rfl (by omega) (by decide) (pF_at P (by omega)) dX8_takeFrom_25 ?_
        refine x_ist E hw 1 rfl j rfl (by omega) (by decide) (ws' := [(o 0, .inr (8, [.ref (o 1), .ref (o 2), .int (nI hs), .int bads, .int nos, .int fuls, .int cau, .int whe, .ref (o 3), .ref (o 4), .int (nI cnt), .int (nI p), .int fau, .int isw, .int ods, .ref (o 5), .ref (o 6)])), (o 1, .inl (g.2.1, 616, .inl (upd (tkF P v k j) j (nwF (P k) j)))), (o 2, .inl (g.2.1, 4312, .inl (pF P)))]) rfl dX8_takeFrom_26 (fun H locs hw => ?_)
        refine lv_iinc (v := nI (j + 1)) (lv' := [(2, .int (nI (j + 1))), (0, .ref (o 0)), (1, .int (nI k))]) hx hb dX8_takeFrom_27 hl (k := 0) rfl (nI_1 _) (by decide) rfl (fun ls hl => ?_)
        refine lv_goto (tgt := 2) hx hb dX8_takeFrom_30 (by decide) ?_
        have hw := hw.arr (f' := (tkF P v k (j + 1))) (ws' := [(o 0, .inr (8, [.ref (o 1), .ref (o 2), .int (nI hs), .int bads, .int nos, .int fuls, .int cau, .int whe, .ref (o 3), .ref (o 4), .int (nI cnt), .int (nI p), .int fau, .int isw, .int ods, .ref (o 5), .ref (o 6)])), (o 1, .inl (g.2.1, 616, .inl (tkF P v k (j + 1)))), (o 2, .inl (g.2.1, 4312, .inl (pF P)))]) 1 rfl (fun z _ => tkF_s P v k j z) rfl
        have hl : lv_has ls 3 [(2, .int (nI (j + 1))), (0, .ref (o 0)), (1, .int (nI k))] := lv_sub hl [0, 1, 2] rfl
        have hl : lv_has ls 3 [(2, .int (nI (j + 1))), (0, .ref (o 0)), (1, .int (nI k))] := hl
        have hw : xW g A0 s0 [(o 0, .inr (8, [.ref (o 1), .ref (o 2), .int (nI hs), .int bads, .int nos, .int fuls, .int cau, .int whe, .ref (o 3), .ref (o 4), .int (nI cnt), .int (nI p), .int fau, .int isw, .int ods, .ref (o 5), .ref (o 6)])), (o 1, .inl (g.2.1, 616, .inl (tkF P v k (j + 1)))), (o 2, .inl (g.2.1, 4312, .inl (pF P)))] _ _ := hw
        exact ih (j + 1) (by omega) (by omega) _ _ _ hw hl
  have hw := hw.arr (f' := (tkF P v k 0)) (ws' := [(o 0, .inr (8, [.ref (o 1), .ref (o 2), .int (nI hs), .int bads, .int nos, .int fuls, .int cau, .int whe, .ref (o 3), .ref (o 4), .int (nI cnt), .int (nI p), .int fau, .int isw, .int ods, .ref (o 5), .ref (o 6)])), (o 1, .inl (g.2.1, 616, .inl (tkF P v k 0))), (o 2, .inl (g.2.1, 4312, .inl (pF P)))]) 1 rfl (fun j _ => (tkF_0 P v k j).symm) rfl
  have hl : lv_has ls 3 [(2, .int 0), (0, .ref (o 0)), (1, .int (nI k))] := lv_sub hl [0, 1, 2] rfl
  have hl : lv_has ls 3 [(2, .int 0), (0, .ref (o 0)), (1, .int (nI k))] := hl
  have hw : xW g A0 s0 [(o 0, .inr (8, [.ref (o 1), .ref (o 2), .int (nI hs), .int bads, .int nos, .int fuls, .int cau, .int whe, .ref (o 3), .ref (o 4), .int (nI cnt), .int (nI p), .int fau, .int isw, .int ods, .ref (o 5), .ref (o 6)])), (o 1, .inl (g.2.1, 616, .inl (tkF P v k 0))), (o 2, .inl (g.2.1, 4312, .inl (pF P)))] _ _ := hw
  exact lp_2 ((616 - 0) + 1) 0 (Nat.lt_succ_self _) (by omega) _ _ _ hw hl

set_option maxRecDepth 100000 in
set_option maxHeartbeats 4000000 in
theorem c_X8_notes_6 (l : Launch) (g : xCfg) (o : Nat → Nat) (bads : Int32) (nos : Int32) (fuls : Int32) (cau : Int32) (whe : Int32) (cnt : Nat) (p : Nat) (fau : Int32) (isw : Int32) (ods : Int32) (v : SV) (P : Nat → SV)  : Ct l g yX8_notes cX8_notes 2 none (xR 1 22) [.ref (o 0)] [(o 0, .inr (8, [.ref (o 1), .ref (o 2), .int 6, .int bads, .int nos, .int fuls, .int cau, .int whe, .ref (o 3), .ref (o 4), .int (nI cnt), .int (nI p), .int fau, .int isw, .int ods, .ref (o 5), .ref (o 6)])), (o 1, .inl (g.2.1, 616, .inl (nwF v))), (o 2, .inl (g.2.1, 4312, .inl (pF P)))] (is1 none [(o 0, .inr (8, [.ref (o 1), .ref (o 2), .int 6, .int bads, .int nos, .int fuls, .int cau, .int whe, .ref (o 3), .ref (o 4), .int (nI cnt), .int (nI p), .int fau, .int isw, .int ods, .ref (o 5), .ref (o 6)])), (o 1, .inl (g.2.1, 616, .inl (nwF v))), (o 2, .inl (g.2.1, 4312, .inl (pF (va_up (shP P) 5 v))))]) := by
  refine Ct.walk (by decide) (Nat.le_of_ble_eq_true rfl) ?_
  intro p0 e0 s0 m0 below meth c0 A0 ls Q hQ E hr hnm hw hl
  have hx := E.x
  have hb := E.b
  have hl : lv_has ls 2 [(0, .ref (o 0))] := hl
  refine lv_aload_n hx hb dX8_notes_0 rfl (lv_at hl 0 rfl) ?_
  refine x_get E hw kf_X8_38 0 rfl rfl dX8_notes_1 ?_
  refine lv_bipush (v := 6) hx hb dX8_notes_4 (by decide) ?_
  refine lv_icmp_ne (tgt := 50) hx hb dX8_notes_6 (by decide) (fun h => absurd h (by decide)) (fun _ => ?_)
  refine lv_iconst (v := 0) hx hb dX8_notes_9 (by decide) ?_
  refine lv_istore_n (lv' := [(1, .int 0), (0, .ref (o 0))]) hx hb dX8_notes_10 rfl hl (by decide) rfl (fun ls hl => ?_)
  have lp_11 : ∀ (fuel : Nat) (j : Nat), 3080 - j < fuel → j ≤ 3080 → ∀ (H : Heap) (locs : List Loc) (ls : Array Slot), xW g A0 s0 [(o 0, .inr (8, [.ref (o 1), .ref (o 2), .int 6, .int bads, .int nos, .int fuls, .int cau, .int whe, .ref (o 3), .ref (o 4), .int (nI cnt), .int (nI p), .int fau, .int isw, .int ods, .ref (o 5), .ref (o 6)])), (o 1, .inl (g.2.1, 616, .inl (nwF v))), (o 2, .inl (g.2.1, 4312, .inl (shF P j)))] H locs → lv_has ls 2 [(1, .int (nI j)), (0, .ref (o 0))] → W p0 l e0 (xR 1 22) s0 m0 [.ref (o 0)].toArray below meth c0 H locs 0 0 Q (F0 m0 11 ls []) := by
    intro fuel
    induction fuel with
    | zero => intro j hm; exact absurd hm (Nat.not_lt_zero _)
    | succ fuel ih =>
      intro j hm hj H locs ls hw hl
      refine lv_iload_n hx hb dX8_notes_11 rfl (lv_at hl 0 rfl) ?_
      refine lv_sipush (v := 3080) hx hb dX8_notes_12 (by decide) ?_
      refine xn_ge (tgt := 40) hx hb j 3080 rfl rfl (by omega) (by omega) dX8_notes_15 (by decide) (fun c_2 => ?_) (fun c_2 => ?_)
      · obtain rfl : j = 3080 := by omega
        have hw := hw.arr (f' := (pF (shP P))) (ws' := [(o 0, .inr (8, [.ref (o 1), .ref (o 2), .int 6, .int bads, .int nos, .int fuls, .int cau, .int whe, .ref (o 3), .ref (o 4), .int (nI cnt), .int (nI p), .int fau, .int isw, .int ods, .ref (o 5), .ref (o 6)])), (o 1, .inl (g.2.1, 616, .inl (nwF v))), (o 2, .inl (g.2.1, 4312, .inl (pF (shP P))))]) 2 rfl (fun j _ => shF_e P j) rfl
        refine lv_aload_n hx hb dX8_notes_40 rfl (lv_at hl 1 rfl) ?_
        refine lv_dup hx hb dX8_notes_41 rfl ?_
        refine x_get E hw kf_X8_38 0 rfl rfl dX8_notes_42 ?_
        refine lv_iconst (v := 1) hx hb dX8_notes_45 (by decide) ?_
        refine lv_isub hx hb dX8_notes_46 ?_
        refine x_top (v' := .int 5) (by decide) ?_
        refine x_put E hw kf_X8_38 kp_X8_2 0 rfl (ty := .int) (by decide +kernel) rfl rfl (by simp) (ws' := [(o 0, .inr (8, [.ref (o 1), .ref (o 2), .int 5, .int bads, .int nos, .int fuls, .int cau, .int whe, .ref (o 3), .ref (o 4), .int (nI cnt), .int (nI p), .int fau, .int isw, .int ods, .ref (o 5), .ref (o 6)])), (o 1, .inl (g.2.1, 616, .inl (nwF v))), (o 2, .inl (g.2.1, 4312, .inl (pF (shP P))))]) rfl dX8_notes_47 (fun H locs hw => ?_)
        refine lv_aload_n hx hb dX8_notes_50 rfl (lv_at hl 1 rfl) ?_
        refine lv_aload_n hx hb dX8_notes_51 rfl (lv_at hl 1 rfl) ?_
        refine x_get E hw kf_X8_38 0 rfl rfl dX8_notes_52 ?_
        refine x_go (ws' := [(o 0, .inr (8, [.ref (o 1), .ref (o 2), .int 5, .int bads, .int nos, .int fuls, .int cau, .int whe, .ref (o 3), .ref (o 4), .int (nI cnt), .int (nI p), .int fau, .int isw, .int ods, .ref (o 5), .ref (o 6)])), (o 1, .inl (g.2.1, 616, .inl (nwF v))), (o 2, .inl (g.2.1, 4312, .inl (pF (va_up (shP P) 5 v))))]) (st1 := []) E hw [0, 1, 2] rfl (x_runV (rest := []) E hw (c_X8_keepTo l g o 5 bads nos fuls cau whe cnt p fau isw ods v (shP P) 5 (by omega)) km_X8_41 kv_X8_keepTo [0, 1, 2] rfl (by decide) 0 rfl hl.1 rfl rfl (Nat.le_of_ble_eq_true rfl) ⟨Nat.le_of_ble_eq_true rfl, Nat.le_of_ble_eq_true rfl⟩ ⟨Nat.zero_le _, Nat.zero_le _⟩ dX8_notes_55) rfl rfl rfl (fun H locs hw => ?_)
        refine lv_aload_n hx hb dX8_notes_58 rfl (lv_at hl 1 rfl) ?_
        refine lv_dup hx hb dX8_notes_59 rfl ?_
        refine x_get E hw kf_X8_38 0 rfl rfl dX8_notes_60 ?_
        refine lv_iconst (v := 1) hx hb dX8_notes_63 (by decide) ?_
        refine xn_add hx hb 5 1 rfl rfl dX8_notes_64 ?_
        refine x_topi (x' := 6) rfl ?_
        refine x_put E hw kf_X8_38 kp_X8_2 0 rfl (ty := .int) (by decide +kernel) rfl rfl (by simp) (ws' := [(o 0, .inr (8, [.ref (o 1), .ref (o 2), .int 6, .int bads, .int nos, .int fuls, .int cau, .int whe, .ref (o 3), .ref (o 4), .int (nI cnt), .int (nI p), .int fau, .int isw, .int ods, .ref (o 5), .ref (o 6)])), (o 1, .inl (g.2.1, 616, .inl (nwF v))), (o 2, .inl (g.2.1, 4312, .inl (pF (va_up (shP P) 5 v))))]) rfl dX8_notes_65 (fun H locs hw => ?_)
        exact xr_v hQ E hr hw dX8_notes_68 ⟨rfl, rfl⟩
      · refine lv_aload_n hx hb dX8_notes_18 rfl (lv_at hl 1 rfl) ?_
        refine x_get E hw kf_X8_13 0 rfl rfl dX8_notes_19 ?_
        refine lv_iload_n hx hb dX8_notes_22 rfl (lv_at hl 0 rfl) ?_
        refine lv_aload_n hx hb dX8_notes_23 rfl (lv_at hl 1 rfl) ?_
        refine x_get E hw kf_X8_13 0 rfl rfl dX8_notes_24 ?_
        refine lv_iload_n hx hb dX8_notes_27 rfl (lv_at hl 0 rfl) ?_
        refine lv_sipush (v := 616) hx hb dX8_notes_28 (by decide) ?_
        refine xn_add hx hb j 616 rfl rfl dX8_notes_31 ?_
        refine x_ld (v := pF P (j + 616)) E hw 2 rfl (j + 616) rfl (by omega) (by decide) (shF_r P j) dX8_notes_32 ?_
        refine x_ist E hw 2 rfl j rfl (by omega) (by decide) (ws' := [(o 0, .inr (8, [.ref (o 1), .ref (o 2), .int 6, .int bads, .int nos, .int fuls, .int cau, .int whe, .ref (o 3), .ref (o 4), .int (nI cnt), .int (nI p), .int fau, .int isw, .int ods, .ref (o 5), .ref (o 6)])), (o 1, .inl (g.2.1, 616, .inl (nwF v))), (o 2, .inl (g.2.1, 4312, .inl (upd (shF P j) j (pF P (j + 616)))))]) rfl dX8_notes_33 (fun H locs hw => ?_)
        refine lv_iinc (v := nI (j + 1)) (lv' := [(1, .int (nI (j + 1))), (0, .ref (o 0))]) hx hb dX8_notes_34 hl (k := 0) rfl (nI_1 _) (by decide) rfl (fun ls hl => ?_)
        refine lv_goto (tgt := 11) hx hb dX8_notes_37 (by decide) ?_
        have hw := hw.arr (f' := (shF P (j + 1))) (ws' := [(o 0, .inr (8, [.ref (o 1), .ref (o 2), .int 6, .int bads, .int nos, .int fuls, .int cau, .int whe, .ref (o 3), .ref (o 4), .int (nI cnt), .int (nI p), .int fau, .int isw, .int ods, .ref (o 5), .ref (o 6)])), (o 1, .inl (g.2.1, 616, .inl (nwF v))), (o 2, .inl (g.2.1, 4312, .inl (shF P (j + 1))))]) 2 rfl (fun z _ => shF_s P j z) rfl
        have hl : lv_has ls 2 [(1, .int (nI (j + 1))), (0, .ref (o 0))] := lv_sub hl [0, 1] rfl
        have hl : lv_has ls 2 [(1, .int (nI (j + 1))), (0, .ref (o 0))] := hl
        have hw : xW g A0 s0 [(o 0, .inr (8, [.ref (o 1), .ref (o 2), .int 6, .int bads, .int nos, .int fuls, .int cau, .int whe, .ref (o 3), .ref (o 4), .int (nI cnt), .int (nI p), .int fau, .int isw, .int ods, .ref (o 5), .ref (o 6)])), (o 1, .inl (g.2.1, 616, .inl (nwF v))), (o 2, .inl (g.2.1, 4312, .inl (shF P (j + 1))))] _ _ := hw
        exact ih (j + 1) (by omega) (by omega) _ _ _ hw hl
  have hw := hw.arr (f' := (shF P 0)) (ws' := [(o 0, .inr (8, [.ref (o 1), .ref (o 2), .int 6, .int bads, .int nos, .int fuls, .int cau, .int whe, .ref (o 3), .ref (o 4), .int (nI cnt), .int (nI p), .int fau, .int isw, .int ods, .ref (o 5), .ref (o 6)])), (o 1, .inl (g.2.1, 616, .inl (nwF v))), (o 2, .inl (g.2.1, 4312, .inl (shF P 0)))]) 2 rfl (fun j _ => (shF_0 P j).symm) rfl
  have hl : lv_has ls 2 [(1, .int 0), (0, .ref (o 0))] := lv_sub hl [0, 1] rfl
  have hl : lv_has ls 2 [(1, .int 0), (0, .ref (o 0))] := hl
  have hw : xW g A0 s0 [(o 0, .inr (8, [.ref (o 1), .ref (o 2), .int 6, .int bads, .int nos, .int fuls, .int cau, .int whe, .ref (o 3), .ref (o 4), .int (nI cnt), .int (nI p), .int fau, .int isw, .int ods, .ref (o 5), .ref (o 6)])), (o 1, .inl (g.2.1, 616, .inl (nwF v))), (o 2, .inl (g.2.1, 4312, .inl (shF P 0)))] _ _ := hw
  exact lp_11 ((3080 - 0) + 1) 0 (Nat.lt_succ_self _) (by omega) _ _ _ hw hl

set_option maxRecDepth 100000 in
set_option maxHeartbeats 4000000 in
theorem c_X8_notes_s (l : Launch) (g : xCfg) (o : Nat → Nat) (hs : Nat) (bads : Int32) (nos : Int32) (fuls : Int32) (cau : Int32) (whe : Int32) (cnt : Nat) (p : Nat) (fau : Int32) (isw : Int32) (ods : Int32) (v : SV) (P : Nat → SV) (hh : hs < 6) : Ct l g yX8_notes cX8_notes 2 none (xR 1 22) [.ref (o 0)] [(o 0, .inr (8, [.ref (o 1), .ref (o 2), .int (nI hs), .int bads, .int nos, .int fuls, .int cau, .int whe, .ref (o 3), .ref (o 4), .int (nI cnt), .int (nI p), .int fau, .int isw, .int ods, .ref (o 5), .ref (o 6)])), (o 1, .inl (g.2.1, 616, .inl (nwF v))), (o 2, .inl (g.2.1, 4312, .inl (pF P)))] (is1 none [(o 0, .inr (8, [.ref (o 1), .ref (o 2), .int (nI (hs + 1)), .int bads, .int nos, .int fuls, .int cau, .int whe, .ref (o 3), .ref (o 4), .int (nI cnt), .int (nI p), .int fau, .int isw, .int ods, .ref (o 5), .ref (o 6)])), (o 1, .inl (g.2.1, 616, .inl (nwF v))), (o 2, .inl (g.2.1, 4312, .inl (pF (va_up P hs v))))]) := by
  refine Ct.walk (by decide) (Nat.le_of_ble_eq_true rfl) ?_
  intro p0 e0 s0 m0 below meth c0 A0 ls Q hQ E hr hnm hw hl
  have hx := E.x
  have hb := E.b
  have hl : lv_has ls 2 [(0, .ref (o 0))] := hl
  refine lv_aload_n hx hb dX8_notes_0 rfl (lv_at hl 0 rfl) ?_
  refine x_get E hw kf_X8_38 0 rfl rfl dX8_notes_1 ?_
  refine lv_bipush (v := 6) hx hb dX8_notes_4 (by decide) ?_
  refine xn_ne (tgt := 50) hx hb hs 6 rfl rfl (by omega) (by omega) dX8_notes_6 (by decide) (fun c_1 => ?_) (fun c_1 => ?_)
  · refine lv_aload_n hx hb dX8_notes_50 rfl (lv_at hl 0 rfl) ?_
    refine lv_aload_n hx hb dX8_notes_51 rfl (lv_at hl 0 rfl) ?_
    refine x_get E hw kf_X8_38 0 rfl rfl dX8_notes_52 ?_
    refine x_go (ws' := [(o 0, .inr (8, [.ref (o 1), .ref (o 2), .int (nI hs), .int bads, .int nos, .int fuls, .int cau, .int whe, .ref (o 3), .ref (o 4), .int (nI cnt), .int (nI p), .int fau, .int isw, .int ods, .ref (o 5), .ref (o 6)])), (o 1, .inl (g.2.1, 616, .inl (nwF v))), (o 2, .inl (g.2.1, 4312, .inl (pF (va_up P hs v))))]) (st1 := []) E hw [0, 1, 2] rfl (x_runV (rest := []) E hw (c_X8_keepTo l g o hs bads nos fuls cau whe cnt p fau isw ods v P hs (by omega)) km_X8_41 kv_X8_keepTo [0, 1, 2] rfl (by decide) 0 rfl hl.1 rfl rfl (Nat.le_of_ble_eq_true rfl) ⟨Nat.le_of_ble_eq_true rfl, Nat.le_of_ble_eq_true rfl⟩ ⟨Nat.zero_le _, Nat.zero_le _⟩ dX8_notes_55) rfl rfl rfl (fun H locs hw => ?_)
    refine lv_aload_n hx hb dX8_notes_58 rfl (lv_at hl 0 rfl) ?_
    refine lv_dup hx hb dX8_notes_59 rfl ?_
    refine x_get E hw kf_X8_38 0 rfl rfl dX8_notes_60 ?_
    refine lv_iconst (v := 1) hx hb dX8_notes_63 (by decide) ?_
    refine xn_add hx hb hs 1 rfl rfl dX8_notes_64 ?_
    refine x_put E hw kf_X8_38 kp_X8_2 0 rfl (ty := .int) (by decide +kernel) rfl rfl (by simp) (ws' := [(o 0, .inr (8, [.ref (o 1), .ref (o 2), .int (nI (hs + 1)), .int bads, .int nos, .int fuls, .int cau, .int whe, .ref (o 3), .ref (o 4), .int (nI cnt), .int (nI p), .int fau, .int isw, .int ods, .ref (o 5), .ref (o 6)])), (o 1, .inl (g.2.1, 616, .inl (nwF v))), (o 2, .inl (g.2.1, 4312, .inl (pF (va_up P hs v))))]) rfl dX8_notes_65 (fun H locs hw => ?_)
    exact xr_v hQ E hr hw dX8_notes_68 ⟨rfl, rfl⟩
  · exact absurd c_1 (by omega)

theorem c_X8_notes (l : Launch) (g : xCfg) (o : Nat → Nat) (hs : Nat) (bads : Int32) (nos : Int32) (fuls : Int32) (cau : Int32) (whe : Int32) (cnt : Nat) (p : Nat) (fau : Int32) (isw : Int32) (ods : Int32) (v : SV) (P : Nat → SV) (hh : hs ≤ 6) : Ct l g yX8_notes cX8_notes 2 none (xR 1 22) [.ref (o 0)] [(o 0, .inr (8, [.ref (o 1), .ref (o 2), .int (nI hs), .int bads, .int nos, .int fuls, .int cau, .int whe, .ref (o 3), .ref (o 4), .int (nI cnt), .int (nI p), .int fau, .int isw, .int ods, .ref (o 5), .ref (o 6)])), (o 1, .inl (g.2.1, 616, .inl (nwF v))), (o 2, .inl (g.2.1, 4312, .inl (pF P)))] (is1 none [(o 0, .inr (8, [.ref (o 1), .ref (o 2), .int (nI (min 6 (hs + 1))), .int bads, .int nos, .int fuls, .int cau, .int whe, .ref (o 3), .ref (o 4), .int (nI cnt), .int (nI p), .int fau, .int isw, .int ods, .ref (o 5), .ref (o 6)])), (o 1, .inl (g.2.1, 616, .inl (nwF v))), (o 2, .inl (g.2.1, 4312, .inl (pF (ntP P hs v))))]) := by
  by_cases h : hs = 6
  · subst h
    exact c_X8_notes_6 l g o bads nos fuls cau whe cnt p fau isw ods v P
  · have h1 := c_X8_notes_s l g o hs bads nos fuls cau whe cnt p fau isw ods v P (by omega)
    have e : ntP P hs v = va_up P hs v := if_neg h
    rw [e, show min 6 (hs + 1) = hs + 1 by omega]
    exact h1

set_option maxRecDepth 100000 in
set_option maxHeartbeats 4000000 in
theorem c_X8_isCell (l : Launch) (g : xCfg) (o : Nat → Nat) (hs : Nat) (bads : Int32) (nos : Int32) (fuls : Int32) (cau : Int32) (whe : Int32) (cnt : Nat) (p : Nat) (fau : Int32) (isw : Int32) (ods : Int32) (v : SV) (x : Int32) (hL1 : 1 ≤ v.1) : Ct l g yX8_isCell cX8_isCell 2 (some .boolean) (xR 1 22) [.ref (o 0), .int x] [(o 0, .inr (8, [.ref (o 1), .ref (o 2), .int (nI hs), .int bads, .int nos, .int fuls, .int cau, .int whe, .ref (o 3), .ref (o 4), .int (nI cnt), .int (nI p), .int fau, .int isw, .int ods, .ref (o 5), .ref (o 6)])), (o 1, .inl (g.2.1, 616, .inl (nwF v)))] (is1 (some (.int (bI (0 ≤ x ∧ x ≤ nI (v.1 - 1))))) [(o 0, .inr (8, [.ref (o 1), .ref (o 2), .int (nI hs), .int bads, .int nos, .int fuls, .int cau, .int whe, .ref (o 3), .ref (o 4), .int (nI cnt), .int (nI p), .int fau, .int isw, .int ods, .ref (o 5), .ref (o 6)])), (o 1, .inl (g.2.1, 616, .inl (nwF v)))]) := by
  refine Ct.walk (by decide) (Nat.le_of_ble_eq_true rfl) ?_
  intro p0 e0 s0 m0 below meth c0 A0 ls Q hQ E hr hnm hw hl
  have hx := E.x
  have hb := E.b
  have hl : lv_has ls 2 [(0, .ref (o 0)), (1, .int x)] := hl
  refine lv_iload_n hx hb dX8_isCell_0 rfl (lv_at hl 1 rfl) ?_
  refine lv_iconst (v := 0) hx hb dX8_isCell_1 (by decide) ?_
  refine lv_aload_n hx hb dX8_isCell_2 rfl (lv_at hl 0 rfl) ?_
  refine x_get E hw kf_X8_7 0 rfl rfl dX8_isCell_3 ?_
  refine lv_iconst (v := 0) hx hb dX8_isCell_6 (by decide) ?_
  refine x_ld (v := nI v.1) E hw 1 rfl 0 rfl (by omega) (by decide) rfl dX8_isCell_7 ?_
  refine lv_iconst (v := 1) hx hb dX8_isCell_8 (by decide) ?_
  refine xn_sub hx hb v.1 1 rfl rfl (by omega) dX8_isCell_9 ?_
  refine x_goR (st1 := [.int (bI (0 ≤ x ∧ x ≤ (nI (v.1 - 1))))]) E hw [] rfl (x_runS (rest := []) E hw (c_X8_in l g x 0 (nI (v.1 - 1)) ) km_X8_45 ks_X8_in [] rfl (by decide) hl.1 rfl rfl (Nat.le_of_ble_eq_true rfl) ⟨Nat.le_of_ble_eq_true rfl, Nat.le_of_ble_eq_true rfl⟩ ⟨Nat.zero_le _, Nat.zero_le _⟩ dX8_isCell_10) rfl (fun H locs hw => ?_)
  exact xr_z hQ E hr hw dX8_isCell_13 (bI_01 _) ⟨rfl, rfl⟩

theorem c_X8_isCell_ok (l : Launch) (g : xCfg) (o : Nat → Nat) (hs : Nat) (bads : Int32) (nos : Int32) (fuls : Int32) (cau : Int32) (whe : Int32) (cnt : Nat) (p : Nat) (fau : Int32) (isw : Int32) (ods : Int32) (v : SV) (x : Nat) (hL : v.1 ≤ 200) (hx : x < v.1) : Ct l g yX8_isCell cX8_isCell 2 (some .boolean) (xR 1 22) [.ref (o 0), .int (nI x)] [(o 0, .inr (8, [.ref (o 1), .ref (o 2), .int (nI hs), .int bads, .int nos, .int fuls, .int cau, .int whe, .ref (o 3), .ref (o 4), .int (nI cnt), .int (nI p), .int fau, .int isw, .int ods, .ref (o 5), .ref (o 6)])), (o 1, .inl (g.2.1, 616, .inl (nwF v)))] (is1 (some (.int 1)) [(o 0, .inr (8, [.ref (o 1), .ref (o 2), .int (nI hs), .int bads, .int nos, .int fuls, .int cau, .int whe, .ref (o 3), .ref (o 4), .int (nI cnt), .int (nI p), .int fau, .int isw, .int ods, .ref (o 5), .ref (o 6)])), (o 1, .inl (g.2.1, 616, .inl (nwF v)))]) := by
  have k := c_X8_isCell l g o hs bads nos fuls cau whe cnt p fau isw ods v (nI x) (by omega)
  rw [bI_t (inL_n hx hL)] at k
  exact k

set_option maxRecDepth 100000 in
set_option maxHeartbeats 4000000 in
theorem c_X8_ceiling (l : Launch) (g : xCfg) (o : Nat → Nat) (hs : Nat) (bads : Int32) (nos : Int32) (fuls : Int32) (cau : Int32) (whe : Int32) (cnt : Nat) (p : Nat) (fau : Int32) (isw : Int32) (ods : Int32) (v : SV) (x : Nat) (hx : x < 200) : Ct l g yX8_ceiling cX8_ceiling 2 (some .int) (xR 0 0) [.ref (o 0), .int (nI x)] [(o 0, .inr (8, [.ref (o 1), .ref (o 2), .int (nI hs), .int bads, .int nos, .int fuls, .int cau, .int whe, .ref (o 3), .ref (o 4), .int (nI cnt), .int (nI p), .int fau, .int isw, .int ods, .ref (o 5), .ref (o 6)])), (o 1, .inl (g.2.1, 616, .inl (nwF v)))] (is1 (some (.int (v.2.1 x))) [(o 0, .inr (8, [.ref (o 1), .ref (o 2), .int (nI hs), .int bads, .int nos, .int fuls, .int cau, .int whe, .ref (o 3), .ref (o 4), .int (nI cnt), .int (nI p), .int fau, .int isw, .int ods, .ref (o 5), .ref (o 6)])), (o 1, .inl (g.2.1, 616, .inl (nwF v)))]) := by
  refine Ct.walk (by decide) (Nat.le_of_ble_eq_true rfl) ?_
  intro p0 e0 s0 m0 below meth c0 A0 ls Q hQ E hr hnm hw hl
  have hx := E.x
  have hb := E.b
  have hl : lv_has ls 2 [(0, .ref (o 0)), (1, .int (nI x))] := hl
  refine lv_aload_n hx hb dX8_ceiling_0 rfl (lv_at hl 0 rfl) ?_
  refine x_get E hw kf_X8_7 0 rfl rfl dX8_ceiling_1 ?_
  refine lv_bipush (v := 16) hx hb dX8_ceiling_4 (by decide) ?_
  refine lv_iconst (v := 3) hx hb dX8_ceiling_6 (by decide) ?_
  refine lv_iload_n hx hb dX8_ceiling_7 rfl (lv_at hl 1 rfl) ?_
  refine xn_mul hx hb 3 x rfl rfl dX8_ceiling_8 ?_
  refine xn_add hx hb 16 (3 * x) rfl rfl dX8_ceiling_9 ?_
  refine x_ld (v := v.2.1 x) E hw 1 rfl (16 + 3 * x) rfl (by omega) (by decide) (nw_ce _ _) dX8_ceiling_10 ?_
  exact xr_i hQ E hr hw dX8_ceiling_11 ⟨rfl, rfl⟩

set_option maxRecDepth 100000 in
set_option maxHeartbeats 4000000 in
theorem c_X8_grade (l : Launch) (g : xCfg) (o : Nat → Nat) (hs : Nat) (bads : Int32) (nos : Int32) (fuls : Int32) (cau : Int32) (whe : Int32) (cnt : Nat) (p : Nat) (fau : Int32) (isw : Int32) (ods : Int32) (v : SV) (x : Nat) (hx : x < 200) : Ct l g yX8_grade cX8_grade 2 (some .int) (xR 0 0) [.ref (o 0), .int (nI x)] [(o 0, .inr (8, [.ref (o 1), .ref (o 2), .int (nI hs), .int bads, .int nos, .int fuls, .int cau, .int whe, .ref (o 3), .ref (o 4), .int (nI cnt), .int (nI p), .int fau, .int isw, .int ods, .ref (o 5), .ref (o 6)])), (o 1, .inl (g.2.1, 616, .inl (nwF v)))] (is1 (some (.int (v.2.2.1 x))) [(o 0, .inr (8, [.ref (o 1), .ref (o 2), .int (nI hs), .int bads, .int nos, .int fuls, .int cau, .int whe, .ref (o 3), .ref (o 4), .int (nI cnt), .int (nI p), .int fau, .int isw, .int ods, .ref (o 5), .ref (o 6)])), (o 1, .inl (g.2.1, 616, .inl (nwF v)))]) := by
  refine Ct.walk (by decide) (Nat.le_of_ble_eq_true rfl) ?_
  intro p0 e0 s0 m0 below meth c0 A0 ls Q hQ E hr hnm hw hl
  have hx := E.x
  have hb := E.b
  have hl : lv_has ls 2 [(0, .ref (o 0)), (1, .int (nI x))] := hl
  refine lv_aload_n hx hb dX8_grade_0 rfl (lv_at hl 0 rfl) ?_
  refine x_get E hw kf_X8_7 0 rfl rfl dX8_grade_1 ?_
  refine lv_bipush (v := 16) hx hb dX8_grade_4 (by decide) ?_
  refine lv_iconst (v := 3) hx hb dX8_grade_6 (by decide) ?_
  refine lv_iload_n hx hb dX8_grade_7 rfl (lv_at hl 1 rfl) ?_
  refine xn_mul hx hb 3 x rfl rfl dX8_grade_8 ?_
  refine xn_add hx hb 16 (3 * x) rfl rfl dX8_grade_9 ?_
  refine lv_iconst (v := 1) hx hb dX8_grade_10 (by decide) ?_
  refine xn_add hx hb (16 + 3 * x) 1 rfl rfl dX8_grade_11 ?_
  refine x_ld (v := v.2.2.1 x) E hw 1 rfl (16 + 3 * x + 1) rfl (by omega) (by decide) (nw_gr _ _) dX8_grade_12 ?_
  exact xr_i hQ E hr hw dX8_grade_13 ⟨rfl, rfl⟩

set_option maxRecDepth 100000 in
set_option maxHeartbeats 4000000 in
theorem c_X8_decel (l : Launch) (g : xCfg) (o : Nat → Nat) (hs : Nat) (bads : Int32) (nos : Int32) (fuls : Int32) (cau : Int32) (whe : Int32) (cnt : Nat) (p : Nat) (fau : Int32) (isw : Int32) (ods : Int32) (v : SV) (x : Nat) (hx : x < 200) : Ct l g yX8_decel cX8_decel 3 (some .int) (xR 1 21) [.ref (o 0), .int (nI x)] [(o 0, .inr (8, [.ref (o 1), .ref (o 2), .int (nI hs), .int bads, .int nos, .int fuls, .int cau, .int whe, .ref (o 3), .ref (o 4), .int (nI cnt), .int (nI p), .int fau, .int isw, .int ods, .ref (o 5), .ref (o 6)])), (o 1, .inl (g.2.1, 616, .inl (nwF v)))] (is1 (some (.int (dcl (v.2.2.2.2.1 0) (v.2.2.1 x)))) [(o 0, .inr (8, [.ref (o 1), .ref (o 2), .int (nI hs), .int bads, .int nos, .int fuls, .int cau, .int whe, .ref (o 3), .ref (o 4), .int (nI cnt), .int (nI p), .int fau, .int isw, .int ods, .ref (o 5), .ref (o 6)])), (o 1, .inl (g.2.1, 616, .inl (nwF v)))]) := by
  refine Ct.walk (by decide) (Nat.le_of_ble_eq_true rfl) ?_
  intro p0 e0 s0 m0 below meth c0 A0 ls Q hQ E hr hnm hw hl
  have hx := E.x
  have hb := E.b
  have hl : lv_has ls 3 [(0, .ref (o 0)), (1, .int (nI x))] := hl
  refine lv_aload_n hx hb dX8_decel_0 rfl (lv_at hl 0 rfl) ?_
  refine x_get E hw kf_X8_7 0 rfl rfl dX8_decel_1 ?_
  refine lv_iconst (v := 1) hx hb dX8_decel_4 (by decide) ?_
  refine x_ld (v := v.2.2.2.2.1 0) E hw 1 rfl 1 rfl (by omega) (by decide) rfl dX8_decel_5 ?_
  refine lv_aload_n hx hb dX8_decel_6 rfl (lv_at hl 0 rfl) ?_
  refine lv_iload_n hx hb dX8_decel_7 rfl (lv_at hl 1 rfl) ?_
  refine x_goR (st1 := [.int (v.2.2.1 x), .int (v.2.2.2.2.1 0)]) E hw [0, 1] rfl (x_runV (rest := [.int (v.2.2.2.2.1 0)]) E hw (c_X8_grade l g o hs bads nos fuls cau whe cnt p fau isw ods v x (by omega)) km_X8_49 kv_X8_grade [0, 1] rfl (by decide) 0 rfl hl.1 rfl rfl (Nat.le_of_ble_eq_true rfl) ⟨Nat.le_of_ble_eq_true rfl, Nat.le_of_ble_eq_true rfl⟩ ⟨Nat.zero_le _, Nat.zero_le _⟩ dX8_decel_8) rfl (fun H locs hw => ?_)
  refine lv_iadd hx hb dX8_decel_11 ?_
  refine lv_istore_n (lv' := [(2, .int (v.2.2.2.2.1 0 + v.2.2.1 x)), (0, .ref (o 0)), (1, .int (nI x))]) hx hb dX8_decel_12 rfl hl (by decide) rfl (fun ls hl => ?_)
  refine lv_iload_n hx hb dX8_decel_13 rfl (lv_at hl 0 rfl) ?_
  refine lv_iconst (v := 1) hx hb dX8_decel_14 (by decide) ?_
  refine lv_icmp_ge (tgt := 22) hx hb dX8_decel_15 (by decide) (fun c1 => ?_) (fun c1 => ?_)
  · refine lv_iload_n hx hb dX8_decel_22 rfl (lv_at hl 0 rfl) ?_
    exact xr_i hQ E hr hw dX8_decel_23 ⟨congrArg (fun z => some (Value.int z)) (dcl_q _ _ c1), rfl⟩
  · refine lv_iconst (v := 1) hx hb dX8_decel_18 (by decide) ?_
    refine lv_goto (tgt := 23) hx hb dX8_decel_19 (by decide) ?_
    exact xr_i hQ E hr hw dX8_decel_23 ⟨congrArg (fun z => some (Value.int z)) (dcl_r _ _ c1), rfl⟩

set_option maxRecDepth 100000 in
set_option maxHeartbeats 4000000 in
theorem c_X8_inForce (l : Launch) (g : xCfg) (o : Nat → Nat) (hs : Nat) (bads : Int32) (nos : Int32) (fuls : Int32) (cau : Int32) (whe : Int32) (cnt : Nat) (p : Nat) (fau : Int32) (isw : Int32) (ods : Int32) (v : SV) (x : Nat) (len : Nat) (hx : x < 200) (hlen : v.2.2.2.2.1 2 = nI len) (hl1 : 1 ≤ len) (hl2 : len ≤ 30) : Ct l g yX8_inForce cX8_inForce 4 (some .int) (xR 1 21) [.ref (o 0), .int (nI x)] [(o 0, .inr (8, [.ref (o 1), .ref (o 2), .int (nI hs), .int bads, .int nos, .int fuls, .int cau, .int whe, .ref (o 3), .ref (o 4), .int (nI cnt), .int (nI p), .int fau, .int isw, .int ods, .ref (o 5), .ref (o 6)])), (o 1, .inl (g.2.1, 616, .inl (nwF v)))] (is1 (some (.int (infF v.2.1 len x))) [(o 0, .inr (8, [.ref (o 1), .ref (o 2), .int (nI hs), .int bads, .int nos, .int fuls, .int cau, .int whe, .ref (o 3), .ref (o 4), .int (nI cnt), .int (nI p), .int fau, .int isw, .int ods, .ref (o 5), .ref (o 6)])), (o 1, .inl (g.2.1, 616, .inl (nwF v)))]) := by
  refine Ct.walk (by decide) (Nat.le_of_ble_eq_true rfl) ?_
  intro p0 e0 s0 m0 below meth c0 A0 ls Q hQ E hr hnm hw hl
  have hx := E.x
  have hb := E.b
  have hl : lv_has ls 4 [(0, .ref (o 0)), (1, .int (nI x))] := hl
  refine lv_aload_n hx hb dX8_inForce_0 rfl (lv_at hl 0 rfl) ?_
  refine lv_iload_n hx hb dX8_inForce_1 rfl (lv_at hl 1 rfl) ?_
  refine x_goR (st1 := [.int (v.2.1 x)]) E hw [0, 1] rfl (x_runV (rest := []) E hw (c_X8_ceiling l g o hs bads nos fuls cau whe cnt p fau isw ods v x (by omega)) km_X8_53 kv_X8_ceiling [0, 1] rfl (by decide) 0 rfl hl.1 rfl rfl (Nat.le_of_ble_eq_true rfl) ⟨Nat.le_of_ble_eq_true rfl, Nat.le_of_ble_eq_true rfl⟩ ⟨Nat.zero_le _, Nat.zero_le _⟩ dX8_inForce_2) rfl (fun H locs hw => ?_)
  refine lv_istore_n (lv' := [(2, .int (v.2.1 x)), (0, .ref (o 0)), (1, .int (nI x))]) hx hb dX8_inForce_5 rfl hl (by decide) rfl (fun ls hl => ?_)
  refine lv_iload_n hx hb dX8_inForce_6 rfl (lv_at hl 2 rfl) ?_
  refine lv_aload_n hx hb dX8_inForce_7 rfl (lv_at hl 1 rfl) ?_
  refine x_get E hw kf_X8_7 0 rfl rfl dX8_inForce_8 ?_
  refine lv_iconst (v := 3) hx hb dX8_inForce_11 (by decide) ?_
  refine x_ld (v := nI len) E hw 1 rfl 3 rfl (by omega) (by decide) ((rfl : _ = v.2.2.2.2.1 2).trans hlen) dX8_inForce_12 ?_
  refine lv_isub hx hb dX8_inForce_13 ?_
  refine lv_iconst (v := 1) hx hb dX8_inForce_14 (by decide) ?_
  refine lv_iadd hx hb dX8_inForce_15 ?_
  refine x_top (v' := .int (nI (x + 1 + 0) - nI len)) (congrArg Value.int (if_en x len)) ?_
  refine lv_istore_n (lv' := [(3, .int (nI (x + 1 + 0) - nI len)), (2, .int (v.2.1 x)), (0, .ref (o 0)), (1, .int (nI x))]) hx hb dX8_inForce_16 rfl hl (by decide) rfl (fun ls hl => ?_)
  have lp_17 : ∀ (fuel : Nat) (k : Nat), len - k < fuel → k ≤ len - 1 → ∀ (H : Heap) (locs : List Loc) (ls : Array Slot), xW g A0 s0 [(o 0, .inr (8, [.ref (o 1), .ref (o 2), .int (nI hs), .int bads, .int nos, .int fuls, .int cau, .int whe, .ref (o 3), .ref (o 4), .int (nI cnt), .int (nI p), .int fau, .int isw, .int ods, .ref (o 5), .ref (o 6)])), (o 1, .inl (g.2.1, 616, .inl (nwF v)))] H locs → lv_has ls 4 [(3, .int (nI (x + 1 + k) - nI len)), (2, .int (infL v.2.1 x len k)), (0, .ref (o 0)), (1, .int (nI x))] → W p0 l e0 (xR 1 21) s0 m0 [.ref (o 0), .int (nI x)].toArray below meth c0 H locs 0 0 Q (F0 m0 17 ls []) := by
    intro fuel
    induction fuel with
    | zero => intro k hm; exact absurd hm (Nat.not_lt_zero _)
    | succ fuel ih =>
      intro k hm hk H locs ls hw hl
      refine lv_iload_n hx hb dX8_inForce_17 rfl (lv_at hl 0 rfl) ?_
      refine lv_iload_n hx hb dX8_inForce_18 rfl (lv_at hl 3 rfl) ?_
      refine lv_icmp_ge (tgt := 51) hx hb dX8_inForce_19 (by decide) (fun c1 => ?_) (fun c1 => ?_)
      · have hke : k = len - 1 := by have := (if_ge (by omega) (by omega) (by omega)).mp c1; omega
        subst hke
        refine lv_iload_n hx hb dX8_inForce_51 rfl (lv_at hl 1 rfl) ?_
        exact xr_i hQ E hr hw dX8_inForce_52 ⟨rfl, rfl⟩
      · have hkn : k + 1 < len := by rcases Nat.lt_or_ge (k + 1) len with z | z; exact z; exact absurd ((if_ge (by omega) (by omega) (by omega)).mpr z) c1
        refine lv_iload_n hx hb dX8_inForce_22 rfl (lv_at hl 0 rfl) ?_
        refine lv_if_lt (tgt := 43) hx hb dX8_inForce_23 (by decide) (fun c2 => ?_) (fun c2 => ?_)
        · have hy := (if_lo (by omega) (by omega) (by omega)).mp c2
          refine lv_iload_n hx hb dX8_inForce_43 rfl (lv_at hl 1 rfl) ?_
          refine lv_istore_n (lv' := [(2, .int (infL v.2.1 x len k)), (3, .int (nI (x + 1 + k) - nI len)), (0, .ref (o 0)), (1, .int (nI x))]) hx hb dX8_inForce_44 rfl hl (by decide) rfl (fun ls hl => ?_)
          refine lv_iinc (v := (nI (x + 1 + k) - nI len) + 1) (lv' := [(3, .int ((nI (x + 1 + k) - nI len) + 1)), (2, .int (infL v.2.1 x len k)), (0, .ref (o 0)), (1, .int (nI x))]) hx hb dX8_inForce_45 hl (k := 1) rfl rfl (by decide) rfl (fun ls hl => ?_)
          refine lv_goto (tgt := 17) hx hb dX8_inForce_48 (by decide) ?_
          have hl : lv_has ls 4 [(3, .int ((nI (x + 1 + k) - nI len) + 1)), (2, .int (infL v.2.1 x len k)), (0, .ref (o 0)), (1, .int (nI x))] := lv_sub hl [0, 1, 2, 3] rfl
          have hl : lv_has ls 4 [(3, .int (nI (x + 1 + (k + 1)) - nI len)), (2, .int (infL v.2.1 x len (k + 1))), (0, .ref (o 0)), (1, .int (nI x))] := lv_re hl (by rw [show ((nI (x + 1 + k) - nI len) + 1 : Int32) = nI (x + 1 + (k + 1)) - nI len from (if_st x k len), show (infL v.2.1 x len k : Int32) = infL v.2.1 x len (k + 1) from (by rw [infL, if_neg (by omega)])])
          have hw : xW g A0 s0 [(o 0, .inr (8, [.ref (o 1), .ref (o 2), .int (nI hs), .int bads, .int nos, .int fuls, .int cau, .int whe, .ref (o 3), .ref (o 4), .int (nI cnt), .int (nI p), .int fau, .int isw, .int ods, .ref (o 5), .ref (o 6)])), (o 1, .inl (g.2.1, 616, .inl (nwF v)))] _ _ := hw
          exact ih (k + 1) (by omega) (by omega) _ _ _ hw hl
        · have hy : len ≤ x + 1 + k := Nat.le_of_not_lt fun z => c2 ((if_lo (by omega) (by omega) (by omega)).mpr z)
          have hl : lv_has ls 4 [(3, .int (nI (x + 1 + k - len))), (2, .int (infL v.2.1 x len k)), (0, .ref (o 0)), (1, .int (nI x))] := lv_re hl (by rw [show (nI (x + 1 + k) - nI len : Int32) = nI (x + 1 + k - len) from pk_sub hy])
          refine lv_aload_n hx hb dX8_inForce_26 rfl (lv_at hl 2 rfl) ?_
          refine lv_iload_n hx hb dX8_inForce_27 rfl (lv_at hl 0 rfl) ?_
          refine x_goR (st1 := [.int (v.2.1 (x + 1 + k - len))]) E hw [0, 1] rfl (x_runV (rest := []) E hw (c_X8_ceiling l g o hs bads nos fuls cau whe cnt p fau isw ods v (x + 1 + k - len) (by omega)) km_X8_53 kv_X8_ceiling [0, 1] rfl (by decide) 0 rfl hl.1 rfl rfl (Nat.le_of_ble_eq_true rfl) ⟨Nat.le_of_ble_eq_true rfl, Nat.le_of_ble_eq_true rfl⟩ ⟨Nat.zero_le _, Nat.zero_le _⟩ dX8_inForce_28) rfl (fun H locs hw => ?_)
          refine lv_iload_n hx hb dX8_inForce_31 rfl (lv_at hl 1 rfl) ?_
          refine lv_icmp_ge (tgt := 43) hx hb dX8_inForce_32 (by decide) (fun c3 => ?_) (fun c3 => ?_)
          · refine lv_iload_n hx hb dX8_inForce_43 rfl (lv_at hl 1 rfl) ?_
            refine lv_istore_n (lv' := [(2, .int (infL v.2.1 x len k)), (3, .int (nI (x + 1 + k - len))), (0, .ref (o 0)), (1, .int (nI x))]) hx hb dX8_inForce_44 rfl hl (by decide) rfl (fun ls hl => ?_)
            have hl : lv_has ls 4 [(2, .int (infL v.2.1 x len k)), (3, .int (nI (x + 1 + k) - nI len)), (0, .ref (o 0)), (1, .int (nI x))] := lv_re hl (by rw [show (nI (x + 1 + k - len) : Int32) = nI (x + 1 + k) - nI len from (pk_sub hy).symm])
            refine lv_iinc (v := (nI (x + 1 + k) - nI len) + 1) (lv' := [(3, .int ((nI (x + 1 + k) - nI len) + 1)), (2, .int (infL v.2.1 x len k)), (0, .ref (o 0)), (1, .int (nI x))]) hx hb dX8_inForce_45 hl (k := 1) rfl rfl (by decide) rfl (fun ls hl => ?_)
            refine lv_goto (tgt := 17) hx hb dX8_inForce_48 (by decide) ?_
            have hl : lv_has ls 4 [(3, .int ((nI (x + 1 + k) - nI len) + 1)), (2, .int (infL v.2.1 x len k)), (0, .ref (o 0)), (1, .int (nI x))] := lv_sub hl [0, 1, 2, 3] rfl
            have hl : lv_has ls 4 [(3, .int (nI (x + 1 + (k + 1)) - nI len)), (2, .int (infL v.2.1 x len (k + 1))), (0, .ref (o 0)), (1, .int (nI x))] := lv_re hl (by rw [show ((nI (x + 1 + k) - nI len) + 1 : Int32) = nI (x + 1 + (k + 1)) - nI len from (if_st x k len), show (infL v.2.1 x len k : Int32) = infL v.2.1 x len (k + 1) from (by rw [infL, if_neg (fun z => absurd z.2 (Int32.not_lt.mpr c3))])])
            have hw : xW g A0 s0 [(o 0, .inr (8, [.ref (o 1), .ref (o 2), .int (nI hs), .int bads, .int nos, .int fuls, .int cau, .int whe, .ref (o 3), .ref (o 4), .int (nI cnt), .int (nI p), .int fau, .int isw, .int ods, .ref (o 5), .ref (o 6)])), (o 1, .inl (g.2.1, 616, .inl (nwF v)))] _ _ := hw
            exact ih (k + 1) (by omega) (by omega) _ _ _ hw hl
          · refine lv_aload_n hx hb dX8_inForce_35 rfl (lv_at hl 2 rfl) ?_
            refine lv_iload_n hx hb dX8_inForce_36 rfl (lv_at hl 0 rfl) ?_
            refine x_goR (st1 := [.int (v.2.1 (x + 1 + k - len))]) E hw [0, 1] rfl (x_runV (rest := []) E hw (c_X8_ceiling l g o hs bads nos fuls cau whe cnt p fau isw ods v (x + 1 + k - len) (by omega)) km_X8_53 kv_X8_ceiling [0, 1] rfl (by decide) 0 rfl hl.1 rfl rfl (Nat.le_of_ble_eq_true rfl) ⟨Nat.le_of_ble_eq_true rfl, Nat.le_of_ble_eq_true rfl⟩ ⟨Nat.zero_le _, Nat.zero_le _⟩ dX8_inForce_37) rfl (fun H locs hw => ?_)
            refine lv_goto (tgt := 44) hx hb dX8_inForce_40 (by decide) ?_
            refine lv_istore_n (lv' := [(2, .int (v.2.1 (x + 1 + k - len))), (3, .int (nI (x + 1 + k - len))), (0, .ref (o 0)), (1, .int (nI x))]) hx hb dX8_inForce_44 rfl hl (by decide) rfl (fun ls hl => ?_)
            have hl : lv_has ls 4 [(2, .int (v.2.1 (x + 1 + k - len))), (3, .int (nI (x + 1 + k) - nI len)), (0, .ref (o 0)), (1, .int (nI x))] := lv_re hl (by rw [show (nI (x + 1 + k - len) : Int32) = nI (x + 1 + k) - nI len from (pk_sub hy).symm])
            refine lv_iinc (v := (nI (x + 1 + k) - nI len) + 1) (lv' := [(3, .int ((nI (x + 1 + k) - nI len) + 1)), (2, .int (v.2.1 (x + 1 + k - len))), (0, .ref (o 0)), (1, .int (nI x))]) hx hb dX8_inForce_45 hl (k := 1) rfl rfl (by decide) rfl (fun ls hl => ?_)
            refine lv_goto (tgt := 17) hx hb dX8_inForce_48 (by decide) ?_
            have hl : lv_has ls 4 [(3, .int ((nI (x + 1 + k) - nI len) + 1)), (2, .int (v.2.1 (x + 1 + k - len))), (0, .ref (o 0)), (1, .int (nI x))] := lv_sub hl [0, 1, 2, 3] rfl
            have hl : lv_has ls 4 [(3, .int (nI (x + 1 + (k + 1)) - nI len)), (2, .int (infL v.2.1 x len (k + 1))), (0, .ref (o 0)), (1, .int (nI x))] := lv_re hl (by rw [show ((nI (x + 1 + k) - nI len) + 1 : Int32) = nI (x + 1 + (k + 1)) - nI len from (if_st x k len), show (v.2.1 (x + 1 + k - len) : Int32) = infL v.2.1 x len (k + 1) from (by rw [infL, if_pos ⟨hy, Int32.not_le.mp c3⟩])])
            have hw : xW g A0 s0 [(o 0, .inr (8, [.ref (o 1), .ref (o 2), .int (nI hs), .int bads, .int nos, .int fuls, .int cau, .int whe, .ref (o 3), .ref (o 4), .int (nI cnt), .int (nI p), .int fau, .int isw, .int ods, .ref (o 5), .ref (o 6)])), (o 1, .inl (g.2.1, 616, .inl (nwF v)))] _ _ := hw
            exact ih (k + 1) (by omega) (by omega) _ _ _ hw hl
  have hl : lv_has ls 4 [(3, .int (nI (x + 1 + 0) - nI len)), (2, .int (v.2.1 x)), (0, .ref (o 0)), (1, .int (nI x))] := lv_sub hl [0, 1, 2, 3] rfl
  have hl : lv_has ls 4 [(3, .int (nI (x + 1 + 0) - nI len)), (2, .int (infL v.2.1 x len 0)), (0, .ref (o 0)), (1, .int (nI x))] := lv_re hl (by rw [show (v.2.1 x : Int32) = infL v.2.1 x len 0 from rfl])
  have hw : xW g A0 s0 [(o 0, .inr (8, [.ref (o 1), .ref (o 2), .int (nI hs), .int bads, .int nos, .int fuls, .int cau, .int whe, .ref (o 3), .ref (o 4), .int (nI cnt), .int (nI p), .int fau, .int isw, .int ods, .ref (o 5), .ref (o 6)])), (o 1, .inl (g.2.1, 616, .inl (nwF v)))] _ _ := hw
  exact lp_17 ((len - 0) + 1) 0 (Nat.lt_succ_self _) (by omega) _ _ _ hw hl

set_option maxRecDepth 100000 in
set_option maxHeartbeats 4000000 in
theorem c_X8_root (l : Launch) (g : xCfg) (q : Int32) (y : Nat) (hq : q = nI y) (hy : y < 2 ^ 30) : Ct l g yX8_root cX8_root 2 (some .int) (xR 0 0) [.int q] [] (is1 (some (.int (nI (rtL 15 0 q)))) []) := by
  refine Ct.walk (by decide) (Nat.le_of_ble_eq_true rfl) ?_
  intro p0 e0 s0 m0 below meth c0 A0 ls Q hQ E hr hnm hw hl
  have hx := E.x
  have hb := E.b
  have hl : lv_has ls 2 [(0, .int q)] := hl
  refine lv_iconst (v := 0) hx hb dX8_root_0 (by decide) ?_
  refine lv_istore_n (lv' := [(1, .int 0), (0, .int q)]) hx hb dX8_root_1 rfl hl (by decide) rfl (fun ls hl => ?_)
  have lp_2 : ∀ (fuel : Nat) (z : Nat), 32768 - z < fuel → z * z ≤ y → ∀ (H : Heap) (locs : List Loc) (ls : Array Slot), xW g A0 s0 [] H locs → lv_has ls 2 [(1, .int (nI z)), (0, .int q)] → W p0 l e0 (xR 0 0) s0 m0 [.int q].toArray below meth c0 H locs 0 0 Q (F0 m0 2 ls []) := by
    intro fuel
    induction fuel with
    | zero => intro z hm; exact absurd hm (Nat.not_lt_zero _)
    | succ fuel ih =>
      intro z hm hr0 H locs ls hw hl
      refine lv_iload_n hx hb dX8_root_2 rfl (lv_at hl 0 rfl) ?_
      refine lv_iconst (v := 1) hx hb dX8_root_3 (by decide) ?_
      refine xn_add hx hb z 1 rfl rfl dX8_root_4 ?_
      refine lv_iload_n hx hb dX8_root_5 rfl (lv_at hl 0 rfl) ?_
      refine lv_iconst (v := 1) hx hb dX8_root_6 (by decide) ?_
      refine xn_add hx hb z 1 rfl rfl dX8_root_7 ?_
      refine xn_mul hx hb (z + 1) (z + 1) rfl rfl dX8_root_8 ?_
      refine lv_iload_n hx hb dX8_root_9 rfl (lv_at hl 1 rfl) ?_
      refine xn_gt (tgt := 19) hx hb ((z + 1) * (z + 1)) y rfl hq (sq_b (sq_lt hr0 hy)) (by omega) dX8_root_10 (by decide) (fun c1 => ?_) (fun c1 => ?_)
      · refine lv_iload_n hx hb dX8_root_19 rfl (lv_at hl 0 rfl) ?_
        exact xr_i hQ E hr hw dX8_root_20 ⟨congrArg (fun z => some (Value.int z)) (congrArg nI (by rw [hq]; exact rt_is hy hr0 c1)), rfl⟩
      · refine lv_iinc (v := nI (z + 1)) (lv' := [(1, .int (nI (z + 1))), (0, .int q)]) hx hb dX8_root_13 hl (k := 0) rfl (nI_1 _) (by decide) rfl (fun ls hl => ?_)
        refine lv_goto (tgt := 2) hx hb dX8_root_16 (by decide) ?_
        have hl : lv_has ls 2 [(1, .int (nI (z + 1))), (0, .int q)] := lv_sub hl [0, 1] rfl
        have hl : lv_has ls 2 [(1, .int (nI (z + 1))), (0, .int q)] := hl
        have hw : xW g A0 s0 [] _ _ := hw
        exact ih (z + 1) (by have := sq_lt hr0 hy; omega) c1 _ _ _ hw hl
  have hl : lv_has ls 2 [(1, .int 0), (0, .int q)] := lv_sub hl [0, 1] rfl
  have hl : lv_has ls 2 [(1, .int 0), (0, .int q)] := hl
  have hw : xW g A0 s0 [] _ _ := hw
  exact lp_2 ((32768 - 0) + 1) 0 (Nat.lt_succ_self _) (Nat.zero_le _) _ _ _ hw hl

set_option maxRecDepth 100000 in
set_option maxHeartbeats 4000000 in
theorem c_X8_cellAt (l : Launch) (g : xCfg) (o : Nat → Nat) (hs : Nat) (bads : Int32) (nos : Int32) (fuls : Int32) (cau : Int32) (whe : Int32) (cnt : Nat) (p : Nat) (fau : Int32) (isw : Int32) (ods : Int32) (v : SV) (x : Int32) (hL1 : 1 ≤ v.1) (hL : v.1 ≤ 200) : Ct l g yX8_cellAt cX8_cellAt 2 (some .int) (xR 0 0) [.ref (o 0), .int x] [(o 0, .inr (8, [.ref (o 1), .ref (o 2), .int (nI hs), .int bads, .int nos, .int fuls, .int cau, .int whe, .ref (o 3), .ref (o 4), .int (nI cnt), .int (nI p), .int fau, .int isw, .int ods, .ref (o 5), .ref (o 6)])), (o 1, .inl (g.2.1, 616, .inl (nwF v)))] (is1 (some (.int (nI (kpt v.1 x)))) [(o 0, .inr (8, [.ref (o 1), .ref (o 2), .int (nI hs), .int bads, .int nos, .int fuls, .int cau, .int whe, .ref (o 3), .ref (o 4), .int (nI cnt), .int (nI p), .int fau, .int isw, .int ods, .ref (o 5), .ref (o 6)])), (o 1, .inl (g.2.1, 616, .inl (nwF v)))]) := by
  refine Ct.walk (by decide) (Nat.le_of_ble_eq_true rfl) ?_
  intro p0 e0 s0 m0 below meth c0 A0 ls Q hQ E hr hnm hw hl
  have hx := E.x
  have hb := E.b
  have hl : lv_has ls 2 [(0, .ref (o 0)), (1, .int x)] := hl
  refine lv_iload_n hx hb dX8_cellAt_0 rfl (lv_at hl 1 rfl) ?_
  refine lv_if_ge (tgt := 8) hx hb dX8_cellAt_1 (by decide) (fun c1 => ?_) (fun c1 => ?_)
  · refine lv_iload_n hx hb dX8_cellAt_8 rfl (lv_at hl 1 rfl) ?_
    refine lv_aload_n hx hb dX8_cellAt_9 rfl (lv_at hl 0 rfl) ?_
    refine x_get E hw kf_X8_7 0 rfl rfl dX8_cellAt_10 ?_
    refine lv_iconst (v := 0) hx hb dX8_cellAt_13 (by decide) ?_
    refine x_ld (v := nI v.1) E hw 1 rfl 0 rfl (by omega) (by decide) rfl dX8_cellAt_14 ?_
    refine lv_icmp_lt (tgt := 29) hx hb dX8_cellAt_15 (by decide) (fun c2 => ?_) (fun c2 => ?_)
    · refine lv_iload_n hx hb dX8_cellAt_29 rfl (lv_at hl 1 rfl) ?_
      exact xr_i hQ E hr hw dX8_cellAt_30 ⟨congrArg (fun z => some (Value.int z)) (kpt_x hL1 hL c1 c2), rfl⟩
    · refine lv_aload_n hx hb dX8_cellAt_18 rfl (lv_at hl 0 rfl) ?_
      refine x_get E hw kf_X8_7 0 rfl rfl dX8_cellAt_19 ?_
      refine lv_iconst (v := 0) hx hb dX8_cellAt_22 (by decide) ?_
      refine x_ld (v := nI v.1) E hw 1 rfl 0 rfl (by omega) (by decide) rfl dX8_cellAt_23 ?_
      refine lv_iconst (v := 1) hx hb dX8_cellAt_24 (by decide) ?_
      refine xn_sub hx hb v.1 1 rfl rfl (by omega) dX8_cellAt_25 ?_
      refine lv_goto (tgt := 30) hx hb dX8_cellAt_26 (by decide) ?_
      exact xr_i hQ E hr hw dX8_cellAt_30 ⟨congrArg (fun z => some (Value.int z)) (congrArg nI (kpt_L hL1 hL c2)), rfl⟩
  · refine lv_iconst (v := 0) hx hb dX8_cellAt_4 (by decide) ?_
    refine lv_goto (tgt := 30) hx hb dX8_cellAt_5 (by decide) ?_
    exact xr_i hQ E hr hw dX8_cellAt_30 ⟨congrArg (fun z => some (Value.int z)) (congrArg nI (kpt_0 hL c1)), rfl⟩

set_option maxRecDepth 100000 in
set_option maxHeartbeats 4000000 in
theorem c_X8_first (l : Launch) (g : xCfg) (o : Nat → Nat) (hs : Nat) (bads : Int32) (nos : Int32) (fuls : Int32) (cau : Int32) (whe : Int32) (cnt : Nat) (p : Nat) (fau : Int32) (isw : Int32) (ods : Int32) (v : SV) (hL1 : 1 ≤ v.1) (hL : v.1 ≤ 200) : Ct l g yX8_first cX8_first 1 (some .int) (xR 1 21) [.ref (o 0)] [(o 0, .inr (8, [.ref (o 1), .ref (o 2), .int (nI hs), .int bads, .int nos, .int fuls, .int cau, .int whe, .ref (o 3), .ref (o 4), .int (nI cnt), .int (nI p), .int fau, .int isw, .int ods, .ref (o 5), .ref (o 6)])), (o 1, .inl (g.2.1, 616, .inl (nwF v)))] (is1 (some (.int (nI (kpt v.1 (v.2.2.2.2.2.2.2.2.1 / 1000))))) [(o 0, .inr (8, [.ref (o 1), .ref (o 2), .int (nI hs), .int bads, .int nos, .int fuls, .int cau, .int whe, .ref (o 3), .ref (o 4), .int (nI cnt), .int (nI p), .int fau, .int isw, .int ods, .ref (o 5), .ref (o 6)])), (o 1, .inl (g.2.1, 616, .inl (nwF v)))]) := by
  refine Ct.walk (by decide) (Nat.le_of_ble_eq_true rfl) ?_
  intro p0 e0 s0 m0 below meth c0 A0 ls Q hQ E hr hnm hw hl
  have hx := E.x
  have hb := E.b
  have hl : lv_has ls 1 [(0, .ref (o 0))] := hl
  refine lv_aload_n hx hb dX8_first_0 rfl (lv_at hl 0 rfl) ?_
  refine lv_aload_n hx hb dX8_first_1 rfl (lv_at hl 0 rfl) ?_
  refine x_get E hw kf_X8_7 0 rfl rfl dX8_first_2 ?_
  refine lv_bipush (v := 11) hx hb dX8_first_5 (by decide) ?_
  refine x_ld (v := v.2.2.2.2.2.2.2.2.1) E hw 1 rfl 11 rfl (by omega) (by decide) rfl dX8_first_7 ?_
  refine lv_sipush (v := 1000) hx hb dX8_first_8 (by decide) ?_
  refine lv_idiv hx hb dX8_first_11 (by decide) ?_
  refine x_goR (st1 := [.int (nI (kpt v.1 (v.2.2.2.2.2.2.2.2.1 / 1000)))]) E hw [0, 1] rfl (x_runV (rest := []) E hw (c_X8_cellAt l g o hs bads nos fuls cau whe cnt p fau isw ods v (v.2.2.2.2.2.2.2.2.1 / 1000) (by omega) (by omega)) km_X8_110 kv_X8_cellAt [0, 1] rfl (by decide) 0 rfl hl.1 rfl rfl (Nat.le_of_ble_eq_true rfl) ⟨Nat.le_of_ble_eq_true rfl, Nat.le_of_ble_eq_true rfl⟩ ⟨Nat.zero_le _, Nat.zero_le _⟩ dX8_first_12) rfl (fun H locs hw => ?_)
  exact xr_i hQ E hr hw dX8_first_15 ⟨rfl, rfl⟩

set_option maxRecDepth 100000 in
set_option maxHeartbeats 4000000 in
theorem c_X8_last (l : Launch) (g : xCfg) (o : Nat → Nat) (hs : Nat) (bads : Int32) (nos : Int32) (fuls : Int32) (cau : Int32) (whe : Int32) (cnt : Nat) (p : Nat) (fau : Int32) (isw : Int32) (ods : Int32) (v : SV) (hL1 : 1 ≤ v.1) (hL : v.1 ≤ 200) : Ct l g yX8_last cX8_last 1 (some .int) (xR 1 21) [.ref (o 0)] [(o 0, .inr (8, [.ref (o 1), .ref (o 2), .int (nI hs), .int bads, .int nos, .int fuls, .int cau, .int whe, .ref (o 3), .ref (o 4), .int (nI cnt), .int (nI p), .int fau, .int isw, .int ods, .ref (o 5), .ref (o 6)])), (o 1, .inl (g.2.1, 616, .inl (nwF v)))] (is1 (some (.int (nI (kpt v.1 ((v.2.2.2.2.2.2.2.2.2.1 + 999) / 1000))))) [(o 0, .inr (8, [.ref (o 1), .ref (o 2), .int (nI hs), .int bads, .int nos, .int fuls, .int cau, .int whe, .ref (o 3), .ref (o 4), .int (nI cnt), .int (nI p), .int fau, .int isw, .int ods, .ref (o 5), .ref (o 6)])), (o 1, .inl (g.2.1, 616, .inl (nwF v)))]) := by
  refine Ct.walk (by decide) (Nat.le_of_ble_eq_true rfl) ?_
  intro p0 e0 s0 m0 below meth c0 A0 ls Q hQ E hr hnm hw hl
  have hx := E.x
  have hb := E.b
  have hl : lv_has ls 1 [(0, .ref (o 0))] := hl
  refine lv_aload_n hx hb dX8_last_0 rfl (lv_at hl 0 rfl) ?_
  refine lv_aload_n hx hb dX8_last_1 rfl (lv_at hl 0 rfl) ?_
  refine x_get E hw kf_X8_7 0 rfl rfl dX8_last_2 ?_
  refine lv_bipush (v := 12) hx hb dX8_last_5 (by decide) ?_
  refine x_ld (v := v.2.2.2.2.2.2.2.2.2.1) E hw 1 rfl 12 rfl (by omega) (by decide) rfl dX8_last_7 ?_
  refine lv_sipush (v := 999) hx hb dX8_last_8 (by decide) ?_
  refine lv_iadd hx hb dX8_last_11 ?_
  refine lv_sipush (v := 1000) hx hb dX8_last_12 (by decide) ?_
  refine lv_idiv hx hb dX8_last_15 (by decide) ?_
  refine x_goR (st1 := [.int (nI (kpt v.1 ((v.2.2.2.2.2.2.2.2.2.1 + 999) / 1000)))]) E hw [0, 1] rfl (x_runV (rest := []) E hw (c_X8_cellAt l g o hs bads nos fuls cau whe cnt p fau isw ods v ((v.2.2.2.2.2.2.2.2.2.1 + 999) / 1000) (by omega) (by omega)) km_X8_110 kv_X8_cellAt [0, 1] rfl (by decide) 0 rfl hl.1 rfl rfl (Nat.le_of_ble_eq_true rfl) ⟨Nat.le_of_ble_eq_true rfl, Nat.le_of_ble_eq_true rfl⟩ ⟨Nat.zero_le _, Nat.zero_le _⟩ dX8_last_16) rfl (fun H locs hw => ?_)
  exact xr_i hQ E hr hw dX8_last_19 ⟨rfl, rfl⟩

set_option maxRecDepth 100000 in
set_option maxHeartbeats 4000000 in
theorem c_X8_lawfuls (l : Launch) (g : xCfg) (o : Nat → Nat) (hs : Nat) (bads : Int32) (nos : Int32) (fuls : Int32) (cau : Int32) (whe : Int32) (cnt : Nat) (p : Nat) (fau : Int32) (isw : Int32) (ods : Int32) (v : SV) (sq : Nat → Int32) (len : Nat) (hL1 : 1 ≤ v.1) (hL : v.1 ≤ 200) (hlen : v.2.2.2.2.1 2 = nI len) (hl1 : 1 ≤ len) (hl2 : len ≤ 30) : Ct l g yX8_lawfuls cX8_lawfuls 4 none (xR 2 44) [.ref (o 0)] [(o 0, .inr (8, [.ref (o 1), .ref (o 2), .int (nI hs), .int bads, .int nos, .int fuls, .int cau, .int whe, .ref (o 3), .ref (o 4), .int (nI cnt), .int (nI p), .int fau, .int isw, .int ods, .ref (o 5), .ref (o 6)])), (o 1, .inl (g.2.1, 616, .inl (nwF v))), (o 3, .inl (g.2.1, 201, .inl sq))] (is1 none [(o 0, .inr (8, [.ref (o 1), .ref (o 2), .int (nI hs), .int bads, .int nos, .int fuls, .int cau, .int whe, .ref (o 3), .ref (o 4), .int (nI cnt), .int (nI p), .int fau, .int isw, .int ods, .ref (o 5), .ref (o 6)])), (o 1, .inl (g.2.1, 616, .inl (nwF v))), (o 3, .inl (g.2.1, 201, .inl (lwQ v.2.1 v.2.2.1 (v.2.2.2.2.1 0) len v.1 0 sq)))]) := by
  refine Ct.walk (by decide) (Nat.le_of_ble_eq_true rfl) ?_
  intro p0 e0 s0 m0 below meth c0 A0 ls Q hQ E hr hnm hw hl
  have hx := E.x
  have hb := E.b
  have hl : lv_has ls 4 [(0, .ref (o 0))] := hl
  refine lv_aload_n hx hb dX8_lawfuls_0 rfl (lv_at hl 0 rfl) ?_
  refine x_get E hw kf_X8_20 0 rfl rfl dX8_lawfuls_1 ?_
  refine lv_aload_n hx hb dX8_lawfuls_4 rfl (lv_at hl 0 rfl) ?_
  refine x_get E hw kf_X8_7 0 rfl rfl dX8_lawfuls_5 ?_
  refine lv_iconst (v := 0) hx hb dX8_lawfuls_8 (by decide) ?_
  refine x_ld (v := nI v.1) E hw 1 rfl 0 rfl (by omega) (by decide) rfl dX8_lawfuls_9 ?_
  refine lv_iconst (v := 0) hx hb dX8_lawfuls_10 (by decide) ?_
  refine x_ist E hw 2 rfl v.1 rfl (by omega) (by decide) (ws' := [(o 0, .inr (8, [.ref (o 1), .ref (o 2), .int (nI hs), .int bads, .int nos, .int fuls, .int cau, .int whe, .ref (o 3), .ref (o 4), .int (nI cnt), .int (nI p), .int fau, .int isw, .int ods, .ref (o 5), .ref (o 6)])), (o 1, .inl (g.2.1, 616, .inl (nwF v))), (o 3, .inl (g.2.1, 201, .inl (upd sq v.1 0)))]) rfl dX8_lawfuls_11 (fun H locs hw => ?_)
  refine lv_aload_n hx hb dX8_lawfuls_12 rfl (lv_at hl 0 rfl) ?_
  refine x_get E hw kf_X8_7 0 rfl rfl dX8_lawfuls_13 ?_
  refine lv_iconst (v := 0) hx hb dX8_lawfuls_16 (by decide) ?_
  refine x_ld (v := nI v.1) E hw 1 rfl 0 rfl (by omega) (by decide) rfl dX8_lawfuls_17 ?_
  refine lv_iconst (v := 1) hx hb dX8_lawfuls_18 (by decide) ?_
  refine lv_isub hx hb dX8_lawfuls_19 ?_
  refine lv_istore_n (lv' := [(1, .int (nI v.1 - 1)), (0, .ref (o 0))]) hx hb dX8_lawfuls_20 rfl hl (by decide) rfl (fun ls hl => ?_)
  have lp_21 : ∀ (fuel : Nat) (k : Nat), k < fuel → k ≤ v.1 → ∀ (H : Heap) (locs : List Loc) (ls : Array Slot), xW g A0 s0 [(o 0, .inr (8, [.ref (o 1), .ref (o 2), .int (nI hs), .int bads, .int nos, .int fuls, .int cau, .int whe, .ref (o 3), .ref (o 4), .int (nI cnt), .int (nI p), .int fau, .int isw, .int ods, .ref (o 5), .ref (o 6)])), (o 1, .inl (g.2.1, 616, .inl (nwF v))), (o 3, .inl (g.2.1, 201, .inl (lwQ v.2.1 v.2.2.1 (v.2.2.2.2.1 0) len v.1 k sq)))] H locs → lv_has ls 4 [(1, .int (nI k - 1)), (0, .ref (o 0))] → W p0 l e0 (xR 2 44) s0 m0 [.ref (o 0)].toArray below meth c0 H locs 0 0 Q (F0 m0 21 ls []) := by
    intro fuel
    induction fuel with
    | zero => intro k hm; exact absurd hm (Nat.not_lt_zero _)
    | succ fuel ih =>
      intro k hm h1 H locs ls hw hl
      refine lv_iload_n hx hb dX8_lawfuls_21 rfl (lv_at hl 0 rfl) ?_
      refine xp_lt (tgt := 74) hx hb k (by omega) dX8_lawfuls_22 (by decide) (fun c_1 => ?_) (fun c_1 => ?_)
      · obtain rfl : k = 0 := by omega
        exact xr_v hQ E hr hw dX8_lawfuls_74 ⟨rfl, rfl⟩
      · obtain ⟨j, rfl⟩ : ∃ j, k = j + 1 := ⟨k - 1, by omega⟩
        have hl : lv_has ls 4 [(1, .int (nI j)), (0, .ref (o 0))] := lv_re hl (by rw [show (nI (j + 1) - 1 : Int32) = nI j from nI_pred j])
        refine lv_aload_n hx hb dX8_lawfuls_25 rfl (lv_at hl 1 rfl) ?_
        refine lv_iload_n hx hb dX8_lawfuls_26 rfl (lv_at hl 0 rfl) ?_
        refine x_goR (st1 := [.int (infF v.2.1 len j)]) E hw [0, 1] rfl (x_runV (rest := []) E hw (c_X8_inForce l g o hs bads nos fuls cau whe cnt p fau isw ods v j len (by omega) hlen (by omega) (by omega)) km_X8_95 kv_X8_inForce [0, 1] rfl (by decide) 0 rfl hl.1 rfl rfl (Nat.le_of_ble_eq_true rfl) ⟨Nat.le_of_ble_eq_true rfl, Nat.le_of_ble_eq_true rfl⟩ ⟨Nat.zero_le _, Nat.zero_le _⟩ dX8_lawfuls_27) rfl (fun H locs hw => ?_)
        refine lv_aload_n hx hb dX8_lawfuls_30 rfl (lv_at hl 1 rfl) ?_
        refine lv_iload_n hx hb dX8_lawfuls_31 rfl (lv_at hl 0 rfl) ?_
        refine x_goR (st1 := [.int (infF v.2.1 len j), .int (infF v.2.1 len j)]) E hw [0, 1] rfl (x_runV (rest := [.int (infF v.2.1 len j)]) E hw (c_X8_inForce l g o hs bads nos fuls cau whe cnt p fau isw ods v j len (by omega) hlen (by omega) (by omega)) km_X8_95 kv_X8_inForce [0, 1] rfl (by decide) 0 rfl hl.1 rfl rfl (Nat.le_of_ble_eq_true rfl) ⟨Nat.le_of_ble_eq_true rfl, Nat.le_of_ble_eq_true rfl⟩ ⟨Nat.zero_le _, Nat.zero_le _⟩ dX8_lawfuls_32) rfl (fun H locs hw => ?_)
        refine lv_imul hx hb dX8_lawfuls_35 ?_
        refine lv_istore_n (lv' := [(2, .int (infF v.2.1 len j * infF v.2.1 len j)), (1, .int (nI j)), (0, .ref (o 0))]) hx hb dX8_lawfuls_36 rfl hl (by decide) rfl (fun ls hl => ?_)
        refine lv_aload_n hx hb dX8_lawfuls_37 rfl (lv_at hl 2 rfl) ?_
        refine x_get E hw kf_X8_20 0 rfl rfl dX8_lawfuls_38 ?_
        refine lv_iload_n hx hb dX8_lawfuls_41 rfl (lv_at hl 1 rfl) ?_
        refine lv_iconst (v := 1) hx hb dX8_lawfuls_42 (by decide) ?_
        refine xn_add hx hb j 1 rfl rfl dX8_lawfuls_43 ?_
        refine x_ld (v := lwD (infF v.2.1 len) v.2.2.1 (v.2.2.2.2.1 0) v.1 (v.1 - (j + 1))) E hw 2 rfl (j + 1) rfl (by omega) (by decide) (lwQ_r _ _ _ _ _ _ _ (by omega)) dX8_lawfuls_44 ?_
        refine lv_aload_n hx hb dX8_lawfuls_45 rfl (lv_at hl 2 rfl) ?_
        refine lv_iload_n hx hb dX8_lawfuls_46 rfl (lv_at hl 1 rfl) ?_
        refine x_goR (st1 := [.int (dcl (v.2.2.2.2.1 0) (v.2.2.1 j)), .int (lwD (infF v.2.1 len) v.2.2.1 (v.2.2.2.2.1 0) v.1 (v.1 - (j + 1)))]) E hw [0, 1] rfl (x_runV (rest := [.int (lwD (infF v.2.1 len) v.2.2.1 (v.2.2.2.2.1 0) v.1 (v.1 - (j + 1)))]) E hw (c_X8_decel l g o hs bads nos fuls cau whe cnt p fau isw ods v j (by omega)) km_X8_92 kv_X8_decel [0, 1] rfl (by decide) 0 rfl hl.1 rfl rfl (Nat.le_of_ble_eq_true rfl) ⟨Nat.le_of_ble_eq_true rfl, Nat.le_of_ble_eq_true rfl⟩ ⟨Nat.zero_le _, Nat.zero_le _⟩ dX8_lawfuls_47) rfl (fun H locs hw => ?_)
        refine lv_iadd hx hb dX8_lawfuls_50 ?_
        refine lv_istore_n (lv' := [(3, .int (lwD (infF v.2.1 len) v.2.2.1 (v.2.2.2.2.1 0) v.1 (v.1 - (j + 1)) + dcl (v.2.2.2.2.1 0) (v.2.2.1 j))), (2, .int (infF v.2.1 len j * infF v.2.1 len j)), (1, .int (nI j)), (0, .ref (o 0))]) hx hb dX8_lawfuls_51 rfl hl (by decide) rfl (fun ls hl => ?_)
        refine lv_aload_n hx hb dX8_lawfuls_52 rfl (lv_at hl 3 rfl) ?_
        refine x_get E hw kf_X8_20 0 rfl rfl dX8_lawfuls_53 ?_
        refine lv_iload_n hx hb dX8_lawfuls_56 rfl (lv_at hl 2 rfl) ?_
        refine lv_iload_n hx hb dX8_lawfuls_57 rfl (lv_at hl 1 rfl) ?_
        refine lv_iload_n hx hb dX8_lawfuls_58 rfl (lv_at hl 0 rfl) ?_
        refine lv_icmp_ge (tgt := 66) hx hb dX8_lawfuls_59 (by decide) (fun c1 => ?_) (fun c1 => ?_)
        · refine lv_iload_n hx hb dX8_lawfuls_66 rfl (lv_at hl 0 rfl) ?_
          refine x_ist E hw 2 rfl j rfl (by omega) (by decide) (ws' := [(o 0, .inr (8, [.ref (o 1), .ref (o 2), .int (nI hs), .int bads, .int nos, .int fuls, .int cau, .int whe, .ref (o 3), .ref (o 4), .int (nI cnt), .int (nI p), .int fau, .int isw, .int ods, .ref (o 5), .ref (o 6)])), (o 1, .inl (g.2.1, 616, .inl (nwF v))), (o 3, .inl (g.2.1, 201, .inl (upd (lwQ v.2.1 v.2.2.1 (v.2.2.2.2.1 0) len v.1 (j + 1) sq) j (lwD (infF v.2.1 len) v.2.2.1 (v.2.2.2.2.1 0) v.1 (v.1 - (j + 1)) + dcl (v.2.2.2.2.1 0) (v.2.2.1 j)))))]) rfl dX8_lawfuls_67 (fun H locs hw => ?_)
          refine lv_iinc (v := nI j - 1) (lv' := [(1, .int (nI j - 1)), (3, .int (lwD (infF v.2.1 len) v.2.2.1 (v.2.2.2.2.1 0) v.1 (v.1 - (j + 1)) + dcl (v.2.2.2.2.1 0) (v.2.2.1 j))), (2, .int (infF v.2.1 len j * infF v.2.1 len j)), (0, .ref (o 0))]) hx hb dX8_lawfuls_68 hl (k := 2) rfl (nI_dec j) (by decide) rfl (fun ls hl => ?_)
          refine lv_goto (tgt := 21) hx hb dX8_lawfuls_71 (by decide) ?_
          have hw := hw.arr (f' := (lwQ v.2.1 v.2.2.1 (v.2.2.2.2.1 0) len v.1 j sq)) (ws' := [(o 0, .inr (8, [.ref (o 1), .ref (o 2), .int (nI hs), .int bads, .int nos, .int fuls, .int cau, .int whe, .ref (o 3), .ref (o 4), .int (nI cnt), .int (nI p), .int fau, .int isw, .int ods, .ref (o 5), .ref (o 6)])), (o 1, .inl (g.2.1, 616, .inl (nwF v))), (o 3, .inl (g.2.1, 201, .inl (lwQ v.2.1 v.2.2.1 (v.2.2.2.2.1 0) len v.1 j sq)))]) 2 rfl (fun z _ => lwQ_s _ _ _ _ _ _ _ (by omega) _ (lwQ_a _ _ _ _ _ _ (by omega) c1) z) rfl
          have hl : lv_has ls 4 [(1, .int (nI j - 1)), (0, .ref (o 0))] := lv_sub hl [0, 3] rfl
          have hl : lv_has ls 4 [(1, .int (nI j - 1)), (0, .ref (o 0))] := hl
          have hw : xW g A0 s0 [(o 0, .inr (8, [.ref (o 1), .ref (o 2), .int (nI hs), .int bads, .int nos, .int fuls, .int cau, .int whe, .ref (o 3), .ref (o 4), .int (nI cnt), .int (nI p), .int fau, .int isw, .int ods, .ref (o 5), .ref (o 6)])), (o 1, .inl (g.2.1, 616, .inl (nwF v))), (o 3, .inl (g.2.1, 201, .inl (lwQ v.2.1 v.2.2.1 (v.2.2.2.2.1 0) len v.1 j sq)))] _ _ := hw
          exact ih j (by omega) (by omega) _ _ _ hw hl
        · refine lv_iload_n hx hb dX8_lawfuls_62 rfl (lv_at hl 1 rfl) ?_
          refine lv_goto (tgt := 67) hx hb dX8_lawfuls_63 (by decide) ?_
          refine x_ist E hw 2 rfl j rfl (by omega) (by decide) (ws' := [(o 0, .inr (8, [.ref (o 1), .ref (o 2), .int (nI hs), .int bads, .int nos, .int fuls, .int cau, .int whe, .ref (o 3), .ref (o 4), .int (nI cnt), .int (nI p), .int fau, .int isw, .int ods, .ref (o 5), .ref (o 6)])), (o 1, .inl (g.2.1, 616, .inl (nwF v))), (o 3, .inl (g.2.1, 201, .inl (upd (lwQ v.2.1 v.2.2.1 (v.2.2.2.2.1 0) len v.1 (j + 1) sq) j (infF v.2.1 len j * infF v.2.1 len j))))]) rfl dX8_lawfuls_67 (fun H locs hw => ?_)
          refine lv_iinc (v := nI j - 1) (lv' := [(1, .int (nI j - 1)), (3, .int (lwD (infF v.2.1 len) v.2.2.1 (v.2.2.2.2.1 0) v.1 (v.1 - (j + 1)) + dcl (v.2.2.2.2.1 0) (v.2.2.1 j))), (2, .int (infF v.2.1 len j * infF v.2.1 len j)), (0, .ref (o 0))]) hx hb dX8_lawfuls_68 hl (k := 2) rfl (nI_dec j) (by decide) rfl (fun ls hl => ?_)
          refine lv_goto (tgt := 21) hx hb dX8_lawfuls_71 (by decide) ?_
          have hw := hw.arr (f' := (lwQ v.2.1 v.2.2.1 (v.2.2.2.2.1 0) len v.1 j sq)) (ws' := [(o 0, .inr (8, [.ref (o 1), .ref (o 2), .int (nI hs), .int bads, .int nos, .int fuls, .int cau, .int whe, .ref (o 3), .ref (o 4), .int (nI cnt), .int (nI p), .int fau, .int isw, .int ods, .ref (o 5), .ref (o 6)])), (o 1, .inl (g.2.1, 616, .inl (nwF v))), (o 3, .inl (g.2.1, 201, .inl (lwQ v.2.1 v.2.2.1 (v.2.2.2.2.1 0) len v.1 j sq)))]) 2 rfl (fun z _ => lwQ_s _ _ _ _ _ _ _ (by omega) _ (lwQ_b _ _ _ _ _ _ (by omega) c1) z) rfl
          have hl : lv_has ls 4 [(1, .int (nI j - 1)), (0, .ref (o 0))] := lv_sub hl [0, 3] rfl
          have hl : lv_has ls 4 [(1, .int (nI j - 1)), (0, .ref (o 0))] := hl
          have hw : xW g A0 s0 [(o 0, .inr (8, [.ref (o 1), .ref (o 2), .int (nI hs), .int bads, .int nos, .int fuls, .int cau, .int whe, .ref (o 3), .ref (o 4), .int (nI cnt), .int (nI p), .int fau, .int isw, .int ods, .ref (o 5), .ref (o 6)])), (o 1, .inl (g.2.1, 616, .inl (nwF v))), (o 3, .inl (g.2.1, 201, .inl (lwQ v.2.1 v.2.2.1 (v.2.2.2.2.1 0) len v.1 j sq)))] _ _ := hw
          exact ih j (by omega) (by omega) _ _ _ hw hl
  have hw := hw.arr (f' := (lwQ v.2.1 v.2.2.1 (v.2.2.2.2.1 0) len v.1 v.1 sq)) (ws' := [(o 0, .inr (8, [.ref (o 1), .ref (o 2), .int (nI hs), .int bads, .int nos, .int fuls, .int cau, .int whe, .ref (o 3), .ref (o 4), .int (nI cnt), .int (nI p), .int fau, .int isw, .int ods, .ref (o 5), .ref (o 6)])), (o 1, .inl (g.2.1, 616, .inl (nwF v))), (o 3, .inl (g.2.1, 201, .inl (lwQ v.2.1 v.2.2.1 (v.2.2.2.2.1 0) len v.1 v.1 sq)))]) 2 rfl (fun j _ => lwQ_0 _ _ _ _ _ _ j) rfl
  have hl : lv_has ls 4 [(1, .int (nI v.1 - 1)), (0, .ref (o 0))] := lv_sub hl [0, 1] rfl
  have hl : lv_has ls 4 [(1, .int (nI v.1 - 1)), (0, .ref (o 0))] := hl
  have hw : xW g A0 s0 [(o 0, .inr (8, [.ref (o 1), .ref (o 2), .int (nI hs), .int bads, .int nos, .int fuls, .int cau, .int whe, .ref (o 3), .ref (o 4), .int (nI cnt), .int (nI p), .int fau, .int isw, .int ods, .ref (o 5), .ref (o 6)])), (o 1, .inl (g.2.1, 616, .inl (nwF v))), (o 3, .inl (g.2.1, 201, .inl (lwQ v.2.1 v.2.2.1 (v.2.2.2.2.1 0) len v.1 v.1 sq)))] _ _ := hw
  exact lp_21 (v.1 + 1) v.1 (Nat.lt_succ_self _) (by omega) _ _ _ hw hl
