
/-- a cell's DECEL out of BRAKE and GRADE -/
def dcl (b gd : Int32) : Int32 := if 1 < b + gd then b + gd else 1
/-- how many of a .. b - 1 hold another value than v; the row with v there -/
def cntNe (f : Nat → Int32) (v : Int32) (a : Nat) : Nat → Nat
  | 0 => 0
  | b + 1 => cntNe f v a b + if a ≤ b ∧ f b ≠ v then 1 else 0
def filF (f : Nat → Int32) (v : Int32) (a b : Nat) : Nat → Int32 := fun j => if a ≤ j ∧ j < b then v else f j
theorem cntNe_lo (f : Nat → Int32) (v : Int32) (a : Nat) : ∀ b, b ≤ a → cntNe f v a b = 0
  | 0, _ => rfl
  | b + 1, h => by rw [cntNe, cntNe_lo f v a b (by omega), if_neg (by omega)]
theorem cntNe_nil (f : Nat → Int32) (v : Int32) (a : Nat) : cntNe f v a a = 0 := cntNe_lo f v a a (Nat.le_refl a)
theorem cntNe_ne (f : Nat → Int32) (v : Int32) (a x : Nat) (h : a ≤ x) (hn : ¬ f x = v) : cntNe f v a (x + 1) = cntNe f v a x + 1 := by rw [cntNe, if_pos ⟨h, hn⟩]
theorem cntNe_eq (f : Nat → Int32) (v : Int32) (a x : Nat) (hn : f x = v) : cntNe f v a (x + 1) = cntNe f v a x := by rw [cntNe, if_neg (fun h => h.2 hn), Nat.add_zero]
theorem filF_nil (f : Nat → Int32) (v : Int32) (a j : Nat) : filF f v a a j = f j := if_neg (by omega)
theorem filF_at (f : Nat → Int32) (v : Int32) (a b : Nat) : filF f v a b b = f b := if_neg (by omega)
theorem filF_st (f : Nat → Int32) (v : Int32) (a x : Nat) (h : a ≤ x) (j : Nat) : upd (filF f v a x) x v j = filF f v a (x + 1) j := by
  unfold upd filF
  by_cases hj : j = x
  · rw [if_pos hj, if_pos (by omega)]
  · rw [if_neg hj]
    by_cases h2 : a ≤ j ∧ j < x
    · rw [if_pos h2, if_pos (by omega)]
    · rw [if_neg h2, if_neg (by omega)]
theorem filF_eq (f : Nat → Int32) (v : Int32) (a x : Nat) (h : a ≤ x) (he : f x = v) (j : Nat) : filF f v a x j = filF f v a (x + 1) j := by
  unfold filF
  by_cases hj : j = x
  · subst hj
    rw [if_neg (by omega), if_pos (by omega), he]
  · by_cases h2 : a ≤ j ∧ j < x
    · rw [if_pos h2, if_pos (by omega)]
    · rw [if_neg h2, if_neg (by omega)]

set_option maxRecDepth 100000 in
set_option maxHeartbeats 4000000 in
/-- least to most -/
theorem c_X7_within (l : Launch) (g : xCfg) (v : Int32) (lo : Int32) (hi : Int32)  : Ct l g yX7_within cX7_within 3 (some .boolean) (xR 0 0) [.int v, .int lo, .int hi] [] (is1 (some (.int (bI (lo ≤ v ∧ v ≤ hi)))) []) := by
  refine Ct.walk (by decide) (Nat.le_of_ble_eq_true rfl) ?_
  intro p0 e0 s0 m0 below meth c0 A0 ls Q hQ E hr hnm hw hl
  have hx := E.x
  have hb := E.b
  have hl : lv_has ls 3 [(0, .int v), (1, .int lo), (2, .int hi)] := hl
  refine lv_iload_n hx hb dX7_within_0 rfl (lv_at hl 0 rfl) ?_
  refine lv_iload_n hx hb dX7_within_1 rfl (lv_at hl 1 rfl) ?_
  refine lv_icmp_lt (tgt := 14) hx hb dX7_within_2 (by decide) (fun c_1 => ?_) (fun c_1 => ?_)
  · refine lv_iconst (v := 0) hx hb dX7_within_14 (by decide) ?_
    exact xr_z hQ E hr hw dX7_within_15 (by decide) ⟨congrArg (fun z => some (Value.int z)) (by unfold bI; split <;> first | rfl | (exfalso; simp only [Int32.lt_iff_toInt_lt, Int32.le_iff_toInt_le] at *; omega)), rfl⟩
  · refine lv_iload_n hx hb dX7_within_5 rfl (lv_at hl 0 rfl) ?_
    refine lv_iload_n hx hb dX7_within_6 rfl (lv_at hl 2 rfl) ?_
    refine lv_icmp_gt (tgt := 14) hx hb dX7_within_7 (by decide) (fun c_2 => ?_) (fun c_2 => ?_)
    · refine lv_iconst (v := 0) hx hb dX7_within_14 (by decide) ?_
      exact xr_z hQ E hr hw dX7_within_15 (by decide) ⟨congrArg (fun z => some (Value.int z)) (by unfold bI; split <;> first | rfl | (exfalso; simp only [Int32.lt_iff_toInt_lt, Int32.le_iff_toInt_le] at *; omega)), rfl⟩
    · refine lv_iconst (v := 1) hx hb dX7_within_10 (by decide) ?_
      refine lv_goto (tgt := 15) hx hb dX7_within_11 (by decide) ?_
      exact xr_z hQ E hr hw dX7_within_15 (by decide) ⟨congrArg (fun z => some (Value.int z)) (by unfold bI; split <;> first | rfl | (exfalso; simp only [Int32.lt_iff_toInt_lt, Int32.le_iff_toInt_le] at *; omega)), rfl⟩

theorem c_X7_within_ok (l : Launch) (g : xCfg) (v lo hi : Int32) (h1 : lo ≤ v) (h2 : v ≤ hi) : Ct l g yX7_within cX7_within 3 (some .boolean) (xR 0 0) [.int v, .int lo, .int hi] [] (is1 (some (.int 1)) []) := by
  have h := c_X7_within l g v lo hi
  rw [bI_t ⟨h1, h2⟩] at h
  exact h

set_option maxRecDepth 100000 in
set_option maxHeartbeats 4000000 in
theorem c_X5_has (l : Launch) (g : xCfg) (h : Nat → Nat) (L : Nat) (x : Int32) (hL : 1 ≤ L) : Ct l g yX5_has cX5_has 2 (some .boolean) (xR 1 22) [.ref (h 2), .int x] [(h 2, .inr (5, [.int (nI L), .ref (h 3), .ref (h 4), .ref (h 5), .ref (h 6)]))] (is1 (some (.int (bI (0 ≤ x ∧ x ≤ nI (L - 1))))) [(h 2, .inr (5, [.int (nI L), .ref (h 3), .ref (h 4), .ref (h 5), .ref (h 6)]))]) := by
  refine Ct.walk (by decide) (Nat.le_of_ble_eq_true rfl) ?_
  intro p0 e0 s0 m0 below meth c0 A0 ls Q hQ E hr hnm hw hl
  have hx := E.x
  have hb := E.b
  have hl : lv_has ls 2 [(0, .ref (h 2)), (1, .int x)] := hl
  refine lv_iload_n hx hb dX5_has_0 rfl (lv_at hl 1 rfl) ?_
  refine lv_iconst (v := 0) hx hb dX5_has_1 (by decide) ?_
  refine lv_aload_n hx hb dX5_has_2 rfl (lv_at hl 0 rfl) ?_
  refine x_get E hw kf_X5_27 0 rfl rfl dX5_has_3 ?_
  refine lv_iconst (v := 1) hx hb dX5_has_6 (by decide) ?_
  refine xn_sub hx hb L 1 rfl rfl (by omega) dX5_has_7 ?_
  refine x_go (ws' := [(h 2, .inr (5, [.int (nI L), .ref (h 3), .ref (h 4), .ref (h 5), .ref (h 6)]))]) (st1 := [.int (bI (0 ≤ x ∧ x ≤ (nI (L - 1))))]) E hw [] rfl (x_runSN (rest := []) E hw (c_X7_within l g x 0 (nI (L - 1)) ) km_X5_37 ks_X7_within [] rfl (by decide) hl.1 rfl rfl (Nat.le_of_ble_eq_true rfl) ⟨Nat.le_of_ble_eq_true rfl, Nat.le_of_ble_eq_true rfl⟩ ⟨Nat.zero_le _, Nat.zero_le _⟩ dX5_has_8) rfl rfl rfl (fun H locs hw => ?_)
  exact xr_z hQ E hr hw dX5_has_11 (bI_01 _) ⟨rfl, rfl⟩

theorem c_X5_has_ok (l : Launch) (g : xCfg) (h : Nat → Nat) (L : Nat) (x : Nat) (hL : L ≤ 200) (hx : x < L) : Ct l g yX5_has cX5_has 2 (some .boolean) (xR 1 22) [.ref (h 2), .int (nI x)] [(h 2, .inr (5, [.int (nI L), .ref (h 3), .ref (h 4), .ref (h 5), .ref (h 6)]))] (is1 (some (.int 1)) [(h 2, .inr (5, [.int (nI L), .ref (h 3), .ref (h 4), .ref (h 5), .ref (h 6)]))]) := by
  have k := c_X5_has l g h L (nI x) (by omega)
  rw [bI_t ⟨nI_pos' (by omega), nI_le (by omega) (by omega)⟩] at k
  exact k

set_option maxRecDepth 100000 in
set_option maxHeartbeats 4000000 in
theorem c_X5_decel (l : Launch) (g : xCfg) (h : Nat → Nat) (L : Nat) (gr : Nat → Int32) (st : Nat → Int32) (x : Nat) (hx0 : x < 200) : Ct l g yX5_decel cX5_decel 2 (some .int) (xR 1 13) [.ref (h 2), .int (nI x)] [(h 2, .inr (5, [.int (nI L), .ref (h 3), .ref (h 4), .ref (h 5), .ref (h 6)])), (h 4, .inl (g.2.1, 200, .inl gr)), (h 6, .inl (g.2.1, 7, .inl st))] (is1 (some (.int (dcl (st 0) (gr x)))) [(h 2, .inr (5, [.int (nI L), .ref (h 3), .ref (h 4), .ref (h 5), .ref (h 6)])), (h 4, .inl (g.2.1, 200, .inl gr)), (h 6, .inl (g.2.1, 7, .inl st))]) := by
  refine Ct.walk (by decide) (Nat.le_of_ble_eq_true rfl) ?_
  intro p0 e0 s0 m0 below meth c0 A0 ls Q hQ E hr hnm hw hl
  have hx := E.x
  have hb := E.b
  have hl : lv_has ls 2 [(0, .ref (h 2)), (1, .int (nI x))] := hl
  refine lv_iconst (v := 1) hx hb dX5_decel_0 (by decide) ?_
  refine lv_aload_n hx hb dX5_decel_1 rfl (lv_at hl 0 rfl) ?_
  refine x_get E hw kf_X5_24 0 rfl rfl dX5_decel_2 ?_
  refine lv_iconst (v := 0) hx hb dX5_decel_5 (by decide) ?_
  refine x_ld (v := st 0) E hw 2 rfl 0 rfl (by omega) (by decide) rfl dX5_decel_6 ?_
  refine lv_aload_n hx hb dX5_decel_7 rfl (lv_at hl 0 rfl) ?_
  refine x_get E hw kf_X5_15 0 rfl rfl dX5_decel_8 ?_
  refine lv_iload_n hx hb dX5_decel_11 rfl (lv_at hl 1 rfl) ?_
  refine x_ld (v := gr x) E hw 1 rfl x rfl (by omega) (by decide) rfl dX5_decel_12 ?_
  refine lv_iadd hx hb dX5_decel_13 ?_
  refine x_max E km_X5_41 hl.1 (Nat.le_of_ble_eq_true rfl) (Nat.le_of_ble_eq_true rfl) ⟨Nat.zero_le _, Nat.zero_le _⟩ dX5_decel_14 ?_
  exact xr_i hQ E hr hw dX5_decel_17 ⟨rfl, rfl⟩

set_option maxRecDepth 100000 in
set_option maxHeartbeats 4000000 in
theorem c_X5_marked_ok (l : Launch) (g : xCfg) (h : Nat → Nat) (L : Nat) (be : Nat → Int32) (a : Nat) (on : Int32) (hL2 : L ≤ 200) (ha : a < L) (ho : 0 ≤ on) (ho2 : on ≤ 1) : Ct l g yX5_marked cX5_marked 4 (some .int) (xR 2 43) [.ref (h 2), .int (nI a), .int on] [(h 2, .inr (5, [.int (nI L), .ref (h 3), .ref (h 4), .ref (h 5), .ref (h 6)])), (h 5, .inl (g.2.1, 200, .inl be))] (is1 (some (.int (be a))) [(h 2, .inr (5, [.int (nI L), .ref (h 3), .ref (h 4), .ref (h 5), .ref (h 6)])), (h 5, .inl (g.2.1, 200, .inl (upd be a on)))]) := by
  refine Ct.walk (by decide) (Nat.le_of_ble_eq_true rfl) ?_
  intro p0 e0 s0 m0 below meth c0 A0 ls Q hQ E hr hnm hw hl
  have hx := E.x
  have hb := E.b
  have hl : lv_has ls 4 [(0, .ref (h 2)), (1, .int (nI a)), (2, .int on)] := hl
  refine lv_aload_n hx hb dX5_marked_0 rfl (lv_at hl 0 rfl) ?_
  refine lv_iload_n hx hb dX5_marked_1 rfl (lv_at hl 1 rfl) ?_
  refine x_go (ws' := [(h 2, .inr (5, [.int (nI L), .ref (h 3), .ref (h 4), .ref (h 5), .ref (h 6)])), (h 5, .inl (g.2.1, 200, .inl be))]) (st1 := [.int 1]) E hw [0] rfl (x_runV (rest := []) E hw (c_X5_has_ok l g h L a (by omega) (by omega)) km_X5_47 kv_X5_has [0] rfl (by decide) 0 rfl hl.1 rfl rfl (Nat.le_of_ble_eq_true rfl) ⟨Nat.le_of_ble_eq_true rfl, Nat.le_of_ble_eq_true rfl⟩ ⟨Nat.zero_le _, Nat.zero_le _⟩ dX5_marked_2) rfl rfl rfl (fun H locs hw => ?_)
  refine lv_if_eq (tgt := 17) hx hb dX5_marked_5 (by decide) (fun h => absurd h (by decide)) (fun _ => ?_)
  refine lv_iload_n hx hb dX5_marked_8 rfl (lv_at hl 2 rfl) ?_
  refine lv_iconst (v := 0) hx hb dX5_marked_9 (by decide) ?_
  refine lv_iconst (v := 1) hx hb dX5_marked_10 (by decide) ?_
  refine x_go (ws' := [(h 2, .inr (5, [.int (nI L), .ref (h 3), .ref (h 4), .ref (h 5), .ref (h 6)])), (h 5, .inl (g.2.1, 200, .inl be))]) (st1 := [.int 1]) E hw [] rfl (x_runSN (rest := []) E hw (c_X7_within_ok l g on 0 1 ho ho2) km_X5_37 ks_X7_within [] rfl (by decide) hl.1 rfl rfl (Nat.le_of_ble_eq_true rfl) ⟨Nat.le_of_ble_eq_true rfl, Nat.le_of_ble_eq_true rfl⟩ ⟨Nat.zero_le _, Nat.zero_le _⟩ dX5_marked_11) rfl rfl rfl (fun H locs hw => ?_)
  refine lv_if_ne (tgt := 20) hx hb dX5_marked_14 (by decide) (fun _ => ?_) (fun h => absurd h (by decide))
  refine lv_aload_n hx hb dX5_marked_20 rfl (lv_at hl 0 rfl) ?_
  refine x_get E hw kf_X5_18 0 rfl rfl dX5_marked_21 ?_
  refine lv_iload_n hx hb dX5_marked_24 rfl (lv_at hl 1 rfl) ?_
  refine x_ld (v := be a) E hw 1 rfl a rfl (by omega) (by decide) rfl dX5_marked_25 ?_
  refine lv_istore_n (lv' := [(3, .int (be a)), (0, .ref (h 2)), (1, .int (nI a)), (2, .int on)]) hx hb dX5_marked_26 rfl hl (by decide) rfl (fun ls hl => ?_)
  refine lv_aload_n hx hb dX5_marked_27 rfl (lv_at hl 1 rfl) ?_
  refine x_get E hw kf_X5_18 0 rfl rfl dX5_marked_28 ?_
  refine lv_iload_n hx hb dX5_marked_31 rfl (lv_at hl 2 rfl) ?_
  refine lv_iload_n hx hb dX5_marked_32 rfl (lv_at hl 3 rfl) ?_
  refine x_ist E hw 1 rfl a rfl (by omega) (by decide) (ws' := [(h 2, .inr (5, [.int (nI L), .ref (h 3), .ref (h 4), .ref (h 5), .ref (h 6)])), (h 5, .inl (g.2.1, 200, .inl (upd be a on)))]) rfl dX5_marked_33 (fun H locs hw => ?_)
  refine lv_iload_n hx hb dX5_marked_34 rfl (lv_at hl 0 rfl) ?_
  exact xr_i hQ E hr hw dX5_marked_35 ⟨rfl, rfl⟩

set_option maxRecDepth 100000 in
set_option maxHeartbeats 4000000 in
theorem c_X5_filled (l : Launch) (g : xCfg) (q : Nat) (f : Nat → Int32) (a : Nat) (z : Nat) (v : Int32) (hz : z < 200) (ha : a ≤ z + 1) : Ct l g yX5_filled cX5_filled 6 (some .int) (xR 0 0) [.ref q, .int (nI a), .int (nI z), .int v] [(q, .inl (g.2.1, 200, .inl f))] (is1 (some (.int (nI (cntNe f v a (z + 1))))) [(q, .inl (g.2.1, 200, .inl (filF f v a (z + 1))))]) := by
  refine Ct.walk (by decide) (Nat.le_of_ble_eq_true rfl) ?_
  intro p0 e0 s0 m0 below meth c0 A0 ls Q hQ E hr hnm hw hl
  have hx := E.x
  have hb := E.b
  have hl : lv_has ls 6 [(0, .ref q), (1, .int (nI a)), (2, .int (nI z)), (3, .int v)] := hl
  refine lv_iconst (v := 0) hx hb dX5_filled_0 (by decide) ?_
  refine lv_istore (lv' := [(4, .int 0), (0, .ref q), (1, .int (nI a)), (2, .int (nI z)), (3, .int v)]) hx hb dX5_filled_1 hl (by decide) rfl (fun ls hl => ?_)
  refine lv_iload_n hx hb dX5_filled_3 rfl (lv_at hl 2 rfl) ?_
  refine lv_istore (lv' := [(5, .int (nI a)), (4, .int 0), (0, .ref q), (1, .int (nI a)), (2, .int (nI z)), (3, .int v)]) hx hb dX5_filled_4 hl (by decide) rfl (fun ls hl => ?_)
  have lp_6 : ∀ (fuel : Nat) (x : Nat), z + 1 - x < fuel → a ≤ x → x ≤ z + 1 → ∀ (H : Heap) (locs : List Loc) (ls : Array Slot), xW g A0 s0 [(q, .inl (g.2.1, 200, .inl (filF f v a x)))] H locs → lv_has ls 6 [(5, .int (nI x)), (4, .int (nI (cntNe f v a x))), (0, .ref q), (2, .int (nI z)), (3, .int v)] → W p0 l e0 (xR 0 0) s0 m0 [.ref q, .int (nI a), .int (nI z), .int v].toArray below meth c0 H locs 0 0 Q (F0 m0 6 ls []) := by
    intro fuel
    induction fuel with
    | zero => intro x hm; exact absurd hm (Nat.not_lt_zero _)
    | succ fuel ih =>
      intro x hm h1 h2 H locs ls hw hl
      refine lv_iload hx hb dX5_filled_6 (lv_at hl 0 rfl) ?_
      refine lv_iload_n hx hb dX5_filled_8 rfl (lv_at hl 3 rfl) ?_
      refine xn_gt (tgt := 34) hx hb x z rfl rfl (by omega) (by omega) dX5_filled_9 (by decide) (fun c_1 => ?_) (fun c_1 => ?_)
      · obtain rfl : x = z + 1 := by omega
        refine lv_iload hx hb dX5_filled_34 (lv_at hl 1 rfl) ?_
        exact xr_i hQ E hr hw dX5_filled_36 ⟨rfl, rfl⟩
      · refine lv_aload_n hx hb dX5_filled_12 rfl (lv_at hl 2 rfl) ?_
        refine lv_iload hx hb dX5_filled_13 (lv_at hl 0 rfl) ?_
        refine x_ld (v := f x) E hw 0 rfl x rfl (by omega) (by decide) (filF_at f v a x) dX5_filled_15 ?_
        refine lv_iload_n hx hb dX5_filled_16 rfl (lv_at hl 4 rfl) ?_
        refine lv_icmp_eq (tgt := 28) hx hb dX5_filled_17 (by decide) (fun ce => ?_) (fun ce => ?_)
        · refine lv_iinc (v := nI (x + 1)) (lv' := [(5, .int (nI (x + 1))), (4, .int (nI (cntNe f v a x))), (0, .ref q), (2, .int (nI z)), (3, .int v)]) hx hb dX5_filled_28 hl (k := 0) rfl (nI_1 _) (by decide) rfl (fun ls hl => ?_)
          refine lv_goto (tgt := 6) hx hb dX5_filled_31 (by decide) ?_
          have hw := hw.arr (f' := (filF f v a (x + 1))) (ws' := [(q, .inl (g.2.1, 200, .inl (filF f v a (x + 1))))]) 0 rfl (fun j _ => filF_eq f v a x h1 ce j) rfl
          have hl : lv_has ls 6 [(5, .int (nI (x + 1))), (4, .int (nI (cntNe f v a x))), (0, .ref q), (2, .int (nI z)), (3, .int v)] := lv_sub hl [0, 1, 2, 3, 4] rfl
          have hl : lv_has ls 6 [(5, .int (nI (x + 1))), (4, .int (nI (cntNe f v a (x + 1)))), (0, .ref q), (2, .int (nI z)), (3, .int v)] := lv_re hl (by rw [show (nI (cntNe f v a x) : Int32) = nI (cntNe f v a (x + 1)) from congrArg nI ((cntNe_eq f v a x ce).symm)])
          have hw : xW g A0 s0 [(q, .inl (g.2.1, 200, .inl (filF f v a (x + 1))))] _ _ := hw
          exact ih (x + 1) (by omega) (by omega) (by omega) _ _ _ hw hl
        · refine lv_iinc (v := nI (cntNe f v a x + 1)) (lv' := [(4, .int (nI (cntNe f v a x + 1))), (5, .int (nI x)), (0, .ref q), (2, .int (nI z)), (3, .int v)]) hx hb dX5_filled_20 hl (k := 1) rfl (nI_1 _) (by decide) rfl (fun ls hl => ?_)
          refine lv_aload_n hx hb dX5_filled_23 rfl (lv_at hl 2 rfl) ?_
          refine lv_iload hx hb dX5_filled_24 (lv_at hl 1 rfl) ?_
          refine lv_iload_n hx hb dX5_filled_26 rfl (lv_at hl 4 rfl) ?_
          refine x_ist E hw 0 rfl x rfl (by omega) (by decide) (ws' := [(q, .inl (g.2.1, 200, .inl (upd (filF f v a x) x v)))]) rfl dX5_filled_27 (fun H locs hw => ?_)
          refine lv_iinc (v := nI (x + 1)) (lv' := [(5, .int (nI (x + 1))), (4, .int (nI (cntNe f v a x + 1))), (0, .ref q), (2, .int (nI z)), (3, .int v)]) hx hb dX5_filled_28 hl (k := 1) rfl (nI_1 _) (by decide) rfl (fun ls hl => ?_)
          refine lv_goto (tgt := 6) hx hb dX5_filled_31 (by decide) ?_
          have hw := hw.arr (f' := (filF f v a (x + 1))) (ws' := [(q, .inl (g.2.1, 200, .inl (filF f v a (x + 1))))]) 0 rfl (fun j _ => filF_st f v a x h1 j) rfl
          have hl : lv_has ls 6 [(5, .int (nI (x + 1))), (4, .int (nI (cntNe f v a x + 1))), (0, .ref q), (2, .int (nI z)), (3, .int v)] := lv_sub hl [0, 1, 2, 3, 4] rfl
          have hl : lv_has ls 6 [(5, .int (nI (x + 1))), (4, .int (nI (cntNe f v a (x + 1)))), (0, .ref q), (2, .int (nI z)), (3, .int v)] := lv_re hl (by rw [show (nI (cntNe f v a x + 1) : Int32) = nI (cntNe f v a (x + 1)) from congrArg nI ((cntNe_ne f v a x h1 ce).symm)])
          have hw : xW g A0 s0 [(q, .inl (g.2.1, 200, .inl (filF f v a (x + 1))))] _ _ := hw
          exact ih (x + 1) (by omega) (by omega) (by omega) _ _ _ hw hl
  have hw := hw.arr (f' := (filF f v a a)) (ws' := [(q, .inl (g.2.1, 200, .inl (filF f v a a)))]) 0 rfl (fun j _ => (filF_nil f v a j).symm) rfl
  have hl : lv_has ls 6 [(5, .int (nI a)), (4, .int 0), (0, .ref q), (2, .int (nI z)), (3, .int v)] := lv_sub hl [0, 1, 2, 4, 5] rfl
  have hl : lv_has ls 6 [(5, .int (nI a)), (4, .int (nI (cntNe f v a a))), (0, .ref q), (2, .int (nI z)), (3, .int v)] := lv_re hl (by rw [show (0 : Int32) = nI (cntNe f v a a) from congrArg nI ((cntNe_nil f v a).symm)])
  have hw : xW g A0 s0 [(q, .inl (g.2.1, 200, .inl (filF f v a a)))] _ _ := hw
  exact lp_6 ((z + 1 - a) + 1) a (Nat.lt_succ_self _) (by omega) (by omega) _ _ _ hw hl
