
def ceX (c : Nat → Int32) (v : SV) : SV := (v.1, c, v.2.2.1, v.2.2.2.1, v.2.2.2.2.1, v.2.2.2.2.2)
theorem zsub (x : Int32) : (0 : Int32) - x = -x := by rw [Int32.sub_eq_add_neg, Int32.zero_add]
/-- the least from a to a place, as the model goes: the first one twice -/
theorem lsq_y {sq : Nat → Int32} {a k : Nat} (h : ¬ lsq sq a (k - 1) ≤ sq (a + k)) : sq (a + k) = lsq sq a k := by
  cases k with
  | zero => exact rfl
  | succ k => exact (if_pos (Int32.not_le.mp h)).symm
theorem lsq_n {sq : Nat → Int32} {a k : Nat} (h : lsq sq a (k - 1) ≤ sq (a + k)) : lsq sq a (k - 1) = lsq sq a k := by
  cases k with
  | zero => rfl
  | succ k => exact (if_neg (Int32.not_lt.mpr h)).symm
theorem lsq_in {sq : Nat → Int32} {L a : Nat} (h : ∀ x, x < L → 0 ≤ sq x ∧ sq x ≤ 3600) : ∀ d, a + d < L → 0 ≤ lsq sq a d ∧ lsq sq a d ≤ 3600
  | 0, hd => h a hd
  | d + 1, hd => by
    rw [lsq]
    have h1 := lsq_in (a := a) h d (by omega)
    have h2 := h (a + d + 1) (by omega)
    split
    · exact h2
    · exact h1
theorem nat_of {x : Int32} (h : 0 ≤ x ∧ x ≤ 3600) : ∃ y, y < 2 ^ 30 ∧ x = nI y := by
  obtain ⟨j, hj, rfl⟩ := nI_of (Int32.not_lt.mpr h.1)
  have := (n_le hj (b := 3600) (by decide)).mp h.2
  exact ⟨j, by omega, rfl⟩
theorem kpt_n {L a : Nat} (hL1 : 1 ≤ L) (hL : L ≤ 200) (h : a < L) : kpt L (nI (a + 1)) = min (a + 1) (L - 1) := by
  unfold kpt
  rw [nI_clamp (by omega)]
  by_cases h1 : L - 1 < a + 1
  · rw [if_pos ((n_lt (by omega) (by omega)).mpr h1), Nat.min_eq_right (by omega)]
  · rw [if_neg (fun z => h1 ((n_lt (by omega) (by omega)).mp z)), Nat.min_eq_left (by omega)]
/-- the fastest from which it stands within m cells, tried from the top -/
def spdL (gr : Nat → Int32) (b : Int32) (L x m : Nat) : Nat → Nat
  | 0 => 0
  | k + 1 => if 0 ≤ stL gr b (L - x) x x (nI (k + 1) * nI (k + 1)) ∧ stL gr b (L - x) x x (nI (k + 1) * nI (k + 1)) ≤ nI m then k + 1 else spdL gr b L x m k

set_option maxRecDepth 100000 in
set_option maxHeartbeats 4000000 in
theorem c_X8_lengthen (l : Launch) (g : xCfg) (o : Nat → Nat) (hs : Nat) (bads : Int32) (nos : Int32) (fuls : Int32) (cau : Int32) (whe : Int32) (cnt : Nat) (p : Nat) (fau : Int32) (isw : Int32) (ods : Int32) (v : SV) (m : Nat) (hL : v.1 ≤ 200) (hm2 : m ≤ 200) : Ct l g yX8_lengthen cX8_lengthen 4 (some .int) (xR 0 0) [.ref (o 0), .int (nI m)] [(o 0, .inr (8, [.ref (o 1), .ref (o 2), .int (nI hs), .int bads, .int nos, .int fuls, .int cau, .int whe, .ref (o 3), .ref (o 4), .int (nI cnt), .int (nI p), .int fau, .int isw, .int ods, .ref (o 5), .ref (o 6)])), (o 1, .inl (g.2.1, 616, .inl (nwF v)))] (is1 (some (.int (nI v.1))) [(o 0, .inr (8, [.ref (o 1), .ref (o 2), .int (nI hs), .int bads, .int nos, .int fuls, .int cau, .int whe, .ref (o 3), .ref (o 4), .int (nI cnt), .int (nI p), .int fau, .int isw, .int ods, .ref (o 5), .ref (o 6)])), (o 1, .inl (g.2.1, 616, .inl (nwF (lenS m v))))]) := by
  refine Ct.walk (by decide) (Nat.le_of_ble_eq_true rfl) ?_
  intro p0 e0 s0 m0 below meth c0 A0 ls Q hQ E hr hnm hw hl
  have hx := E.x
  have hb := E.b
  have hl : lv_has ls 4 [(0, .ref (o 0)), (1, .int (nI m))] := hl
  refine lv_aload_n hx hb dX8_lengthen_0 rfl (lv_at hl 0 rfl) ?_
  refine x_get E hw kf_X8_7 0 rfl rfl dX8_lengthen_1 ?_
  refine lv_iconst (v := 0) hx hb dX8_lengthen_4 (by decide) ?_
  refine x_ld (v := nI v.1) E hw 1 rfl 0 rfl (by omega) (by decide) rfl dX8_lengthen_5 ?_
  refine lv_istore_n (lv' := [(2, .int (nI v.1)), (0, .ref (o 0)), (1, .int (nI m))]) hx hb dX8_lengthen_6 rfl hl (by decide) rfl (fun ls hl => ?_)
  refine lv_iload_n hx hb dX8_lengthen_7 rfl (lv_at hl 0 rfl) ?_
  refine lv_istore_n (lv' := [(3, .int (nI v.1)), (2, .int (nI v.1)), (0, .ref (o 0)), (1, .int (nI m))]) hx hb dX8_lengthen_8 rfl hl (by decide) rfl (fun ls hl => ?_)
  have lp_9 : ∀ (fuel : Nat) (x : Nat), m - x < fuel → v.1 ≤ x → x = v.1 ∨ x ≤ m → ∀ (H : Heap) (locs : List Loc) (ls : Array Slot), xW g A0 s0 [(o 0, .inr (8, [.ref (o 1), .ref (o 2), .int (nI hs), .int bads, .int nos, .int fuls, .int cau, .int whe, .ref (o 3), .ref (o 4), .int (nI cnt), .int (nI p), .int fau, .int isw, .int ods, .ref (o 5), .ref (o 6)])), (o 1, .inl (g.2.1, 616, .inl (nwF (v.1, filF v.2.1 40 v.1 x, filF v.2.2.1 0 v.1 x, filF v.2.2.2.1 0 v.1 x, v.2.2.2.2.1, v.2.2.2.2.2.1, v.2.2.2.2.2.2.1, v.2.2.2.2.2.2.2.1, v.2.2.2.2.2.2.2.2.1, v.2.2.2.2.2.2.2.2.2.1, v.2.2.2.2.2.2.2.2.2.2.1, v.2.2.2.2.2.2.2.2.2.2.2.1, v.2.2.2.2.2.2.2.2.2.2.2.2))))] H locs → lv_has ls 4 [(3, .int (nI x)), (2, .int (nI v.1)), (0, .ref (o 0)), (1, .int (nI m))] → W p0 l e0 (xR 0 0) s0 m0 [.ref (o 0), .int (nI m)].toArray below meth c0 H locs 0 0 Q (F0 m0 9 ls []) := by
    intro fuel
    induction fuel with
    | zero => intro x hm; exact absurd hm (Nat.not_lt_zero _)
    | succ fuel ih =>
      intro x hm h1 h2 H locs ls hw hl
      refine lv_iload_n hx hb dX8_lengthen_9 rfl (lv_at hl 0 rfl) ?_
      refine lv_iload_n hx hb dX8_lengthen_10 rfl (lv_at hl 3 rfl) ?_
      refine xn_ge (tgt := 61) hx hb x m rfl rfl (by omega) (by omega) dX8_lengthen_11 (by decide) (fun c1 => ?_) (fun c1 => ?_)
      · have hw := hw.arr (f' := (nwF (v.1, filF v.2.1 40 v.1 m, filF v.2.2.1 0 v.1 m, filF v.2.2.2.1 0 v.1 m, v.2.2.2.2.1, v.2.2.2.2.2.1, v.2.2.2.2.2.2.1, v.2.2.2.2.2.2.2.1, v.2.2.2.2.2.2.2.2.1, v.2.2.2.2.2.2.2.2.2.1, v.2.2.2.2.2.2.2.2.2.2.1, v.2.2.2.2.2.2.2.2.2.2.2.1, v.2.2.2.2.2.2.2.2.2.2.2.2))) (ws' := [(o 0, .inr (8, [.ref (o 1), .ref (o 2), .int (nI hs), .int bads, .int nos, .int fuls, .int cau, .int whe, .ref (o 3), .ref (o 4), .int (nI cnt), .int (nI p), .int fau, .int isw, .int ods, .ref (o 5), .ref (o 6)])), (o 1, .inl (g.2.1, 616, .inl (nwF (v.1, filF v.2.1 40 v.1 m, filF v.2.2.1 0 v.1 m, filF v.2.2.2.1 0 v.1 m, v.2.2.2.2.1, v.2.2.2.2.2.1, v.2.2.2.2.2.2.1, v.2.2.2.2.2.2.2.1, v.2.2.2.2.2.2.2.2.1, v.2.2.2.2.2.2.2.2.2.1, v.2.2.2.2.2.2.2.2.2.2.1, v.2.2.2.2.2.2.2.2.2.2.2.1, v.2.2.2.2.2.2.2.2.2.2.2.2))))]) 1 rfl (fun j _ => by rw [show filF v.2.1 40 v.1 x = filF v.2.1 40 v.1 m from funext (filF_end _ _ _ _ _ c1 h2), show filF v.2.2.1 0 v.1 x = filF v.2.2.1 0 v.1 m from funext (filF_end _ _ _ _ _ c1 h2), show filF v.2.2.2.1 0 v.1 x = filF v.2.2.2.1 0 v.1 m from funext (filF_end _ _ _ _ _ c1 h2)]) rfl
        refine lv_aload_n hx hb dX8_lengthen_61 rfl (lv_at hl 2 rfl) ?_
        refine x_get E hw kf_X8_7 0 rfl rfl dX8_lengthen_62 ?_
        refine lv_iconst (v := 0) hx hb dX8_lengthen_65 (by decide) ?_
        refine lv_iload_n hx hb dX8_lengthen_66 rfl (lv_at hl 3 rfl) ?_
        refine x_ist E hw 1 rfl 0 rfl (by omega) (by decide) (ws' := [(o 0, .inr (8, [.ref (o 1), .ref (o 2), .int (nI hs), .int bads, .int nos, .int fuls, .int cau, .int whe, .ref (o 3), .ref (o 4), .int (nI cnt), .int (nI p), .int fau, .int isw, .int ods, .ref (o 5), .ref (o 6)])), (o 1, .inl (g.2.1, 616, .inl (upd (nwF (v.1, filF v.2.1 40 v.1 m, filF v.2.2.1 0 v.1 m, filF v.2.2.2.1 0 v.1 m, v.2.2.2.2.1, v.2.2.2.2.2.1, v.2.2.2.2.2.2.1, v.2.2.2.2.2.2.2.1, v.2.2.2.2.2.2.2.2.1, v.2.2.2.2.2.2.2.2.2.1, v.2.2.2.2.2.2.2.2.2.2.1, v.2.2.2.2.2.2.2.2.2.2.2.1, v.2.2.2.2.2.2.2.2.2.2.2.2)) 0 (nI m))))]) rfl dX8_lengthen_67 (fun H locs hw => ?_)
        have hw := hw.arr (f' := (nwF (m, filF v.2.1 40 v.1 m, filF v.2.2.1 0 v.1 m, filF v.2.2.2.1 0 v.1 m, v.2.2.2.2.1, v.2.2.2.2.2.1, v.2.2.2.2.2.2.1, v.2.2.2.2.2.2.2.1, v.2.2.2.2.2.2.2.2.1, v.2.2.2.2.2.2.2.2.2.1, v.2.2.2.2.2.2.2.2.2.2.1, v.2.2.2.2.2.2.2.2.2.2.2.1, v.2.2.2.2.2.2.2.2.2.2.2.2))) (ws' := [(o 0, .inr (8, [.ref (o 1), .ref (o 2), .int (nI hs), .int bads, .int nos, .int fuls, .int cau, .int whe, .ref (o 3), .ref (o 4), .int (nI cnt), .int (nI p), .int fau, .int isw, .int ods, .ref (o 5), .ref (o 6)])), (o 1, .inl (g.2.1, 616, .inl (nwF (m, filF v.2.1 40 v.1 m, filF v.2.2.1 0 v.1 m, filF v.2.2.2.1 0 v.1 m, v.2.2.2.2.1, v.2.2.2.2.2.1, v.2.2.2.2.2.2.1, v.2.2.2.2.2.2.2.1, v.2.2.2.2.2.2.2.2.1, v.2.2.2.2.2.2.2.2.2.1, v.2.2.2.2.2.2.2.2.2.2.1, v.2.2.2.2.2.2.2.2.2.2.2.1, v.2.2.2.2.2.2.2.2.2.2.2.2))))]) 1 rfl (fun j _ => nwU_0 _ _ j) rfl
        refine lv_aload_n hx hb dX8_lengthen_68 rfl (lv_at hl 2 rfl) ?_
        refine x_get E hw kf_X8_7 0 rfl rfl dX8_lengthen_69 ?_
        refine lv_bipush (v := 8) hx hb dX8_lengthen_72 (by decide) ?_
        refine lv_iconst (v := 0) hx hb dX8_lengthen_74 (by decide) ?_
        refine x_ist E hw 1 rfl 8 rfl (by omega) (by decide) (ws' := [(o 0, .inr (8, [.ref (o 1), .ref (o 2), .int (nI hs), .int bads, .int nos, .int fuls, .int cau, .int whe, .ref (o 3), .ref (o 4), .int (nI cnt), .int (nI p), .int fau, .int isw, .int ods, .ref (o 5), .ref (o 6)])), (o 1, .inl (g.2.1, 616, .inl (upd (nwF (m, filF v.2.1 40 v.1 m, filF v.2.2.1 0 v.1 m, filF v.2.2.2.1 0 v.1 m, v.2.2.2.2.1, v.2.2.2.2.2.1, v.2.2.2.2.2.2.1, v.2.2.2.2.2.2.2.1, v.2.2.2.2.2.2.2.2.1, v.2.2.2.2.2.2.2.2.2.1, v.2.2.2.2.2.2.2.2.2.2.1, v.2.2.2.2.2.2.2.2.2.2.2.1, v.2.2.2.2.2.2.2.2.2.2.2.2)) 8 0)))]) rfl dX8_lengthen_75 (fun H locs hw => ?_)
        have hw := hw.arr (f' := (nwF (m, filF v.2.1 40 v.1 m, filF v.2.2.1 0 v.1 m, filF v.2.2.2.1 0 v.1 m, v.2.2.2.2.1, 0, v.2.2.2.2.2.2.1, v.2.2.2.2.2.2.2.1, v.2.2.2.2.2.2.2.2.1, v.2.2.2.2.2.2.2.2.2.1, v.2.2.2.2.2.2.2.2.2.2.1, v.2.2.2.2.2.2.2.2.2.2.2.1, v.2.2.2.2.2.2.2.2.2.2.2.2))) (ws' := [(o 0, .inr (8, [.ref (o 1), .ref (o 2), .int (nI hs), .int bads, .int nos, .int fuls, .int cau, .int whe, .ref (o 3), .ref (o 4), .int (nI cnt), .int (nI p), .int fau, .int isw, .int ods, .ref (o 5), .ref (o 6)])), (o 1, .inl (g.2.1, 616, .inl (nwF (m, filF v.2.1 40 v.1 m, filF v.2.2.1 0 v.1 m, filF v.2.2.2.1 0 v.1 m, v.2.2.2.2.1, 0, v.2.2.2.2.2.2.1, v.2.2.2.2.2.2.2.1, v.2.2.2.2.2.2.2.2.1, v.2.2.2.2.2.2.2.2.2.1, v.2.2.2.2.2.2.2.2.2.2.1, v.2.2.2.2.2.2.2.2.2.2.2.1, v.2.2.2.2.2.2.2.2.2.2.2.2))))]) 1 rfl (fun j _ => nwU_8 _ _ j) rfl
        refine lv_aload_n hx hb dX8_lengthen_76 rfl (lv_at hl 2 rfl) ?_
        refine x_get E hw kf_X8_7 0 rfl rfl dX8_lengthen_77 ?_
        refine lv_bipush (v := 9) hx hb dX8_lengthen_80 (by decide) ?_
        refine lv_iconst (v := 0) hx hb dX8_lengthen_82 (by decide) ?_
        refine x_ist E hw 1 rfl 9 rfl (by omega) (by decide) (ws' := [(o 0, .inr (8, [.ref (o 1), .ref (o 2), .int (nI hs), .int bads, .int nos, .int fuls, .int cau, .int whe, .ref (o 3), .ref (o 4), .int (nI cnt), .int (nI p), .int fau, .int isw, .int ods, .ref (o 5), .ref (o 6)])), (o 1, .inl (g.2.1, 616, .inl (upd (nwF (m, filF v.2.1 40 v.1 m, filF v.2.2.1 0 v.1 m, filF v.2.2.2.1 0 v.1 m, v.2.2.2.2.1, 0, v.2.2.2.2.2.2.1, v.2.2.2.2.2.2.2.1, v.2.2.2.2.2.2.2.2.1, v.2.2.2.2.2.2.2.2.2.1, v.2.2.2.2.2.2.2.2.2.2.1, v.2.2.2.2.2.2.2.2.2.2.2.1, v.2.2.2.2.2.2.2.2.2.2.2.2)) 9 0)))]) rfl dX8_lengthen_83 (fun H locs hw => ?_)
        have hw := hw.arr (f' := (nwF (m, filF v.2.1 40 v.1 m, filF v.2.2.1 0 v.1 m, filF v.2.2.2.1 0 v.1 m, v.2.2.2.2.1, 0, 0, v.2.2.2.2.2.2.2.1, v.2.2.2.2.2.2.2.2.1, v.2.2.2.2.2.2.2.2.2.1, v.2.2.2.2.2.2.2.2.2.2.1, v.2.2.2.2.2.2.2.2.2.2.2.1, v.2.2.2.2.2.2.2.2.2.2.2.2))) (ws' := [(o 0, .inr (8, [.ref (o 1), .ref (o 2), .int (nI hs), .int bads, .int nos, .int fuls, .int cau, .int whe, .ref (o 3), .ref (o 4), .int (nI cnt), .int (nI p), .int fau, .int isw, .int ods, .ref (o 5), .ref (o 6)])), (o 1, .inl (g.2.1, 616, .inl (nwF (m, filF v.2.1 40 v.1 m, filF v.2.2.1 0 v.1 m, filF v.2.2.2.1 0 v.1 m, v.2.2.2.2.1, 0, 0, v.2.2.2.2.2.2.2.1, v.2.2.2.2.2.2.2.2.1, v.2.2.2.2.2.2.2.2.2.1, v.2.2.2.2.2.2.2.2.2.2.1, v.2.2.2.2.2.2.2.2.2.2.2.1, v.2.2.2.2.2.2.2.2.2.2.2.2))))]) 1 rfl (fun j _ => nwU_9 _ _ j) rfl
        refine lv_aload_n hx hb dX8_lengthen_84 rfl (lv_at hl 2 rfl) ?_
        refine x_get E hw kf_X8_7 0 rfl rfl dX8_lengthen_85 ?_
        refine lv_bipush (v := 10) hx hb dX8_lengthen_88 (by decide) ?_
        refine lv_iconst (v := 0) hx hb dX8_lengthen_90 (by decide) ?_
        refine x_ist E hw 1 rfl 10 rfl (by omega) (by decide) (ws' := [(o 0, .inr (8, [.ref (o 1), .ref (o 2), .int (nI hs), .int bads, .int nos, .int fuls, .int cau, .int whe, .ref (o 3), .ref (o 4), .int (nI cnt), .int (nI p), .int fau, .int isw, .int ods, .ref (o 5), .ref (o 6)])), (o 1, .inl (g.2.1, 616, .inl (upd (nwF (m, filF v.2.1 40 v.1 m, filF v.2.2.1 0 v.1 m, filF v.2.2.2.1 0 v.1 m, v.2.2.2.2.1, 0, 0, v.2.2.2.2.2.2.2.1, v.2.2.2.2.2.2.2.2.1, v.2.2.2.2.2.2.2.2.2.1, v.2.2.2.2.2.2.2.2.2.2.1, v.2.2.2.2.2.2.2.2.2.2.2.1, v.2.2.2.2.2.2.2.2.2.2.2.2)) 10 0)))]) rfl dX8_lengthen_91 (fun H locs hw => ?_)
        have hw := hw.arr (f' := (nwF (m, filF v.2.1 40 v.1 m, filF v.2.2.1 0 v.1 m, filF v.2.2.2.1 0 v.1 m, v.2.2.2.2.1, 0, 0, 0, v.2.2.2.2.2.2.2.2.1, v.2.2.2.2.2.2.2.2.2.1, v.2.2.2.2.2.2.2.2.2.2.1, v.2.2.2.2.2.2.2.2.2.2.2.1, v.2.2.2.2.2.2.2.2.2.2.2.2))) (ws' := [(o 0, .inr (8, [.ref (o 1), .ref (o 2), .int (nI hs), .int bads, .int nos, .int fuls, .int cau, .int whe, .ref (o 3), .ref (o 4), .int (nI cnt), .int (nI p), .int fau, .int isw, .int ods, .ref (o 5), .ref (o 6)])), (o 1, .inl (g.2.1, 616, .inl (nwF (m, filF v.2.1 40 v.1 m, filF v.2.2.1 0 v.1 m, filF v.2.2.2.1 0 v.1 m, v.2.2.2.2.1, 0, 0, 0, v.2.2.2.2.2.2.2.2.1, v.2.2.2.2.2.2.2.2.2.1, v.2.2.2.2.2.2.2.2.2.2.1, v.2.2.2.2.2.2.2.2.2.2.2.1, v.2.2.2.2.2.2.2.2.2.2.2.2))))]) 1 rfl (fun j _ => nwU_10 _ _ j) rfl
        refine lv_aload_n hx hb dX8_lengthen_92 rfl (lv_at hl 2 rfl) ?_
        refine x_get E hw kf_X8_7 0 rfl rfl dX8_lengthen_93 ?_
        refine lv_bipush (v := 11) hx hb dX8_lengthen_96 (by decide) ?_
        refine lv_iconst (v := 0) hx hb dX8_lengthen_98 (by decide) ?_
        refine x_ist E hw 1 rfl 11 rfl (by omega) (by decide) (ws' := [(o 0, .inr (8, [.ref (o 1), .ref (o 2), .int (nI hs), .int bads, .int nos, .int fuls, .int cau, .int whe, .ref (o 3), .ref (o 4), .int (nI cnt), .int (nI p), .int fau, .int isw, .int ods, .ref (o 5), .ref (o 6)])), (o 1, .inl (g.2.1, 616, .inl (upd (nwF (m, filF v.2.1 40 v.1 m, filF v.2.2.1 0 v.1 m, filF v.2.2.2.1 0 v.1 m, v.2.2.2.2.1, 0, 0, 0, v.2.2.2.2.2.2.2.2.1, v.2.2.2.2.2.2.2.2.2.1, v.2.2.2.2.2.2.2.2.2.2.1, v.2.2.2.2.2.2.2.2.2.2.2.1, v.2.2.2.2.2.2.2.2.2.2.2.2)) 11 0)))]) rfl dX8_lengthen_99 (fun H locs hw => ?_)
        have hw := hw.arr (f' := (nwF (m, filF v.2.1 40 v.1 m, filF v.2.2.1 0 v.1 m, filF v.2.2.2.1 0 v.1 m, v.2.2.2.2.1, 0, 0, 0, 0, v.2.2.2.2.2.2.2.2.2.1, v.2.2.2.2.2.2.2.2.2.2.1, v.2.2.2.2.2.2.2.2.2.2.2.1, v.2.2.2.2.2.2.2.2.2.2.2.2))) (ws' := [(o 0, .inr (8, [.ref (o 1), .ref (o 2), .int (nI hs), .int bads, .int nos, .int fuls, .int cau, .int whe, .ref (o 3), .ref (o 4), .int (nI cnt), .int (nI p), .int fau, .int isw, .int ods, .ref (o 5), .ref (o 6)])), (o 1, .inl (g.2.1, 616, .inl (nwF (m, filF v.2.1 40 v.1 m, filF v.2.2.1 0 v.1 m, filF v.2.2.2.1 0 v.1 m, v.2.2.2.2.1, 0, 0, 0, 0, v.2.2.2.2.2.2.2.2.2.1, v.2.2.2.2.2.2.2.2.2.2.1, v.2.2.2.2.2.2.2.2.2.2.2.1, v.2.2.2.2.2.2.2.2.2.2.2.2))))]) 1 rfl (fun j _ => nwU_11 _ _ j) rfl
        refine lv_aload_n hx hb dX8_lengthen_100 rfl (lv_at hl 2 rfl) ?_
        refine x_get E hw kf_X8_7 0 rfl rfl dX8_lengthen_101 ?_
        refine lv_bipush (v := 12) hx hb dX8_lengthen_104 (by decide) ?_
        refine lv_iconst (v := 0) hx hb dX8_lengthen_106 (by decide) ?_
        refine x_ist E hw 1 rfl 12 rfl (by omega) (by decide) (ws' := [(o 0, .inr (8, [.ref (o 1), .ref (o 2), .int (nI hs), .int bads, .int nos, .int fuls, .int cau, .int whe, .ref (o 3), .ref (o 4), .int (nI cnt), .int (nI p), .int fau, .int isw, .int ods, .ref (o 5), .ref (o 6)])), (o 1, .inl (g.2.1, 616, .inl (upd (nwF (m, filF v.2.1 40 v.1 m, filF v.2.2.1 0 v.1 m, filF v.2.2.2.1 0 v.1 m, v.2.2.2.2.1, 0, 0, 0, 0, v.2.2.2.2.2.2.2.2.2.1, v.2.2.2.2.2.2.2.2.2.2.1, v.2.2.2.2.2.2.2.2.2.2.2.1, v.2.2.2.2.2.2.2.2.2.2.2.2)) 12 0)))]) rfl dX8_lengthen_107 (fun H locs hw => ?_)
        have hw := hw.arr (f' := (nwF (m, filF v.2.1 40 v.1 m, filF v.2.2.1 0 v.1 m, filF v.2.2.2.1 0 v.1 m, v.2.2.2.2.1, 0, 0, 0, 0, 0, v.2.2.2.2.2.2.2.2.2.2.1, v.2.2.2.2.2.2.2.2.2.2.2.1, v.2.2.2.2.2.2.2.2.2.2.2.2))) (ws' := [(o 0, .inr (8, [.ref (o 1), .ref (o 2), .int (nI hs), .int bads, .int nos, .int fuls, .int cau, .int whe, .ref (o 3), .ref (o 4), .int (nI cnt), .int (nI p), .int fau, .int isw, .int ods, .ref (o 5), .ref (o 6)])), (o 1, .inl (g.2.1, 616, .inl (nwF (m, filF v.2.1 40 v.1 m, filF v.2.2.1 0 v.1 m, filF v.2.2.2.1 0 v.1 m, v.2.2.2.2.1, 0, 0, 0, 0, 0, v.2.2.2.2.2.2.2.2.2.2.1, v.2.2.2.2.2.2.2.2.2.2.2.1, v.2.2.2.2.2.2.2.2.2.2.2.2))))]) 1 rfl (fun j _ => nwU_12 _ _ j) rfl
        refine lv_iload_n hx hb dX8_lengthen_108 rfl (lv_at hl 1 rfl) ?_
        exact xr_i hQ E hr hw dX8_lengthen_109 ⟨rfl, rfl⟩
      · refine lv_aload_n hx hb dX8_lengthen_14 rfl (lv_at hl 2 rfl) ?_
        refine x_get E hw kf_X8_7 0 rfl rfl dX8_lengthen_15 ?_
        refine lv_bipush (v := 16) hx hb dX8_lengthen_18 (by decide) ?_
        refine lv_iconst (v := 3) hx hb dX8_lengthen_20 (by decide) ?_
        refine lv_iload_n hx hb dX8_lengthen_21 rfl (lv_at hl 0 rfl) ?_
        refine xn_mul hx hb 3 x rfl rfl dX8_lengthen_22 ?_
        refine xn_add hx hb 16 (3 * x) rfl rfl dX8_lengthen_23 ?_
        refine lv_bipush (v := 40) hx hb dX8_lengthen_24 (by decide) ?_
        refine x_ist E hw 1 rfl (16 + 3 * x) rfl (by omega) (by decide) (ws' := [(o 0, .inr (8, [.ref (o 1), .ref (o 2), .int (nI hs), .int bads, .int nos, .int fuls, .int cau, .int whe, .ref (o 3), .ref (o 4), .int (nI cnt), .int (nI p), .int fau, .int isw, .int ods, .ref (o 5), .ref (o 6)])), (o 1, .inl (g.2.1, 616, .inl (upd (nwF (v.1, filF v.2.1 40 v.1 x, filF v.2.2.1 0 v.1 x, filF v.2.2.2.1 0 v.1 x, v.2.2.2.2.1, v.2.2.2.2.2.1, v.2.2.2.2.2.2.1, v.2.2.2.2.2.2.2.1, v.2.2.2.2.2.2.2.2.1, v.2.2.2.2.2.2.2.2.2.1, v.2.2.2.2.2.2.2.2.2.2.1, v.2.2.2.2.2.2.2.2.2.2.2.1, v.2.2.2.2.2.2.2.2.2.2.2.2)) (16 + 3 * x) 40)))]) rfl dX8_lengthen_26 (fun H locs hw => ?_)
        have hw := hw.arr (f' := (nwF (v.1, upd (filF v.2.1 40 v.1 x) x 40, filF v.2.2.1 0 v.1 x, filF v.2.2.2.1 0 v.1 x, v.2.2.2.2.1, v.2.2.2.2.2.1, v.2.2.2.2.2.2.1, v.2.2.2.2.2.2.2.1, v.2.2.2.2.2.2.2.2.1, v.2.2.2.2.2.2.2.2.2.1, v.2.2.2.2.2.2.2.2.2.2.1, v.2.2.2.2.2.2.2.2.2.2.2.1, v.2.2.2.2.2.2.2.2.2.2.2.2))) (ws' := [(o 0, .inr (8, [.ref (o 1), .ref (o 2), .int (nI hs), .int bads, .int nos, .int fuls, .int cau, .int whe, .ref (o 3), .ref (o 4), .int (nI cnt), .int (nI p), .int fau, .int isw, .int ods, .ref (o 5), .ref (o 6)])), (o 1, .inl (g.2.1, 616, .inl (nwF (v.1, upd (filF v.2.1 40 v.1 x) x 40, filF v.2.2.1 0 v.1 x, filF v.2.2.2.1 0 v.1 x, v.2.2.2.2.1, v.2.2.2.2.2.1, v.2.2.2.2.2.2.1, v.2.2.2.2.2.2.2.1, v.2.2.2.2.2.2.2.2.1, v.2.2.2.2.2.2.2.2.2.1, v.2.2.2.2.2.2.2.2.2.2.1, v.2.2.2.2.2.2.2.2.2.2.2.1, v.2.2.2.2.2.2.2.2.2.2.2.2))))]) 1 rfl (fun j _ => nwU_ce _ _ _ j) rfl
        refine lv_aload_n hx hb dX8_lengthen_27 rfl (lv_at hl 2 rfl) ?_
        refine x_get E hw kf_X8_7 0 rfl rfl dX8_lengthen_28 ?_
        refine lv_bipush (v := 16) hx hb dX8_lengthen_31 (by decide) ?_
        refine lv_iconst (v := 3) hx hb dX8_lengthen_33 (by decide) ?_
        refine lv_iload_n hx hb dX8_lengthen_34 rfl (lv_at hl 0 rfl) ?_
        refine xn_mul hx hb 3 x rfl rfl dX8_lengthen_35 ?_
        refine xn_add hx hb 16 (3 * x) rfl rfl dX8_lengthen_36 ?_
        refine lv_iconst (v := 1) hx hb dX8_lengthen_37 (by decide) ?_
        refine xn_add hx hb (16 + 3 * x) 1 rfl rfl dX8_lengthen_38 ?_
        refine lv_iconst (v := 0) hx hb dX8_lengthen_39 (by decide) ?_
        refine x_ist E hw 1 rfl (16 + 3 * x + 1) rfl (by omega) (by decide) (ws' := [(o 0, .inr (8, [.ref (o 1), .ref (o 2), .int (nI hs), .int bads, .int nos, .int fuls, .int cau, .int whe, .ref (o 3), .ref (o 4), .int (nI cnt), .int (nI p), .int fau, .int isw, .int ods, .ref (o 5), .ref (o 6)])), (o 1, .inl (g.2.1, 616, .inl (upd (nwF (v.1, upd (filF v.2.1 40 v.1 x) x 40, filF v.2.2.1 0 v.1 x, filF v.2.2.2.1 0 v.1 x, v.2.2.2.2.1, v.2.2.2.2.2.1, v.2.2.2.2.2.2.1, v.2.2.2.2.2.2.2.1, v.2.2.2.2.2.2.2.2.1, v.2.2.2.2.2.2.2.2.2.1, v.2.2.2.2.2.2.2.2.2.2.1, v.2.2.2.2.2.2.2.2.2.2.2.1, v.2.2.2.2.2.2.2.2.2.2.2.2)) (16 + 3 * x + 1) 0)))]) rfl dX8_lengthen_40 (fun H locs hw => ?_)
        have hw := hw.arr (f' := (nwF (v.1, upd (filF v.2.1 40 v.1 x) x 40, upd (filF v.2.2.1 0 v.1 x) x 0, filF v.2.2.2.1 0 v.1 x, v.2.2.2.2.1, v.2.2.2.2.2.1, v.2.2.2.2.2.2.1, v.2.2.2.2.2.2.2.1, v.2.2.2.2.2.2.2.2.1, v.2.2.2.2.2.2.2.2.2.1, v.2.2.2.2.2.2.2.2.2.2.1, v.2.2.2.2.2.2.2.2.2.2.2.1, v.2.2.2.2.2.2.2.2.2.2.2.2))) (ws' := [(o 0, .inr (8, [.ref (o 1), .ref (o 2), .int (nI hs), .int bads, .int nos, .int fuls, .int cau, .int whe, .ref (o 3), .ref (o 4), .int (nI cnt), .int (nI p), .int fau, .int isw, .int ods, .ref (o 5), .ref (o 6)])), (o 1, .inl (g.2.1, 616, .inl (nwF (v.1, upd (filF v.2.1 40 v.1 x) x 40, upd (filF v.2.2.1 0 v.1 x) x 0, filF v.2.2.2.1 0 v.1 x, v.2.2.2.2.1, v.2.2.2.2.2.1, v.2.2.2.2.2.2.1, v.2.2.2.2.2.2.2.1, v.2.2.2.2.2.2.2.2.1, v.2.2.2.2.2.2.2.2.2.1, v.2.2.2.2.2.2.2.2.2.2.1, v.2.2.2.2.2.2.2.2.2.2.2.1, v.2.2.2.2.2.2.2.2.2.2.2.2))))]) 1 rfl (fun j _ => nwU_gr _ _ _ j) rfl
        refine lv_aload_n hx hb dX8_lengthen_41 rfl (lv_at hl 2 rfl) ?_
        refine x_get E hw kf_X8_7 0 rfl rfl dX8_lengthen_42 ?_
        refine lv_bipush (v := 16) hx hb dX8_lengthen_45 (by decide) ?_
        refine lv_iconst (v := 3) hx hb dX8_lengthen_47 (by decide) ?_
        refine lv_iload_n hx hb dX8_lengthen_48 rfl (lv_at hl 0 rfl) ?_
        refine xn_mul hx hb 3 x rfl rfl dX8_lengthen_49 ?_
        refine xn_add hx hb 16 (3 * x) rfl rfl dX8_lengthen_50 ?_
        refine lv_iconst (v := 2) hx hb dX8_lengthen_51 (by decide) ?_
        refine xn_add hx hb (16 + 3 * x) 2 rfl rfl dX8_lengthen_52 ?_
        refine lv_iconst (v := 0) hx hb dX8_lengthen_53 (by decide) ?_
        refine x_ist E hw 1 rfl (16 + 3 * x + 2) rfl (by omega) (by decide) (ws' := [(o 0, .inr (8, [.ref (o 1), .ref (o 2), .int (nI hs), .int bads, .int nos, .int fuls, .int cau, .int whe, .ref (o 3), .ref (o 4), .int (nI cnt), .int (nI p), .int fau, .int isw, .int ods, .ref (o 5), .ref (o 6)])), (o 1, .inl (g.2.1, 616, .inl (upd (nwF (v.1, upd (filF v.2.1 40 v.1 x) x 40, upd (filF v.2.2.1 0 v.1 x) x 0, filF v.2.2.2.1 0 v.1 x, v.2.2.2.2.1, v.2.2.2.2.2.1, v.2.2.2.2.2.2.1, v.2.2.2.2.2.2.2.1, v.2.2.2.2.2.2.2.2.1, v.2.2.2.2.2.2.2.2.2.1, v.2.2.2.2.2.2.2.2.2.2.1, v.2.2.2.2.2.2.2.2.2.2.2.1, v.2.2.2.2.2.2.2.2.2.2.2.2)) (16 + 3 * x + 2) 0)))]) rfl dX8_lengthen_54 (fun H locs hw => ?_)
        have hw := hw.arr (f' := (nwF (v.1, upd (filF v.2.1 40 v.1 x) x 40, upd (filF v.2.2.1 0 v.1 x) x 0, upd (filF v.2.2.2.1 0 v.1 x) x 0, v.2.2.2.2.1, v.2.2.2.2.2.1, v.2.2.2.2.2.2.1, v.2.2.2.2.2.2.2.1, v.2.2.2.2.2.2.2.2.1, v.2.2.2.2.2.2.2.2.2.1, v.2.2.2.2.2.2.2.2.2.2.1, v.2.2.2.2.2.2.2.2.2.2.2.1, v.2.2.2.2.2.2.2.2.2.2.2.2))) (ws' := [(o 0, .inr (8, [.ref (o 1), .ref (o 2), .int (nI hs), .int bads, .int nos, .int fuls, .int cau, .int whe, .ref (o 3), .ref (o 4), .int (nI cnt), .int (nI p), .int fau, .int isw, .int ods, .ref (o 5), .ref (o 6)])), (o 1, .inl (g.2.1, 616, .inl (nwF (v.1, upd (filF v.2.1 40 v.1 x) x 40, upd (filF v.2.2.1 0 v.1 x) x 0, upd (filF v.2.2.2.1 0 v.1 x) x 0, v.2.2.2.2.1, v.2.2.2.2.2.1, v.2.2.2.2.2.2.1, v.2.2.2.2.2.2.2.1, v.2.2.2.2.2.2.2.2.1, v.2.2.2.2.2.2.2.2.2.1, v.2.2.2.2.2.2.2.2.2.2.1, v.2.2.2.2.2.2.2.2.2.2.2.1, v.2.2.2.2.2.2.2.2.2.2.2.2))))]) 1 rfl (fun j _ => nwU_be _ _ _ j) rfl
        refine lv_iinc (v := nI (x + 1)) (lv' := [(3, .int (nI (x + 1))), (2, .int (nI v.1)), (0, .ref (o 0)), (1, .int (nI m))]) hx hb dX8_lengthen_55 hl (k := 0) rfl (nI_1 _) (by decide) rfl (fun ls hl => ?_)
        refine lv_goto (tgt := 9) hx hb dX8_lengthen_58 (by decide) ?_
        have hw := hw.arr (f' := (nwF (v.1, filF v.2.1 40 v.1 (x + 1), filF v.2.2.1 0 v.1 (x + 1), filF v.2.2.2.1 0 v.1 (x + 1), v.2.2.2.2.1, v.2.2.2.2.2.1, v.2.2.2.2.2.2.1, v.2.2.2.2.2.2.2.1, v.2.2.2.2.2.2.2.2.1, v.2.2.2.2.2.2.2.2.2.1, v.2.2.2.2.2.2.2.2.2.2.1, v.2.2.2.2.2.2.2.2.2.2.2.1, v.2.2.2.2.2.2.2.2.2.2.2.2))) (ws' := [(o 0, .inr (8, [.ref (o 1), .ref (o 2), .int (nI hs), .int bads, .int nos, .int fuls, .int cau, .int whe, .ref (o 3), .ref (o 4), .int (nI cnt), .int (nI p), .int fau, .int isw, .int ods, .ref (o 5), .ref (o 6)])), (o 1, .inl (g.2.1, 616, .inl (nwF (v.1, filF v.2.1 40 v.1 (x + 1), filF v.2.2.1 0 v.1 (x + 1), filF v.2.2.2.1 0 v.1 (x + 1), v.2.2.2.2.1, v.2.2.2.2.2.1, v.2.2.2.2.2.2.1, v.2.2.2.2.2.2.2.1, v.2.2.2.2.2.2.2.2.1, v.2.2.2.2.2.2.2.2.2.1, v.2.2.2.2.2.2.2.2.2.2.1, v.2.2.2.2.2.2.2.2.2.2.2.1, v.2.2.2.2.2.2.2.2.2.2.2.2))))]) 1 rfl (fun j _ => by rw [show upd (filF v.2.1 40 v.1 x) x 40 = filF v.2.1 40 v.1 (x + 1) from funext (filF_st _ _ _ _ h1), show upd (filF v.2.2.1 0 v.1 x) x 0 = filF v.2.2.1 0 v.1 (x + 1) from funext (filF_st _ _ _ _ h1), show upd (filF v.2.2.2.1 0 v.1 x) x 0 = filF v.2.2.2.1 0 v.1 (x + 1) from funext (filF_st _ _ _ _ h1)]) rfl
        have hl : lv_has ls 4 [(3, .int (nI (x + 1))), (2, .int (nI v.1)), (0, .ref (o 0)), (1, .int (nI m))] := lv_sub hl [0, 1, 2, 3] rfl
        have hl : lv_has ls 4 [(3, .int (nI (x + 1))), (2, .int (nI v.1)), (0, .ref (o 0)), (1, .int (nI m))] := hl
        have hw : xW g A0 s0 [(o 0, .inr (8, [.ref (o 1), .ref (o 2), .int (nI hs), .int bads, .int nos, .int fuls, .int cau, .int whe, .ref (o 3), .ref (o 4), .int (nI cnt), .int (nI p), .int fau, .int isw, .int ods, .ref (o 5), .ref (o 6)])), (o 1, .inl (g.2.1, 616, .inl (nwF (v.1, filF v.2.1 40 v.1 (x + 1), filF v.2.2.1 0 v.1 (x + 1), filF v.2.2.2.1 0 v.1 (x + 1), v.2.2.2.2.1, v.2.2.2.2.2.1, v.2.2.2.2.2.2.1, v.2.2.2.2.2.2.2.1, v.2.2.2.2.2.2.2.2.1, v.2.2.2.2.2.2.2.2.2.1, v.2.2.2.2.2.2.2.2.2.2.1, v.2.2.2.2.2.2.2.2.2.2.2.1, v.2.2.2.2.2.2.2.2.2.2.2.2))))] _ _ := hw
        exact ih (x + 1) (by omega) (by omega) (by omega) _ _ _ hw hl
  have hw := hw.arr (f' := (nwF (v.1, filF v.2.1 40 v.1 v.1, filF v.2.2.1 0 v.1 v.1, filF v.2.2.2.1 0 v.1 v.1, v.2.2.2.2.1, v.2.2.2.2.2.1, v.2.2.2.2.2.2.1, v.2.2.2.2.2.2.2.1, v.2.2.2.2.2.2.2.2.1, v.2.2.2.2.2.2.2.2.2.1, v.2.2.2.2.2.2.2.2.2.2.1, v.2.2.2.2.2.2.2.2.2.2.2.1, v.2.2.2.2.2.2.2.2.2.2.2.2))) (ws' := [(o 0, .inr (8, [.ref (o 1), .ref (o 2), .int (nI hs), .int bads, .int nos, .int fuls, .int cau, .int whe, .ref (o 3), .ref (o 4), .int (nI cnt), .int (nI p), .int fau, .int isw, .int ods, .ref (o 5), .ref (o 6)])), (o 1, .inl (g.2.1, 616, .inl (nwF (v.1, filF v.2.1 40 v.1 v.1, filF v.2.2.1 0 v.1 v.1, filF v.2.2.2.1 0 v.1 v.1, v.2.2.2.2.1, v.2.2.2.2.2.1, v.2.2.2.2.2.2.1, v.2.2.2.2.2.2.2.1, v.2.2.2.2.2.2.2.2.1, v.2.2.2.2.2.2.2.2.2.1, v.2.2.2.2.2.2.2.2.2.2.1, v.2.2.2.2.2.2.2.2.2.2.2.1, v.2.2.2.2.2.2.2.2.2.2.2.2))))]) 1 rfl (fun j _ => by rw [show filF v.2.1 40 v.1 v.1 = v.2.1 from funext (filF_nil _ _ _), show filF v.2.2.1 0 v.1 v.1 = v.2.2.1 from funext (filF_nil _ _ _), show filF v.2.2.2.1 0 v.1 v.1 = v.2.2.2.1 from funext (filF_nil _ _ _)]) rfl
  have hl : lv_has ls 4 [(3, .int (nI v.1)), (2, .int (nI v.1)), (0, .ref (o 0)), (1, .int (nI m))] := lv_sub hl [0, 1, 2, 3] rfl
  have hl : lv_has ls 4 [(3, .int (nI v.1)), (2, .int (nI v.1)), (0, .ref (o 0)), (1, .int (nI m))] := hl
  have hw : xW g A0 s0 [(o 0, .inr (8, [.ref (o 1), .ref (o 2), .int (nI hs), .int bads, .int nos, .int fuls, .int cau, .int whe, .ref (o 3), .ref (o 4), .int (nI cnt), .int (nI p), .int fau, .int isw, .int ods, .ref (o 5), .ref (o 6)])), (o 1, .inl (g.2.1, 616, .inl (nwF (v.1, filF v.2.1 40 v.1 v.1, filF v.2.2.1 0 v.1 v.1, filF v.2.2.2.1 0 v.1 v.1, v.2.2.2.2.1, v.2.2.2.2.2.1, v.2.2.2.2.2.2.1, v.2.2.2.2.2.2.2.1, v.2.2.2.2.2.2.2.2.1, v.2.2.2.2.2.2.2.2.2.1, v.2.2.2.2.2.2.2.2.2.2.1, v.2.2.2.2.2.2.2.2.2.2.2.1, v.2.2.2.2.2.2.2.2.2.2.2.2))))] _ _ := hw
  exact lp_9 ((m - v.1) + 1) v.1 (Nat.lt_succ_self _) (by omega) (by omega) _ _ _ hw hl

set_option maxRecDepth 100000 in
set_option maxHeartbeats 4000000 in
theorem c_X8_lay_c (l : Launch) (g : xCfg) (o : Nat → Nat) (hs : Nat) (bads : Int32) (nos : Int32) (fuls : Int32) (cau : Int32) (whe : Int32) (cnt : Nat) (p : Nat) (fau : Int32) (isw : Int32) (ods : Int32) (v : SV) (a : Nat) (z : Nat) (u : Int32) (hz : z < 200) (ha : a ≤ z + 1) : Ct l g yX8_lay cX8_lay 7 (some .int) (xR 0 0) [.ref (o 0), .int 0, .int (nI a), .int (nI z), .int u] [(o 0, .inr (8, [.ref (o 1), .ref (o 2), .int (nI hs), .int bads, .int nos, .int fuls, .int cau, .int whe, .ref (o 3), .ref (o 4), .int (nI cnt), .int (nI p), .int fau, .int isw, .int ods, .ref (o 5), .ref (o 6)])), (o 1, .inl (g.2.1, 616, .inl (nwF v)))] (is1 (some (.int (nI (cntNe v.2.1 u a (z + 1))))) [(o 0, .inr (8, [.ref (o 1), .ref (o 2), .int (nI hs), .int bads, .int nos, .int fuls, .int cau, .int whe, .ref (o 3), .ref (o 4), .int (nI cnt), .int (nI p), .int fau, .int isw, .int ods, .ref (o 5), .ref (o 6)])), (o 1, .inl (g.2.1, 616, .inl (nwF (ceiS a z u v))))]) := by
  refine Ct.walk (by decide) (Nat.le_of_ble_eq_true rfl) ?_
  intro p0 e0 s0 m0 below meth c0 A0 ls Q hQ E hr hnm hw hl
  have hx := E.x
  have hb := E.b
  have hl : lv_has ls 7 [(0, .ref (o 0)), (1, .int 0), (2, .int (nI a)), (3, .int (nI z)), (4, .int u)] := hl
  refine lv_iconst (v := 0) hx hb dX8_lay_0 (by decide) ?_
  refine lv_istore (lv' := [(5, .int 0), (0, .ref (o 0)), (1, .int 0), (2, .int (nI a)), (3, .int (nI z)), (4, .int u)]) hx hb dX8_lay_1 hl (by decide) rfl (fun ls hl => ?_)
  refine lv_iload_n hx hb dX8_lay_3 rfl (lv_at hl 3 rfl) ?_
  refine lv_istore (lv' := [(6, .int (nI a)), (5, .int 0), (0, .ref (o 0)), (1, .int 0), (2, .int (nI a)), (3, .int (nI z)), (4, .int u)]) hx hb dX8_lay_4 hl (by decide) rfl (fun ls hl => ?_)
  have lp_6 : ∀ (fuel : Nat) (x : Nat), z + 1 - x < fuel → a ≤ x → x ≤ z + 1 → ∀ (H : Heap) (locs : List Loc) (ls : Array Slot), xW g A0 s0 [(o 0, .inr (8, [.ref (o 1), .ref (o 2), .int (nI hs), .int bads, .int nos, .int fuls, .int cau, .int whe, .ref (o 3), .ref (o 4), .int (nI cnt), .int (nI p), .int fau, .int isw, .int ods, .ref (o 5), .ref (o 6)])), (o 1, .inl (g.2.1, 616, .inl (nwF (v.1, filF v.2.1 u a x, v.2.2.1, v.2.2.2.1, v.2.2.2.2.1, v.2.2.2.2.2.1, v.2.2.2.2.2.2.1, v.2.2.2.2.2.2.2.1, v.2.2.2.2.2.2.2.2.1, v.2.2.2.2.2.2.2.2.2.1, v.2.2.2.2.2.2.2.2.2.2.1, v.2.2.2.2.2.2.2.2.2.2.2.1, v.2.2.2.2.2.2.2.2.2.2.2.2))))] H locs → lv_has ls 7 [(6, .int (nI x)), (5, .int (nI (cntNe v.2.1 u a x))), (0, .ref (o 0)), (1, .int 0), (3, .int (nI z)), (4, .int u)] → W p0 l e0 (xR 0 0) s0 m0 [.ref (o 0), .int 0, .int (nI a), .int (nI z), .int u].toArray below meth c0 H locs 0 0 Q (F0 m0 6 ls []) := by
    intro fuel
    induction fuel with
    | zero => intro x hm; exact absurd hm (Nat.not_lt_zero _)
    | succ fuel ih =>
      intro x hm h1 h2 H locs ls hw hl
      refine lv_iload hx hb dX8_lay_6 (lv_at hl 0 rfl) ?_
      refine lv_iload_n hx hb dX8_lay_8 rfl (lv_at hl 4 rfl) ?_
      refine xn_gt (tgt := 63) hx hb x z rfl rfl (by omega) (by omega) dX8_lay_9 (by decide) (fun c_1 => ?_) (fun c_1 => ?_)
      · obtain rfl : x = z + 1 := by omega
        refine lv_iload hx hb dX8_lay_63 (lv_at hl 1 rfl) ?_
        exact xr_i hQ E hr hw dX8_lay_65 ⟨rfl, rfl⟩
      · refine lv_iload hx hb dX8_lay_12 (lv_at hl 1 rfl) ?_
        refine lv_aload_n hx hb dX8_lay_14 rfl (lv_at hl 2 rfl) ?_
        refine x_get E hw kf_X8_7 0 rfl rfl dX8_lay_15 ?_
        refine lv_bipush (v := 16) hx hb dX8_lay_18 (by decide) ?_
        refine lv_iconst (v := 3) hx hb dX8_lay_20 (by decide) ?_
        refine lv_iload hx hb dX8_lay_21 (lv_at hl 0 rfl) ?_
        refine xn_mul hx hb 3 x rfl rfl dX8_lay_23 ?_
        refine xn_add hx hb 16 (3 * x) rfl rfl dX8_lay_24 ?_
        refine lv_iload_n hx hb dX8_lay_25 rfl (lv_at hl 3 rfl) ?_
        refine xn_add hx hb (16 + 3 * x) 0 rfl rfl dX8_lay_26 ?_
        refine x_topi (x' := nI (16 + 3 * x)) rfl ?_
        refine x_ld (v := v.2.1 x) E hw 1 rfl (16 + 3 * x) rfl (by omega) (by decide) ((nw_ce _ _).trans (filF_at _ _ _ _)) dX8_lay_27 ?_
        refine lv_iload hx hb dX8_lay_28 (lv_at hl 5 rfl) ?_
        refine lv_icmp_ne (tgt := 37) hx hb dX8_lay_30 (by decide) (fun ce => ?_) (fun ce => ?_)
        · refine lv_iconst (v := 1) hx hb dX8_lay_37 (by decide) ?_
          refine xn_add hx hb (cntNe v.2.1 u a x) 1 rfl rfl dX8_lay_38 ?_
          refine lv_istore (lv' := [(5, .int (nI (cntNe v.2.1 u a x + 1))), (6, .int (nI x)), (0, .ref (o 0)), (1, .int 0), (3, .int (nI z)), (4, .int u)]) hx hb dX8_lay_39 hl (by decide) rfl (fun ls hl => ?_)
          refine lv_aload_n hx hb dX8_lay_41 rfl (lv_at hl 2 rfl) ?_
          refine x_get E hw kf_X8_7 0 rfl rfl dX8_lay_42 ?_
          refine lv_bipush (v := 16) hx hb dX8_lay_45 (by decide) ?_
          refine lv_iconst (v := 3) hx hb dX8_lay_47 (by decide) ?_
          refine lv_iload hx hb dX8_lay_48 (lv_at hl 1 rfl) ?_
          refine xn_mul hx hb 3 x rfl rfl dX8_lay_50 ?_
          refine xn_add hx hb 16 (3 * x) rfl rfl dX8_lay_51 ?_
          refine lv_iload_n hx hb dX8_lay_52 rfl (lv_at hl 3 rfl) ?_
          refine xn_add hx hb (16 + 3 * x) 0 rfl rfl dX8_lay_53 ?_
          refine x_topi (x' := nI (16 + 3 * x)) rfl ?_
          refine lv_iload hx hb dX8_lay_54 (lv_at hl 5 rfl) ?_
          refine x_ist E hw 1 rfl (16 + 3 * x) rfl (by omega) (by decide) (ws' := [(o 0, .inr (8, [.ref (o 1), .ref (o 2), .int (nI hs), .int bads, .int nos, .int fuls, .int cau, .int whe, .ref (o 3), .ref (o 4), .int (nI cnt), .int (nI p), .int fau, .int isw, .int ods, .ref (o 5), .ref (o 6)])), (o 1, .inl (g.2.1, 616, .inl (upd (nwF (v.1, filF v.2.1 u a x, v.2.2.1, v.2.2.2.1, v.2.2.2.2.1, v.2.2.2.2.2.1, v.2.2.2.2.2.2.1, v.2.2.2.2.2.2.2.1, v.2.2.2.2.2.2.2.2.1, v.2.2.2.2.2.2.2.2.2.1, v.2.2.2.2.2.2.2.2.2.2.1, v.2.2.2.2.2.2.2.2.2.2.2.1, v.2.2.2.2.2.2.2.2.2.2.2.2)) (16 + 3 * x) u)))]) rfl dX8_lay_56 (fun H locs hw => ?_)
          have hw := hw.arr (f' := (nwF (v.1, upd (filF v.2.1 u a x) x u, v.2.2.1, v.2.2.2.1, v.2.2.2.2.1, v.2.2.2.2.2.1, v.2.2.2.2.2.2.1, v.2.2.2.2.2.2.2.1, v.2.2.2.2.2.2.2.2.1, v.2.2.2.2.2.2.2.2.2.1, v.2.2.2.2.2.2.2.2.2.2.1, v.2.2.2.2.2.2.2.2.2.2.2.1, v.2.2.2.2.2.2.2.2.2.2.2.2))) (ws' := [(o 0, .inr (8, [.ref (o 1), .ref (o 2), .int (nI hs), .int bads, .int nos, .int fuls, .int cau, .int whe, .ref (o 3), .ref (o 4), .int (nI cnt), .int (nI p), .int fau, .int isw, .int ods, .ref (o 5), .ref (o 6)])), (o 1, .inl (g.2.1, 616, .inl (nwF (v.1, upd (filF v.2.1 u a x) x u, v.2.2.1, v.2.2.2.1, v.2.2.2.2.1, v.2.2.2.2.2.1, v.2.2.2.2.2.2.1, v.2.2.2.2.2.2.2.1, v.2.2.2.2.2.2.2.2.1, v.2.2.2.2.2.2.2.2.2.1, v.2.2.2.2.2.2.2.2.2.2.1, v.2.2.2.2.2.2.2.2.2.2.2.1, v.2.2.2.2.2.2.2.2.2.2.2.2))))]) 1 rfl (fun j _ => nwU_ce _ _ _ j) rfl
          refine lv_iinc (v := nI (x + 1)) (lv' := [(6, .int (nI (x + 1))), (5, .int (nI (cntNe v.2.1 u a x + 1))), (0, .ref (o 0)), (1, .int 0), (3, .int (nI z)), (4, .int u)]) hx hb dX8_lay_57 hl (k := 1) rfl (nI_1 _) (by decide) rfl (fun ls hl => ?_)
          refine lv_goto (tgt := 6) hx hb dX8_lay_60 (by decide) ?_
          have hw := hw.arr (f' := (nwF (v.1, filF v.2.1 u a (x + 1), v.2.2.1, v.2.2.2.1, v.2.2.2.2.1, v.2.2.2.2.2.1, v.2.2.2.2.2.2.1, v.2.2.2.2.2.2.2.1, v.2.2.2.2.2.2.2.2.1, v.2.2.2.2.2.2.2.2.2.1, v.2.2.2.2.2.2.2.2.2.2.1, v.2.2.2.2.2.2.2.2.2.2.2.1, v.2.2.2.2.2.2.2.2.2.2.2.2))) (ws' := [(o 0, .inr (8, [.ref (o 1), .ref (o 2), .int (nI hs), .int bads, .int nos, .int fuls, .int cau, .int whe, .ref (o 3), .ref (o 4), .int (nI cnt), .int (nI p), .int fau, .int isw, .int ods, .ref (o 5), .ref (o 6)])), (o 1, .inl (g.2.1, 616, .inl (nwF (v.1, filF v.2.1 u a (x + 1), v.2.2.1, v.2.2.2.1, v.2.2.2.2.1, v.2.2.2.2.2.1, v.2.2.2.2.2.2.1, v.2.2.2.2.2.2.2.1, v.2.2.2.2.2.2.2.2.1, v.2.2.2.2.2.2.2.2.2.1, v.2.2.2.2.2.2.2.2.2.2.1, v.2.2.2.2.2.2.2.2.2.2.2.1, v.2.2.2.2.2.2.2.2.2.2.2.2))))]) 1 rfl (fun j _ => by rw [show upd (filF v.2.1 u a x) x u = filF v.2.1 u a (x + 1) from funext (filF_st _ _ _ _ h1)]) rfl
          have hl : lv_has ls 7 [(6, .int (nI (x + 1))), (5, .int (nI (cntNe v.2.1 u a x + 1))), (0, .ref (o 0)), (1, .int 0), (3, .int (nI z)), (4, .int u)] := lv_sub hl [0, 1, 2, 3, 4, 5] rfl
          have hl : lv_has ls 7 [(6, .int (nI (x + 1))), (5, .int (nI (cntNe v.2.1 u a (x + 1)))), (0, .ref (o 0)), (1, .int 0), (3, .int (nI z)), (4, .int u)] := lv_re hl (by rw [show (nI (cntNe v.2.1 u a x + 1) : Int32) = nI (cntNe v.2.1 u a (x + 1)) from congrArg nI ((cntNe_ne _ _ _ _ h1 ce).symm)])
          have hw : xW g A0 s0 [(o 0, .inr (8, [.ref (o 1), .ref (o 2), .int (nI hs), .int bads, .int nos, .int fuls, .int cau, .int whe, .ref (o 3), .ref (o 4), .int (nI cnt), .int (nI p), .int fau, .int isw, .int ods, .ref (o 5), .ref (o 6)])), (o 1, .inl (g.2.1, 616, .inl (nwF (v.1, filF v.2.1 u a (x + 1), v.2.2.1, v.2.2.2.1, v.2.2.2.2.1, v.2.2.2.2.2.1, v.2.2.2.2.2.2.1, v.2.2.2.2.2.2.2.1, v.2.2.2.2.2.2.2.2.1, v.2.2.2.2.2.2.2.2.2.1, v.2.2.2.2.2.2.2.2.2.2.1, v.2.2.2.2.2.2.2.2.2.2.2.1, v.2.2.2.2.2.2.2.2.2.2.2.2))))] _ _ := hw
          exact ih (x + 1) (by omega) (by omega) (by omega) _ _ _ hw hl
        · refine lv_iconst (v := 0) hx hb dX8_lay_33 (by decide) ?_
          refine lv_goto (tgt := 38) hx hb dX8_lay_34 (by decide) ?_
          refine xn_add hx hb (cntNe v.2.1 u a x) 0 rfl rfl dX8_lay_38 ?_
          refine x_topi (x' := nI (cntNe v.2.1 u a x)) rfl ?_
          refine lv_istore (lv' := [(5, .int (nI (cntNe v.2.1 u a x))), (6, .int (nI x)), (0, .ref (o 0)), (1, .int 0), (3, .int (nI z)), (4, .int u)]) hx hb dX8_lay_39 hl (by decide) rfl (fun ls hl => ?_)
          refine lv_aload_n hx hb dX8_lay_41 rfl (lv_at hl 2 rfl) ?_
          refine x_get E hw kf_X8_7 0 rfl rfl dX8_lay_42 ?_
          refine lv_bipush (v := 16) hx hb dX8_lay_45 (by decide) ?_
          refine lv_iconst (v := 3) hx hb dX8_lay_47 (by decide) ?_
          refine lv_iload hx hb dX8_lay_48 (lv_at hl 1 rfl) ?_
          refine xn_mul hx hb 3 x rfl rfl dX8_lay_50 ?_
          refine xn_add hx hb 16 (3 * x) rfl rfl dX8_lay_51 ?_
          refine lv_iload_n hx hb dX8_lay_52 rfl (lv_at hl 3 rfl) ?_
          refine xn_add hx hb (16 + 3 * x) 0 rfl rfl dX8_lay_53 ?_
          refine x_topi (x' := nI (16 + 3 * x)) rfl ?_
          refine lv_iload hx hb dX8_lay_54 (lv_at hl 5 rfl) ?_
          refine x_ist E hw 1 rfl (16 + 3 * x) rfl (by omega) (by decide) (ws' := [(o 0, .inr (8, [.ref (o 1), .ref (o 2), .int (nI hs), .int bads, .int nos, .int fuls, .int cau, .int whe, .ref (o 3), .ref (o 4), .int (nI cnt), .int (nI p), .int fau, .int isw, .int ods, .ref (o 5), .ref (o 6)])), (o 1, .inl (g.2.1, 616, .inl (upd (nwF (v.1, filF v.2.1 u a x, v.2.2.1, v.2.2.2.1, v.2.2.2.2.1, v.2.2.2.2.2.1, v.2.2.2.2.2.2.1, v.2.2.2.2.2.2.2.1, v.2.2.2.2.2.2.2.2.1, v.2.2.2.2.2.2.2.2.2.1, v.2.2.2.2.2.2.2.2.2.2.1, v.2.2.2.2.2.2.2.2.2.2.2.1, v.2.2.2.2.2.2.2.2.2.2.2.2)) (16 + 3 * x) u)))]) rfl dX8_lay_56 (fun H locs hw => ?_)
          have hw := hw.arr (f' := (nwF (v.1, upd (filF v.2.1 u a x) x u, v.2.2.1, v.2.2.2.1, v.2.2.2.2.1, v.2.2.2.2.2.1, v.2.2.2.2.2.2.1, v.2.2.2.2.2.2.2.1, v.2.2.2.2.2.2.2.2.1, v.2.2.2.2.2.2.2.2.2.1, v.2.2.2.2.2.2.2.2.2.2.1, v.2.2.2.2.2.2.2.2.2.2.2.1, v.2.2.2.2.2.2.2.2.2.2.2.2))) (ws' := [(o 0, .inr (8, [.ref (o 1), .ref (o 2), .int (nI hs), .int bads, .int nos, .int fuls, .int cau, .int whe, .ref (o 3), .ref (o 4), .int (nI cnt), .int (nI p), .int fau, .int isw, .int ods, .ref (o 5), .ref (o 6)])), (o 1, .inl (g.2.1, 616, .inl (nwF (v.1, upd (filF v.2.1 u a x) x u, v.2.2.1, v.2.2.2.1, v.2.2.2.2.1, v.2.2.2.2.2.1, v.2.2.2.2.2.2.1, v.2.2.2.2.2.2.2.1, v.2.2.2.2.2.2.2.2.1, v.2.2.2.2.2.2.2.2.2.1, v.2.2.2.2.2.2.2.2.2.2.1, v.2.2.2.2.2.2.2.2.2.2.2.1, v.2.2.2.2.2.2.2.2.2.2.2.2))))]) 1 rfl (fun j _ => nwU_ce _ _ _ j) rfl
          refine lv_iinc (v := nI (x + 1)) (lv' := [(6, .int (nI (x + 1))), (5, .int (nI (cntNe v.2.1 u a x))), (0, .ref (o 0)), (1, .int 0), (3, .int (nI z)), (4, .int u)]) hx hb dX8_lay_57 hl (k := 1) rfl (nI_1 _) (by decide) rfl (fun ls hl => ?_)
          refine lv_goto (tgt := 6) hx hb dX8_lay_60 (by decide) ?_
          have hw := hw.arr (f' := (nwF (v.1, filF v.2.1 u a (x + 1), v.2.2.1, v.2.2.2.1, v.2.2.2.2.1, v.2.2.2.2.2.1, v.2.2.2.2.2.2.1, v.2.2.2.2.2.2.2.1, v.2.2.2.2.2.2.2.2.1, v.2.2.2.2.2.2.2.2.2.1, v.2.2.2.2.2.2.2.2.2.2.1, v.2.2.2.2.2.2.2.2.2.2.2.1, v.2.2.2.2.2.2.2.2.2.2.2.2))) (ws' := [(o 0, .inr (8, [.ref (o 1), .ref (o 2), .int (nI hs), .int bads, .int nos, .int fuls, .int cau, .int whe, .ref (o 3), .ref (o 4), .int (nI cnt), .int (nI p), .int fau, .int isw, .int ods, .ref (o 5), .ref (o 6)])), (o 1, .inl (g.2.1, 616, .inl (nwF (v.1, filF v.2.1 u a (x + 1), v.2.2.1, v.2.2.2.1, v.2.2.2.2.1, v.2.2.2.2.2.1, v.2.2.2.2.2.2.1, v.2.2.2.2.2.2.2.1, v.2.2.2.2.2.2.2.2.1, v.2.2.2.2.2.2.2.2.2.1, v.2.2.2.2.2.2.2.2.2.2.1, v.2.2.2.2.2.2.2.2.2.2.2.1, v.2.2.2.2.2.2.2.2.2.2.2.2))))]) 1 rfl (fun j _ => by rw [show upd (filF v.2.1 u a x) x u = filF v.2.1 u a (x + 1) from funext (filF_st _ _ _ _ h1)]) rfl
          have hl : lv_has ls 7 [(6, .int (nI (x + 1))), (5, .int (nI (cntNe v.2.1 u a x))), (0, .ref (o 0)), (1, .int 0), (3, .int (nI z)), (4, .int u)] := lv_sub hl [0, 1, 2, 3, 4, 5] rfl
          have hl : lv_has ls 7 [(6, .int (nI (x + 1))), (5, .int (nI (cntNe v.2.1 u a (x + 1)))), (0, .ref (o 0)), (1, .int 0), (3, .int (nI z)), (4, .int u)] := lv_re hl (by rw [show (nI (cntNe v.2.1 u a x) : Int32) = nI (cntNe v.2.1 u a (x + 1)) from congrArg nI ((cntNe_eq _ _ _ _ ce).symm)])
          have hw : xW g A0 s0 [(o 0, .inr (8, [.ref (o 1), .ref (o 2), .int (nI hs), .int bads, .int nos, .int fuls, .int cau, .int whe, .ref (o 3), .ref (o 4), .int (nI cnt), .int (nI p), .int fau, .int isw, .int ods, .ref (o 5), .ref (o 6)])), (o 1, .inl (g.2.1, 616, .inl (nwF (v.1, filF v.2.1 u a (x + 1), v.2.2.1, v.2.2.2.1, v.2.2.2.2.1, v.2.2.2.2.2.1, v.2.2.2.2.2.2.1, v.2.2.2.2.2.2.2.1, v.2.2.2.2.2.2.2.2.1, v.2.2.2.2.2.2.2.2.2.1, v.2.2.2.2.2.2.2.2.2.2.1, v.2.2.2.2.2.2.2.2.2.2.2.1, v.2.2.2.2.2.2.2.2.2.2.2.2))))] _ _ := hw
          exact ih (x + 1) (by omega) (by omega) (by omega) _ _ _ hw hl
  have hw := hw.arr (f' := (nwF (v.1, filF v.2.1 u a a, v.2.2.1, v.2.2.2.1, v.2.2.2.2.1, v.2.2.2.2.2.1, v.2.2.2.2.2.2.1, v.2.2.2.2.2.2.2.1, v.2.2.2.2.2.2.2.2.1, v.2.2.2.2.2.2.2.2.2.1, v.2.2.2.2.2.2.2.2.2.2.1, v.2.2.2.2.2.2.2.2.2.2.2.1, v.2.2.2.2.2.2.2.2.2.2.2.2))) (ws' := [(o 0, .inr (8, [.ref (o 1), .ref (o 2), .int (nI hs), .int bads, .int nos, .int fuls, .int cau, .int whe, .ref (o 3), .ref (o 4), .int (nI cnt), .int (nI p), .int fau, .int isw, .int ods, .ref (o 5), .ref (o 6)])), (o 1, .inl (g.2.1, 616, .inl (nwF (v.1, filF v.2.1 u a a, v.2.2.1, v.2.2.2.1, v.2.2.2.2.1, v.2.2.2.2.2.1, v.2.2.2.2.2.2.1, v.2.2.2.2.2.2.2.1, v.2.2.2.2.2.2.2.2.1, v.2.2.2.2.2.2.2.2.2.1, v.2.2.2.2.2.2.2.2.2.2.1, v.2.2.2.2.2.2.2.2.2.2.2.1, v.2.2.2.2.2.2.2.2.2.2.2.2))))]) 1 rfl (fun j _ => by rw [show filF v.2.1 u a a = v.2.1 from funext (filF_nil _ _ _)]) rfl
  have hl : lv_has ls 7 [(6, .int (nI a)), (5, .int 0), (0, .ref (o 0)), (1, .int 0), (3, .int (nI z)), (4, .int u)] := lv_sub hl [0, 1, 2, 3, 5, 6] rfl
  have hl : lv_has ls 7 [(6, .int (nI a)), (5, .int (nI (cntNe v.2.1 u a a))), (0, .ref (o 0)), (1, .int 0), (3, .int (nI z)), (4, .int u)] := lv_re hl (by rw [show (0 : Int32) = nI (cntNe v.2.1 u a a) from congrArg nI ((cntNe_nil _ _ _).symm)])
  have hw : xW g A0 s0 [(o 0, .inr (8, [.ref (o 1), .ref (o 2), .int (nI hs), .int bads, .int nos, .int fuls, .int cau, .int whe, .ref (o 3), .ref (o 4), .int (nI cnt), .int (nI p), .int fau, .int isw, .int ods, .ref (o 5), .ref (o 6)])), (o 1, .inl (g.2.1, 616, .inl (nwF (v.1, filF v.2.1 u a a, v.2.2.1, v.2.2.2.1, v.2.2.2.2.1, v.2.2.2.2.2.1, v.2.2.2.2.2.2.1, v.2.2.2.2.2.2.2.1, v.2.2.2.2.2.2.2.2.1, v.2.2.2.2.2.2.2.2.2.1, v.2.2.2.2.2.2.2.2.2.2.1, v.2.2.2.2.2.2.2.2.2.2.2.1, v.2.2.2.2.2.2.2.2.2.2.2.2))))] _ _ := hw
  exact lp_6 ((z + 1 - a) + 1) a (Nat.lt_succ_self _) (by omega) (by omega) _ _ _ hw hl

set_option maxRecDepth 100000 in
set_option maxHeartbeats 4000000 in
theorem c_X8_lay_g (l : Launch) (g : xCfg) (o : Nat → Nat) (hs : Nat) (bads : Int32) (nos : Int32) (fuls : Int32) (cau : Int32) (whe : Int32) (cnt : Nat) (p : Nat) (fau : Int32) (isw : Int32) (ods : Int32) (v : SV) (a : Nat) (z : Nat) (u : Int32) (hz : z < 200) (ha : a ≤ z + 1) : Ct l g yX8_lay cX8_lay 7 (some .int) (xR 0 0) [.ref (o 0), .int 1, .int (nI a), .int (nI z), .int u] [(o 0, .inr (8, [.ref (o 1), .ref (o 2), .int (nI hs), .int bads, .int nos, .int fuls, .int cau, .int whe, .ref (o 3), .ref (o 4), .int (nI cnt), .int (nI p), .int fau, .int isw, .int ods, .ref (o 5), .ref (o 6)])), (o 1, .inl (g.2.1, 616, .inl (nwF v)))] (is1 (some (.int (nI (cntNe v.2.2.1 u a (z + 1))))) [(o 0, .inr (8, [.ref (o 1), .ref (o 2), .int (nI hs), .int bads, .int nos, .int fuls, .int cau, .int whe, .ref (o 3), .ref (o 4), .int (nI cnt), .int (nI p), .int fau, .int isw, .int ods, .ref (o 5), .ref (o 6)])), (o 1, .inl (g.2.1, 616, .inl (nwF (graS a z u v))))]) := by
  refine Ct.walk (by decide) (Nat.le_of_ble_eq_true rfl) ?_
  intro p0 e0 s0 m0 below meth c0 A0 ls Q hQ E hr hnm hw hl
  have hx := E.x
  have hb := E.b
  have hl : lv_has ls 7 [(0, .ref (o 0)), (1, .int 1), (2, .int (nI a)), (3, .int (nI z)), (4, .int u)] := hl
  refine lv_iconst (v := 0) hx hb dX8_lay_0 (by decide) ?_
  refine lv_istore (lv' := [(5, .int 0), (0, .ref (o 0)), (1, .int 1), (2, .int (nI a)), (3, .int (nI z)), (4, .int u)]) hx hb dX8_lay_1 hl (by decide) rfl (fun ls hl => ?_)
  refine lv_iload_n hx hb dX8_lay_3 rfl (lv_at hl 3 rfl) ?_
  refine lv_istore (lv' := [(6, .int (nI a)), (5, .int 0), (0, .ref (o 0)), (1, .int 1), (2, .int (nI a)), (3, .int (nI z)), (4, .int u)]) hx hb dX8_lay_4 hl (by decide) rfl (fun ls hl => ?_)
  have lp_6 : ∀ (fuel : Nat) (x : Nat), z + 1 - x < fuel → a ≤ x → x ≤ z + 1 → ∀ (H : Heap) (locs : List Loc) (ls : Array Slot), xW g A0 s0 [(o 0, .inr (8, [.ref (o 1), .ref (o 2), .int (nI hs), .int bads, .int nos, .int fuls, .int cau, .int whe, .ref (o 3), .ref (o 4), .int (nI cnt), .int (nI p), .int fau, .int isw, .int ods, .ref (o 5), .ref (o 6)])), (o 1, .inl (g.2.1, 616, .inl (nwF (v.1, v.2.1, filF v.2.2.1 u a x, v.2.2.2.1, v.2.2.2.2.1, v.2.2.2.2.2.1, v.2.2.2.2.2.2.1, v.2.2.2.2.2.2.2.1, v.2.2.2.2.2.2.2.2.1, v.2.2.2.2.2.2.2.2.2.1, v.2.2.2.2.2.2.2.2.2.2.1, v.2.2.2.2.2.2.2.2.2.2.2.1, v.2.2.2.2.2.2.2.2.2.2.2.2))))] H locs → lv_has ls 7 [(6, .int (nI x)), (5, .int (nI (cntNe v.2.2.1 u a x))), (0, .ref (o 0)), (1, .int 1), (3, .int (nI z)), (4, .int u)] → W p0 l e0 (xR 0 0) s0 m0 [.ref (o 0), .int 1, .int (nI a), .int (nI z), .int u].toArray below meth c0 H locs 0 0 Q (F0 m0 6 ls []) := by
    intro fuel
    induction fuel with
    | zero => intro x hm; exact absurd hm (Nat.not_lt_zero _)
    | succ fuel ih =>
      intro x hm h1 h2 H locs ls hw hl
      refine lv_iload hx hb dX8_lay_6 (lv_at hl 0 rfl) ?_
      refine lv_iload_n hx hb dX8_lay_8 rfl (lv_at hl 4 rfl) ?_
      refine xn_gt (tgt := 63) hx hb x z rfl rfl (by omega) (by omega) dX8_lay_9 (by decide) (fun c_1 => ?_) (fun c_1 => ?_)
      · obtain rfl : x = z + 1 := by omega
        refine lv_iload hx hb dX8_lay_63 (lv_at hl 1 rfl) ?_
        exact xr_i hQ E hr hw dX8_lay_65 ⟨rfl, rfl⟩
      · refine lv_iload hx hb dX8_lay_12 (lv_at hl 1 rfl) ?_
        refine lv_aload_n hx hb dX8_lay_14 rfl (lv_at hl 2 rfl) ?_
        refine x_get E hw kf_X8_7 0 rfl rfl dX8_lay_15 ?_
        refine lv_bipush (v := 16) hx hb dX8_lay_18 (by decide) ?_
        refine lv_iconst (v := 3) hx hb dX8_lay_20 (by decide) ?_
        refine lv_iload hx hb dX8_lay_21 (lv_at hl 0 rfl) ?_
        refine xn_mul hx hb 3 x rfl rfl dX8_lay_23 ?_
        refine xn_add hx hb 16 (3 * x) rfl rfl dX8_lay_24 ?_
        refine lv_iload_n hx hb dX8_lay_25 rfl (lv_at hl 3 rfl) ?_
        refine xn_add hx hb (16 + 3 * x) 1 rfl rfl dX8_lay_26 ?_
        refine x_ld (v := v.2.2.1 x) E hw 1 rfl (16 + 3 * x + 1) rfl (by omega) (by decide) ((nw_gr _ _).trans (filF_at _ _ _ _)) dX8_lay_27 ?_
        refine lv_iload hx hb dX8_lay_28 (lv_at hl 5 rfl) ?_
        refine lv_icmp_ne (tgt := 37) hx hb dX8_lay_30 (by decide) (fun ce => ?_) (fun ce => ?_)
        · refine lv_iconst (v := 1) hx hb dX8_lay_37 (by decide) ?_
          refine xn_add hx hb (cntNe v.2.2.1 u a x) 1 rfl rfl dX8_lay_38 ?_
          refine lv_istore (lv' := [(5, .int (nI (cntNe v.2.2.1 u a x + 1))), (6, .int (nI x)), (0, .ref (o 0)), (1, .int 1), (3, .int (nI z)), (4, .int u)]) hx hb dX8_lay_39 hl (by decide) rfl (fun ls hl => ?_)
          refine lv_aload_n hx hb dX8_lay_41 rfl (lv_at hl 2 rfl) ?_
          refine x_get E hw kf_X8_7 0 rfl rfl dX8_lay_42 ?_
          refine lv_bipush (v := 16) hx hb dX8_lay_45 (by decide) ?_
          refine lv_iconst (v := 3) hx hb dX8_lay_47 (by decide) ?_
          refine lv_iload hx hb dX8_lay_48 (lv_at hl 1 rfl) ?_
          refine xn_mul hx hb 3 x rfl rfl dX8_lay_50 ?_
          refine xn_add hx hb 16 (3 * x) rfl rfl dX8_lay_51 ?_
          refine lv_iload_n hx hb dX8_lay_52 rfl (lv_at hl 3 rfl) ?_
          refine xn_add hx hb (16 + 3 * x) 1 rfl rfl dX8_lay_53 ?_
          refine lv_iload hx hb dX8_lay_54 (lv_at hl 5 rfl) ?_
          refine x_ist E hw 1 rfl (16 + 3 * x + 1) rfl (by omega) (by decide) (ws' := [(o 0, .inr (8, [.ref (o 1), .ref (o 2), .int (nI hs), .int bads, .int nos, .int fuls, .int cau, .int whe, .ref (o 3), .ref (o 4), .int (nI cnt), .int (nI p), .int fau, .int isw, .int ods, .ref (o 5), .ref (o 6)])), (o 1, .inl (g.2.1, 616, .inl (upd (nwF (v.1, v.2.1, filF v.2.2.1 u a x, v.2.2.2.1, v.2.2.2.2.1, v.2.2.2.2.2.1, v.2.2.2.2.2.2.1, v.2.2.2.2.2.2.2.1, v.2.2.2.2.2.2.2.2.1, v.2.2.2.2.2.2.2.2.2.1, v.2.2.2.2.2.2.2.2.2.2.1, v.2.2.2.2.2.2.2.2.2.2.2.1, v.2.2.2.2.2.2.2.2.2.2.2.2)) (16 + 3 * x + 1) u)))]) rfl dX8_lay_56 (fun H locs hw => ?_)
          have hw := hw.arr (f' := (nwF (v.1, v.2.1, upd (filF v.2.2.1 u a x) x u, v.2.2.2.1, v.2.2.2.2.1, v.2.2.2.2.2.1, v.2.2.2.2.2.2.1, v.2.2.2.2.2.2.2.1, v.2.2.2.2.2.2.2.2.1, v.2.2.2.2.2.2.2.2.2.1, v.2.2.2.2.2.2.2.2.2.2.1, v.2.2.2.2.2.2.2.2.2.2.2.1, v.2.2.2.2.2.2.2.2.2.2.2.2))) (ws' := [(o 0, .inr (8, [.ref (o 1), .ref (o 2), .int (nI hs), .int bads, .int nos, .int fuls, .int cau, .int whe, .ref (o 3), .ref (o 4), .int (nI cnt), .int (nI p), .int fau, .int isw, .int ods, .ref (o 5), .ref (o 6)])), (o 1, .inl (g.2.1, 616, .inl (nwF (v.1, v.2.1, upd (filF v.2.2.1 u a x) x u, v.2.2.2.1, v.2.2.2.2.1, v.2.2.2.2.2.1, v.2.2.2.2.2.2.1, v.2.2.2.2.2.2.2.1, v.2.2.2.2.2.2.2.2.1, v.2.2.2.2.2.2.2.2.2.1, v.2.2.2.2.2.2.2.2.2.2.1, v.2.2.2.2.2.2.2.2.2.2.2.1, v.2.2.2.2.2.2.2.2.2.2.2.2))))]) 1 rfl (fun j _ => nwU_gr _ _ _ j) rfl
          refine lv_iinc (v := nI (x + 1)) (lv' := [(6, .int (nI (x + 1))), (5, .int (nI (cntNe v.2.2.1 u a x + 1))), (0, .ref (o 0)), (1, .int 1), (3, .int (nI z)), (4, .int u)]) hx hb dX8_lay_57 hl (k := 1) rfl (nI_1 _) (by decide) rfl (fun ls hl => ?_)
          refine lv_goto (tgt := 6) hx hb dX8_lay_60 (by decide) ?_
          have hw := hw.arr (f' := (nwF (v.1, v.2.1, filF v.2.2.1 u a (x + 1), v.2.2.2.1, v.2.2.2.2.1, v.2.2.2.2.2.1, v.2.2.2.2.2.2.1, v.2.2.2.2.2.2.2.1, v.2.2.2.2.2.2.2.2.1, v.2.2.2.2.2.2.2.2.2.1, v.2.2.2.2.2.2.2.2.2.2.1, v.2.2.2.2.2.2.2.2.2.2.2.1, v.2.2.2.2.2.2.2.2.2.2.2.2))) (ws' := [(o 0, .inr (8, [.ref (o 1), .ref (o 2), .int (nI hs), .int bads, .int nos, .int fuls, .int cau, .int whe, .ref (o 3), .ref (o 4), .int (nI cnt), .int (nI p), .int fau, .int isw, .int ods, .ref (o 5), .ref (o 6)])), (o 1, .inl (g.2.1, 616, .inl (nwF (v.1, v.2.1, filF v.2.2.1 u a (x + 1), v.2.2.2.1, v.2.2.2.2.1, v.2.2.2.2.2.1, v.2.2.2.2.2.2.1, v.2.2.2.2.2.2.2.1, v.2.2.2.2.2.2.2.2.1, v.2.2.2.2.2.2.2.2.2.1, v.2.2.2.2.2.2.2.2.2.2.1, v.2.2.2.2.2.2.2.2.2.2.2.1, v.2.2.2.2.2.2.2.2.2.2.2.2))))]) 1 rfl (fun j _ => by rw [show upd (filF v.2.2.1 u a x) x u = filF v.2.2.1 u a (x + 1) from funext (filF_st _ _ _ _ h1)]) rfl
          have hl : lv_has ls 7 [(6, .int (nI (x + 1))), (5, .int (nI (cntNe v.2.2.1 u a x + 1))), (0, .ref (o 0)), (1, .int 1), (3, .int (nI z)), (4, .int u)] := lv_sub hl [0, 1, 2, 3, 4, 5] rfl
          have hl : lv_has ls 7 [(6, .int (nI (x + 1))), (5, .int (nI (cntNe v.2.2.1 u a (x + 1)))), (0, .ref (o 0)), (1, .int 1), (3, .int (nI z)), (4, .int u)] := lv_re hl (by rw [show (nI (cntNe v.2.2.1 u a x + 1) : Int32) = nI (cntNe v.2.2.1 u a (x + 1)) from congrArg nI ((cntNe_ne _ _ _ _ h1 ce).symm)])
          have hw : xW g A0 s0 [(o 0, .inr (8, [.ref (o 1), .ref (o 2), .int (nI hs), .int bads, .int nos, .int fuls, .int cau, .int whe, .ref (o 3), .ref (o 4), .int (nI cnt), .int (nI p), .int fau, .int isw, .int ods, .ref (o 5), .ref (o 6)])), (o 1, .inl (g.2.1, 616, .inl (nwF (v.1, v.2.1, filF v.2.2.1 u a (x + 1), v.2.2.2.1, v.2.2.2.2.1, v.2.2.2.2.2.1, v.2.2.2.2.2.2.1, v.2.2.2.2.2.2.2.1, v.2.2.2.2.2.2.2.2.1, v.2.2.2.2.2.2.2.2.2.1, v.2.2.2.2.2.2.2.2.2.2.1, v.2.2.2.2.2.2.2.2.2.2.2.1, v.2.2.2.2.2.2.2.2.2.2.2.2))))] _ _ := hw
          exact ih (x + 1) (by omega) (by omega) (by omega) _ _ _ hw hl
        · refine lv_iconst (v := 0) hx hb dX8_lay_33 (by decide) ?_
          refine lv_goto (tgt := 38) hx hb dX8_lay_34 (by decide) ?_
          refine xn_add hx hb (cntNe v.2.2.1 u a x) 0 rfl rfl dX8_lay_38 ?_
          refine x_topi (x' := nI (cntNe v.2.2.1 u a x)) rfl ?_
          refine lv_istore (lv' := [(5, .int (nI (cntNe v.2.2.1 u a x))), (6, .int (nI x)), (0, .ref (o 0)), (1, .int 1), (3, .int (nI z)), (4, .int u)]) hx hb dX8_lay_39 hl (by decide) rfl (fun ls hl => ?_)
          refine lv_aload_n hx hb dX8_lay_41 rfl (lv_at hl 2 rfl) ?_
          refine x_get E hw kf_X8_7 0 rfl rfl dX8_lay_42 ?_
          refine lv_bipush (v := 16) hx hb dX8_lay_45 (by decide) ?_
          refine lv_iconst (v := 3) hx hb dX8_lay_47 (by decide) ?_
          refine lv_iload hx hb dX8_lay_48 (lv_at hl 1 rfl) ?_
          refine xn_mul hx hb 3 x rfl rfl dX8_lay_50 ?_
          refine xn_add hx hb 16 (3 * x) rfl rfl dX8_lay_51 ?_
          refine lv_iload_n hx hb dX8_lay_52 rfl (lv_at hl 3 rfl) ?_
          refine xn_add hx hb (16 + 3 * x) 1 rfl rfl dX8_lay_53 ?_
          refine lv_iload hx hb dX8_lay_54 (lv_at hl 5 rfl) ?_
          refine x_ist E hw 1 rfl (16 + 3 * x + 1) rfl (by omega) (by decide) (ws' := [(o 0, .inr (8, [.ref (o 1), .ref (o 2), .int (nI hs), .int bads, .int nos, .int fuls, .int cau, .int whe, .ref (o 3), .ref (o 4), .int (nI cnt), .int (nI p), .int fau, .int isw, .int ods, .ref (o 5), .ref (o 6)])), (o 1, .inl (g.2.1, 616, .inl (upd (nwF (v.1, v.2.1, filF v.2.2.1 u a x, v.2.2.2.1, v.2.2.2.2.1, v.2.2.2.2.2.1, v.2.2.2.2.2.2.1, v.2.2.2.2.2.2.2.1, v.2.2.2.2.2.2.2.2.1, v.2.2.2.2.2.2.2.2.2.1, v.2.2.2.2.2.2.2.2.2.2.1, v.2.2.2.2.2.2.2.2.2.2.2.1, v.2.2.2.2.2.2.2.2.2.2.2.2)) (16 + 3 * x + 1) u)))]) rfl dX8_lay_56 (fun H locs hw => ?_)
          have hw := hw.arr (f' := (nwF (v.1, v.2.1, upd (filF v.2.2.1 u a x) x u, v.2.2.2.1, v.2.2.2.2.1, v.2.2.2.2.2.1, v.2.2.2.2.2.2.1, v.2.2.2.2.2.2.2.1, v.2.2.2.2.2.2.2.2.1, v.2.2.2.2.2.2.2.2.2.1, v.2.2.2.2.2.2.2.2.2.2.1, v.2.2.2.2.2.2.2.2.2.2.2.1, v.2.2.2.2.2.2.2.2.2.2.2.2))) (ws' := [(o 0, .inr (8, [.ref (o 1), .ref (o 2), .int (nI hs), .int bads, .int nos, .int fuls, .int cau, .int whe, .ref (o 3), .ref (o 4), .int (nI cnt), .int (nI p), .int fau, .int isw, .int ods, .ref (o 5), .ref (o 6)])), (o 1, .inl (g.2.1, 616, .inl (nwF (v.1, v.2.1, upd (filF v.2.2.1 u a x) x u, v.2.2.2.1, v.2.2.2.2.1, v.2.2.2.2.2.1, v.2.2.2.2.2.2.1, v.2.2.2.2.2.2.2.1, v.2.2.2.2.2.2.2.2.1, v.2.2.2.2.2.2.2.2.2.1, v.2.2.2.2.2.2.2.2.2.2.1, v.2.2.2.2.2.2.2.2.2.2.2.1, v.2.2.2.2.2.2.2.2.2.2.2.2))))]) 1 rfl (fun j _ => nwU_gr _ _ _ j) rfl
          refine lv_iinc (v := nI (x + 1)) (lv' := [(6, .int (nI (x + 1))), (5, .int (nI (cntNe v.2.2.1 u a x))), (0, .ref (o 0)), (1, .int 1), (3, .int (nI z)), (4, .int u)]) hx hb dX8_lay_57 hl (k := 1) rfl (nI_1 _) (by decide) rfl (fun ls hl => ?_)
          refine lv_goto (tgt := 6) hx hb dX8_lay_60 (by decide) ?_
          have hw := hw.arr (f' := (nwF (v.1, v.2.1, filF v.2.2.1 u a (x + 1), v.2.2.2.1, v.2.2.2.2.1, v.2.2.2.2.2.1, v.2.2.2.2.2.2.1, v.2.2.2.2.2.2.2.1, v.2.2.2.2.2.2.2.2.1, v.2.2.2.2.2.2.2.2.2.1, v.2.2.2.2.2.2.2.2.2.2.1, v.2.2.2.2.2.2.2.2.2.2.2.1, v.2.2.2.2.2.2.2.2.2.2.2.2))) (ws' := [(o 0, .inr (8, [.ref (o 1), .ref (o 2), .int (nI hs), .int bads, .int nos, .int fuls, .int cau, .int whe, .ref (o 3), .ref (o 4), .int (nI cnt), .int (nI p), .int fau, .int isw, .int ods, .ref (o 5), .ref (o 6)])), (o 1, .inl (g.2.1, 616, .inl (nwF (v.1, v.2.1, filF v.2.2.1 u a (x + 1), v.2.2.2.1, v.2.2.2.2.1, v.2.2.2.2.2.1, v.2.2.2.2.2.2.1, v.2.2.2.2.2.2.2.1, v.2.2.2.2.2.2.2.2.1, v.2.2.2.2.2.2.2.2.2.1, v.2.2.2.2.2.2.2.2.2.2.1, v.2.2.2.2.2.2.2.2.2.2.2.1, v.2.2.2.2.2.2.2.2.2.2.2.2))))]) 1 rfl (fun j _ => by rw [show upd (filF v.2.2.1 u a x) x u = filF v.2.2.1 u a (x + 1) from funext (filF_st _ _ _ _ h1)]) rfl
          have hl : lv_has ls 7 [(6, .int (nI (x + 1))), (5, .int (nI (cntNe v.2.2.1 u a x))), (0, .ref (o 0)), (1, .int 1), (3, .int (nI z)), (4, .int u)] := lv_sub hl [0, 1, 2, 3, 4, 5] rfl
          have hl : lv_has ls 7 [(6, .int (nI (x + 1))), (5, .int (nI (cntNe v.2.2.1 u a (x + 1)))), (0, .ref (o 0)), (1, .int 1), (3, .int (nI z)), (4, .int u)] := lv_re hl (by rw [show (nI (cntNe v.2.2.1 u a x) : Int32) = nI (cntNe v.2.2.1 u a (x + 1)) from congrArg nI ((cntNe_eq _ _ _ _ ce).symm)])
          have hw : xW g A0 s0 [(o 0, .inr (8, [.ref (o 1), .ref (o 2), .int (nI hs), .int bads, .int nos, .int fuls, .int cau, .int whe, .ref (o 3), .ref (o 4), .int (nI cnt), .int (nI p), .int fau, .int isw, .int ods, .ref (o 5), .ref (o 6)])), (o 1, .inl (g.2.1, 616, .inl (nwF (v.1, v.2.1, filF v.2.2.1 u a (x + 1), v.2.2.2.1, v.2.2.2.2.1, v.2.2.2.2.2.1, v.2.2.2.2.2.2.1, v.2.2.2.2.2.2.2.1, v.2.2.2.2.2.2.2.2.1, v.2.2.2.2.2.2.2.2.2.1, v.2.2.2.2.2.2.2.2.2.2.1, v.2.2.2.2.2.2.2.2.2.2.2.1, v.2.2.2.2.2.2.2.2.2.2.2.2))))] _ _ := hw
          exact ih (x + 1) (by omega) (by omega) (by omega) _ _ _ hw hl
  have hw := hw.arr (f' := (nwF (v.1, v.2.1, filF v.2.2.1 u a a, v.2.2.2.1, v.2.2.2.2.1, v.2.2.2.2.2.1, v.2.2.2.2.2.2.1, v.2.2.2.2.2.2.2.1, v.2.2.2.2.2.2.2.2.1, v.2.2.2.2.2.2.2.2.2.1, v.2.2.2.2.2.2.2.2.2.2.1, v.2.2.2.2.2.2.2.2.2.2.2.1, v.2.2.2.2.2.2.2.2.2.2.2.2))) (ws' := [(o 0, .inr (8, [.ref (o 1), .ref (o 2), .int (nI hs), .int bads, .int nos, .int fuls, .int cau, .int whe, .ref (o 3), .ref (o 4), .int (nI cnt), .int (nI p), .int fau, .int isw, .int ods, .ref (o 5), .ref (o 6)])), (o 1, .inl (g.2.1, 616, .inl (nwF (v.1, v.2.1, filF v.2.2.1 u a a, v.2.2.2.1, v.2.2.2.2.1, v.2.2.2.2.2.1, v.2.2.2.2.2.2.1, v.2.2.2.2.2.2.2.1, v.2.2.2.2.2.2.2.2.1, v.2.2.2.2.2.2.2.2.2.1, v.2.2.2.2.2.2.2.2.2.2.1, v.2.2.2.2.2.2.2.2.2.2.2.1, v.2.2.2.2.2.2.2.2.2.2.2.2))))]) 1 rfl (fun j _ => by rw [show filF v.2.2.1 u a a = v.2.2.1 from funext (filF_nil _ _ _)]) rfl
  have hl : lv_has ls 7 [(6, .int (nI a)), (5, .int 0), (0, .ref (o 0)), (1, .int 1), (3, .int (nI z)), (4, .int u)] := lv_sub hl [0, 1, 2, 3, 5, 6] rfl
  have hl : lv_has ls 7 [(6, .int (nI a)), (5, .int (nI (cntNe v.2.2.1 u a a))), (0, .ref (o 0)), (1, .int 1), (3, .int (nI z)), (4, .int u)] := lv_re hl (by rw [show (0 : Int32) = nI (cntNe v.2.2.1 u a a) from congrArg nI ((cntNe_nil _ _ _).symm)])
  have hw : xW g A0 s0 [(o 0, .inr (8, [.ref (o 1), .ref (o 2), .int (nI hs), .int bads, .int nos, .int fuls, .int cau, .int whe, .ref (o 3), .ref (o 4), .int (nI cnt), .int (nI p), .int fau, .int isw, .int ods, .ref (o 5), .ref (o 6)])), (o 1, .inl (g.2.1, 616, .inl (nwF (v.1, v.2.1, filF v.2.2.1 u a a, v.2.2.2.1, v.2.2.2.2.1, v.2.2.2.2.2.1, v.2.2.2.2.2.2.1, v.2.2.2.2.2.2.2.1, v.2.2.2.2.2.2.2.2.1, v.2.2.2.2.2.2.2.2.2.1, v.2.2.2.2.2.2.2.2.2.2.1, v.2.2.2.2.2.2.2.2.2.2.2.1, v.2.2.2.2.2.2.2.2.2.2.2.2))))] _ _ := hw
  exact lp_6 ((z + 1 - a) + 1) a (Nat.lt_succ_self _) (by omega) (by omega) _ _ _ hw hl

set_option maxRecDepth 100000 in
set_option maxHeartbeats 4000000 in
theorem c_X8_signal (l : Launch) (g : xCfg) (o : Nat → Nat) (hs : Nat) (bads : Int32) (nos : Int32) (fuls : Int32) (cau : Int32) (whe : Int32) (cnt : Nat) (p : Nat) (fau : Int32) (isw : Int32) (ods : Int32) (v : SV) (a : Nat) (u : Int32) (ha : a < 200) : Ct l g yX8_signal cX8_signal 4 (some .int) (xR 0 0) [.ref (o 0), .int (nI a), .int u] [(o 0, .inr (8, [.ref (o 1), .ref (o 2), .int (nI hs), .int bads, .int nos, .int fuls, .int cau, .int whe, .ref (o 3), .ref (o 4), .int (nI cnt), .int (nI p), .int fau, .int isw, .int ods, .ref (o 5), .ref (o 6)])), (o 1, .inl (g.2.1, 616, .inl (nwF v)))] (is1 (some (.int (v.2.2.2.1 a))) [(o 0, .inr (8, [.ref (o 1), .ref (o 2), .int (nI hs), .int bads, .int nos, .int fuls, .int cau, .int whe, .ref (o 3), .ref (o 4), .int (nI cnt), .int (nI p), .int fau, .int isw, .int ods, .ref (o 5), .ref (o 6)])), (o 1, .inl (g.2.1, 616, .inl (nwF (beaS a u v))))]) := by
  refine Ct.walk (by decide) (Nat.le_of_ble_eq_true rfl) ?_
  intro p0 e0 s0 m0 below meth c0 A0 ls Q hQ E hr hnm hw hl
  have hx := E.x
  have hb := E.b
  have hl : lv_has ls 4 [(0, .ref (o 0)), (1, .int (nI a)), (2, .int u)] := hl
  refine lv_aload_n hx hb dX8_signal_0 rfl (lv_at hl 0 rfl) ?_
  refine x_get E hw kf_X8_7 0 rfl rfl dX8_signal_1 ?_
  refine lv_bipush (v := 16) hx hb dX8_signal_4 (by decide) ?_
  refine lv_iconst (v := 3) hx hb dX8_signal_6 (by decide) ?_
  refine lv_iload_n hx hb dX8_signal_7 rfl (lv_at hl 1 rfl) ?_
  refine xn_mul hx hb 3 a rfl rfl dX8_signal_8 ?_
  refine xn_add hx hb 16 (3 * a) rfl rfl dX8_signal_9 ?_
  refine lv_iconst (v := 2) hx hb dX8_signal_10 (by decide) ?_
  refine xn_add hx hb (16 + 3 * a) 2 rfl rfl dX8_signal_11 ?_
  refine x_ld (v := v.2.2.2.1 a) E hw 1 rfl (16 + 3 * a + 2) rfl (by omega) (by decide) (nw_be _ _) dX8_signal_12 ?_
  refine lv_istore_n (lv' := [(3, .int (v.2.2.2.1 a)), (0, .ref (o 0)), (1, .int (nI a)), (2, .int u)]) hx hb dX8_signal_13 rfl hl (by decide) rfl (fun ls hl => ?_)
  refine lv_aload_n hx hb dX8_signal_14 rfl (lv_at hl 1 rfl) ?_
  refine x_get E hw kf_X8_7 0 rfl rfl dX8_signal_15 ?_
  refine lv_bipush (v := 16) hx hb dX8_signal_18 (by decide) ?_
  refine lv_iconst (v := 3) hx hb dX8_signal_20 (by decide) ?_
  refine lv_iload_n hx hb dX8_signal_21 rfl (lv_at hl 2 rfl) ?_
  refine xn_mul hx hb 3 a rfl rfl dX8_signal_22 ?_
  refine xn_add hx hb 16 (3 * a) rfl rfl dX8_signal_23 ?_
  refine lv_iconst (v := 2) hx hb dX8_signal_24 (by decide) ?_
  refine xn_add hx hb (16 + 3 * a) 2 rfl rfl dX8_signal_25 ?_
  refine lv_iload_n hx hb dX8_signal_26 rfl (lv_at hl 3 rfl) ?_
  refine x_ist E hw 1 rfl (16 + 3 * a + 2) rfl (by omega) (by decide) (ws' := [(o 0, .inr (8, [.ref (o 1), .ref (o 2), .int (nI hs), .int bads, .int nos, .int fuls, .int cau, .int whe, .ref (o 3), .ref (o 4), .int (nI cnt), .int (nI p), .int fau, .int isw, .int ods, .ref (o 5), .ref (o 6)])), (o 1, .inl (g.2.1, 616, .inl (upd (nwF v) (16 + 3 * a + 2) u)))]) rfl dX8_signal_27 (fun H locs hw => ?_)
  have hw := hw.arr (f' := (nwF (v.1, v.2.1, v.2.2.1, upd v.2.2.2.1 a u, v.2.2.2.2.1, v.2.2.2.2.2.1, v.2.2.2.2.2.2.1, v.2.2.2.2.2.2.2.1, v.2.2.2.2.2.2.2.2.1, v.2.2.2.2.2.2.2.2.2.1, v.2.2.2.2.2.2.2.2.2.2.1, v.2.2.2.2.2.2.2.2.2.2.2.1, v.2.2.2.2.2.2.2.2.2.2.2.2))) (ws' := [(o 0, .inr (8, [.ref (o 1), .ref (o 2), .int (nI hs), .int bads, .int nos, .int fuls, .int cau, .int whe, .ref (o 3), .ref (o 4), .int (nI cnt), .int (nI p), .int fau, .int isw, .int ods, .ref (o 5), .ref (o 6)])), (o 1, .inl (g.2.1, 616, .inl (nwF (v.1, v.2.1, v.2.2.1, upd v.2.2.2.1 a u, v.2.2.2.2.1, v.2.2.2.2.2.1, v.2.2.2.2.2.2.1, v.2.2.2.2.2.2.2.1, v.2.2.2.2.2.2.2.2.1, v.2.2.2.2.2.2.2.2.2.1, v.2.2.2.2.2.2.2.2.2.2.1, v.2.2.2.2.2.2.2.2.2.2.2.1, v.2.2.2.2.2.2.2.2.2.2.2.2))))]) 1 rfl (fun j _ => nwU_be _ _ _ j) rfl
  refine lv_iload_n hx hb dX8_signal_28 rfl (lv_at hl 0 rfl) ?_
  exact xr_i hQ E hr hw dX8_signal_29 ⟨rfl, rfl⟩

set_option maxRecDepth 100000 in
set_option maxHeartbeats 4000000 in
theorem c_X8_set (l : Launch) (g : xCfg) (o : Nat → Nat) (hs : Nat) (bads : Int32) (nos : Int32) (fuls : Int32) (cau : Int32) (whe : Int32) (cnt : Nat) (p : Nat) (fau : Int32) (isw : Int32) (ods : Int32) (v : SV) (w : Nat) (u : Int32) (hw0 : w < 7) : Ct l g yX8_set cX8_set 4 (some .int) (xR 0 0) [.ref (o 0), .int (nI w), .int u] [(o 0, .inr (8, [.ref (o 1), .ref (o 2), .int (nI hs), .int bads, .int nos, .int fuls, .int cau, .int whe, .ref (o 3), .ref (o 4), .int (nI cnt), .int (nI p), .int fau, .int isw, .int ods, .ref (o 5), .ref (o 6)])), (o 1, .inl (g.2.1, 616, .inl (nwF v)))] (is1 (some (.int (v.2.2.2.2.1 w))) [(o 0, .inr (8, [.ref (o 1), .ref (o 2), .int (nI hs), .int bads, .int nos, .int fuls, .int cau, .int whe, .ref (o 3), .ref (o 4), .int (nI cnt), .int (nI p), .int fau, .int isw, .int ods, .ref (o 5), .ref (o 6)])), (o 1, .inl (g.2.1, 616, .inl (nwF (setS w u v))))]) := by
  refine Ct.walk (by decide) (Nat.le_of_ble_eq_true rfl) ?_
  intro p0 e0 s0 m0 below meth c0 A0 ls Q hQ E hr hnm hw hl
  have hx := E.x
  have hb := E.b
  have hl : lv_has ls 4 [(0, .ref (o 0)), (1, .int (nI w)), (2, .int u)] := hl
  refine lv_aload_n hx hb dX8_set_0 rfl (lv_at hl 0 rfl) ?_
  refine x_get E hw kf_X8_7 0 rfl rfl dX8_set_1 ?_
  refine lv_iconst (v := 1) hx hb dX8_set_4 (by decide) ?_
  refine lv_iload_n hx hb dX8_set_5 rfl (lv_at hl 1 rfl) ?_
  refine xn_add hx hb 1 w rfl rfl dX8_set_6 ?_
  refine x_ld (v := v.2.2.2.2.1 w) E hw 1 rfl (1 + w) rfl (by omega) (by decide) (nw_st _ (by omega)) dX8_set_7 ?_
  refine lv_istore_n (lv' := [(3, .int (v.2.2.2.2.1 w)), (0, .ref (o 0)), (1, .int (nI w)), (2, .int u)]) hx hb dX8_set_8 rfl hl (by decide) rfl (fun ls hl => ?_)
  refine lv_aload_n hx hb dX8_set_9 rfl (lv_at hl 1 rfl) ?_
  refine x_get E hw kf_X8_7 0 rfl rfl dX8_set_10 ?_
  refine lv_iconst (v := 1) hx hb dX8_set_13 (by decide) ?_
  refine lv_iload_n hx hb dX8_set_14 rfl (lv_at hl 2 rfl) ?_
  refine xn_add hx hb 1 w rfl rfl dX8_set_15 ?_
  refine lv_iload_n hx hb dX8_set_16 rfl (lv_at hl 3 rfl) ?_
  refine x_ist E hw 1 rfl (1 + w) rfl (by omega) (by decide) (ws' := [(o 0, .inr (8, [.ref (o 1), .ref (o 2), .int (nI hs), .int bads, .int nos, .int fuls, .int cau, .int whe, .ref (o 3), .ref (o 4), .int (nI cnt), .int (nI p), .int fau, .int isw, .int ods, .ref (o 5), .ref (o 6)])), (o 1, .inl (g.2.1, 616, .inl (upd (nwF v) (1 + w) u)))]) rfl dX8_set_17 (fun H locs hw => ?_)
  have hw := hw.arr (f' := (nwF (v.1, v.2.1, v.2.2.1, v.2.2.2.1, upd v.2.2.2.2.1 w u, v.2.2.2.2.2.1, v.2.2.2.2.2.2.1, v.2.2.2.2.2.2.2.1, v.2.2.2.2.2.2.2.2.1, v.2.2.2.2.2.2.2.2.2.1, v.2.2.2.2.2.2.2.2.2.2.1, v.2.2.2.2.2.2.2.2.2.2.2.1, v.2.2.2.2.2.2.2.2.2.2.2.2))) (ws' := [(o 0, .inr (8, [.ref (o 1), .ref (o 2), .int (nI hs), .int bads, .int nos, .int fuls, .int cau, .int whe, .ref (o 3), .ref (o 4), .int (nI cnt), .int (nI p), .int fau, .int isw, .int ods, .ref (o 5), .ref (o 6)])), (o 1, .inl (g.2.1, 616, .inl (nwF (v.1, v.2.1, v.2.2.1, v.2.2.2.1, upd v.2.2.2.2.1 w u, v.2.2.2.2.2.1, v.2.2.2.2.2.2.1, v.2.2.2.2.2.2.2.1, v.2.2.2.2.2.2.2.2.1, v.2.2.2.2.2.2.2.2.2.1, v.2.2.2.2.2.2.2.2.2.2.1, v.2.2.2.2.2.2.2.2.2.2.2.1, v.2.2.2.2.2.2.2.2.2.2.2.2))))]) 1 rfl (fun j _ => nwU_st _ _ (by omega) j) rfl
  refine lv_iload_n hx hb dX8_set_18 rfl (lv_at hl 0 rfl) ?_
  exact xr_i hQ E hr hw dX8_set_19 ⟨rfl, rfl⟩

set_option maxRecDepth 100000 in
set_option maxHeartbeats 4000000 in
theorem c_X8_maySet_0 (l : Launch) (g : xCfg) (u : Int32) (hv : tLeast 0 ≤ u) (hv2 : u ≤ tMost 0) : Ct l g yX8_maySet cX8_maySet 2 (some .boolean) (xR 1 22) [.int 0, .int u] [] (is1 (some (.int 1)) []) := by
  refine Ct.walk (by decide) (Nat.le_of_ble_eq_true rfl) ?_
  intro p0 e0 s0 m0 below meth c0 A0 ls Q hQ E hr hnm hw hl
  have hx := E.x
  have hb := E.b
  have hl : lv_has ls 2 [(0, .int 0), (1, .int u)] := hl
  refine lv_iload_n hx hb dX8_maySet_0 rfl (lv_at hl 0 rfl) ?_
  refine x_sw (v := 0) (off := 31) (tgt := 32) hx hb dX8_maySet_1 rfl (by decide) (by decide) (by decide) (by decide) ?_
  refine lv_iload_n hx hb dX8_maySet_32 rfl (lv_at hl 1 rfl) ?_
  refine lv_iconst (v := 1) hx hb dX8_maySet_33 (by decide) ?_
  refine lv_bipush (v := 60) hx hb dX8_maySet_34 (by decide) ?_
  refine x_goR (st1 := [.int 1]) E hw [] rfl (x_runS (rest := []) E hw (c_X8_in_ok l g u 1 60 hv hv2) km_X8_45 ks_X8_in [] rfl (by decide) hl.1 rfl rfl (Nat.le_of_ble_eq_true rfl) ⟨Nat.le_of_ble_eq_true rfl, Nat.le_of_ble_eq_true rfl⟩ ⟨Nat.zero_le _, Nat.zero_le _⟩ dX8_maySet_36) rfl (fun H locs hw => ?_)
  exact xr_z hQ E hr hw dX8_maySet_39 (by decide) ⟨rfl, rfl⟩

set_option maxRecDepth 100000 in
set_option maxHeartbeats 4000000 in
theorem c_X8_maySet_1 (l : Launch) (g : xCfg) (u : Int32) (hv : tLeast 1 ≤ u) (hv2 : u ≤ tMost 1) : Ct l g yX8_maySet cX8_maySet 2 (some .boolean) (xR 1 22) [.int 1, .int u] [] (is1 (some (.int 1)) []) := by
  refine Ct.walk (by decide) (Nat.le_of_ble_eq_true rfl) ?_
  intro p0 e0 s0 m0 below meth c0 A0 ls Q hQ E hr hnm hw hl
  have hx := E.x
  have hb := E.b
  have hl : lv_has ls 2 [(0, .int 1), (1, .int u)] := hl
  refine lv_iload_n hx hb dX8_maySet_0 rfl (lv_at hl 0 rfl) ?_
  refine x_sw (v := 1) (off := 39) (tgt := 40) hx hb dX8_maySet_1 rfl (by decide) (by decide) (by decide) (by decide) ?_
  refine lv_iload_n hx hb dX8_maySet_40 rfl (lv_at hl 1 rfl) ?_
  refine lv_iconst (v := 0) hx hb dX8_maySet_41 (by decide) ?_
  refine lv_bipush (v := 30) hx hb dX8_maySet_42 (by decide) ?_
  refine x_goR (st1 := [.int 1]) E hw [] rfl (x_runS (rest := []) E hw (c_X8_in_ok l g u 0 30 hv hv2) km_X8_45 ks_X8_in [] rfl (by decide) hl.1 rfl rfl (Nat.le_of_ble_eq_true rfl) ⟨Nat.le_of_ble_eq_true rfl, Nat.le_of_ble_eq_true rfl⟩ ⟨Nat.zero_le _, Nat.zero_le _⟩ dX8_maySet_44) rfl (fun H locs hw => ?_)
  exact xr_z hQ E hr hw dX8_maySet_47 (by decide) ⟨rfl, rfl⟩

set_option maxRecDepth 100000 in
set_option maxHeartbeats 4000000 in
theorem c_X8_maySet_2 (l : Launch) (g : xCfg) (u : Int32) (hv : tLeast 2 ≤ u) (hv2 : u ≤ tMost 2) : Ct l g yX8_maySet cX8_maySet 2 (some .boolean) (xR 1 22) [.int 2, .int u] [] (is1 (some (.int 1)) []) := by
  refine Ct.walk (by decide) (Nat.le_of_ble_eq_true rfl) ?_
  intro p0 e0 s0 m0 below meth c0 A0 ls Q hQ E hr hnm hw hl
  have hx := E.x
  have hb := E.b
  have hl : lv_has ls 2 [(0, .int 2), (1, .int u)] := hl
  refine lv_iload_n hx hb dX8_maySet_0 rfl (lv_at hl 0 rfl) ?_
  refine x_sw (v := 2) (off := 47) (tgt := 48) hx hb dX8_maySet_1 rfl (by decide) (by decide) (by decide) (by decide) ?_
  refine lv_iload_n hx hb dX8_maySet_48 rfl (lv_at hl 1 rfl) ?_
  refine lv_iconst (v := 1) hx hb dX8_maySet_49 (by decide) ?_
  refine lv_bipush (v := 30) hx hb dX8_maySet_50 (by decide) ?_
  refine x_goR (st1 := [.int 1]) E hw [] rfl (x_runS (rest := []) E hw (c_X8_in_ok l g u 1 30 hv hv2) km_X8_45 ks_X8_in [] rfl (by decide) hl.1 rfl rfl (Nat.le_of_ble_eq_true rfl) ⟨Nat.le_of_ble_eq_true rfl, Nat.le_of_ble_eq_true rfl⟩ ⟨Nat.zero_le _, Nat.zero_le _⟩ dX8_maySet_52) rfl (fun H locs hw => ?_)
  exact xr_z hQ E hr hw dX8_maySet_55 (by decide) ⟨rfl, rfl⟩

set_option maxRecDepth 100000 in
set_option maxHeartbeats 4000000 in
theorem c_X8_maySet_3 (l : Launch) (g : xCfg) (u : Int32) (hv : tLeast 3 ≤ u) (hv2 : u ≤ tMost 3) : Ct l g yX8_maySet cX8_maySet 2 (some .boolean) (xR 1 22) [.int 3, .int u] [] (is1 (some (.int 1)) []) := by
  refine Ct.walk (by decide) (Nat.le_of_ble_eq_true rfl) ?_
  intro p0 e0 s0 m0 below meth c0 A0 ls Q hQ E hr hnm hw hl
  have hx := E.x
  have hb := E.b
  have hl : lv_has ls 2 [(0, .int 3), (1, .int u)] := hl
  refine lv_iload_n hx hb dX8_maySet_0 rfl (lv_at hl 0 rfl) ?_
  refine x_sw (v := 3) (off := 55) (tgt := 56) hx hb dX8_maySet_1 rfl (by decide) (by decide) (by decide) (by decide) ?_
  refine lv_iload_n hx hb dX8_maySet_56 rfl (lv_at hl 1 rfl) ?_
  refine lv_iconst (v := 0) hx hb dX8_maySet_57 (by decide) ?_
  refine lv_bipush (v := 100) hx hb dX8_maySet_58 (by decide) ?_
  refine x_goR (st1 := [.int 1]) E hw [] rfl (x_runS (rest := []) E hw (c_X8_in_ok l g u 0 100 hv hv2) km_X8_45 ks_X8_in [] rfl (by decide) hl.1 rfl rfl (Nat.le_of_ble_eq_true rfl) ⟨Nat.le_of_ble_eq_true rfl, Nat.le_of_ble_eq_true rfl⟩ ⟨Nat.zero_le _, Nat.zero_le _⟩ dX8_maySet_60) rfl (fun H locs hw => ?_)
  exact xr_z hQ E hr hw dX8_maySet_63 (by decide) ⟨rfl, rfl⟩

set_option maxRecDepth 100000 in
set_option maxHeartbeats 4000000 in
theorem c_X8_maySet_4 (l : Launch) (g : xCfg) (u : Int32) (hv : tLeast 4 ≤ u) (hv2 : u ≤ tMost 4) : Ct l g yX8_maySet cX8_maySet 2 (some .boolean) (xR 1 22) [.int 4, .int u] [] (is1 (some (.int 1)) []) := by
  refine Ct.walk (by decide) (Nat.le_of_ble_eq_true rfl) ?_
  intro p0 e0 s0 m0 below meth c0 A0 ls Q hQ E hr hnm hw hl
  have hx := E.x
  have hb := E.b
  have hl : lv_has ls 2 [(0, .int 4), (1, .int u)] := hl
  refine lv_iload_n hx hb dX8_maySet_0 rfl (lv_at hl 0 rfl) ?_
  refine lv_tableOut (tgt := 64) hx hb dX8_maySet_1 (by decide) (by decide) ?_
  refine lv_iload_n hx hb dX8_maySet_64 rfl (lv_at hl 0 rfl) ?_
  refine lv_iconst (v := 4) hx hb dX8_maySet_65 (by decide) ?_
  refine lv_bipush (v := 6) hx hb dX8_maySet_66 (by decide) ?_
  refine x_goR (st1 := [.int 1]) E hw [] rfl (x_runS (rest := []) E hw (c_X8_in_ok l g 4 4 6 (by decide) (by decide)) km_X8_45 ks_X8_in [] rfl (by decide) hl.1 rfl rfl (Nat.le_of_ble_eq_true rfl) ⟨Nat.le_of_ble_eq_true rfl, Nat.le_of_ble_eq_true rfl⟩ ⟨Nat.zero_le _, Nat.zero_le _⟩ dX8_maySet_68) rfl (fun H locs hw => ?_)
  refine lv_if_eq (tgt := 88) hx hb dX8_maySet_71 (by decide) (fun h => absurd h (by decide)) (fun _ => ?_)
  refine lv_iload_n hx hb dX8_maySet_74 rfl (lv_at hl 1 rfl) ?_
  refine lv_iconst (v := 0) hx hb dX8_maySet_75 (by decide) ?_
  refine lv_bipush (v := 9) hx hb dX8_maySet_76 (by decide) ?_
  refine x_goR (st1 := [.int 1]) E hw [] rfl (x_runS (rest := []) E hw (c_X8_in_ok l g u 0 9 hv hv2) km_X8_45 ks_X8_in [] rfl (by decide) hl.1 rfl rfl (Nat.le_of_ble_eq_true rfl) ⟨Nat.le_of_ble_eq_true rfl, Nat.le_of_ble_eq_true rfl⟩ ⟨Nat.zero_le _, Nat.zero_le _⟩ dX8_maySet_78) rfl (fun H locs hw => ?_)
  refine lv_if_eq (tgt := 88) hx hb dX8_maySet_81 (by decide) (fun h => absurd h (by decide)) (fun _ => ?_)
  refine lv_iconst (v := 1) hx hb dX8_maySet_84 (by decide) ?_
  refine lv_goto (tgt := 89) hx hb dX8_maySet_85 (by decide) ?_
  exact xr_z hQ E hr hw dX8_maySet_89 (by decide) ⟨rfl, rfl⟩

set_option maxRecDepth 100000 in
set_option maxHeartbeats 4000000 in
theorem c_X8_maySet_5 (l : Launch) (g : xCfg) (u : Int32) (hv : tLeast 5 ≤ u) (hv2 : u ≤ tMost 5) : Ct l g yX8_maySet cX8_maySet 2 (some .boolean) (xR 1 22) [.int 5, .int u] [] (is1 (some (.int 1)) []) := by
  refine Ct.walk (by decide) (Nat.le_of_ble_eq_true rfl) ?_
  intro p0 e0 s0 m0 below meth c0 A0 ls Q hQ E hr hnm hw hl
  have hx := E.x
  have hb := E.b
  have hl : lv_has ls 2 [(0, .int 5), (1, .int u)] := hl
  refine lv_iload_n hx hb dX8_maySet_0 rfl (lv_at hl 0 rfl) ?_
  refine lv_tableOut (tgt := 64) hx hb dX8_maySet_1 (by decide) (by decide) ?_
  refine lv_iload_n hx hb dX8_maySet_64 rfl (lv_at hl 0 rfl) ?_
  refine lv_iconst (v := 4) hx hb dX8_maySet_65 (by decide) ?_
  refine lv_bipush (v := 6) hx hb dX8_maySet_66 (by decide) ?_
  refine x_goR (st1 := [.int 1]) E hw [] rfl (x_runS (rest := []) E hw (c_X8_in_ok l g 5 4 6 (by decide) (by decide)) km_X8_45 ks_X8_in [] rfl (by decide) hl.1 rfl rfl (Nat.le_of_ble_eq_true rfl) ⟨Nat.le_of_ble_eq_true rfl, Nat.le_of_ble_eq_true rfl⟩ ⟨Nat.zero_le _, Nat.zero_le _⟩ dX8_maySet_68) rfl (fun H locs hw => ?_)
  refine lv_if_eq (tgt := 88) hx hb dX8_maySet_71 (by decide) (fun h => absurd h (by decide)) (fun _ => ?_)
  refine lv_iload_n hx hb dX8_maySet_74 rfl (lv_at hl 1 rfl) ?_
  refine lv_iconst (v := 0) hx hb dX8_maySet_75 (by decide) ?_
  refine lv_bipush (v := 9) hx hb dX8_maySet_76 (by decide) ?_
  refine x_goR (st1 := [.int 1]) E hw [] rfl (x_runS (rest := []) E hw (c_X8_in_ok l g u 0 9 hv hv2) km_X8_45 ks_X8_in [] rfl (by decide) hl.1 rfl rfl (Nat.le_of_ble_eq_true rfl) ⟨Nat.le_of_ble_eq_true rfl, Nat.le_of_ble_eq_true rfl⟩ ⟨Nat.zero_le _, Nat.zero_le _⟩ dX8_maySet_78) rfl (fun H locs hw => ?_)
  refine lv_if_eq (tgt := 88) hx hb dX8_maySet_81 (by decide) (fun h => absurd h (by decide)) (fun _ => ?_)
  refine lv_iconst (v := 1) hx hb dX8_maySet_84 (by decide) ?_
  refine lv_goto (tgt := 89) hx hb dX8_maySet_85 (by decide) ?_
  exact xr_z hQ E hr hw dX8_maySet_89 (by decide) ⟨rfl, rfl⟩

set_option maxRecDepth 100000 in
set_option maxHeartbeats 4000000 in
theorem c_X8_maySet_6 (l : Launch) (g : xCfg) (u : Int32) (hv : tLeast 6 ≤ u) (hv2 : u ≤ tMost 6) : Ct l g yX8_maySet cX8_maySet 2 (some .boolean) (xR 1 22) [.int 6, .int u] [] (is1 (some (.int 1)) []) := by
  refine Ct.walk (by decide) (Nat.le_of_ble_eq_true rfl) ?_
  intro p0 e0 s0 m0 below meth c0 A0 ls Q hQ E hr hnm hw hl
  have hx := E.x
  have hb := E.b
  have hl : lv_has ls 2 [(0, .int 6), (1, .int u)] := hl
  refine lv_iload_n hx hb dX8_maySet_0 rfl (lv_at hl 0 rfl) ?_
  refine lv_tableOut (tgt := 64) hx hb dX8_maySet_1 (by decide) (by decide) ?_
  refine lv_iload_n hx hb dX8_maySet_64 rfl (lv_at hl 0 rfl) ?_
  refine lv_iconst (v := 4) hx hb dX8_maySet_65 (by decide) ?_
  refine lv_bipush (v := 6) hx hb dX8_maySet_66 (by decide) ?_
  refine x_goR (st1 := [.int 1]) E hw [] rfl (x_runS (rest := []) E hw (c_X8_in_ok l g 6 4 6 (by decide) (by decide)) km_X8_45 ks_X8_in [] rfl (by decide) hl.1 rfl rfl (Nat.le_of_ble_eq_true rfl) ⟨Nat.le_of_ble_eq_true rfl, Nat.le_of_ble_eq_true rfl⟩ ⟨Nat.zero_le _, Nat.zero_le _⟩ dX8_maySet_68) rfl (fun H locs hw => ?_)
  refine lv_if_eq (tgt := 88) hx hb dX8_maySet_71 (by decide) (fun h => absurd h (by decide)) (fun _ => ?_)
  refine lv_iload_n hx hb dX8_maySet_74 rfl (lv_at hl 1 rfl) ?_
  refine lv_iconst (v := 0) hx hb dX8_maySet_75 (by decide) ?_
  refine lv_bipush (v := 9) hx hb dX8_maySet_76 (by decide) ?_
  refine x_goR (st1 := [.int 1]) E hw [] rfl (x_runS (rest := []) E hw (c_X8_in_ok l g u 0 9 hv hv2) km_X8_45 ks_X8_in [] rfl (by decide) hl.1 rfl rfl (Nat.le_of_ble_eq_true rfl) ⟨Nat.le_of_ble_eq_true rfl, Nat.le_of_ble_eq_true rfl⟩ ⟨Nat.zero_le _, Nat.zero_le _⟩ dX8_maySet_78) rfl (fun H locs hw => ?_)
  refine lv_if_eq (tgt := 88) hx hb dX8_maySet_81 (by decide) (fun h => absurd h (by decide)) (fun _ => ?_)
  refine lv_iconst (v := 1) hx hb dX8_maySet_84 (by decide) ?_
  refine lv_goto (tgt := 89) hx hb dX8_maySet_85 (by decide) ?_
  exact xr_z hQ E hr hw dX8_maySet_89 (by decide) ⟨rfl, rfl⟩

theorem c_X8_maySet (l : Launch) (g : xCfg) (u : Int32) (w : Nat) (hw0 : w < 7) (hv : tLeast w ≤ u) (hv2 : u ≤ tMost w) : Ct l g yX8_maySet cX8_maySet 2 (some .boolean) (xR 1 22) [.int (nI w), .int u] [] (is1 (some (.int 1)) []) := by
  match w, hw0 with
  | 0, _ => exact c_X8_maySet_0 l g u hv hv2
  | 1, _ => exact c_X8_maySet_1 l g u hv hv2
  | 2, _ => exact c_X8_maySet_2 l g u hv hv2
  | 3, _ => exact c_X8_maySet_3 l g u hv hv2
  | 4, _ => exact c_X8_maySet_4 l g u hv hv2
  | 5, _ => exact c_X8_maySet_5 l g u hv hv2
  | 6, _ => exact c_X8_maySet_6 l g u hv hv2
  | w + 7, h => exact absurd h (by omega)

set_option maxRecDepth 100000 in
set_option maxHeartbeats 4000000 in
theorem c_X8_maySet_bad (l : Launch) (g : xCfg) (wh : Int32) (u : Int32) (hb0 : ¬ setOk wh u) : Ct l g yX8_maySet cX8_maySet 2 (some .boolean) (xR 1 22) [.int wh, .int u] [] (is1 (some (.int 0)) []) := by
  refine Ct.walk (by decide) (Nat.le_of_ble_eq_true rfl) ?_
  intro p0 e0 s0 m0 below meth c0 A0 ls Q hQ E hr hnm hw hl
  have hx := E.x
  have hb := E.b
  have hl : lv_has ls 2 [(0, .int wh), (1, .int u)] := hl
  refine lv_iload_n hx hb dX8_maySet_0 rfl (lv_at hl 0 rfl) ?_
  by_cases s_1_0 : wh = 0
  · refine x_sw (v := 0) (off := 31) (tgt := 32) hx hb dX8_maySet_1 s_1_0 (by decide) (by decide) (by decide) (by decide) ?_
    refine lv_iload_n hx hb dX8_maySet_32 rfl (lv_at hl 1 rfl) ?_
    refine lv_iconst (v := 1) hx hb dX8_maySet_33 (by decide) ?_
    refine lv_bipush (v := 60) hx hb dX8_maySet_34 (by decide) ?_
    refine x_goR (st1 := [.int (bI (1 ≤ u ∧ u ≤ 60))]) E hw [] rfl (x_runS (rest := []) E hw (c_X8_in l g u 1 60 ) km_X8_45 ks_X8_in [] rfl (by decide) hl.1 rfl rfl (Nat.le_of_ble_eq_true rfl) ⟨Nat.le_of_ble_eq_true rfl, Nat.le_of_ble_eq_true rfl⟩ ⟨Nat.zero_le _, Nat.zero_le _⟩ dX8_maySet_36) rfl (fun H locs hw => ?_)
    exact xr_z hQ E hr hw dX8_maySet_39 (bI_01 _) ⟨congrArg (fun z => some (Value.int z)) (bI_f (fun z => hb0 (by rw [show wh = nI 0 from s_1_0]; exact (setOk_w (w := 0) (by decide)).mpr z))), rfl⟩
  by_cases s_1_1 : wh = 1
  · refine x_sw (v := 1) (off := 39) (tgt := 40) hx hb dX8_maySet_1 s_1_1 (by decide) (by decide) (by decide) (by decide) ?_
    refine lv_iload_n hx hb dX8_maySet_40 rfl (lv_at hl 1 rfl) ?_
    refine lv_iconst (v := 0) hx hb dX8_maySet_41 (by decide) ?_
    refine lv_bipush (v := 30) hx hb dX8_maySet_42 (by decide) ?_
    refine x_goR (st1 := [.int (bI (0 ≤ u ∧ u ≤ 30))]) E hw [] rfl (x_runS (rest := []) E hw (c_X8_in l g u 0 30 ) km_X8_45 ks_X8_in [] rfl (by decide) hl.1 rfl rfl (Nat.le_of_ble_eq_true rfl) ⟨Nat.le_of_ble_eq_true rfl, Nat.le_of_ble_eq_true rfl⟩ ⟨Nat.zero_le _, Nat.zero_le _⟩ dX8_maySet_44) rfl (fun H locs hw => ?_)
    exact xr_z hQ E hr hw dX8_maySet_47 (bI_01 _) ⟨congrArg (fun z => some (Value.int z)) (bI_f (fun z => hb0 (by rw [show wh = nI 1 from s_1_1]; exact (setOk_w (w := 1) (by decide)).mpr z))), rfl⟩
  by_cases s_1_2 : wh = 2
  · refine x_sw (v := 2) (off := 47) (tgt := 48) hx hb dX8_maySet_1 s_1_2 (by decide) (by decide) (by decide) (by decide) ?_
    refine lv_iload_n hx hb dX8_maySet_48 rfl (lv_at hl 1 rfl) ?_
    refine lv_iconst (v := 1) hx hb dX8_maySet_49 (by decide) ?_
    refine lv_bipush (v := 30) hx hb dX8_maySet_50 (by decide) ?_
    refine x_goR (st1 := [.int (bI (1 ≤ u ∧ u ≤ 30))]) E hw [] rfl (x_runS (rest := []) E hw (c_X8_in l g u 1 30 ) km_X8_45 ks_X8_in [] rfl (by decide) hl.1 rfl rfl (Nat.le_of_ble_eq_true rfl) ⟨Nat.le_of_ble_eq_true rfl, Nat.le_of_ble_eq_true rfl⟩ ⟨Nat.zero_le _, Nat.zero_le _⟩ dX8_maySet_52) rfl (fun H locs hw => ?_)
    exact xr_z hQ E hr hw dX8_maySet_55 (bI_01 _) ⟨congrArg (fun z => some (Value.int z)) (bI_f (fun z => hb0 (by rw [show wh = nI 2 from s_1_2]; exact (setOk_w (w := 2) (by decide)).mpr z))), rfl⟩
  by_cases s_1_3 : wh = 3
  · refine x_sw (v := 3) (off := 55) (tgt := 56) hx hb dX8_maySet_1 s_1_3 (by decide) (by decide) (by decide) (by decide) ?_
    refine lv_iload_n hx hb dX8_maySet_56 rfl (lv_at hl 1 rfl) ?_
    refine lv_iconst (v := 0) hx hb dX8_maySet_57 (by decide) ?_
    refine lv_bipush (v := 100) hx hb dX8_maySet_58 (by decide) ?_
    refine x_goR (st1 := [.int (bI (0 ≤ u ∧ u ≤ 100))]) E hw [] rfl (x_runS (rest := []) E hw (c_X8_in l g u 0 100 ) km_X8_45 ks_X8_in [] rfl (by decide) hl.1 rfl rfl (Nat.le_of_ble_eq_true rfl) ⟨Nat.le_of_ble_eq_true rfl, Nat.le_of_ble_eq_true rfl⟩ ⟨Nat.zero_le _, Nat.zero_le _⟩ dX8_maySet_60) rfl (fun H locs hw => ?_)
    exact xr_z hQ E hr hw dX8_maySet_63 (bI_01 _) ⟨congrArg (fun z => some (Value.int z)) (bI_f (fun z => hb0 (by rw [show wh = nI 3 from s_1_3]; exact (setOk_w (w := 3) (by decide)).mpr z))), rfl⟩
  refine lv_tableOut (tgt := 64) hx hb dX8_maySet_1 (x_out 4 (by decide) (by decide) (by intro q hq; match q, hq with | 0, _ => exact s_1_0 | 1, _ => exact s_1_1 | 2, _ => exact s_1_2 | 3, _ => exact s_1_3 | q + 4, hq => omega)) (by decide) ?_
  refine lv_iload_n hx hb dX8_maySet_64 rfl (lv_at hl 0 rfl) ?_
  refine lv_iconst (v := 4) hx hb dX8_maySet_65 (by decide) ?_
  refine lv_bipush (v := 6) hx hb dX8_maySet_66 (by decide) ?_
  refine x_goR (st1 := [.int (bI (4 ≤ wh ∧ wh ≤ 6))]) E hw [] rfl (x_runS (rest := []) E hw (c_X8_in l g wh 4 6 ) km_X8_45 ks_X8_in [] rfl (by decide) hl.1 rfl rfl (Nat.le_of_ble_eq_true rfl) ⟨Nat.le_of_ble_eq_true rfl, Nat.le_of_ble_eq_true rfl⟩ ⟨Nat.zero_le _, Nat.zero_le _⟩ dX8_maySet_68) rfl (fun H locs hw => ?_)
  refine xb_eq (tgt := 88) hx hb dX8_maySet_71 (by decide) (fun c1 => ?_) (fun c1 => ?_)
  · refine lv_iconst (v := 0) hx hb dX8_maySet_88 (by decide) ?_
    exact xr_z hQ E hr hw dX8_maySet_89 (by decide) ⟨rfl, rfl⟩
  · obtain ⟨k, hk, hk4, hkx⟩ : ∃ k, k < 7 ∧ 4 ≤ k ∧ wh = nI k := by obtain ⟨k, hk, e⟩ := nI_of (Int32.not_lt.mpr (Int32.le_trans (by decide : (0 : Int32) ≤ 4) c1.1)); exact ⟨k, by have := (n_le hk (b := 6) (by decide)).mp (e ▸ c1.2); omega, (n_le (a := 4) (by decide) hk).mp (e ▸ c1.1), e⟩
    refine lv_iload_n hx hb dX8_maySet_74 rfl (lv_at hl 1 rfl) ?_
    refine lv_iconst (v := 0) hx hb dX8_maySet_75 (by decide) ?_
    refine lv_bipush (v := 9) hx hb dX8_maySet_76 (by decide) ?_
    refine x_goR (st1 := [.int (bI (0 ≤ u ∧ u ≤ 9))]) E hw [] rfl (x_runS (rest := []) E hw (c_X8_in l g u 0 9 ) km_X8_45 ks_X8_in [] rfl (by decide) hl.1 rfl rfl (Nat.le_of_ble_eq_true rfl) ⟨Nat.le_of_ble_eq_true rfl, Nat.le_of_ble_eq_true rfl⟩ ⟨Nat.zero_le _, Nat.zero_le _⟩ dX8_maySet_78) rfl (fun H locs hw => ?_)
    refine xb_eq (tgt := 88) hx hb dX8_maySet_81 (by decide) (fun c2 => ?_) (fun c2 => ?_)
    · refine lv_iconst (v := 0) hx hb dX8_maySet_88 (by decide) ?_
      exact xr_z hQ E hr hw dX8_maySet_89 (by decide) ⟨rfl, rfl⟩
    · exact absurd ((setOk_w hk).mpr (by match k, hk, hk4 with | 4, _, _ => exact c2 | 5, _, _ => exact c2 | 6, _, _ => exact c2 | q + 7, h, _ => omega)) (hkx ▸ hb0)

set_option maxRecDepth 100000 in
set_option maxHeartbeats 4000000 in
theorem c_X8_tellCell_0 (l : Launch) (g : xCfg) (o : Nat → Nat) (hs : Nat) (bads : Int32) (nos : Int32) (fuls : Int32) (cau : Int32) (whe : Int32) (cnt : Nat) (p : Nat) (fau : Int32) (isw : Int32) (ods : Int32) (v : SV) (x : Nat) (len : Nat) (hx : x < 200) (hlen : v.2.2.2.2.1 2 = nI len) (hl1 : 1 ≤ len) (hl2 : len ≤ 30) : Ct l g yX8_tellCell cX8_tellCell 3 (some .int) (xR 2 44) [.ref (o 0), .int (nI x), .int 0] [(o 0, .inr (8, [.ref (o 1), .ref (o 2), .int (nI hs), .int bads, .int nos, .int fuls, .int cau, .int whe, .ref (o 3), .ref (o 4), .int (nI cnt), .int (nI p), .int fau, .int isw, .int ods, .ref (o 5), .ref (o 6)])), (o 1, .inl (g.2.1, 616, .inl (nwF v)))] (is1 (some (.int (cevF v.2.1 v.2.2.1 v.2.2.2.1 (infF v.2.1 len) (v.2.2.2.2.1 0) x 0))) [(o 0, .inr (8, [.ref (o 1), .ref (o 2), .int (nI hs), .int bads, .int nos, .int fuls, .int cau, .int whe, .ref (o 3), .ref (o 4), .int (nI cnt), .int (nI p), .int fau, .int isw, .int ods, .ref (o 5), .ref (o 6)])), (o 1, .inl (g.2.1, 616, .inl (nwF v)))]) := by
  refine Ct.walk (by decide) (Nat.le_of_ble_eq_true rfl) ?_
  intro p0 e0 s0 m0 below meth c0 A0 ls Q hQ E hr hnm hw hl
  have hx := E.x
  have hb := E.b
  have hl : lv_has ls 3 [(0, .ref (o 0)), (1, .int (nI x)), (2, .int 0)] := hl
  refine lv_iload_n hx hb dX8_tellCell_0 rfl (lv_at hl 2 rfl) ?_
  refine x_sw (v := 0) (off := 31) (tgt := 32) hx hb dX8_tellCell_1 rfl (by decide) (by decide) (by decide) (by decide) ?_
  refine lv_aload_n hx hb dX8_tellCell_32 rfl (lv_at hl 0 rfl) ?_
  refine lv_iload_n hx hb dX8_tellCell_33 rfl (lv_at hl 1 rfl) ?_
  refine x_goR (st1 := [.int (v.2.1 x)]) E hw [0, 1] rfl (x_runV (rest := []) E hw (c_X8_ceiling l g o hs bads nos fuls cau whe cnt p fau isw ods v x (by omega)) km_X8_53 kv_X8_ceiling [0, 1] rfl (by decide) 0 rfl hl.1 rfl rfl (Nat.le_of_ble_eq_true rfl) ⟨Nat.le_of_ble_eq_true rfl, Nat.le_of_ble_eq_true rfl⟩ ⟨Nat.zero_le _, Nat.zero_le _⟩ dX8_tellCell_34) rfl (fun H locs hw => ?_)
  exact xr_i hQ E hr hw dX8_tellCell_37 ⟨rfl, rfl⟩

set_option maxRecDepth 100000 in
set_option maxHeartbeats 4000000 in
theorem c_X8_tellCell_1 (l : Launch) (g : xCfg) (o : Nat → Nat) (hs : Nat) (bads : Int32) (nos : Int32) (fuls : Int32) (cau : Int32) (whe : Int32) (cnt : Nat) (p : Nat) (fau : Int32) (isw : Int32) (ods : Int32) (v : SV) (x : Nat) (len : Nat) (hx : x < 200) (hlen : v.2.2.2.2.1 2 = nI len) (hl1 : 1 ≤ len) (hl2 : len ≤ 30) : Ct l g yX8_tellCell cX8_tellCell 3 (some .int) (xR 2 44) [.ref (o 0), .int (nI x), .int 1] [(o 0, .inr (8, [.ref (o 1), .ref (o 2), .int (nI hs), .int bads, .int nos, .int fuls, .int cau, .int whe, .ref (o 3), .ref (o 4), .int (nI cnt), .int (nI p), .int fau, .int isw, .int ods, .ref (o 5), .ref (o 6)])), (o 1, .inl (g.2.1, 616, .inl (nwF v)))] (is1 (some (.int (cevF v.2.1 v.2.2.1 v.2.2.2.1 (infF v.2.1 len) (v.2.2.2.2.1 0) x 1))) [(o 0, .inr (8, [.ref (o 1), .ref (o 2), .int (nI hs), .int bads, .int nos, .int fuls, .int cau, .int whe, .ref (o 3), .ref (o 4), .int (nI cnt), .int (nI p), .int fau, .int isw, .int ods, .ref (o 5), .ref (o 6)])), (o 1, .inl (g.2.1, 616, .inl (nwF v)))]) := by
  refine Ct.walk (by decide) (Nat.le_of_ble_eq_true rfl) ?_
  intro p0 e0 s0 m0 below meth c0 A0 ls Q hQ E hr hnm hw hl
  have hx := E.x
  have hb := E.b
  have hl : lv_has ls 3 [(0, .ref (o 0)), (1, .int (nI x)), (2, .int 1)] := hl
  refine lv_iload_n hx hb dX8_tellCell_0 rfl (lv_at hl 2 rfl) ?_
  refine x_sw (v := 1) (off := 37) (tgt := 38) hx hb dX8_tellCell_1 rfl (by decide) (by decide) (by decide) (by decide) ?_
  refine lv_aload_n hx hb dX8_tellCell_38 rfl (lv_at hl 0 rfl) ?_
  refine lv_iload_n hx hb dX8_tellCell_39 rfl (lv_at hl 1 rfl) ?_
  refine x_goR (st1 := [.int (v.2.2.1 x)]) E hw [0, 1] rfl (x_runV (rest := []) E hw (c_X8_grade l g o hs bads nos fuls cau whe cnt p fau isw ods v x (by omega)) km_X8_49 kv_X8_grade [0, 1] rfl (by decide) 0 rfl hl.1 rfl rfl (Nat.le_of_ble_eq_true rfl) ⟨Nat.le_of_ble_eq_true rfl, Nat.le_of_ble_eq_true rfl⟩ ⟨Nat.zero_le _, Nat.zero_le _⟩ dX8_tellCell_40) rfl (fun H locs hw => ?_)
  refine lv_bipush (v := 20) hx hb dX8_tellCell_43 (by decide) ?_
  refine lv_iadd hx hb dX8_tellCell_45 ?_
  exact xr_i hQ E hr hw dX8_tellCell_46 ⟨rfl, rfl⟩

set_option maxRecDepth 100000 in
set_option maxHeartbeats 4000000 in
theorem c_X8_tellCell_2 (l : Launch) (g : xCfg) (o : Nat → Nat) (hs : Nat) (bads : Int32) (nos : Int32) (fuls : Int32) (cau : Int32) (whe : Int32) (cnt : Nat) (p : Nat) (fau : Int32) (isw : Int32) (ods : Int32) (v : SV) (x : Nat) (len : Nat) (hx : x < 200) (hlen : v.2.2.2.2.1 2 = nI len) (hl1 : 1 ≤ len) (hl2 : len ≤ 30) : Ct l g yX8_tellCell cX8_tellCell 3 (some .int) (xR 2 44) [.ref (o 0), .int (nI x), .int 2] [(o 0, .inr (8, [.ref (o 1), .ref (o 2), .int (nI hs), .int bads, .int nos, .int fuls, .int cau, .int whe, .ref (o 3), .ref (o 4), .int (nI cnt), .int (nI p), .int fau, .int isw, .int ods, .ref (o 5), .ref (o 6)])), (o 1, .inl (g.2.1, 616, .inl (nwF v)))] (is1 (some (.int (cevF v.2.1 v.2.2.1 v.2.2.2.1 (infF v.2.1 len) (v.2.2.2.2.1 0) x 2))) [(o 0, .inr (8, [.ref (o 1), .ref (o 2), .int (nI hs), .int bads, .int nos, .int fuls, .int cau, .int whe, .ref (o 3), .ref (o 4), .int (nI cnt), .int (nI p), .int fau, .int isw, .int ods, .ref (o 5), .ref (o 6)])), (o 1, .inl (g.2.1, 616, .inl (nwF v)))]) := by
  refine Ct.walk (by decide) (Nat.le_of_ble_eq_true rfl) ?_
  intro p0 e0 s0 m0 below meth c0 A0 ls Q hQ E hr hnm hw hl
  have hx := E.x
  have hb := E.b
  have hl : lv_has ls 3 [(0, .ref (o 0)), (1, .int (nI x)), (2, .int 2)] := hl
  refine lv_iload_n hx hb dX8_tellCell_0 rfl (lv_at hl 2 rfl) ?_
  refine x_sw (v := 2) (off := 46) (tgt := 47) hx hb dX8_tellCell_1 rfl (by decide) (by decide) (by decide) (by decide) ?_
  refine lv_aload_n hx hb dX8_tellCell_47 rfl (lv_at hl 0 rfl) ?_
  refine x_get E hw kf_X8_7 0 rfl rfl dX8_tellCell_48 ?_
  refine lv_bipush (v := 16) hx hb dX8_tellCell_51 (by decide) ?_
  refine lv_iconst (v := 3) hx hb dX8_tellCell_53 (by decide) ?_
  refine lv_iload_n hx hb dX8_tellCell_54 rfl (lv_at hl 1 rfl) ?_
  refine xn_mul hx hb 3 x rfl rfl dX8_tellCell_55 ?_
  refine xn_add hx hb 16 (3 * x) rfl rfl dX8_tellCell_56 ?_
  refine lv_iconst (v := 2) hx hb dX8_tellCell_57 (by decide) ?_
  refine xn_add hx hb (16 + 3 * x) 2 rfl rfl dX8_tellCell_58 ?_
  refine x_ld (v := v.2.2.2.1 x) E hw 1 rfl (16 + 3 * x + 2) rfl (by omega) (by decide) (nw_be _ _) dX8_tellCell_59 ?_
  exact xr_i hQ E hr hw dX8_tellCell_60 ⟨rfl, rfl⟩

set_option maxRecDepth 100000 in
set_option maxHeartbeats 4000000 in
theorem c_X8_tellCell_3 (l : Launch) (g : xCfg) (o : Nat → Nat) (hs : Nat) (bads : Int32) (nos : Int32) (fuls : Int32) (cau : Int32) (whe : Int32) (cnt : Nat) (p : Nat) (fau : Int32) (isw : Int32) (ods : Int32) (v : SV) (x : Nat) (len : Nat) (hx : x < 200) (hlen : v.2.2.2.2.1 2 = nI len) (hl1 : 1 ≤ len) (hl2 : len ≤ 30) : Ct l g yX8_tellCell cX8_tellCell 3 (some .int) (xR 2 44) [.ref (o 0), .int (nI x), .int 3] [(o 0, .inr (8, [.ref (o 1), .ref (o 2), .int (nI hs), .int bads, .int nos, .int fuls, .int cau, .int whe, .ref (o 3), .ref (o 4), .int (nI cnt), .int (nI p), .int fau, .int isw, .int ods, .ref (o 5), .ref (o 6)])), (o 1, .inl (g.2.1, 616, .inl (nwF v)))] (is1 (some (.int (cevF v.2.1 v.2.2.1 v.2.2.2.1 (infF v.2.1 len) (v.2.2.2.2.1 0) x 3))) [(o 0, .inr (8, [.ref (o 1), .ref (o 2), .int (nI hs), .int bads, .int nos, .int fuls, .int cau, .int whe, .ref (o 3), .ref (o 4), .int (nI cnt), .int (nI p), .int fau, .int isw, .int ods, .ref (o 5), .ref (o 6)])), (o 1, .inl (g.2.1, 616, .inl (nwF v)))]) := by
  refine Ct.walk (by decide) (Nat.le_of_ble_eq_true rfl) ?_
  intro p0 e0 s0 m0 below meth c0 A0 ls Q hQ E hr hnm hw hl
  have hx := E.x
  have hb := E.b
  have hl : lv_has ls 3 [(0, .ref (o 0)), (1, .int (nI x)), (2, .int 3)] := hl
  refine lv_iload_n hx hb dX8_tellCell_0 rfl (lv_at hl 2 rfl) ?_
  refine x_sw (v := 3) (off := 60) (tgt := 61) hx hb dX8_tellCell_1 rfl (by decide) (by decide) (by decide) (by decide) ?_
  refine lv_aload_n hx hb dX8_tellCell_61 rfl (lv_at hl 0 rfl) ?_
  refine lv_iload_n hx hb dX8_tellCell_62 rfl (lv_at hl 1 rfl) ?_
  refine x_goR (st1 := [.int (dcl (v.2.2.2.2.1 0) (v.2.2.1 x))]) E hw [0, 1] rfl (x_runV (rest := []) E hw (c_X8_decel l g o hs bads nos fuls cau whe cnt p fau isw ods v x (by omega)) km_X8_92 kv_X8_decel [0, 1] rfl (by decide) 0 rfl hl.1 rfl rfl (Nat.le_of_ble_eq_true rfl) ⟨Nat.le_of_ble_eq_true rfl, Nat.le_of_ble_eq_true rfl⟩ ⟨Nat.zero_le _, Nat.zero_le _⟩ dX8_tellCell_63) rfl (fun H locs hw => ?_)
  exact xr_i hQ E hr hw dX8_tellCell_66 ⟨rfl, rfl⟩

set_option maxRecDepth 100000 in
set_option maxHeartbeats 4000000 in
theorem c_X8_tellCell_4 (l : Launch) (g : xCfg) (o : Nat → Nat) (hs : Nat) (bads : Int32) (nos : Int32) (fuls : Int32) (cau : Int32) (whe : Int32) (cnt : Nat) (p : Nat) (fau : Int32) (isw : Int32) (ods : Int32) (v : SV) (x : Nat) (len : Nat) (hx : x < 200) (hlen : v.2.2.2.2.1 2 = nI len) (hl1 : 1 ≤ len) (hl2 : len ≤ 30) : Ct l g yX8_tellCell cX8_tellCell 3 (some .int) (xR 2 44) [.ref (o 0), .int (nI x), .int 4] [(o 0, .inr (8, [.ref (o 1), .ref (o 2), .int (nI hs), .int bads, .int nos, .int fuls, .int cau, .int whe, .ref (o 3), .ref (o 4), .int (nI cnt), .int (nI p), .int fau, .int isw, .int ods, .ref (o 5), .ref (o 6)])), (o 1, .inl (g.2.1, 616, .inl (nwF v)))] (is1 (some (.int (cevF v.2.1 v.2.2.1 v.2.2.2.1 (infF v.2.1 len) (v.2.2.2.2.1 0) x 4))) [(o 0, .inr (8, [.ref (o 1), .ref (o 2), .int (nI hs), .int bads, .int nos, .int fuls, .int cau, .int whe, .ref (o 3), .ref (o 4), .int (nI cnt), .int (nI p), .int fau, .int isw, .int ods, .ref (o 5), .ref (o 6)])), (o 1, .inl (g.2.1, 616, .inl (nwF v)))]) := by
  refine Ct.walk (by decide) (Nat.le_of_ble_eq_true rfl) ?_
  intro p0 e0 s0 m0 below meth c0 A0 ls Q hQ E hr hnm hw hl
  have hx := E.x
  have hb := E.b
  have hl : lv_has ls 3 [(0, .ref (o 0)), (1, .int (nI x)), (2, .int 4)] := hl
  refine lv_iload_n hx hb dX8_tellCell_0 rfl (lv_at hl 2 rfl) ?_
  refine lv_tableOut (tgt := 67) hx hb dX8_tellCell_1 (by decide) (by decide) ?_
  refine lv_aload_n hx hb dX8_tellCell_67 rfl (lv_at hl 0 rfl) ?_
  refine lv_iload_n hx hb dX8_tellCell_68 rfl (lv_at hl 1 rfl) ?_
  refine x_goR (st1 := [.int (infF v.2.1 len x)]) E hw [0, 1] rfl (x_runV (rest := []) E hw (c_X8_inForce l g o hs bads nos fuls cau whe cnt p fau isw ods v x len (by omega) hlen (by omega) (by omega)) km_X8_95 kv_X8_inForce [0, 1] rfl (by decide) 0 rfl hl.1 rfl rfl (Nat.le_of_ble_eq_true rfl) ⟨Nat.le_of_ble_eq_true rfl, Nat.le_of_ble_eq_true rfl⟩ ⟨Nat.zero_le _, Nat.zero_le _⟩ dX8_tellCell_69) rfl (fun H locs hw => ?_)
  exact xr_i hQ E hr hw dX8_tellCell_72 ⟨rfl, rfl⟩

theorem c_X8_tellCell (l : Launch) (g : xCfg) (o : Nat → Nat) (hs : Nat) (bads : Int32) (nos : Int32) (fuls : Int32) (cau : Int32) (whe : Int32) (cnt : Nat) (p : Nat) (fau : Int32) (isw : Int32) (ods : Int32) (v : SV) (x : Nat) (len : Nat) (w : Nat) (hx : x < 200) (hlen : v.2.2.2.2.1 2 = nI len) (hl1 : 1 ≤ len) (hl2 : len ≤ 30) (hw0 : w < 5) : Ct l g yX8_tellCell cX8_tellCell 3 (some .int) (xR 2 44) [.ref (o 0), .int (nI x), .int (nI w)] [(o 0, .inr (8, [.ref (o 1), .ref (o 2), .int (nI hs), .int bads, .int nos, .int fuls, .int cau, .int whe, .ref (o 3), .ref (o 4), .int (nI cnt), .int (nI p), .int fau, .int isw, .int ods, .ref (o 5), .ref (o 6)])), (o 1, .inl (g.2.1, 616, .inl (nwF v)))] (is1 (some (.int (cevF v.2.1 v.2.2.1 v.2.2.2.1 (infF v.2.1 len) (v.2.2.2.2.1 0) x w))) [(o 0, .inr (8, [.ref (o 1), .ref (o 2), .int (nI hs), .int bads, .int nos, .int fuls, .int cau, .int whe, .ref (o 3), .ref (o 4), .int (nI cnt), .int (nI p), .int fau, .int isw, .int ods, .ref (o 5), .ref (o 6)])), (o 1, .inl (g.2.1, 616, .inl (nwF v)))]) := by
  match w, hw0 with
  | 0, _ => exact c_X8_tellCell_0 l g o hs bads nos fuls cau whe cnt p fau isw ods v x len hx hlen hl1 hl2
  | 1, _ => exact c_X8_tellCell_1 l g o hs bads nos fuls cau whe cnt p fau isw ods v x len hx hlen hl1 hl2
  | 2, _ => exact c_X8_tellCell_2 l g o hs bads nos fuls cau whe cnt p fau isw ods v x len hx hlen hl1 hl2
  | 3, _ => exact c_X8_tellCell_3 l g o hs bads nos fuls cau whe cnt p fau isw ods v x len hx hlen hl1 hl2
  | 4, _ => exact c_X8_tellCell_4 l g o hs bads nos fuls cau whe cnt p fau isw ods v x len hx hlen hl1 hl2
  | w + 5, h => exact absurd h (by omega)

set_option maxRecDepth 100000 in
set_option maxHeartbeats 4000000 in
theorem c_X8_standing (l : Launch) (g : xCfg) (o : Nat → Nat) (hs : Nat) (bads : Int32) (nos : Int32) (fuls : Int32) (cau : Int32) (whe : Int32) (cnt : Nat) (p : Nat) (fau : Int32) (isw : Int32) (ods : Int32) (v : SV) (x : Nat) (u : Int32) (hL : v.1 ≤ 200) (hx0 : x < v.1) : Ct l g yX8_standing cX8_standing 5 (some .int) (xR 2 43) [.ref (o 0), .int (nI x), .int u] [(o 0, .inr (8, [.ref (o 1), .ref (o 2), .int (nI hs), .int bads, .int nos, .int fuls, .int cau, .int whe, .ref (o 3), .ref (o 4), .int (nI cnt), .int (nI p), .int fau, .int isw, .int ods, .ref (o 5), .ref (o 6)])), (o 1, .inl (g.2.1, 616, .inl (nwF v)))] (is1 (some (.int (stL v.2.2.1 (v.2.2.2.2.1 0) (v.1 - x) x x (u * u)))) [(o 0, .inr (8, [.ref (o 1), .ref (o 2), .int (nI hs), .int bads, .int nos, .int fuls, .int cau, .int whe, .ref (o 3), .ref (o 4), .int (nI cnt), .int (nI p), .int fau, .int isw, .int ods, .ref (o 5), .ref (o 6)])), (o 1, .inl (g.2.1, 616, .inl (nwF v)))]) := by
  refine Ct.walk (by decide) (Nat.le_of_ble_eq_true rfl) ?_
  intro p0 e0 s0 m0 below meth c0 A0 ls Q hQ E hr hnm hw hl
  have hx := E.x
  have hb := E.b
  have hl : lv_has ls 5 [(0, .ref (o 0)), (1, .int (nI x)), (2, .int u)] := hl
  refine lv_iload_n hx hb dX8_standing_0 rfl (lv_at hl 2 rfl) ?_
  refine lv_iload_n hx hb dX8_standing_1 rfl (lv_at hl 2 rfl) ?_
  refine lv_imul hx hb dX8_standing_2 ?_
  refine lv_istore_n (lv' := [(3, .int (u * u)), (0, .ref (o 0)), (1, .int (nI x)), (2, .int u)]) hx hb dX8_standing_3 rfl hl (by decide) rfl (fun ls hl => ?_)
  refine lv_iload_n hx hb dX8_standing_4 rfl (lv_at hl 2 rfl) ?_
  refine lv_istore (lv' := [(4, .int (nI x)), (3, .int (u * u)), (0, .ref (o 0)), (1, .int (nI x)), (2, .int u)]) hx hb dX8_standing_5 hl (by decide) rfl (fun ls hl => ?_)
  have lp_7 : ∀ (fuel : Nat) (y : Nat) (q : Int32), v.1 - y < fuel → x ≤ y → y ≤ v.1 → stL v.2.2.1 (v.2.2.2.2.1 0) (v.1 - y) y x q = stL v.2.2.1 (v.2.2.2.2.1 0) (v.1 - x) x x (u * u) → ∀ (H : Heap) (locs : List Loc) (ls : Array Slot), xW g A0 s0 [(o 0, .inr (8, [.ref (o 1), .ref (o 2), .int (nI hs), .int bads, .int nos, .int fuls, .int cau, .int whe, .ref (o 3), .ref (o 4), .int (nI cnt), .int (nI p), .int fau, .int isw, .int ods, .ref (o 5), .ref (o 6)])), (o 1, .inl (g.2.1, 616, .inl (nwF v)))] H locs → lv_has ls 5 [(4, .int (nI y)), (3, .int q), (0, .ref (o 0)), (1, .int (nI x)), (2, .int u)] → W p0 l e0 (xR 2 43) s0 m0 [.ref (o 0), .int (nI x), .int u].toArray below meth c0 H locs 0 0 Q (F0 m0 7 ls []) := by
    intro fuel
    induction fuel with
    | zero => intro y q hm; exact absurd hm (Nat.not_lt_zero _)
    | succ fuel ih =>
      intro y q hm h1 h2 hi H locs ls hw hl
      refine lv_iload hx hb dX8_standing_7 (lv_at hl 0 rfl) ?_
      refine lv_aload_n hx hb dX8_standing_9 rfl (lv_at hl 2 rfl) ?_
      refine x_get E hw kf_X8_7 0 rfl rfl dX8_standing_10 ?_
      refine lv_iconst (v := 0) hx hb dX8_standing_13 (by decide) ?_
      refine x_ld (v := nI v.1) E hw 1 rfl 0 rfl (by omega) (by decide) rfl dX8_standing_14 ?_
      refine xn_ge (tgt := 42) hx hb y v.1 rfl rfl (by omega) (by omega) dX8_standing_15 (by decide) (fun c_1 => ?_) (fun c_1 => ?_)
      · obtain rfl : y = v.1 := by omega
        refine lv_iconst (v := -1) hx hb dX8_standing_42 (by decide) ?_
        exact xr_i hQ E hr hw dX8_standing_43 ⟨congrArg (fun z => some (Value.int z)) (by rw [← hi, Nat.sub_self]; rfl), rfl⟩
      · refine lv_iload_n hx hb dX8_standing_18 rfl (lv_at hl 1 rfl) ?_
        refine lv_aload_n hx hb dX8_standing_19 rfl (lv_at hl 2 rfl) ?_
        refine lv_iload hx hb dX8_standing_20 (lv_at hl 0 rfl) ?_
        refine x_goR (st1 := [.int (dcl (v.2.2.2.2.1 0) (v.2.2.1 y)), .int q]) E hw [0, 1] rfl (x_runV (rest := [.int q]) E hw (c_X8_decel l g o hs bads nos fuls cau whe cnt p fau isw ods v y (by omega)) km_X8_92 kv_X8_decel [0, 1] rfl (by decide) 0 rfl hl.1 rfl rfl (Nat.le_of_ble_eq_true rfl) ⟨Nat.le_of_ble_eq_true rfl, Nat.le_of_ble_eq_true rfl⟩ ⟨Nat.zero_le _, Nat.zero_le _⟩ dX8_standing_22) rfl (fun H locs hw => ?_)
        refine lv_isub hx hb dX8_standing_25 ?_
        refine lv_istore_n (lv' := [(3, .int (q - dcl (v.2.2.2.2.1 0) (v.2.2.1 y))), (4, .int (nI y)), (0, .ref (o 0)), (1, .int (nI x)), (2, .int u)]) hx hb dX8_standing_26 rfl hl (by decide) rfl (fun ls hl => ?_)
        refine lv_iload_n hx hb dX8_standing_27 rfl (lv_at hl 0 rfl) ?_
        refine lv_if_gt (tgt := 36) hx hb dX8_standing_28 (by decide) (fun ce => ?_) (fun ce => ?_)
        · refine lv_iinc (v := nI (y + 1)) (lv' := [(4, .int (nI (y + 1))), (3, .int (q - dcl (v.2.2.2.2.1 0) (v.2.2.1 y))), (0, .ref (o 0)), (1, .int (nI x)), (2, .int u)]) hx hb dX8_standing_36 hl (k := 1) rfl (nI_1 _) (by decide) rfl (fun ls hl => ?_)
          refine lv_goto (tgt := 7) hx hb dX8_standing_39 (by decide) ?_
          have hl : lv_has ls 5 [(4, .int (nI (y + 1))), (3, .int (q - dcl (v.2.2.2.2.1 0) (v.2.2.1 y))), (0, .ref (o 0)), (1, .int (nI x)), (2, .int u)] := lv_sub hl [0, 1, 2, 3, 4] rfl
          have hl : lv_has ls 5 [(4, .int (nI (y + 1))), (3, .int (q - dcl (v.2.2.2.2.1 0) (v.2.2.1 y))), (0, .ref (o 0)), (1, .int (nI x)), (2, .int u)] := hl
          have hw : xW g A0 s0 [(o 0, .inr (8, [.ref (o 1), .ref (o 2), .int (nI hs), .int bads, .int nos, .int fuls, .int cau, .int whe, .ref (o 3), .ref (o 4), .int (nI cnt), .int (nI p), .int fau, .int isw, .int ods, .ref (o 5), .ref (o 6)])), (o 1, .inl (g.2.1, 616, .inl (nwF v)))] _ _ := hw
          exact ih (y + 1) (q - dcl (v.2.2.2.2.1 0) (v.2.2.1 y)) (by omega) (by omega) (by omega) ((stL_go (by omega) ce).symm.trans hi) _ _ _ hw hl
        · refine lv_iload hx hb dX8_standing_31 (lv_at hl 1 rfl) ?_
          refine lv_iload_n hx hb dX8_standing_33 rfl (lv_at hl 3 rfl) ?_
          refine xn_sub hx hb y x rfl rfl (by omega) dX8_standing_34 ?_
          exact xr_i hQ E hr hw dX8_standing_35 ⟨congrArg (fun z => some (Value.int z)) ((stL_at (by omega) ce).symm.trans hi), rfl⟩
  have hl : lv_has ls 5 [(4, .int (nI x)), (3, .int (u * u)), (0, .ref (o 0)), (1, .int (nI x)), (2, .int u)] := lv_sub hl [0, 1, 2, 3, 4] rfl
  have hl : lv_has ls 5 [(4, .int (nI x)), (3, .int (u * u)), (0, .ref (o 0)), (1, .int (nI x)), (2, .int u)] := hl
  have hw : xW g A0 s0 [(o 0, .inr (8, [.ref (o 1), .ref (o 2), .int (nI hs), .int bads, .int nos, .int fuls, .int cau, .int whe, .ref (o 3), .ref (o 4), .int (nI cnt), .int (nI p), .int fau, .int isw, .int ods, .ref (o 5), .ref (o 6)])), (o 1, .inl (g.2.1, 616, .inl (nwF v)))] _ _ := hw
  exact lp_7 ((v.1 - x) + 1) x (u * u) (Nat.lt_succ_self _) (by omega) (by omega) rfl _ _ _ hw hl

set_option maxRecDepth 100000 in
set_option maxHeartbeats 4000000 in
theorem c_X8_leastOf (l : Launch) (g : xCfg) (o : Nat → Nat) (hs : Nat) (bads : Int32) (nos : Int32) (fuls : Int32) (cau : Int32) (whe : Int32) (cnt : Nat) (p : Nat) (fau : Int32) (isw : Int32) (ods : Int32) (v : SV) (sq : Nat → Int32) (len : Nat) (a : Nat) (z : Nat) (hL1 : 1 ≤ v.1) (hL : v.1 ≤ 200) (hlen : v.2.2.2.2.1 2 = nI len) (hl1 : 1 ≤ len) (hl2 : len ≤ 30) (ha : a < v.1) (hz : z < v.1) : Ct l g yX8_leastOf cX8_leastOf 5 (some .int) (xR 3 67) [.ref (o 0), .int (nI a), .int (nI z)] [(o 0, .inr (8, [.ref (o 1), .ref (o 2), .int (nI hs), .int bads, .int nos, .int fuls, .int cau, .int whe, .ref (o 3), .ref (o 4), .int (nI cnt), .int (nI p), .int fau, .int isw, .int ods, .ref (o 5), .ref (o 6)])), (o 1, .inl (g.2.1, 616, .inl (nwF v))), (o 3, .inl (g.2.1, 201, .inl sq))] (is1 (some (.int (lsq (lwQ v.2.1 v.2.2.1 (v.2.2.2.2.1 0) len v.1 0 sq) a (z - a)))) [(o 0, .inr (8, [.ref (o 1), .ref (o 2), .int (nI hs), .int bads, .int nos, .int fuls, .int cau, .int whe, .ref (o 3), .ref (o 4), .int (nI cnt), .int (nI p), .int fau, .int isw, .int ods, .ref (o 5), .ref (o 6)])), (o 1, .inl (g.2.1, 616, .inl (nwF v))), (o 3, .inl (g.2.1, 201, .inl (lwQ v.2.1 v.2.2.1 (v.2.2.2.2.1 0) len v.1 0 sq)))]) := by
  refine Ct.walk (by decide) (Nat.le_of_ble_eq_true rfl) ?_
  intro p0 e0 s0 m0 below meth c0 A0 ls Q hQ E hr hnm hw hl
  have hx := E.x
  have hb := E.b
  have hl : lv_has ls 5 [(0, .ref (o 0)), (1, .int (nI a)), (2, .int (nI z))] := hl
  refine lv_aload_n hx hb dX8_leastOf_0 rfl (lv_at hl 0 rfl) ?_
  refine x_go (ws' := [(o 0, .inr (8, [.ref (o 1), .ref (o 2), .int (nI hs), .int bads, .int nos, .int fuls, .int cau, .int whe, .ref (o 3), .ref (o 4), .int (nI cnt), .int (nI p), .int fau, .int isw, .int ods, .ref (o 5), .ref (o 6)])), (o 1, .inl (g.2.1, 616, .inl (nwF v))), (o 3, .inl (g.2.1, 201, .inl (lwQ v.2.1 v.2.2.1 (v.2.2.2.2.1 0) len v.1 0 sq)))]) (st1 := []) E hw [0, 1, 2] rfl (x_runV (rest := []) E hw (c_X8_lawfuls l g o hs bads nos fuls cau whe cnt p fau isw ods v sq len (by omega) (by omega) hlen (by omega) (by omega)) km_X8_101 kv_X8_lawfuls [0, 1, 2] rfl (by decide) 0 rfl hl.1 rfl rfl (Nat.le_of_ble_eq_true rfl) ⟨Nat.le_of_ble_eq_true rfl, Nat.le_of_ble_eq_true rfl⟩ ⟨Nat.zero_le _, Nat.zero_le _⟩ dX8_leastOf_1) rfl rfl rfl (fun H locs hw => ?_)
  refine lv_aload_n hx hb dX8_leastOf_4 rfl (lv_at hl 0 rfl) ?_
  refine x_get E hw kf_X8_20 0 rfl rfl dX8_leastOf_5 ?_
  refine lv_iload_n hx hb dX8_leastOf_8 rfl (lv_at hl 1 rfl) ?_
  refine x_ld (v := (lwQ v.2.1 v.2.2.1 (v.2.2.2.2.1 0) len v.1 0 sq) a) E hw 2 rfl a rfl (by omega) (by decide) rfl dX8_leastOf_9 ?_
  refine lv_istore_n (lv' := [(3, .int ((lwQ v.2.1 v.2.2.1 (v.2.2.2.2.1 0) len v.1 0 sq) a)), (0, .ref (o 0)), (1, .int (nI a)), (2, .int (nI z))]) hx hb dX8_leastOf_10 rfl hl (by decide) rfl (fun ls hl => ?_)
  refine lv_iload_n hx hb dX8_leastOf_11 rfl (lv_at hl 2 rfl) ?_
  refine lv_istore (lv' := [(4, .int (nI a)), (3, .int ((lwQ v.2.1 v.2.2.1 (v.2.2.2.2.1 0) len v.1 0 sq) a)), (0, .ref (o 0)), (1, .int (nI a)), (2, .int (nI z))]) hx hb dX8_leastOf_12 hl (by decide) rfl (fun ls hl => ?_)
  have lp_14 : ∀ (fuel : Nat) (k : Nat), z + 1 - (a + k) < fuel → k ≤ z + 1 - a ∨ k = 0 → k = 0 ∨ a + k ≤ z + 1 → ∀ (H : Heap) (locs : List Loc) (ls : Array Slot), xW g A0 s0 [(o 0, .inr (8, [.ref (o 1), .ref (o 2), .int (nI hs), .int bads, .int nos, .int fuls, .int cau, .int whe, .ref (o 3), .ref (o 4), .int (nI cnt), .int (nI p), .int fau, .int isw, .int ods, .ref (o 5), .ref (o 6)])), (o 1, .inl (g.2.1, 616, .inl (nwF v))), (o 3, .inl (g.2.1, 201, .inl (lwQ v.2.1 v.2.2.1 (v.2.2.2.2.1 0) len v.1 0 sq)))] H locs → lv_has ls 5 [(4, .int (nI (a + k))), (3, .int (lsq (lwQ v.2.1 v.2.2.1 (v.2.2.2.2.1 0) len v.1 0 sq) a (k - 1))), (0, .ref (o 0)), (2, .int (nI z))] → W p0 l e0 (xR 3 67) s0 m0 [.ref (o 0), .int (nI a), .int (nI z)].toArray below meth c0 H locs 0 0 Q (F0 m0 14 ls []) := by
    intro fuel
    induction fuel with
    | zero => intro k hm; exact absurd hm (Nat.not_lt_zero _)
    | succ fuel ih =>
      intro k hm h1 h0 H locs ls hw hl
      refine lv_iload hx hb dX8_leastOf_14 (lv_at hl 0 rfl) ?_
      refine lv_iload_n hx hb dX8_leastOf_16 rfl (lv_at hl 3 rfl) ?_
      refine xn_gt (tgt := 49) hx hb (a + k) z rfl rfl (by omega) (by omega) dX8_leastOf_17 (by decide) (fun c_1 => ?_) (fun c_1 => ?_)
      · have hke : k - 1 = z - a := by omega
        rw [hke] at hl
        refine lv_iload_n hx hb dX8_leastOf_49 rfl (lv_at hl 1 rfl) ?_
        exact xr_i hQ E hr hw dX8_leastOf_50 ⟨rfl, rfl⟩
      · refine lv_aload_n hx hb dX8_leastOf_20 rfl (lv_at hl 2 rfl) ?_
        refine x_get E hw kf_X8_20 0 rfl rfl dX8_leastOf_21 ?_
        refine lv_iload hx hb dX8_leastOf_24 (lv_at hl 0 rfl) ?_
        refine x_ld (v := (lwQ v.2.1 v.2.2.1 (v.2.2.2.2.1 0) len v.1 0 sq) (a + k)) E hw 2 rfl (a + k) rfl (by omega) (by decide) rfl dX8_leastOf_26 ?_
        refine lv_iload_n hx hb dX8_leastOf_27 rfl (lv_at hl 1 rfl) ?_
        refine lv_icmp_ge (tgt := 41) hx hb dX8_leastOf_28 (by decide) (fun c1 => ?_) (fun c1 => ?_)
        · refine lv_iload_n hx hb dX8_leastOf_41 rfl (lv_at hl 1 rfl) ?_
          refine lv_istore_n (lv' := [(3, .int (lsq (lwQ v.2.1 v.2.2.1 (v.2.2.2.2.1 0) len v.1 0 sq) a (k - 1))), (4, .int (nI (a + k))), (0, .ref (o 0)), (2, .int (nI z))]) hx hb dX8_leastOf_42 rfl hl (by decide) rfl (fun ls hl => ?_)
          refine lv_iinc (v := nI (a + k + 1)) (lv' := [(4, .int (nI (a + k + 1))), (3, .int (lsq (lwQ v.2.1 v.2.2.1 (v.2.2.2.2.1 0) len v.1 0 sq) a (k - 1))), (0, .ref (o 0)), (2, .int (nI z))]) hx hb dX8_leastOf_43 hl (k := 1) rfl (nI_1 _) (by decide) rfl (fun ls hl => ?_)
          refine lv_goto (tgt := 14) hx hb dX8_leastOf_46 (by decide) ?_
          have hl : lv_has ls 5 [(4, .int (nI (a + k + 1))), (3, .int (lsq (lwQ v.2.1 v.2.2.1 (v.2.2.2.2.1 0) len v.1 0 sq) a (k - 1))), (0, .ref (o 0)), (2, .int (nI z))] := lv_sub hl [0, 1, 2, 3] rfl
          have hl : lv_has ls 5 [(4, .int (nI (a + (k + 1)))), (3, .int (lsq (lwQ v.2.1 v.2.2.1 (v.2.2.2.2.1 0) len v.1 0 sq) a ((k + 1) - 1))), (0, .ref (o 0)), (2, .int (nI z))] := lv_re hl (by rw [show (nI (a + k + 1) : Int32) = nI (a + (k + 1)) from congrArg nI (by omega), show (lsq (lwQ v.2.1 v.2.2.1 (v.2.2.2.2.1 0) len v.1 0 sq) a (k - 1) : Int32) = lsq (lwQ v.2.1 v.2.2.1 (v.2.2.2.2.1 0) len v.1 0 sq) a ((k + 1) - 1) from (lsq_n c1)])
          have hw : xW g A0 s0 [(o 0, .inr (8, [.ref (o 1), .ref (o 2), .int (nI hs), .int bads, .int nos, .int fuls, .int cau, .int whe, .ref (o 3), .ref (o 4), .int (nI cnt), .int (nI p), .int fau, .int isw, .int ods, .ref (o 5), .ref (o 6)])), (o 1, .inl (g.2.1, 616, .inl (nwF v))), (o 3, .inl (g.2.1, 201, .inl (lwQ v.2.1 v.2.2.1 (v.2.2.2.2.1 0) len v.1 0 sq)))] _ _ := hw
          exact ih (k + 1) (by omega) (by omega) (by omega) _ _ _ hw hl
        · refine lv_aload_n hx hb dX8_leastOf_31 rfl (lv_at hl 2 rfl) ?_
          refine x_get E hw kf_X8_20 0 rfl rfl dX8_leastOf_32 ?_
          refine lv_iload hx hb dX8_leastOf_35 (lv_at hl 0 rfl) ?_
          refine x_ld (v := (lwQ v.2.1 v.2.2.1 (v.2.2.2.2.1 0) len v.1 0 sq) (a + k)) E hw 2 rfl (a + k) rfl (by omega) (by decide) rfl dX8_leastOf_37 ?_
          refine lv_goto (tgt := 42) hx hb dX8_leastOf_38 (by decide) ?_
          refine lv_istore_n (lv' := [(3, .int ((lwQ v.2.1 v.2.2.1 (v.2.2.2.2.1 0) len v.1 0 sq) (a + k))), (4, .int (nI (a + k))), (0, .ref (o 0)), (2, .int (nI z))]) hx hb dX8_leastOf_42 rfl hl (by decide) rfl (fun ls hl => ?_)
          refine lv_iinc (v := nI (a + k + 1)) (lv' := [(4, .int (nI (a + k + 1))), (3, .int ((lwQ v.2.1 v.2.2.1 (v.2.2.2.2.1 0) len v.1 0 sq) (a + k))), (0, .ref (o 0)), (2, .int (nI z))]) hx hb dX8_leastOf_43 hl (k := 1) rfl (nI_1 _) (by decide) rfl (fun ls hl => ?_)
          refine lv_goto (tgt := 14) hx hb dX8_leastOf_46 (by decide) ?_
          have hl : lv_has ls 5 [(4, .int (nI (a + k + 1))), (3, .int ((lwQ v.2.1 v.2.2.1 (v.2.2.2.2.1 0) len v.1 0 sq) (a + k))), (0, .ref (o 0)), (2, .int (nI z))] := lv_sub hl [0, 1, 2, 3] rfl
          have hl : lv_has ls 5 [(4, .int (nI (a + (k + 1)))), (3, .int (lsq (lwQ v.2.1 v.2.2.1 (v.2.2.2.2.1 0) len v.1 0 sq) a ((k + 1) - 1))), (0, .ref (o 0)), (2, .int (nI z))] := lv_re hl (by rw [show (nI (a + k + 1) : Int32) = nI (a + (k + 1)) from congrArg nI (by omega), show ((lwQ v.2.1 v.2.2.1 (v.2.2.2.2.1 0) len v.1 0 sq) (a + k) : Int32) = lsq (lwQ v.2.1 v.2.2.1 (v.2.2.2.2.1 0) len v.1 0 sq) a ((k + 1) - 1) from (lsq_y c1)])
          have hw : xW g A0 s0 [(o 0, .inr (8, [.ref (o 1), .ref (o 2), .int (nI hs), .int bads, .int nos, .int fuls, .int cau, .int whe, .ref (o 3), .ref (o 4), .int (nI cnt), .int (nI p), .int fau, .int isw, .int ods, .ref (o 5), .ref (o 6)])), (o 1, .inl (g.2.1, 616, .inl (nwF v))), (o 3, .inl (g.2.1, 201, .inl (lwQ v.2.1 v.2.2.1 (v.2.2.2.2.1 0) len v.1 0 sq)))] _ _ := hw
          exact ih (k + 1) (by omega) (by omega) (by omega) _ _ _ hw hl
  have hl : lv_has ls 5 [(4, .int (nI a)), (3, .int ((lwQ v.2.1 v.2.2.1 (v.2.2.2.2.1 0) len v.1 0 sq) a)), (0, .ref (o 0)), (2, .int (nI z))] := lv_sub hl [0, 1, 2, 4] rfl
  have hl : lv_has ls 5 [(4, .int (nI (a + 0))), (3, .int (lsq (lwQ v.2.1 v.2.2.1 (v.2.2.2.2.1 0) len v.1 0 sq) a (0 - 1))), (0, .ref (o 0)), (2, .int (nI z))] := lv_re hl (by rw [show (nI a : Int32) = nI (a + 0) from congrArg nI rfl, show ((lwQ v.2.1 v.2.2.1 (v.2.2.2.2.1 0) len v.1 0 sq) a : Int32) = lsq (lwQ v.2.1 v.2.2.1 (v.2.2.2.2.1 0) len v.1 0 sq) a (0 - 1) from rfl])
  have hw : xW g A0 s0 [(o 0, .inr (8, [.ref (o 1), .ref (o 2), .int (nI hs), .int bads, .int nos, .int fuls, .int cau, .int whe, .ref (o 3), .ref (o 4), .int (nI cnt), .int (nI p), .int fau, .int isw, .int ods, .ref (o 5), .ref (o 6)])), (o 1, .inl (g.2.1, 616, .inl (nwF v))), (o 3, .inl (g.2.1, 201, .inl (lwQ v.2.1 v.2.2.1 (v.2.2.2.2.1 0) len v.1 0 sq)))] _ _ := hw
  exact lp_14 ((z + 1 - (a + 0)) + 1) 0 (Nat.lt_succ_self _) (by omega) (by omega) _ _ _ hw hl

set_option maxRecDepth 100000 in
set_option maxHeartbeats 4000000 in
theorem c_X8_sees (l : Launch) (g : xCfg) (o : Nat → Nat) (hs : Nat) (bads : Int32) (nos : Int32) (fuls : Int32) (cau : Int32) (whe : Int32) (cnt : Nat) (p : Nat) (fau : Int32) (isw : Int32) (ods : Int32) (v : SV) (sq : Nat → Int32) (len : Nat) (hL1 : 1 ≤ v.1) (hL : v.1 ≤ 200) (hlen : v.2.2.2.2.1 2 = nI len) (hl1 : 1 ≤ len) (hl2 : len ≤ 30) (hQs : ∀ x, x < v.1 → 0 ≤ (lwQ v.2.1 v.2.2.1 (v.2.2.2.2.1 0) len v.1 0 sq) x ∧ (lwQ v.2.1 v.2.2.1 (v.2.2.2.2.1 0) len v.1 0 sq) x ≤ 3600) : Ct l g yX8_sees cX8_sees 1 (some .int) (xR 4 91) [.ref (o 0)] [(o 0, .inr (8, [.ref (o 1), .ref (o 2), .int (nI hs), .int bads, .int nos, .int fuls, .int cau, .int whe, .ref (o 3), .ref (o 4), .int (nI cnt), .int (nI p), .int fau, .int isw, .int ods, .ref (o 5), .ref (o 6)])), (o 1, .inl (g.2.1, 616, .inl (nwF v))), (o 3, .inl (g.2.1, 201, .inl sq))] (is1 (some (.int (nI (seenN v.1 v.2.2.2.2.2.2.2.2.1 v.2.2.2.2.2.2.2.2.2.1 (lwQ v.2.1 v.2.2.1 (v.2.2.2.2.1 0) len v.1 0 sq))))) [(o 0, .inr (8, [.ref (o 1), .ref (o 2), .int (nI hs), .int bads, .int nos, .int fuls, .int cau, .int whe, .ref (o 3), .ref (o 4), .int (nI cnt), .int (nI p), .int fau, .int isw, .int ods, .ref (o 5), .ref (o 6)])), (o 1, .inl (g.2.1, 616, .inl (nwF v))), (o 3, .inl (g.2.1, 201, .inl (lwQ v.2.1 v.2.2.1 (v.2.2.2.2.1 0) len v.1 0 sq)))]) := by
  refine Ct.walk (by decide) (Nat.le_of_ble_eq_true rfl) ?_
  intro p0 e0 s0 m0 below meth c0 A0 ls Q hQ E hr hnm hw hl
  have hx := E.x
  have hb := E.b
  have hl : lv_has ls 1 [(0, .ref (o 0))] := hl
  refine lv_aload_n hx hb dX8_sees_0 rfl (lv_at hl 0 rfl) ?_
  refine lv_aload_n hx hb dX8_sees_1 rfl (lv_at hl 0 rfl) ?_
  refine x_goR (st1 := [.int (nI (kpt v.1 (v.2.2.2.2.2.2.2.2.1 / 1000))), .ref (o 0)]) E hw [0, 1] rfl (x_runV (rest := [.ref (o 0)]) E hw (c_X8_first l g o hs bads nos fuls cau whe cnt p fau isw ods v (by omega) (by omega)) km_X8_113 kv_X8_first [0, 1] rfl (by decide) 0 rfl hl.1 rfl rfl (Nat.le_of_ble_eq_true rfl) ⟨Nat.le_of_ble_eq_true rfl, Nat.le_of_ble_eq_true rfl⟩ ⟨Nat.zero_le _, Nat.zero_le _⟩ dX8_sees_2) rfl (fun H locs hw => ?_)
  refine lv_aload_n hx hb dX8_sees_5 rfl (lv_at hl 0 rfl) ?_
  refine x_goR (st1 := [.int (nI (kpt v.1 ((v.2.2.2.2.2.2.2.2.2.1 + 999) / 1000))), .int (nI (kpt v.1 (v.2.2.2.2.2.2.2.2.1 / 1000))), .ref (o 0)]) E hw [0, 1] rfl (x_runV (rest := [.int (nI (kpt v.1 (v.2.2.2.2.2.2.2.2.1 / 1000))), .ref (o 0)]) E hw (c_X8_last l g o hs bads nos fuls cau whe cnt p fau isw ods v (by omega) (by omega)) km_X8_116 kv_X8_last [0, 1] rfl (by decide) 0 rfl hl.1 rfl rfl (Nat.le_of_ble_eq_true rfl) ⟨Nat.le_of_ble_eq_true rfl, Nat.le_of_ble_eq_true rfl⟩ ⟨Nat.zero_le _, Nat.zero_le _⟩ dX8_sees_6) rfl (fun H locs hw => ?_)
  refine x_go (ws' := [(o 0, .inr (8, [.ref (o 1), .ref (o 2), .int (nI hs), .int bads, .int nos, .int fuls, .int cau, .int whe, .ref (o 3), .ref (o 4), .int (nI cnt), .int (nI p), .int fau, .int isw, .int ods, .ref (o 5), .ref (o 6)])), (o 1, .inl (g.2.1, 616, .inl (nwF v))), (o 3, .inl (g.2.1, 201, .inl (lwQ v.2.1 v.2.2.1 (v.2.2.2.2.1 0) len v.1 0 sq)))]) (st1 := [.int (lsq (lwQ v.2.1 v.2.2.1 (v.2.2.2.2.1 0) len v.1 0 sq) (kpt v.1 (v.2.2.2.2.2.2.2.2.1 / 1000)) ((kpt v.1 ((v.2.2.2.2.2.2.2.2.2.1 + 999) / 1000)) - (kpt v.1 (v.2.2.2.2.2.2.2.2.1 / 1000))))]) E hw [0, 1, 2] rfl (x_runV (rest := []) E hw (c_X8_leastOf l g o hs bads nos fuls cau whe cnt p fau isw ods v sq len (kpt v.1 (v.2.2.2.2.2.2.2.2.1 / 1000)) (kpt v.1 ((v.2.2.2.2.2.2.2.2.2.1 + 999) / 1000)) (by omega) (by omega) hlen (by omega) (by omega) (kpt_lt hL1 hL) (kpt_lt hL1 hL)) km_X8_119 kv_X8_leastOf [0, 1, 2] rfl (by decide) 0 rfl hl.1 rfl rfl (Nat.le_of_ble_eq_true rfl) ⟨Nat.le_of_ble_eq_true rfl, Nat.le_of_ble_eq_true rfl⟩ ⟨Nat.zero_le _, Nat.zero_le _⟩ dX8_sees_9) rfl rfl rfl (fun H locs hw => ?_)
  obtain ⟨y, hy, hq⟩ := nat_of (lsq_in hQs (a := kpt v.1 (v.2.2.2.2.2.2.2.2.1 / 1000)) (kpt v.1 ((v.2.2.2.2.2.2.2.2.2.1 + 999) / 1000) - kpt v.1 (v.2.2.2.2.2.2.2.2.1 / 1000)) (by have q1 := kpt_lt (x := v.2.2.2.2.2.2.2.2.1 / 1000) hL1 hL; have q2 := kpt_lt (x := (v.2.2.2.2.2.2.2.2.2.1 + 999) / 1000) hL1 hL; omega))
  refine x_goR (st1 := [.int (nI (rtL 15 0 (lsq (lwQ v.2.1 v.2.2.1 (v.2.2.2.2.1 0) len v.1 0 sq) (kpt v.1 (v.2.2.2.2.2.2.2.2.1 / 1000)) ((kpt v.1 ((v.2.2.2.2.2.2.2.2.2.1 + 999) / 1000)) - (kpt v.1 (v.2.2.2.2.2.2.2.2.1 / 1000))))))]) E hw [] rfl (x_runS (rest := []) E hw (c_X8_root l g (lsq (lwQ v.2.1 v.2.2.1 (v.2.2.2.2.1 0) len v.1 0 sq) (kpt v.1 (v.2.2.2.2.2.2.2.2.1 / 1000)) ((kpt v.1 ((v.2.2.2.2.2.2.2.2.2.1 + 999) / 1000)) - (kpt v.1 (v.2.2.2.2.2.2.2.2.1 / 1000)))) y hq hy) km_X8_104 ks_X8_root [] rfl (by decide) hl.1 rfl rfl (Nat.le_of_ble_eq_true rfl) ⟨Nat.le_of_ble_eq_true rfl, Nat.le_of_ble_eq_true rfl⟩ ⟨Nat.zero_le _, Nat.zero_le _⟩ dX8_sees_12) rfl (fun H locs hw => ?_)
  exact xr_i hQ E hr hw dX8_sees_15 ⟨rfl, rfl⟩

set_option maxRecDepth 100000 in
set_option maxHeartbeats 4000000 in
theorem c_X8_supervises (l : Launch) (g : xCfg) (o : Nat → Nat) (hs : Nat) (bads : Int32) (nos : Int32) (fuls : Int32) (cau : Int32) (whe : Int32) (cnt : Nat) (p : Nat) (fau : Int32) (isw : Int32) (ods : Int32) (v : SV) (sq : Nat → Int32) (len : Nat) (yq : Nat) (hL1 : 1 ≤ v.1) (hL : v.1 ≤ 200) (hlen : v.2.2.2.2.1 2 = nI len) (hl1 : 1 ≤ len) (hl2 : len ≤ 30) (hQs : ∀ x, x < v.1 → 0 ≤ (lwQ v.2.1 v.2.2.1 (v.2.2.2.2.1 0) len v.1 0 sq) x ∧ (lwQ v.2.1 v.2.2.1 (v.2.2.2.2.1 0) len v.1 0 sq) x ≤ 3600) (hqy : v.2.2.2.2.2.2.1 = nI yq) (hyq : yq < 2 ^ 30) : Ct l g yX8_supervises cX8_supervises 2 none (xR 5 111) [.ref (o 0)] [(o 0, .inr (8, [.ref (o 1), .ref (o 2), .int (nI hs), .int bads, .int nos, .int fuls, .int cau, .int whe, .ref (o 3), .ref (o 4), .int (nI cnt), .int (nI p), .int fau, .int isw, .int ods, .ref (o 5), .ref (o 6)])), (o 1, .inl (g.2.1, 616, .inl (nwF v))), (o 3, .inl (g.2.1, 201, .inl sq))] (is1 none [(o 0, .inr (8, [.ref (o 1), .ref (o 2), .int (nI hs), .int bads, .int nos, .int fuls, .int cau, .int whe, .ref (o 3), .ref (o 4), .int (nI cnt), .int (nI p), .int fau, .int isw, .int ods, .ref (o 5), .ref (o 6)])), (o 1, .inl (g.2.1, 616, .inl (nwF (trS (supT v.1 v.2.2.2.2.1 (lwQ v.2.1 v.2.2.1 (v.2.2.2.2.1 0) len v.1 0 sq) v.2.2.2.2.2) v)))), (o 3, .inl (g.2.1, 201, .inl (if v.2.2.2.2.2.2.2.1 = 3 then sq else lwQ v.2.1 v.2.2.1 (v.2.2.2.2.1 0) len v.1 0 sq)))]) := by
  refine Ct.walk (by decide) (Nat.le_of_ble_eq_true rfl) ?_
  intro p0 e0 s0 m0 below meth c0 A0 ls Q hQ E hr hnm hw hl
  have hx := E.x
  have hb := E.b
  have hl : lv_has ls 2 [(0, .ref (o 0))] := hl
  refine lv_aload_n hx hb dX8_supervises_0 rfl (lv_at hl 0 rfl) ?_
  refine x_get E hw kf_X8_7 0 rfl rfl dX8_supervises_1 ?_
  refine lv_bipush (v := 10) hx hb dX8_supervises_4 (by decide) ?_
  refine x_ld (v := v.2.2.2.2.2.2.2.1) E hw 1 rfl 10 rfl (by omega) (by decide) rfl dX8_supervises_6 ?_
  refine lv_iconst (v := 3) hx hb dX8_supervises_7 (by decide) ?_
  refine lv_icmp_ne (tgt := 12) hx hb dX8_supervises_8 (by decide) (fun c_1 => ?_) (fun c_1 => ?_)
  · refine lv_aload_n hx hb dX8_supervises_12 rfl (lv_at hl 0 rfl) ?_
    refine x_get E hw kf_X8_7 0 rfl rfl dX8_supervises_13 ?_
    refine lv_bipush (v := 9) hx hb dX8_supervises_16 (by decide) ?_
    refine x_ld (v := v.2.2.2.2.2.2.1) E hw 1 rfl 9 rfl (by omega) (by decide) rfl dX8_supervises_18 ?_
    refine x_goR (st1 := [.int (nI (rtL 15 0 v.2.2.2.2.2.2.1))]) E hw [] rfl (x_runS (rest := []) E hw (c_X8_root l g v.2.2.2.2.2.2.1 yq hqy hyq) km_X8_104 ks_X8_root [] rfl (by decide) hl.1 rfl rfl (Nat.le_of_ble_eq_true rfl) ⟨Nat.le_of_ble_eq_true rfl, Nat.le_of_ble_eq_true rfl⟩ ⟨Nat.zero_le _, Nat.zero_le _⟩ dX8_supervises_19) rfl (fun H locs hw => ?_)
    refine lv_aload_n hx hb dX8_supervises_22 rfl (lv_at hl 0 rfl) ?_
    refine x_go (ws' := [(o 0, .inr (8, [.ref (o 1), .ref (o 2), .int (nI hs), .int bads, .int nos, .int fuls, .int cau, .int whe, .ref (o 3), .ref (o 4), .int (nI cnt), .int (nI p), .int fau, .int isw, .int ods, .ref (o 5), .ref (o 6)])), (o 1, .inl (g.2.1, 616, .inl (nwF v))), (o 3, .inl (g.2.1, 201, .inl (lwQ v.2.1 v.2.2.1 (v.2.2.2.2.1 0) len v.1 0 sq)))]) (st1 := [.int (nI (seenN v.1 v.2.2.2.2.2.2.2.2.1 v.2.2.2.2.2.2.2.2.2.1 (lwQ v.2.1 v.2.2.1 (v.2.2.2.2.1 0) len v.1 0 sq))), .int (nI (rtL 15 0 v.2.2.2.2.2.2.1))]) E hw [0, 1, 2] rfl (x_runV (rest := [.int (nI (rtL 15 0 v.2.2.2.2.2.2.1))]) E hw (c_X8_sees l g o hs bads nos fuls cau whe cnt p fau isw ods v sq len (by omega) (by omega) hlen (by omega) (by omega) hQs) km_X8_122 kv_X8_sees [0, 1, 2] rfl (by decide) 0 rfl hl.1 rfl rfl (Nat.le_of_ble_eq_true rfl) ⟨Nat.le_of_ble_eq_true rfl, Nat.le_of_ble_eq_true rfl⟩ ⟨Nat.zero_le _, Nat.zero_le _⟩ dX8_supervises_23) rfl rfl rfl (fun H locs hw => ?_)
    refine lv_isub hx hb dX8_supervises_26 ?_
    refine x_top (v' := .int (abv v.1 (lwQ v.2.1 v.2.2.1 (v.2.2.2.2.1 0) len v.1 0 sq) v.2.2.2.2.2)) rfl ?_
    refine lv_istore_n (lv' := [(1, .int (abv v.1 (lwQ v.2.1 v.2.2.1 (v.2.2.2.2.1 0) len v.1 0 sq) v.2.2.2.2.2)), (0, .ref (o 0))]) hx hb dX8_supervises_27 rfl hl (by decide) rfl (fun ls hl => ?_)
    refine lv_iload_n hx hb dX8_supervises_28 rfl (lv_at hl 0 rfl) ?_
    refine lv_aload_n hx hb dX8_supervises_29 rfl (lv_at hl 1 rfl) ?_
    refine x_get E hw kf_X8_7 0 rfl rfl dX8_supervises_30 ?_
    refine lv_bipush (v := 7) hx hb dX8_supervises_33 (by decide) ?_
    refine x_ld (v := v.2.2.2.2.1 6) E hw 1 rfl 7 rfl (by omega) (by decide) rfl dX8_supervises_35 ?_
    refine lv_icmp_le (tgt := 61) hx hb dX8_supervises_36 (by decide) (fun c_2 => ?_) (fun c_2 => ?_)
    · refine lv_iload_n hx hb dX8_supervises_61 rfl (lv_at hl 0 rfl) ?_
      refine lv_aload_n hx hb dX8_supervises_62 rfl (lv_at hl 1 rfl) ?_
      refine x_get E hw kf_X8_7 0 rfl rfl dX8_supervises_63 ?_
      refine lv_bipush (v := 6) hx hb dX8_supervises_66 (by decide) ?_
      refine x_ld (v := v.2.2.2.2.1 5) E hw 1 rfl 6 rfl (by omega) (by decide) rfl dX8_supervises_68 ?_
      refine lv_icmp_le (tgt := 83) hx hb dX8_supervises_69 (by decide) (fun c_3 => ?_) (fun c_3 => ?_)
      · refine lv_iload_n hx hb dX8_supervises_83 rfl (lv_at hl 0 rfl) ?_
        refine lv_aload_n hx hb dX8_supervises_84 rfl (lv_at hl 1 rfl) ?_
        refine x_get E hw kf_X8_7 0 rfl rfl dX8_supervises_85 ?_
        refine lv_iconst (v := 5) hx hb dX8_supervises_88 (by decide) ?_
        refine x_ld (v := v.2.2.2.2.1 4) E hw 1 rfl 5 rfl (by omega) (by decide) rfl dX8_supervises_89 ?_
        refine lv_icmp_le (tgt := 119) hx hb dX8_supervises_90 (by decide) (fun c_4 => ?_) (fun c_4 => ?_)
        · refine lv_aload_n hx hb dX8_supervises_119 rfl (lv_at hl 1 rfl) ?_
          refine x_get E hw kf_X8_7 0 rfl rfl dX8_supervises_120 ?_
          refine lv_bipush (v := 10) hx hb dX8_supervises_123 (by decide) ?_
          refine lv_iconst (v := 0) hx hb dX8_supervises_125 (by decide) ?_
          refine x_ist E hw 1 rfl 10 rfl (by omega) (by decide) (ws' := [(o 0, .inr (8, [.ref (o 1), .ref (o 2), .int (nI hs), .int bads, .int nos, .int fuls, .int cau, .int whe, .ref (o 3), .ref (o 4), .int (nI cnt), .int (nI p), .int fau, .int isw, .int ods, .ref (o 5), .ref (o 6)])), (o 1, .inl (g.2.1, 616, .inl (upd (nwF v) 10 0))), (o 3, .inl (g.2.1, 201, .inl (lwQ v.2.1 v.2.2.1 (v.2.2.2.2.1 0) len v.1 0 sq)))]) rfl dX8_supervises_126 (fun H locs hw => ?_)
          have hw := hw.arr (f' := (nwF (v.1, v.2.1, v.2.2.1, v.2.2.2.1, v.2.2.2.2.1, v.2.2.2.2.2.1, v.2.2.2.2.2.2.1, 0, v.2.2.2.2.2.2.2.2.1, v.2.2.2.2.2.2.2.2.2.1, v.2.2.2.2.2.2.2.2.2.2.1, v.2.2.2.2.2.2.2.2.2.2.2.1, v.2.2.2.2.2.2.2.2.2.2.2.2))) (ws' := [(o 0, .inr (8, [.ref (o 1), .ref (o 2), .int (nI hs), .int bads, .int nos, .int fuls, .int cau, .int whe, .ref (o 3), .ref (o 4), .int (nI cnt), .int (nI p), .int fau, .int isw, .int ods, .ref (o 5), .ref (o 6)])), (o 1, .inl (g.2.1, 616, .inl (nwF (v.1, v.2.1, v.2.2.1, v.2.2.2.1, v.2.2.2.2.1, v.2.2.2.2.2.1, v.2.2.2.2.2.2.1, 0, v.2.2.2.2.2.2.2.2.1, v.2.2.2.2.2.2.2.2.2.1, v.2.2.2.2.2.2.2.2.2.2.1, v.2.2.2.2.2.2.2.2.2.2.2.1, v.2.2.2.2.2.2.2.2.2.2.2.2)))), (o 3, .inl (g.2.1, 201, .inl (lwQ v.2.1 v.2.2.1 (v.2.2.2.2.1 0) len v.1 0 sq)))]) 1 rfl (fun j _ => nwU_10 _ _ j) rfl
          exact xr_v hQ E hr hw dX8_supervises_127 ⟨rfl, (by simp only [trS, supT, supM, supA, if_neg c_1, if_pos c_2, if_pos c_3, if_pos c_4])⟩
        · refine lv_aload_n hx hb dX8_supervises_93 rfl (lv_at hl 1 rfl) ?_
          refine x_get E hw kf_X8_7 0 rfl rfl dX8_supervises_94 ?_
          refine lv_bipush (v := 10) hx hb dX8_supervises_97 (by decide) ?_
          refine lv_aload_n hx hb dX8_supervises_99 rfl (lv_at hl 1 rfl) ?_
          refine x_get E hw kf_X8_7 0 rfl rfl dX8_supervises_100 ?_
          refine lv_bipush (v := 10) hx hb dX8_supervises_103 (by decide) ?_
          refine x_ld (v := v.2.2.2.2.2.2.2.1) E hw 1 rfl 10 rfl (by omega) (by decide) rfl dX8_supervises_105 ?_
          refine lv_iconst (v := 2) hx hb dX8_supervises_106 (by decide) ?_
          refine lv_icmp_ne (tgt := 114) hx hb dX8_supervises_107 (by decide) (fun c_5 => ?_) (fun c_5 => ?_)
          · refine lv_iconst (v := 1) hx hb dX8_supervises_114 (by decide) ?_
            refine x_ist E hw 1 rfl 10 rfl (by omega) (by decide) (ws' := [(o 0, .inr (8, [.ref (o 1), .ref (o 2), .int (nI hs), .int bads, .int nos, .int fuls, .int cau, .int whe, .ref (o 3), .ref (o 4), .int (nI cnt), .int (nI p), .int fau, .int isw, .int ods, .ref (o 5), .ref (o 6)])), (o 1, .inl (g.2.1, 616, .inl (upd (nwF v) 10 1))), (o 3, .inl (g.2.1, 201, .inl (lwQ v.2.1 v.2.2.1 (v.2.2.2.2.1 0) len v.1 0 sq)))]) rfl dX8_supervises_115 (fun H locs hw => ?_)
            have hw := hw.arr (f' := (nwF (v.1, v.2.1, v.2.2.1, v.2.2.2.1, v.2.2.2.2.1, v.2.2.2.2.2.1, v.2.2.2.2.2.2.1, 1, v.2.2.2.2.2.2.2.2.1, v.2.2.2.2.2.2.2.2.2.1, v.2.2.2.2.2.2.2.2.2.2.1, v.2.2.2.2.2.2.2.2.2.2.2.1, v.2.2.2.2.2.2.2.2.2.2.2.2))) (ws' := [(o 0, .inr (8, [.ref (o 1), .ref (o 2), .int (nI hs), .int bads, .int nos, .int fuls, .int cau, .int whe, .ref (o 3), .ref (o 4), .int (nI cnt), .int (nI p), .int fau, .int isw, .int ods, .ref (o 5), .ref (o 6)])), (o 1, .inl (g.2.1, 616, .inl (nwF (v.1, v.2.1, v.2.2.1, v.2.2.2.1, v.2.2.2.2.1, v.2.2.2.2.2.1, v.2.2.2.2.2.2.1, 1, v.2.2.2.2.2.2.2.2.1, v.2.2.2.2.2.2.2.2.2.1, v.2.2.2.2.2.2.2.2.2.2.1, v.2.2.2.2.2.2.2.2.2.2.2.1, v.2.2.2.2.2.2.2.2.2.2.2.2)))), (o 3, .inl (g.2.1, 201, .inl (lwQ v.2.1 v.2.2.1 (v.2.2.2.2.1 0) len v.1 0 sq)))]) 1 rfl (fun j _ => nwU_10 _ _ j) rfl
            refine lv_goto (tgt := 127) hx hb dX8_supervises_116 (by decide) ?_
            exact xr_v hQ E hr hw dX8_supervises_127 ⟨rfl, (by simp only [trS, supT, supM, supA, if_neg c_1, if_pos c_2, if_pos c_3, if_neg c_4, if_neg c_5])⟩
          · refine lv_iconst (v := 2) hx hb dX8_supervises_110 (by decide) ?_
            refine lv_goto (tgt := 115) hx hb dX8_supervises_111 (by decide) ?_
            refine x_ist E hw 1 rfl 10 rfl (by omega) (by decide) (ws' := [(o 0, .inr (8, [.ref (o 1), .ref (o 2), .int (nI hs), .int bads, .int nos, .int fuls, .int cau, .int whe, .ref (o 3), .ref (o 4), .int (nI cnt), .int (nI p), .int fau, .int isw, .int ods, .ref (o 5), .ref (o 6)])), (o 1, .inl (g.2.1, 616, .inl (upd (nwF v) 10 2))), (o 3, .inl (g.2.1, 201, .inl (lwQ v.2.1 v.2.2.1 (v.2.2.2.2.1 0) len v.1 0 sq)))]) rfl dX8_supervises_115 (fun H locs hw => ?_)
            have hw := hw.arr (f' := (nwF (v.1, v.2.1, v.2.2.1, v.2.2.2.1, v.2.2.2.2.1, v.2.2.2.2.2.1, v.2.2.2.2.2.2.1, 2, v.2.2.2.2.2.2.2.2.1, v.2.2.2.2.2.2.2.2.2.1, v.2.2.2.2.2.2.2.2.2.2.1, v.2.2.2.2.2.2.2.2.2.2.2.1, v.2.2.2.2.2.2.2.2.2.2.2.2))) (ws' := [(o 0, .inr (8, [.ref (o 1), .ref (o 2), .int (nI hs), .int bads, .int nos, .int fuls, .int cau, .int whe, .ref (o 3), .ref (o 4), .int (nI cnt), .int (nI p), .int fau, .int isw, .int ods, .ref (o 5), .ref (o 6)])), (o 1, .inl (g.2.1, 616, .inl (nwF (v.1, v.2.1, v.2.2.1, v.2.2.2.1, v.2.2.2.2.1, v.2.2.2.2.2.1, v.2.2.2.2.2.2.1, 2, v.2.2.2.2.2.2.2.2.1, v.2.2.2.2.2.2.2.2.2.1, v.2.2.2.2.2.2.2.2.2.2.1, v.2.2.2.2.2.2.2.2.2.2.2.1, v.2.2.2.2.2.2.2.2.2.2.2.2)))), (o 3, .inl (g.2.1, 201, .inl (lwQ v.2.1 v.2.2.1 (v.2.2.2.2.1 0) len v.1 0 sq)))]) 1 rfl (fun j _ => nwU_10 _ _ j) rfl
            refine lv_goto (tgt := 127) hx hb dX8_supervises_116 (by decide) ?_
            exact xr_v hQ E hr hw dX8_supervises_127 ⟨rfl, (by simp only [trS, supT, supM, supA, if_neg c_1, if_pos c_2, if_pos c_3, if_neg c_4, if_pos c_5])⟩
      · refine lv_aload_n hx hb dX8_supervises_72 rfl (lv_at hl 1 rfl) ?_
        refine x_get E hw kf_X8_7 0 rfl rfl dX8_supervises_73 ?_
        refine lv_bipush (v := 10) hx hb dX8_supervises_76 (by decide) ?_
        refine lv_iconst (v := 2) hx hb dX8_supervises_78 (by decide) ?_
        refine x_ist E hw 1 rfl 10 rfl (by omega) (by decide) (ws' := [(o 0, .inr (8, [.ref (o 1), .ref (o 2), .int (nI hs), .int bads, .int nos, .int fuls, .int cau, .int whe, .ref (o 3), .ref (o 4), .int (nI cnt), .int (nI p), .int fau, .int isw, .int ods, .ref (o 5), .ref (o 6)])), (o 1, .inl (g.2.1, 616, .inl (upd (nwF v) 10 2))), (o 3, .inl (g.2.1, 201, .inl (lwQ v.2.1 v.2.2.1 (v.2.2.2.2.1 0) len v.1 0 sq)))]) rfl dX8_supervises_79 (fun H locs hw => ?_)
        have hw := hw.arr (f' := (nwF (v.1, v.2.1, v.2.2.1, v.2.2.2.1, v.2.2.2.2.1, v.2.2.2.2.2.1, v.2.2.2.2.2.2.1, 2, v.2.2.2.2.2.2.2.2.1, v.2.2.2.2.2.2.2.2.2.1, v.2.2.2.2.2.2.2.2.2.2.1, v.2.2.2.2.2.2.2.2.2.2.2.1, v.2.2.2.2.2.2.2.2.2.2.2.2))) (ws' := [(o 0, .inr (8, [.ref (o 1), .ref (o 2), .int (nI hs), .int bads, .int nos, .int fuls, .int cau, .int whe, .ref (o 3), .ref (o 4), .int (nI cnt), .int (nI p), .int fau, .int isw, .int ods, .ref (o 5), .ref (o 6)])), (o 1, .inl (g.2.1, 616, .inl (nwF (v.1, v.2.1, v.2.2.1, v.2.2.2.1, v.2.2.2.2.1, v.2.2.2.2.2.1, v.2.2.2.2.2.2.1, 2, v.2.2.2.2.2.2.2.2.1, v.2.2.2.2.2.2.2.2.2.1, v.2.2.2.2.2.2.2.2.2.2.1, v.2.2.2.2.2.2.2.2.2.2.2.1, v.2.2.2.2.2.2.2.2.2.2.2.2)))), (o 3, .inl (g.2.1, 201, .inl (lwQ v.2.1 v.2.2.1 (v.2.2.2.2.1 0) len v.1 0 sq)))]) 1 rfl (fun j _ => nwU_10 _ _ j) rfl
        refine lv_goto (tgt := 127) hx hb dX8_supervises_80 (by decide) ?_
        exact xr_v hQ E hr hw dX8_supervises_127 ⟨rfl, (by simp only [trS, supT, supM, supA, if_neg c_1, if_pos c_2, if_neg c_3])⟩
    · refine lv_aload_n hx hb dX8_supervises_39 rfl (lv_at hl 1 rfl) ?_
      refine x_get E hw kf_X8_7 0 rfl rfl dX8_supervises_40 ?_
      refine lv_bipush (v := 10) hx hb dX8_supervises_43 (by decide) ?_
      refine lv_iconst (v := 3) hx hb dX8_supervises_45 (by decide) ?_
      refine x_ist E hw 1 rfl 10 rfl (by omega) (by decide) (ws' := [(o 0, .inr (8, [.ref (o 1), .ref (o 2), .int (nI hs), .int bads, .int nos, .int fuls, .int cau, .int whe, .ref (o 3), .ref (o 4), .int (nI cnt), .int (nI p), .int fau, .int isw, .int ods, .ref (o 5), .ref (o 6)])), (o 1, .inl (g.2.1, 616, .inl (upd (nwF v) 10 3))), (o 3, .inl (g.2.1, 201, .inl (lwQ v.2.1 v.2.2.1 (v.2.2.2.2.1 0) len v.1 0 sq)))]) rfl dX8_supervises_46 (fun H locs hw => ?_)
      have hw := hw.arr (f' := (nwF (v.1, v.2.1, v.2.2.1, v.2.2.2.1, v.2.2.2.2.1, v.2.2.2.2.2.1, v.2.2.2.2.2.2.1, 3, v.2.2.2.2.2.2.2.2.1, v.2.2.2.2.2.2.2.2.2.1, v.2.2.2.2.2.2.2.2.2.2.1, v.2.2.2.2.2.2.2.2.2.2.2.1, v.2.2.2.2.2.2.2.2.2.2.2.2))) (ws' := [(o 0, .inr (8, [.ref (o 1), .ref (o 2), .int (nI hs), .int bads, .int nos, .int fuls, .int cau, .int whe, .ref (o 3), .ref (o 4), .int (nI cnt), .int (nI p), .int fau, .int isw, .int ods, .ref (o 5), .ref (o 6)])), (o 1, .inl (g.2.1, 616, .inl (nwF (v.1, v.2.1, v.2.2.1, v.2.2.2.1, v.2.2.2.2.1, v.2.2.2.2.2.1, v.2.2.2.2.2.2.1, 3, v.2.2.2.2.2.2.2.2.1, v.2.2.2.2.2.2.2.2.2.1, v.2.2.2.2.2.2.2.2.2.2.1, v.2.2.2.2.2.2.2.2.2.2.2.1, v.2.2.2.2.2.2.2.2.2.2.2.2)))), (o 3, .inl (g.2.1, 201, .inl (lwQ v.2.1 v.2.2.1 (v.2.2.2.2.1 0) len v.1 0 sq)))]) 1 rfl (fun j _ => nwU_10 _ _ j) rfl
      refine lv_aload_n hx hb dX8_supervises_47 rfl (lv_at hl 1 rfl) ?_
      refine x_get E hw kf_X8_7 0 rfl rfl dX8_supervises_48 ?_
      refine lv_bipush (v := 13) hx hb dX8_supervises_51 (by decide) ?_
      refine lv_dup2_11 hx hb dX8_supervises_53 rfl rfl ?_
      refine x_ld (v := v.2.2.2.2.2.2.2.2.2.2.1) E hw 1 rfl 13 rfl (by omega) (by decide) rfl dX8_supervises_54 ?_
      refine lv_iconst (v := 1) hx hb dX8_supervises_55 (by decide) ?_
      refine lv_iadd hx hb dX8_supervises_56 ?_
      refine x_ist E hw 1 rfl 13 rfl (by omega) (by decide) (ws' := [(o 0, .inr (8, [.ref (o 1), .ref (o 2), .int (nI hs), .int bads, .int nos, .int fuls, .int cau, .int whe, .ref (o 3), .ref (o 4), .int (nI cnt), .int (nI p), .int fau, .int isw, .int ods, .ref (o 5), .ref (o 6)])), (o 1, .inl (g.2.1, 616, .inl (upd (nwF (v.1, v.2.1, v.2.2.1, v.2.2.2.1, v.2.2.2.2.1, v.2.2.2.2.2.1, v.2.2.2.2.2.2.1, 3, v.2.2.2.2.2.2.2.2.1, v.2.2.2.2.2.2.2.2.2.1, v.2.2.2.2.2.2.2.2.2.2.1, v.2.2.2.2.2.2.2.2.2.2.2.1, v.2.2.2.2.2.2.2.2.2.2.2.2)) 13 (v.2.2.2.2.2.2.2.2.2.2.1 + 1)))), (o 3, .inl (g.2.1, 201, .inl (lwQ v.2.1 v.2.2.1 (v.2.2.2.2.1 0) len v.1 0 sq)))]) rfl dX8_supervises_57 (fun H locs hw => ?_)
      have hw := hw.arr (f' := (nwF (v.1, v.2.1, v.2.2.1, v.2.2.2.1, v.2.2.2.2.1, v.2.2.2.2.2.1, v.2.2.2.2.2.2.1, 3, v.2.2.2.2.2.2.2.2.1, v.2.2.2.2.2.2.2.2.2.1, v.2.2.2.2.2.2.2.2.2.2.1 + 1, v.2.2.2.2.2.2.2.2.2.2.2.1, v.2.2.2.2.2.2.2.2.2.2.2.2))) (ws' := [(o 0, .inr (8, [.ref (o 1), .ref (o 2), .int (nI hs), .int bads, .int nos, .int fuls, .int cau, .int whe, .ref (o 3), .ref (o 4), .int (nI cnt), .int (nI p), .int fau, .int isw, .int ods, .ref (o 5), .ref (o 6)])), (o 1, .inl (g.2.1, 616, .inl (nwF (v.1, v.2.1, v.2.2.1, v.2.2.2.1, v.2.2.2.2.1, v.2.2.2.2.2.1, v.2.2.2.2.2.2.1, 3, v.2.2.2.2.2.2.2.2.1, v.2.2.2.2.2.2.2.2.2.1, v.2.2.2.2.2.2.2.2.2.2.1 + 1, v.2.2.2.2.2.2.2.2.2.2.2.1, v.2.2.2.2.2.2.2.2.2.2.2.2)))), (o 3, .inl (g.2.1, 201, .inl (lwQ v.2.1 v.2.2.1 (v.2.2.2.2.1 0) len v.1 0 sq)))]) 1 rfl (fun j _ => nwU_13 _ _ j) rfl
      refine lv_goto (tgt := 127) hx hb dX8_supervises_58 (by decide) ?_
      exact xr_v hQ E hr hw dX8_supervises_127 ⟨rfl, (by simp only [trS, supT, supM, supA, if_neg c_1, if_neg c_2])⟩
  · exact xr_v hQ E hr hw dX8_supervises_11 ⟨rfl, (by simp only [trS, supT, supM, supA, if_pos c_1])⟩

set_option maxRecDepth 100000 in
set_option maxHeartbeats 4000000 in
theorem c_X8_gainOf (l : Launch) (g : xCfg) (o : Nat → Nat) (hs : Nat) (bads : Int32) (nos : Int32) (fuls : Int32) (cau : Int32) (whe : Int32) (cnt : Nat) (p : Nat) (fau : Int32) (isw : Int32) (ods : Int32) (v : SV) (mo : Int32) (hd : Int32) (hf : v.2.2.2.2.2.1 < 200) : Ct l g yX8_gainOf cX8_gainOf 5 (some .int) (xR 2 43) [.ref (o 0), .int mo, .int hd] [(o 0, .inr (8, [.ref (o 1), .ref (o 2), .int (nI hs), .int bads, .int nos, .int fuls, .int cau, .int whe, .ref (o 3), .ref (o 4), .int (nI cnt), .int (nI p), .int fau, .int isw, .int ods, .ref (o 5), .ref (o 6)])), (o 1, .inl (g.2.1, 616, .inl (nwF v)))] (is1 (some (.int (gnF mo hd (v.2.2.2.2.1 0) (v.2.2.2.2.1 1) (v.2.2.1 v.2.2.2.2.2.1)))) [(o 0, .inr (8, [.ref (o 1), .ref (o 2), .int (nI hs), .int bads, .int nos, .int fuls, .int cau, .int whe, .ref (o 3), .ref (o 4), .int (nI cnt), .int (nI p), .int fau, .int isw, .int ods, .ref (o 5), .ref (o 6)])), (o 1, .inl (g.2.1, 616, .inl (nwF v)))]) := by
  refine Ct.walk (by decide) (Nat.le_of_ble_eq_true rfl) ?_
  intro p0 e0 s0 m0 below meth c0 A0 ls Q hQ E hr hnm hw hl
  have hx := E.x
  have hb := E.b
  have hl : lv_has ls 5 [(0, .ref (o 0)), (1, .int mo), (2, .int hd)] := hl
  refine lv_aload_n hx hb dX8_gainOf_0 rfl (lv_at hl 0 rfl) ?_
  refine x_get E hw kf_X8_7 0 rfl rfl dX8_gainOf_1 ?_
  refine lv_bipush (v := 8) hx hb dX8_gainOf_4 (by decide) ?_
  refine x_ld (v := nI v.2.2.2.2.2.1) E hw 1 rfl 8 rfl (by omega) (by decide) rfl dX8_gainOf_6 ?_
  refine lv_istore_n (lv' := [(3, .int (nI v.2.2.2.2.2.1)), (0, .ref (o 0)), (1, .int mo), (2, .int hd)]) hx hb dX8_gainOf_7 rfl hl (by decide) rfl (fun ls hl => ?_)
  refine lv_iload_n hx hb dX8_gainOf_8 rfl (lv_at hl 2 rfl) ?_
  refine lv_iconst (v := 3) hx hb dX8_gainOf_9 (by decide) ?_
  refine lv_icmp_ne (tgt := 20) hx hb dX8_gainOf_10 (by decide) (fun c1 => ?_) (fun c1 => ?_)
  · refine lv_iload_n hx hb dX8_gainOf_20 rfl (lv_at hl 2 rfl) ?_
    refine lv_iconst (v := 2) hx hb dX8_gainOf_21 (by decide) ?_
    refine lv_icmp_ne (tgt := 43) hx hb dX8_gainOf_22 (by decide) (fun c2 => ?_) (fun c2 => ?_)
    · refine lv_iload_n hx hb dX8_gainOf_43 rfl (lv_at hl 3 rfl) ?_
      refine lv_if_ge (tgt := 59) hx hb dX8_gainOf_44 (by decide) (fun c3 => ?_) (fun c3 => ?_)
      · refine lv_iload_n hx hb dX8_gainOf_59 rfl (lv_at hl 3 rfl) ?_
        refine lv_if_le (tgt := 72) hx hb dX8_gainOf_60 (by decide) (fun c4 => ?_) (fun c4 => ?_)
        · refine lv_iconst (v := 0) hx hb dX8_gainOf_72 (by decide) ?_
          refine lv_istore (lv' := [(4, .int 0), (3, .int (nI v.2.2.2.2.2.1)), (0, .ref (o 0)), (1, .int mo), (2, .int hd)]) hx hb dX8_gainOf_73 hl (by decide) rfl (fun ls hl => ?_)
          refine lv_iload hx hb dX8_gainOf_75 (lv_at hl 0 rfl) ?_
          refine lv_aload_n hx hb dX8_gainOf_77 rfl (lv_at hl 2 rfl) ?_
          refine lv_iload_n hx hb dX8_gainOf_78 rfl (lv_at hl 1 rfl) ?_
          refine x_goR (st1 := [.int (v.2.2.1 v.2.2.2.2.2.1), .int 0]) E hw [0, 1] rfl (x_runV (rest := [.int 0]) E hw (c_X8_grade l g o hs bads nos fuls cau whe cnt p fau isw ods v v.2.2.2.2.2.1 (by omega)) km_X8_49 kv_X8_grade [0, 1] rfl (by decide) 0 rfl hl.1 rfl rfl (Nat.le_of_ble_eq_true rfl) ⟨Nat.le_of_ble_eq_true rfl, Nat.le_of_ble_eq_true rfl⟩ ⟨Nat.zero_le _, Nat.zero_le _⟩ dX8_gainOf_79) rfl (fun H locs hw => ?_)
          refine lv_isub hx hb dX8_gainOf_82 ?_
          exact xr_i hQ E hr hw dX8_gainOf_83 ⟨congrArg (fun z => some (Value.int z)) (by rw [gnF, if_neg c1, if_neg c2, if_pos c3, if_pos (Int32.le_antisymm c4 c3)]; exact zsub _), rfl⟩
        · refine lv_aload_n hx hb dX8_gainOf_63 rfl (lv_at hl 1 rfl) ?_
          refine x_get E hw kf_X8_7 0 rfl rfl dX8_gainOf_64 ?_
          refine lv_iconst (v := 2) hx hb dX8_gainOf_67 (by decide) ?_
          refine x_ld (v := v.2.2.2.2.1 1) E hw 1 rfl 2 rfl (by omega) (by decide) rfl dX8_gainOf_68 ?_
          refine lv_goto (tgt := 73) hx hb dX8_gainOf_69 (by decide) ?_
          refine lv_istore (lv' := [(4, .int (v.2.2.2.2.1 1)), (3, .int (nI v.2.2.2.2.2.1)), (0, .ref (o 0)), (1, .int mo), (2, .int hd)]) hx hb dX8_gainOf_73 hl (by decide) rfl (fun ls hl => ?_)
          refine lv_iload hx hb dX8_gainOf_75 (lv_at hl 0 rfl) ?_
          refine lv_aload_n hx hb dX8_gainOf_77 rfl (lv_at hl 2 rfl) ?_
          refine lv_iload_n hx hb dX8_gainOf_78 rfl (lv_at hl 1 rfl) ?_
          refine x_goR (st1 := [.int (v.2.2.1 v.2.2.2.2.2.1), .int (v.2.2.2.2.1 1)]) E hw [0, 1] rfl (x_runV (rest := [.int (v.2.2.2.2.1 1)]) E hw (c_X8_grade l g o hs bads nos fuls cau whe cnt p fau isw ods v v.2.2.2.2.2.1 (by omega)) km_X8_49 kv_X8_grade [0, 1] rfl (by decide) 0 rfl hl.1 rfl rfl (Nat.le_of_ble_eq_true rfl) ⟨Nat.le_of_ble_eq_true rfl, Nat.le_of_ble_eq_true rfl⟩ ⟨Nat.zero_le _, Nat.zero_le _⟩ dX8_gainOf_79) rfl (fun H locs hw => ?_)
          refine lv_isub hx hb dX8_gainOf_82 ?_
          exact xr_i hQ E hr hw dX8_gainOf_83 ⟨congrArg (fun z => some (Value.int z)) (by rw [gnF, if_neg c1, if_neg c2, if_pos c3, if_neg (fun z : hd = 0 => c4 (by rw [z]; exact Int32.le_refl _))]), rfl⟩
      · refine lv_aload_n hx hb dX8_gainOf_47 rfl (lv_at hl 1 rfl) ?_
        refine x_get E hw kf_X8_7 0 rfl rfl dX8_gainOf_48 ?_
        refine lv_iconst (v := 1) hx hb dX8_gainOf_51 (by decide) ?_
        refine x_ld (v := v.2.2.2.2.1 0) E hw 1 rfl 1 rfl (by omega) (by decide) rfl dX8_gainOf_52 ?_
        refine lv_iconst (v := 2) hx hb dX8_gainOf_53 (by decide) ?_
        refine lv_idiv hx hb dX8_gainOf_54 (by decide) ?_
        refine lv_ineg hx hb dX8_gainOf_55 ?_
        refine lv_goto (tgt := 73) hx hb dX8_gainOf_56 (by decide) ?_
        refine lv_istore (lv' := [(4, .int (-(v.2.2.2.2.1 0 / 2))), (3, .int (nI v.2.2.2.2.2.1)), (0, .ref (o 0)), (1, .int mo), (2, .int hd)]) hx hb dX8_gainOf_73 hl (by decide) rfl (fun ls hl => ?_)
        refine lv_iload hx hb dX8_gainOf_75 (lv_at hl 0 rfl) ?_
        refine lv_aload_n hx hb dX8_gainOf_77 rfl (lv_at hl 2 rfl) ?_
        refine lv_iload_n hx hb dX8_gainOf_78 rfl (lv_at hl 1 rfl) ?_
        refine x_goR (st1 := [.int (v.2.2.1 v.2.2.2.2.2.1), .int (-(v.2.2.2.2.1 0 / 2))]) E hw [0, 1] rfl (x_runV (rest := [.int (-(v.2.2.2.2.1 0 / 2))]) E hw (c_X8_grade l g o hs bads nos fuls cau whe cnt p fau isw ods v v.2.2.2.2.2.1 (by omega)) km_X8_49 kv_X8_grade [0, 1] rfl (by decide) 0 rfl hl.1 rfl rfl (Nat.le_of_ble_eq_true rfl) ⟨Nat.le_of_ble_eq_true rfl, Nat.le_of_ble_eq_true rfl⟩ ⟨Nat.zero_le _, Nat.zero_le _⟩ dX8_gainOf_79) rfl (fun H locs hw => ?_)
        refine lv_isub hx hb dX8_gainOf_82 ?_
        exact xr_i hQ E hr hw dX8_gainOf_83 ⟨congrArg (fun z => some (Value.int z)) (by rw [gnF, if_neg c1, if_neg c2, if_neg c3]), rfl⟩
    · refine lv_iconst (v := 3) hx hb dX8_gainOf_25 (by decide) ?_
      refine lv_aload_n hx hb dX8_gainOf_26 rfl (lv_at hl 1 rfl) ?_
      refine x_get E hw kf_X8_7 0 rfl rfl dX8_gainOf_27 ?_
      refine lv_iconst (v := 1) hx hb dX8_gainOf_30 (by decide) ?_
      refine x_ld (v := v.2.2.2.2.1 0) E hw 1 rfl 1 rfl (by omega) (by decide) rfl dX8_gainOf_31 ?_
      refine lv_imul hx hb dX8_gainOf_32 ?_
      refine lv_iconst (v := 4) hx hb dX8_gainOf_33 (by decide) ?_
      refine lv_idiv hx hb dX8_gainOf_34 (by decide) ?_
      refine lv_ineg hx hb dX8_gainOf_35 ?_
      refine lv_aload_n hx hb dX8_gainOf_36 rfl (lv_at hl 1 rfl) ?_
      refine lv_iload_n hx hb dX8_gainOf_37 rfl (lv_at hl 0 rfl) ?_
      refine x_goR (st1 := [.int (v.2.2.1 v.2.2.2.2.2.1), .int (-((3 * v.2.2.2.2.1 0) / 4))]) E hw [0, 1] rfl (x_runV (rest := [.int (-((3 * v.2.2.2.2.1 0) / 4))]) E hw (c_X8_grade l g o hs bads nos fuls cau whe cnt p fau isw ods v v.2.2.2.2.2.1 (by omega)) km_X8_49 kv_X8_grade [0, 1] rfl (by decide) 0 rfl hl.1 rfl rfl (Nat.le_of_ble_eq_true rfl) ⟨Nat.le_of_ble_eq_true rfl, Nat.le_of_ble_eq_true rfl⟩ ⟨Nat.zero_le _, Nat.zero_le _⟩ dX8_gainOf_38) rfl (fun H locs hw => ?_)
      refine lv_isub hx hb dX8_gainOf_41 ?_
      exact xr_i hQ E hr hw dX8_gainOf_42 ⟨congrArg (fun z => some (Value.int z)) (by rw [gnF, if_neg c1, if_pos c2]), rfl⟩
  · refine lv_aload_n hx hb dX8_gainOf_13 rfl (lv_at hl 1 rfl) ?_
    refine lv_iload_n hx hb dX8_gainOf_14 rfl (lv_at hl 0 rfl) ?_
    refine x_goR (st1 := [.int (dcl (v.2.2.2.2.1 0) (v.2.2.1 v.2.2.2.2.2.1))]) E hw [0, 1] rfl (x_runV (rest := []) E hw (c_X8_decel l g o hs bads nos fuls cau whe cnt p fau isw ods v v.2.2.2.2.2.1 (by omega)) km_X8_92 kv_X8_decel [0, 1] rfl (by decide) 0 rfl hl.1 rfl rfl (Nat.le_of_ble_eq_true rfl) ⟨Nat.le_of_ble_eq_true rfl, Nat.le_of_ble_eq_true rfl⟩ ⟨Nat.zero_le _, Nat.zero_le _⟩ dX8_gainOf_15) rfl (fun H locs hw => ?_)
    refine lv_ineg hx hb dX8_gainOf_18 ?_
    exact xr_i hQ E hr hw dX8_gainOf_19 ⟨congrArg (fun z => some (Value.int z)) (by rw [gnF, if_pos c1]), rfl⟩

set_option maxRecDepth 100000 in
set_option maxHeartbeats 4000000 in
theorem c_X8_goesOn (l : Launch) (g : xCfg) (o : Nat → Nat) (hs : Nat) (bads : Int32) (nos : Int32) (fuls : Int32) (cau : Int32) (whe : Int32) (cnt : Nat) (p : Nat) (fau : Int32) (isw : Int32) (ods : Int32) (v : SV) (sq : Nat → Int32) (len : Nat) (hd : Int32) (yq : Nat) (hL1 : 1 ≤ v.1) (hL : v.1 ≤ 200) (hlen : v.2.2.2.2.1 2 = nI len) (hl1 : 1 ≤ len) (hl2 : len ≤ 30) (hQs : ∀ x, x < v.1 → 0 ≤ (lwQ v.2.1 v.2.2.1 (v.2.2.2.2.1 0) len v.1 0 sq) x ∧ (lwQ v.2.1 v.2.2.1 (v.2.2.2.2.1 0) len v.1 0 sq) x ≤ 3600) (hf : v.2.2.2.2.2.1 < v.1) (hqy : ¬ nqF v.2.2.1 v.2.2.2.2.1 hd v.2.2.2.2.2 ≤ 0 → nqF v.2.2.1 v.2.2.2.2.1 hd v.2.2.2.2.2 = nI yq) (hyq : yq < 2 ^ 30) : Ct l g yX8_goesOn cX8_goesOn 4 (some .boolean) (xR 6 132) [.ref (o 0), .int hd] [(o 0, .inr (8, [.ref (o 1), .ref (o 2), .int (nI hs), .int bads, .int nos, .int fuls, .int cau, .int whe, .ref (o 3), .ref (o 4), .int (nI cnt), .int (nI p), .int fau, .int isw, .int ods, .ref (o 5), .ref (o 6)])), (o 1, .inl (g.2.1, 616, .inl (nwF v))), (o 3, .inl (g.2.1, 201, .inl sq))] (is1 (some (.int (bI (stpP v.1 v.2.2.1 v.2.2.2.2.1 hd v.2.2.2.2.2)))) [(o 0, .inr (8, [.ref (o 1), .ref (o 2), .int (nI hs), .int bads, .int nos, .int fuls, .int cau, .int whe, .ref (o 3), .ref (o 4), .int (nI cnt), .int (nI p), .int fau, .int isw, .int ods, .ref (o 5), .ref (o 6)])), (o 1, .inl (g.2.1, 616, .inl (nwF (trS (stpT v.1 v.2.2.1 v.2.2.2.1 v.2.2.2.2.1 (lwQ v.2.1 v.2.2.1 (v.2.2.2.2.1 0) len v.1 0 sq) hd v.2.2.2.2.2) v)))), (o 3, .inl (g.2.1, 201, .inl (if v.2.2.2.2.2.2.2.1 = 3 then sq else lwQ v.2.1 v.2.2.1 (v.2.2.2.2.1 0) len v.1 0 sq)))]) := by
  refine Ct.walk (by decide) (Nat.le_of_ble_eq_true rfl) ?_
  intro p0 e0 s0 m0 below meth c0 A0 ls Q hQ E hr hnm hw hl
  have hx := E.x
  have hb := E.b
  have hl : lv_has ls 4 [(0, .ref (o 0)), (1, .int hd)] := hl
  refine lv_aload_n hx hb dX8_goesOn_0 rfl (lv_at hl 0 rfl) ?_
  refine x_get E hw kf_X8_7 0 rfl rfl dX8_goesOn_1 ?_
  refine lv_bipush (v := 9) hx hb dX8_goesOn_4 (by decide) ?_
  refine x_ld (v := v.2.2.2.2.2.2.1) E hw 1 rfl 9 rfl (by omega) (by decide) rfl dX8_goesOn_6 ?_
  refine lv_aload_n hx hb dX8_goesOn_7 rfl (lv_at hl 0 rfl) ?_
  refine lv_aload_n hx hb dX8_goesOn_8 rfl (lv_at hl 0 rfl) ?_
  refine x_get E hw kf_X8_7 0 rfl rfl dX8_goesOn_9 ?_
  refine lv_bipush (v := 10) hx hb dX8_goesOn_12 (by decide) ?_
  refine x_ld (v := v.2.2.2.2.2.2.2.1) E hw 1 rfl 10 rfl (by omega) (by decide) rfl dX8_goesOn_14 ?_
  refine lv_iload_n hx hb dX8_goesOn_15 rfl (lv_at hl 1 rfl) ?_
  refine x_goR (st1 := [.int (gnF v.2.2.2.2.2.2.2.1 hd (v.2.2.2.2.1 0) (v.2.2.2.2.1 1) (v.2.2.1 v.2.2.2.2.2.1)), .int v.2.2.2.2.2.2.1]) E hw [0, 1] rfl (x_runV (rest := [.int v.2.2.2.2.2.2.1]) E hw (c_X8_gainOf l g o hs bads nos fuls cau whe cnt p fau isw ods v v.2.2.2.2.2.2.2.1 hd (by omega)) km_X8_125 kv_X8_gainOf [0, 1] rfl (by decide) 0 rfl hl.1 rfl rfl (Nat.le_of_ble_eq_true rfl) ⟨Nat.le_of_ble_eq_true rfl, Nat.le_of_ble_eq_true rfl⟩ ⟨Nat.zero_le _, Nat.zero_le _⟩ dX8_goesOn_16) rfl (fun H locs hw => ?_)
  refine lv_iadd hx hb dX8_goesOn_19 ?_
  refine x_top (v' := .int (nqF v.2.2.1 v.2.2.2.2.1 hd v.2.2.2.2.2)) rfl ?_
  refine lv_istore_n (lv' := [(2, .int (nqF v.2.2.1 v.2.2.2.2.1 hd v.2.2.2.2.2)), (0, .ref (o 0)), (1, .int hd)]) hx hb dX8_goesOn_20 rfl hl (by decide) rfl (fun ls hl => ?_)
  refine lv_iload_n hx hb dX8_goesOn_21 rfl (lv_at hl 0 rfl) ?_
  refine lv_if_le (tgt := 47) hx hb dX8_goesOn_22 (by decide) (fun cq => ?_) (fun cq => ?_)
  · refine lv_iconst (v := 0) hx hb dX8_goesOn_47 (by decide) ?_
    refine lv_istore_n (lv' := [(3, .int 0), (2, .int (nqF v.2.2.1 v.2.2.2.2.1 hd v.2.2.2.2.2)), (0, .ref (o 0)), (1, .int hd)]) hx hb dX8_goesOn_48 rfl hl (by decide) rfl (fun ls hl => ?_)
    refine lv_aload_n hx hb dX8_goesOn_49 rfl (lv_at hl 2 rfl) ?_
    refine x_get E hw kf_X8_7 0 rfl rfl dX8_goesOn_50 ?_
    refine lv_bipush (v := 14) hx hb dX8_goesOn_53 (by decide) ?_
    refine lv_dup2_11 hx hb dX8_goesOn_55 rfl rfl ?_
    refine x_ld (v := v.2.2.2.2.2.2.2.2.2.2.2.1) E hw 1 rfl 14 rfl (by omega) (by decide) rfl dX8_goesOn_56 ?_
    refine lv_iload_n hx hb dX8_goesOn_57 rfl (lv_at hl 1 rfl) ?_
    refine lv_if_le (tgt := 69) hx hb dX8_goesOn_58 (by decide) (fun cr => ?_) (fun cr => ?_)
    · refine lv_iconst (v := 0) hx hb dX8_goesOn_69 (by decide) ?_
      refine lv_iadd hx hb dX8_goesOn_70 ?_
      refine x_top (v' := .int v.2.2.2.2.2.2.2.2.2.2.2.1) (congrArg Value.int (Int32.add_zero _)) ?_
      refine x_ist E hw 1 rfl 14 rfl (by omega) (by decide) (ws' := [(o 0, .inr (8, [.ref (o 1), .ref (o 2), .int (nI hs), .int bads, .int nos, .int fuls, .int cau, .int whe, .ref (o 3), .ref (o 4), .int (nI cnt), .int (nI p), .int fau, .int isw, .int ods, .ref (o 5), .ref (o 6)])), (o 1, .inl (g.2.1, 616, .inl (upd (nwF v) 14 v.2.2.2.2.2.2.2.2.2.2.2.1))), (o 3, .inl (g.2.1, 201, .inl sq))]) rfl dX8_goesOn_71 (fun H locs hw => ?_)
      have hw := hw.arr (f' := (nwF v)) (ws' := [(o 0, .inr (8, [.ref (o 1), .ref (o 2), .int (nI hs), .int bads, .int nos, .int fuls, .int cau, .int whe, .ref (o 3), .ref (o 4), .int (nI cnt), .int (nI p), .int fau, .int isw, .int ods, .ref (o 5), .ref (o 6)])), (o 1, .inl (g.2.1, 616, .inl (nwF v))), (o 3, .inl (g.2.1, 201, .inl sq))]) 1 rfl (fun j _ => nwU_14 _ _ j) rfl
      refine lv_aload_n hx hb dX8_goesOn_72 rfl (lv_at hl 2 rfl) ?_
      refine x_get E hw kf_X8_7 0 rfl rfl dX8_goesOn_73 ?_
      refine lv_bipush (v := 9) hx hb dX8_goesOn_76 (by decide) ?_
      refine lv_iload_n hx hb dX8_goesOn_78 rfl (lv_at hl 0 rfl) ?_
      refine lv_if_eq (tgt := 86) hx hb dX8_goesOn_79 (by decide) (fun _ => ?_) (fun h => absurd h (by decide))
      refine lv_iconst (v := 0) hx hb dX8_goesOn_86 (by decide) ?_
      refine x_ist E hw 1 rfl 9 rfl (by omega) (by decide) (ws' := [(o 0, .inr (8, [.ref (o 1), .ref (o 2), .int (nI hs), .int bads, .int nos, .int fuls, .int cau, .int whe, .ref (o 3), .ref (o 4), .int (nI cnt), .int (nI p), .int fau, .int isw, .int ods, .ref (o 5), .ref (o 6)])), (o 1, .inl (g.2.1, 616, .inl (upd (nwF v) 9 0))), (o 3, .inl (g.2.1, 201, .inl sq))]) rfl dX8_goesOn_87 (fun H locs hw => ?_)
      have hw := hw.arr (f' := (nwF (v.1, v.2.1, v.2.2.1, v.2.2.2.1, v.2.2.2.2.1, v.2.2.2.2.2.1, 0, v.2.2.2.2.2.2.2.1, v.2.2.2.2.2.2.2.2.1, v.2.2.2.2.2.2.2.2.2.1, v.2.2.2.2.2.2.2.2.2.2.1, v.2.2.2.2.2.2.2.2.2.2.2.1, v.2.2.2.2.2.2.2.2.2.2.2.2))) (ws' := [(o 0, .inr (8, [.ref (o 1), .ref (o 2), .int (nI hs), .int bads, .int nos, .int fuls, .int cau, .int whe, .ref (o 3), .ref (o 4), .int (nI cnt), .int (nI p), .int fau, .int isw, .int ods, .ref (o 5), .ref (o 6)])), (o 1, .inl (g.2.1, 616, .inl (nwF (v.1, v.2.1, v.2.2.1, v.2.2.2.1, v.2.2.2.2.1, v.2.2.2.2.2.1, 0, v.2.2.2.2.2.2.2.1, v.2.2.2.2.2.2.2.2.1, v.2.2.2.2.2.2.2.2.2.1, v.2.2.2.2.2.2.2.2.2.2.1, v.2.2.2.2.2.2.2.2.2.2.2.1, v.2.2.2.2.2.2.2.2.2.2.2.2)))), (o 3, .inl (g.2.1, 201, .inl sq))]) 1 rfl (fun j _ => nwU_9 _ _ j) rfl
      refine lv_iload_n hx hb dX8_goesOn_88 rfl (lv_at hl 0 rfl) ?_
      refine lv_if_eq (tgt := 213) hx hb dX8_goesOn_89 (by decide) (fun _ => ?_) (fun h => absurd h (by decide))
      refine lv_aload_n hx hb dX8_goesOn_213 rfl (lv_at hl 2 rfl) ?_
      refine x_go (ws' := [(o 0, .inr (8, [.ref (o 1), .ref (o 2), .int (nI hs), .int bads, .int nos, .int fuls, .int cau, .int whe, .ref (o 3), .ref (o 4), .int (nI cnt), .int (nI p), .int fau, .int isw, .int ods, .ref (o 5), .ref (o 6)])), (o 1, .inl (g.2.1, 616, .inl (nwF (trS (supT v.1 v.2.2.2.2.1 (lwQ v.2.1 v.2.2.1 (v.2.2.2.2.1 0) len v.1 0 sq) (v.2.2.2.2.2.1, 0, v.2.2.2.2.2.2.2.1, v.2.2.2.2.2.2.2.2.1, v.2.2.2.2.2.2.2.2.2.1, v.2.2.2.2.2.2.2.2.2.2.1, v.2.2.2.2.2.2.2.2.2.2.2.1, v.2.2.2.2.2.2.2.2.2.2.2.2)) (v.1, v.2.1, v.2.2.1, v.2.2.2.1, v.2.2.2.2.1, v.2.2.2.2.2.1, 0, v.2.2.2.2.2.2.2.1, v.2.2.2.2.2.2.2.2.1, v.2.2.2.2.2.2.2.2.2.1, v.2.2.2.2.2.2.2.2.2.2.1, v.2.2.2.2.2.2.2.2.2.2.2.1, v.2.2.2.2.2.2.2.2.2.2.2.2))))), (o 3, .inl (g.2.1, 201, .inl (if v.2.2.2.2.2.2.2.1 = 3 then sq else lwQ v.2.1 v.2.2.1 (v.2.2.2.2.1 0) len v.1 0 sq)))]) (st1 := []) E hw [0, 1, 2] rfl (x_runV (rest := []) E hw (c_X8_supervises l g o hs bads nos fuls cau whe cnt p fau isw ods (v.1, v.2.1, v.2.2.1, v.2.2.2.1, v.2.2.2.2.1, v.2.2.2.2.2.1, 0, v.2.2.2.2.2.2.2.1, v.2.2.2.2.2.2.2.2.1, v.2.2.2.2.2.2.2.2.2.1, v.2.2.2.2.2.2.2.2.2.2.1, v.2.2.2.2.2.2.2.2.2.2.2.1, v.2.2.2.2.2.2.2.2.2.2.2.2) sq len 0 hL1 hL hlen (by omega) (by omega) hQs rfl (by decide)) km_X8_128 kv_X8_supervises [0, 1, 2] rfl (by decide) 0 rfl hl.1 rfl rfl (Nat.le_of_ble_eq_true rfl) ⟨Nat.le_of_ble_eq_true rfl, Nat.le_of_ble_eq_true rfl⟩ ⟨Nat.zero_le _, Nat.zero_le _⟩ dX8_goesOn_214) rfl rfl rfl (fun H locs hw => ?_)
      refine lv_iload_n hx hb dX8_goesOn_217 rfl (lv_at hl 0 rfl) ?_
      exact xr_z hQ E hr hw dX8_goesOn_218 (by decide) ⟨congrArg (fun z => some (Value.int z)) ((bI_f (fun z => z.1 cq)).symm), (by rw [stpT_0 cq] <;> rfl)⟩
    · exact absurd cq cr
  · refine lv_aload_n hx hb dX8_goesOn_25 rfl (lv_at hl 1 rfl) ?_
    refine x_get E hw kf_X8_7 0 rfl rfl dX8_goesOn_26 ?_
    refine lv_bipush (v := 8) hx hb dX8_goesOn_29 (by decide) ?_
    refine x_ld (v := nI v.2.2.2.2.2.1) E hw 1 rfl 8 rfl (by omega) (by decide) rfl dX8_goesOn_31 ?_
    refine lv_aload_n hx hb dX8_goesOn_32 rfl (lv_at hl 1 rfl) ?_
    refine x_get E hw kf_X8_7 0 rfl rfl dX8_goesOn_33 ?_
    refine lv_iconst (v := 0) hx hb dX8_goesOn_36 (by decide) ?_
    refine x_ld (v := nI v.1) E hw 1 rfl 0 rfl (by omega) (by decide) rfl dX8_goesOn_37 ?_
    refine lv_iconst (v := 1) hx hb dX8_goesOn_38 (by decide) ?_
    refine xn_sub hx hb v.1 1 rfl rfl (by omega) dX8_goesOn_39 ?_
    refine xn_ge (tgt := 47) hx hb v.2.2.2.2.2.1 (v.1 - 1) rfl rfl (by omega) (by omega) dX8_goesOn_40 (by decide) (fun cf => ?_) (fun cf => ?_)
    · refine lv_iconst (v := 0) hx hb dX8_goesOn_47 (by decide) ?_
      refine lv_istore_n (lv' := [(3, .int 0), (2, .int (nqF v.2.2.1 v.2.2.2.2.1 hd v.2.2.2.2.2)), (0, .ref (o 0)), (1, .int hd)]) hx hb dX8_goesOn_48 rfl hl (by decide) rfl (fun ls hl => ?_)
      refine lv_aload_n hx hb dX8_goesOn_49 rfl (lv_at hl 2 rfl) ?_
      refine x_get E hw kf_X8_7 0 rfl rfl dX8_goesOn_50 ?_
      refine lv_bipush (v := 14) hx hb dX8_goesOn_53 (by decide) ?_
      refine lv_dup2_11 hx hb dX8_goesOn_55 rfl rfl ?_
      refine x_ld (v := v.2.2.2.2.2.2.2.2.2.2.2.1) E hw 1 rfl 14 rfl (by omega) (by decide) rfl dX8_goesOn_56 ?_
      refine lv_iload_n hx hb dX8_goesOn_57 rfl (lv_at hl 1 rfl) ?_
      refine lv_if_le (tgt := 69) hx hb dX8_goesOn_58 (by decide) (fun cr => ?_) (fun cr => ?_)
      · exact absurd cr cq
      · refine lv_iload_n hx hb dX8_goesOn_61 rfl (lv_at hl 0 rfl) ?_
        refine lv_if_ne (tgt := 69) hx hb dX8_goesOn_62 (by decide) (fun h => absurd h (by decide)) (fun _ => ?_)
        refine lv_iconst (v := 1) hx hb dX8_goesOn_65 (by decide) ?_
        refine lv_goto (tgt := 70) hx hb dX8_goesOn_66 (by decide) ?_
        refine lv_iadd hx hb dX8_goesOn_70 ?_
        refine x_ist E hw 1 rfl 14 rfl (by omega) (by decide) (ws' := [(o 0, .inr (8, [.ref (o 1), .ref (o 2), .int (nI hs), .int bads, .int nos, .int fuls, .int cau, .int whe, .ref (o 3), .ref (o 4), .int (nI cnt), .int (nI p), .int fau, .int isw, .int ods, .ref (o 5), .ref (o 6)])), (o 1, .inl (g.2.1, 616, .inl (upd (nwF v) 14 (v.2.2.2.2.2.2.2.2.2.2.2.1 + 1)))), (o 3, .inl (g.2.1, 201, .inl sq))]) rfl dX8_goesOn_71 (fun H locs hw => ?_)
        have hw := hw.arr (f' := (nwF (v.1, v.2.1, v.2.2.1, v.2.2.2.1, v.2.2.2.2.1, v.2.2.2.2.2.1, v.2.2.2.2.2.2.1, v.2.2.2.2.2.2.2.1, v.2.2.2.2.2.2.2.2.1, v.2.2.2.2.2.2.2.2.2.1, v.2.2.2.2.2.2.2.2.2.2.1, v.2.2.2.2.2.2.2.2.2.2.2.1 + 1, v.2.2.2.2.2.2.2.2.2.2.2.2))) (ws' := [(o 0, .inr (8, [.ref (o 1), .ref (o 2), .int (nI hs), .int bads, .int nos, .int fuls, .int cau, .int whe, .ref (o 3), .ref (o 4), .int (nI cnt), .int (nI p), .int fau, .int isw, .int ods, .ref (o 5), .ref (o 6)])), (o 1, .inl (g.2.1, 616, .inl (nwF (v.1, v.2.1, v.2.2.1, v.2.2.2.1, v.2.2.2.2.1, v.2.2.2.2.2.1, v.2.2.2.2.2.2.1, v.2.2.2.2.2.2.2.1, v.2.2.2.2.2.2.2.2.1, v.2.2.2.2.2.2.2.2.2.1, v.2.2.2.2.2.2.2.2.2.2.1, v.2.2.2.2.2.2.2.2.2.2.2.1 + 1, v.2.2.2.2.2.2.2.2.2.2.2.2)))), (o 3, .inl (g.2.1, 201, .inl sq))]) 1 rfl (fun j _ => nwU_14 _ _ j) rfl
        refine lv_aload_n hx hb dX8_goesOn_72 rfl (lv_at hl 2 rfl) ?_
        refine x_get E hw kf_X8_7 0 rfl rfl dX8_goesOn_73 ?_
        refine lv_bipush (v := 9) hx hb dX8_goesOn_76 (by decide) ?_
        refine lv_iload_n hx hb dX8_goesOn_78 rfl (lv_at hl 0 rfl) ?_
        refine lv_if_eq (tgt := 86) hx hb dX8_goesOn_79 (by decide) (fun _ => ?_) (fun h => absurd h (by decide))
        refine lv_iconst (v := 0) hx hb dX8_goesOn_86 (by decide) ?_
        refine x_ist E hw 1 rfl 9 rfl (by omega) (by decide) (ws' := [(o 0, .inr (8, [.ref (o 1), .ref (o 2), .int (nI hs), .int bads, .int nos, .int fuls, .int cau, .int whe, .ref (o 3), .ref (o 4), .int (nI cnt), .int (nI p), .int fau, .int isw, .int ods, .ref (o 5), .ref (o 6)])), (o 1, .inl (g.2.1, 616, .inl (upd (nwF (v.1, v.2.1, v.2.2.1, v.2.2.2.1, v.2.2.2.2.1, v.2.2.2.2.2.1, v.2.2.2.2.2.2.1, v.2.2.2.2.2.2.2.1, v.2.2.2.2.2.2.2.2.1, v.2.2.2.2.2.2.2.2.2.1, v.2.2.2.2.2.2.2.2.2.2.1, v.2.2.2.2.2.2.2.2.2.2.2.1 + 1, v.2.2.2.2.2.2.2.2.2.2.2.2)) 9 0))), (o 3, .inl (g.2.1, 201, .inl sq))]) rfl dX8_goesOn_87 (fun H locs hw => ?_)
        have hw := hw.arr (f' := (nwF (v.1, v.2.1, v.2.2.1, v.2.2.2.1, v.2.2.2.2.1, v.2.2.2.2.2.1, 0, v.2.2.2.2.2.2.2.1, v.2.2.2.2.2.2.2.2.1, v.2.2.2.2.2.2.2.2.2.1, v.2.2.2.2.2.2.2.2.2.2.1, v.2.2.2.2.2.2.2.2.2.2.2.1 + 1, v.2.2.2.2.2.2.2.2.2.2.2.2))) (ws' := [(o 0, .inr (8, [.ref (o 1), .ref (o 2), .int (nI hs), .int bads, .int nos, .int fuls, .int cau, .int whe, .ref (o 3), .ref (o 4), .int (nI cnt), .int (nI p), .int fau, .int isw, .int ods, .ref (o 5), .ref (o 6)])), (o 1, .inl (g.2.1, 616, .inl (nwF (v.1, v.2.1, v.2.2.1, v.2.2.2.1, v.2.2.2.2.1, v.2.2.2.2.2.1, 0, v.2.2.2.2.2.2.2.1, v.2.2.2.2.2.2.2.2.1, v.2.2.2.2.2.2.2.2.2.1, v.2.2.2.2.2.2.2.2.2.2.1, v.2.2.2.2.2.2.2.2.2.2.2.1 + 1, v.2.2.2.2.2.2.2.2.2.2.2.2)))), (o 3, .inl (g.2.1, 201, .inl sq))]) 1 rfl (fun j _ => nwU_9 _ _ j) rfl
        refine lv_iload_n hx hb dX8_goesOn_88 rfl (lv_at hl 0 rfl) ?_
        refine lv_if_eq (tgt := 213) hx hb dX8_goesOn_89 (by decide) (fun _ => ?_) (fun h => absurd h (by decide))
        refine lv_aload_n hx hb dX8_goesOn_213 rfl (lv_at hl 2 rfl) ?_
        refine x_go (ws' := [(o 0, .inr (8, [.ref (o 1), .ref (o 2), .int (nI hs), .int bads, .int nos, .int fuls, .int cau, .int whe, .ref (o 3), .ref (o 4), .int (nI cnt), .int (nI p), .int fau, .int isw, .int ods, .ref (o 5), .ref (o 6)])), (o 1, .inl (g.2.1, 616, .inl (nwF (trS (supT v.1 v.2.2.2.2.1 (lwQ v.2.1 v.2.2.1 (v.2.2.2.2.1 0) len v.1 0 sq) (v.2.2.2.2.2.1, 0, v.2.2.2.2.2.2.2.1, v.2.2.2.2.2.2.2.2.1, v.2.2.2.2.2.2.2.2.2.1, v.2.2.2.2.2.2.2.2.2.2.1, v.2.2.2.2.2.2.2.2.2.2.2.1 + 1, v.2.2.2.2.2.2.2.2.2.2.2.2)) (v.1, v.2.1, v.2.2.1, v.2.2.2.1, v.2.2.2.2.1, v.2.2.2.2.2.1, 0, v.2.2.2.2.2.2.2.1, v.2.2.2.2.2.2.2.2.1, v.2.2.2.2.2.2.2.2.2.1, v.2.2.2.2.2.2.2.2.2.2.1, v.2.2.2.2.2.2.2.2.2.2.2.1 + 1, v.2.2.2.2.2.2.2.2.2.2.2.2))))), (o 3, .inl (g.2.1, 201, .inl (if v.2.2.2.2.2.2.2.1 = 3 then sq else lwQ v.2.1 v.2.2.1 (v.2.2.2.2.1 0) len v.1 0 sq)))]) (st1 := []) E hw [0, 1, 2] rfl (x_runV (rest := []) E hw (c_X8_supervises l g o hs bads nos fuls cau whe cnt p fau isw ods (v.1, v.2.1, v.2.2.1, v.2.2.2.1, v.2.2.2.2.1, v.2.2.2.2.2.1, 0, v.2.2.2.2.2.2.2.1, v.2.2.2.2.2.2.2.2.1, v.2.2.2.2.2.2.2.2.2.1, v.2.2.2.2.2.2.2.2.2.2.1, v.2.2.2.2.2.2.2.2.2.2.2.1 + 1, v.2.2.2.2.2.2.2.2.2.2.2.2) sq len 0 hL1 hL hlen (by omega) (by omega) hQs rfl (by decide)) km_X8_128 kv_X8_supervises [0, 1, 2] rfl (by decide) 0 rfl hl.1 rfl rfl (Nat.le_of_ble_eq_true rfl) ⟨Nat.le_of_ble_eq_true rfl, Nat.le_of_ble_eq_true rfl⟩ ⟨Nat.zero_le _, Nat.zero_le _⟩ dX8_goesOn_214) rfl rfl rfl (fun H locs hw => ?_)
        refine lv_iload_n hx hb dX8_goesOn_217 rfl (lv_at hl 0 rfl) ?_
        exact xr_z hQ E hr hw dX8_goesOn_218 (by decide) ⟨congrArg (fun z => some (Value.int z)) ((bI_f (fun z => absurd z.2 (by omega))).symm), (by rw [stpT_end cq (by omega)] <;> rfl)⟩
    · refine lv_iconst (v := 1) hx hb dX8_goesOn_43 (by decide) ?_
      refine lv_goto (tgt := 48) hx hb dX8_goesOn_44 (by decide) ?_
      refine lv_istore_n (lv' := [(3, .int 1), (2, .int (nqF v.2.2.1 v.2.2.2.2.1 hd v.2.2.2.2.2)), (0, .ref (o 0)), (1, .int hd)]) hx hb dX8_goesOn_48 rfl hl (by decide) rfl (fun ls hl => ?_)
      refine lv_aload_n hx hb dX8_goesOn_49 rfl (lv_at hl 2 rfl) ?_
      refine x_get E hw kf_X8_7 0 rfl rfl dX8_goesOn_50 ?_
      refine lv_bipush (v := 14) hx hb dX8_goesOn_53 (by decide) ?_
      refine lv_dup2_11 hx hb dX8_goesOn_55 rfl rfl ?_
      refine x_ld (v := v.2.2.2.2.2.2.2.2.2.2.2.1) E hw 1 rfl 14 rfl (by omega) (by decide) rfl dX8_goesOn_56 ?_
      refine lv_iload_n hx hb dX8_goesOn_57 rfl (lv_at hl 1 rfl) ?_
      refine lv_if_le (tgt := 69) hx hb dX8_goesOn_58 (by decide) (fun cr => ?_) (fun cr => ?_)
      · exact absurd cr cq
      · refine lv_iload_n hx hb dX8_goesOn_61 rfl (lv_at hl 0 rfl) ?_
        refine lv_if_ne (tgt := 69) hx hb dX8_goesOn_62 (by decide) (fun _ => ?_) (fun h => absurd h (by decide))
        refine lv_iconst (v := 0) hx hb dX8_goesOn_69 (by decide) ?_
        refine lv_iadd hx hb dX8_goesOn_70 ?_
        refine x_top (v' := .int v.2.2.2.2.2.2.2.2.2.2.2.1) (congrArg Value.int (Int32.add_zero _)) ?_
        refine x_ist E hw 1 rfl 14 rfl (by omega) (by decide) (ws' := [(o 0, .inr (8, [.ref (o 1), .ref (o 2), .int (nI hs), .int bads, .int nos, .int fuls, .int cau, .int whe, .ref (o 3), .ref (o 4), .int (nI cnt), .int (nI p), .int fau, .int isw, .int ods, .ref (o 5), .ref (o 6)])), (o 1, .inl (g.2.1, 616, .inl (upd (nwF v) 14 v.2.2.2.2.2.2.2.2.2.2.2.1))), (o 3, .inl (g.2.1, 201, .inl sq))]) rfl dX8_goesOn_71 (fun H locs hw => ?_)
        have hw := hw.arr (f' := (nwF v)) (ws' := [(o 0, .inr (8, [.ref (o 1), .ref (o 2), .int (nI hs), .int bads, .int nos, .int fuls, .int cau, .int whe, .ref (o 3), .ref (o 4), .int (nI cnt), .int (nI p), .int fau, .int isw, .int ods, .ref (o 5), .ref (o 6)])), (o 1, .inl (g.2.1, 616, .inl (nwF v))), (o 3, .inl (g.2.1, 201, .inl sq))]) 1 rfl (fun j _ => nwU_14 _ _ j) rfl
        refine lv_aload_n hx hb dX8_goesOn_72 rfl (lv_at hl 2 rfl) ?_
        refine x_get E hw kf_X8_7 0 rfl rfl dX8_goesOn_73 ?_
        refine lv_bipush (v := 9) hx hb dX8_goesOn_76 (by decide) ?_
        refine lv_iload_n hx hb dX8_goesOn_78 rfl (lv_at hl 0 rfl) ?_
        refine lv_if_eq (tgt := 86) hx hb dX8_goesOn_79 (by decide) (fun h => absurd h (by decide)) (fun _ => ?_)
        refine lv_iload_n hx hb dX8_goesOn_82 rfl (lv_at hl 1 rfl) ?_
        refine lv_goto (tgt := 87) hx hb dX8_goesOn_83 (by decide) ?_
        refine x_ist E hw 1 rfl 9 rfl (by omega) (by decide) (ws' := [(o 0, .inr (8, [.ref (o 1), .ref (o 2), .int (nI hs), .int bads, .int nos, .int fuls, .int cau, .int whe, .ref (o 3), .ref (o 4), .int (nI cnt), .int (nI p), .int fau, .int isw, .int ods, .ref (o 5), .ref (o 6)])), (o 1, .inl (g.2.1, 616, .inl (upd (nwF v) 9 (nqF v.2.2.1 v.2.2.2.2.1 hd v.2.2.2.2.2)))), (o 3, .inl (g.2.1, 201, .inl sq))]) rfl dX8_goesOn_87 (fun H locs hw => ?_)
        have hw := hw.arr (f' := (nwF (v.1, v.2.1, v.2.2.1, v.2.2.2.1, v.2.2.2.2.1, v.2.2.2.2.2.1, nqF v.2.2.1 v.2.2.2.2.1 hd v.2.2.2.2.2, v.2.2.2.2.2.2.2.1, v.2.2.2.2.2.2.2.2.1, v.2.2.2.2.2.2.2.2.2.1, v.2.2.2.2.2.2.2.2.2.2.1, v.2.2.2.2.2.2.2.2.2.2.2.1, v.2.2.2.2.2.2.2.2.2.2.2.2))) (ws' := [(o 0, .inr (8, [.ref (o 1), .ref (o 2), .int (nI hs), .int bads, .int nos, .int fuls, .int cau, .int whe, .ref (o 3), .ref (o 4), .int (nI cnt), .int (nI p), .int fau, .int isw, .int ods, .ref (o 5), .ref (o 6)])), (o 1, .inl (g.2.1, 616, .inl (nwF (v.1, v.2.1, v.2.2.1, v.2.2.2.1, v.2.2.2.2.1, v.2.2.2.2.2.1, nqF v.2.2.1 v.2.2.2.2.1 hd v.2.2.2.2.2, v.2.2.2.2.2.2.2.1, v.2.2.2.2.2.2.2.2.1, v.2.2.2.2.2.2.2.2.2.1, v.2.2.2.2.2.2.2.2.2.2.1, v.2.2.2.2.2.2.2.2.2.2.2.1, v.2.2.2.2.2.2.2.2.2.2.2.2)))), (o 3, .inl (g.2.1, 201, .inl sq))]) 1 rfl (fun j _ => nwU_9 _ _ j) rfl
        refine lv_iload_n hx hb dX8_goesOn_88 rfl (lv_at hl 0 rfl) ?_
        refine lv_if_eq (tgt := 213) hx hb dX8_goesOn_89 (by decide) (fun h => absurd h (by decide)) (fun _ => ?_)
        refine lv_aload_n hx hb dX8_goesOn_92 rfl (lv_at hl 2 rfl) ?_
        refine x_get E hw kf_X8_7 0 rfl rfl dX8_goesOn_93 ?_
        refine lv_bipush (v := 8) hx hb dX8_goesOn_96 (by decide) ?_
        refine lv_dup2_11 hx hb dX8_goesOn_98 rfl rfl ?_
        refine x_ld (v := nI v.2.2.2.2.2.1) E hw 1 rfl 8 rfl (by omega) (by decide) rfl dX8_goesOn_99 ?_
        refine lv_iconst (v := 1) hx hb dX8_goesOn_100 (by decide) ?_
        refine xn_add hx hb v.2.2.2.2.2.1 1 rfl rfl dX8_goesOn_101 ?_
        refine x_ist E hw 1 rfl 8 rfl (by omega) (by decide) (ws' := [(o 0, .inr (8, [.ref (o 1), .ref (o 2), .int (nI hs), .int bads, .int nos, .int fuls, .int cau, .int whe, .ref (o 3), .ref (o 4), .int (nI cnt), .int (nI p), .int fau, .int isw, .int ods, .ref (o 5), .ref (o 6)])), (o 1, .inl (g.2.1, 616, .inl (upd (nwF (v.1, v.2.1, v.2.2.1, v.2.2.2.1, v.2.2.2.2.1, v.2.2.2.2.2.1, nqF v.2.2.1 v.2.2.2.2.1 hd v.2.2.2.2.2, v.2.2.2.2.2.2.2.1, v.2.2.2.2.2.2.2.2.1, v.2.2.2.2.2.2.2.2.2.1, v.2.2.2.2.2.2.2.2.2.2.1, v.2.2.2.2.2.2.2.2.2.2.2.1, v.2.2.2.2.2.2.2.2.2.2.2.2)) 8 (nI (v.2.2.2.2.2.1 + 1))))), (o 3, .inl (g.2.1, 201, .inl sq))]) rfl dX8_goesOn_102 (fun H locs hw => ?_)
        have hw := hw.arr (f' := (nwF (v.1, v.2.1, v.2.2.1, v.2.2.2.1, v.2.2.2.2.1, v.2.2.2.2.2.1 + 1, nqF v.2.2.1 v.2.2.2.2.1 hd v.2.2.2.2.2, v.2.2.2.2.2.2.2.1, v.2.2.2.2.2.2.2.2.1, v.2.2.2.2.2.2.2.2.2.1, v.2.2.2.2.2.2.2.2.2.2.1, v.2.2.2.2.2.2.2.2.2.2.2.1, v.2.2.2.2.2.2.2.2.2.2.2.2))) (ws' := [(o 0, .inr (8, [.ref (o 1), .ref (o 2), .int (nI hs), .int bads, .int nos, .int fuls, .int cau, .int whe, .ref (o 3), .ref (o 4), .int (nI cnt), .int (nI p), .int fau, .int isw, .int ods, .ref (o 5), .ref (o 6)])), (o 1, .inl (g.2.1, 616, .inl (nwF (v.1, v.2.1, v.2.2.1, v.2.2.2.1, v.2.2.2.2.1, v.2.2.2.2.2.1 + 1, nqF v.2.2.1 v.2.2.2.2.1 hd v.2.2.2.2.2, v.2.2.2.2.2.2.2.1, v.2.2.2.2.2.2.2.2.1, v.2.2.2.2.2.2.2.2.2.1, v.2.2.2.2.2.2.2.2.2.2.1, v.2.2.2.2.2.2.2.2.2.2.2.1, v.2.2.2.2.2.2.2.2.2.2.2.2)))), (o 3, .inl (g.2.1, 201, .inl sq))]) 1 rfl (fun j _ => nwU_8 _ _ j) rfl
        refine lv_aload_n hx hb dX8_goesOn_103 rfl (lv_at hl 2 rfl) ?_
        refine x_get E hw kf_X8_7 0 rfl rfl dX8_goesOn_104 ?_
        refine lv_bipush (v := 15) hx hb dX8_goesOn_107 (by decide) ?_
        refine lv_dup2_11 hx hb dX8_goesOn_109 rfl rfl ?_
        refine x_ld (v := v.2.2.2.2.2.2.2.2.2.2.2.2) E hw 1 rfl 15 rfl (by omega) (by decide) rfl dX8_goesOn_110 ?_
        refine lv_iconst (v := 1) hx hb dX8_goesOn_111 (by decide) ?_
        refine lv_iadd hx hb dX8_goesOn_112 ?_
        refine x_ist E hw 1 rfl 15 rfl (by omega) (by decide) (ws' := [(o 0, .inr (8, [.ref (o 1), .ref (o 2), .int (nI hs), .int bads, .int nos, .int fuls, .int cau, .int whe, .ref (o 3), .ref (o 4), .int (nI cnt), .int (nI p), .int fau, .int isw, .int ods, .ref (o 5), .ref (o 6)])), (o 1, .inl (g.2.1, 616, .inl (upd (nwF (v.1, v.2.1, v.2.2.1, v.2.2.2.1, v.2.2.2.2.1, v.2.2.2.2.2.1 + 1, nqF v.2.2.1 v.2.2.2.2.1 hd v.2.2.2.2.2, v.2.2.2.2.2.2.2.1, v.2.2.2.2.2.2.2.2.1, v.2.2.2.2.2.2.2.2.2.1, v.2.2.2.2.2.2.2.2.2.2.1, v.2.2.2.2.2.2.2.2.2.2.2.1, v.2.2.2.2.2.2.2.2.2.2.2.2)) 15 (v.2.2.2.2.2.2.2.2.2.2.2.2 + 1)))), (o 3, .inl (g.2.1, 201, .inl sq))]) rfl dX8_goesOn_113 (fun H locs hw => ?_)
        have hw := hw.arr (f' := (nwF (v.1, v.2.1, v.2.2.1, v.2.2.2.1, v.2.2.2.2.1, v.2.2.2.2.2.1 + 1, nqF v.2.2.1 v.2.2.2.2.1 hd v.2.2.2.2.2, v.2.2.2.2.2.2.2.1, v.2.2.2.2.2.2.2.2.1, v.2.2.2.2.2.2.2.2.2.1, v.2.2.2.2.2.2.2.2.2.2.1, v.2.2.2.2.2.2.2.2.2.2.2.1, v.2.2.2.2.2.2.2.2.2.2.2.2 + 1))) (ws' := [(o 0, .inr (8, [.ref (o 1), .ref (o 2), .int (nI hs), .int bads, .int nos, .int fuls, .int cau, .int whe, .ref (o 3), .ref (o 4), .int (nI cnt), .int (nI p), .int fau, .int isw, .int ods, .ref (o 5), .ref (o 6)])), (o 1, .inl (g.2.1, 616, .inl (nwF (v.1, v.2.1, v.2.2.1, v.2.2.2.1, v.2.2.2.2.1, v.2.2.2.2.2.1 + 1, nqF v.2.2.1 v.2.2.2.2.1 hd v.2.2.2.2.2, v.2.2.2.2.2.2.2.1, v.2.2.2.2.2.2.2.2.1, v.2.2.2.2.2.2.2.2.2.1, v.2.2.2.2.2.2.2.2.2.2.1, v.2.2.2.2.2.2.2.2.2.2.2.1, v.2.2.2.2.2.2.2.2.2.2.2.2 + 1)))), (o 3, .inl (g.2.1, 201, .inl sq))]) 1 rfl (fun j _ => nwU_15 _ _ j) rfl
        refine lv_aload_n hx hb dX8_goesOn_114 rfl (lv_at hl 2 rfl) ?_
        refine x_get E hw kf_X8_7 0 rfl rfl dX8_goesOn_115 ?_
        refine lv_bipush (v := 11) hx hb dX8_goesOn_118 (by decide) ?_
        refine lv_dup2_11 hx hb dX8_goesOn_120 rfl rfl ?_
        refine x_ld (v := v.2.2.2.2.2.2.2.2.1) E hw 1 rfl 11 rfl (by omega) (by decide) rfl dX8_goesOn_121 ?_
        refine lv_sipush (v := 1000) hx hb dX8_goesOn_122 (by decide) ?_
        refine lv_aload_n hx hb dX8_goesOn_125 rfl (lv_at hl 2 rfl) ?_
        refine x_get E hw kf_X8_7 0 rfl rfl dX8_goesOn_126 ?_
        refine lv_iconst (v := 4) hx hb dX8_goesOn_129 (by decide) ?_
        refine x_ld (v := v.2.2.2.2.1 3) E hw 1 rfl 4 rfl (by omega) (by decide) rfl dX8_goesOn_130 ?_
        refine lv_isub hx hb dX8_goesOn_131 ?_
        refine lv_iadd hx hb dX8_goesOn_132 ?_
        refine x_ist E hw 1 rfl 11 rfl (by omega) (by decide) (ws' := [(o 0, .inr (8, [.ref (o 1), .ref (o 2), .int (nI hs), .int bads, .int nos, .int fuls, .int cau, .int whe, .ref (o 3), .ref (o 4), .int (nI cnt), .int (nI p), .int fau, .int isw, .int ods, .ref (o 5), .ref (o 6)])), (o 1, .inl (g.2.1, 616, .inl (upd (nwF (v.1, v.2.1, v.2.2.1, v.2.2.2.1, v.2.2.2.2.1, v.2.2.2.2.2.1 + 1, nqF v.2.2.1 v.2.2.2.2.1 hd v.2.2.2.2.2, v.2.2.2.2.2.2.2.1, v.2.2.2.2.2.2.2.2.1, v.2.2.2.2.2.2.2.2.2.1, v.2.2.2.2.2.2.2.2.2.2.1, v.2.2.2.2.2.2.2.2.2.2.2.1, v.2.2.2.2.2.2.2.2.2.2.2.2 + 1)) 11 (v.2.2.2.2.2.2.2.2.1 + (1000 - v.2.2.2.2.1 3))))), (o 3, .inl (g.2.1, 201, .inl sq))]) rfl dX8_goesOn_133 (fun H locs hw => ?_)
        have hw := hw.arr (f' := (nwF (v.1, v.2.1, v.2.2.1, v.2.2.2.1, v.2.2.2.2.1, v.2.2.2.2.2.1 + 1, nqF v.2.2.1 v.2.2.2.2.1 hd v.2.2.2.2.2, v.2.2.2.2.2.2.2.1, v.2.2.2.2.2.2.2.2.1 + (1000 - v.2.2.2.2.1 3), v.2.2.2.2.2.2.2.2.2.1, v.2.2.2.2.2.2.2.2.2.2.1, v.2.2.2.2.2.2.2.2.2.2.2.1, v.2.2.2.2.2.2.2.2.2.2.2.2 + 1))) (ws' := [(o 0, .inr (8, [.ref (o 1), .ref (o 2), .int (nI hs), .int bads, .int nos, .int fuls, .int cau, .int whe, .ref (o 3), .ref (o 4), .int (nI cnt), .int (nI p), .int fau, .int isw, .int ods, .ref (o 5), .ref (o 6)])), (o 1, .inl (g.2.1, 616, .inl (nwF (v.1, v.2.1, v.2.2.1, v.2.2.2.1, v.2.2.2.2.1, v.2.2.2.2.2.1 + 1, nqF v.2.2.1 v.2.2.2.2.1 hd v.2.2.2.2.2, v.2.2.2.2.2.2.2.1, v.2.2.2.2.2.2.2.2.1 + (1000 - v.2.2.2.2.1 3), v.2.2.2.2.2.2.2.2.2.1, v.2.2.2.2.2.2.2.2.2.2.1, v.2.2.2.2.2.2.2.2.2.2.2.1, v.2.2.2.2.2.2.2.2.2.2.2.2 + 1)))), (o 3, .inl (g.2.1, 201, .inl sq))]) 1 rfl (fun j _ => nwU_11 _ _ j) rfl
        refine lv_aload_n hx hb dX8_goesOn_134 rfl (lv_at hl 2 rfl) ?_
        refine x_get E hw kf_X8_7 0 rfl rfl dX8_goesOn_135 ?_
        refine lv_bipush (v := 12) hx hb dX8_goesOn_138 (by decide) ?_
        refine lv_dup2_11 hx hb dX8_goesOn_140 rfl rfl ?_
        refine x_ld (v := v.2.2.2.2.2.2.2.2.2.1) E hw 1 rfl 12 rfl (by omega) (by decide) rfl dX8_goesOn_141 ?_
        refine lv_sipush (v := 1000) hx hb dX8_goesOn_142 (by decide) ?_
        refine lv_aload_n hx hb dX8_goesOn_145 rfl (lv_at hl 2 rfl) ?_
        refine x_get E hw kf_X8_7 0 rfl rfl dX8_goesOn_146 ?_
        refine lv_iconst (v := 4) hx hb dX8_goesOn_149 (by decide) ?_
        refine x_ld (v := v.2.2.2.2.1 3) E hw 1 rfl 4 rfl (by omega) (by decide) rfl dX8_goesOn_150 ?_
        refine lv_iadd hx hb dX8_goesOn_151 ?_
        refine lv_iadd hx hb dX8_goesOn_152 ?_
        refine x_ist E hw 1 rfl 12 rfl (by omega) (by decide) (ws' := [(o 0, .inr (8, [.ref (o 1), .ref (o 2), .int (nI hs), .int bads, .int nos, .int fuls, .int cau, .int whe, .ref (o 3), .ref (o 4), .int (nI cnt), .int (nI p), .int fau, .int isw, .int ods, .ref (o 5), .ref (o 6)])), (o 1, .inl (g.2.1, 616, .inl (upd (nwF (v.1, v.2.1, v.2.2.1, v.2.2.2.1, v.2.2.2.2.1, v.2.2.2.2.2.1 + 1, nqF v.2.2.1 v.2.2.2.2.1 hd v.2.2.2.2.2, v.2.2.2.2.2.2.2.1, v.2.2.2.2.2.2.2.2.1 + (1000 - v.2.2.2.2.1 3), v.2.2.2.2.2.2.2.2.2.1, v.2.2.2.2.2.2.2.2.2.2.1, v.2.2.2.2.2.2.2.2.2.2.2.1, v.2.2.2.2.2.2.2.2.2.2.2.2 + 1)) 12 (v.2.2.2.2.2.2.2.2.2.1 + (1000 + v.2.2.2.2.1 3))))), (o 3, .inl (g.2.1, 201, .inl sq))]) rfl dX8_goesOn_153 (fun H locs hw => ?_)
        have hw := hw.arr (f' := (nwF (v.1, v.2.1, v.2.2.1, v.2.2.2.1, v.2.2.2.2.1, v.2.2.2.2.2.1 + 1, nqF v.2.2.1 v.2.2.2.2.1 hd v.2.2.2.2.2, v.2.2.2.2.2.2.2.1, v.2.2.2.2.2.2.2.2.1 + (1000 - v.2.2.2.2.1 3), v.2.2.2.2.2.2.2.2.2.1 + (1000 + v.2.2.2.2.1 3), v.2.2.2.2.2.2.2.2.2.2.1, v.2.2.2.2.2.2.2.2.2.2.2.1, v.2.2.2.2.2.2.2.2.2.2.2.2 + 1))) (ws' := [(o 0, .inr (8, [.ref (o 1), .ref (o 2), .int (nI hs), .int bads, .int nos, .int fuls, .int cau, .int whe, .ref (o 3), .ref (o 4), .int (nI cnt), .int (nI p), .int fau, .int isw, .int ods, .ref (o 5), .ref (o 6)])), (o 1, .inl (g.2.1, 616, .inl (nwF (v.1, v.2.1, v.2.2.1, v.2.2.2.1, v.2.2.2.2.1, v.2.2.2.2.2.1 + 1, nqF v.2.2.1 v.2.2.2.2.1 hd v.2.2.2.2.2, v.2.2.2.2.2.2.2.1, v.2.2.2.2.2.2.2.2.1 + (1000 - v.2.2.2.2.1 3), v.2.2.2.2.2.2.2.2.2.1 + (1000 + v.2.2.2.2.1 3), v.2.2.2.2.2.2.2.2.2.2.1, v.2.2.2.2.2.2.2.2.2.2.2.1, v.2.2.2.2.2.2.2.2.2.2.2.2 + 1)))), (o 3, .inl (g.2.1, 201, .inl sq))]) 1 rfl (fun j _ => nwU_12 _ _ j) rfl
        refine lv_aload_n hx hb dX8_goesOn_154 rfl (lv_at hl 2 rfl) ?_
        refine x_get E hw kf_X8_7 0 rfl rfl dX8_goesOn_155 ?_
        refine lv_bipush (v := 16) hx hb dX8_goesOn_158 (by decide) ?_
        refine lv_iconst (v := 3) hx hb dX8_goesOn_160 (by decide) ?_
        refine lv_aload_n hx hb dX8_goesOn_161 rfl (lv_at hl 2 rfl) ?_
        refine x_get E hw kf_X8_7 0 rfl rfl dX8_goesOn_162 ?_
        refine lv_bipush (v := 8) hx hb dX8_goesOn_165 (by decide) ?_
        refine x_ld (v := nI (v.2.2.2.2.2.1 + 1)) E hw 1 rfl 8 rfl (by omega) (by decide) rfl dX8_goesOn_167 ?_
        refine xn_mul hx hb 3 (v.2.2.2.2.2.1 + 1) rfl rfl dX8_goesOn_168 ?_
        refine xn_add hx hb 16 (3 * (v.2.2.2.2.2.1 + 1)) rfl rfl dX8_goesOn_169 ?_
        refine lv_iconst (v := 2) hx hb dX8_goesOn_170 (by decide) ?_
        refine xn_add hx hb (16 + 3 * (v.2.2.2.2.2.1 + 1)) 2 rfl rfl dX8_goesOn_171 ?_
        refine x_ld (v := v.2.2.2.1 (v.2.2.2.2.2.1 + 1)) E hw 1 rfl (16 + 3 * (v.2.2.2.2.2.1 + 1) + 2) rfl (by omega) (by decide) (nw_be _ _) dX8_goesOn_172 ?_
        refine lv_iconst (v := 1) hx hb dX8_goesOn_173 (by decide) ?_
        refine lv_icmp_ne (tgt := 213) hx hb dX8_goesOn_174 (by decide) (fun ce => ?_) (fun ce => ?_)
        · refine lv_aload_n hx hb dX8_goesOn_213 rfl (lv_at hl 2 rfl) ?_
          refine x_go (ws' := [(o 0, .inr (8, [.ref (o 1), .ref (o 2), .int (nI hs), .int bads, .int nos, .int fuls, .int cau, .int whe, .ref (o 3), .ref (o 4), .int (nI cnt), .int (nI p), .int fau, .int isw, .int ods, .ref (o 5), .ref (o 6)])), (o 1, .inl (g.2.1, 616, .inl (nwF (trS (supT v.1 v.2.2.2.2.1 (lwQ v.2.1 v.2.2.1 (v.2.2.2.2.1 0) len v.1 0 sq) (v.2.2.2.2.2.1 + 1, nqF v.2.2.1 v.2.2.2.2.1 hd v.2.2.2.2.2, v.2.2.2.2.2.2.2.1, v.2.2.2.2.2.2.2.2.1 + (1000 - v.2.2.2.2.1 3), v.2.2.2.2.2.2.2.2.2.1 + (1000 + v.2.2.2.2.1 3), v.2.2.2.2.2.2.2.2.2.2.1, v.2.2.2.2.2.2.2.2.2.2.2.1, v.2.2.2.2.2.2.2.2.2.2.2.2 + 1)) (v.1, v.2.1, v.2.2.1, v.2.2.2.1, v.2.2.2.2.1, v.2.2.2.2.2.1 + 1, nqF v.2.2.1 v.2.2.2.2.1 hd v.2.2.2.2.2, v.2.2.2.2.2.2.2.1, v.2.2.2.2.2.2.2.2.1 + (1000 - v.2.2.2.2.1 3), v.2.2.2.2.2.2.2.2.2.1 + (1000 + v.2.2.2.2.1 3), v.2.2.2.2.2.2.2.2.2.2.1, v.2.2.2.2.2.2.2.2.2.2.2.1, v.2.2.2.2.2.2.2.2.2.2.2.2 + 1))))), (o 3, .inl (g.2.1, 201, .inl (if v.2.2.2.2.2.2.2.1 = 3 then sq else lwQ v.2.1 v.2.2.1 (v.2.2.2.2.1 0) len v.1 0 sq)))]) (st1 := []) E hw [0, 1, 2] rfl (x_runV (rest := []) E hw (c_X8_supervises l g o hs bads nos fuls cau whe cnt p fau isw ods (v.1, v.2.1, v.2.2.1, v.2.2.2.1, v.2.2.2.2.1, v.2.2.2.2.2.1 + 1, nqF v.2.2.1 v.2.2.2.2.1 hd v.2.2.2.2.2, v.2.2.2.2.2.2.2.1, v.2.2.2.2.2.2.2.2.1 + (1000 - v.2.2.2.2.1 3), v.2.2.2.2.2.2.2.2.2.1 + (1000 + v.2.2.2.2.1 3), v.2.2.2.2.2.2.2.2.2.2.1, v.2.2.2.2.2.2.2.2.2.2.2.1, v.2.2.2.2.2.2.2.2.2.2.2.2 + 1) sq len yq hL1 hL hlen (by omega) (by omega) hQs (hqy cq) hyq) km_X8_128 kv_X8_supervises [0, 1, 2] rfl (by decide) 0 rfl hl.1 rfl rfl (Nat.le_of_ble_eq_true rfl) ⟨Nat.le_of_ble_eq_true rfl, Nat.le_of_ble_eq_true rfl⟩ ⟨Nat.zero_le _, Nat.zero_le _⟩ dX8_goesOn_214) rfl rfl rfl (fun H locs hw => ?_)
          refine lv_iload_n hx hb dX8_goesOn_217 rfl (lv_at hl 0 rfl) ?_
          exact xr_z hQ E hr hw dX8_goesOn_218 (by decide) ⟨congrArg (fun z => some (Value.int z)) ((bI_t ⟨cq, cf⟩).symm), (by rw [show stpT v.1 v.2.2.1 v.2.2.2.1 v.2.2.2.2.1 (lwQ v.2.1 v.2.2.1 (v.2.2.2.2.1 0) len v.1 0 sq) hd v.2.2.2.2.2 = _ from stpT_go ⟨cq, cf⟩, goT, if_neg ce, if_neg ce] <;> rfl)⟩
        · refine lv_aload_n hx hb dX8_goesOn_177 rfl (lv_at hl 2 rfl) ?_
          refine x_get E hw kf_X8_7 0 rfl rfl dX8_goesOn_178 ?_
          refine lv_bipush (v := 11) hx hb dX8_goesOn_181 (by decide) ?_
          refine lv_sipush (v := 1000) hx hb dX8_goesOn_183 (by decide) ?_
          refine lv_aload_n hx hb dX8_goesOn_186 rfl (lv_at hl 2 rfl) ?_
          refine x_get E hw kf_X8_7 0 rfl rfl dX8_goesOn_187 ?_
          refine lv_bipush (v := 8) hx hb dX8_goesOn_190 (by decide) ?_
          refine x_ld (v := nI (v.2.2.2.2.2.1 + 1)) E hw 1 rfl 8 rfl (by omega) (by decide) rfl dX8_goesOn_192 ?_
          refine xn_mul hx hb 1000 (v.2.2.2.2.2.1 + 1) rfl rfl dX8_goesOn_193 ?_
          refine x_ist E hw 1 rfl 11 rfl (by omega) (by decide) (ws' := [(o 0, .inr (8, [.ref (o 1), .ref (o 2), .int (nI hs), .int bads, .int nos, .int fuls, .int cau, .int whe, .ref (o 3), .ref (o 4), .int (nI cnt), .int (nI p), .int fau, .int isw, .int ods, .ref (o 5), .ref (o 6)])), (o 1, .inl (g.2.1, 616, .inl (upd (nwF (v.1, v.2.1, v.2.2.1, v.2.2.2.1, v.2.2.2.2.1, v.2.2.2.2.2.1 + 1, nqF v.2.2.1 v.2.2.2.2.1 hd v.2.2.2.2.2, v.2.2.2.2.2.2.2.1, v.2.2.2.2.2.2.2.2.1 + (1000 - v.2.2.2.2.1 3), v.2.2.2.2.2.2.2.2.2.1 + (1000 + v.2.2.2.2.1 3), v.2.2.2.2.2.2.2.2.2.2.1, v.2.2.2.2.2.2.2.2.2.2.2.1, v.2.2.2.2.2.2.2.2.2.2.2.2 + 1)) 11 (nI (1000 * (v.2.2.2.2.2.1 + 1)))))), (o 3, .inl (g.2.1, 201, .inl sq))]) rfl dX8_goesOn_194 (fun H locs hw => ?_)
          have hw := hw.arr (f' := (nwF (v.1, v.2.1, v.2.2.1, v.2.2.2.1, v.2.2.2.2.1, v.2.2.2.2.2.1 + 1, nqF v.2.2.1 v.2.2.2.2.1 hd v.2.2.2.2.2, v.2.2.2.2.2.2.2.1, nI (1000 * (v.2.2.2.2.2.1 + 1)), v.2.2.2.2.2.2.2.2.2.1 + (1000 + v.2.2.2.2.1 3), v.2.2.2.2.2.2.2.2.2.2.1, v.2.2.2.2.2.2.2.2.2.2.2.1, v.2.2.2.2.2.2.2.2.2.2.2.2 + 1))) (ws' := [(o 0, .inr (8, [.ref (o 1), .ref (o 2), .int (nI hs), .int bads, .int nos, .int fuls, .int cau, .int whe, .ref (o 3), .ref (o 4), .int (nI cnt), .int (nI p), .int fau, .int isw, .int ods, .ref (o 5), .ref (o 6)])), (o 1, .inl (g.2.1, 616, .inl (nwF (v.1, v.2.1, v.2.2.1, v.2.2.2.1, v.2.2.2.2.1, v.2.2.2.2.2.1 + 1, nqF v.2.2.1 v.2.2.2.2.1 hd v.2.2.2.2.2, v.2.2.2.2.2.2.2.1, nI (1000 * (v.2.2.2.2.2.1 + 1)), v.2.2.2.2.2.2.2.2.2.1 + (1000 + v.2.2.2.2.1 3), v.2.2.2.2.2.2.2.2.2.2.1, v.2.2.2.2.2.2.2.2.2.2.2.1, v.2.2.2.2.2.2.2.2.2.2.2.2 + 1)))), (o 3, .inl (g.2.1, 201, .inl sq))]) 1 rfl (fun j _ => nwU_11 _ _ j) rfl
          refine lv_aload_n hx hb dX8_goesOn_195 rfl (lv_at hl 2 rfl) ?_
          refine x_get E hw kf_X8_7 0 rfl rfl dX8_goesOn_196 ?_
          refine lv_bipush (v := 12) hx hb dX8_goesOn_199 (by decide) ?_
          refine lv_sipush (v := 1000) hx hb dX8_goesOn_201 (by decide) ?_
          refine lv_aload_n hx hb dX8_goesOn_204 rfl (lv_at hl 2 rfl) ?_
          refine x_get E hw kf_X8_7 0 rfl rfl dX8_goesOn_205 ?_
          refine lv_bipush (v := 8) hx hb dX8_goesOn_208 (by decide) ?_
          refine x_ld (v := nI (v.2.2.2.2.2.1 + 1)) E hw 1 rfl 8 rfl (by omega) (by decide) rfl dX8_goesOn_210 ?_
          refine xn_mul hx hb 1000 (v.2.2.2.2.2.1 + 1) rfl rfl dX8_goesOn_211 ?_
          refine x_ist E hw 1 rfl 12 rfl (by omega) (by decide) (ws' := [(o 0, .inr (8, [.ref (o 1), .ref (o 2), .int (nI hs), .int bads, .int nos, .int fuls, .int cau, .int whe, .ref (o 3), .ref (o 4), .int (nI cnt), .int (nI p), .int fau, .int isw, .int ods, .ref (o 5), .ref (o 6)])), (o 1, .inl (g.2.1, 616, .inl (upd (nwF (v.1, v.2.1, v.2.2.1, v.2.2.2.1, v.2.2.2.2.1, v.2.2.2.2.2.1 + 1, nqF v.2.2.1 v.2.2.2.2.1 hd v.2.2.2.2.2, v.2.2.2.2.2.2.2.1, nI (1000 * (v.2.2.2.2.2.1 + 1)), v.2.2.2.2.2.2.2.2.2.1 + (1000 + v.2.2.2.2.1 3), v.2.2.2.2.2.2.2.2.2.2.1, v.2.2.2.2.2.2.2.2.2.2.2.1, v.2.2.2.2.2.2.2.2.2.2.2.2 + 1)) 12 (nI (1000 * (v.2.2.2.2.2.1 + 1)))))), (o 3, .inl (g.2.1, 201, .inl sq))]) rfl dX8_goesOn_212 (fun H locs hw => ?_)
          have hw := hw.arr (f' := (nwF (v.1, v.2.1, v.2.2.1, v.2.2.2.1, v.2.2.2.2.1, v.2.2.2.2.2.1 + 1, nqF v.2.2.1 v.2.2.2.2.1 hd v.2.2.2.2.2, v.2.2.2.2.2.2.2.1, nI (1000 * (v.2.2.2.2.2.1 + 1)), nI (1000 * (v.2.2.2.2.2.1 + 1)), v.2.2.2.2.2.2.2.2.2.2.1, v.2.2.2.2.2.2.2.2.2.2.2.1, v.2.2.2.2.2.2.2.2.2.2.2.2 + 1))) (ws' := [(o 0, .inr (8, [.ref (o 1), .ref (o 2), .int (nI hs), .int bads, .int nos, .int fuls, .int cau, .int whe, .ref (o 3), .ref (o 4), .int (nI cnt), .int (nI p), .int fau, .int isw, .int ods, .ref (o 5), .ref (o 6)])), (o 1, .inl (g.2.1, 616, .inl (nwF (v.1, v.2.1, v.2.2.1, v.2.2.2.1, v.2.2.2.2.1, v.2.2.2.2.2.1 + 1, nqF v.2.2.1 v.2.2.2.2.1 hd v.2.2.2.2.2, v.2.2.2.2.2.2.2.1, nI (1000 * (v.2.2.2.2.2.1 + 1)), nI (1000 * (v.2.2.2.2.2.1 + 1)), v.2.2.2.2.2.2.2.2.2.2.1, v.2.2.2.2.2.2.2.2.2.2.2.1, v.2.2.2.2.2.2.2.2.2.2.2.2 + 1)))), (o 3, .inl (g.2.1, 201, .inl sq))]) 1 rfl (fun j _ => nwU_12 _ _ j) rfl
          refine lv_aload_n hx hb dX8_goesOn_213 rfl (lv_at hl 2 rfl) ?_
          refine x_go (ws' := [(o 0, .inr (8, [.ref (o 1), .ref (o 2), .int (nI hs), .int bads, .int nos, .int fuls, .int cau, .int whe, .ref (o 3), .ref (o 4), .int (nI cnt), .int (nI p), .int fau, .int isw, .int ods, .ref (o 5), .ref (o 6)])), (o 1, .inl (g.2.1, 616, .inl (nwF (trS (supT v.1 v.2.2.2.2.1 (lwQ v.2.1 v.2.2.1 (v.2.2.2.2.1 0) len v.1 0 sq) (v.2.2.2.2.2.1 + 1, nqF v.2.2.1 v.2.2.2.2.1 hd v.2.2.2.2.2, v.2.2.2.2.2.2.2.1, nI (1000 * (v.2.2.2.2.2.1 + 1)), nI (1000 * (v.2.2.2.2.2.1 + 1)), v.2.2.2.2.2.2.2.2.2.2.1, v.2.2.2.2.2.2.2.2.2.2.2.1, v.2.2.2.2.2.2.2.2.2.2.2.2 + 1)) (v.1, v.2.1, v.2.2.1, v.2.2.2.1, v.2.2.2.2.1, v.2.2.2.2.2.1 + 1, nqF v.2.2.1 v.2.2.2.2.1 hd v.2.2.2.2.2, v.2.2.2.2.2.2.2.1, nI (1000 * (v.2.2.2.2.2.1 + 1)), nI (1000 * (v.2.2.2.2.2.1 + 1)), v.2.2.2.2.2.2.2.2.2.2.1, v.2.2.2.2.2.2.2.2.2.2.2.1, v.2.2.2.2.2.2.2.2.2.2.2.2 + 1))))), (o 3, .inl (g.2.1, 201, .inl (if v.2.2.2.2.2.2.2.1 = 3 then sq else lwQ v.2.1 v.2.2.1 (v.2.2.2.2.1 0) len v.1 0 sq)))]) (st1 := []) E hw [0, 1, 2] rfl (x_runV (rest := []) E hw (c_X8_supervises l g o hs bads nos fuls cau whe cnt p fau isw ods (v.1, v.2.1, v.2.2.1, v.2.2.2.1, v.2.2.2.2.1, v.2.2.2.2.2.1 + 1, nqF v.2.2.1 v.2.2.2.2.1 hd v.2.2.2.2.2, v.2.2.2.2.2.2.2.1, nI (1000 * (v.2.2.2.2.2.1 + 1)), nI (1000 * (v.2.2.2.2.2.1 + 1)), v.2.2.2.2.2.2.2.2.2.2.1, v.2.2.2.2.2.2.2.2.2.2.2.1, v.2.2.2.2.2.2.2.2.2.2.2.2 + 1) sq len yq hL1 hL hlen (by omega) (by omega) hQs (hqy cq) hyq) km_X8_128 kv_X8_supervises [0, 1, 2] rfl (by decide) 0 rfl hl.1 rfl rfl (Nat.le_of_ble_eq_true rfl) ⟨Nat.le_of_ble_eq_true rfl, Nat.le_of_ble_eq_true rfl⟩ ⟨Nat.zero_le _, Nat.zero_le _⟩ dX8_goesOn_214) rfl rfl rfl (fun H locs hw => ?_)
          refine lv_iload_n hx hb dX8_goesOn_217 rfl (lv_at hl 0 rfl) ?_
          exact xr_z hQ E hr hw dX8_goesOn_218 (by decide) ⟨congrArg (fun z => some (Value.int z)) ((bI_t ⟨cq, cf⟩).symm), (by rw [show stpT v.1 v.2.2.1 v.2.2.2.1 v.2.2.2.2.1 (lwQ v.2.1 v.2.2.1 (v.2.2.2.2.1 0) len v.1 0 sq) hd v.2.2.2.2.2 = _ from stpT_go ⟨cq, cf⟩, goT, if_pos ce, if_pos ce] <;> rfl)⟩

set_option maxRecDepth 100000 in
set_option maxHeartbeats 4000000 in
theorem c_X8_handle (l : Launch) (g : xCfg) (o : Nat → Nat) (hs : Nat) (bads : Int32) (nos : Int32) (fuls : Int32) (cau : Int32) (whe : Int32) (cnt : Nat) (p : Nat) (fau : Int32) (isw : Int32) (ods : Int32) (v : SV) (sq : Nat → Int32) (len : Nat) (hL1 : 1 ≤ v.1) (hL : v.1 ≤ 200) (hlen : v.2.2.2.2.1 2 = nI len) (hl1 : 1 ≤ len) (hl2 : len ≤ 30) (hf : v.2.2.2.2.2.1 < 200) : Ct l g yX8_handle cX8_handle 4 (some .int) (xR 4 91) [.ref (o 0)] [(o 0, .inr (8, [.ref (o 1), .ref (o 2), .int (nI hs), .int bads, .int nos, .int fuls, .int cau, .int whe, .ref (o 3), .ref (o 4), .int (nI cnt), .int (nI p), .int fau, .int isw, .int ods, .ref (o 5), .ref (o 6)])), (o 1, .inl (g.2.1, 616, .inl (nwF v))), (o 3, .inl (g.2.1, 201, .inl sq))] (is1 (some (.int (drvH v.1 v.2.2.1 v.2.2.2.2.1 (lwQ v.2.1 v.2.2.1 (v.2.2.2.2.1 0) len v.1 0 sq) v.2.2.2.2.2))) [(o 0, .inr (8, [.ref (o 1), .ref (o 2), .int (nI hs), .int bads, .int nos, .int fuls, .int cau, .int whe, .ref (o 3), .ref (o 4), .int (nI cnt), .int (nI p), .int fau, .int isw, .int ods, .ref (o 5), .ref (o 6)])), (o 1, .inl (g.2.1, 616, .inl (nwF v))), (o 3, .inl (g.2.1, 201, .inl (lwQ v.2.1 v.2.2.1 (v.2.2.2.2.1 0) len v.1 0 sq)))]) := by
  refine Ct.walk (by decide) (Nat.le_of_ble_eq_true rfl) ?_
  intro p0 e0 s0 m0 below meth c0 A0 ls Q hQ E hr hnm hw hl
  have hx := E.x
  have hb := E.b
  have hl : lv_has ls 4 [(0, .ref (o 0))] := hl
  refine lv_aload_n hx hb dX8_handle_0 rfl (lv_at hl 0 rfl) ?_
  refine lv_aload_n hx hb dX8_handle_1 rfl (lv_at hl 0 rfl) ?_
  refine x_goR (st1 := [.int (nI (kpt v.1 ((v.2.2.2.2.2.2.2.2.2.1 + 999) / 1000))), .ref (o 0)]) E hw [0, 1] rfl (x_runV (rest := [.ref (o 0)]) E hw (c_X8_last l g o hs bads nos fuls cau whe cnt p fau isw ods v (by omega) (by omega)) km_X8_116 kv_X8_last [0, 1] rfl (by decide) 0 rfl hl.1 rfl rfl (Nat.le_of_ble_eq_true rfl) ⟨Nat.le_of_ble_eq_true rfl, Nat.le_of_ble_eq_true rfl⟩ ⟨Nat.zero_le _, Nat.zero_le _⟩ dX8_handle_2) rfl (fun H locs hw => ?_)
  refine lv_iconst (v := 1) hx hb dX8_handle_5 (by decide) ?_
  refine xn_add hx hb (kpt v.1 ((v.2.2.2.2.2.2.2.2.2.1 + 999) / 1000)) 1 rfl rfl dX8_handle_6 ?_
  refine x_goR (st1 := [.int (nI (kpt v.1 (nI (kpt v.1 ((v.2.2.2.2.2.2.2.2.2.1 + 999) / 1000) + 1))))]) E hw [0, 1] rfl (x_runV (rest := []) E hw (c_X8_cellAt l g o hs bads nos fuls cau whe cnt p fau isw ods v (nI (kpt v.1 ((v.2.2.2.2.2.2.2.2.2.1 + 999) / 1000) + 1)) (by omega) (by omega)) km_X8_110 kv_X8_cellAt [0, 1] rfl (by decide) 0 rfl hl.1 rfl rfl (Nat.le_of_ble_eq_true rfl) ⟨Nat.le_of_ble_eq_true rfl, Nat.le_of_ble_eq_true rfl⟩ ⟨Nat.zero_le _, Nat.zero_le _⟩ dX8_handle_7) rfl (fun H locs hw => ?_)
  refine x_top (v' := .int (nI (min (kpt v.1 ((v.2.2.2.2.2.2.2.2.2.1 + 999) / 1000) + 1) (v.1 - 1)))) (congrArg Value.int (congrArg nI (kpt_n hL1 hL (kpt_lt hL1 hL)))) ?_
  refine lv_istore_n (lv' := [(1, .int (nI (min (kpt v.1 ((v.2.2.2.2.2.2.2.2.2.1 + 999) / 1000) + 1) (v.1 - 1)))), (0, .ref (o 0))]) hx hb dX8_handle_10 rfl hl (by decide) rfl (fun ls hl => ?_)
  refine lv_aload_n hx hb dX8_handle_11 rfl (lv_at hl 1 rfl) ?_
  refine lv_aload_n hx hb dX8_handle_12 rfl (lv_at hl 1 rfl) ?_
  refine x_goR (st1 := [.int (nI (kpt v.1 (v.2.2.2.2.2.2.2.2.1 / 1000))), .ref (o 0)]) E hw [0, 1] rfl (x_runV (rest := [.ref (o 0)]) E hw (c_X8_first l g o hs bads nos fuls cau whe cnt p fau isw ods v (by omega) (by omega)) km_X8_113 kv_X8_first [0, 1] rfl (by decide) 0 rfl hl.1 rfl rfl (Nat.le_of_ble_eq_true rfl) ⟨Nat.le_of_ble_eq_true rfl, Nat.le_of_ble_eq_true rfl⟩ ⟨Nat.zero_le _, Nat.zero_le _⟩ dX8_handle_13) rfl (fun H locs hw => ?_)
  refine lv_iload_n hx hb dX8_handle_16 rfl (lv_at hl 0 rfl) ?_
  refine x_go (ws' := [(o 0, .inr (8, [.ref (o 1), .ref (o 2), .int (nI hs), .int bads, .int nos, .int fuls, .int cau, .int whe, .ref (o 3), .ref (o 4), .int (nI cnt), .int (nI p), .int fau, .int isw, .int ods, .ref (o 5), .ref (o 6)])), (o 1, .inl (g.2.1, 616, .inl (nwF v))), (o 3, .inl (g.2.1, 201, .inl (lwQ v.2.1 v.2.2.1 (v.2.2.2.2.1 0) len v.1 0 sq)))]) (st1 := [.int (lsq (lwQ v.2.1 v.2.2.1 (v.2.2.2.2.1 0) len v.1 0 sq) (kpt v.1 (v.2.2.2.2.2.2.2.2.1 / 1000)) ((min (kpt v.1 ((v.2.2.2.2.2.2.2.2.2.1 + 999) / 1000) + 1) (v.1 - 1)) - (kpt v.1 (v.2.2.2.2.2.2.2.2.1 / 1000))))]) E hw [0, 1, 2] rfl (x_runV (rest := []) E hw (c_X8_leastOf l g o hs bads nos fuls cau whe cnt p fau isw ods v sq len (kpt v.1 (v.2.2.2.2.2.2.2.2.1 / 1000)) (min (kpt v.1 ((v.2.2.2.2.2.2.2.2.2.1 + 999) / 1000) + 1) (v.1 - 1)) (by omega) (by omega) hlen (by omega) (by omega) (kpt_lt hL1 hL) (by have := Nat.min_le_right (kpt v.1 ((v.2.2.2.2.2.2.2.2.2.1 + 999) / 1000) + 1) (v.1 - 1); omega)) km_X8_119 kv_X8_leastOf [0, 1, 2] rfl (by decide) 0 rfl hl.1 rfl rfl (Nat.le_of_ble_eq_true rfl) ⟨Nat.le_of_ble_eq_true rfl, Nat.le_of_ble_eq_true rfl⟩ ⟨Nat.zero_le _, Nat.zero_le _⟩ dX8_handle_17) rfl rfl rfl (fun H locs hw => ?_)
  refine x_top (v' := .int (mostF v.1 (lwQ v.2.1 v.2.2.1 (v.2.2.2.2.1 0) len v.1 0 sq) v.2.2.2.2.2)) rfl ?_
  refine lv_istore_n (lv' := [(2, .int (mostF v.1 (lwQ v.2.1 v.2.2.1 (v.2.2.2.2.1 0) len v.1 0 sq) v.2.2.2.2.2)), (1, .int (nI (min (kpt v.1 ((v.2.2.2.2.2.2.2.2.2.1 + 999) / 1000) + 1) (v.1 - 1)))), (0, .ref (o 0))]) hx hb dX8_handle_20 rfl hl (by decide) rfl (fun ls hl => ?_)
  refine lv_iconst (v := 1) hx hb dX8_handle_21 (by decide) ?_
  refine lv_istore_n (lv' := [(3, .int 1), (2, .int (mostF v.1 (lwQ v.2.1 v.2.2.1 (v.2.2.2.2.1 0) len v.1 0 sq) v.2.2.2.2.2)), (1, .int (nI (min (kpt v.1 ((v.2.2.2.2.2.2.2.2.2.1 + 999) / 1000) + 1) (v.1 - 1)))), (0, .ref (o 0))]) hx hb dX8_handle_22 rfl hl (by decide) rfl (fun ls hl => ?_)
  refine lv_iload_n hx hb dX8_handle_23 rfl (lv_at hl 0 rfl) ?_
  refine lv_iconst (v := -1) hx hb dX8_handle_24 (by decide) ?_
  refine lv_icmp_le (tgt := 54) hx hb dX8_handle_25 (by decide) (fun h => absurd h (by decide)) (fun _ => ?_)
  refine lv_aload_n hx hb dX8_handle_28 rfl (lv_at hl 3 rfl) ?_
  refine x_get E hw kf_X8_7 0 rfl rfl dX8_handle_29 ?_
  refine lv_bipush (v := 9) hx hb dX8_handle_32 (by decide) ?_
  refine x_ld (v := v.2.2.2.2.2.2.1) E hw 1 rfl 9 rfl (by omega) (by decide) rfl dX8_handle_34 ?_
  refine lv_aload_n hx hb dX8_handle_35 rfl (lv_at hl 3 rfl) ?_
  refine lv_iconst (v := 0) hx hb dX8_handle_36 (by decide) ?_
  refine lv_iload_n hx hb dX8_handle_37 rfl (lv_at hl 0 rfl) ?_
  refine x_goR (st1 := [.int (gnF 0 1 (v.2.2.2.2.1 0) (v.2.2.2.2.1 1) (v.2.2.1 v.2.2.2.2.2.1)), .int v.2.2.2.2.2.2.1]) E hw [0, 1] rfl (x_runV (rest := [.int v.2.2.2.2.2.2.1]) E hw (c_X8_gainOf l g o hs bads nos fuls cau whe cnt p fau isw ods v 0 1 (by omega)) km_X8_125 kv_X8_gainOf [0, 1] rfl (by decide) 0 rfl hl.1 rfl rfl (Nat.le_of_ble_eq_true rfl) ⟨Nat.le_of_ble_eq_true rfl, Nat.le_of_ble_eq_true rfl⟩ ⟨Nat.zero_le _, Nat.zero_le _⟩ dX8_handle_38) rfl (fun H locs hw => ?_)
  refine lv_iadd hx hb dX8_handle_41 ?_
  refine lv_iload_n hx hb dX8_handle_42 rfl (lv_at hl 1 rfl) ?_
  refine lv_icmp_gt (tgt := 48) hx hb dX8_handle_43 (by decide) (fun c_2 => ?_) (fun c_2 => ?_)
  · refine lv_iinc (v := 0) (lv' := [(3, .int 0), (2, .int (mostF v.1 (lwQ v.2.1 v.2.2.1 (v.2.2.2.2.1 0) len v.1 0 sq) v.2.2.2.2.2)), (1, .int (nI (min (kpt v.1 ((v.2.2.2.2.2.2.2.2.2.1 + 999) / 1000) + 1) (v.1 - 1)))), (0, .ref (o 0))]) hx hb dX8_handle_48 hl (k := 0) rfl (by decide) (by decide) rfl (fun ls hl => ?_)
    refine lv_goto (tgt := 23) hx hb dX8_handle_51 (by decide) ?_
    refine lv_iload_n hx hb dX8_handle_23 rfl (lv_at hl 0 rfl) ?_
    refine lv_iconst (v := -1) hx hb dX8_handle_24 (by decide) ?_
    refine lv_icmp_le (tgt := 54) hx hb dX8_handle_25 (by decide) (fun h => absurd h (by decide)) (fun _ => ?_)
    refine lv_aload_n hx hb dX8_handle_28 rfl (lv_at hl 3 rfl) ?_
    refine x_get E hw kf_X8_7 0 rfl rfl dX8_handle_29 ?_
    refine lv_bipush (v := 9) hx hb dX8_handle_32 (by decide) ?_
    refine x_ld (v := v.2.2.2.2.2.2.1) E hw 1 rfl 9 rfl (by omega) (by decide) rfl dX8_handle_34 ?_
    refine lv_aload_n hx hb dX8_handle_35 rfl (lv_at hl 3 rfl) ?_
    refine lv_iconst (v := 0) hx hb dX8_handle_36 (by decide) ?_
    refine lv_iload_n hx hb dX8_handle_37 rfl (lv_at hl 0 rfl) ?_
    refine x_goR (st1 := [.int (gnF 0 0 (v.2.2.2.2.1 0) (v.2.2.2.2.1 1) (v.2.2.1 v.2.2.2.2.2.1)), .int v.2.2.2.2.2.2.1]) E hw [0, 1] rfl (x_runV (rest := [.int v.2.2.2.2.2.2.1]) E hw (c_X8_gainOf l g o hs bads nos fuls cau whe cnt p fau isw ods v 0 0 (by omega)) km_X8_125 kv_X8_gainOf [0, 1] rfl (by decide) 0 rfl hl.1 rfl rfl (Nat.le_of_ble_eq_true rfl) ⟨Nat.le_of_ble_eq_true rfl, Nat.le_of_ble_eq_true rfl⟩ ⟨Nat.zero_le _, Nat.zero_le _⟩ dX8_handle_38) rfl (fun H locs hw => ?_)
    refine lv_iadd hx hb dX8_handle_41 ?_
    refine lv_iload_n hx hb dX8_handle_42 rfl (lv_at hl 1 rfl) ?_
    refine lv_icmp_gt (tgt := 48) hx hb dX8_handle_43 (by decide) (fun c_4 => ?_) (fun c_4 => ?_)
    · refine lv_iinc (v := -1) (lv' := [(3, .int (-1)), (2, .int (mostF v.1 (lwQ v.2.1 v.2.2.1 (v.2.2.2.2.1 0) len v.1 0 sq) v.2.2.2.2.2)), (1, .int (nI (min (kpt v.1 ((v.2.2.2.2.2.2.2.2.2.1 + 999) / 1000) + 1) (v.1 - 1)))), (0, .ref (o 0))]) hx hb dX8_handle_48 hl (k := 0) rfl (by decide) (by decide) rfl (fun ls hl => ?_)
      refine lv_goto (tgt := 23) hx hb dX8_handle_51 (by decide) ?_
      refine lv_iload_n hx hb dX8_handle_23 rfl (lv_at hl 0 rfl) ?_
      refine lv_iconst (v := -1) hx hb dX8_handle_24 (by decide) ?_
      refine lv_icmp_le (tgt := 54) hx hb dX8_handle_25 (by decide) (fun _ => ?_) (fun h => absurd h (by decide))
      refine lv_iconst (v := -1) hx hb dX8_handle_54 (by decide) ?_
      exact xr_i hQ E hr hw dX8_handle_55 ⟨congrArg (fun z => some (Value.int z)) (by simp only [drvH, if_pos c_2, if_pos c_4]), rfl⟩
    · refine lv_iload_n hx hb dX8_handle_46 rfl (lv_at hl 0 rfl) ?_
      exact xr_i hQ E hr hw dX8_handle_47 ⟨congrArg (fun z => some (Value.int z)) (by simp only [drvH, if_pos c_2, if_neg c_4]), rfl⟩
  · refine lv_iload_n hx hb dX8_handle_46 rfl (lv_at hl 0 rfl) ?_
    exact xr_i hQ E hr hw dX8_handle_47 ⟨congrArg (fun z => some (Value.int z)) (by simp only [drvH, if_neg c_2]), rfl⟩
