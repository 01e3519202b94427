
theorem isDone_nn {L : Nat} (h : L < 2 ^ 31) : ¬ nI L ≤ -1000 := fun z => absurd (Int32.lt_of_le_of_lt z (by decide : (-1000 : Int32) < 0)) (nI_pos h)
/-- copied out of the last row -/
def lvF (P : Nat → SV) (i k : Nat) : Nat → Int32 := fun j => if 616 * i ≤ j ∧ j < 616 * i + k then nwF (P 6) (j - 616 * i) else pF P j
theorem lvF_0 (P : Nat → SV) (i j : Nat) : lvF P i 0 j = pF P j := if_neg (by omega)
theorem lvF_r (P : Nat → SV) {i k : Nat} (hi : i < 6) (hk : k < 616) : lvF P i k (3696 + k) = nwF (P 6) k := by
  unfold lvF
  rw [if_neg (by omega), show 3696 + k = 616 * 6 + k by omega]
  exact pF_at P hk
theorem lvF_s (P : Nat → SV) (i k j : Nat) : upd (lvF P i k) (616 * i + k) (nwF (P 6) k) j = lvF P i (k + 1) j := by
  unfold upd lvF
  by_cases h : j = 616 * i + k
  · rw [if_pos h, if_pos (by omega), show j - 616 * i = k by omega]
  · rw [if_neg h]
    by_cases h2 : 616 * i ≤ j ∧ j < 616 * i + k
    · rw [if_pos h2, if_pos (by omega)]
    · rw [if_neg h2, if_neg (by omega)]
theorem lvF_e (P : Nat → SV) (i j : Nat) : lvF P i 616 j = pF (va_up P i (P 6)) j := kpF_e P (P 6) i j
def lvP (P : Nat → SV) (hs : Nat) : Nat → SV := if hs = 6 then va_up (shP P) 5 (P 6) else va_up P hs (P 6)

set_option maxRecDepth 100000 in
set_option maxHeartbeats 4000000 in
theorem c_X8_reads (l : Launch) (g : xCfg) (o : Nat → Nat) (hs : Nat) (bads : Int32) (nos : Int32) (fuls : Int32) (cau : Int32) (whe : Int32) (cnt : Nat) (p : Nat) (fau : Int32) (isw : Int32) (ods : Int32) (tx : Nat → Int32) (wo : Nat → Int32) (nu : Nat → Int32) (hc : cnt ≤ 120) : Ct l g yX8_reads cX8_reads 2 (some .boolean) (xR 4 92) [.ref (o 0)] [(o 0, .inr (8, [.ref (o 1), .ref (o 2), .int (nI hs), .int bads, .int nos, .int fuls, .int cau, .int whe, .ref (o 3), .ref (o 4), .int (nI cnt), .int (nI p), .int fau, .int isw, .int ods, .ref (o 5), .ref (o 6)])), (o 4, .inl (g.2.1, 120, .inl tx)), (o 5, .inl (g.2.1, 24, .inl wo)), (o 6, .inl (g.2.1, 72, .inl nu))] (is1 (some (.int (bI ((rrR tx cnt 25 0 (skB tx (cnt - 0) 0) wo nu fau 0).1 = true)))) [(o 0, .inr (8, [.ref (o 1), .ref (o 2), .int (nI hs), .int bads, .int nos, .int fuls, .int cau, .int whe, .ref (o 3), .ref (o 4), .int (nI cnt), .int (nI ((rrR tx cnt 25 0 (skB tx (cnt - 0) 0) wo nu fau 0).2.1)), .int ((rrR tx cnt 25 0 (skB tx (cnt - 0) 0) wo nu fau 0).2.2.2.2.1), .int ((rrR tx cnt 25 0 (skB tx (cnt - 0) 0) wo nu fau 0).2.2.2.2.2.1), .int (nI ((rrR tx cnt 25 0 (skB tx (cnt - 0) 0) wo nu fau 0).2.2.2.2.2.2)), .ref (o 5), .ref (o 6)])), (o 4, .inl (g.2.1, 120, .inl tx)), (o 5, .inl (g.2.1, 24, .inl ((rrR tx cnt 25 0 (skB tx (cnt - 0) 0) wo nu fau 0).2.2.1))), (o 6, .inl (g.2.1, 72, .inl ((rrR tx cnt 25 0 (skB tx (cnt - 0) 0) wo nu fau 0).2.2.2.1)))]) := by
  refine Ct.walk (by decide) (Nat.le_of_ble_eq_true rfl) ?_
  intro p0 e0 s0 m0 below meth c0 A0 ls Q hQ E hr hnm hw hl
  have hx := E.x
  have hb := E.b
  have hl : lv_has ls 2 [(0, .ref (o 0))] := hl
  refine lv_aload_n hx hb dX8_reads_0 rfl (lv_at hl 0 rfl) ?_
  refine lv_iconst (v := 0) hx hb dX8_reads_1 (by decide) ?_
  refine x_put E hw kf_X8_149 kp_X8_11 0 rfl (ty := .int) (by decide +kernel) rfl rfl (by simp) (ws' := [(o 0, .inr (8, [.ref (o 1), .ref (o 2), .int (nI hs), .int bads, .int nos, .int fuls, .int cau, .int whe, .ref (o 3), .ref (o 4), .int (nI cnt), .int 0, .int fau, .int isw, .int ods, .ref (o 5), .ref (o 6)])), (o 4, .inl (g.2.1, 120, .inl tx)), (o 5, .inl (g.2.1, 24, .inl wo)), (o 6, .inl (g.2.1, 72, .inl nu))]) rfl dX8_reads_2 (fun H locs hw => ?_)
  refine lv_aload_n hx hb dX8_reads_5 rfl (lv_at hl 0 rfl) ?_
  refine lv_iconst (v := 0) hx hb dX8_reads_6 (by decide) ?_
  refine x_put E hw kf_X8_179 kp_X8_14 0 rfl (ty := .int) (by decide +kernel) rfl rfl (by simp) (ws' := [(o 0, .inr (8, [.ref (o 1), .ref (o 2), .int (nI hs), .int bads, .int nos, .int fuls, .int cau, .int whe, .ref (o 3), .ref (o 4), .int (nI cnt), .int 0, .int fau, .int isw, .int 0, .ref (o 5), .ref (o 6)])), (o 4, .inl (g.2.1, 120, .inl tx)), (o 5, .inl (g.2.1, 24, .inl wo)), (o 6, .inl (g.2.1, 72, .inl nu))]) rfl dX8_reads_7 (fun H locs hw => ?_)
  refine lv_aload_n hx hb dX8_reads_10 rfl (lv_at hl 0 rfl) ?_
  refine lv_iconst (v := 0) hx hb dX8_reads_11 (by decide) ?_
  refine x_put E hw kf_X8_175 kp_X8_13 0 rfl (ty := .boolean) (by decide +kernel) rfl rfl (by simp) (ws' := [(o 0, .inr (8, [.ref (o 1), .ref (o 2), .int (nI hs), .int bads, .int nos, .int fuls, .int cau, .int whe, .ref (o 3), .ref (o 4), .int (nI cnt), .int 0, .int fau, .int 0, .int 0, .ref (o 5), .ref (o 6)])), (o 4, .inl (g.2.1, 120, .inl tx)), (o 5, .inl (g.2.1, 24, .inl wo)), (o 6, .inl (g.2.1, 72, .inl nu))]) rfl dX8_reads_12 (fun H locs hw => ?_)
  refine lv_iconst (v := 1) hx hb dX8_reads_15 (by decide) ?_
  refine lv_istore_n (lv' := [(1, .int 1), (0, .ref (o 0))]) hx hb dX8_reads_16 rfl hl (by decide) rfl (fun ls hl => ?_)
  refine lv_aload_n hx hb dX8_reads_17 rfl (lv_at hl 1 rfl) ?_
  refine x_go (ws' := [(o 0, .inr (8, [.ref (o 1), .ref (o 2), .int (nI hs), .int bads, .int nos, .int fuls, .int cau, .int whe, .ref (o 3), .ref (o 4), .int (nI cnt), .int (nI (skB tx (cnt - 0) 0)), .int fau, .int 0, .int 0, .ref (o 5), .ref (o 6)])), (o 4, .inl (g.2.1, 120, .inl tx)), (o 5, .inl (g.2.1, 24, .inl wo)), (o 6, .inl (g.2.1, 72, .inl nu))]) (st1 := []) E hw [0, 1] rfl (x_runV (rest := []) E hw (c_X8_skips l g o hs bads nos fuls cau whe cnt 0 fau 0 0 tx (by omega) (Nat.zero_le _)) km_X8_162 kv_X8_skips [0, 1] rfl (by decide) 0 rfl hl.1 rfl rfl (Nat.le_of_ble_eq_true rfl) ⟨Nat.le_of_ble_eq_true rfl, Nat.le_of_ble_eq_true rfl⟩ ⟨Nat.zero_le _, Nat.zero_le _⟩ dX8_reads_18) rfl rfl rfl (fun H locs hw => ?_)
  have lp_21 : ∀ (fuel : Nat) (k : Nat) (x : Nat) (wx : Nat → Int32) (nx : Nat → Int32) (fx : Int32) (ix : Int32), 25 - k < fuel → 5 * k ≤ x → x ≤ cnt → rrR tx cnt (25 - k) k x wx nx fx ix = rrR tx cnt 25 0 (skB tx (cnt - 0) 0) wo nu fau 0 → ∀ (H : Heap) (locs : List Loc) (ls : Array Slot), xW g A0 s0 [(o 0, .inr (8, [.ref (o 1), .ref (o 2), .int (nI hs), .int bads, .int nos, .int fuls, .int cau, .int whe, .ref (o 3), .ref (o 4), .int (nI cnt), .int (nI x), .int fx, .int ix, .int (nI k), .ref (o 5), .ref (o 6)])), (o 4, .inl (g.2.1, 120, .inl tx)), (o 5, .inl (g.2.1, 24, .inl wx)), (o 6, .inl (g.2.1, 72, .inl nx))] H locs → lv_has ls 2 [(1, .int 1), (0, .ref (o 0))] → W p0 l e0 (xR 4 92) s0 m0 [.ref (o 0)].toArray below meth c0 H locs 0 0 Q (F0 m0 21 ls []) := by
    intro fuel
    induction fuel with
    | zero => intro k x wx nx fx ix hm; exact absurd hm (Nat.not_lt_zero _)
    | succ fuel ih =>
      intro k x wx nx fx ix hm h5 hxc hv H locs ls hw hl
      refine lv_iload_n hx hb dX8_reads_21 rfl (lv_at hl 0 rfl) ?_
      refine lv_if_eq (tgt := 59) hx hb dX8_reads_22 (by decide) (fun h => absurd h (by decide)) (fun _ => ?_)
      refine lv_aload_n hx hb dX8_reads_25 rfl (lv_at hl 1 rfl) ?_
      refine x_get E hw kf_X8_179 0 rfl rfl dX8_reads_26 ?_
      refine xz_eq (tgt := 43) hx hb k rfl (by omega) dX8_reads_29 (by decide) (fun ck => ?_) (fun ck => ?_)
      · refine lv_aload_n hx hb dX8_reads_43 rfl (lv_at hl 1 rfl) ?_
        refine x_go (ws' := [(o 0, .inr (8, [.ref (o 1), .ref (o 2), .int (nI hs), .int bads, .int nos, .int fuls, .int cau, .int whe, .ref (o 3), .ref (o 4), .int (nI cnt), .int (nI ((orR tx cnt k x wx nx fx ix).2.1)), .int ((orR tx cnt k x wx nx fx ix).2.2.2.2.1), .int ((orR tx cnt k x wx nx fx ix).2.2.2.2.2.1), .int (nI ((orR tx cnt k x wx nx fx ix).2.2.2.2.2.2)), .ref (o 5), .ref (o 6)])), (o 4, .inl (g.2.1, 120, .inl tx)), (o 5, .inl (g.2.1, 24, .inl ((orR tx cnt k x wx nx fx ix).2.2.1))), (o 6, .inl (g.2.1, 72, .inl ((orR tx cnt k x wx nx fx ix).2.2.2.1)))]) (st1 := [.int (bI ((orR tx cnt k x wx nx fx ix).1 = true))]) E hw [0, 1, 2, 3] rfl (x_runV (rest := []) E hw (c_X8_order l g o hs bads nos fuls cau whe cnt x fx ix tx wx nx k (by omega) hxc (by omega)) km_X8_186 kv_X8_order [0, 1, 2, 3] rfl (by decide) 0 rfl hl.1 rfl rfl (Nat.le_of_ble_eq_true rfl) ⟨Nat.le_of_ble_eq_true rfl, Nat.le_of_ble_eq_true rfl⟩ ⟨Nat.zero_le _, Nat.zero_le _⟩ dX8_reads_44) rfl rfl rfl (fun H locs hw => ?_)
        refine lv_istore_n (lv' := [(1, .int (bI ((orR tx cnt k x wx nx fx ix).1 = true))), (0, .ref (o 0))]) hx hb dX8_reads_47 rfl hl (by decide) rfl (fun ls hl => ?_)
        refine lv_iload_n hx hb dX8_reads_48 rfl (lv_at hl 0 rfl) ?_
        refine xb_eq (tgt := 21) hx hb dX8_reads_49 (by decide) (fun c5 => ?_) (fun c5 => ?_)
        · have hl : lv_has ls 2 [(1, .int 0), (0, .ref (o 0))] := lv_re hl (by rw [show (bI ((orR tx cnt k x wx nx fx ix).1 = true) : Int32) = 0 from bI_f c5])
          refine lv_iload_n hx hb dX8_reads_21 rfl (lv_at hl 0 rfl) ?_
          refine lv_if_eq (tgt := 59) hx hb dX8_reads_22 (by decide) (fun _ => ?_) (fun h => absurd h (by decide))
          refine lv_iload_n hx hb dX8_reads_59 rfl (lv_at hl 0 rfl) ?_
          have ho : rrR tx cnt 25 0 (skB tx (cnt - 0) 0) wo nu fau 0 = orR tx cnt k x wx nx fx ix := by rw [← hv, rrR_s tx cnt (k := k) (by omega) x wx nx fx ix, rrR, if_pos (by omega), if_neg c5]
          exact xr_z hQ E hr hw dX8_reads_60 (by decide) ⟨congrArg (fun z => some (Value.int z)) ((by rw [ho, bI_f c5])), (by rw [ho] <;> rfl)⟩
        · have hl : lv_has ls 2 [(1, .int 1), (0, .ref (o 0))] := lv_re hl (by rw [show (bI ((orR tx cnt k x wx nx fx ix).1 = true) : Int32) = 1 from bI_t c5])
          rw [show (orR tx cnt k x wx nx fx ix).2.2.2.2.2.2 = k + 1 from orR_k c5 hxc] at hw
          have hw : xW g A0 s0 [(o 0, .inr (8, [.ref (o 1), .ref (o 2), .int (nI hs), .int bads, .int nos, .int fuls, .int cau, .int whe, .ref (o 3), .ref (o 4), .int (nI cnt), .int (nI ((orR tx cnt k x wx nx fx ix).2.1)), .int ((orR tx cnt k x wx nx fx ix).2.2.2.2.1), .int ((orR tx cnt k x wx nx fx ix).2.2.2.2.2.1), .int (nI (k + 1)), .ref (o 5), .ref (o 6)])), (o 4, .inl (g.2.1, 120, .inl tx)), (o 5, .inl (g.2.1, 24, .inl ((orR tx cnt k x wx nx fx ix).2.2.1))), (o 6, .inl (g.2.1, 72, .inl ((orR tx cnt k x wx nx fx ix).2.2.2.1)))] _ _ := hw
          refine lv_aload_n hx hb dX8_reads_52 rfl (lv_at hl 1 rfl) ?_
          refine x_go (ws' := [(o 0, .inr (8, [.ref (o 1), .ref (o 2), .int (nI hs), .int bads, .int nos, .int fuls, .int cau, .int whe, .ref (o 3), .ref (o 4), .int (nI cnt), .int (nI (skB tx (cnt - ((orR tx cnt k x wx nx fx ix).2.1)) ((orR tx cnt k x wx nx fx ix).2.1))), .int ((orR tx cnt k x wx nx fx ix).2.2.2.2.1), .int ((orR tx cnt k x wx nx fx ix).2.2.2.2.2.1), .int (nI (k + 1)), .ref (o 5), .ref (o 6)])), (o 4, .inl (g.2.1, 120, .inl tx)), (o 5, .inl (g.2.1, 24, .inl ((orR tx cnt k x wx nx fx ix).2.2.1))), (o 6, .inl (g.2.1, 72, .inl ((orR tx cnt k x wx nx fx ix).2.2.2.1)))]) (st1 := []) E hw [0, 1] rfl (x_runV (rest := []) E hw (c_X8_skips l g o hs bads nos fuls cau whe cnt ((orR tx cnt k x wx nx fx ix).2.1) ((orR tx cnt k x wx nx fx ix).2.2.2.2.1) ((orR tx cnt k x wx nx fx ix).2.2.2.2.2.1) (nI (k + 1)) tx (by omega) (orR_le hxc).1) km_X8_162 kv_X8_skips [0, 1] rfl (by decide) 0 rfl hl.1 rfl rfl (Nat.le_of_ble_eq_true rfl) ⟨Nat.le_of_ble_eq_true rfl, Nat.le_of_ble_eq_true rfl⟩ ⟨Nat.zero_le _, Nat.zero_le _⟩ dX8_reads_53) rfl rfl rfl (fun H locs hw => ?_)
          refine lv_goto (tgt := 21) hx hb dX8_reads_56 (by decide) ?_
          have hl : lv_has ls 2 [(1, .int 1), (0, .ref (o 0))] := lv_sub hl [0, 1] rfl
          have hl : lv_has ls 2 [(1, .int 1), (0, .ref (o 0))] := hl
          have hw : xW g A0 s0 [(o 0, .inr (8, [.ref (o 1), .ref (o 2), .int (nI hs), .int bads, .int nos, .int fuls, .int cau, .int whe, .ref (o 3), .ref (o 4), .int (nI cnt), .int (nI (skB tx (cnt - ((orR tx cnt k x wx nx fx ix).2.1)) ((orR tx cnt k x wx nx fx ix).2.1))), .int ((orR tx cnt k x wx nx fx ix).2.2.2.2.1), .int ((orR tx cnt k x wx nx fx ix).2.2.2.2.2.1), .int (nI (k + 1)), .ref (o 5), .ref (o 6)])), (o 4, .inl (g.2.1, 120, .inl tx)), (o 5, .inl (g.2.1, 24, .inl ((orR tx cnt k x wx nx fx ix).2.2.1))), (o 6, .inl (g.2.1, 72, .inl ((orR tx cnt k x wx nx fx ix).2.2.2.1)))] _ _ := hw
          exact ih (k + 1) (skB tx (cnt - ((orR tx cnt k x wx nx fx ix).2.1)) ((orR tx cnt k x wx nx fx ix).2.1)) ((orR tx cnt k x wx nx fx ix).2.2.1) ((orR tx cnt k x wx nx fx ix).2.2.2.1) ((orR tx cnt k x wx nx fx ix).2.2.2.2.1) ((orR tx cnt k x wx nx fx ix).2.2.2.2.2.1) (by omega) (by have q1 := ((orR_le hxc).2 c5).1; have q2 := (skB_ge tx (cnt - (orR tx cnt k x wx nx fx ix).2.1) (orR tx cnt k x wx nx fx ix).2.1).1; omega) (skB_le (orR_le hxc).1) (by rw [← hv, rrR_s tx cnt (k := k) (by omega) x wx nx fx ix, rrR, if_pos (by omega), if_pos c5]) _ _ _ hw hl
      · refine lv_aload_n hx hb dX8_reads_32 rfl (lv_at hl 1 rfl) ?_
        refine x_get E hw kf_X8_149 0 rfl rfl dX8_reads_33 ?_
        refine lv_aload_n hx hb dX8_reads_36 rfl (lv_at hl 1 rfl) ?_
        refine x_get E hw kf_X8_143 0 rfl rfl dX8_reads_37 ?_
        refine xn_ge (tgt := 59) hx hb x cnt rfl rfl (by omega) (by omega) dX8_reads_40 (by decide) (fun c6 => ?_) (fun c6 => ?_)
        · refine lv_iload_n hx hb dX8_reads_59 rfl (lv_at hl 0 rfl) ?_
          have ho : rrR tx cnt 25 0 (skB tx (cnt - 0) 0) wo nu fau 0 = (true, x, wx, nx, fx, ix, k) := by rw [← hv, rrR_s tx cnt (k := k) (by omega) x wx nx fx ix, rrR, if_neg (by omega)]
          exact xr_z hQ E hr hw dX8_reads_60 (by decide) ⟨congrArg (fun z => some (Value.int z)) ((by rw [ho]; rfl)), (by rw [ho] <;> rfl)⟩
        · refine lv_aload_n hx hb dX8_reads_43 rfl (lv_at hl 1 rfl) ?_
          refine x_go (ws' := [(o 0, .inr (8, [.ref (o 1), .ref (o 2), .int (nI hs), .int bads, .int nos, .int fuls, .int cau, .int whe, .ref (o 3), .ref (o 4), .int (nI cnt), .int (nI ((orR tx cnt k x wx nx fx ix).2.1)), .int ((orR tx cnt k x wx nx fx ix).2.2.2.2.1), .int ((orR tx cnt k x wx nx fx ix).2.2.2.2.2.1), .int (nI ((orR tx cnt k x wx nx fx ix).2.2.2.2.2.2)), .ref (o 5), .ref (o 6)])), (o 4, .inl (g.2.1, 120, .inl tx)), (o 5, .inl (g.2.1, 24, .inl ((orR tx cnt k x wx nx fx ix).2.2.1))), (o 6, .inl (g.2.1, 72, .inl ((orR tx cnt k x wx nx fx ix).2.2.2.1)))]) (st1 := [.int (bI ((orR tx cnt k x wx nx fx ix).1 = true))]) E hw [0, 1, 2, 3] rfl (x_runV (rest := []) E hw (c_X8_order l g o hs bads nos fuls cau whe cnt x fx ix tx wx nx k (by omega) hxc (by omega)) km_X8_186 kv_X8_order [0, 1, 2, 3] rfl (by decide) 0 rfl hl.1 rfl rfl (Nat.le_of_ble_eq_true rfl) ⟨Nat.le_of_ble_eq_true rfl, Nat.le_of_ble_eq_true rfl⟩ ⟨Nat.zero_le _, Nat.zero_le _⟩ dX8_reads_44) rfl rfl rfl (fun H locs hw => ?_)
          refine lv_istore_n (lv' := [(1, .int (bI ((orR tx cnt k x wx nx fx ix).1 = true))), (0, .ref (o 0))]) hx hb dX8_reads_47 rfl hl (by decide) rfl (fun ls hl => ?_)
          refine lv_iload_n hx hb dX8_reads_48 rfl (lv_at hl 0 rfl) ?_
          refine xb_eq (tgt := 21) hx hb dX8_reads_49 (by decide) (fun c5 => ?_) (fun c5 => ?_)
          · have hl : lv_has ls 2 [(1, .int 0), (0, .ref (o 0))] := lv_re hl (by rw [show (bI ((orR tx cnt k x wx nx fx ix).1 = true) : Int32) = 0 from bI_f c5])
            refine lv_iload_n hx hb dX8_reads_21 rfl (lv_at hl 0 rfl) ?_
            refine lv_if_eq (tgt := 59) hx hb dX8_reads_22 (by decide) (fun _ => ?_) (fun h => absurd h (by decide))
            refine lv_iload_n hx hb dX8_reads_59 rfl (lv_at hl 0 rfl) ?_
            have ho : rrR tx cnt 25 0 (skB tx (cnt - 0) 0) wo nu fau 0 = orR tx cnt k x wx nx fx ix := by rw [← hv, rrR_s tx cnt (k := k) (by omega) x wx nx fx ix, rrR, if_pos (by omega), if_neg c5]
            exact xr_z hQ E hr hw dX8_reads_60 (by decide) ⟨congrArg (fun z => some (Value.int z)) ((by rw [ho, bI_f c5])), (by rw [ho] <;> rfl)⟩
          · have hl : lv_has ls 2 [(1, .int 1), (0, .ref (o 0))] := lv_re hl (by rw [show (bI ((orR tx cnt k x wx nx fx ix).1 = true) : Int32) = 1 from bI_t c5])
            rw [show (orR tx cnt k x wx nx fx ix).2.2.2.2.2.2 = k + 1 from orR_k c5 hxc] at hw
            have hw : xW g A0 s0 [(o 0, .inr (8, [.ref (o 1), .ref (o 2), .int (nI hs), .int bads, .int nos, .int fuls, .int cau, .int whe, .ref (o 3), .ref (o 4), .int (nI cnt), .int (nI ((orR tx cnt k x wx nx fx ix).2.1)), .int ((orR tx cnt k x wx nx fx ix).2.2.2.2.1), .int ((orR tx cnt k x wx nx fx ix).2.2.2.2.2.1), .int (nI (k + 1)), .ref (o 5), .ref (o 6)])), (o 4, .inl (g.2.1, 120, .inl tx)), (o 5, .inl (g.2.1, 24, .inl ((orR tx cnt k x wx nx fx ix).2.2.1))), (o 6, .inl (g.2.1, 72, .inl ((orR tx cnt k x wx nx fx ix).2.2.2.1)))] _ _ := hw
            refine lv_aload_n hx hb dX8_reads_52 rfl (lv_at hl 1 rfl) ?_
            refine x_go (ws' := [(o 0, .inr (8, [.ref (o 1), .ref (o 2), .int (nI hs), .int bads, .int nos, .int fuls, .int cau, .int whe, .ref (o 3), .ref (o 4), .int (nI cnt), .int (nI (skB tx (cnt - ((orR tx cnt k x wx nx fx ix).2.1)) ((orR tx cnt k x wx nx fx ix).2.1))), .int ((orR tx cnt k x wx nx fx ix).2.2.2.2.1), .int ((orR tx cnt k x wx nx fx ix).2.2.2.2.2.1), .int (nI (k + 1)), .ref (o 5), .ref (o 6)])), (o 4, .inl (g.2.1, 120, .inl tx)), (o 5, .inl (g.2.1, 24, .inl ((orR tx cnt k x wx nx fx ix).2.2.1))), (o 6, .inl (g.2.1, 72, .inl ((orR tx cnt k x wx nx fx ix).2.2.2.1)))]) (st1 := []) E hw [0, 1] rfl (x_runV (rest := []) E hw (c_X8_skips l g o hs bads nos fuls cau whe cnt ((orR tx cnt k x wx nx fx ix).2.1) ((orR tx cnt k x wx nx fx ix).2.2.2.2.1) ((orR tx cnt k x wx nx fx ix).2.2.2.2.2.1) (nI (k + 1)) tx (by omega) (orR_le hxc).1) km_X8_162 kv_X8_skips [0, 1] rfl (by decide) 0 rfl hl.1 rfl rfl (Nat.le_of_ble_eq_true rfl) ⟨Nat.le_of_ble_eq_true rfl, Nat.le_of_ble_eq_true rfl⟩ ⟨Nat.zero_le _, Nat.zero_le _⟩ dX8_reads_53) rfl rfl rfl (fun H locs hw => ?_)
            refine lv_goto (tgt := 21) hx hb dX8_reads_56 (by decide) ?_
            have hl : lv_has ls 2 [(1, .int 1), (0, .ref (o 0))] := lv_sub hl [0, 1] rfl
            have hl : lv_has ls 2 [(1, .int 1), (0, .ref (o 0))] := hl
            have hw : xW g A0 s0 [(o 0, .inr (8, [.ref (o 1), .ref (o 2), .int (nI hs), .int bads, .int nos, .int fuls, .int cau, .int whe, .ref (o 3), .ref (o 4), .int (nI cnt), .int (nI (skB tx (cnt - ((orR tx cnt k x wx nx fx ix).2.1)) ((orR tx cnt k x wx nx fx ix).2.1))), .int ((orR tx cnt k x wx nx fx ix).2.2.2.2.1), .int ((orR tx cnt k x wx nx fx ix).2.2.2.2.2.1), .int (nI (k + 1)), .ref (o 5), .ref (o 6)])), (o 4, .inl (g.2.1, 120, .inl tx)), (o 5, .inl (g.2.1, 24, .inl ((orR tx cnt k x wx nx fx ix).2.2.1))), (o 6, .inl (g.2.1, 72, .inl ((orR tx cnt k x wx nx fx ix).2.2.2.1)))] _ _ := hw
            exact ih (k + 1) (skB tx (cnt - ((orR tx cnt k x wx nx fx ix).2.1)) ((orR tx cnt k x wx nx fx ix).2.1)) ((orR tx cnt k x wx nx fx ix).2.2.1) ((orR tx cnt k x wx nx fx ix).2.2.2.1) ((orR tx cnt k x wx nx fx ix).2.2.2.2.1) ((orR tx cnt k x wx nx fx ix).2.2.2.2.2.1) (by omega) (by have q1 := ((orR_le hxc).2 c5).1; have q2 := (skB_ge tx (cnt - (orR tx cnt k x wx nx fx ix).2.1) (orR tx cnt k x wx nx fx ix).2.1).1; omega) (skB_le (orR_le hxc).1) (by rw [← hv, rrR_s tx cnt (k := k) (by omega) x wx nx fx ix, rrR, if_pos (by omega), if_pos c5]) _ _ _ hw hl
  have hl : lv_has ls 2 [(1, .int 1), (0, .ref (o 0))] := lv_sub hl [0, 1] rfl
  have hl : lv_has ls 2 [(1, .int 1), (0, .ref (o 0))] := hl
  have hw : xW g A0 s0 [(o 0, .inr (8, [.ref (o 1), .ref (o 2), .int (nI hs), .int bads, .int nos, .int fuls, .int cau, .int whe, .ref (o 3), .ref (o 4), .int (nI cnt), .int (nI (skB tx (cnt - 0) 0)), .int fau, .int 0, .int 0, .ref (o 5), .ref (o 6)])), (o 4, .inl (g.2.1, 120, .inl tx)), (o 5, .inl (g.2.1, 24, .inl wo)), (o 6, .inl (g.2.1, 72, .inl nu))] _ _ := hw
  exact lp_21 ((25 - 0) + 1) 0 (skB tx (cnt - 0) 0) wo nu fau 0 (Nat.lt_succ_self _) (by omega) (skB_le (p := 0) (Nat.zero_le _)) rfl _ _ _ hw hl

set_option maxRecDepth 100000 in
set_option maxHeartbeats 4000000 in
theorem c_X8_isDone_0 (l : Launch) (g : xCfg) (o : Nat → Nat) (hs : Nat) (bads : Int32) (nos : Int32) (fuls : Int32) (cau : Int32) (whe : Int32) (cnt : Nat) (p : Nat) (fau : Int32) (isw : Int32) (ods : Int32) (v : SV) (wo : Nat → Int32) (nu : Nat → Int32) (k : Nat) (m : Nat) (hL1 : 1 ≤ v.1) (hL : v.1 ≤ 200) (hk : k < 24) (hwd : wo k = 0) (ha : nu (3 * k) = nI m) (hm : 5 ≤ m) (hm2 : m ≤ 200) : Ct l g yX8_isDone cX8_isDone 8 (some .boolean) (xR 4 130) [.ref (o 0), .int (nI k)] [(o 0, .inr (8, [.ref (o 1), .ref (o 2), .int (nI hs), .int bads, .int nos, .int fuls, .int cau, .int whe, .ref (o 3), .ref (o 4), .int (nI cnt), .int (nI p), .int fau, .int isw, .int ods, .ref (o 5), .ref (o 6)])), (o 1, .inl (g.2.1, 616, .inl (nwF v))), (o 5, .inl (g.2.1, 24, .inl wo)), (o 6, .inl (g.2.1, 72, .inl nu))] (is1 (some (.int 1)) [(o 0, .inr (8, [.ref (o 1), .ref (o 2), .int (nI hs), .int bads, .int nos, .int fuls, .int cau, .int whe, .ref (o 3), .ref (o 4), .int (nI cnt), .int (nI p), .int fau, .int isw, .int ods, .ref (o 5), .ref (o 6)])), (o 1, .inl (g.2.1, 616, .inl (nwF (lenS m v)))), (o 5, .inl (g.2.1, 24, .inl wo)), (o 6, .inl (g.2.1, 72, .inl nu))]) := by
  refine Ct.walk (by decide) (Nat.le_of_ble_eq_true rfl) ?_
  intro p0 e0 s0 m0 below meth c0 A0 ls Q hQ E hr hnm hw hl
  have hx := E.x
  have hb := E.b
  have hl : lv_has ls 8 [(0, .ref (o 0)), (1, .int (nI k))] := hl
  refine lv_aload_n hx hb dX8_isDone_0 rfl (lv_at hl 0 rfl) ?_
  refine x_get E hw kf_X8_29 0 rfl rfl dX8_isDone_1 ?_
  refine lv_iconst (v := 3) hx hb dX8_isDone_4 (by decide) ?_
  refine lv_iload_n hx hb dX8_isDone_5 rfl (lv_at hl 1 rfl) ?_
  refine xn_mul hx hb 3 k rfl rfl dX8_isDone_6 ?_
  refine x_ld (v := nI m) E hw 3 rfl (3 * k) rfl (by omega) (by decide) ha dX8_isDone_7 ?_
  refine lv_istore_n (lv' := [(2, .int (nI m)), (0, .ref (o 0)), (1, .int (nI k))]) hx hb dX8_isDone_8 rfl hl (by decide) rfl (fun ls hl => ?_)
  refine lv_aload_n hx hb dX8_isDone_9 rfl (lv_at hl 1 rfl) ?_
  refine x_get E hw kf_X8_29 0 rfl rfl dX8_isDone_10 ?_
  refine lv_iconst (v := 3) hx hb dX8_isDone_13 (by decide) ?_
  refine lv_iload_n hx hb dX8_isDone_14 rfl (lv_at hl 2 rfl) ?_
  refine xn_mul hx hb 3 k rfl rfl dX8_isDone_15 ?_
  refine lv_iconst (v := 1) hx hb dX8_isDone_16 (by decide) ?_
  refine xn_add hx hb (3 * k) 1 rfl rfl dX8_isDone_17 ?_
  refine x_ld (v := nu (3 * k + 1)) E hw 3 rfl (3 * k + 1) rfl (by omega) (by decide) rfl dX8_isDone_18 ?_
  refine lv_istore_n (lv' := [(3, .int (nu (3 * k + 1))), (2, .int (nI m)), (0, .ref (o 0)), (1, .int (nI k))]) hx hb dX8_isDone_19 rfl hl (by decide) rfl (fun ls hl => ?_)
  refine lv_aload_n hx hb dX8_isDone_20 rfl (lv_at hl 2 rfl) ?_
  refine x_get E hw kf_X8_29 0 rfl rfl dX8_isDone_21 ?_
  refine lv_iconst (v := 3) hx hb dX8_isDone_24 (by decide) ?_
  refine lv_iload_n hx hb dX8_isDone_25 rfl (lv_at hl 3 rfl) ?_
  refine xn_mul hx hb 3 k rfl rfl dX8_isDone_26 ?_
  refine lv_iconst (v := 2) hx hb dX8_isDone_27 (by decide) ?_
  refine xn_add hx hb (3 * k) 2 rfl rfl dX8_isDone_28 ?_
  refine x_ld (v := nu (3 * k + 2)) E hw 3 rfl (3 * k + 2) rfl (by omega) (by decide) rfl dX8_isDone_29 ?_
  refine lv_istore (lv' := [(4, .int (nu (3 * k + 2))), (3, .int (nu (3 * k + 1))), (2, .int (nI m)), (0, .ref (o 0)), (1, .int (nI k))]) hx hb dX8_isDone_30 hl (by decide) rfl (fun ls hl => ?_)
  refine lv_aload_n hx hb dX8_isDone_32 rfl (lv_at hl 3 rfl) ?_
  refine x_get E hw kf_X8_26 0 rfl rfl dX8_isDone_33 ?_
  refine lv_iload_n hx hb dX8_isDone_36 rfl (lv_at hl 4 rfl) ?_
  refine x_ld (v := 0) E hw 2 rfl k rfl (by omega) (by decide) hwd dX8_isDone_37 ?_
  refine lv_istore (lv' := [(5, .int 0), (4, .int (nu (3 * k + 2))), (3, .int (nu (3 * k + 1))), (2, .int (nI m)), (0, .ref (o 0)), (1, .int (nI k))]) hx hb dX8_isDone_38 hl (by decide) rfl (fun ls hl => ?_)
  refine lv_iconst (v := 0) hx hb dX8_isDone_40 (by decide) ?_
  refine lv_istore (lv' := [(6, .int 0), (5, .int 0), (4, .int (nu (3 * k + 2))), (3, .int (nu (3 * k + 1))), (2, .int (nI m)), (0, .ref (o 0)), (1, .int (nI k))]) hx hb dX8_isDone_41 hl (by decide) rfl (fun ls hl => ?_)
  refine lv_iconst (v := 0) hx hb dX8_isDone_43 (by decide) ?_
  refine lv_istore (lv' := [(7, .int 0), (6, .int 0), (5, .int 0), (4, .int (nu (3 * k + 2))), (3, .int (nu (3 * k + 1))), (2, .int (nI m)), (0, .ref (o 0)), (1, .int (nI k))]) hx hb dX8_isDone_44 hl (by decide) rfl (fun ls hl => ?_)
  refine lv_iload hx hb dX8_isDone_46 (lv_at hl 2 rfl) ?_
  refine x_sw (v := 0) (off := 32) (tgt := 80) hx hb dX8_isDone_48 rfl (by decide) (by decide) (by decide) (by decide) ?_
  refine lv_aload_n hx hb dX8_isDone_80 rfl (lv_at hl 6 rfl) ?_
  refine lv_iload_n hx hb dX8_isDone_81 rfl (lv_at hl 5 rfl) ?_
  refine x_goR (st1 := [.int 1]) E hw [0] rfl (x_runV (rest := []) E hw (c_X8_mayLengthen_ok l g o hs bads nos fuls cau whe cnt p fau isw ods m (by omega) (by omega)) km_X8_56 kv_X8_mayLengthen [0] rfl (by decide) 0 rfl hl.1 rfl rfl (Nat.le_of_ble_eq_true rfl) ⟨Nat.le_of_ble_eq_true rfl, Nat.le_of_ble_eq_true rfl⟩ ⟨Nat.zero_le _, Nat.zero_le _⟩ dX8_isDone_82) rfl (fun H locs hw => ?_)
  refine lv_istore (lv' := [(6, .int 1), (7, .int 0), (5, .int 0), (4, .int (nu (3 * k + 2))), (3, .int (nu (3 * k + 1))), (2, .int (nI m)), (0, .ref (o 0)), (1, .int (nI k))]) hx hb dX8_isDone_85 hl (by decide) rfl (fun ls hl => ?_)
  refine lv_iload hx hb dX8_isDone_87 (lv_at hl 0 rfl) ?_
  refine lv_if_eq (tgt := 100) hx hb dX8_isDone_89 (by decide) (fun h => absurd h (by decide)) (fun _ => ?_)
  refine lv_aload_n hx hb dX8_isDone_92 rfl (lv_at hl 6 rfl) ?_
  refine lv_iload_n hx hb dX8_isDone_93 rfl (lv_at hl 5 rfl) ?_
  refine x_go (ws' := [(o 0, .inr (8, [.ref (o 1), .ref (o 2), .int (nI hs), .int bads, .int nos, .int fuls, .int cau, .int whe, .ref (o 3), .ref (o 4), .int (nI cnt), .int (nI p), .int fau, .int isw, .int ods, .ref (o 5), .ref (o 6)])), (o 1, .inl (g.2.1, 616, .inl (nwF (lenS m v)))), (o 5, .inl (g.2.1, 24, .inl wo)), (o 6, .inl (g.2.1, 72, .inl nu))]) (st1 := [.int (nI v.1)]) E hw [0, 1] rfl (x_runV (rest := []) E hw (c_X8_lengthen l g o hs bads nos fuls cau whe cnt p fau isw ods v m (by omega) (by omega)) km_X8_67 kv_X8_lengthen [0, 1] rfl (by decide) 0 rfl hl.1 rfl rfl (Nat.le_of_ble_eq_true rfl) ⟨Nat.le_of_ble_eq_true rfl, Nat.le_of_ble_eq_true rfl⟩ ⟨Nat.zero_le _, Nat.zero_le _⟩ dX8_isDone_94) rfl rfl rfl (fun H locs hw => ?_)
  refine lv_goto (tgt := 101) hx hb dX8_isDone_97 (by decide) ?_
  refine lv_istore (lv' := [(7, .int (nI v.1)), (6, .int 1), (5, .int 0), (4, .int (nu (3 * k + 2))), (3, .int (nu (3 * k + 1))), (2, .int (nI m)), (0, .ref (o 0)), (1, .int (nI k))]) hx hb dX8_isDone_101 hl (by decide) rfl (fun ls hl => ?_)
  refine lv_goto (tgt := 203) hx hb dX8_isDone_103 (by decide) ?_
  refine lv_iload hx hb dX8_isDone_203 (lv_at hl 1 rfl) ?_
  refine lv_if_eq (tgt := 220) hx hb dX8_isDone_205 (by decide) (fun h => absurd h (by decide)) (fun _ => ?_)
  refine lv_iload hx hb dX8_isDone_208 (lv_at hl 0 rfl) ?_
  refine lv_sipush (v := -1000) hx hb dX8_isDone_210 (by decide) ?_
  refine lv_icmp_le (tgt := 220) hx hb dX8_isDone_213 (by decide) (fun cw => ?_) (fun cw => ?_)
  · exact absurd cw (isDone_nn (by omega))
  · refine lv_iconst (v := 1) hx hb dX8_isDone_216 (by decide) ?_
    refine lv_goto (tgt := 221) hx hb dX8_isDone_217 (by decide) ?_
    exact xr_z hQ E hr hw dX8_isDone_221 (by decide) ⟨rfl, rfl⟩

set_option maxRecDepth 100000 in
set_option maxHeartbeats 4000000 in
theorem c_X8_isDone_1 (l : Launch) (g : xCfg) (o : Nat → Nat) (hs : Nat) (bads : Int32) (nos : Int32) (fuls : Int32) (cau : Int32) (whe : Int32) (cnt : Nat) (p : Nat) (fau : Int32) (isw : Int32) (ods : Int32) (v : SV) (wo : Nat → Int32) (nu : Nat → Int32) (k : Nat) (a : Nat) (z : Nat) (hL1 : 1 ≤ v.1) (hL : v.1 ≤ 200) (hk : k < 24) (hwd : wo k = 1) (ha : nu (3 * k) = nI a) (hz0 : nu (3 * k + 1) = nI z) (hz : z < v.1) (haz : a ≤ z) (hv : (0 : Int32) ≤ nu (3 * k + 2)) (hv2 : nu (3 * k + 2) ≤ 60) : Ct l g yX8_isDone cX8_isDone 8 (some .boolean) (xR 4 130) [.ref (o 0), .int (nI k)] [(o 0, .inr (8, [.ref (o 1), .ref (o 2), .int (nI hs), .int bads, .int nos, .int fuls, .int cau, .int whe, .ref (o 3), .ref (o 4), .int (nI cnt), .int (nI p), .int fau, .int isw, .int ods, .ref (o 5), .ref (o 6)])), (o 1, .inl (g.2.1, 616, .inl (nwF v))), (o 5, .inl (g.2.1, 24, .inl wo)), (o 6, .inl (g.2.1, 72, .inl nu))] (is1 (some (.int 1)) [(o 0, .inr (8, [.ref (o 1), .ref (o 2), .int (nI hs), .int bads, .int nos, .int fuls, .int cau, .int whe, .ref (o 3), .ref (o 4), .int (nI cnt), .int (nI p), .int fau, .int isw, .int ods, .ref (o 5), .ref (o 6)])), (o 1, .inl (g.2.1, 616, .inl (nwF (ceiS a z (nu (3 * k + 2)) v)))), (o 5, .inl (g.2.1, 24, .inl wo)), (o 6, .inl (g.2.1, 72, .inl nu))]) := by
  refine Ct.walk (by decide) (Nat.le_of_ble_eq_true rfl) ?_
  intro p0 e0 s0 m0 below meth c0 A0 ls Q hQ E hr hnm hw hl
  have hx := E.x
  have hb := E.b
  have hl : lv_has ls 8 [(0, .ref (o 0)), (1, .int (nI k))] := hl
  refine lv_aload_n hx hb dX8_isDone_0 rfl (lv_at hl 0 rfl) ?_
  refine x_get E hw kf_X8_29 0 rfl rfl dX8_isDone_1 ?_
  refine lv_iconst (v := 3) hx hb dX8_isDone_4 (by decide) ?_
  refine lv_iload_n hx hb dX8_isDone_5 rfl (lv_at hl 1 rfl) ?_
  refine xn_mul hx hb 3 k rfl rfl dX8_isDone_6 ?_
  refine x_ld (v := nI a) E hw 3 rfl (3 * k) rfl (by omega) (by decide) ha dX8_isDone_7 ?_
  refine lv_istore_n (lv' := [(2, .int (nI a)), (0, .ref (o 0)), (1, .int (nI k))]) hx hb dX8_isDone_8 rfl hl (by decide) rfl (fun ls hl => ?_)
  refine lv_aload_n hx hb dX8_isDone_9 rfl (lv_at hl 1 rfl) ?_
  refine x_get E hw kf_X8_29 0 rfl rfl dX8_isDone_10 ?_
  refine lv_iconst (v := 3) hx hb dX8_isDone_13 (by decide) ?_
  refine lv_iload_n hx hb dX8_isDone_14 rfl (lv_at hl 2 rfl) ?_
  refine xn_mul hx hb 3 k rfl rfl dX8_isDone_15 ?_
  refine lv_iconst (v := 1) hx hb dX8_isDone_16 (by decide) ?_
  refine xn_add hx hb (3 * k) 1 rfl rfl dX8_isDone_17 ?_
  refine x_ld (v := nI z) E hw 3 rfl (3 * k + 1) rfl (by omega) (by decide) hz0 dX8_isDone_18 ?_
  refine lv_istore_n (lv' := [(3, .int (nI z)), (2, .int (nI a)), (0, .ref (o 0)), (1, .int (nI k))]) hx hb dX8_isDone_19 rfl hl (by decide) rfl (fun ls hl => ?_)
  refine lv_aload_n hx hb dX8_isDone_20 rfl (lv_at hl 2 rfl) ?_
  refine x_get E hw kf_X8_29 0 rfl rfl dX8_isDone_21 ?_
  refine lv_iconst (v := 3) hx hb dX8_isDone_24 (by decide) ?_
  refine lv_iload_n hx hb dX8_isDone_25 rfl (lv_at hl 3 rfl) ?_
  refine xn_mul hx hb 3 k rfl rfl dX8_isDone_26 ?_
  refine lv_iconst (v := 2) hx hb dX8_isDone_27 (by decide) ?_
  refine xn_add hx hb (3 * k) 2 rfl rfl dX8_isDone_28 ?_
  refine x_ld (v := nu (3 * k + 2)) E hw 3 rfl (3 * k + 2) rfl (by omega) (by decide) rfl dX8_isDone_29 ?_
  refine lv_istore (lv' := [(4, .int (nu (3 * k + 2))), (3, .int (nI z)), (2, .int (nI a)), (0, .ref (o 0)), (1, .int (nI k))]) hx hb dX8_isDone_30 hl (by decide) rfl (fun ls hl => ?_)
  refine lv_aload_n hx hb dX8_isDone_32 rfl (lv_at hl 3 rfl) ?_
  refine x_get E hw kf_X8_26 0 rfl rfl dX8_isDone_33 ?_
  refine lv_iload_n hx hb dX8_isDone_36 rfl (lv_at hl 4 rfl) ?_
  refine x_ld (v := 1) E hw 2 rfl k rfl (by omega) (by decide) hwd dX8_isDone_37 ?_
  refine lv_istore (lv' := [(5, .int 1), (4, .int (nu (3 * k + 2))), (3, .int (nI z)), (2, .int (nI a)), (0, .ref (o 0)), (1, .int (nI k))]) hx hb dX8_isDone_38 hl (by decide) rfl (fun ls hl => ?_)
  refine lv_iconst (v := 0) hx hb dX8_isDone_40 (by decide) ?_
  refine lv_istore (lv' := [(6, .int 0), (5, .int 1), (4, .int (nu (3 * k + 2))), (3, .int (nI z)), (2, .int (nI a)), (0, .ref (o 0)), (1, .int (nI k))]) hx hb dX8_isDone_41 hl (by decide) rfl (fun ls hl => ?_)
  refine lv_iconst (v := 0) hx hb dX8_isDone_43 (by decide) ?_
  refine lv_istore (lv' := [(7, .int 0), (6, .int 0), (5, .int 1), (4, .int (nu (3 * k + 2))), (3, .int (nI z)), (2, .int (nI a)), (0, .ref (o 0)), (1, .int (nI k))]) hx hb dX8_isDone_44 hl (by decide) rfl (fun ls hl => ?_)
  refine lv_iload hx hb dX8_isDone_46 (lv_at hl 2 rfl) ?_
  refine x_sw (v := 1) (off := 58) (tgt := 106) hx hb dX8_isDone_48 rfl (by decide) (by decide) (by decide) (by decide) ?_
  refine lv_aload_n hx hb dX8_isDone_106 rfl (lv_at hl 6 rfl) ?_
  refine lv_iload hx hb dX8_isDone_107 (lv_at hl 2 rfl) ?_
  refine lv_iconst (v := 1) hx hb dX8_isDone_109 (by decide) ?_
  refine lv_isub hx hb dX8_isDone_110 ?_
  refine x_top (v' := .int 0) (by decide) ?_
  refine lv_iload_n hx hb dX8_isDone_111 rfl (lv_at hl 5 rfl) ?_
  refine lv_iload_n hx hb dX8_isDone_112 rfl (lv_at hl 4 rfl) ?_
  refine lv_iload hx hb dX8_isDone_113 (lv_at hl 3 rfl) ?_
  refine x_goR (st1 := [.int 1]) E hw [0, 1] rfl (x_runV (rest := []) E hw (c_X8_mayLay_c l g o hs bads nos fuls cau whe cnt p fau isw ods v a z (nu (3 * k + 2)) (by omega) (by omega) (by omega) hv hv2) km_X8_73 kv_X8_mayLay [0, 1] rfl (by decide) 0 rfl hl.1 rfl rfl (Nat.le_of_ble_eq_true rfl) ⟨Nat.le_of_ble_eq_true rfl, Nat.le_of_ble_eq_true rfl⟩ ⟨Nat.zero_le _, Nat.zero_le _⟩ dX8_isDone_115) rfl (fun H locs hw => ?_)
  refine lv_istore (lv' := [(6, .int 1), (7, .int 0), (5, .int 1), (4, .int (nu (3 * k + 2))), (3, .int (nI z)), (2, .int (nI a)), (0, .ref (o 0)), (1, .int (nI k))]) hx hb dX8_isDone_118 hl (by decide) rfl (fun ls hl => ?_)
  refine lv_iload hx hb dX8_isDone_120 (lv_at hl 0 rfl) ?_
  refine lv_if_eq (tgt := 140) hx hb dX8_isDone_122 (by decide) (fun h => absurd h (by decide)) (fun _ => ?_)
  refine lv_aload_n hx hb dX8_isDone_125 rfl (lv_at hl 6 rfl) ?_
  refine lv_iload hx hb dX8_isDone_126 (lv_at hl 2 rfl) ?_
  refine lv_iconst (v := 1) hx hb dX8_isDone_128 (by decide) ?_
  refine lv_isub hx hb dX8_isDone_129 ?_
  refine x_top (v' := .int 0) (by decide) ?_
  refine lv_iload_n hx hb dX8_isDone_130 rfl (lv_at hl 5 rfl) ?_
  refine lv_iload_n hx hb dX8_isDone_131 rfl (lv_at hl 4 rfl) ?_
  refine lv_iload hx hb dX8_isDone_132 (lv_at hl 3 rfl) ?_
  refine x_go (ws' := [(o 0, .inr (8, [.ref (o 1), .ref (o 2), .int (nI hs), .int bads, .int nos, .int fuls, .int cau, .int whe, .ref (o 3), .ref (o 4), .int (nI cnt), .int (nI p), .int fau, .int isw, .int ods, .ref (o 5), .ref (o 6)])), (o 1, .inl (g.2.1, 616, .inl (nwF (ceiS a z (nu (3 * k + 2)) v)))), (o 5, .inl (g.2.1, 24, .inl wo)), (o 6, .inl (g.2.1, 72, .inl nu))]) (st1 := [.int (nI (cntNe v.2.1 (nu (3 * k + 2)) a (z + 1)))]) E hw [0, 1] rfl (x_runV (rest := []) E hw (c_X8_lay_c l g o hs bads nos fuls cau whe cnt p fau isw ods v a z (nu (3 * k + 2)) (by omega) (by omega)) km_X8_77 kv_X8_lay [0, 1] rfl (by decide) 0 rfl hl.1 rfl rfl (Nat.le_of_ble_eq_true rfl) ⟨Nat.le_of_ble_eq_true rfl, Nat.le_of_ble_eq_true rfl⟩ ⟨Nat.zero_le _, Nat.zero_le _⟩ dX8_isDone_134) rfl rfl rfl (fun H locs hw => ?_)
  refine lv_goto (tgt := 141) hx hb dX8_isDone_137 (by decide) ?_
  refine lv_istore (lv' := [(7, .int (nI (cntNe v.2.1 (nu (3 * k + 2)) a (z + 1)))), (6, .int 1), (5, .int 1), (4, .int (nu (3 * k + 2))), (3, .int (nI z)), (2, .int (nI a)), (0, .ref (o 0)), (1, .int (nI k))]) hx hb dX8_isDone_141 hl (by decide) rfl (fun ls hl => ?_)
  refine lv_goto (tgt := 203) hx hb dX8_isDone_143 (by decide) ?_
  refine lv_iload hx hb dX8_isDone_203 (lv_at hl 1 rfl) ?_
  refine lv_if_eq (tgt := 220) hx hb dX8_isDone_205 (by decide) (fun h => absurd h (by decide)) (fun _ => ?_)
  refine lv_iload hx hb dX8_isDone_208 (lv_at hl 0 rfl) ?_
  refine lv_sipush (v := -1000) hx hb dX8_isDone_210 (by decide) ?_
  refine lv_icmp_le (tgt := 220) hx hb dX8_isDone_213 (by decide) (fun cw => ?_) (fun cw => ?_)
  · exact absurd cw (isDone_nn (by have := cntNe_le v.2.1 (nu (3 * k + 2)) a (z + 1); omega))
  · refine lv_iconst (v := 1) hx hb dX8_isDone_216 (by decide) ?_
    refine lv_goto (tgt := 221) hx hb dX8_isDone_217 (by decide) ?_
    exact xr_z hQ E hr hw dX8_isDone_221 (by decide) ⟨rfl, rfl⟩

set_option maxRecDepth 100000 in
set_option maxHeartbeats 4000000 in
theorem c_X8_isDone_2 (l : Launch) (g : xCfg) (o : Nat → Nat) (hs : Nat) (bads : Int32) (nos : Int32) (fuls : Int32) (cau : Int32) (whe : Int32) (cnt : Nat) (p : Nat) (fau : Int32) (isw : Int32) (ods : Int32) (v : SV) (wo : Nat → Int32) (nu : Nat → Int32) (k : Nat) (a : Nat) (z : Nat) (hL1 : 1 ≤ v.1) (hL : v.1 ≤ 200) (hk : k < 24) (hwd : wo k = 2) (ha : nu (3 * k) = nI a) (hz0 : nu (3 * k + 1) = nI z) (hz : z < v.1) (haz : a ≤ z) (hv : (-20 : Int32) ≤ nu (3 * k + 2)) (hv2 : nu (3 * k + 2) ≤ 20) : Ct l g yX8_isDone cX8_isDone 8 (some .boolean) (xR 4 130) [.ref (o 0), .int (nI k)] [(o 0, .inr (8, [.ref (o 1), .ref (o 2), .int (nI hs), .int bads, .int nos, .int fuls, .int cau, .int whe, .ref (o 3), .ref (o 4), .int (nI cnt), .int (nI p), .int fau, .int isw, .int ods, .ref (o 5), .ref (o 6)])), (o 1, .inl (g.2.1, 616, .inl (nwF v))), (o 5, .inl (g.2.1, 24, .inl wo)), (o 6, .inl (g.2.1, 72, .inl nu))] (is1 (some (.int 1)) [(o 0, .inr (8, [.ref (o 1), .ref (o 2), .int (nI hs), .int bads, .int nos, .int fuls, .int cau, .int whe, .ref (o 3), .ref (o 4), .int (nI cnt), .int (nI p), .int fau, .int isw, .int ods, .ref (o 5), .ref (o 6)])), (o 1, .inl (g.2.1, 616, .inl (nwF (graS a z (nu (3 * k + 2)) v)))), (o 5, .inl (g.2.1, 24, .inl wo)), (o 6, .inl (g.2.1, 72, .inl nu))]) := by
  refine Ct.walk (by decide) (Nat.le_of_ble_eq_true rfl) ?_
  intro p0 e0 s0 m0 below meth c0 A0 ls Q hQ E hr hnm hw hl
  have hx := E.x
  have hb := E.b
  have hl : lv_has ls 8 [(0, .ref (o 0)), (1, .int (nI k))] := hl
  refine lv_aload_n hx hb dX8_isDone_0 rfl (lv_at hl 0 rfl) ?_
  refine x_get E hw kf_X8_29 0 rfl rfl dX8_isDone_1 ?_
  refine lv_iconst (v := 3) hx hb dX8_isDone_4 (by decide) ?_
  refine lv_iload_n hx hb dX8_isDone_5 rfl (lv_at hl 1 rfl) ?_
  refine xn_mul hx hb 3 k rfl rfl dX8_isDone_6 ?_
  refine x_ld (v := nI a) E hw 3 rfl (3 * k) rfl (by omega) (by decide) ha dX8_isDone_7 ?_
  refine lv_istore_n (lv' := [(2, .int (nI a)), (0, .ref (o 0)), (1, .int (nI k))]) hx hb dX8_isDone_8 rfl hl (by decide) rfl (fun ls hl => ?_)
  refine lv_aload_n hx hb dX8_isDone_9 rfl (lv_at hl 1 rfl) ?_
  refine x_get E hw kf_X8_29 0 rfl rfl dX8_isDone_10 ?_
  refine lv_iconst (v := 3) hx hb dX8_isDone_13 (by decide) ?_
  refine lv_iload_n hx hb dX8_isDone_14 rfl (lv_at hl 2 rfl) ?_
  refine xn_mul hx hb 3 k rfl rfl dX8_isDone_15 ?_
  refine lv_iconst (v := 1) hx hb dX8_isDone_16 (by decide) ?_
  refine xn_add hx hb (3 * k) 1 rfl rfl dX8_isDone_17 ?_
  refine x_ld (v := nI z) E hw 3 rfl (3 * k + 1) rfl (by omega) (by decide) hz0 dX8_isDone_18 ?_
  refine lv_istore_n (lv' := [(3, .int (nI z)), (2, .int (nI a)), (0, .ref (o 0)), (1, .int (nI k))]) hx hb dX8_isDone_19 rfl hl (by decide) rfl (fun ls hl => ?_)
  refine lv_aload_n hx hb dX8_isDone_20 rfl (lv_at hl 2 rfl) ?_
  refine x_get E hw kf_X8_29 0 rfl rfl dX8_isDone_21 ?_
  refine lv_iconst (v := 3) hx hb dX8_isDone_24 (by decide) ?_
  refine lv_iload_n hx hb dX8_isDone_25 rfl (lv_at hl 3 rfl) ?_
  refine xn_mul hx hb 3 k rfl rfl dX8_isDone_26 ?_
  refine lv_iconst (v := 2) hx hb dX8_isDone_27 (by decide) ?_
  refine xn_add hx hb (3 * k) 2 rfl rfl dX8_isDone_28 ?_
  refine x_ld (v := nu (3 * k + 2)) E hw 3 rfl (3 * k + 2) rfl (by omega) (by decide) rfl dX8_isDone_29 ?_
  refine lv_istore (lv' := [(4, .int (nu (3 * k + 2))), (3, .int (nI z)), (2, .int (nI a)), (0, .ref (o 0)), (1, .int (nI k))]) hx hb dX8_isDone_30 hl (by decide) rfl (fun ls hl => ?_)
  refine lv_aload_n hx hb dX8_isDone_32 rfl (lv_at hl 3 rfl) ?_
  refine x_get E hw kf_X8_26 0 rfl rfl dX8_isDone_33 ?_
  refine lv_iload_n hx hb dX8_isDone_36 rfl (lv_at hl 4 rfl) ?_
  refine x_ld (v := 2) E hw 2 rfl k rfl (by omega) (by decide) hwd dX8_isDone_37 ?_
  refine lv_istore (lv' := [(5, .int 2), (4, .int (nu (3 * k + 2))), (3, .int (nI z)), (2, .int (nI a)), (0, .ref (o 0)), (1, .int (nI k))]) hx hb dX8_isDone_38 hl (by decide) rfl (fun ls hl => ?_)
  refine lv_iconst (v := 0) hx hb dX8_isDone_40 (by decide) ?_
  refine lv_istore (lv' := [(6, .int 0), (5, .int 2), (4, .int (nu (3 * k + 2))), (3, .int (nI z)), (2, .int (nI a)), (0, .ref (o 0)), (1, .int (nI k))]) hx hb dX8_isDone_41 hl (by decide) rfl (fun ls hl => ?_)
  refine lv_iconst (v := 0) hx hb dX8_isDone_43 (by decide) ?_
  refine lv_istore (lv' := [(7, .int 0), (6, .int 0), (5, .int 2), (4, .int (nu (3 * k + 2))), (3, .int (nI z)), (2, .int (nI a)), (0, .ref (o 0)), (1, .int (nI k))]) hx hb dX8_isDone_44 hl (by decide) rfl (fun ls hl => ?_)
  refine lv_iload hx hb dX8_isDone_46 (lv_at hl 2 rfl) ?_
  refine x_sw (v := 2) (off := 58) (tgt := 106) hx hb dX8_isDone_48 rfl (by decide) (by decide) (by decide) (by decide) ?_
  refine lv_aload_n hx hb dX8_isDone_106 rfl (lv_at hl 6 rfl) ?_
  refine lv_iload hx hb dX8_isDone_107 (lv_at hl 2 rfl) ?_
  refine lv_iconst (v := 1) hx hb dX8_isDone_109 (by decide) ?_
  refine lv_isub hx hb dX8_isDone_110 ?_
  refine x_top (v' := .int 1) (by decide) ?_
  refine lv_iload_n hx hb dX8_isDone_111 rfl (lv_at hl 5 rfl) ?_
  refine lv_iload_n hx hb dX8_isDone_112 rfl (lv_at hl 4 rfl) ?_
  refine lv_iload hx hb dX8_isDone_113 (lv_at hl 3 rfl) ?_
  refine x_goR (st1 := [.int 1]) E hw [0, 1] rfl (x_runV (rest := []) E hw (c_X8_mayLay_g l g o hs bads nos fuls cau whe cnt p fau isw ods v a z (nu (3 * k + 2)) (by omega) (by omega) (by omega) hv hv2) km_X8_73 kv_X8_mayLay [0, 1] rfl (by decide) 0 rfl hl.1 rfl rfl (Nat.le_of_ble_eq_true rfl) ⟨Nat.le_of_ble_eq_true rfl, Nat.le_of_ble_eq_true rfl⟩ ⟨Nat.zero_le _, Nat.zero_le _⟩ dX8_isDone_115) rfl (fun H locs hw => ?_)
  refine lv_istore (lv' := [(6, .int 1), (7, .int 0), (5, .int 2), (4, .int (nu (3 * k + 2))), (3, .int (nI z)), (2, .int (nI a)), (0, .ref (o 0)), (1, .int (nI k))]) hx hb dX8_isDone_118 hl (by decide) rfl (fun ls hl => ?_)
  refine lv_iload hx hb dX8_isDone_120 (lv_at hl 0 rfl) ?_
  refine lv_if_eq (tgt := 140) hx hb dX8_isDone_122 (by decide) (fun h => absurd h (by decide)) (fun _ => ?_)
  refine lv_aload_n hx hb dX8_isDone_125 rfl (lv_at hl 6 rfl) ?_
  refine lv_iload hx hb dX8_isDone_126 (lv_at hl 2 rfl) ?_
  refine lv_iconst (v := 1) hx hb dX8_isDone_128 (by decide) ?_
  refine lv_isub hx hb dX8_isDone_129 ?_
  refine x_top (v' := .int 1) (by decide) ?_
  refine lv_iload_n hx hb dX8_isDone_130 rfl (lv_at hl 5 rfl) ?_
  refine lv_iload_n hx hb dX8_isDone_131 rfl (lv_at hl 4 rfl) ?_
  refine lv_iload hx hb dX8_isDone_132 (lv_at hl 3 rfl) ?_
  refine x_go (ws' := [(o 0, .inr (8, [.ref (o 1), .ref (o 2), .int (nI hs), .int bads, .int nos, .int fuls, .int cau, .int whe, .ref (o 3), .ref (o 4), .int (nI cnt), .int (nI p), .int fau, .int isw, .int ods, .ref (o 5), .ref (o 6)])), (o 1, .inl (g.2.1, 616, .inl (nwF (graS a z (nu (3 * k + 2)) v)))), (o 5, .inl (g.2.1, 24, .inl wo)), (o 6, .inl (g.2.1, 72, .inl nu))]) (st1 := [.int (nI (cntNe v.2.2.1 (nu (3 * k + 2)) a (z + 1)))]) E hw [0, 1] rfl (x_runV (rest := []) E hw (c_X8_lay_g l g o hs bads nos fuls cau whe cnt p fau isw ods v a z (nu (3 * k + 2)) (by omega) (by omega)) km_X8_77 kv_X8_lay [0, 1] rfl (by decide) 0 rfl hl.1 rfl rfl (Nat.le_of_ble_eq_true rfl) ⟨Nat.le_of_ble_eq_true rfl, Nat.le_of_ble_eq_true rfl⟩ ⟨Nat.zero_le _, Nat.zero_le _⟩ dX8_isDone_134) rfl rfl rfl (fun H locs hw => ?_)
  refine lv_goto (tgt := 141) hx hb dX8_isDone_137 (by decide) ?_
  refine lv_istore (lv' := [(7, .int (nI (cntNe v.2.2.1 (nu (3 * k + 2)) a (z + 1)))), (6, .int 1), (5, .int 2), (4, .int (nu (3 * k + 2))), (3, .int (nI z)), (2, .int (nI a)), (0, .ref (o 0)), (1, .int (nI k))]) hx hb dX8_isDone_141 hl (by decide) rfl (fun ls hl => ?_)
  refine lv_goto (tgt := 203) hx hb dX8_isDone_143 (by decide) ?_
  refine lv_iload hx hb dX8_isDone_203 (lv_at hl 1 rfl) ?_
  refine lv_if_eq (tgt := 220) hx hb dX8_isDone_205 (by decide) (fun h => absurd h (by decide)) (fun _ => ?_)
  refine lv_iload hx hb dX8_isDone_208 (lv_at hl 0 rfl) ?_
  refine lv_sipush (v := -1000) hx hb dX8_isDone_210 (by decide) ?_
  refine lv_icmp_le (tgt := 220) hx hb dX8_isDone_213 (by decide) (fun cw => ?_) (fun cw => ?_)
  · exact absurd cw (isDone_nn (by have := cntNe_le v.2.2.1 (nu (3 * k + 2)) a (z + 1); omega))
  · refine lv_iconst (v := 1) hx hb dX8_isDone_216 (by decide) ?_
    refine lv_goto (tgt := 221) hx hb dX8_isDone_217 (by decide) ?_
    exact xr_z hQ E hr hw dX8_isDone_221 (by decide) ⟨rfl, rfl⟩

set_option maxRecDepth 100000 in
set_option maxHeartbeats 4000000 in
theorem c_X8_isDone_3 (l : Launch) (g : xCfg) (o : Nat → Nat) (hs : Nat) (bads : Int32) (nos : Int32) (fuls : Int32) (cau : Int32) (whe : Int32) (cnt : Nat) (p : Nat) (fau : Int32) (isw : Int32) (ods : Int32) (v : SV) (wo : Nat → Int32) (nu : Nat → Int32) (k : Nat) (a : Nat) (hL1 : 1 ≤ v.1) (hL : v.1 ≤ 200) (hk : k < 24) (hwd : wo k = 3) (ha : nu (3 * k) = nI a) (haL : a < v.1) (hge : ¬ v.2.2.2.1 a ≤ -1000) : Ct l g yX8_isDone cX8_isDone 8 (some .boolean) (xR 4 130) [.ref (o 0), .int (nI k)] [(o 0, .inr (8, [.ref (o 1), .ref (o 2), .int (nI hs), .int bads, .int nos, .int fuls, .int cau, .int whe, .ref (o 3), .ref (o 4), .int (nI cnt), .int (nI p), .int fau, .int isw, .int ods, .ref (o 5), .ref (o 6)])), (o 1, .inl (g.2.1, 616, .inl (nwF v))), (o 5, .inl (g.2.1, 24, .inl wo)), (o 6, .inl (g.2.1, 72, .inl nu))] (is1 (some (.int 1)) [(o 0, .inr (8, [.ref (o 1), .ref (o 2), .int (nI hs), .int bads, .int nos, .int fuls, .int cau, .int whe, .ref (o 3), .ref (o 4), .int (nI cnt), .int (nI p), .int fau, .int isw, .int ods, .ref (o 5), .ref (o 6)])), (o 1, .inl (g.2.1, 616, .inl (nwF (beaS a 1 v)))), (o 5, .inl (g.2.1, 24, .inl wo)), (o 6, .inl (g.2.1, 72, .inl nu))]) := by
  refine Ct.walk (by decide) (Nat.le_of_ble_eq_true rfl) ?_
  intro p0 e0 s0 m0 below meth c0 A0 ls Q hQ E hr hnm hw hl
  have hx := E.x
  have hb := E.b
  have hl : lv_has ls 8 [(0, .ref (o 0)), (1, .int (nI k))] := hl
  refine lv_aload_n hx hb dX8_isDone_0 rfl (lv_at hl 0 rfl) ?_
  refine x_get E hw kf_X8_29 0 rfl rfl dX8_isDone_1 ?_
  refine lv_iconst (v := 3) hx hb dX8_isDone_4 (by decide) ?_
  refine lv_iload_n hx hb dX8_isDone_5 rfl (lv_at hl 1 rfl) ?_
  refine xn_mul hx hb 3 k rfl rfl dX8_isDone_6 ?_
  refine x_ld (v := nI a) E hw 3 rfl (3 * k) rfl (by omega) (by decide) ha dX8_isDone_7 ?_
  refine lv_istore_n (lv' := [(2, .int (nI a)), (0, .ref (o 0)), (1, .int (nI k))]) hx hb dX8_isDone_8 rfl hl (by decide) rfl (fun ls hl => ?_)
  refine lv_aload_n hx hb dX8_isDone_9 rfl (lv_at hl 1 rfl) ?_
  refine x_get E hw kf_X8_29 0 rfl rfl dX8_isDone_10 ?_
  refine lv_iconst (v := 3) hx hb dX8_isDone_13 (by decide) ?_
  refine lv_iload_n hx hb dX8_isDone_14 rfl (lv_at hl 2 rfl) ?_
  refine xn_mul hx hb 3 k rfl rfl dX8_isDone_15 ?_
  refine lv_iconst (v := 1) hx hb dX8_isDone_16 (by decide) ?_
  refine xn_add hx hb (3 * k) 1 rfl rfl dX8_isDone_17 ?_
  refine x_ld (v := nu (3 * k + 1)) E hw 3 rfl (3 * k + 1) rfl (by omega) (by decide) rfl dX8_isDone_18 ?_
  refine lv_istore_n (lv' := [(3, .int (nu (3 * k + 1))), (2, .int (nI a)), (0, .ref (o 0)), (1, .int (nI k))]) hx hb dX8_isDone_19 rfl hl (by decide) rfl (fun ls hl => ?_)
  refine lv_aload_n hx hb dX8_isDone_20 rfl (lv_at hl 2 rfl) ?_
  refine x_get E hw kf_X8_29 0 rfl rfl dX8_isDone_21 ?_
  refine lv_iconst (v := 3) hx hb dX8_isDone_24 (by decide) ?_
  refine lv_iload_n hx hb dX8_isDone_25 rfl (lv_at hl 3 rfl) ?_
  refine xn_mul hx hb 3 k rfl rfl dX8_isDone_26 ?_
  refine lv_iconst (v := 2) hx hb dX8_isDone_27 (by decide) ?_
  refine xn_add hx hb (3 * k) 2 rfl rfl dX8_isDone_28 ?_
  refine x_ld (v := nu (3 * k + 2)) E hw 3 rfl (3 * k + 2) rfl (by omega) (by decide) rfl dX8_isDone_29 ?_
  refine lv_istore (lv' := [(4, .int (nu (3 * k + 2))), (3, .int (nu (3 * k + 1))), (2, .int (nI a)), (0, .ref (o 0)), (1, .int (nI k))]) hx hb dX8_isDone_30 hl (by decide) rfl (fun ls hl => ?_)
  refine lv_aload_n hx hb dX8_isDone_32 rfl (lv_at hl 3 rfl) ?_
  refine x_get E hw kf_X8_26 0 rfl rfl dX8_isDone_33 ?_
  refine lv_iload_n hx hb dX8_isDone_36 rfl (lv_at hl 4 rfl) ?_
  refine x_ld (v := 3) E hw 2 rfl k rfl (by omega) (by decide) hwd dX8_isDone_37 ?_
  refine lv_istore (lv' := [(5, .int 3), (4, .int (nu (3 * k + 2))), (3, .int (nu (3 * k + 1))), (2, .int (nI a)), (0, .ref (o 0)), (1, .int (nI k))]) hx hb dX8_isDone_38 hl (by decide) rfl (fun ls hl => ?_)
  refine lv_iconst (v := 0) hx hb dX8_isDone_40 (by decide) ?_
  refine lv_istore (lv' := [(6, .int 0), (5, .int 3), (4, .int (nu (3 * k + 2))), (3, .int (nu (3 * k + 1))), (2, .int (nI a)), (0, .ref (o 0)), (1, .int (nI k))]) hx hb dX8_isDone_41 hl (by decide) rfl (fun ls hl => ?_)
  refine lv_iconst (v := 0) hx hb dX8_isDone_43 (by decide) ?_
  refine lv_istore (lv' := [(7, .int 0), (6, .int 0), (5, .int 3), (4, .int (nu (3 * k + 2))), (3, .int (nu (3 * k + 1))), (2, .int (nI a)), (0, .ref (o 0)), (1, .int (nI k))]) hx hb dX8_isDone_44 hl (by decide) rfl (fun ls hl => ?_)
  refine lv_iload hx hb dX8_isDone_46 (lv_at hl 2 rfl) ?_
  refine x_sw (v := 3) (off := 98) (tgt := 146) hx hb dX8_isDone_48 rfl (by decide) (by decide) (by decide) (by decide) ?_
  refine lv_aload_n hx hb dX8_isDone_146 rfl (lv_at hl 6 rfl) ?_
  refine lv_iload_n hx hb dX8_isDone_147 rfl (lv_at hl 5 rfl) ?_
  refine x_goR (st1 := [.int 1]) E hw [0, 1] rfl (x_runV (rest := []) E hw (c_X8_isCell_ok l g o hs bads nos fuls cau whe cnt p fau isw ods v a (by omega) (by omega)) km_X8_70 kv_X8_isCell [0, 1] rfl (by decide) 0 rfl hl.1 rfl rfl (Nat.le_of_ble_eq_true rfl) ⟨Nat.le_of_ble_eq_true rfl, Nat.le_of_ble_eq_true rfl⟩ ⟨Nat.zero_le _, Nat.zero_le _⟩ dX8_isDone_148) rfl (fun H locs hw => ?_)
  refine lv_istore (lv' := [(6, .int 1), (7, .int 0), (5, .int 3), (4, .int (nu (3 * k + 2))), (3, .int (nu (3 * k + 1))), (2, .int (nI a)), (0, .ref (o 0)), (1, .int (nI k))]) hx hb dX8_isDone_151 hl (by decide) rfl (fun ls hl => ?_)
  refine lv_iload hx hb dX8_isDone_153 (lv_at hl 0 rfl) ?_
  refine lv_if_eq (tgt := 167) hx hb dX8_isDone_155 (by decide) (fun h => absurd h (by decide)) (fun _ => ?_)
  refine lv_aload_n hx hb dX8_isDone_158 rfl (lv_at hl 6 rfl) ?_
  refine lv_iload_n hx hb dX8_isDone_159 rfl (lv_at hl 5 rfl) ?_
  refine lv_iconst (v := 1) hx hb dX8_isDone_160 (by decide) ?_
  refine x_go (ws' := [(o 0, .inr (8, [.ref (o 1), .ref (o 2), .int (nI hs), .int bads, .int nos, .int fuls, .int cau, .int whe, .ref (o 3), .ref (o 4), .int (nI cnt), .int (nI p), .int fau, .int isw, .int ods, .ref (o 5), .ref (o 6)])), (o 1, .inl (g.2.1, 616, .inl (nwF (beaS a 1 v)))), (o 5, .inl (g.2.1, 24, .inl wo)), (o 6, .inl (g.2.1, 72, .inl nu))]) (st1 := [.int (v.2.2.2.1 a)]) E hw [0, 1] rfl (x_runV (rest := []) E hw (c_X8_signal l g o hs bads nos fuls cau whe cnt p fau isw ods v a 1 (by omega)) km_X8_81 kv_X8_signal [0, 1] rfl (by decide) 0 rfl hl.1 rfl rfl (Nat.le_of_ble_eq_true rfl) ⟨Nat.le_of_ble_eq_true rfl, Nat.le_of_ble_eq_true rfl⟩ ⟨Nat.zero_le _, Nat.zero_le _⟩ dX8_isDone_161) rfl rfl rfl (fun H locs hw => ?_)
  refine lv_goto (tgt := 168) hx hb dX8_isDone_164 (by decide) ?_
  refine lv_istore (lv' := [(7, .int (v.2.2.2.1 a)), (6, .int 1), (5, .int 3), (4, .int (nu (3 * k + 2))), (3, .int (nu (3 * k + 1))), (2, .int (nI a)), (0, .ref (o 0)), (1, .int (nI k))]) hx hb dX8_isDone_168 hl (by decide) rfl (fun ls hl => ?_)
  refine lv_goto (tgt := 203) hx hb dX8_isDone_170 (by decide) ?_
  refine lv_iload hx hb dX8_isDone_203 (lv_at hl 1 rfl) ?_
  refine lv_if_eq (tgt := 220) hx hb dX8_isDone_205 (by decide) (fun h => absurd h (by decide)) (fun _ => ?_)
  refine lv_iload hx hb dX8_isDone_208 (lv_at hl 0 rfl) ?_
  refine lv_sipush (v := -1000) hx hb dX8_isDone_210 (by decide) ?_
  refine lv_icmp_le (tgt := 220) hx hb dX8_isDone_213 (by decide) (fun cw => ?_) (fun cw => ?_)
  · exact absurd cw hge
  · refine lv_iconst (v := 1) hx hb dX8_isDone_216 (by decide) ?_
    refine lv_goto (tgt := 221) hx hb dX8_isDone_217 (by decide) ?_
    exact xr_z hQ E hr hw dX8_isDone_221 (by decide) ⟨rfl, rfl⟩

set_option maxRecDepth 100000 in
set_option maxHeartbeats 4000000 in
theorem c_X8_isDone_4 (l : Launch) (g : xCfg) (o : Nat → Nat) (hs : Nat) (bads : Int32) (nos : Int32) (fuls : Int32) (cau : Int32) (whe : Int32) (cnt : Nat) (p : Nat) (fau : Int32) (isw : Int32) (ods : Int32) (v : SV) (wo : Nat → Int32) (nu : Nat → Int32) (k : Nat) (hL1 : 1 ≤ v.1) (hL : v.1 ≤ 200) (hk : k < 24) (hwd : wo k = 4) (hv : tLeast 0 ≤ nu (3 * k)) (hv2 : nu (3 * k) ≤ tMost 0) (hge : ¬ v.2.2.2.2.1 0 ≤ -1000) : Ct l g yX8_isDone cX8_isDone 8 (some .boolean) (xR 4 130) [.ref (o 0), .int (nI k)] [(o 0, .inr (8, [.ref (o 1), .ref (o 2), .int (nI hs), .int bads, .int nos, .int fuls, .int cau, .int whe, .ref (o 3), .ref (o 4), .int (nI cnt), .int (nI p), .int fau, .int isw, .int ods, .ref (o 5), .ref (o 6)])), (o 1, .inl (g.2.1, 616, .inl (nwF v))), (o 5, .inl (g.2.1, 24, .inl wo)), (o 6, .inl (g.2.1, 72, .inl nu))] (is1 (some (.int 1)) [(o 0, .inr (8, [.ref (o 1), .ref (o 2), .int (nI hs), .int bads, .int nos, .int fuls, .int cau, .int whe, .ref (o 3), .ref (o 4), .int (nI cnt), .int (nI p), .int fau, .int isw, .int ods, .ref (o 5), .ref (o 6)])), (o 1, .inl (g.2.1, 616, .inl (nwF (setS 0 (nu (3 * k)) v)))), (o 5, .inl (g.2.1, 24, .inl wo)), (o 6, .inl (g.2.1, 72, .inl nu))]) := by
  refine Ct.walk (by decide) (Nat.le_of_ble_eq_true rfl) ?_
  intro p0 e0 s0 m0 below meth c0 A0 ls Q hQ E hr hnm hw hl
  have hx := E.x
  have hb := E.b
  have hl : lv_has ls 8 [(0, .ref (o 0)), (1, .int (nI k))] := hl
  refine lv_aload_n hx hb dX8_isDone_0 rfl (lv_at hl 0 rfl) ?_
  refine x_get E hw kf_X8_29 0 rfl rfl dX8_isDone_1 ?_
  refine lv_iconst (v := 3) hx hb dX8_isDone_4 (by decide) ?_
  refine lv_iload_n hx hb dX8_isDone_5 rfl (lv_at hl 1 rfl) ?_
  refine xn_mul hx hb 3 k rfl rfl dX8_isDone_6 ?_
  refine x_ld (v := nu (3 * k)) E hw 3 rfl (3 * k) rfl (by omega) (by decide) rfl dX8_isDone_7 ?_
  refine lv_istore_n (lv' := [(2, .int (nu (3 * k))), (0, .ref (o 0)), (1, .int (nI k))]) hx hb dX8_isDone_8 rfl hl (by decide) rfl (fun ls hl => ?_)
  refine lv_aload_n hx hb dX8_isDone_9 rfl (lv_at hl 1 rfl) ?_
  refine x_get E hw kf_X8_29 0 rfl rfl dX8_isDone_10 ?_
  refine lv_iconst (v := 3) hx hb dX8_isDone_13 (by decide) ?_
  refine lv_iload_n hx hb dX8_isDone_14 rfl (lv_at hl 2 rfl) ?_
  refine xn_mul hx hb 3 k rfl rfl dX8_isDone_15 ?_
  refine lv_iconst (v := 1) hx hb dX8_isDone_16 (by decide) ?_
  refine xn_add hx hb (3 * k) 1 rfl rfl dX8_isDone_17 ?_
  refine x_ld (v := nu (3 * k + 1)) E hw 3 rfl (3 * k + 1) rfl (by omega) (by decide) rfl dX8_isDone_18 ?_
  refine lv_istore_n (lv' := [(3, .int (nu (3 * k + 1))), (2, .int (nu (3 * k))), (0, .ref (o 0)), (1, .int (nI k))]) hx hb dX8_isDone_19 rfl hl (by decide) rfl (fun ls hl => ?_)
  refine lv_aload_n hx hb dX8_isDone_20 rfl (lv_at hl 2 rfl) ?_
  refine x_get E hw kf_X8_29 0 rfl rfl dX8_isDone_21 ?_
  refine lv_iconst (v := 3) hx hb dX8_isDone_24 (by decide) ?_
  refine lv_iload_n hx hb dX8_isDone_25 rfl (lv_at hl 3 rfl) ?_
  refine xn_mul hx hb 3 k rfl rfl dX8_isDone_26 ?_
  refine lv_iconst (v := 2) hx hb dX8_isDone_27 (by decide) ?_
  refine xn_add hx hb (3 * k) 2 rfl rfl dX8_isDone_28 ?_
  refine x_ld (v := nu (3 * k + 2)) E hw 3 rfl (3 * k + 2) rfl (by omega) (by decide) rfl dX8_isDone_29 ?_
  refine lv_istore (lv' := [(4, .int (nu (3 * k + 2))), (3, .int (nu (3 * k + 1))), (2, .int (nu (3 * k))), (0, .ref (o 0)), (1, .int (nI k))]) hx hb dX8_isDone_30 hl (by decide) rfl (fun ls hl => ?_)
  refine lv_aload_n hx hb dX8_isDone_32 rfl (lv_at hl 3 rfl) ?_
  refine x_get E hw kf_X8_26 0 rfl rfl dX8_isDone_33 ?_
  refine lv_iload_n hx hb dX8_isDone_36 rfl (lv_at hl 4 rfl) ?_
  refine x_ld (v := 4) E hw 2 rfl k rfl (by omega) (by decide) hwd dX8_isDone_37 ?_
  refine lv_istore (lv' := [(5, .int 4), (4, .int (nu (3 * k + 2))), (3, .int (nu (3 * k + 1))), (2, .int (nu (3 * k))), (0, .ref (o 0)), (1, .int (nI k))]) hx hb dX8_isDone_38 hl (by decide) rfl (fun ls hl => ?_)
  refine lv_iconst (v := 0) hx hb dX8_isDone_40 (by decide) ?_
  refine lv_istore (lv' := [(6, .int 0), (5, .int 4), (4, .int (nu (3 * k + 2))), (3, .int (nu (3 * k + 1))), (2, .int (nu (3 * k))), (0, .ref (o 0)), (1, .int (nI k))]) hx hb dX8_isDone_41 hl (by decide) rfl (fun ls hl => ?_)
  refine lv_iconst (v := 0) hx hb dX8_isDone_43 (by decide) ?_
  refine lv_istore (lv' := [(7, .int 0), (6, .int 0), (5, .int 4), (4, .int (nu (3 * k + 2))), (3, .int (nu (3 * k + 1))), (2, .int (nu (3 * k))), (0, .ref (o 0)), (1, .int (nI k))]) hx hb dX8_isDone_44 hl (by decide) rfl (fun ls hl => ?_)
  refine lv_iload hx hb dX8_isDone_46 (lv_at hl 2 rfl) ?_
  refine lv_tableOut (tgt := 173) hx hb dX8_isDone_48 (by decide) (by decide) ?_
  refine lv_iload hx hb dX8_isDone_173 (lv_at hl 2 rfl) ?_
  refine lv_iconst (v := 4) hx hb dX8_isDone_175 (by decide) ?_
  refine lv_isub hx hb dX8_isDone_176 ?_
  refine x_top (v' := .int 0) (by decide) ?_
  refine lv_iload_n hx hb dX8_isDone_177 rfl (lv_at hl 5 rfl) ?_
  refine x_goR (st1 := [.int 1]) E hw [] rfl (x_runS (rest := []) E hw (c_X8_maySet_0 l g (nu (3 * k)) hv hv2) km_X8_85 ks_X8_maySet [] rfl (by decide) hl.1 rfl rfl (Nat.le_of_ble_eq_true rfl) ⟨Nat.le_of_ble_eq_true rfl, Nat.le_of_ble_eq_true rfl⟩ ⟨Nat.zero_le _, Nat.zero_le _⟩ dX8_isDone_178) rfl (fun H locs hw => ?_)
  refine lv_istore (lv' := [(6, .int 1), (7, .int 0), (5, .int 4), (4, .int (nu (3 * k + 2))), (3, .int (nu (3 * k + 1))), (2, .int (nu (3 * k))), (0, .ref (o 0)), (1, .int (nI k))]) hx hb dX8_isDone_181 hl (by decide) rfl (fun ls hl => ?_)
  refine lv_iload hx hb dX8_isDone_183 (lv_at hl 0 rfl) ?_
  refine lv_if_eq (tgt := 200) hx hb dX8_isDone_185 (by decide) (fun h => absurd h (by decide)) (fun _ => ?_)
  refine lv_aload_n hx hb dX8_isDone_188 rfl (lv_at hl 6 rfl) ?_
  refine lv_iload hx hb dX8_isDone_189 (lv_at hl 2 rfl) ?_
  refine lv_iconst (v := 4) hx hb dX8_isDone_191 (by decide) ?_
  refine lv_isub hx hb dX8_isDone_192 ?_
  refine x_top (v' := .int 0) (by decide) ?_
  refine lv_iload_n hx hb dX8_isDone_193 rfl (lv_at hl 5 rfl) ?_
  refine x_go (ws' := [(o 0, .inr (8, [.ref (o 1), .ref (o 2), .int (nI hs), .int bads, .int nos, .int fuls, .int cau, .int whe, .ref (o 3), .ref (o 4), .int (nI cnt), .int (nI p), .int fau, .int isw, .int ods, .ref (o 5), .ref (o 6)])), (o 1, .inl (g.2.1, 616, .inl (nwF (setS 0 (nu (3 * k)) v)))), (o 5, .inl (g.2.1, 24, .inl wo)), (o 6, .inl (g.2.1, 72, .inl nu))]) (st1 := [.int (v.2.2.2.2.1 0)]) E hw [0, 1] rfl (x_runV (rest := []) E hw (c_X8_set l g o hs bads nos fuls cau whe cnt p fau isw ods v 0 (nu (3 * k)) (by omega)) km_X8_89 kv_X8_set [0, 1] rfl (by decide) 0 rfl hl.1 rfl rfl (Nat.le_of_ble_eq_true rfl) ⟨Nat.le_of_ble_eq_true rfl, Nat.le_of_ble_eq_true rfl⟩ ⟨Nat.zero_le _, Nat.zero_le _⟩ dX8_isDone_194) rfl rfl rfl (fun H locs hw => ?_)
  refine lv_goto (tgt := 201) hx hb dX8_isDone_197 (by decide) ?_
  refine lv_istore (lv' := [(7, .int (v.2.2.2.2.1 0)), (6, .int 1), (5, .int 4), (4, .int (nu (3 * k + 2))), (3, .int (nu (3 * k + 1))), (2, .int (nu (3 * k))), (0, .ref (o 0)), (1, .int (nI k))]) hx hb dX8_isDone_201 hl (by decide) rfl (fun ls hl => ?_)
  refine lv_iload hx hb dX8_isDone_203 (lv_at hl 1 rfl) ?_
  refine lv_if_eq (tgt := 220) hx hb dX8_isDone_205 (by decide) (fun h => absurd h (by decide)) (fun _ => ?_)
  refine lv_iload hx hb dX8_isDone_208 (lv_at hl 0 rfl) ?_
  refine lv_sipush (v := -1000) hx hb dX8_isDone_210 (by decide) ?_
  refine lv_icmp_le (tgt := 220) hx hb dX8_isDone_213 (by decide) (fun cw => ?_) (fun cw => ?_)
  · exact absurd cw hge
  · refine lv_iconst (v := 1) hx hb dX8_isDone_216 (by decide) ?_
    refine lv_goto (tgt := 221) hx hb dX8_isDone_217 (by decide) ?_
    exact xr_z hQ E hr hw dX8_isDone_221 (by decide) ⟨rfl, rfl⟩

set_option maxRecDepth 100000 in
set_option maxHeartbeats 4000000 in
theorem c_X8_isDone_5 (l : Launch) (g : xCfg) (o : Nat → Nat) (hs : Nat) (bads : Int32) (nos : Int32) (fuls : Int32) (cau : Int32) (whe : Int32) (cnt : Nat) (p : Nat) (fau : Int32) (isw : Int32) (ods : Int32) (v : SV) (wo : Nat → Int32) (nu : Nat → Int32) (k : Nat) (hL1 : 1 ≤ v.1) (hL : v.1 ≤ 200) (hk : k < 24) (hwd : wo k = 5) (hv : tLeast 1 ≤ nu (3 * k)) (hv2 : nu (3 * k) ≤ tMost 1) (hge : ¬ v.2.2.2.2.1 1 ≤ -1000) : Ct l g yX8_isDone cX8_isDone 8 (some .boolean) (xR 4 130) [.ref (o 0), .int (nI k)] [(o 0, .inr (8, [.ref (o 1), .ref (o 2), .int (nI hs), .int bads, .int nos, .int fuls, .int cau, .int whe, .ref (o 3), .ref (o 4), .int (nI cnt), .int (nI p), .int fau, .int isw, .int ods, .ref (o 5), .ref (o 6)])), (o 1, .inl (g.2.1, 616, .inl (nwF v))), (o 5, .inl (g.2.1, 24, .inl wo)), (o 6, .inl (g.2.1, 72, .inl nu))] (is1 (some (.int 1)) [(o 0, .inr (8, [.ref (o 1), .ref (o 2), .int (nI hs), .int bads, .int nos, .int fuls, .int cau, .int whe, .ref (o 3), .ref (o 4), .int (nI cnt), .int (nI p), .int fau, .int isw, .int ods, .ref (o 5), .ref (o 6)])), (o 1, .inl (g.2.1, 616, .inl (nwF (setS 1 (nu (3 * k)) v)))), (o 5, .inl (g.2.1, 24, .inl wo)), (o 6, .inl (g.2.1, 72, .inl nu))]) := by
  refine Ct.walk (by decide) (Nat.le_of_ble_eq_true rfl) ?_
  intro p0 e0 s0 m0 below meth c0 A0 ls Q hQ E hr hnm hw hl
  have hx := E.x
  have hb := E.b
  have hl : lv_has ls 8 [(0, .ref (o 0)), (1, .int (nI k))] := hl
  refine lv_aload_n hx hb dX8_isDone_0 rfl (lv_at hl 0 rfl) ?_
  refine x_get E hw kf_X8_29 0 rfl rfl dX8_isDone_1 ?_
  refine lv_iconst (v := 3) hx hb dX8_isDone_4 (by decide) ?_
  refine lv_iload_n hx hb dX8_isDone_5 rfl (lv_at hl 1 rfl) ?_
  refine xn_mul hx hb 3 k rfl rfl dX8_isDone_6 ?_
  refine x_ld (v := nu (3 * k)) E hw 3 rfl (3 * k) rfl (by omega) (by decide) rfl dX8_isDone_7 ?_
  refine lv_istore_n (lv' := [(2, .int (nu (3 * k))), (0, .ref (o 0)), (1, .int (nI k))]) hx hb dX8_isDone_8 rfl hl (by decide) rfl (fun ls hl => ?_)
  refine lv_aload_n hx hb dX8_isDone_9 rfl (lv_at hl 1 rfl) ?_
  refine x_get E hw kf_X8_29 0 rfl rfl dX8_isDone_10 ?_
  refine lv_iconst (v := 3) hx hb dX8_isDone_13 (by decide) ?_
  refine lv_iload_n hx hb dX8_isDone_14 rfl (lv_at hl 2 rfl) ?_
  refine xn_mul hx hb 3 k rfl rfl dX8_isDone_15 ?_
  refine lv_iconst (v := 1) hx hb dX8_isDone_16 (by decide) ?_
  refine xn_add hx hb (3 * k) 1 rfl rfl dX8_isDone_17 ?_
  refine x_ld (v := nu (3 * k + 1)) E hw 3 rfl (3 * k + 1) rfl (by omega) (by decide) rfl dX8_isDone_18 ?_
  refine lv_istore_n (lv' := [(3, .int (nu (3 * k + 1))), (2, .int (nu (3 * k))), (0, .ref (o 0)), (1, .int (nI k))]) hx hb dX8_isDone_19 rfl hl (by decide) rfl (fun ls hl => ?_)
  refine lv_aload_n hx hb dX8_isDone_20 rfl (lv_at hl 2 rfl) ?_
  refine x_get E hw kf_X8_29 0 rfl rfl dX8_isDone_21 ?_
  refine lv_iconst (v := 3) hx hb dX8_isDone_24 (by decide) ?_
  refine lv_iload_n hx hb dX8_isDone_25 rfl (lv_at hl 3 rfl) ?_
  refine xn_mul hx hb 3 k rfl rfl dX8_isDone_26 ?_
  refine lv_iconst (v := 2) hx hb dX8_isDone_27 (by decide) ?_
  refine xn_add hx hb (3 * k) 2 rfl rfl dX8_isDone_28 ?_
  refine x_ld (v := nu (3 * k + 2)) E hw 3 rfl (3 * k + 2) rfl (by omega) (by decide) rfl dX8_isDone_29 ?_
  refine lv_istore (lv' := [(4, .int (nu (3 * k + 2))), (3, .int (nu (3 * k + 1))), (2, .int (nu (3 * k))), (0, .ref (o 0)), (1, .int (nI k))]) hx hb dX8_isDone_30 hl (by decide) rfl (fun ls hl => ?_)
  refine lv_aload_n hx hb dX8_isDone_32 rfl (lv_at hl 3 rfl) ?_
  refine x_get E hw kf_X8_26 0 rfl rfl dX8_isDone_33 ?_
  refine lv_iload_n hx hb dX8_isDone_36 rfl (lv_at hl 4 rfl) ?_
  refine x_ld (v := 5) E hw 2 rfl k rfl (by omega) (by decide) hwd dX8_isDone_37 ?_
  refine lv_istore (lv' := [(5, .int 5), (4, .int (nu (3 * k + 2))), (3, .int (nu (3 * k + 1))), (2, .int (nu (3 * k))), (0, .ref (o 0)), (1, .int (nI k))]) hx hb dX8_isDone_38 hl (by decide) rfl (fun ls hl => ?_)
  refine lv_iconst (v := 0) hx hb dX8_isDone_40 (by decide) ?_
  refine lv_istore (lv' := [(6, .int 0), (5, .int 5), (4, .int (nu (3 * k + 2))), (3, .int (nu (3 * k + 1))), (2, .int (nu (3 * k))), (0, .ref (o 0)), (1, .int (nI k))]) hx hb dX8_isDone_41 hl (by decide) rfl (fun ls hl => ?_)
  refine lv_iconst (v := 0) hx hb dX8_isDone_43 (by decide) ?_
  refine lv_istore (lv' := [(7, .int 0), (6, .int 0), (5, .int 5), (4, .int (nu (3 * k + 2))), (3, .int (nu (3 * k + 1))), (2, .int (nu (3 * k))), (0, .ref (o 0)), (1, .int (nI k))]) hx hb dX8_isDone_44 hl (by decide) rfl (fun ls hl => ?_)
  refine lv_iload hx hb dX8_isDone_46 (lv_at hl 2 rfl) ?_
  refine lv_tableOut (tgt := 173) hx hb dX8_isDone_48 (by decide) (by decide) ?_
  refine lv_iload hx hb dX8_isDone_173 (lv_at hl 2 rfl) ?_
  refine lv_iconst (v := 4) hx hb dX8_isDone_175 (by decide) ?_
  refine lv_isub hx hb dX8_isDone_176 ?_
  refine x_top (v' := .int 1) (by decide) ?_
  refine lv_iload_n hx hb dX8_isDone_177 rfl (lv_at hl 5 rfl) ?_
  refine x_goR (st1 := [.int 1]) E hw [] rfl (x_runS (rest := []) E hw (c_X8_maySet_1 l g (nu (3 * k)) hv hv2) km_X8_85 ks_X8_maySet [] rfl (by decide) hl.1 rfl rfl (Nat.le_of_ble_eq_true rfl) ⟨Nat.le_of_ble_eq_true rfl, Nat.le_of_ble_eq_true rfl⟩ ⟨Nat.zero_le _, Nat.zero_le _⟩ dX8_isDone_178) rfl (fun H locs hw => ?_)
  refine lv_istore (lv' := [(6, .int 1), (7, .int 0), (5, .int 5), (4, .int (nu (3 * k + 2))), (3, .int (nu (3 * k + 1))), (2, .int (nu (3 * k))), (0, .ref (o 0)), (1, .int (nI k))]) hx hb dX8_isDone_181 hl (by decide) rfl (fun ls hl => ?_)
  refine lv_iload hx hb dX8_isDone_183 (lv_at hl 0 rfl) ?_
  refine lv_if_eq (tgt := 200) hx hb dX8_isDone_185 (by decide) (fun h => absurd h (by decide)) (fun _ => ?_)
  refine lv_aload_n hx hb dX8_isDone_188 rfl (lv_at hl 6 rfl) ?_
  refine lv_iload hx hb dX8_isDone_189 (lv_at hl 2 rfl) ?_
  refine lv_iconst (v := 4) hx hb dX8_isDone_191 (by decide) ?_
  refine lv_isub hx hb dX8_isDone_192 ?_
  refine x_top (v' := .int 1) (by decide) ?_
  refine lv_iload_n hx hb dX8_isDone_193 rfl (lv_at hl 5 rfl) ?_
  refine x_go (ws' := [(o 0, .inr (8, [.ref (o 1), .ref (o 2), .int (nI hs), .int bads, .int nos, .int fuls, .int cau, .int whe, .ref (o 3), .ref (o 4), .int (nI cnt), .int (nI p), .int fau, .int isw, .int ods, .ref (o 5), .ref (o 6)])), (o 1, .inl (g.2.1, 616, .inl (nwF (setS 1 (nu (3 * k)) v)))), (o 5, .inl (g.2.1, 24, .inl wo)), (o 6, .inl (g.2.1, 72, .inl nu))]) (st1 := [.int (v.2.2.2.2.1 1)]) E hw [0, 1] rfl (x_runV (rest := []) E hw (c_X8_set l g o hs bads nos fuls cau whe cnt p fau isw ods v 1 (nu (3 * k)) (by omega)) km_X8_89 kv_X8_set [0, 1] rfl (by decide) 0 rfl hl.1 rfl rfl (Nat.le_of_ble_eq_true rfl) ⟨Nat.le_of_ble_eq_true rfl, Nat.le_of_ble_eq_true rfl⟩ ⟨Nat.zero_le _, Nat.zero_le _⟩ dX8_isDone_194) rfl rfl rfl (fun H locs hw => ?_)
  refine lv_goto (tgt := 201) hx hb dX8_isDone_197 (by decide) ?_
  refine lv_istore (lv' := [(7, .int (v.2.2.2.2.1 1)), (6, .int 1), (5, .int 5), (4, .int (nu (3 * k + 2))), (3, .int (nu (3 * k + 1))), (2, .int (nu (3 * k))), (0, .ref (o 0)), (1, .int (nI k))]) hx hb dX8_isDone_201 hl (by decide) rfl (fun ls hl => ?_)
  refine lv_iload hx hb dX8_isDone_203 (lv_at hl 1 rfl) ?_
  refine lv_if_eq (tgt := 220) hx hb dX8_isDone_205 (by decide) (fun h => absurd h (by decide)) (fun _ => ?_)
  refine lv_iload hx hb dX8_isDone_208 (lv_at hl 0 rfl) ?_
  refine lv_sipush (v := -1000) hx hb dX8_isDone_210 (by decide) ?_
  refine lv_icmp_le (tgt := 220) hx hb dX8_isDone_213 (by decide) (fun cw => ?_) (fun cw => ?_)
  · exact absurd cw hge
  · refine lv_iconst (v := 1) hx hb dX8_isDone_216 (by decide) ?_
    refine lv_goto (tgt := 221) hx hb dX8_isDone_217 (by decide) ?_
    exact xr_z hQ E hr hw dX8_isDone_221 (by decide) ⟨rfl, rfl⟩

set_option maxRecDepth 100000 in
set_option maxHeartbeats 4000000 in
theorem c_X8_isDone_6 (l : Launch) (g : xCfg) (o : Nat → Nat) (hs : Nat) (bads : Int32) (nos : Int32) (fuls : Int32) (cau : Int32) (whe : Int32) (cnt : Nat) (p : Nat) (fau : Int32) (isw : Int32) (ods : Int32) (v : SV) (wo : Nat → Int32) (nu : Nat → Int32) (k : Nat) (hL1 : 1 ≤ v.1) (hL : v.1 ≤ 200) (hk : k < 24) (hwd : wo k = 6) (hv : tLeast 2 ≤ nu (3 * k)) (hv2 : nu (3 * k) ≤ tMost 2) (hge : ¬ v.2.2.2.2.1 2 ≤ -1000) : Ct l g yX8_isDone cX8_isDone 8 (some .boolean) (xR 4 130) [.ref (o 0), .int (nI k)] [(o 0, .inr (8, [.ref (o 1), .ref (o 2), .int (nI hs), .int bads, .int nos, .int fuls, .int cau, .int whe, .ref (o 3), .ref (o 4), .int (nI cnt), .int (nI p), .int fau, .int isw, .int ods, .ref (o 5), .ref (o 6)])), (o 1, .inl (g.2.1, 616, .inl (nwF v))), (o 5, .inl (g.2.1, 24, .inl wo)), (o 6, .inl (g.2.1, 72, .inl nu))] (is1 (some (.int 1)) [(o 0, .inr (8, [.ref (o 1), .ref (o 2), .int (nI hs), .int bads, .int nos, .int fuls, .int cau, .int whe, .ref (o 3), .ref (o 4), .int (nI cnt), .int (nI p), .int fau, .int isw, .int ods, .ref (o 5), .ref (o 6)])), (o 1, .inl (g.2.1, 616, .inl (nwF (setS 2 (nu (3 * k)) v)))), (o 5, .inl (g.2.1, 24, .inl wo)), (o 6, .inl (g.2.1, 72, .inl nu))]) := by
  refine Ct.walk (by decide) (Nat.le_of_ble_eq_true rfl) ?_
  intro p0 e0 s0 m0 below meth c0 A0 ls Q hQ E hr hnm hw hl
  have hx := E.x
  have hb := E.b
  have hl : lv_has ls 8 [(0, .ref (o 0)), (1, .int (nI k))] := hl
  refine lv_aload_n hx hb dX8_isDone_0 rfl (lv_at hl 0 rfl) ?_
  refine x_get E hw kf_X8_29 0 rfl rfl dX8_isDone_1 ?_
  refine lv_iconst (v := 3) hx hb dX8_isDone_4 (by decide) ?_
  refine lv_iload_n hx hb dX8_isDone_5 rfl (lv_at hl 1 rfl) ?_
  refine xn_mul hx hb 3 k rfl rfl dX8_isDone_6 ?_
  refine x_ld (v := nu (3 * k)) E hw 3 rfl (3 * k) rfl (by omega) (by decide) rfl dX8_isDone_7 ?_
  refine lv_istore_n (lv' := [(2, .int (nu (3 * k))), (0, .ref (o 0)), (1, .int (nI k))]) hx hb dX8_isDone_8 rfl hl (by decide) rfl (fun ls hl => ?_)
  refine lv_aload_n hx hb dX8_isDone_9 rfl (lv_at hl 1 rfl) ?_
  refine x_get E hw kf_X8_29 0 rfl rfl dX8_isDone_10 ?_
  refine lv_iconst (v := 3) hx hb dX8_isDone_13 (by decide) ?_
  refine lv_iload_n hx hb dX8_isDone_14 rfl (lv_at hl 2 rfl) ?_
  refine xn_mul hx hb 3 k rfl rfl dX8_isDone_15 ?_
  refine lv_iconst (v := 1) hx hb dX8_isDone_16 (by decide) ?_
  refine xn_add hx hb (3 * k) 1 rfl rfl dX8_isDone_17 ?_
  refine x_ld (v := nu (3 * k + 1)) E hw 3 rfl (3 * k + 1) rfl (by omega) (by decide) rfl dX8_isDone_18 ?_
  refine lv_istore_n (lv' := [(3, .int (nu (3 * k + 1))), (2, .int (nu (3 * k))), (0, .ref (o 0)), (1, .int (nI k))]) hx hb dX8_isDone_19 rfl hl (by decide) rfl (fun ls hl => ?_)
  refine lv_aload_n hx hb dX8_isDone_20 rfl (lv_at hl 2 rfl) ?_
  refine x_get E hw kf_X8_29 0 rfl rfl dX8_isDone_21 ?_
  refine lv_iconst (v := 3) hx hb dX8_isDone_24 (by decide) ?_
  refine lv_iload_n hx hb dX8_isDone_25 rfl (lv_at hl 3 rfl) ?_
  refine xn_mul hx hb 3 k rfl rfl dX8_isDone_26 ?_
  refine lv_iconst (v := 2) hx hb dX8_isDone_27 (by decide) ?_
  refine xn_add hx hb (3 * k) 2 rfl rfl dX8_isDone_28 ?_
  refine x_ld (v := nu (3 * k + 2)) E hw 3 rfl (3 * k + 2) rfl (by omega) (by decide) rfl dX8_isDone_29 ?_
  refine lv_istore (lv' := [(4, .int (nu (3 * k + 2))), (3, .int (nu (3 * k + 1))), (2, .int (nu (3 * k))), (0, .ref (o 0)), (1, .int (nI k))]) hx hb dX8_isDone_30 hl (by decide) rfl (fun ls hl => ?_)
  refine lv_aload_n hx hb dX8_isDone_32 rfl (lv_at hl 3 rfl) ?_
  refine x_get E hw kf_X8_26 0 rfl rfl dX8_isDone_33 ?_
  refine lv_iload_n hx hb dX8_isDone_36 rfl (lv_at hl 4 rfl) ?_
  refine x_ld (v := 6) E hw 2 rfl k rfl (by omega) (by decide) hwd dX8_isDone_37 ?_
  refine lv_istore (lv' := [(5, .int 6), (4, .int (nu (3 * k + 2))), (3, .int (nu (3 * k + 1))), (2, .int (nu (3 * k))), (0, .ref (o 0)), (1, .int (nI k))]) hx hb dX8_isDone_38 hl (by decide) rfl (fun ls hl => ?_)
  refine lv_iconst (v := 0) hx hb dX8_isDone_40 (by decide) ?_
  refine lv_istore (lv' := [(6, .int 0), (5, .int 6), (4, .int (nu (3 * k + 2))), (3, .int (nu (3 * k + 1))), (2, .int (nu (3 * k))), (0, .ref (o 0)), (1, .int (nI k))]) hx hb dX8_isDone_41 hl (by decide) rfl (fun ls hl => ?_)
  refine lv_iconst (v := 0) hx hb dX8_isDone_43 (by decide) ?_
  refine lv_istore (lv' := [(7, .int 0), (6, .int 0), (5, .int 6), (4, .int (nu (3 * k + 2))), (3, .int (nu (3 * k + 1))), (2, .int (nu (3 * k))), (0, .ref (o 0)), (1, .int (nI k))]) hx hb dX8_isDone_44 hl (by decide) rfl (fun ls hl => ?_)
  refine lv_iload hx hb dX8_isDone_46 (lv_at hl 2 rfl) ?_
  refine lv_tableOut (tgt := 173) hx hb dX8_isDone_48 (by decide) (by decide) ?_
  refine lv_iload hx hb dX8_isDone_173 (lv_at hl 2 rfl) ?_
  refine lv_iconst (v := 4) hx hb dX8_isDone_175 (by decide) ?_
  refine lv_isub hx hb dX8_isDone_176 ?_
  refine x_top (v' := .int 2) (by decide) ?_
  refine lv_iload_n hx hb dX8_isDone_177 rfl (lv_at hl 5 rfl) ?_
  refine x_goR (st1 := [.int 1]) E hw [] rfl (x_runS (rest := []) E hw (c_X8_maySet_2 l g (nu (3 * k)) hv hv2) km_X8_85 ks_X8_maySet [] rfl (by decide) hl.1 rfl rfl (Nat.le_of_ble_eq_true rfl) ⟨Nat.le_of_ble_eq_true rfl, Nat.le_of_ble_eq_true rfl⟩ ⟨Nat.zero_le _, Nat.zero_le _⟩ dX8_isDone_178) rfl (fun H locs hw => ?_)
  refine lv_istore (lv' := [(6, .int 1), (7, .int 0), (5, .int 6), (4, .int (nu (3 * k + 2))), (3, .int (nu (3 * k + 1))), (2, .int (nu (3 * k))), (0, .ref (o 0)), (1, .int (nI k))]) hx hb dX8_isDone_181 hl (by decide) rfl (fun ls hl => ?_)
  refine lv_iload hx hb dX8_isDone_183 (lv_at hl 0 rfl) ?_
  refine lv_if_eq (tgt := 200) hx hb dX8_isDone_185 (by decide) (fun h => absurd h (by decide)) (fun _ => ?_)
  refine lv_aload_n hx hb dX8_isDone_188 rfl (lv_at hl 6 rfl) ?_
  refine lv_iload hx hb dX8_isDone_189 (lv_at hl 2 rfl) ?_
  refine lv_iconst (v := 4) hx hb dX8_isDone_191 (by decide) ?_
  refine lv_isub hx hb dX8_isDone_192 ?_
  refine x_top (v' := .int 2) (by decide) ?_
  refine lv_iload_n hx hb dX8_isDone_193 rfl (lv_at hl 5 rfl) ?_
  refine x_go (ws' := [(o 0, .inr (8, [.ref (o 1), .ref (o 2), .int (nI hs), .int bads, .int nos, .int fuls, .int cau, .int whe, .ref (o 3), .ref (o 4), .int (nI cnt), .int (nI p), .int fau, .int isw, .int ods, .ref (o 5), .ref (o 6)])), (o 1, .inl (g.2.1, 616, .inl (nwF (setS 2 (nu (3 * k)) v)))), (o 5, .inl (g.2.1, 24, .inl wo)), (o 6, .inl (g.2.1, 72, .inl nu))]) (st1 := [.int (v.2.2.2.2.1 2)]) E hw [0, 1] rfl (x_runV (rest := []) E hw (c_X8_set l g o hs bads nos fuls cau whe cnt p fau isw ods v 2 (nu (3 * k)) (by omega)) km_X8_89 kv_X8_set [0, 1] rfl (by decide) 0 rfl hl.1 rfl rfl (Nat.le_of_ble_eq_true rfl) ⟨Nat.le_of_ble_eq_true rfl, Nat.le_of_ble_eq_true rfl⟩ ⟨Nat.zero_le _, Nat.zero_le _⟩ dX8_isDone_194) rfl rfl rfl (fun H locs hw => ?_)
  refine lv_goto (tgt := 201) hx hb dX8_isDone_197 (by decide) ?_
  refine lv_istore (lv' := [(7, .int (v.2.2.2.2.1 2)), (6, .int 1), (5, .int 6), (4, .int (nu (3 * k + 2))), (3, .int (nu (3 * k + 1))), (2, .int (nu (3 * k))), (0, .ref (o 0)), (1, .int (nI k))]) hx hb dX8_isDone_201 hl (by decide) rfl (fun ls hl => ?_)
  refine lv_iload hx hb dX8_isDone_203 (lv_at hl 1 rfl) ?_
  refine lv_if_eq (tgt := 220) hx hb dX8_isDone_205 (by decide) (fun h => absurd h (by decide)) (fun _ => ?_)
  refine lv_iload hx hb dX8_isDone_208 (lv_at hl 0 rfl) ?_
  refine lv_sipush (v := -1000) hx hb dX8_isDone_210 (by decide) ?_
  refine lv_icmp_le (tgt := 220) hx hb dX8_isDone_213 (by decide) (fun cw => ?_) (fun cw => ?_)
  · exact absurd cw hge
  · refine lv_iconst (v := 1) hx hb dX8_isDone_216 (by decide) ?_
    refine lv_goto (tgt := 221) hx hb dX8_isDone_217 (by decide) ?_
    exact xr_z hQ E hr hw dX8_isDone_221 (by decide) ⟨rfl, rfl⟩

set_option maxRecDepth 100000 in
set_option maxHeartbeats 4000000 in
theorem c_X8_isDone_7 (l : Launch) (g : xCfg) (o : Nat → Nat) (hs : Nat) (bads : Int32) (nos : Int32) (fuls : Int32) (cau : Int32) (whe : Int32) (cnt : Nat) (p : Nat) (fau : Int32) (isw : Int32) (ods : Int32) (v : SV) (wo : Nat → Int32) (nu : Nat → Int32) (k : Nat) (hL1 : 1 ≤ v.1) (hL : v.1 ≤ 200) (hk : k < 24) (hwd : wo k = 7) (hv : tLeast 3 ≤ nu (3 * k)) (hv2 : nu (3 * k) ≤ tMost 3) (hge : ¬ v.2.2.2.2.1 3 ≤ -1000) : Ct l g yX8_isDone cX8_isDone 8 (some .boolean) (xR 4 130) [.ref (o 0), .int (nI k)] [(o 0, .inr (8, [.ref (o 1), .ref (o 2), .int (nI hs), .int bads, .int nos, .int fuls, .int cau, .int whe, .ref (o 3), .ref (o 4), .int (nI cnt), .int (nI p), .int fau, .int isw, .int ods, .ref (o 5), .ref (o 6)])), (o 1, .inl (g.2.1, 616, .inl (nwF v))), (o 5, .inl (g.2.1, 24, .inl wo)), (o 6, .inl (g.2.1, 72, .inl nu))] (is1 (some (.int 1)) [(o 0, .inr (8, [.ref (o 1), .ref (o 2), .int (nI hs), .int bads, .int nos, .int fuls, .int cau, .int whe, .ref (o 3), .ref (o 4), .int (nI cnt), .int (nI p), .int fau, .int isw, .int ods, .ref (o 5), .ref (o 6)])), (o 1, .inl (g.2.1, 616, .inl (nwF (setS 3 (nu (3 * k)) v)))), (o 5, .inl (g.2.1, 24, .inl wo)), (o 6, .inl (g.2.1, 72, .inl nu))]) := by
  refine Ct.walk (by decide) (Nat.le_of_ble_eq_true rfl) ?_
  intro p0 e0 s0 m0 below meth c0 A0 ls Q hQ E hr hnm hw hl
  have hx := E.x
  have hb := E.b
  have hl : lv_has ls 8 [(0, .ref (o 0)), (1, .int (nI k))] := hl
  refine lv_aload_n hx hb dX8_isDone_0 rfl (lv_at hl 0 rfl) ?_
  refine x_get E hw kf_X8_29 0 rfl rfl dX8_isDone_1 ?_
  refine lv_iconst (v := 3) hx hb dX8_isDone_4 (by decide) ?_
  refine lv_iload_n hx hb dX8_isDone_5 rfl (lv_at hl 1 rfl) ?_
  refine xn_mul hx hb 3 k rfl rfl dX8_isDone_6 ?_
  refine x_ld (v := nu (3 * k)) E hw 3 rfl (3 * k) rfl (by omega) (by decide) rfl dX8_isDone_7 ?_
  refine lv_istore_n (lv' := [(2, .int (nu (3 * k))), (0, .ref (o 0)), (1, .int (nI k))]) hx hb dX8_isDone_8 rfl hl (by decide) rfl (fun ls hl => ?_)
  refine lv_aload_n hx hb dX8_isDone_9 rfl (lv_at hl 1 rfl) ?_
  refine x_get E hw kf_X8_29 0 rfl rfl dX8_isDone_10 ?_
  refine lv_iconst (v := 3) hx hb dX8_isDone_13 (by decide) ?_
  refine lv_iload_n hx hb dX8_isDone_14 rfl (lv_at hl 2 rfl) ?_
  refine xn_mul hx hb 3 k rfl rfl dX8_isDone_15 ?_
  refine lv_iconst (v := 1) hx hb dX8_isDone_16 (by decide) ?_
  refine xn_add hx hb (3 * k) 1 rfl rfl dX8_isDone_17 ?_
  refine x_ld (v := nu (3 * k + 1)) E hw 3 rfl (3 * k + 1) rfl (by omega) (by decide) rfl dX8_isDone_18 ?_
  refine lv_istore_n (lv' := [(3, .int (nu (3 * k + 1))), (2, .int (nu (3 * k))), (0, .ref (o 0)), (1, .int (nI k))]) hx hb dX8_isDone_19 rfl hl (by decide) rfl (fun ls hl => ?_)
  refine lv_aload_n hx hb dX8_isDone_20 rfl (lv_at hl 2 rfl) ?_
  refine x_get E hw kf_X8_29 0 rfl rfl dX8_isDone_21 ?_
  refine lv_iconst (v := 3) hx hb dX8_isDone_24 (by decide) ?_
  refine lv_iload_n hx hb dX8_isDone_25 rfl (lv_at hl 3 rfl) ?_
  refine xn_mul hx hb 3 k rfl rfl dX8_isDone_26 ?_
  refine lv_iconst (v := 2) hx hb dX8_isDone_27 (by decide) ?_
  refine xn_add hx hb (3 * k) 2 rfl rfl dX8_isDone_28 ?_
  refine x_ld (v := nu (3 * k + 2)) E hw 3 rfl (3 * k + 2) rfl (by omega) (by decide) rfl dX8_isDone_29 ?_
  refine lv_istore (lv' := [(4, .int (nu (3 * k + 2))), (3, .int (nu (3 * k + 1))), (2, .int (nu (3 * k))), (0, .ref (o 0)), (1, .int (nI k))]) hx hb dX8_isDone_30 hl (by decide) rfl (fun ls hl => ?_)
  refine lv_aload_n hx hb dX8_isDone_32 rfl (lv_at hl 3 rfl) ?_
  refine x_get E hw kf_X8_26 0 rfl rfl dX8_isDone_33 ?_
  refine lv_iload_n hx hb dX8_isDone_36 rfl (lv_at hl 4 rfl) ?_
  refine x_ld (v := 7) E hw 2 rfl k rfl (by omega) (by decide) hwd dX8_isDone_37 ?_
  refine lv_istore (lv' := [(5, .int 7), (4, .int (nu (3 * k + 2))), (3, .int (nu (3 * k + 1))), (2, .int (nu (3 * k))), (0, .ref (o 0)), (1, .int (nI k))]) hx hb dX8_isDone_38 hl (by decide) rfl (fun ls hl => ?_)
  refine lv_iconst (v := 0) hx hb dX8_isDone_40 (by decide) ?_
  refine lv_istore (lv' := [(6, .int 0), (5, .int 7), (4, .int (nu (3 * k + 2))), (3, .int (nu (3 * k + 1))), (2, .int (nu (3 * k))), (0, .ref (o 0)), (1, .int (nI k))]) hx hb dX8_isDone_41 hl (by decide) rfl (fun ls hl => ?_)
  refine lv_iconst (v := 0) hx hb dX8_isDone_43 (by decide) ?_
  refine lv_istore (lv' := [(7, .int 0), (6, .int 0), (5, .int 7), (4, .int (nu (3 * k + 2))), (3, .int (nu (3 * k + 1))), (2, .int (nu (3 * k))), (0, .ref (o 0)), (1, .int (nI k))]) hx hb dX8_isDone_44 hl (by decide) rfl (fun ls hl => ?_)
  refine lv_iload hx hb dX8_isDone_46 (lv_at hl 2 rfl) ?_
  refine lv_tableOut (tgt := 173) hx hb dX8_isDone_48 (by decide) (by decide) ?_
  refine lv_iload hx hb dX8_isDone_173 (lv_at hl 2 rfl) ?_
  refine lv_iconst (v := 4) hx hb dX8_isDone_175 (by decide) ?_
  refine lv_isub hx hb dX8_isDone_176 ?_
  refine x_top (v' := .int 3) (by decide) ?_
  refine lv_iload_n hx hb dX8_isDone_177 rfl (lv_at hl 5 rfl) ?_
  refine x_goR (st1 := [.int 1]) E hw [] rfl (x_runS (rest := []) E hw (c_X8_maySet_3 l g (nu (3 * k)) hv hv2) km_X8_85 ks_X8_maySet [] rfl (by decide) hl.1 rfl rfl (Nat.le_of_ble_eq_true rfl) ⟨Nat.le_of_ble_eq_true rfl, Nat.le_of_ble_eq_true rfl⟩ ⟨Nat.zero_le _, Nat.zero_le _⟩ dX8_isDone_178) rfl (fun H locs hw => ?_)
  refine lv_istore (lv' := [(6, .int 1), (7, .int 0), (5, .int 7), (4, .int (nu (3 * k + 2))), (3, .int (nu (3 * k + 1))), (2, .int (nu (3 * k))), (0, .ref (o 0)), (1, .int (nI k))]) hx hb dX8_isDone_181 hl (by decide) rfl (fun ls hl => ?_)
  refine lv_iload hx hb dX8_isDone_183 (lv_at hl 0 rfl) ?_
  refine lv_if_eq (tgt := 200) hx hb dX8_isDone_185 (by decide) (fun h => absurd h (by decide)) (fun _ => ?_)
  refine lv_aload_n hx hb dX8_isDone_188 rfl (lv_at hl 6 rfl) ?_
  refine lv_iload hx hb dX8_isDone_189 (lv_at hl 2 rfl) ?_
  refine lv_iconst (v := 4) hx hb dX8_isDone_191 (by decide) ?_
  refine lv_isub hx hb dX8_isDone_192 ?_
  refine x_top (v' := .int 3) (by decide) ?_
  refine lv_iload_n hx hb dX8_isDone_193 rfl (lv_at hl 5 rfl) ?_
  refine x_go (ws' := [(o 0, .inr (8, [.ref (o 1), .ref (o 2), .int (nI hs), .int bads, .int nos, .int fuls, .int cau, .int whe, .ref (o 3), .ref (o 4), .int (nI cnt), .int (nI p), .int fau, .int isw, .int ods, .ref (o 5), .ref (o 6)])), (o 1, .inl (g.2.1, 616, .inl (nwF (setS 3 (nu (3 * k)) v)))), (o 5, .inl (g.2.1, 24, .inl wo)), (o 6, .inl (g.2.1, 72, .inl nu))]) (st1 := [.int (v.2.2.2.2.1 3)]) E hw [0, 1] rfl (x_runV (rest := []) E hw (c_X8_set l g o hs bads nos fuls cau whe cnt p fau isw ods v 3 (nu (3 * k)) (by omega)) km_X8_89 kv_X8_set [0, 1] rfl (by decide) 0 rfl hl.1 rfl rfl (Nat.le_of_ble_eq_true rfl) ⟨Nat.le_of_ble_eq_true rfl, Nat.le_of_ble_eq_true rfl⟩ ⟨Nat.zero_le _, Nat.zero_le _⟩ dX8_isDone_194) rfl rfl rfl (fun H locs hw => ?_)
  refine lv_goto (tgt := 201) hx hb dX8_isDone_197 (by decide) ?_
  refine lv_istore (lv' := [(7, .int (v.2.2.2.2.1 3)), (6, .int 1), (5, .int 7), (4, .int (nu (3 * k + 2))), (3, .int (nu (3 * k + 1))), (2, .int (nu (3 * k))), (0, .ref (o 0)), (1, .int (nI k))]) hx hb dX8_isDone_201 hl (by decide) rfl (fun ls hl => ?_)
  refine lv_iload hx hb dX8_isDone_203 (lv_at hl 1 rfl) ?_
  refine lv_if_eq (tgt := 220) hx hb dX8_isDone_205 (by decide) (fun h => absurd h (by decide)) (fun _ => ?_)
  refine lv_iload hx hb dX8_isDone_208 (lv_at hl 0 rfl) ?_
  refine lv_sipush (v := -1000) hx hb dX8_isDone_210 (by decide) ?_
  refine lv_icmp_le (tgt := 220) hx hb dX8_isDone_213 (by decide) (fun cw => ?_) (fun cw => ?_)
  · exact absurd cw hge
  · refine lv_iconst (v := 1) hx hb dX8_isDone_216 (by decide) ?_
    refine lv_goto (tgt := 221) hx hb dX8_isDone_217 (by decide) ?_
    exact xr_z hQ E hr hw dX8_isDone_221 (by decide) ⟨rfl, rfl⟩

set_option maxRecDepth 100000 in
set_option maxHeartbeats 4000000 in
theorem c_X8_isDone_b0 (l : Launch) (g : xCfg) (o : Nat → Nat) (hs : Nat) (bads : Int32) (nos : Int32) (fuls : Int32) (cau : Int32) (whe : Int32) (cnt : Nat) (p : Nat) (fau : Int32) (isw : Int32) (ods : Int32) (v : SV) (wo : Nat → Int32) (nu : Nat → Int32) (k : Nat) (hL1 : 1 ≤ v.1) (hL : v.1 ≤ 200) (hk : k < 24) (hwd : wo k = 0) (hb0 : ¬ (5 ≤ nu (3 * k) ∧ nu (3 * k) ≤ 200)) : Ct l g yX8_isDone cX8_isDone 8 (some .boolean) (xR 4 130) [.ref (o 0), .int (nI k)] [(o 0, .inr (8, [.ref (o 1), .ref (o 2), .int (nI hs), .int bads, .int nos, .int fuls, .int cau, .int whe, .ref (o 3), .ref (o 4), .int (nI cnt), .int (nI p), .int fau, .int isw, .int ods, .ref (o 5), .ref (o 6)])), (o 1, .inl (g.2.1, 616, .inl (nwF v))), (o 5, .inl (g.2.1, 24, .inl wo)), (o 6, .inl (g.2.1, 72, .inl nu))] (is1 (some (.int 0)) [(o 0, .inr (8, [.ref (o 1), .ref (o 2), .int (nI hs), .int bads, .int nos, .int fuls, .int cau, .int whe, .ref (o 3), .ref (o 4), .int (nI cnt), .int (nI p), .int fau, .int isw, .int ods, .ref (o 5), .ref (o 6)])), (o 1, .inl (g.2.1, 616, .inl (nwF v))), (o 5, .inl (g.2.1, 24, .inl wo)), (o 6, .inl (g.2.1, 72, .inl nu))]) := by
  refine Ct.walk (by decide) (Nat.le_of_ble_eq_true rfl) ?_
  intro p0 e0 s0 m0 below meth c0 A0 ls Q hQ E hr hnm hw hl
  have hx := E.x
  have hb := E.b
  have hl : lv_has ls 8 [(0, .ref (o 0)), (1, .int (nI k))] := hl
  refine lv_aload_n hx hb dX8_isDone_0 rfl (lv_at hl 0 rfl) ?_
  refine x_get E hw kf_X8_29 0 rfl rfl dX8_isDone_1 ?_
  refine lv_iconst (v := 3) hx hb dX8_isDone_4 (by decide) ?_
  refine lv_iload_n hx hb dX8_isDone_5 rfl (lv_at hl 1 rfl) ?_
  refine xn_mul hx hb 3 k rfl rfl dX8_isDone_6 ?_
  refine x_ld (v := nu (3 * k)) E hw 3 rfl (3 * k) rfl (by omega) (by decide) rfl dX8_isDone_7 ?_
  refine lv_istore_n (lv' := [(2, .int (nu (3 * k))), (0, .ref (o 0)), (1, .int (nI k))]) hx hb dX8_isDone_8 rfl hl (by decide) rfl (fun ls hl => ?_)
  refine lv_aload_n hx hb dX8_isDone_9 rfl (lv_at hl 1 rfl) ?_
  refine x_get E hw kf_X8_29 0 rfl rfl dX8_isDone_10 ?_
  refine lv_iconst (v := 3) hx hb dX8_isDone_13 (by decide) ?_
  refine lv_iload_n hx hb dX8_isDone_14 rfl (lv_at hl 2 rfl) ?_
  refine xn_mul hx hb 3 k rfl rfl dX8_isDone_15 ?_
  refine lv_iconst (v := 1) hx hb dX8_isDone_16 (by decide) ?_
  refine xn_add hx hb (3 * k) 1 rfl rfl dX8_isDone_17 ?_
  refine x_ld (v := nu (3 * k + 1)) E hw 3 rfl (3 * k + 1) rfl (by omega) (by decide) rfl dX8_isDone_18 ?_
  refine lv_istore_n (lv' := [(3, .int (nu (3 * k + 1))), (2, .int (nu (3 * k))), (0, .ref (o 0)), (1, .int (nI k))]) hx hb dX8_isDone_19 rfl hl (by decide) rfl (fun ls hl => ?_)
  refine lv_aload_n hx hb dX8_isDone_20 rfl (lv_at hl 2 rfl) ?_
  refine x_get E hw kf_X8_29 0 rfl rfl dX8_isDone_21 ?_
  refine lv_iconst (v := 3) hx hb dX8_isDone_24 (by decide) ?_
  refine lv_iload_n hx hb dX8_isDone_25 rfl (lv_at hl 3 rfl) ?_
  refine xn_mul hx hb 3 k rfl rfl dX8_isDone_26 ?_
  refine lv_iconst (v := 2) hx hb dX8_isDone_27 (by decide) ?_
  refine xn_add hx hb (3 * k) 2 rfl rfl dX8_isDone_28 ?_
  refine x_ld (v := nu (3 * k + 2)) E hw 3 rfl (3 * k + 2) rfl (by omega) (by decide) rfl dX8_isDone_29 ?_
  refine lv_istore (lv' := [(4, .int (nu (3 * k + 2))), (3, .int (nu (3 * k + 1))), (2, .int (nu (3 * k))), (0, .ref (o 0)), (1, .int (nI k))]) hx hb dX8_isDone_30 hl (by decide) rfl (fun ls hl => ?_)
  refine lv_aload_n hx hb dX8_isDone_32 rfl (lv_at hl 3 rfl) ?_
  refine x_get E hw kf_X8_26 0 rfl rfl dX8_isDone_33 ?_
  refine lv_iload_n hx hb dX8_isDone_36 rfl (lv_at hl 4 rfl) ?_
  refine x_ld (v := 0) E hw 2 rfl k rfl (by omega) (by decide) hwd dX8_isDone_37 ?_
  refine lv_istore (lv' := [(5, .int 0), (4, .int (nu (3 * k + 2))), (3, .int (nu (3 * k + 1))), (2, .int (nu (3 * k))), (0, .ref (o 0)), (1, .int (nI k))]) hx hb dX8_isDone_38 hl (by decide) rfl (fun ls hl => ?_)
  refine lv_iconst (v := 0) hx hb dX8_isDone_40 (by decide) ?_
  refine lv_istore (lv' := [(6, .int 0), (5, .int 0), (4, .int (nu (3 * k + 2))), (3, .int (nu (3 * k + 1))), (2, .int (nu (3 * k))), (0, .ref (o 0)), (1, .int (nI k))]) hx hb dX8_isDone_41 hl (by decide) rfl (fun ls hl => ?_)
  refine lv_iconst (v := 0) hx hb dX8_isDone_43 (by decide) ?_
  refine lv_istore (lv' := [(7, .int 0), (6, .int 0), (5, .int 0), (4, .int (nu (3 * k + 2))), (3, .int (nu (3 * k + 1))), (2, .int (nu (3 * k))), (0, .ref (o 0)), (1, .int (nI k))]) hx hb dX8_isDone_44 hl (by decide) rfl (fun ls hl => ?_)
  refine lv_iload hx hb dX8_isDone_46 (lv_at hl 2 rfl) ?_
  refine x_sw (v := 0) (off := 32) (tgt := 80) hx hb dX8_isDone_48 rfl (by decide) (by decide) (by decide) (by decide) ?_
  refine lv_aload_n hx hb dX8_isDone_80 rfl (lv_at hl 6 rfl) ?_
  refine lv_iload_n hx hb dX8_isDone_81 rfl (lv_at hl 5 rfl) ?_
  refine x_goR (st1 := [.int (bI (5 ≤ (nu (3 * k)) ∧ (nu (3 * k)) ≤ 200))]) E hw [0] rfl (x_runV (rest := []) E hw (c_X8_mayLengthen l g o hs bads nos fuls cau whe cnt p fau isw ods (nu (3 * k)) ) km_X8_56 kv_X8_mayLengthen [0] rfl (by decide) 0 rfl hl.1 rfl rfl (Nat.le_of_ble_eq_true rfl) ⟨Nat.le_of_ble_eq_true rfl, Nat.le_of_ble_eq_true rfl⟩ ⟨Nat.zero_le _, Nat.zero_le _⟩ dX8_isDone_82) rfl (fun H locs hw => ?_)
  refine lv_istore (lv' := [(6, .int (bI (5 ≤ (nu (3 * k)) ∧ (nu (3 * k)) ≤ 200))), (7, .int 0), (5, .int 0), (4, .int (nu (3 * k + 2))), (3, .int (nu (3 * k + 1))), (2, .int (nu (3 * k))), (0, .ref (o 0)), (1, .int (nI k))]) hx hb dX8_isDone_85 hl (by decide) rfl (fun ls hl => ?_)
  refine lv_iload hx hb dX8_isDone_87 (lv_at hl 0 rfl) ?_
  refine xb_eq (tgt := 100) hx hb dX8_isDone_89 (by decide) (fun c1 => ?_) (fun c1 => ?_)
  · refine lv_iconst (v := 0) hx hb dX8_isDone_100 (by decide) ?_
    refine lv_istore (lv' := [(7, .int 0), (6, .int (bI (5 ≤ (nu (3 * k)) ∧ (nu (3 * k)) ≤ 200))), (5, .int 0), (4, .int (nu (3 * k + 2))), (3, .int (nu (3 * k + 1))), (2, .int (nu (3 * k))), (0, .ref (o 0)), (1, .int (nI k))]) hx hb dX8_isDone_101 hl (by decide) rfl (fun ls hl => ?_)
    refine lv_goto (tgt := 203) hx hb dX8_isDone_103 (by decide) ?_
    refine lv_iload hx hb dX8_isDone_203 (lv_at hl 1 rfl) ?_
    refine xb_eq (tgt := 220) hx hb dX8_isDone_205 (by decide) (fun c2 => ?_) (fun c2 => ?_)
    · refine lv_iconst (v := 0) hx hb dX8_isDone_220 (by decide) ?_
      exact xr_z hQ E hr hw dX8_isDone_221 (by decide) ⟨rfl, rfl⟩
    · exact absurd c2 hb0
  · exact absurd c1 hb0

set_option maxRecDepth 100000 in
set_option maxHeartbeats 4000000 in
theorem c_X8_isDone_b1 (l : Launch) (g : xCfg) (o : Nat → Nat) (hs : Nat) (bads : Int32) (nos : Int32) (fuls : Int32) (cau : Int32) (whe : Int32) (cnt : Nat) (p : Nat) (fau : Int32) (isw : Int32) (ods : Int32) (v : SV) (wo : Nat → Int32) (nu : Nat → Int32) (k : Nat) (hL1 : 1 ≤ v.1) (hL : v.1 ≤ 200) (hk : k < 24) (hwd : wo k = 1) (hb0 : ¬ layOk v.1 0 (nu (3 * k)) (nu (3 * k + 1)) (nu (3 * k + 2))) : Ct l g yX8_isDone cX8_isDone 8 (some .boolean) (xR 4 130) [.ref (o 0), .int (nI k)] [(o 0, .inr (8, [.ref (o 1), .ref (o 2), .int (nI hs), .int bads, .int nos, .int fuls, .int cau, .int whe, .ref (o 3), .ref (o 4), .int (nI cnt), .int (nI p), .int fau, .int isw, .int ods, .ref (o 5), .ref (o 6)])), (o 1, .inl (g.2.1, 616, .inl (nwF v))), (o 5, .inl (g.2.1, 24, .inl wo)), (o 6, .inl (g.2.1, 72, .inl nu))] (is1 (some (.int 0)) [(o 0, .inr (8, [.ref (o 1), .ref (o 2), .int (nI hs), .int bads, .int nos, .int fuls, .int cau, .int whe, .ref (o 3), .ref (o 4), .int (nI cnt), .int (nI p), .int fau, .int isw, .int ods, .ref (o 5), .ref (o 6)])), (o 1, .inl (g.2.1, 616, .inl (nwF v))), (o 5, .inl (g.2.1, 24, .inl wo)), (o 6, .inl (g.2.1, 72, .inl nu))]) := by
  refine Ct.walk (by decide) (Nat.le_of_ble_eq_true rfl) ?_
  intro p0 e0 s0 m0 below meth c0 A0 ls Q hQ E hr hnm hw hl
  have hx := E.x
  have hb := E.b
  have hl : lv_has ls 8 [(0, .ref (o 0)), (1, .int (nI k))] := hl
  refine lv_aload_n hx hb dX8_isDone_0 rfl (lv_at hl 0 rfl) ?_
  refine x_get E hw kf_X8_29 0 rfl rfl dX8_isDone_1 ?_
  refine lv_iconst (v := 3) hx hb dX8_isDone_4 (by decide) ?_
  refine lv_iload_n hx hb dX8_isDone_5 rfl (lv_at hl 1 rfl) ?_
  refine xn_mul hx hb 3 k rfl rfl dX8_isDone_6 ?_
  refine x_ld (v := nu (3 * k)) E hw 3 rfl (3 * k) rfl (by omega) (by decide) rfl dX8_isDone_7 ?_
  refine lv_istore_n (lv' := [(2, .int (nu (3 * k))), (0, .ref (o 0)), (1, .int (nI k))]) hx hb dX8_isDone_8 rfl hl (by decide) rfl (fun ls hl => ?_)
  refine lv_aload_n hx hb dX8_isDone_9 rfl (lv_at hl 1 rfl) ?_
  refine x_get E hw kf_X8_29 0 rfl rfl dX8_isDone_10 ?_
  refine lv_iconst (v := 3) hx hb dX8_isDone_13 (by decide) ?_
  refine lv_iload_n hx hb dX8_isDone_14 rfl (lv_at hl 2 rfl) ?_
  refine xn_mul hx hb 3 k rfl rfl dX8_isDone_15 ?_
  refine lv_iconst (v := 1) hx hb dX8_isDone_16 (by decide) ?_
  refine xn_add hx hb (3 * k) 1 rfl rfl dX8_isDone_17 ?_
  refine x_ld (v := nu (3 * k + 1)) E hw 3 rfl (3 * k + 1) rfl (by omega) (by decide) rfl dX8_isDone_18 ?_
  refine lv_istore_n (lv' := [(3, .int (nu (3 * k + 1))), (2, .int (nu (3 * k))), (0, .ref (o 0)), (1, .int (nI k))]) hx hb dX8_isDone_19 rfl hl (by decide) rfl (fun ls hl => ?_)
  refine lv_aload_n hx hb dX8_isDone_20 rfl (lv_at hl 2 rfl) ?_
  refine x_get E hw kf_X8_29 0 rfl rfl dX8_isDone_21 ?_
  refine lv_iconst (v := 3) hx hb dX8_isDone_24 (by decide) ?_
  refine lv_iload_n hx hb dX8_isDone_25 rfl (lv_at hl 3 rfl) ?_
  refine xn_mul hx hb 3 k rfl rfl dX8_isDone_26 ?_
  refine lv_iconst (v := 2) hx hb dX8_isDone_27 (by decide) ?_
  refine xn_add hx hb (3 * k) 2 rfl rfl dX8_isDone_28 ?_
  refine x_ld (v := nu (3 * k + 2)) E hw 3 rfl (3 * k + 2) rfl (by omega) (by decide) rfl dX8_isDone_29 ?_
  refine lv_istore (lv' := [(4, .int (nu (3 * k + 2))), (3, .int (nu (3 * k + 1))), (2, .int (nu (3 * k))), (0, .ref (o 0)), (1, .int (nI k))]) hx hb dX8_isDone_30 hl (by decide) rfl (fun ls hl => ?_)
  refine lv_aload_n hx hb dX8_isDone_32 rfl (lv_at hl 3 rfl) ?_
  refine x_get E hw kf_X8_26 0 rfl rfl dX8_isDone_33 ?_
  refine lv_iload_n hx hb dX8_isDone_36 rfl (lv_at hl 4 rfl) ?_
  refine x_ld (v := 1) E hw 2 rfl k rfl (by omega) (by decide) hwd dX8_isDone_37 ?_
  refine lv_istore (lv' := [(5, .int 1), (4, .int (nu (3 * k + 2))), (3, .int (nu (3 * k + 1))), (2, .int (nu (3 * k))), (0, .ref (o 0)), (1, .int (nI k))]) hx hb dX8_isDone_38 hl (by decide) rfl (fun ls hl => ?_)
  refine lv_iconst (v := 0) hx hb dX8_isDone_40 (by decide) ?_
  refine lv_istore (lv' := [(6, .int 0), (5, .int 1), (4, .int (nu (3 * k + 2))), (3, .int (nu (3 * k + 1))), (2, .int (nu (3 * k))), (0, .ref (o 0)), (1, .int (nI k))]) hx hb dX8_isDone_41 hl (by decide) rfl (fun ls hl => ?_)
  refine lv_iconst (v := 0) hx hb dX8_isDone_43 (by decide) ?_
  refine lv_istore (lv' := [(7, .int 0), (6, .int 0), (5, .int 1), (4, .int (nu (3 * k + 2))), (3, .int (nu (3 * k + 1))), (2, .int (nu (3 * k))), (0, .ref (o 0)), (1, .int (nI k))]) hx hb dX8_isDone_44 hl (by decide) rfl (fun ls hl => ?_)
  refine lv_iload hx hb dX8_isDone_46 (lv_at hl 2 rfl) ?_
  refine x_sw (v := 1) (off := 58) (tgt := 106) hx hb dX8_isDone_48 rfl (by decide) (by decide) (by decide) (by decide) ?_
  refine lv_aload_n hx hb dX8_isDone_106 rfl (lv_at hl 6 rfl) ?_
  refine lv_iload hx hb dX8_isDone_107 (lv_at hl 2 rfl) ?_
  refine lv_iconst (v := 1) hx hb dX8_isDone_109 (by decide) ?_
  refine lv_isub hx hb dX8_isDone_110 ?_
  refine x_top (v' := .int 0) (by decide) ?_
  refine lv_iload_n hx hb dX8_isDone_111 rfl (lv_at hl 5 rfl) ?_
  refine lv_iload_n hx hb dX8_isDone_112 rfl (lv_at hl 4 rfl) ?_
  refine lv_iload hx hb dX8_isDone_113 (lv_at hl 3 rfl) ?_
  refine x_goR (st1 := [.int 0]) E hw [0, 1] rfl (x_runV (rest := []) E hw (c_X8_mayLay_bad l g o hs bads nos fuls cau whe cnt p fau isw ods v 0 (nu (3 * k)) (nu (3 * k + 1)) (nu (3 * k + 2)) (by omega) hb0) km_X8_73 kv_X8_mayLay [0, 1] rfl (by decide) 0 rfl hl.1 rfl rfl (Nat.le_of_ble_eq_true rfl) ⟨Nat.le_of_ble_eq_true rfl, Nat.le_of_ble_eq_true rfl⟩ ⟨Nat.zero_le _, Nat.zero_le _⟩ dX8_isDone_115) rfl (fun H locs hw => ?_)
  refine lv_istore (lv' := [(6, .int 0), (7, .int 0), (5, .int 1), (4, .int (nu (3 * k + 2))), (3, .int (nu (3 * k + 1))), (2, .int (nu (3 * k))), (0, .ref (o 0)), (1, .int (nI k))]) hx hb dX8_isDone_118 hl (by decide) rfl (fun ls hl => ?_)
  refine lv_iload hx hb dX8_isDone_120 (lv_at hl 0 rfl) ?_
  refine lv_if_eq (tgt := 140) hx hb dX8_isDone_122 (by decide) (fun _ => ?_) (fun h => absurd h (by decide))
  refine lv_iconst (v := 0) hx hb dX8_isDone_140 (by decide) ?_
  refine lv_istore (lv' := [(7, .int 0), (6, .int 0), (5, .int 1), (4, .int (nu (3 * k + 2))), (3, .int (nu (3 * k + 1))), (2, .int (nu (3 * k))), (0, .ref (o 0)), (1, .int (nI k))]) hx hb dX8_isDone_141 hl (by decide) rfl (fun ls hl => ?_)
  refine lv_goto (tgt := 203) hx hb dX8_isDone_143 (by decide) ?_
  refine lv_iload hx hb dX8_isDone_203 (lv_at hl 1 rfl) ?_
  refine lv_if_eq (tgt := 220) hx hb dX8_isDone_205 (by decide) (fun _ => ?_) (fun h => absurd h (by decide))
  refine lv_iconst (v := 0) hx hb dX8_isDone_220 (by decide) ?_
  exact xr_z hQ E hr hw dX8_isDone_221 (by decide) ⟨rfl, rfl⟩

set_option maxRecDepth 100000 in
set_option maxHeartbeats 4000000 in
theorem c_X8_isDone_b2 (l : Launch) (g : xCfg) (o : Nat → Nat) (hs : Nat) (bads : Int32) (nos : Int32) (fuls : Int32) (cau : Int32) (whe : Int32) (cnt : Nat) (p : Nat) (fau : Int32) (isw : Int32) (ods : Int32) (v : SV) (wo : Nat → Int32) (nu : Nat → Int32) (k : Nat) (hL1 : 1 ≤ v.1) (hL : v.1 ≤ 200) (hk : k < 24) (hwd : wo k = 2) (hb0 : ¬ layOk v.1 1 (nu (3 * k)) (nu (3 * k + 1)) (nu (3 * k + 2))) : Ct l g yX8_isDone cX8_isDone 8 (some .boolean) (xR 4 130) [.ref (o 0), .int (nI k)] [(o 0, .inr (8, [.ref (o 1), .ref (o 2), .int (nI hs), .int bads, .int nos, .int fuls, .int cau, .int whe, .ref (o 3), .ref (o 4), .int (nI cnt), .int (nI p), .int fau, .int isw, .int ods, .ref (o 5), .ref (o 6)])), (o 1, .inl (g.2.1, 616, .inl (nwF v))), (o 5, .inl (g.2.1, 24, .inl wo)), (o 6, .inl (g.2.1, 72, .inl nu))] (is1 (some (.int 0)) [(o 0, .inr (8, [.ref (o 1), .ref (o 2), .int (nI hs), .int bads, .int nos, .int fuls, .int cau, .int whe, .ref (o 3), .ref (o 4), .int (nI cnt), .int (nI p), .int fau, .int isw, .int ods, .ref (o 5), .ref (o 6)])), (o 1, .inl (g.2.1, 616, .inl (nwF v))), (o 5, .inl (g.2.1, 24, .inl wo)), (o 6, .inl (g.2.1, 72, .inl nu))]) := by
  refine Ct.walk (by decide) (Nat.le_of_ble_eq_true rfl) ?_
  intro p0 e0 s0 m0 below meth c0 A0 ls Q hQ E hr hnm hw hl
  have hx := E.x
  have hb := E.b
  have hl : lv_has ls 8 [(0, .ref (o 0)), (1, .int (nI k))] := hl
  refine lv_aload_n hx hb dX8_isDone_0 rfl (lv_at hl 0 rfl) ?_
  refine x_get E hw kf_X8_29 0 rfl rfl dX8_isDone_1 ?_
  refine lv_iconst (v := 3) hx hb dX8_isDone_4 (by decide) ?_
  refine lv_iload_n hx hb dX8_isDone_5 rfl (lv_at hl 1 rfl) ?_
  refine xn_mul hx hb 3 k rfl rfl dX8_isDone_6 ?_
  refine x_ld (v := nu (3 * k)) E hw 3 rfl (3 * k) rfl (by omega) (by decide) rfl dX8_isDone_7 ?_
  refine lv_istore_n (lv' := [(2, .int (nu (3 * k))), (0, .ref (o 0)), (1, .int (nI k))]) hx hb dX8_isDone_8 rfl hl (by decide) rfl (fun ls hl => ?_)
  refine lv_aload_n hx hb dX8_isDone_9 rfl (lv_at hl 1 rfl) ?_
  refine x_get E hw kf_X8_29 0 rfl rfl dX8_isDone_10 ?_
  refine lv_iconst (v := 3) hx hb dX8_isDone_13 (by decide) ?_
  refine lv_iload_n hx hb dX8_isDone_14 rfl (lv_at hl 2 rfl) ?_
  refine xn_mul hx hb 3 k rfl rfl dX8_isDone_15 ?_
  refine lv_iconst (v := 1) hx hb dX8_isDone_16 (by decide) ?_
  refine xn_add hx hb (3 * k) 1 rfl rfl dX8_isDone_17 ?_
  refine x_ld (v := nu (3 * k + 1)) E hw 3 rfl (3 * k + 1) rfl (by omega) (by decide) rfl dX8_isDone_18 ?_
  refine lv_istore_n (lv' := [(3, .int (nu (3 * k + 1))), (2, .int (nu (3 * k))), (0, .ref (o 0)), (1, .int (nI k))]) hx hb dX8_isDone_19 rfl hl (by decide) rfl (fun ls hl => ?_)
  refine lv_aload_n hx hb dX8_isDone_20 rfl (lv_at hl 2 rfl) ?_
  refine x_get E hw kf_X8_29 0 rfl rfl dX8_isDone_21 ?_
  refine lv_iconst (v := 3) hx hb dX8_isDone_24 (by decide) ?_
  refine lv_iload_n hx hb dX8_isDone_25 rfl (lv_at hl 3 rfl) ?_
  refine xn_mul hx hb 3 k rfl rfl dX8_isDone_26 ?_
  refine lv_iconst (v := 2) hx hb dX8_isDone_27 (by decide) ?_
  refine xn_add hx hb (3 * k) 2 rfl rfl dX8_isDone_28 ?_
  refine x_ld (v := nu (3 * k + 2)) E hw 3 rfl (3 * k + 2) rfl (by omega) (by decide) rfl dX8_isDone_29 ?_
  refine lv_istore (lv' := [(4, .int (nu (3 * k + 2))), (3, .int (nu (3 * k + 1))), (2, .int (nu (3 * k))), (0, .ref (o 0)), (1, .int (nI k))]) hx hb dX8_isDone_30 hl (by decide) rfl (fun ls hl => ?_)
  refine lv_aload_n hx hb dX8_isDone_32 rfl (lv_at hl 3 rfl) ?_
  refine x_get E hw kf_X8_26 0 rfl rfl dX8_isDone_33 ?_
  refine lv_iload_n hx hb dX8_isDone_36 rfl (lv_at hl 4 rfl) ?_
  refine x_ld (v := 2) E hw 2 rfl k rfl (by omega) (by decide) hwd dX8_isDone_37 ?_
  refine lv_istore (lv' := [(5, .int 2), (4, .int (nu (3 * k + 2))), (3, .int (nu (3 * k + 1))), (2, .int (nu (3 * k))), (0, .ref (o 0)), (1, .int (nI k))]) hx hb dX8_isDone_38 hl (by decide) rfl (fun ls hl => ?_)
  refine lv_iconst (v := 0) hx hb dX8_isDone_40 (by decide) ?_
  refine lv_istore (lv' := [(6, .int 0), (5, .int 2), (4, .int (nu (3 * k + 2))), (3, .int (nu (3 * k + 1))), (2, .int (nu (3 * k))), (0, .ref (o 0)), (1, .int (nI k))]) hx hb dX8_isDone_41 hl (by decide) rfl (fun ls hl => ?_)
  refine lv_iconst (v := 0) hx hb dX8_isDone_43 (by decide) ?_
  refine lv_istore (lv' := [(7, .int 0), (6, .int 0), (5, .int 2), (4, .int (nu (3 * k + 2))), (3, .int (nu (3 * k + 1))), (2, .int (nu (3 * k))), (0, .ref (o 0)), (1, .int (nI k))]) hx hb dX8_isDone_44 hl (by decide) rfl (fun ls hl => ?_)
  refine lv_iload hx hb dX8_isDone_46 (lv_at hl 2 rfl) ?_
  refine x_sw (v := 2) (off := 58) (tgt := 106) hx hb dX8_isDone_48 rfl (by decide) (by decide) (by decide) (by decide) ?_
  refine lv_aload_n hx hb dX8_isDone_106 rfl (lv_at hl 6 rfl) ?_
  refine lv_iload hx hb dX8_isDone_107 (lv_at hl 2 rfl) ?_
  refine lv_iconst (v := 1) hx hb dX8_isDone_109 (by decide) ?_
  refine lv_isub hx hb dX8_isDone_110 ?_
  refine x_top (v' := .int 1) (by decide) ?_
  refine lv_iload_n hx hb dX8_isDone_111 rfl (lv_at hl 5 rfl) ?_
  refine lv_iload_n hx hb dX8_isDone_112 rfl (lv_at hl 4 rfl) ?_
  refine lv_iload hx hb dX8_isDone_113 (lv_at hl 3 rfl) ?_
  refine x_goR (st1 := [.int 0]) E hw [0, 1] rfl (x_runV (rest := []) E hw (c_X8_mayLay_bad l g o hs bads nos fuls cau whe cnt p fau isw ods v 1 (nu (3 * k)) (nu (3 * k + 1)) (nu (3 * k + 2)) (by omega) hb0) km_X8_73 kv_X8_mayLay [0, 1] rfl (by decide) 0 rfl hl.1 rfl rfl (Nat.le_of_ble_eq_true rfl) ⟨Nat.le_of_ble_eq_true rfl, Nat.le_of_ble_eq_true rfl⟩ ⟨Nat.zero_le _, Nat.zero_le _⟩ dX8_isDone_115) rfl (fun H locs hw => ?_)
  refine lv_istore (lv' := [(6, .int 0), (7, .int 0), (5, .int 2), (4, .int (nu (3 * k + 2))), (3, .int (nu (3 * k + 1))), (2, .int (nu (3 * k))), (0, .ref (o 0)), (1, .int (nI k))]) hx hb dX8_isDone_118 hl (by decide) rfl (fun ls hl => ?_)
  refine lv_iload hx hb dX8_isDone_120 (lv_at hl 0 rfl) ?_
  refine lv_if_eq (tgt := 140) hx hb dX8_isDone_122 (by decide) (fun _ => ?_) (fun h => absurd h (by decide))
  refine lv_iconst (v := 0) hx hb dX8_isDone_140 (by decide) ?_
  refine lv_istore (lv' := [(7, .int 0), (6, .int 0), (5, .int 2), (4, .int (nu (3 * k + 2))), (3, .int (nu (3 * k + 1))), (2, .int (nu (3 * k))), (0, .ref (o 0)), (1, .int (nI k))]) hx hb dX8_isDone_141 hl (by decide) rfl (fun ls hl => ?_)
  refine lv_goto (tgt := 203) hx hb dX8_isDone_143 (by decide) ?_
  refine lv_iload hx hb dX8_isDone_203 (lv_at hl 1 rfl) ?_
  refine lv_if_eq (tgt := 220) hx hb dX8_isDone_205 (by decide) (fun _ => ?_) (fun h => absurd h (by decide))
  refine lv_iconst (v := 0) hx hb dX8_isDone_220 (by decide) ?_
  exact xr_z hQ E hr hw dX8_isDone_221 (by decide) ⟨rfl, rfl⟩

set_option maxRecDepth 100000 in
set_option maxHeartbeats 4000000 in
theorem c_X8_isDone_b3 (l : Launch) (g : xCfg) (o : Nat → Nat) (hs : Nat) (bads : Int32) (nos : Int32) (fuls : Int32) (cau : Int32) (whe : Int32) (cnt : Nat) (p : Nat) (fau : Int32) (isw : Int32) (ods : Int32) (v : SV) (wo : Nat → Int32) (nu : Nat → Int32) (k : Nat) (hL1 : 1 ≤ v.1) (hL : v.1 ≤ 200) (hk : k < 24) (hwd : wo k = 3) (hb0 : ¬ inL v.1 (nu (3 * k))) : Ct l g yX8_isDone cX8_isDone 8 (some .boolean) (xR 4 130) [.ref (o 0), .int (nI k)] [(o 0, .inr (8, [.ref (o 1), .ref (o 2), .int (nI hs), .int bads, .int nos, .int fuls, .int cau, .int whe, .ref (o 3), .ref (o 4), .int (nI cnt), .int (nI p), .int fau, .int isw, .int ods, .ref (o 5), .ref (o 6)])), (o 1, .inl (g.2.1, 616, .inl (nwF v))), (o 5, .inl (g.2.1, 24, .inl wo)), (o 6, .inl (g.2.1, 72, .inl nu))] (is1 (some (.int 0)) [(o 0, .inr (8, [.ref (o 1), .ref (o 2), .int (nI hs), .int bads, .int nos, .int fuls, .int cau, .int whe, .ref (o 3), .ref (o 4), .int (nI cnt), .int (nI p), .int fau, .int isw, .int ods, .ref (o 5), .ref (o 6)])), (o 1, .inl (g.2.1, 616, .inl (nwF v))), (o 5, .inl (g.2.1, 24, .inl wo)), (o 6, .inl (g.2.1, 72, .inl nu))]) := by
  refine Ct.walk (by decide) (Nat.le_of_ble_eq_true rfl) ?_
  intro p0 e0 s0 m0 below meth c0 A0 ls Q hQ E hr hnm hw hl
  have hx := E.x
  have hb := E.b
  have hl : lv_has ls 8 [(0, .ref (o 0)), (1, .int (nI k))] := hl
  refine lv_aload_n hx hb dX8_isDone_0 rfl (lv_at hl 0 rfl) ?_
  refine x_get E hw kf_X8_29 0 rfl rfl dX8_isDone_1 ?_
  refine lv_iconst (v := 3) hx hb dX8_isDone_4 (by decide) ?_
  refine lv_iload_n hx hb dX8_isDone_5 rfl (lv_at hl 1 rfl) ?_
  refine xn_mul hx hb 3 k rfl rfl dX8_isDone_6 ?_
  refine x_ld (v := nu (3 * k)) E hw 3 rfl (3 * k) rfl (by omega) (by decide) rfl dX8_isDone_7 ?_
  refine lv_istore_n (lv' := [(2, .int (nu (3 * k))), (0, .ref (o 0)), (1, .int (nI k))]) hx hb dX8_isDone_8 rfl hl (by decide) rfl (fun ls hl => ?_)
  refine lv_aload_n hx hb dX8_isDone_9 rfl (lv_at hl 1 rfl) ?_
  refine x_get E hw kf_X8_29 0 rfl rfl dX8_isDone_10 ?_
  refine lv_iconst (v := 3) hx hb dX8_isDone_13 (by decide) ?_
  refine lv_iload_n hx hb dX8_isDone_14 rfl (lv_at hl 2 rfl) ?_
  refine xn_mul hx hb 3 k rfl rfl dX8_isDone_15 ?_
  refine lv_iconst (v := 1) hx hb dX8_isDone_16 (by decide) ?_
  refine xn_add hx hb (3 * k) 1 rfl rfl dX8_isDone_17 ?_
  refine x_ld (v := nu (3 * k + 1)) E hw 3 rfl (3 * k + 1) rfl (by omega) (by decide) rfl dX8_isDone_18 ?_
  refine lv_istore_n (lv' := [(3, .int (nu (3 * k + 1))), (2, .int (nu (3 * k))), (0, .ref (o 0)), (1, .int (nI k))]) hx hb dX8_isDone_19 rfl hl (by decide) rfl (fun ls hl => ?_)
  refine lv_aload_n hx hb dX8_isDone_20 rfl (lv_at hl 2 rfl) ?_
  refine x_get E hw kf_X8_29 0 rfl rfl dX8_isDone_21 ?_
  refine lv_iconst (v := 3) hx hb dX8_isDone_24 (by decide) ?_
  refine lv_iload_n hx hb dX8_isDone_25 rfl (lv_at hl 3 rfl) ?_
  refine xn_mul hx hb 3 k rfl rfl dX8_isDone_26 ?_
  refine lv_iconst (v := 2) hx hb dX8_isDone_27 (by decide) ?_
  refine xn_add hx hb (3 * k) 2 rfl rfl dX8_isDone_28 ?_
  refine x_ld (v := nu (3 * k + 2)) E hw 3 rfl (3 * k + 2) rfl (by omega) (by decide) rfl dX8_isDone_29 ?_
  refine lv_istore (lv' := [(4, .int (nu (3 * k + 2))), (3, .int (nu (3 * k + 1))), (2, .int (nu (3 * k))), (0, .ref (o 0)), (1, .int (nI k))]) hx hb dX8_isDone_30 hl (by decide) rfl (fun ls hl => ?_)
  refine lv_aload_n hx hb dX8_isDone_32 rfl (lv_at hl 3 rfl) ?_
  refine x_get E hw kf_X8_26 0 rfl rfl dX8_isDone_33 ?_
  refine lv_iload_n hx hb dX8_isDone_36 rfl (lv_at hl 4 rfl) ?_
  refine x_ld (v := 3) E hw 2 rfl k rfl (by omega) (by decide) hwd dX8_isDone_37 ?_
  refine lv_istore (lv' := [(5, .int 3), (4, .int (nu (3 * k + 2))), (3, .int (nu (3 * k + 1))), (2, .int (nu (3 * k))), (0, .ref (o 0)), (1, .int (nI k))]) hx hb dX8_isDone_38 hl (by decide) rfl (fun ls hl => ?_)
  refine lv_iconst (v := 0) hx hb dX8_isDone_40 (by decide) ?_
  refine lv_istore (lv' := [(6, .int 0), (5, .int 3), (4, .int (nu (3 * k + 2))), (3, .int (nu (3 * k + 1))), (2, .int (nu (3 * k))), (0, .ref (o 0)), (1, .int (nI k))]) hx hb dX8_isDone_41 hl (by decide) rfl (fun ls hl => ?_)
  refine lv_iconst (v := 0) hx hb dX8_isDone_43 (by decide) ?_
  refine lv_istore (lv' := [(7, .int 0), (6, .int 0), (5, .int 3), (4, .int (nu (3 * k + 2))), (3, .int (nu (3 * k + 1))), (2, .int (nu (3 * k))), (0, .ref (o 0)), (1, .int (nI k))]) hx hb dX8_isDone_44 hl (by decide) rfl (fun ls hl => ?_)
  refine lv_iload hx hb dX8_isDone_46 (lv_at hl 2 rfl) ?_
  refine x_sw (v := 3) (off := 98) (tgt := 146) hx hb dX8_isDone_48 rfl (by decide) (by decide) (by decide) (by decide) ?_
  refine lv_aload_n hx hb dX8_isDone_146 rfl (lv_at hl 6 rfl) ?_
  refine lv_iload_n hx hb dX8_isDone_147 rfl (lv_at hl 5 rfl) ?_
  refine x_goR (st1 := [.int (bI (0 ≤ (nu (3 * k)) ∧ (nu (3 * k)) ≤ nI (v.1 - 1)))]) E hw [0, 1] rfl (x_runV (rest := []) E hw (c_X8_isCell l g o hs bads nos fuls cau whe cnt p fau isw ods v (nu (3 * k)) (by omega)) km_X8_70 kv_X8_isCell [0, 1] rfl (by decide) 0 rfl hl.1 rfl rfl (Nat.le_of_ble_eq_true rfl) ⟨Nat.le_of_ble_eq_true rfl, Nat.le_of_ble_eq_true rfl⟩ ⟨Nat.zero_le _, Nat.zero_le _⟩ dX8_isDone_148) rfl (fun H locs hw => ?_)
  refine lv_istore (lv' := [(6, .int (bI (0 ≤ (nu (3 * k)) ∧ (nu (3 * k)) ≤ nI (v.1 - 1)))), (7, .int 0), (5, .int 3), (4, .int (nu (3 * k + 2))), (3, .int (nu (3 * k + 1))), (2, .int (nu (3 * k))), (0, .ref (o 0)), (1, .int (nI k))]) hx hb dX8_isDone_151 hl (by decide) rfl (fun ls hl => ?_)
  refine lv_iload hx hb dX8_isDone_153 (lv_at hl 0 rfl) ?_
  refine xb_eq (tgt := 167) hx hb dX8_isDone_155 (by decide) (fun c1 => ?_) (fun c1 => ?_)
  · refine lv_iconst (v := 0) hx hb dX8_isDone_167 (by decide) ?_
    refine lv_istore (lv' := [(7, .int 0), (6, .int (bI (0 ≤ (nu (3 * k)) ∧ (nu (3 * k)) ≤ nI (v.1 - 1)))), (5, .int 3), (4, .int (nu (3 * k + 2))), (3, .int (nu (3 * k + 1))), (2, .int (nu (3 * k))), (0, .ref (o 0)), (1, .int (nI k))]) hx hb dX8_isDone_168 hl (by decide) rfl (fun ls hl => ?_)
    refine lv_goto (tgt := 203) hx hb dX8_isDone_170 (by decide) ?_
    refine lv_iload hx hb dX8_isDone_203 (lv_at hl 1 rfl) ?_
    refine xb_eq (tgt := 220) hx hb dX8_isDone_205 (by decide) (fun c2 => ?_) (fun c2 => ?_)
    · refine lv_iconst (v := 0) hx hb dX8_isDone_220 (by decide) ?_
      exact xr_z hQ E hr hw dX8_isDone_221 (by decide) ⟨rfl, rfl⟩
    · exact absurd c2 hb0
  · exact absurd c1 hb0

set_option maxRecDepth 100000 in
set_option maxHeartbeats 4000000 in
theorem c_X8_isDone_b4 (l : Launch) (g : xCfg) (o : Nat → Nat) (hs : Nat) (bads : Int32) (nos : Int32) (fuls : Int32) (cau : Int32) (whe : Int32) (cnt : Nat) (p : Nat) (fau : Int32) (isw : Int32) (ods : Int32) (v : SV) (wo : Nat → Int32) (nu : Nat → Int32) (k : Nat) (hL1 : 1 ≤ v.1) (hL : v.1 ≤ 200) (hk : k < 24) (hwd : wo k = 4) (hb0 : ¬ setOk 0 (nu (3 * k))) : Ct l g yX8_isDone cX8_isDone 8 (some .boolean) (xR 4 130) [.ref (o 0), .int (nI k)] [(o 0, .inr (8, [.ref (o 1), .ref (o 2), .int (nI hs), .int bads, .int nos, .int fuls, .int cau, .int whe, .ref (o 3), .ref (o 4), .int (nI cnt), .int (nI p), .int fau, .int isw, .int ods, .ref (o 5), .ref (o 6)])), (o 1, .inl (g.2.1, 616, .inl (nwF v))), (o 5, .inl (g.2.1, 24, .inl wo)), (o 6, .inl (g.2.1, 72, .inl nu))] (is1 (some (.int 0)) [(o 0, .inr (8, [.ref (o 1), .ref (o 2), .int (nI hs), .int bads, .int nos, .int fuls, .int cau, .int whe, .ref (o 3), .ref (o 4), .int (nI cnt), .int (nI p), .int fau, .int isw, .int ods, .ref (o 5), .ref (o 6)])), (o 1, .inl (g.2.1, 616, .inl (nwF v))), (o 5, .inl (g.2.1, 24, .inl wo)), (o 6, .inl (g.2.1, 72, .inl nu))]) := by
  refine Ct.walk (by decide) (Nat.le_of_ble_eq_true rfl) ?_
  intro p0 e0 s0 m0 below meth c0 A0 ls Q hQ E hr hnm hw hl
  have hx := E.x
  have hb := E.b
  have hl : lv_has ls 8 [(0, .ref (o 0)), (1, .int (nI k))] := hl
  refine lv_aload_n hx hb dX8_isDone_0 rfl (lv_at hl 0 rfl) ?_
  refine x_get E hw kf_X8_29 0 rfl rfl dX8_isDone_1 ?_
  refine lv_iconst (v := 3) hx hb dX8_isDone_4 (by decide) ?_
  refine lv_iload_n hx hb dX8_isDone_5 rfl (lv_at hl 1 rfl) ?_
  refine xn_mul hx hb 3 k rfl rfl dX8_isDone_6 ?_
  refine x_ld (v := nu (3 * k)) E hw 3 rfl (3 * k) rfl (by omega) (by decide) rfl dX8_isDone_7 ?_
  refine lv_istore_n (lv' := [(2, .int (nu (3 * k))), (0, .ref (o 0)), (1, .int (nI k))]) hx hb dX8_isDone_8 rfl hl (by decide) rfl (fun ls hl => ?_)
  refine lv_aload_n hx hb dX8_isDone_9 rfl (lv_at hl 1 rfl) ?_
  refine x_get E hw kf_X8_29 0 rfl rfl dX8_isDone_10 ?_
  refine lv_iconst (v := 3) hx hb dX8_isDone_13 (by decide) ?_
  refine lv_iload_n hx hb dX8_isDone_14 rfl (lv_at hl 2 rfl) ?_
  refine xn_mul hx hb 3 k rfl rfl dX8_isDone_15 ?_
  refine lv_iconst (v := 1) hx hb dX8_isDone_16 (by decide) ?_
  refine xn_add hx hb (3 * k) 1 rfl rfl dX8_isDone_17 ?_
  refine x_ld (v := nu (3 * k + 1)) E hw 3 rfl (3 * k + 1) rfl (by omega) (by decide) rfl dX8_isDone_18 ?_
  refine lv_istore_n (lv' := [(3, .int (nu (3 * k + 1))), (2, .int (nu (3 * k))), (0, .ref (o 0)), (1, .int (nI k))]) hx hb dX8_isDone_19 rfl hl (by decide) rfl (fun ls hl => ?_)
  refine lv_aload_n hx hb dX8_isDone_20 rfl (lv_at hl 2 rfl) ?_
  refine x_get E hw kf_X8_29 0 rfl rfl dX8_isDone_21 ?_
  refine lv_iconst (v := 3) hx hb dX8_isDone_24 (by decide) ?_
  refine lv_iload_n hx hb dX8_isDone_25 rfl (lv_at hl 3 rfl) ?_
  refine xn_mul hx hb 3 k rfl rfl dX8_isDone_26 ?_
  refine lv_iconst (v := 2) hx hb dX8_isDone_27 (by decide) ?_
  refine xn_add hx hb (3 * k) 2 rfl rfl dX8_isDone_28 ?_
  refine x_ld (v := nu (3 * k + 2)) E hw 3 rfl (3 * k + 2) rfl (by omega) (by decide) rfl dX8_isDone_29 ?_
  refine lv_istore (lv' := [(4, .int (nu (3 * k + 2))), (3, .int (nu (3 * k + 1))), (2, .int (nu (3 * k))), (0, .ref (o 0)), (1, .int (nI k))]) hx hb dX8_isDone_30 hl (by decide) rfl (fun ls hl => ?_)
  refine lv_aload_n hx hb dX8_isDone_32 rfl (lv_at hl 3 rfl) ?_
  refine x_get E hw kf_X8_26 0 rfl rfl dX8_isDone_33 ?_
  refine lv_iload_n hx hb dX8_isDone_36 rfl (lv_at hl 4 rfl) ?_
  refine x_ld (v := 4) E hw 2 rfl k rfl (by omega) (by decide) hwd dX8_isDone_37 ?_
  refine lv_istore (lv' := [(5, .int 4), (4, .int (nu (3 * k + 2))), (3, .int (nu (3 * k + 1))), (2, .int (nu (3 * k))), (0, .ref (o 0)), (1, .int (nI k))]) hx hb dX8_isDone_38 hl (by decide) rfl (fun ls hl => ?_)
  refine lv_iconst (v := 0) hx hb dX8_isDone_40 (by decide) ?_
  refine lv_istore (lv' := [(6, .int 0), (5, .int 4), (4, .int (nu (3 * k + 2))), (3, .int (nu (3 * k + 1))), (2, .int (nu (3 * k))), (0, .ref (o 0)), (1, .int (nI k))]) hx hb dX8_isDone_41 hl (by decide) rfl (fun ls hl => ?_)
  refine lv_iconst (v := 0) hx hb dX8_isDone_43 (by decide) ?_
  refine lv_istore (lv' := [(7, .int 0), (6, .int 0), (5, .int 4), (4, .int (nu (3 * k + 2))), (3, .int (nu (3 * k + 1))), (2, .int (nu (3 * k))), (0, .ref (o 0)), (1, .int (nI k))]) hx hb dX8_isDone_44 hl (by decide) rfl (fun ls hl => ?_)
  refine lv_iload hx hb dX8_isDone_46 (lv_at hl 2 rfl) ?_
  refine lv_tableOut (tgt := 173) hx hb dX8_isDone_48 (by decide) (by decide) ?_
  refine lv_iload hx hb dX8_isDone_173 (lv_at hl 2 rfl) ?_
  refine lv_iconst (v := 4) hx hb dX8_isDone_175 (by decide) ?_
  refine lv_isub hx hb dX8_isDone_176 ?_
  refine x_top (v' := .int 0) (by decide) ?_
  refine lv_iload_n hx hb dX8_isDone_177 rfl (lv_at hl 5 rfl) ?_
  refine x_goR (st1 := [.int 0]) E hw [] rfl (x_runS (rest := []) E hw (c_X8_maySet_bad l g 0 (nu (3 * k)) hb0) km_X8_85 ks_X8_maySet [] rfl (by decide) hl.1 rfl rfl (Nat.le_of_ble_eq_true rfl) ⟨Nat.le_of_ble_eq_true rfl, Nat.le_of_ble_eq_true rfl⟩ ⟨Nat.zero_le _, Nat.zero_le _⟩ dX8_isDone_178) rfl (fun H locs hw => ?_)
  refine lv_istore (lv' := [(6, .int 0), (7, .int 0), (5, .int 4), (4, .int (nu (3 * k + 2))), (3, .int (nu (3 * k + 1))), (2, .int (nu (3 * k))), (0, .ref (o 0)), (1, .int (nI k))]) hx hb dX8_isDone_181 hl (by decide) rfl (fun ls hl => ?_)
  refine lv_iload hx hb dX8_isDone_183 (lv_at hl 0 rfl) ?_
  refine lv_if_eq (tgt := 200) hx hb dX8_isDone_185 (by decide) (fun _ => ?_) (fun h => absurd h (by decide))
  refine lv_iconst (v := 0) hx hb dX8_isDone_200 (by decide) ?_
  refine lv_istore (lv' := [(7, .int 0), (6, .int 0), (5, .int 4), (4, .int (nu (3 * k + 2))), (3, .int (nu (3 * k + 1))), (2, .int (nu (3 * k))), (0, .ref (o 0)), (1, .int (nI k))]) hx hb dX8_isDone_201 hl (by decide) rfl (fun ls hl => ?_)
  refine lv_iload hx hb dX8_isDone_203 (lv_at hl 1 rfl) ?_
  refine lv_if_eq (tgt := 220) hx hb dX8_isDone_205 (by decide) (fun _ => ?_) (fun h => absurd h (by decide))
  refine lv_iconst (v := 0) hx hb dX8_isDone_220 (by decide) ?_
  exact xr_z hQ E hr hw dX8_isDone_221 (by decide) ⟨rfl, rfl⟩

set_option maxRecDepth 100000 in
set_option maxHeartbeats 4000000 in
theorem c_X8_isDone_b5 (l : Launch) (g : xCfg) (o : Nat → Nat) (hs : Nat) (bads : Int32) (nos : Int32) (fuls : Int32) (cau : Int32) (whe : Int32) (cnt : Nat) (p : Nat) (fau : Int32) (isw : Int32) (ods : Int32) (v : SV) (wo : Nat → Int32) (nu : Nat → Int32) (k : Nat) (hL1 : 1 ≤ v.1) (hL : v.1 ≤ 200) (hk : k < 24) (hwd : wo k = 5) (hb0 : ¬ setOk 1 (nu (3 * k))) : Ct l g yX8_isDone cX8_isDone 8 (some .boolean) (xR 4 130) [.ref (o 0), .int (nI k)] [(o 0, .inr (8, [.ref (o 1), .ref (o 2), .int (nI hs), .int bads, .int nos, .int fuls, .int cau, .int whe, .ref (o 3), .ref (o 4), .int (nI cnt), .int (nI p), .int fau, .int isw, .int ods, .ref (o 5), .ref (o 6)])), (o 1, .inl (g.2.1, 616, .inl (nwF v))), (o 5, .inl (g.2.1, 24, .inl wo)), (o 6, .inl (g.2.1, 72, .inl nu))] (is1 (some (.int 0)) [(o 0, .inr (8, [.ref (o 1), .ref (o 2), .int (nI hs), .int bads, .int nos, .int fuls, .int cau, .int whe, .ref (o 3), .ref (o 4), .int (nI cnt), .int (nI p), .int fau, .int isw, .int ods, .ref (o 5), .ref (o 6)])), (o 1, .inl (g.2.1, 616, .inl (nwF v))), (o 5, .inl (g.2.1, 24, .inl wo)), (o 6, .inl (g.2.1, 72, .inl nu))]) := by
  refine Ct.walk (by decide) (Nat.le_of_ble_eq_true rfl) ?_
  intro p0 e0 s0 m0 below meth c0 A0 ls Q hQ E hr hnm hw hl
  have hx := E.x
  have hb := E.b
  have hl : lv_has ls 8 [(0, .ref (o 0)), (1, .int (nI k))] := hl
  refine lv_aload_n hx hb dX8_isDone_0 rfl (lv_at hl 0 rfl) ?_
  refine x_get E hw kf_X8_29 0 rfl rfl dX8_isDone_1 ?_
  refine lv_iconst (v := 3) hx hb dX8_isDone_4 (by decide) ?_
  refine lv_iload_n hx hb dX8_isDone_5 rfl (lv_at hl 1 rfl) ?_
  refine xn_mul hx hb 3 k rfl rfl dX8_isDone_6 ?_
  refine x_ld (v := nu (3 * k)) E hw 3 rfl (3 * k) rfl (by omega) (by decide) rfl dX8_isDone_7 ?_
  refine lv_istore_n (lv' := [(2, .int (nu (3 * k))), (0, .ref (o 0)), (1, .int (nI k))]) hx hb dX8_isDone_8 rfl hl (by decide) rfl (fun ls hl => ?_)
  refine lv_aload_n hx hb dX8_isDone_9 rfl (lv_at hl 1 rfl) ?_
  refine x_get E hw kf_X8_29 0 rfl rfl dX8_isDone_10 ?_
  refine lv_iconst (v := 3) hx hb dX8_isDone_13 (by decide) ?_
  refine lv_iload_n hx hb dX8_isDone_14 rfl (lv_at hl 2 rfl) ?_
  refine xn_mul hx hb 3 k rfl rfl dX8_isDone_15 ?_
  refine lv_iconst (v := 1) hx hb dX8_isDone_16 (by decide) ?_
  refine xn_add hx hb (3 * k) 1 rfl rfl dX8_isDone_17 ?_
  refine x_ld (v := nu (3 * k + 1)) E hw 3 rfl (3 * k + 1) rfl (by omega) (by decide) rfl dX8_isDone_18 ?_
  refine lv_istore_n (lv' := [(3, .int (nu (3 * k + 1))), (2, .int (nu (3 * k))), (0, .ref (o 0)), (1, .int (nI k))]) hx hb dX8_isDone_19 rfl hl (by decide) rfl (fun ls hl => ?_)
  refine lv_aload_n hx hb dX8_isDone_20 rfl (lv_at hl 2 rfl) ?_
  refine x_get E hw kf_X8_29 0 rfl rfl dX8_isDone_21 ?_
  refine lv_iconst (v := 3) hx hb dX8_isDone_24 (by decide) ?_
  refine lv_iload_n hx hb dX8_isDone_25 rfl (lv_at hl 3 rfl) ?_
  refine xn_mul hx hb 3 k rfl rfl dX8_isDone_26 ?_
  refine lv_iconst (v := 2) hx hb dX8_isDone_27 (by decide) ?_
  refine xn_add hx hb (3 * k) 2 rfl rfl dX8_isDone_28 ?_
  refine x_ld (v := nu (3 * k + 2)) E hw 3 rfl (3 * k + 2) rfl (by omega) (by decide) rfl dX8_isDone_29 ?_
  refine lv_istore (lv' := [(4, .int (nu (3 * k + 2))), (3, .int (nu (3 * k + 1))), (2, .int (nu (3 * k))), (0, .ref (o 0)), (1, .int (nI k))]) hx hb dX8_isDone_30 hl (by decide) rfl (fun ls hl => ?_)
  refine lv_aload_n hx hb dX8_isDone_32 rfl (lv_at hl 3 rfl) ?_
  refine x_get E hw kf_X8_26 0 rfl rfl dX8_isDone_33 ?_
  refine lv_iload_n hx hb dX8_isDone_36 rfl (lv_at hl 4 rfl) ?_
  refine x_ld (v := 5) E hw 2 rfl k rfl (by omega) (by decide) hwd dX8_isDone_37 ?_
  refine lv_istore (lv' := [(5, .int 5), (4, .int (nu (3 * k + 2))), (3, .int (nu (3 * k + 1))), (2, .int (nu (3 * k))), (0, .ref (o 0)), (1, .int (nI k))]) hx hb dX8_isDone_38 hl (by decide) rfl (fun ls hl => ?_)
  refine lv_iconst (v := 0) hx hb dX8_isDone_40 (by decide) ?_
  refine lv_istore (lv' := [(6, .int 0), (5, .int 5), (4, .int (nu (3 * k + 2))), (3, .int (nu (3 * k + 1))), (2, .int (nu (3 * k))), (0, .ref (o 0)), (1, .int (nI k))]) hx hb dX8_isDone_41 hl (by decide) rfl (fun ls hl => ?_)
  refine lv_iconst (v := 0) hx hb dX8_isDone_43 (by decide) ?_
  refine lv_istore (lv' := [(7, .int 0), (6, .int 0), (5, .int 5), (4, .int (nu (3 * k + 2))), (3, .int (nu (3 * k + 1))), (2, .int (nu (3 * k))), (0, .ref (o 0)), (1, .int (nI k))]) hx hb dX8_isDone_44 hl (by decide) rfl (fun ls hl => ?_)
  refine lv_iload hx hb dX8_isDone_46 (lv_at hl 2 rfl) ?_
  refine lv_tableOut (tgt := 173) hx hb dX8_isDone_48 (by decide) (by decide) ?_
  refine lv_iload hx hb dX8_isDone_173 (lv_at hl 2 rfl) ?_
  refine lv_iconst (v := 4) hx hb dX8_isDone_175 (by decide) ?_
  refine lv_isub hx hb dX8_isDone_176 ?_
  refine x_top (v' := .int 1) (by decide) ?_
  refine lv_iload_n hx hb dX8_isDone_177 rfl (lv_at hl 5 rfl) ?_
  refine x_goR (st1 := [.int 0]) E hw [] rfl (x_runS (rest := []) E hw (c_X8_maySet_bad l g 1 (nu (3 * k)) hb0) km_X8_85 ks_X8_maySet [] rfl (by decide) hl.1 rfl rfl (Nat.le_of_ble_eq_true rfl) ⟨Nat.le_of_ble_eq_true rfl, Nat.le_of_ble_eq_true rfl⟩ ⟨Nat.zero_le _, Nat.zero_le _⟩ dX8_isDone_178) rfl (fun H locs hw => ?_)
  refine lv_istore (lv' := [(6, .int 0), (7, .int 0), (5, .int 5), (4, .int (nu (3 * k + 2))), (3, .int (nu (3 * k + 1))), (2, .int (nu (3 * k))), (0, .ref (o 0)), (1, .int (nI k))]) hx hb dX8_isDone_181 hl (by decide) rfl (fun ls hl => ?_)
  refine lv_iload hx hb dX8_isDone_183 (lv_at hl 0 rfl) ?_
  refine lv_if_eq (tgt := 200) hx hb dX8_isDone_185 (by decide) (fun _ => ?_) (fun h => absurd h (by decide))
  refine lv_iconst (v := 0) hx hb dX8_isDone_200 (by decide) ?_
  refine lv_istore (lv' := [(7, .int 0), (6, .int 0), (5, .int 5), (4, .int (nu (3 * k + 2))), (3, .int (nu (3 * k + 1))), (2, .int (nu (3 * k))), (0, .ref (o 0)), (1, .int (nI k))]) hx hb dX8_isDone_201 hl (by decide) rfl (fun ls hl => ?_)
  refine lv_iload hx hb dX8_isDone_203 (lv_at hl 1 rfl) ?_
  refine lv_if_eq (tgt := 220) hx hb dX8_isDone_205 (by decide) (fun _ => ?_) (fun h => absurd h (by decide))
  refine lv_iconst (v := 0) hx hb dX8_isDone_220 (by decide) ?_
  exact xr_z hQ E hr hw dX8_isDone_221 (by decide) ⟨rfl, rfl⟩

set_option maxRecDepth 100000 in
set_option maxHeartbeats 4000000 in
theorem c_X8_isDone_b6 (l : Launch) (g : xCfg) (o : Nat → Nat) (hs : Nat) (bads : Int32) (nos : Int32) (fuls : Int32) (cau : Int32) (whe : Int32) (cnt : Nat) (p : Nat) (fau : Int32) (isw : Int32) (ods : Int32) (v : SV) (wo : Nat → Int32) (nu : Nat → Int32) (k : Nat) (hL1 : 1 ≤ v.1) (hL : v.1 ≤ 200) (hk : k < 24) (hwd : wo k = 6) (hb0 : ¬ setOk 2 (nu (3 * k))) : Ct l g yX8_isDone cX8_isDone 8 (some .boolean) (xR 4 130) [.ref (o 0), .int (nI k)] [(o 0, .inr (8, [.ref (o 1), .ref (o 2), .int (nI hs), .int bads, .int nos, .int fuls, .int cau, .int whe, .ref (o 3), .ref (o 4), .int (nI cnt), .int (nI p), .int fau, .int isw, .int ods, .ref (o 5), .ref (o 6)])), (o 1, .inl (g.2.1, 616, .inl (nwF v))), (o 5, .inl (g.2.1, 24, .inl wo)), (o 6, .inl (g.2.1, 72, .inl nu))] (is1 (some (.int 0)) [(o 0, .inr (8, [.ref (o 1), .ref (o 2), .int (nI hs), .int bads, .int nos, .int fuls, .int cau, .int whe, .ref (o 3), .ref (o 4), .int (nI cnt), .int (nI p), .int fau, .int isw, .int ods, .ref (o 5), .ref (o 6)])), (o 1, .inl (g.2.1, 616, .inl (nwF v))), (o 5, .inl (g.2.1, 24, .inl wo)), (o 6, .inl (g.2.1, 72, .inl nu))]) := by
  refine Ct.walk (by decide) (Nat.le_of_ble_eq_true rfl) ?_
  intro p0 e0 s0 m0 below meth c0 A0 ls Q hQ E hr hnm hw hl
  have hx := E.x
  have hb := E.b
  have hl : lv_has ls 8 [(0, .ref (o 0)), (1, .int (nI k))] := hl
  refine lv_aload_n hx hb dX8_isDone_0 rfl (lv_at hl 0 rfl) ?_
  refine x_get E hw kf_X8_29 0 rfl rfl dX8_isDone_1 ?_
  refine lv_iconst (v := 3) hx hb dX8_isDone_4 (by decide) ?_
  refine lv_iload_n hx hb dX8_isDone_5 rfl (lv_at hl 1 rfl) ?_
  refine xn_mul hx hb 3 k rfl rfl dX8_isDone_6 ?_
  refine x_ld (v := nu (3 * k)) E hw 3 rfl (3 * k) rfl (by omega) (by decide) rfl dX8_isDone_7 ?_
  refine lv_istore_n (lv' := [(2, .int (nu (3 * k))), (0, .ref (o 0)), (1, .int (nI k))]) hx hb dX8_isDone_8 rfl hl (by decide) rfl (fun ls hl => ?_)
  refine lv_aload_n hx hb dX8_isDone_9 rfl (lv_at hl 1 rfl) ?_
  refine x_get E hw kf_X8_29 0 rfl rfl dX8_isDone_10 ?_
  refine lv_iconst (v := 3) hx hb dX8_isDone_13 (by decide) ?_
  refine lv_iload_n hx hb dX8_isDone_14 rfl (lv_at hl 2 rfl) ?_
  refine xn_mul hx hb 3 k rfl rfl dX8_isDone_15 ?_
  refine lv_iconst (v := 1) hx hb dX8_isDone_16 (by decide) ?_
  refine xn_add hx hb (3 * k) 1 rfl rfl dX8_isDone_17 ?_
  refine x_ld (v := nu (3 * k + 1)) E hw 3 rfl (3 * k + 1) rfl (by omega) (by decide) rfl dX8_isDone_18 ?_
  refine lv_istore_n (lv' := [(3, .int (nu (3 * k + 1))), (2, .int (nu (3 * k))), (0, .ref (o 0)), (1, .int (nI k))]) hx hb dX8_isDone_19 rfl hl (by decide) rfl (fun ls hl => ?_)
  refine lv_aload_n hx hb dX8_isDone_20 rfl (lv_at hl 2 rfl) ?_
  refine x_get E hw kf_X8_29 0 rfl rfl dX8_isDone_21 ?_
  refine lv_iconst (v := 3) hx hb dX8_isDone_24 (by decide) ?_
  refine lv_iload_n hx hb dX8_isDone_25 rfl (lv_at hl 3 rfl) ?_
  refine xn_mul hx hb 3 k rfl rfl dX8_isDone_26 ?_
  refine lv_iconst (v := 2) hx hb dX8_isDone_27 (by decide) ?_
  refine xn_add hx hb (3 * k) 2 rfl rfl dX8_isDone_28 ?_
  refine x_ld (v := nu (3 * k + 2)) E hw 3 rfl (3 * k + 2) rfl (by omega) (by decide) rfl dX8_isDone_29 ?_
  refine lv_istore (lv' := [(4, .int (nu (3 * k + 2))), (3, .int (nu (3 * k + 1))), (2, .int (nu (3 * k))), (0, .ref (o 0)), (1, .int (nI k))]) hx hb dX8_isDone_30 hl (by decide) rfl (fun ls hl => ?_)
  refine lv_aload_n hx hb dX8_isDone_32 rfl (lv_at hl 3 rfl) ?_
  refine x_get E hw kf_X8_26 0 rfl rfl dX8_isDone_33 ?_
  refine lv_iload_n hx hb dX8_isDone_36 rfl (lv_at hl 4 rfl) ?_
  refine x_ld (v := 6) E hw 2 rfl k rfl (by omega) (by decide) hwd dX8_isDone_37 ?_
  refine lv_istore (lv' := [(5, .int 6), (4, .int (nu (3 * k + 2))), (3, .int (nu (3 * k + 1))), (2, .int (nu (3 * k))), (0, .ref (o 0)), (1, .int (nI k))]) hx hb dX8_isDone_38 hl (by decide) rfl (fun ls hl => ?_)
  refine lv_iconst (v := 0) hx hb dX8_isDone_40 (by decide) ?_
  refine lv_istore (lv' := [(6, .int 0), (5, .int 6), (4, .int (nu (3 * k + 2))), (3, .int (nu (3 * k + 1))), (2, .int (nu (3 * k))), (0, .ref (o 0)), (1, .int (nI k))]) hx hb dX8_isDone_41 hl (by decide) rfl (fun ls hl => ?_)
  refine lv_iconst (v := 0) hx hb dX8_isDone_43 (by decide) ?_
  refine lv_istore (lv' := [(7, .int 0), (6, .int 0), (5, .int 6), (4, .int (nu (3 * k + 2))), (3, .int (nu (3 * k + 1))), (2, .int (nu (3 * k))), (0, .ref (o 0)), (1, .int (nI k))]) hx hb dX8_isDone_44 hl (by decide) rfl (fun ls hl => ?_)
  refine lv_iload hx hb dX8_isDone_46 (lv_at hl 2 rfl) ?_
  refine lv_tableOut (tgt := 173) hx hb dX8_isDone_48 (by decide) (by decide) ?_
  refine lv_iload hx hb dX8_isDone_173 (lv_at hl 2 rfl) ?_
  refine lv_iconst (v := 4) hx hb dX8_isDone_175 (by decide) ?_
  refine lv_isub hx hb dX8_isDone_176 ?_
  refine x_top (v' := .int 2) (by decide) ?_
  refine lv_iload_n hx hb dX8_isDone_177 rfl (lv_at hl 5 rfl) ?_
  refine x_goR (st1 := [.int 0]) E hw [] rfl (x_runS (rest := []) E hw (c_X8_maySet_bad l g 2 (nu (3 * k)) hb0) km_X8_85 ks_X8_maySet [] rfl (by decide) hl.1 rfl rfl (Nat.le_of_ble_eq_true rfl) ⟨Nat.le_of_ble_eq_true rfl, Nat.le_of_ble_eq_true rfl⟩ ⟨Nat.zero_le _, Nat.zero_le _⟩ dX8_isDone_178) rfl (fun H locs hw => ?_)
  refine lv_istore (lv' := [(6, .int 0), (7, .int 0), (5, .int 6), (4, .int (nu (3 * k + 2))), (3, .int (nu (3 * k + 1))), (2, .int (nu (3 * k))), (0, .ref (o 0)), (1, .int (nI k))]) hx hb dX8_isDone_181 hl (by decide) rfl (fun ls hl => ?_)
  refine lv_iload hx hb dX8_isDone_183 (lv_at hl 0 rfl) ?_
  refine lv_if_eq (tgt := 200) hx hb dX8_isDone_185 (by decide) (fun _ => ?_) (fun h => absurd h (by decide))
  refine lv_iconst (v := 0) hx hb dX8_isDone_200 (by decide) ?_
  refine lv_istore (lv' := [(7, .int 0), (6, .int 0), (5, .int 6), (4, .int (nu (3 * k + 2))), (3, .int (nu (3 * k + 1))), (2, .int (nu (3 * k))), (0, .ref (o 0)), (1, .int (nI k))]) hx hb dX8_isDone_201 hl (by decide) rfl (fun ls hl => ?_)
  refine lv_iload hx hb dX8_isDone_203 (lv_at hl 1 rfl) ?_
  refine lv_if_eq (tgt := 220) hx hb dX8_isDone_205 (by decide) (fun _ => ?_) (fun h => absurd h (by decide))
  refine lv_iconst (v := 0) hx hb dX8_isDone_220 (by decide) ?_
  exact xr_z hQ E hr hw dX8_isDone_221 (by decide) ⟨rfl, rfl⟩

set_option maxRecDepth 100000 in
set_option maxHeartbeats 4000000 in
theorem c_X8_isDone_b7 (l : Launch) (g : xCfg) (o : Nat → Nat) (hs : Nat) (bads : Int32) (nos : Int32) (fuls : Int32) (cau : Int32) (whe : Int32) (cnt : Nat) (p : Nat) (fau : Int32) (isw : Int32) (ods : Int32) (v : SV) (wo : Nat → Int32) (nu : Nat → Int32) (k : Nat) (hL1 : 1 ≤ v.1) (hL : v.1 ≤ 200) (hk : k < 24) (hwd : wo k = 7) (hb0 : ¬ setOk 3 (nu (3 * k))) : Ct l g yX8_isDone cX8_isDone 8 (some .boolean) (xR 4 130) [.ref (o 0), .int (nI k)] [(o 0, .inr (8, [.ref (o 1), .ref (o 2), .int (nI hs), .int bads, .int nos, .int fuls, .int cau, .int whe, .ref (o 3), .ref (o 4), .int (nI cnt), .int (nI p), .int fau, .int isw, .int ods, .ref (o 5), .ref (o 6)])), (o 1, .inl (g.2.1, 616, .inl (nwF v))), (o 5, .inl (g.2.1, 24, .inl wo)), (o 6, .inl (g.2.1, 72, .inl nu))] (is1 (some (.int 0)) [(o 0, .inr (8, [.ref (o 1), .ref (o 2), .int (nI hs), .int bads, .int nos, .int fuls, .int cau, .int whe, .ref (o 3), .ref (o 4), .int (nI cnt), .int (nI p), .int fau, .int isw, .int ods, .ref (o 5), .ref (o 6)])), (o 1, .inl (g.2.1, 616, .inl (nwF v))), (o 5, .inl (g.2.1, 24, .inl wo)), (o 6, .inl (g.2.1, 72, .inl nu))]) := by
  refine Ct.walk (by decide) (Nat.le_of_ble_eq_true rfl) ?_
  intro p0 e0 s0 m0 below meth c0 A0 ls Q hQ E hr hnm hw hl
  have hx := E.x
  have hb := E.b
  have hl : lv_has ls 8 [(0, .ref (o 0)), (1, .int (nI k))] := hl
  refine lv_aload_n hx hb dX8_isDone_0 rfl (lv_at hl 0 rfl) ?_
  refine x_get E hw kf_X8_29 0 rfl rfl dX8_isDone_1 ?_
  refine lv_iconst (v := 3) hx hb dX8_isDone_4 (by decide) ?_
  refine lv_iload_n hx hb dX8_isDone_5 rfl (lv_at hl 1 rfl) ?_
  refine xn_mul hx hb 3 k rfl rfl dX8_isDone_6 ?_
  refine x_ld (v := nu (3 * k)) E hw 3 rfl (3 * k) rfl (by omega) (by decide) rfl dX8_isDone_7 ?_
  refine lv_istore_n (lv' := [(2, .int (nu (3 * k))), (0, .ref (o 0)), (1, .int (nI k))]) hx hb dX8_isDone_8 rfl hl (by decide) rfl (fun ls hl => ?_)
  refine lv_aload_n hx hb dX8_isDone_9 rfl (lv_at hl 1 rfl) ?_
  refine x_get E hw kf_X8_29 0 rfl rfl dX8_isDone_10 ?_
  refine lv_iconst (v := 3) hx hb dX8_isDone_13 (by decide) ?_
  refine lv_iload_n hx hb dX8_isDone_14 rfl (lv_at hl 2 rfl) ?_
  refine xn_mul hx hb 3 k rfl rfl dX8_isDone_15 ?_
  refine lv_iconst (v := 1) hx hb dX8_isDone_16 (by decide) ?_
  refine xn_add hx hb (3 * k) 1 rfl rfl dX8_isDone_17 ?_
  refine x_ld (v := nu (3 * k + 1)) E hw 3 rfl (3 * k + 1) rfl (by omega) (by decide) rfl dX8_isDone_18 ?_
  refine lv_istore_n (lv' := [(3, .int (nu (3 * k + 1))), (2, .int (nu (3 * k))), (0, .ref (o 0)), (1, .int (nI k))]) hx hb dX8_isDone_19 rfl hl (by decide) rfl (fun ls hl => ?_)
  refine lv_aload_n hx hb dX8_isDone_20 rfl (lv_at hl 2 rfl) ?_
  refine x_get E hw kf_X8_29 0 rfl rfl dX8_isDone_21 ?_
  refine lv_iconst (v := 3) hx hb dX8_isDone_24 (by decide) ?_
  refine lv_iload_n hx hb dX8_isDone_25 rfl (lv_at hl 3 rfl) ?_
  refine xn_mul hx hb 3 k rfl rfl dX8_isDone_26 ?_
  refine lv_iconst (v := 2) hx hb dX8_isDone_27 (by decide) ?_
  refine xn_add hx hb (3 * k) 2 rfl rfl dX8_isDone_28 ?_
  refine x_ld (v := nu (3 * k + 2)) E hw 3 rfl (3 * k + 2) rfl (by omega) (by decide) rfl dX8_isDone_29 ?_
  refine lv_istore (lv' := [(4, .int (nu (3 * k + 2))), (3, .int (nu (3 * k + 1))), (2, .int (nu (3 * k))), (0, .ref (o 0)), (1, .int (nI k))]) hx hb dX8_isDone_30 hl (by decide) rfl (fun ls hl => ?_)
  refine lv_aload_n hx hb dX8_isDone_32 rfl (lv_at hl 3 rfl) ?_
  refine x_get E hw kf_X8_26 0 rfl rfl dX8_isDone_33 ?_
  refine lv_iload_n hx hb dX8_isDone_36 rfl (lv_at hl 4 rfl) ?_
  refine x_ld (v := 7) E hw 2 rfl k rfl (by omega) (by decide) hwd dX8_isDone_37 ?_
  refine lv_istore (lv' := [(5, .int 7), (4, .int (nu (3 * k + 2))), (3, .int (nu (3 * k + 1))), (2, .int (nu (3 * k))), (0, .ref (o 0)), (1, .int (nI k))]) hx hb dX8_isDone_38 hl (by decide) rfl (fun ls hl => ?_)
  refine lv_iconst (v := 0) hx hb dX8_isDone_40 (by decide) ?_
  refine lv_istore (lv' := [(6, .int 0), (5, .int 7), (4, .int (nu (3 * k + 2))), (3, .int (nu (3 * k + 1))), (2, .int (nu (3 * k))), (0, .ref (o 0)), (1, .int (nI k))]) hx hb dX8_isDone_41 hl (by decide) rfl (fun ls hl => ?_)
  refine lv_iconst (v := 0) hx hb dX8_isDone_43 (by decide) ?_
  refine lv_istore (lv' := [(7, .int 0), (6, .int 0), (5, .int 7), (4, .int (nu (3 * k + 2))), (3, .int (nu (3 * k + 1))), (2, .int (nu (3 * k))), (0, .ref (o 0)), (1, .int (nI k))]) hx hb dX8_isDone_44 hl (by decide) rfl (fun ls hl => ?_)
  refine lv_iload hx hb dX8_isDone_46 (lv_at hl 2 rfl) ?_
  refine lv_tableOut (tgt := 173) hx hb dX8_isDone_48 (by decide) (by decide) ?_
  refine lv_iload hx hb dX8_isDone_173 (lv_at hl 2 rfl) ?_
  refine lv_iconst (v := 4) hx hb dX8_isDone_175 (by decide) ?_
  refine lv_isub hx hb dX8_isDone_176 ?_
  refine x_top (v' := .int 3) (by decide) ?_
  refine lv_iload_n hx hb dX8_isDone_177 rfl (lv_at hl 5 rfl) ?_
  refine x_goR (st1 := [.int 0]) E hw [] rfl (x_runS (rest := []) E hw (c_X8_maySet_bad l g 3 (nu (3 * k)) hb0) km_X8_85 ks_X8_maySet [] rfl (by decide) hl.1 rfl rfl (Nat.le_of_ble_eq_true rfl) ⟨Nat.le_of_ble_eq_true rfl, Nat.le_of_ble_eq_true rfl⟩ ⟨Nat.zero_le _, Nat.zero_le _⟩ dX8_isDone_178) rfl (fun H locs hw => ?_)
  refine lv_istore (lv' := [(6, .int 0), (7, .int 0), (5, .int 7), (4, .int (nu (3 * k + 2))), (3, .int (nu (3 * k + 1))), (2, .int (nu (3 * k))), (0, .ref (o 0)), (1, .int (nI k))]) hx hb dX8_isDone_181 hl (by decide) rfl (fun ls hl => ?_)
  refine lv_iload hx hb dX8_isDone_183 (lv_at hl 0 rfl) ?_
  refine lv_if_eq (tgt := 200) hx hb dX8_isDone_185 (by decide) (fun _ => ?_) (fun h => absurd h (by decide))
  refine lv_iconst (v := 0) hx hb dX8_isDone_200 (by decide) ?_
  refine lv_istore (lv' := [(7, .int 0), (6, .int 0), (5, .int 7), (4, .int (nu (3 * k + 2))), (3, .int (nu (3 * k + 1))), (2, .int (nu (3 * k))), (0, .ref (o 0)), (1, .int (nI k))]) hx hb dX8_isDone_201 hl (by decide) rfl (fun ls hl => ?_)
  refine lv_iload hx hb dX8_isDone_203 (lv_at hl 1 rfl) ?_
  refine lv_if_eq (tgt := 220) hx hb dX8_isDone_205 (by decide) (fun _ => ?_) (fun h => absurd h (by decide))
  refine lv_iconst (v := 0) hx hb dX8_isDone_220 (by decide) ?_
  exact xr_z hQ E hr hw dX8_isDone_221 (by decide) ⟨rfl, rfl⟩

set_option maxRecDepth 100000 in
set_option maxHeartbeats 4000000 in
theorem c_X8_leaves_6 (l : Launch) (g : xCfg) (o : Nat → Nat) (bads : Int32) (nos : Int32) (fuls : Int32) (cau : Int32) (whe : Int32) (cnt : Nat) (p : Nat) (fau : Int32) (isw : Int32) (ods : Int32) (v : SV) (P : Nat → SV)  : Ct l g yX8_leaves cX8_leaves 2 none (xR 0 0) [.ref (o 0)] [(o 0, .inr (8, [.ref (o 1), .ref (o 2), .int 6, .int bads, .int nos, .int fuls, .int cau, .int whe, .ref (o 3), .ref (o 4), .int (nI cnt), .int (nI p), .int fau, .int isw, .int ods, .ref (o 5), .ref (o 6)])), (o 1, .inl (g.2.1, 616, .inl (nwF v))), (o 2, .inl (g.2.1, 4312, .inl (pF P)))] (is1 none [(o 0, .inr (8, [.ref (o 1), .ref (o 2), .int 6, .int bads, .int nos, .int fuls, .int cau, .int whe, .ref (o 3), .ref (o 4), .int (nI cnt), .int (nI p), .int fau, .int isw, .int ods, .ref (o 5), .ref (o 6)])), (o 1, .inl (g.2.1, 616, .inl (nwF v))), (o 2, .inl (g.2.1, 4312, .inl (pF (va_up (shP P) 5 (shP P 6)))))]) := by
  refine Ct.walk (by decide) (Nat.le_of_ble_eq_true rfl) ?_
  intro p0 e0 s0 m0 below meth c0 A0 ls Q hQ E hr hnm hw hl
  have hx := E.x
  have hb := E.b
  have hl : lv_has ls 2 [(0, .ref (o 0))] := hl
  refine lv_aload_n hx hb dX8_leaves_0 rfl (lv_at hl 0 rfl) ?_
  refine x_get E hw kf_X8_38 0 rfl rfl dX8_leaves_1 ?_
  refine lv_bipush (v := 6) hx hb dX8_leaves_4 (by decide) ?_
  refine lv_icmp_ne (tgt := 50) hx hb dX8_leaves_6 (by decide) (fun h => absurd h (by decide)) (fun _ => ?_)
  refine lv_iconst (v := 0) hx hb dX8_leaves_9 (by decide) ?_
  refine lv_istore_n (lv' := [(1, .int 0), (0, .ref (o 0))]) hx hb dX8_leaves_10 rfl hl (by decide) rfl (fun ls hl => ?_)
  have lp_11 : ∀ (fuel : Nat) (j : Nat), 3080 - j < fuel → j ≤ 3080 → ∀ (H : Heap) (locs : List Loc) (ls : Array Slot), xW g A0 s0 [(o 0, .inr (8, [.ref (o 1), .ref (o 2), .int 6, .int bads, .int nos, .int fuls, .int cau, .int whe, .ref (o 3), .ref (o 4), .int (nI cnt), .int (nI p), .int fau, .int isw, .int ods, .ref (o 5), .ref (o 6)])), (o 1, .inl (g.2.1, 616, .inl (nwF v))), (o 2, .inl (g.2.1, 4312, .inl (shF P j)))] H locs → lv_has ls 2 [(1, .int (nI j)), (0, .ref (o 0))] → W p0 l e0 (xR 0 0) s0 m0 [.ref (o 0)].toArray below meth c0 H locs 0 0 Q (F0 m0 11 ls []) := by
    intro fuel
    induction fuel with
    | zero => intro j hm; exact absurd hm (Nat.not_lt_zero _)
    | succ fuel ih =>
      intro j hm hj H locs ls hw hl
      refine lv_iload_n hx hb dX8_leaves_11 rfl (lv_at hl 0 rfl) ?_
      refine lv_sipush (v := 3080) hx hb dX8_leaves_12 (by decide) ?_
      refine xn_ge (tgt := 40) hx hb j 3080 rfl rfl (by omega) (by omega) dX8_leaves_15 (by decide) (fun c_2 => ?_) (fun c_2 => ?_)
      · obtain rfl : j = 3080 := by omega
        have hw := hw.arr (f' := (pF (shP P))) (ws' := [(o 0, .inr (8, [.ref (o 1), .ref (o 2), .int 6, .int bads, .int nos, .int fuls, .int cau, .int whe, .ref (o 3), .ref (o 4), .int (nI cnt), .int (nI p), .int fau, .int isw, .int ods, .ref (o 5), .ref (o 6)])), (o 1, .inl (g.2.1, 616, .inl (nwF v))), (o 2, .inl (g.2.1, 4312, .inl (pF (shP P))))]) 2 rfl (fun j _ => shF_e P j) rfl
        refine lv_aload_n hx hb dX8_leaves_40 rfl (lv_at hl 1 rfl) ?_
        refine lv_dup hx hb dX8_leaves_41 rfl ?_
        refine x_get E hw kf_X8_38 0 rfl rfl dX8_leaves_42 ?_
        refine lv_iconst (v := 1) hx hb dX8_leaves_45 (by decide) ?_
        refine lv_isub hx hb dX8_leaves_46 ?_
        refine x_top (v' := .int 5) (by decide) ?_
        refine x_put E hw kf_X8_38 kp_X8_2 0 rfl (ty := .int) (by decide +kernel) rfl rfl (by simp) (ws' := [(o 0, .inr (8, [.ref (o 1), .ref (o 2), .int 5, .int bads, .int nos, .int fuls, .int cau, .int whe, .ref (o 3), .ref (o 4), .int (nI cnt), .int (nI p), .int fau, .int isw, .int ods, .ref (o 5), .ref (o 6)])), (o 1, .inl (g.2.1, 616, .inl (nwF v))), (o 2, .inl (g.2.1, 4312, .inl (pF (shP P))))]) rfl dX8_leaves_47 (fun H locs hw => ?_)
        refine lv_iconst (v := 0) hx hb dX8_leaves_50 (by decide) ?_
        refine lv_istore_n (lv' := [(1, .int 0), (0, .ref (o 0))]) hx hb dX8_leaves_51 rfl hl (by decide) rfl (fun ls hl => ?_)
        have lp_52 : ∀ (fuel : Nat) (y : Nat), 616 - y < fuel → y ≤ 616 → ∀ (H : Heap) (locs : List Loc) (ls : Array Slot), xW g A0 s0 [(o 0, .inr (8, [.ref (o 1), .ref (o 2), .int 5, .int bads, .int nos, .int fuls, .int cau, .int whe, .ref (o 3), .ref (o 4), .int (nI cnt), .int (nI p), .int fau, .int isw, .int ods, .ref (o 5), .ref (o 6)])), (o 1, .inl (g.2.1, 616, .inl (nwF v))), (o 2, .inl (g.2.1, 4312, .inl (lvF (shP P) 5 y)))] H locs → lv_has ls 2 [(1, .int (nI y)), (0, .ref (o 0))] → W p0 l e0 (xR 0 0) s0 m0 [.ref (o 0)].toArray below meth c0 H locs 0 0 Q (F0 m0 52 ls []) := by
          intro fuel
          induction fuel with
          | zero => intro y hm; exact absurd hm (Nat.not_lt_zero _)
          | succ fuel ih =>
            intro y hm hy H locs ls hw hl
            refine lv_iload_n hx hb dX8_leaves_52 rfl (lv_at hl 0 rfl) ?_
            refine lv_sipush (v := 616) hx hb dX8_leaves_53 (by decide) ?_
            refine xn_ge (tgt := 90) hx hb y 616 rfl rfl (by omega) (by omega) dX8_leaves_56 (by decide) (fun c_3 => ?_) (fun c_3 => ?_)
            · obtain rfl : y = 616 := by omega
              have hw := hw.arr (f' := (pF (va_up (shP P) 5 (shP P 6)))) (ws' := [(o 0, .inr (8, [.ref (o 1), .ref (o 2), .int 5, .int bads, .int nos, .int fuls, .int cau, .int whe, .ref (o 3), .ref (o 4), .int (nI cnt), .int (nI p), .int fau, .int isw, .int ods, .ref (o 5), .ref (o 6)])), (o 1, .inl (g.2.1, 616, .inl (nwF v))), (o 2, .inl (g.2.1, 4312, .inl (pF (va_up (shP P) 5 (shP P 6)))))]) 2 rfl (fun j _ => lvF_e (shP P) 5 j) rfl
              refine lv_aload_n hx hb dX8_leaves_90 rfl (lv_at hl 1 rfl) ?_
              refine lv_dup hx hb dX8_leaves_91 rfl ?_
              refine x_get E hw kf_X8_38 0 rfl rfl dX8_leaves_92 ?_
              refine lv_iconst (v := 1) hx hb dX8_leaves_95 (by decide) ?_
              refine xn_add hx hb 5 1 rfl rfl dX8_leaves_96 ?_
              refine x_topi (x' := 6) rfl ?_
              refine x_put E hw kf_X8_38 kp_X8_2 0 rfl (ty := .int) (by decide +kernel) rfl rfl (by simp) (ws' := [(o 0, .inr (8, [.ref (o 1), .ref (o 2), .int 6, .int bads, .int nos, .int fuls, .int cau, .int whe, .ref (o 3), .ref (o 4), .int (nI cnt), .int (nI p), .int fau, .int isw, .int ods, .ref (o 5), .ref (o 6)])), (o 1, .inl (g.2.1, 616, .inl (nwF v))), (o 2, .inl (g.2.1, 4312, .inl (pF (va_up (shP P) 5 (shP P 6)))))]) rfl dX8_leaves_97 (fun H locs hw => ?_)
              exact xr_v hQ E hr hw dX8_leaves_100 ⟨rfl, rfl⟩
            · refine lv_aload_n hx hb dX8_leaves_59 rfl (lv_at hl 1 rfl) ?_
              refine x_get E hw kf_X8_13 0 rfl rfl dX8_leaves_60 ?_
              refine lv_sipush (v := 616) hx hb dX8_leaves_63 (by decide) ?_
              refine lv_aload_n hx hb dX8_leaves_66 rfl (lv_at hl 1 rfl) ?_
              refine x_get E hw kf_X8_38 0 rfl rfl dX8_leaves_67 ?_
              refine xn_mul hx hb 616 5 rfl rfl dX8_leaves_70 ?_
              refine x_topi (x' := 3080) rfl ?_
              refine lv_iload_n hx hb dX8_leaves_71 rfl (lv_at hl 0 rfl) ?_
              refine xn_add hx hb 3080 y rfl rfl dX8_leaves_72 ?_
              refine lv_aload_n hx hb dX8_leaves_73 rfl (lv_at hl 1 rfl) ?_
              refine x_get E hw kf_X8_13 0 rfl rfl dX8_leaves_74 ?_
              refine lv_sipush (v := 3696) hx hb dX8_leaves_77 (by decide) ?_
              refine lv_iload_n hx hb dX8_leaves_80 rfl (lv_at hl 0 rfl) ?_
              refine xn_add hx hb 3696 y rfl rfl dX8_leaves_81 ?_
              refine x_ld (v := nwF (shP P 6) y) E hw 2 rfl (3696 + y) rfl (by omega) (by decide) (lvF_r (shP P) (by decide) (by omega)) dX8_leaves_82 ?_
              refine x_ist E hw 2 rfl (3080 + y) rfl (by omega) (by decide) (ws' := [(o 0, .inr (8, [.ref (o 1), .ref (o 2), .int 5, .int bads, .int nos, .int fuls, .int cau, .int whe, .ref (o 3), .ref (o 4), .int (nI cnt), .int (nI p), .int fau, .int isw, .int ods, .ref (o 5), .ref (o 6)])), (o 1, .inl (g.2.1, 616, .inl (nwF v))), (o 2, .inl (g.2.1, 4312, .inl (upd (lvF (shP P) 5 y) (3080 + y) (nwF (shP P 6) y))))]) rfl dX8_leaves_83 (fun H locs hw => ?_)
              refine lv_iinc (v := nI (y + 1)) (lv' := [(1, .int (nI (y + 1))), (0, .ref (o 0))]) hx hb dX8_leaves_84 hl (k := 0) rfl (nI_1 _) (by decide) rfl (fun ls hl => ?_)
              refine lv_goto (tgt := 52) hx hb dX8_leaves_87 (by decide) ?_
              have hw := hw.arr (f' := (lvF (shP P) 5 (y + 1))) (ws' := [(o 0, .inr (8, [.ref (o 1), .ref (o 2), .int 5, .int bads, .int nos, .int fuls, .int cau, .int whe, .ref (o 3), .ref (o 4), .int (nI cnt), .int (nI p), .int fau, .int isw, .int ods, .ref (o 5), .ref (o 6)])), (o 1, .inl (g.2.1, 616, .inl (nwF v))), (o 2, .inl (g.2.1, 4312, .inl (lvF (shP P) 5 (y + 1))))]) 2 rfl (fun z _ => lvF_s (shP P) 5 y z) rfl
              have hl : lv_has ls 2 [(1, .int (nI (y + 1))), (0, .ref (o 0))] := lv_sub hl [0, 1] rfl
              have hl : lv_has ls 2 [(1, .int (nI (y + 1))), (0, .ref (o 0))] := hl
              have hw : xW g A0 s0 [(o 0, .inr (8, [.ref (o 1), .ref (o 2), .int 5, .int bads, .int nos, .int fuls, .int cau, .int whe, .ref (o 3), .ref (o 4), .int (nI cnt), .int (nI p), .int fau, .int isw, .int ods, .ref (o 5), .ref (o 6)])), (o 1, .inl (g.2.1, 616, .inl (nwF v))), (o 2, .inl (g.2.1, 4312, .inl (lvF (shP P) 5 (y + 1))))] _ _ := hw
              exact ih (y + 1) (by omega) (by omega) _ _ _ hw hl
        have hw := hw.arr (f' := (lvF (shP P) 5 0)) (ws' := [(o 0, .inr (8, [.ref (o 1), .ref (o 2), .int 5, .int bads, .int nos, .int fuls, .int cau, .int whe, .ref (o 3), .ref (o 4), .int (nI cnt), .int (nI p), .int fau, .int isw, .int ods, .ref (o 5), .ref (o 6)])), (o 1, .inl (g.2.1, 616, .inl (nwF v))), (o 2, .inl (g.2.1, 4312, .inl (lvF (shP P) 5 0)))]) 2 rfl (fun j _ => (lvF_0 (shP P) 5 j).symm) rfl
        have hl : lv_has ls 2 [(1, .int 0), (0, .ref (o 0))] := lv_sub hl [0, 1] rfl
        have hl : lv_has ls 2 [(1, .int 0), (0, .ref (o 0))] := hl
        have hw : xW g A0 s0 [(o 0, .inr (8, [.ref (o 1), .ref (o 2), .int 5, .int bads, .int nos, .int fuls, .int cau, .int whe, .ref (o 3), .ref (o 4), .int (nI cnt), .int (nI p), .int fau, .int isw, .int ods, .ref (o 5), .ref (o 6)])), (o 1, .inl (g.2.1, 616, .inl (nwF v))), (o 2, .inl (g.2.1, 4312, .inl (lvF (shP P) 5 0)))] _ _ := hw
        exact lp_52 ((616 - 0) + 1) 0 (Nat.lt_succ_self _) (by omega) _ _ _ hw hl
      · refine lv_aload_n hx hb dX8_leaves_18 rfl (lv_at hl 1 rfl) ?_
        refine x_get E hw kf_X8_13 0 rfl rfl dX8_leaves_19 ?_
        refine lv_iload_n hx hb dX8_leaves_22 rfl (lv_at hl 0 rfl) ?_
        refine lv_aload_n hx hb dX8_leaves_23 rfl (lv_at hl 1 rfl) ?_
        refine x_get E hw kf_X8_13 0 rfl rfl dX8_leaves_24 ?_
        refine lv_iload_n hx hb dX8_leaves_27 rfl (lv_at hl 0 rfl) ?_
        refine lv_sipush (v := 616) hx hb dX8_leaves_28 (by decide) ?_
        refine xn_add hx hb j 616 rfl rfl dX8_leaves_31 ?_
        refine x_ld (v := pF P (j + 616)) E hw 2 rfl (j + 616) rfl (by omega) (by decide) (shF_r P j) dX8_leaves_32 ?_
        refine x_ist E hw 2 rfl j rfl (by omega) (by decide) (ws' := [(o 0, .inr (8, [.ref (o 1), .ref (o 2), .int 6, .int bads, .int nos, .int fuls, .int cau, .int whe, .ref (o 3), .ref (o 4), .int (nI cnt), .int (nI p), .int fau, .int isw, .int ods, .ref (o 5), .ref (o 6)])), (o 1, .inl (g.2.1, 616, .inl (nwF v))), (o 2, .inl (g.2.1, 4312, .inl (upd (shF P j) j (pF P (j + 616)))))]) rfl dX8_leaves_33 (fun H locs hw => ?_)
        refine lv_iinc (v := nI (j + 1)) (lv' := [(1, .int (nI (j + 1))), (0, .ref (o 0))]) hx hb dX8_leaves_34 hl (k := 0) rfl (nI_1 _) (by decide) rfl (fun ls hl => ?_)
        refine lv_goto (tgt := 11) hx hb dX8_leaves_37 (by decide) ?_
        have hw := hw.arr (f' := (shF P (j + 1))) (ws' := [(o 0, .inr (8, [.ref (o 1), .ref (o 2), .int 6, .int bads, .int nos, .int fuls, .int cau, .int whe, .ref (o 3), .ref (o 4), .int (nI cnt), .int (nI p), .int fau, .int isw, .int ods, .ref (o 5), .ref (o 6)])), (o 1, .inl (g.2.1, 616, .inl (nwF v))), (o 2, .inl (g.2.1, 4312, .inl (shF P (j + 1))))]) 2 rfl (fun z _ => shF_s P j z) rfl
        have hl : lv_has ls 2 [(1, .int (nI (j + 1))), (0, .ref (o 0))] := lv_sub hl [0, 1] rfl
        have hl : lv_has ls 2 [(1, .int (nI (j + 1))), (0, .ref (o 0))] := hl
        have hw : xW g A0 s0 [(o 0, .inr (8, [.ref (o 1), .ref (o 2), .int 6, .int bads, .int nos, .int fuls, .int cau, .int whe, .ref (o 3), .ref (o 4), .int (nI cnt), .int (nI p), .int fau, .int isw, .int ods, .ref (o 5), .ref (o 6)])), (o 1, .inl (g.2.1, 616, .inl (nwF v))), (o 2, .inl (g.2.1, 4312, .inl (shF P (j + 1))))] _ _ := hw
        exact ih (j + 1) (by omega) (by omega) _ _ _ hw hl
  have hw := hw.arr (f' := (shF P 0)) (ws' := [(o 0, .inr (8, [.ref (o 1), .ref (o 2), .int 6, .int bads, .int nos, .int fuls, .int cau, .int whe, .ref (o 3), .ref (o 4), .int (nI cnt), .int (nI p), .int fau, .int isw, .int ods, .ref (o 5), .ref (o 6)])), (o 1, .inl (g.2.1, 616, .inl (nwF v))), (o 2, .inl (g.2.1, 4312, .inl (shF P 0)))]) 2 rfl (fun j _ => (shF_0 P j).symm) rfl
  have hl : lv_has ls 2 [(1, .int 0), (0, .ref (o 0))] := lv_sub hl [0, 1] rfl
  have hl : lv_has ls 2 [(1, .int 0), (0, .ref (o 0))] := hl
  have hw : xW g A0 s0 [(o 0, .inr (8, [.ref (o 1), .ref (o 2), .int 6, .int bads, .int nos, .int fuls, .int cau, .int whe, .ref (o 3), .ref (o 4), .int (nI cnt), .int (nI p), .int fau, .int isw, .int ods, .ref (o 5), .ref (o 6)])), (o 1, .inl (g.2.1, 616, .inl (nwF v))), (o 2, .inl (g.2.1, 4312, .inl (shF P 0)))] _ _ := hw
  exact lp_11 ((3080 - 0) + 1) 0 (Nat.lt_succ_self _) (by omega) _ _ _ hw hl

set_option maxRecDepth 100000 in
set_option maxHeartbeats 4000000 in
theorem c_X8_leaves_s (l : Launch) (g : xCfg) (o : Nat → Nat) (hs : Nat) (bads : Int32) (nos : Int32) (fuls : Int32) (cau : Int32) (whe : Int32) (cnt : Nat) (p : Nat) (fau : Int32) (isw : Int32) (ods : Int32) (v : SV) (P : Nat → SV) (hh : hs < 6) : Ct l g yX8_leaves cX8_leaves 2 none (xR 0 0) [.ref (o 0)] [(o 0, .inr (8, [.ref (o 1), .ref (o 2), .int (nI hs), .int bads, .int nos, .int fuls, .int cau, .int whe, .ref (o 3), .ref (o 4), .int (nI cnt), .int (nI p), .int fau, .int isw, .int ods, .ref (o 5), .ref (o 6)])), (o 1, .inl (g.2.1, 616, .inl (nwF v))), (o 2, .inl (g.2.1, 4312, .inl (pF P)))] (is1 none [(o 0, .inr (8, [.ref (o 1), .ref (o 2), .int (nI (hs + 1)), .int bads, .int nos, .int fuls, .int cau, .int whe, .ref (o 3), .ref (o 4), .int (nI cnt), .int (nI p), .int fau, .int isw, .int ods, .ref (o 5), .ref (o 6)])), (o 1, .inl (g.2.1, 616, .inl (nwF v))), (o 2, .inl (g.2.1, 4312, .inl (pF (va_up P hs (P 6)))))]) := by
  refine Ct.walk (by decide) (Nat.le_of_ble_eq_true rfl) ?_
  intro p0 e0 s0 m0 below meth c0 A0 ls Q hQ E hr hnm hw hl
  have hx := E.x
  have hb := E.b
  have hl : lv_has ls 2 [(0, .ref (o 0))] := hl
  refine lv_aload_n hx hb dX8_leaves_0 rfl (lv_at hl 0 rfl) ?_
  refine x_get E hw kf_X8_38 0 rfl rfl dX8_leaves_1 ?_
  refine lv_bipush (v := 6) hx hb dX8_leaves_4 (by decide) ?_
  refine xn_ne (tgt := 50) hx hb hs 6 rfl rfl (by omega) (by omega) dX8_leaves_6 (by decide) (fun c_1 => ?_) (fun c_1 => ?_)
  · refine lv_iconst (v := 0) hx hb dX8_leaves_50 (by decide) ?_
    refine lv_istore_n (lv' := [(1, .int 0), (0, .ref (o 0))]) hx hb dX8_leaves_51 rfl hl (by decide) rfl (fun ls hl => ?_)
    have lp_52 : ∀ (fuel : Nat) (y : Nat), 616 - y < fuel → y ≤ 616 → ∀ (H : Heap) (locs : List Loc) (ls : Array Slot), xW g A0 s0 [(o 0, .inr (8, [.ref (o 1), .ref (o 2), .int (nI hs), .int bads, .int nos, .int fuls, .int cau, .int whe, .ref (o 3), .ref (o 4), .int (nI cnt), .int (nI p), .int fau, .int isw, .int ods, .ref (o 5), .ref (o 6)])), (o 1, .inl (g.2.1, 616, .inl (nwF v))), (o 2, .inl (g.2.1, 4312, .inl (lvF P hs y)))] H locs → lv_has ls 2 [(1, .int (nI y)), (0, .ref (o 0))] → W p0 l e0 (xR 0 0) s0 m0 [.ref (o 0)].toArray below meth c0 H locs 0 0 Q (F0 m0 52 ls []) := by
      intro fuel
      induction fuel with
      | zero => intro y hm; exact absurd hm (Nat.not_lt_zero _)
      | succ fuel ih =>
        intro y hm hy H locs ls hw hl
        refine lv_iload_n hx hb dX8_leaves_52 rfl (lv_at hl 0 rfl) ?_
        refine lv_sipush (v := 616) hx hb dX8_leaves_53 (by decide) ?_
        refine xn_ge (tgt := 90) hx hb y 616 rfl rfl (by omega) (by omega) dX8_leaves_56 (by decide) (fun c_2 => ?_) (fun c_2 => ?_)
        · obtain rfl : y = 616 := by omega
          have hw := hw.arr (f' := (pF (va_up P hs (P 6)))) (ws' := [(o 0, .inr (8, [.ref (o 1), .ref (o 2), .int (nI hs), .int bads, .int nos, .int fuls, .int cau, .int whe, .ref (o 3), .ref (o 4), .int (nI cnt), .int (nI p), .int fau, .int isw, .int ods, .ref (o 5), .ref (o 6)])), (o 1, .inl (g.2.1, 616, .inl (nwF v))), (o 2, .inl (g.2.1, 4312, .inl (pF (va_up P hs (P 6)))))]) 2 rfl (fun j _ => lvF_e P hs j) rfl
          refine lv_aload_n hx hb dX8_leaves_90 rfl (lv_at hl 1 rfl) ?_
          refine lv_dup hx hb dX8_leaves_91 rfl ?_
          refine x_get E hw kf_X8_38 0 rfl rfl dX8_leaves_92 ?_
          refine lv_iconst (v := 1) hx hb dX8_leaves_95 (by decide) ?_
          refine xn_add hx hb hs 1 rfl rfl dX8_leaves_96 ?_
          refine x_put E hw kf_X8_38 kp_X8_2 0 rfl (ty := .int) (by decide +kernel) rfl rfl (by simp) (ws' := [(o 0, .inr (8, [.ref (o 1), .ref (o 2), .int (nI (hs + 1)), .int bads, .int nos, .int fuls, .int cau, .int whe, .ref (o 3), .ref (o 4), .int (nI cnt), .int (nI p), .int fau, .int isw, .int ods, .ref (o 5), .ref (o 6)])), (o 1, .inl (g.2.1, 616, .inl (nwF v))), (o 2, .inl (g.2.1, 4312, .inl (pF (va_up P hs (P 6)))))]) rfl dX8_leaves_97 (fun H locs hw => ?_)
          exact xr_v hQ E hr hw dX8_leaves_100 ⟨rfl, rfl⟩
        · refine lv_aload_n hx hb dX8_leaves_59 rfl (lv_at hl 1 rfl) ?_
          refine x_get E hw kf_X8_13 0 rfl rfl dX8_leaves_60 ?_
          refine lv_sipush (v := 616) hx hb dX8_leaves_63 (by decide) ?_
          refine lv_aload_n hx hb dX8_leaves_66 rfl (lv_at hl 1 rfl) ?_
          refine x_get E hw kf_X8_38 0 rfl rfl dX8_leaves_67 ?_
          refine xn_mul hx hb 616 hs rfl rfl dX8_leaves_70 ?_
          refine lv_iload_n hx hb dX8_leaves_71 rfl (lv_at hl 0 rfl) ?_
          refine xn_add hx hb (616 * hs) y rfl rfl dX8_leaves_72 ?_
          refine lv_aload_n hx hb dX8_leaves_73 rfl (lv_at hl 1 rfl) ?_
          refine x_get E hw kf_X8_13 0 rfl rfl dX8_leaves_74 ?_
          refine lv_sipush (v := 3696) hx hb dX8_leaves_77 (by decide) ?_
          refine lv_iload_n hx hb dX8_leaves_80 rfl (lv_at hl 0 rfl) ?_
          refine xn_add hx hb 3696 y rfl rfl dX8_leaves_81 ?_
          refine x_ld (v := nwF (P 6) y) E hw 2 rfl (3696 + y) rfl (by omega) (by decide) (lvF_r P hh (by omega)) dX8_leaves_82 ?_
          refine x_ist E hw 2 rfl (616 * hs + y) rfl (by omega) (by decide) (ws' := [(o 0, .inr (8, [.ref (o 1), .ref (o 2), .int (nI hs), .int bads, .int nos, .int fuls, .int cau, .int whe, .ref (o 3), .ref (o 4), .int (nI cnt), .int (nI p), .int fau, .int isw, .int ods, .ref (o 5), .ref (o 6)])), (o 1, .inl (g.2.1, 616, .inl (nwF v))), (o 2, .inl (g.2.1, 4312, .inl (upd (lvF P hs y) (616 * hs + y) (nwF (P 6) y))))]) rfl dX8_leaves_83 (fun H locs hw => ?_)
          refine lv_iinc (v := nI (y + 1)) (lv' := [(1, .int (nI (y + 1))), (0, .ref (o 0))]) hx hb dX8_leaves_84 hl (k := 0) rfl (nI_1 _) (by decide) rfl (fun ls hl => ?_)
          refine lv_goto (tgt := 52) hx hb dX8_leaves_87 (by decide) ?_
          have hw := hw.arr (f' := (lvF P hs (y + 1))) (ws' := [(o 0, .inr (8, [.ref (o 1), .ref (o 2), .int (nI hs), .int bads, .int nos, .int fuls, .int cau, .int whe, .ref (o 3), .ref (o 4), .int (nI cnt), .int (nI p), .int fau, .int isw, .int ods, .ref (o 5), .ref (o 6)])), (o 1, .inl (g.2.1, 616, .inl (nwF v))), (o 2, .inl (g.2.1, 4312, .inl (lvF P hs (y + 1))))]) 2 rfl (fun z _ => lvF_s P hs y z) rfl
          have hl : lv_has ls 2 [(1, .int (nI (y + 1))), (0, .ref (o 0))] := lv_sub hl [0, 1] rfl
          have hl : lv_has ls 2 [(1, .int (nI (y + 1))), (0, .ref (o 0))] := hl
          have hw : xW g A0 s0 [(o 0, .inr (8, [.ref (o 1), .ref (o 2), .int (nI hs), .int bads, .int nos, .int fuls, .int cau, .int whe, .ref (o 3), .ref (o 4), .int (nI cnt), .int (nI p), .int fau, .int isw, .int ods, .ref (o 5), .ref (o 6)])), (o 1, .inl (g.2.1, 616, .inl (nwF v))), (o 2, .inl (g.2.1, 4312, .inl (lvF P hs (y + 1))))] _ _ := hw
          exact ih (y + 1) (by omega) (by omega) _ _ _ hw hl
    have hw := hw.arr (f' := (lvF P hs 0)) (ws' := [(o 0, .inr (8, [.ref (o 1), .ref (o 2), .int (nI hs), .int bads, .int nos, .int fuls, .int cau, .int whe, .ref (o 3), .ref (o 4), .int (nI cnt), .int (nI p), .int fau, .int isw, .int ods, .ref (o 5), .ref (o 6)])), (o 1, .inl (g.2.1, 616, .inl (nwF v))), (o 2, .inl (g.2.1, 4312, .inl (lvF P hs 0)))]) 2 rfl (fun j _ => (lvF_0 P hs j).symm) rfl
    have hl : lv_has ls 2 [(1, .int 0), (0, .ref (o 0))] := lv_sub hl [0, 1] rfl
    have hl : lv_has ls 2 [(1, .int 0), (0, .ref (o 0))] := hl
    have hw : xW g A0 s0 [(o 0, .inr (8, [.ref (o 1), .ref (o 2), .int (nI hs), .int bads, .int nos, .int fuls, .int cau, .int whe, .ref (o 3), .ref (o 4), .int (nI cnt), .int (nI p), .int fau, .int isw, .int ods, .ref (o 5), .ref (o 6)])), (o 1, .inl (g.2.1, 616, .inl (nwF v))), (o 2, .inl (g.2.1, 4312, .inl (lvF P hs 0)))] _ _ := hw
    exact lp_52 ((616 - 0) + 1) 0 (Nat.lt_succ_self _) (by omega) _ _ _ hw hl
  · exact absurd c_1 (by omega)

theorem c_X8_leaves (l : Launch) (g : xCfg) (o : Nat → Nat) (hs : Nat) (bads : Int32) (nos : Int32) (fuls : Int32) (cau : Int32) (whe : Int32) (cnt : Nat) (p : Nat) (fau : Int32) (isw : Int32) (ods : Int32) (v : SV) (P : Nat → SV) (hh : hs ≤ 6) : Ct l g yX8_leaves cX8_leaves 2 none (xR 0 0) [.ref (o 0)] [(o 0, .inr (8, [.ref (o 1), .ref (o 2), .int (nI hs), .int bads, .int nos, .int fuls, .int cau, .int whe, .ref (o 3), .ref (o 4), .int (nI cnt), .int (nI p), .int fau, .int isw, .int ods, .ref (o 5), .ref (o 6)])), (o 1, .inl (g.2.1, 616, .inl (nwF v))), (o 2, .inl (g.2.1, 4312, .inl (pF P)))] (is1 none [(o 0, .inr (8, [.ref (o 1), .ref (o 2), .int (nI (min 6 (hs + 1))), .int bads, .int nos, .int fuls, .int cau, .int whe, .ref (o 3), .ref (o 4), .int (nI cnt), .int (nI p), .int fau, .int isw, .int ods, .ref (o 5), .ref (o 6)])), (o 1, .inl (g.2.1, 616, .inl (nwF v))), (o 2, .inl (g.2.1, 4312, .inl (pF (lvP P hs))))]) := by
  by_cases h : hs = 6
  · subst h
    exact c_X8_leaves_6 l g o bads nos fuls cau whe cnt p fau isw ods v P
  · have h1 := c_X8_leaves_s l g o hs bads nos fuls cau whe cnt p fau isw ods v P (by omega)
    have e : lvP P hs = va_up P hs (P 6) := if_neg h
    rw [e, show min 6 (hs + 1) = hs + 1 by omega]
    exact h1

set_option maxRecDepth 100000 in
set_option maxHeartbeats 4000000 in
theorem c_X8_more (l : Launch) (g : xCfg) (e : Int64) (x : Int32)  : Ct l g yX8_more cX8_more 3 (some .long) (xR 0 0) [.long e, .int x] [] (is1 (some (.long (31 * e + x.toInt64))) []) := by
  refine Ct.walk (by decide) (Nat.le_of_ble_eq_true rfl) ?_
  intro p0 e0 s0 m0 below meth c0 A0 ls Q hQ E hr hnm hw hl
  have hx := E.x
  have hb := E.b
  have hl : lv_has ls 3 [(0, .long e), (2, .int x)] := hl
  refine lv_ldc2 (v := 31) hx hb E.ow (E.ts (.constantLong RX8 210 31) (wB 1093 rfl rfl)) dX8_more_0 ?_
  refine lv_lload_n hx hb dX8_more_3 rfl (lv_at hl 0 rfl) ?_
  refine lv_lmul hx hb dX8_more_4 ?_
  refine lv_iload_n hx hb dX8_more_5 rfl (lv_at hl 1 rfl) ?_
  refine lv_i2l (v := x.toInt64) hx hb dX8_more_6 rfl ?_
  refine lv_ladd hx hb dX8_more_7 ?_
  exact xr_l hQ E hr hw dX8_more_8 ⟨rfl, rfl⟩
