
def ce0 : Nat → Int32 := fun j => if j < 100 then 40 else 0
def v0 : SV := (100, ce0, fun _ => 0, fun _ => 0, tFirst, (0, 0, 0, 0, 0, 0, 0, 0))
def ceL (x : Nat) : Nat → Int32 := fun j => if j < x then 40 else 0
theorem ceL_0 (j : Nat) : (fun _ => 0 : Nat → Int32) j = ceL 0 j := rfl
theorem ceL_s (x j : Nat) : upd (ceL x) x 40 j = ceL (x + 1) j := by
  unfold upd ceL
  by_cases h : j = x
  · subst h
    rw [if_pos rfl, if_pos (by omega)]
  · rw [if_neg h]
    by_cases h2 : j < x
    · rw [if_pos h2, if_pos (by omega)]
    · rw [if_neg h2, if_neg (by omega)]
set_option maxRecDepth 100000 in
theorem kArr : Cond.arrayClass .int ∈ wBig := wB 175 rfl rfl
set_option maxRecDepth 100000 in
theorem ko_X7_1 : Cond.methodLink RX7 1 objectInit ∈ wBig ∧ Cond.instanceMethod objectInit ∈ wBig ∧ Cond.code objectInit ⟨#[0xb1]⟩ 1 none ∈ wBig := ⟨wB 121 rfl rfl, wB 122 rfl rfl, wB 123 rfl rfl⟩
set_option maxRecDepth 100000 in
theorem ko_X2_3 : Cond.methodLink RX2 3 objectInit ∈ wBig ∧ Cond.instanceMethod objectInit ∈ wBig ∧ Cond.code objectInit ⟨#[0xb1]⟩ 1 none ∈ wBig := ⟨wB 129 rfl rfl, wB 122 rfl rfl, wB 123 rfl rfl⟩
set_option maxRecDepth 100000 in
theorem ko_X4_1 : Cond.methodLink RX4 1 objectInit ∈ wBig ∧ Cond.instanceMethod objectInit ∈ wBig ∧ Cond.code objectInit ⟨#[0xb1]⟩ 1 none ∈ wBig := ⟨wB 135 rfl rfl, wB 122 rfl rfl, wB 123 rfl rfl⟩
set_option maxRecDepth 100000 in
theorem ko_X5_3 : Cond.methodLink RX5 3 objectInit ∈ wBig ∧ Cond.instanceMethod objectInit ∈ wBig ∧ Cond.code objectInit ⟨#[0xb1]⟩ 1 none ∈ wBig := ⟨wB 141 rfl rfl, wB 122 rfl rfl, wB 123 rfl rfl⟩
set_option maxRecDepth 100000 in
theorem ko_X6_3 : Cond.methodLink RX6 3 objectInit ∈ wBig ∧ Cond.instanceMethod objectInit ∈ wBig ∧ Cond.code objectInit ⟨#[0xb1]⟩ 1 none ∈ wBig := ⟨wB 181 rfl rfl, wB 122 rfl rfl, wB 123 rfl rfl⟩
set_option maxRecDepth 100000 in
theorem ko_X0_3 : Cond.methodLink RX0 3 objectInit ∈ wBig ∧ Cond.instanceMethod objectInit ∈ wBig ∧ Cond.code objectInit ⟨#[0xb1]⟩ 1 none ∈ wBig := ⟨wB 229 rfl rfl, wB 122 rfl rfl, wB 123 rfl rfl⟩
set_option maxRecDepth 100000 in
theorem ko_X1_3 : Cond.methodLink RX1 3 objectInit ∈ wBig ∧ Cond.instanceMethod objectInit ∈ wBig ∧ Cond.code objectInit ⟨#[0xb1]⟩ 1 none ∈ wBig := ⟨wB 287 rfl rfl, wB 122 rfl rfl, wB 123 rfl rfl⟩
set_option maxRecDepth 100000 in
theorem ko_X3_5 : Cond.methodLink RX3 5 objectInit ∈ wBig ∧ Cond.instanceMethod objectInit ∈ wBig ∧ Cond.code objectInit ⟨#[0xb1]⟩ 1 none ∈ wBig := ⟨wB 307 rfl rfl, wB 122 rfl rfl, wB 123 rfl rfl⟩
set_option maxRecDepth 100000 in
theorem ko_X8_1 : Cond.methodLink RX8 1 objectInit ∈ wBig ∧ Cond.instanceMethod objectInit ∈ wBig ∧ Cond.code objectInit ⟨#[0xb1]⟩ 1 none ∈ wBig := ⟨wB 767 rfl rfl, wB 122 rfl rfl, wB 123 rfl rfl⟩
set_option maxRecDepth 100000 in
theorem kn_L_7 : xNW RL 7 7 RX7 TX7 8 tyX7 := ⟨rfl, kc_X7, tyX7_ok, wB 116 rfl rfl, wB 117 rfl rfl, wB 101 rfl rfl⟩
set_option maxRecDepth 100000 in
theorem kn_X7_7 : xNW RX7 7 2 RX2 TX2 4 tyX2 := ⟨rfl, kc_X2, tyX2_ok, wB 124 rfl rfl, wB 125 rfl rfl, wB 102 rfl rfl⟩
set_option maxRecDepth 100000 in
theorem kn_X2_9 : xNW RX2 9 4 RX4 TX4 2 tyX4 := ⟨rfl, kc_X4, tyX4_ok, wB 130 rfl rfl, wB 131 rfl rfl, wB 103 rfl rfl⟩
set_option maxRecDepth 100000 in
theorem kn_X4_7 : xNW RX4 7 5 RX5 TX5 5 tyX5 := ⟨rfl, kc_X5, tyX5_ok, wB 136 rfl rfl, wB 137 rfl rfl, wB 104 rfl rfl⟩
set_option maxRecDepth 100000 in
theorem kn_X4_16 : xNW RX4 16 6 RX6 TX6 8 tyX6 := ⟨rfl, kc_X6, tyX6_ok, wB 176 rfl rfl, wB 177 rfl rfl, wB 106 rfl rfl⟩
set_option maxRecDepth 100000 in
theorem kn_X2_28 : xNW RX2 28 0 RX0 TX0 2 tyX0 := ⟨rfl, kc_X0, tyX0_ok, wB 224 rfl rfl, wB 225 rfl rfl, wB 107 rfl rfl⟩
set_option maxRecDepth 100000 in
theorem kn_X7_16 : xNW RX7 16 1 RX1 TX1 3 tyX1 := ⟨rfl, kc_X1, tyX1_ok, wB 282 rfl rfl, wB 283 rfl rfl, wB 109 rfl rfl⟩
set_option maxRecDepth 100000 in
theorem kn_X1_9 : xNW RX1 9 4 RX4 TX4 2 tyX4 := ⟨rfl, kc_X4, tyX4_ok, wB 288 rfl rfl, wB 131 rfl rfl, wB 103 rfl rfl⟩
set_option maxRecDepth 100000 in
theorem kn_X7_23 : xNW RX7 23 3 RX3 TX3 8 tyX3 := ⟨rfl, kc_X3, tyX3_ok, wB 302 rfl rfl, wB 303 rfl rfl, wB 110 rfl rfl⟩
set_option maxRecDepth 100000 in
theorem kn_L_10 : xNW RL 10 8 RX8 TX8 17 tyX8 := ⟨rfl, kc_X8, tyX8_ok, wB 762 rfl rfl, wB 763 rfl rfl, wB 111 rfl rfl⟩
def hLn (u : Nat) (q : Nat → Nat) (a b c : Nat) : Nat → Nat := fun j => [u, q 1, q 2, q 3, q 4, q 5, q 6, q 7, a, b, c].getD j 0
def h7n (l : Nat → Nat) (a b c d e f u : Nat) : Nat → Nat := fun j => [l 0, l 1, l 2, l 3, l 4, l 5, l 6, l 7, l 8, l 9, l 10, a, b, c, d, e, f, u].getD j 0
def st8 : Nat → Int32 := upd (upd (upd (upd (upd (upd (upd (fun _ => 0) 0 10) 1 6) 2 1) 3 20) 4 1) 5 3) 6 5
def z8 : SV := (0, fun _ => 0, fun _ => 0, fun _ => 0, fun _ => 0, 0, 0, 0, 0, 0, 0, 0, 0)
def v8 : SV := (100, ceL 200, fun _ => 0, fun _ => 0, st8, (0, 0, 0, 0, 0, 0, 0, 0))
theorem nwC {L : Nat} {c c' : Nat → Int32} {t : (Nat → Int32) × (Nat → Int32) × (Nat → Int32) × TV} (h : ∀ j, c j = c' j) (j : Nat) : nwF (L, c, t) j = nwF (L, c', t) j := by rw [funext h]
theorem nw_z (j : Nat) : nwF z8 j = 0 := by
  unfold nwF
  split
  all_goals first | rfl | skip
  split
  · rfl
  · split
    · rfl
    · rfl
theorem pF_z (j : Nat) : pF (fun _ => z8) j = 0 := nw_z _

set_option maxRecDepth 100000 in
set_option maxHeartbeats 4000000 in
theorem c_X0_init (l : Launch) (g : xCfg) (u : Nat)  : Ct l g yX0_init cX0_init 1 none (xRc 1 2 400 12) [.ref u] [(u, .inr (0, [.null, .null]))] (fun rv w => rv = none ∧ ∃ x1 : Nat, ∃ x2 : Nat, w = [(u, .inr (0, [.ref x1, .ref x2])), (x1, .inl (g.2.1, 200, .inl (fun _ => 0))), (x2, .inl (g.2.1, 200, .inl (fun _ => 0)))]) := by
  refine Ct.walk (by decide) (Nat.le_of_ble_eq_true rfl) ?_
  intro p0 e0 s0 m0 below meth c0 A0 ls Q hQ E hr hnm hw hl
  have hx := E.x
  have hb := E.b
  have hl : lv_has ls 1 [(0, .ref u)] := hl
  refine lv_aload_n hx hb dX0_init_0 rfl (lv_at hl 0 rfl) ?_
  refine x_obj E ko_X0_3 hl.1 (Nat.le_of_ble_eq_true rfl) (Nat.le_of_ble_eq_true rfl) dX0_init_1 ?_
  refine lv_aload_n hx hb dX0_init_4 rfl (lv_at hl 0 rfl) ?_
  refine lv_sipush (v := 200) hx hb dX0_init_5 (by decide) ?_
  refine x_newa E hw 200 rfl (by decide) (Nat.le_of_ble_eq_true rfl) (Nat.le_of_ble_eq_true rfl) kArr dX0_init_8 (fun a_1 H hw => ?_)
  have hw : xW g A0 s0 [(u, .inr (0, [.null, .null])), (a_1, .inl (g.2.1, 200, .inl (fun _ => 0)))] _ _ := hw
  refine x_putF E hnm hw kf_X0_11 kp_X0_0 rfl 0 rfl (ty := .array .int) (by decide +kernel) rfl rfl (by simp) (ws' := [(u, .inr (0, [.ref a_1, .null])), (a_1, .inl (g.2.1, 200, .inl (fun _ => 0)))]) rfl dX0_init_10 (fun H locs hw => ?_)
  refine lv_aload_n hx hb dX0_init_13 rfl (lv_at hl 0 rfl) ?_
  refine lv_sipush (v := 200) hx hb dX0_init_14 (by decide) ?_
  refine x_newa E hw 200 rfl (by decide) (Nat.le_of_ble_eq_true rfl) (Nat.le_of_ble_eq_true rfl) kArr dX0_init_17 (fun a_2 H hw => ?_)
  have hw : xW g A0 s0 [(u, .inr (0, [.ref a_1, .null])), (a_1, .inl (g.2.1, 200, .inl (fun _ => 0))), (a_2, .inl (g.2.1, 200, .inl (fun _ => 0)))] _ _ := hw
  refine x_putF E hnm hw kf_X0_17 kp_X0_1 rfl 0 rfl (ty := .array .int) (by decide +kernel) rfl rfl (by simp) (ws' := [(u, .inr (0, [.ref a_1, .ref a_2])), (a_1, .inl (g.2.1, 200, .inl (fun _ => 0))), (a_2, .inl (g.2.1, 200, .inl (fun _ => 0)))]) rfl dX0_init_19 (fun H locs hw => ?_)
  exact xr_v hQ E hr hw dX0_init_22 ⟨rfl, _, _, rfl⟩

set_option maxRecDepth 100000 in
set_option maxHeartbeats 4000000 in
theorem c_X6_init (l : Launch) (g : xCfg) (u : Nat)  : Ct l g yX6_init cX6_init 1 none (xRc 1 0 0 12) [.ref u] [(u, .inr (6, [.int 0, .int 0, .int 0, .int 0, .int 0, .int 0, .int 0, .int 0]))] (fun rv w => rv = none ∧  w = [(u, .inr (6, [.int 0, .int 0, .int 0, .int 0, .int 0, .int 0, .int 0, .int 0]))]) := by
  refine Ct.walk (by decide) (Nat.le_of_ble_eq_true rfl) ?_
  intro p0 e0 s0 m0 below meth c0 A0 ls Q hQ E hr hnm hw hl
  have hx := E.x
  have hb := E.b
  have hl : lv_has ls 1 [(0, .ref u)] := hl
  refine lv_aload_n hx hb dX6_init_0 rfl (lv_at hl 0 rfl) ?_
  refine x_obj E ko_X6_3 hl.1 (Nat.le_of_ble_eq_true rfl) (Nat.le_of_ble_eq_true rfl) dX6_init_1 ?_
  exact xr_v hQ E hr hw dX6_init_4 ⟨rfl, rfl⟩

set_option maxRecDepth 100000 in
set_option maxHeartbeats 4000000 in
theorem c_X3_init (l : Launch) (g : xCfg) (u : Nat)  : Ct l g yX3_init cX3_init 1 none (xRc 1 3 216 12) [.ref u] [(u, .inr (3, [.null, .int 0, .int 0, .int 0, .int 0, .int 0, .null, .null]))] (fun rv w => rv = none ∧ ∃ x1 : Nat, ∃ x2 : Nat, ∃ x3 : Nat, w = [(u, .inr (3, [.ref x1, .int 0, .int 0, .int 0, .int 0, .int 0, .ref x2, .ref x3])), (x1, .inl (g.2.1, 120, .inl (fun _ => 0))), (x2, .inl (g.2.1, 24, .inl (fun _ => 0))), (x3, .inl (g.2.1, 72, .inl (fun _ => 0)))]) := by
  refine Ct.walk (by decide) (Nat.le_of_ble_eq_true rfl) ?_
  intro p0 e0 s0 m0 below meth c0 A0 ls Q hQ E hr hnm hw hl
  have hx := E.x
  have hb := E.b
  have hl : lv_has ls 1 [(0, .ref u)] := hl
  refine lv_aload_n hx hb dX3_init_0 rfl (lv_at hl 0 rfl) ?_
  refine x_obj E ko_X3_5 hl.1 (Nat.le_of_ble_eq_true rfl) (Nat.le_of_ble_eq_true rfl) dX3_init_1 ?_
  refine lv_aload_n hx hb dX3_init_4 rfl (lv_at hl 0 rfl) ?_
  refine lv_bipush (v := 120) hx hb dX3_init_5 (by decide) ?_
  refine x_newa E hw 120 rfl (by decide) (Nat.le_of_ble_eq_true rfl) (Nat.le_of_ble_eq_true rfl) kArr dX3_init_7 (fun a_1 H hw => ?_)
  have hw : xW g A0 s0 [(u, .inr (3, [.null, .int 0, .int 0, .int 0, .int 0, .int 0, .null, .null])), (a_1, .inl (g.2.1, 120, .inl (fun _ => 0)))] _ _ := hw
  refine x_putF E hnm hw kf_X3_11 kp_X3_0 rfl 0 rfl (ty := .array .int) (by decide +kernel) rfl rfl (by simp) (ws' := [(u, .inr (3, [.ref a_1, .int 0, .int 0, .int 0, .int 0, .int 0, .null, .null])), (a_1, .inl (g.2.1, 120, .inl (fun _ => 0)))]) rfl dX3_init_9 (fun H locs hw => ?_)
  refine lv_aload_n hx hb dX3_init_12 rfl (lv_at hl 0 rfl) ?_
  refine lv_bipush (v := 24) hx hb dX3_init_13 (by decide) ?_
  refine x_newa E hw 24 rfl (by decide) (Nat.le_of_ble_eq_true rfl) (Nat.le_of_ble_eq_true rfl) kArr dX3_init_15 (fun a_2 H hw => ?_)
  have hw : xW g A0 s0 [(u, .inr (3, [.ref a_1, .int 0, .int 0, .int 0, .int 0, .int 0, .null, .null])), (a_1, .inl (g.2.1, 120, .inl (fun _ => 0))), (a_2, .inl (g.2.1, 24, .inl (fun _ => 0)))] _ _ := hw
  refine x_putF E hnm hw kf_X3_15 kp_X3_6 rfl 0 rfl (ty := .array .int) (by decide +kernel) rfl rfl (by simp) (ws' := [(u, .inr (3, [.ref a_1, .int 0, .int 0, .int 0, .int 0, .int 0, .ref a_2, .null])), (a_1, .inl (g.2.1, 120, .inl (fun _ => 0))), (a_2, .inl (g.2.1, 24, .inl (fun _ => 0)))]) rfl dX3_init_17 (fun H locs hw => ?_)
  refine lv_aload_n hx hb dX3_init_20 rfl (lv_at hl 0 rfl) ?_
  refine lv_bipush (v := 72) hx hb dX3_init_21 (by decide) ?_
  refine x_newa E hw 72 rfl (by decide) (Nat.le_of_ble_eq_true rfl) (Nat.le_of_ble_eq_true rfl) kArr dX3_init_23 (fun a_3 H hw => ?_)
  have hw : xW g A0 s0 [(u, .inr (3, [.ref a_1, .int 0, .int 0, .int 0, .int 0, .int 0, .ref a_2, .null])), (a_1, .inl (g.2.1, 120, .inl (fun _ => 0))), (a_2, .inl (g.2.1, 24, .inl (fun _ => 0))), (a_3, .inl (g.2.1, 72, .inl (fun _ => 0)))] _ _ := hw
  refine x_putF E hnm hw kf_X3_18 kp_X3_7 rfl 0 rfl (ty := .array .int) (by decide +kernel) rfl rfl (by simp) (ws' := [(u, .inr (3, [.ref a_1, .int 0, .int 0, .int 0, .int 0, .int 0, .ref a_2, .ref a_3])), (a_1, .inl (g.2.1, 120, .inl (fun _ => 0))), (a_2, .inl (g.2.1, 24, .inl (fun _ => 0))), (a_3, .inl (g.2.1, 72, .inl (fun _ => 0)))]) rfl dX3_init_25 (fun H locs hw => ?_)
  exact xr_v hQ E hr hw dX3_init_28 ⟨rfl, _, _, _, rfl⟩

set_option maxRecDepth 100000 in
set_option maxHeartbeats 4000000 in
theorem c_X5_init (l : Launch) (g : xCfg) (u : Nat)  : Ct l g yX5_init cX5_init 2 none (xRc 1 4 607 18) [.ref u] [(u, .inr (5, [.int 0, .null, .null, .null, .null]))] (fun rv w => rv = none ∧ ∃ x1 : Nat, ∃ x2 : Nat, ∃ x3 : Nat, ∃ x4 : Nat, w = [(u, .inr (5, [.int 100, .ref x1, .ref x2, .ref x3, .ref x4])), (x1, .inl (g.2.1, 200, .inl ce0)), (x2, .inl (g.2.1, 200, .inl (fun _ => 0))), (x3, .inl (g.2.1, 200, .inl (fun _ => 0))), (x4, .inl (g.2.1, 7, .inl tFirst))]) := by
  refine Ct.walk (by decide) (Nat.le_of_ble_eq_true rfl) ?_
  intro p0 e0 s0 m0 below meth c0 A0 ls Q hQ E hr hnm hw hl
  have hx := E.x
  have hb := E.b
  have hl : lv_has ls 2 [(0, .ref u)] := hl
  refine lv_aload_n hx hb dX5_init_0 rfl (lv_at hl 0 rfl) ?_
  refine x_obj E ko_X5_3 hl.1 (Nat.le_of_ble_eq_true rfl) (Nat.le_of_ble_eq_true rfl) dX5_init_1 ?_
  refine lv_aload_n hx hb dX5_init_4 rfl (lv_at hl 0 rfl) ?_
  refine lv_sipush (v := 200) hx hb dX5_init_5 (by decide) ?_
  refine x_newa E hw 200 rfl (by decide) (Nat.le_of_ble_eq_true rfl) (Nat.le_of_ble_eq_true rfl) kArr dX5_init_8 (fun a_1 H hw => ?_)
  have hw : xW g A0 s0 [(u, .inr (5, [.int 0, .null, .null, .null, .null])), (a_1, .inl (g.2.1, 200, .inl (fun _ => 0)))] _ _ := hw
  refine x_putF E hnm hw kf_X5_11 kp_X5_1 rfl 0 rfl (ty := .array .int) (by decide +kernel) rfl rfl (by simp) (ws' := [(u, .inr (5, [.int 0, .ref a_1, .null, .null, .null])), (a_1, .inl (g.2.1, 200, .inl (fun _ => 0)))]) rfl dX5_init_10 (fun H locs hw => ?_)
  refine lv_aload_n hx hb dX5_init_13 rfl (lv_at hl 0 rfl) ?_
  refine lv_sipush (v := 200) hx hb dX5_init_14 (by decide) ?_
  refine x_newa E hw 200 rfl (by decide) (Nat.le_of_ble_eq_true rfl) (Nat.le_of_ble_eq_true rfl) kArr dX5_init_17 (fun a_2 H hw => ?_)
  have hw : xW g A0 s0 [(u, .inr (5, [.int 0, .ref a_1, .null, .null, .null])), (a_1, .inl (g.2.1, 200, .inl (fun _ => 0))), (a_2, .inl (g.2.1, 200, .inl (fun _ => 0)))] _ _ := hw
  refine x_putF E hnm hw kf_X5_15 kp_X5_2 rfl 0 rfl (ty := .array .int) (by decide +kernel) rfl rfl (by simp) (ws' := [(u, .inr (5, [.int 0, .ref a_1, .ref a_2, .null, .null])), (a_1, .inl (g.2.1, 200, .inl (fun _ => 0))), (a_2, .inl (g.2.1, 200, .inl (fun _ => 0)))]) rfl dX5_init_19 (fun H locs hw => ?_)
  refine lv_aload_n hx hb dX5_init_22 rfl (lv_at hl 0 rfl) ?_
  refine lv_sipush (v := 200) hx hb dX5_init_23 (by decide) ?_
  refine x_newa E hw 200 rfl (by decide) (Nat.le_of_ble_eq_true rfl) (Nat.le_of_ble_eq_true rfl) kArr dX5_init_26 (fun a_3 H hw => ?_)
  have hw : xW g A0 s0 [(u, .inr (5, [.int 0, .ref a_1, .ref a_2, .null, .null])), (a_1, .inl (g.2.1, 200, .inl (fun _ => 0))), (a_2, .inl (g.2.1, 200, .inl (fun _ => 0))), (a_3, .inl (g.2.1, 200, .inl (fun _ => 0)))] _ _ := hw
  refine x_putF E hnm hw kf_X5_18 kp_X5_3 rfl 0 rfl (ty := .array .int) (by decide +kernel) rfl rfl (by simp) (ws' := [(u, .inr (5, [.int 0, .ref a_1, .ref a_2, .ref a_3, .null])), (a_1, .inl (g.2.1, 200, .inl (fun _ => 0))), (a_2, .inl (g.2.1, 200, .inl (fun _ => 0))), (a_3, .inl (g.2.1, 200, .inl (fun _ => 0)))]) rfl dX5_init_28 (fun H locs hw => ?_)
  refine lv_aload_n hx hb dX5_init_31 rfl (lv_at hl 0 rfl) ?_
  refine va_gets hx hb E.2.2.2.2.2.1.1 hw.2.2 E.ow (E.ts (.fieldLink RX5 21 RX5 "FIRST" "[I") (wB 142 rfl rfl)) (fun _ h => h) dX5_init_32 ?_
  refine va_tlen (v := 7) hx hb E.2.2.2.2.2.1.2 hw.2.2 rfl dX5_init_35 ?_
  refine x_newa E hw 7 rfl (by decide) (Nat.le_of_ble_eq_true rfl) (Nat.le_of_ble_eq_true rfl) kArr dX5_init_36 (fun a_4 H hw => ?_)
  have hw : xW g A0 s0 [(u, .inr (5, [.int 0, .ref a_1, .ref a_2, .ref a_3, .null])), (a_1, .inl (g.2.1, 200, .inl (fun _ => 0))), (a_2, .inl (g.2.1, 200, .inl (fun _ => 0))), (a_3, .inl (g.2.1, 200, .inl (fun _ => 0))), (a_4, .inl (g.2.1, 7, .inl (fun _ => 0)))] _ _ := hw
  refine x_putF E hnm hw kf_X5_24 kp_X5_4 rfl 0 rfl (ty := .array .int) (by decide +kernel) rfl rfl (by simp) (ws' := [(u, .inr (5, [.int 0, .ref a_1, .ref a_2, .ref a_3, .ref a_4])), (a_1, .inl (g.2.1, 200, .inl (fun _ => 0))), (a_2, .inl (g.2.1, 200, .inl (fun _ => 0))), (a_3, .inl (g.2.1, 200, .inl (fun _ => 0))), (a_4, .inl (g.2.1, 7, .inl (fun _ => 0)))]) rfl dX5_init_38 (fun H locs hw => ?_)
  refine lv_aload_n hx hb dX5_init_41 rfl (lv_at hl 0 rfl) ?_
  refine lv_bipush (v := 100) hx hb dX5_init_42 (by decide) ?_
  refine x_put E hw kf_X5_27 kp_X5_0 0 rfl (ty := .int) (by decide +kernel) rfl rfl (by simp) (ws' := [(u, .inr (5, [.int 100, .ref a_1, .ref a_2, .ref a_3, .ref a_4])), (a_1, .inl (g.2.1, 200, .inl (fun _ => 0))), (a_2, .inl (g.2.1, 200, .inl (fun _ => 0))), (a_3, .inl (g.2.1, 200, .inl (fun _ => 0))), (a_4, .inl (g.2.1, 7, .inl (fun _ => 0)))]) rfl dX5_init_44 (fun H locs hw => ?_)
  refine lv_iconst (v := 0) hx hb dX5_init_47 (by decide) ?_
  refine lv_istore_n (lv' := [(1, .int 0), (0, .ref u)]) hx hb dX5_init_48 rfl hl (by decide) rfl (fun ls hl => ?_)
  have lp_49 : ∀ (fuel : Nat) (x : Nat), 100 - x < fuel → x ≤ 100 → ∀ (H : Heap) (locs : List Loc) (ls : Array Slot), xW g A0 s0 [(u, .inr (5, [.int 100, .ref a_1, .ref a_2, .ref a_3, .ref a_4])), (a_1, .inl (g.2.1, 200, .inl (ceL x))), (a_2, .inl (g.2.1, 200, .inl (fun _ => 0))), (a_3, .inl (g.2.1, 200, .inl (fun _ => 0))), (a_4, .inl (g.2.1, 7, .inl (fun _ => 0)))] H locs → lv_has ls 2 [(1, .int (nI x)), (0, .ref u)] → W p0 l e0 (xRc 1 4 607 18) s0 m0 [.ref u].toArray below meth c0 H locs 4 607 Q (F0 m0 49 ls []) := by
    intro fuel
    induction fuel with
    | zero => intro x hm; exact absurd hm (Nat.not_lt_zero _)
    | succ fuel ih =>
      intro x hm hk H locs ls hw hl
      refine lv_iload_n hx hb dX5_init_49 rfl (lv_at hl 0 rfl) ?_
      refine lv_bipush (v := 100) hx hb dX5_init_50 (by decide) ?_
      refine xn_ge (tgt := 69) hx hb x 100 rfl rfl (by omega) (by omega) dX5_init_52 (by decide) (fun c_5 => ?_) (fun c_5 => ?_)
      · obtain rfl : x = 100 := by omega
        refine va_gets hx hb E.2.2.2.2.2.1.1 hw.2.2 E.ow (E.ts (.fieldLink RX5 21 RX5 "FIRST" "[I") (wB 142 rfl rfl)) (fun _ h => h) dX5_init_69 ?_
        refine lv_iconst (v := 0) hx hb dX5_init_72 (by decide) ?_
        refine lv_aload_n hx hb dX5_init_73 rfl (lv_at hl 1 rfl) ?_
        refine x_get E hw kf_X5_24 0 rfl rfl dX5_init_74 ?_
        refine lv_iconst (v := 0) hx hb dX5_init_77 (by decide) ?_
        refine va_gets hx hb E.2.2.2.2.2.1.1 hw.2.2 E.ow (E.ts (.fieldLink RX5 21 RX5 "FIRST" "[I") (wB 142 rfl rfl)) (fun _ h => h) dX5_init_78 ?_
        refine va_tlen (v := 7) hx hb E.2.2.2.2.2.1.2 hw.2.2 rfl dX5_init_81 ?_
        refine x_cpyT (ws' := [(u, .inr (5, [.int 100, .ref a_1, .ref a_2, .ref a_3, .ref a_4])), (a_1, .inl (g.2.1, 200, .inl (ceL 100))), (a_2, .inl (g.2.1, 200, .inl (fun _ => 0))), (a_3, .inl (g.2.1, 200, .inl (fun _ => 0))), (a_4, .inl (g.2.1, 7, .inl tFirst))]) (q1 := 4) E hw E.2.2.2.2.2.1.2 kcopy_X5_31 rfl (by decide) hl.1 rfl rfl rfl (Nat.le_of_ble_eq_true rfl) (by decide) rfl dX5_init_82 (fun H locs hw => ?_)
        exact xr_v hQ E hr hw dX5_init_85 ⟨rfl, _, _, _, _, rfl⟩
      · refine lv_aload_n hx hb dX5_init_55 rfl (lv_at hl 1 rfl) ?_
        refine x_get E hw kf_X5_11 0 rfl rfl dX5_init_56 ?_
        refine lv_iload_n hx hb dX5_init_59 rfl (lv_at hl 0 rfl) ?_
        refine lv_bipush (v := 40) hx hb dX5_init_60 (by decide) ?_
        refine x_ist E hw 1 rfl x rfl (by omega) (by decide) (ws' := [(u, .inr (5, [.int 100, .ref a_1, .ref a_2, .ref a_3, .ref a_4])), (a_1, .inl (g.2.1, 200, .inl (upd (ceL x) x 40))), (a_2, .inl (g.2.1, 200, .inl (fun _ => 0))), (a_3, .inl (g.2.1, 200, .inl (fun _ => 0))), (a_4, .inl (g.2.1, 7, .inl (fun _ => 0)))]) rfl dX5_init_62 (fun H locs hw => ?_)
        refine lv_iinc (v := nI (x + 1)) (lv' := [(1, .int (nI (x + 1))), (0, .ref u)]) hx hb dX5_init_63 hl (k := 0) rfl (nI_1 _) (by decide) rfl (fun ls hl => ?_)
        refine lv_goto (tgt := 49) hx hb dX5_init_66 (by decide) ?_
        have hw := hw.arr (f' := (ceL (x + 1))) (ws' := [(u, .inr (5, [.int 100, .ref a_1, .ref a_2, .ref a_3, .ref a_4])), (a_1, .inl (g.2.1, 200, .inl (ceL (x + 1)))), (a_2, .inl (g.2.1, 200, .inl (fun _ => 0))), (a_3, .inl (g.2.1, 200, .inl (fun _ => 0))), (a_4, .inl (g.2.1, 7, .inl (fun _ => 0)))]) 1 rfl (fun j _ => ceL_s x j) rfl
        have hl : lv_has ls 2 [(1, .int (nI (x + 1))), (0, .ref u)] := lv_sub hl [0, 1] rfl
        have hl : lv_has ls 2 [(1, .int (nI (x + 1))), (0, .ref u)] := hl
        have hw : xW g A0 s0 [(u, .inr (5, [.int 100, .ref a_1, .ref a_2, .ref a_3, .ref a_4])), (a_1, .inl (g.2.1, 200, .inl (ceL (x + 1)))), (a_2, .inl (g.2.1, 200, .inl (fun _ => 0))), (a_3, .inl (g.2.1, 200, .inl (fun _ => 0))), (a_4, .inl (g.2.1, 7, .inl (fun _ => 0)))] _ _ := hw
        exact ih (x + 1) (by omega) (by omega) _ _ _ hw hl
  have hw := hw.arr (f' := (ceL 0)) (ws' := [(u, .inr (5, [.int 100, .ref a_1, .ref a_2, .ref a_3, .ref a_4])), (a_1, .inl (g.2.1, 200, .inl (ceL 0))), (a_2, .inl (g.2.1, 200, .inl (fun _ => 0))), (a_3, .inl (g.2.1, 200, .inl (fun _ => 0))), (a_4, .inl (g.2.1, 7, .inl (fun _ => 0)))]) 1 rfl (fun j _ => ceL_0 j) rfl
  have hl : lv_has ls 2 [(1, .int 0), (0, .ref u)] := lv_sub hl [0, 1] rfl
  have hl : lv_has ls 2 [(1, .int 0), (0, .ref u)] := hl
  have hw : xW g A0 s0 [(u, .inr (5, [.int 100, .ref a_1, .ref a_2, .ref a_3, .ref a_4])), (a_1, .inl (g.2.1, 200, .inl (ceL 0))), (a_2, .inl (g.2.1, 200, .inl (fun _ => 0))), (a_3, .inl (g.2.1, 200, .inl (fun _ => 0))), (a_4, .inl (g.2.1, 7, .inl (fun _ => 0)))] _ _ := hw
  exact lp_49 ((100 - 0) + 1) 0 (Nat.lt_succ_self _) (by omega) _ _ _ hw hl

set_option maxRecDepth 100000 in
set_option maxHeartbeats 4000000 in
theorem c_X4_init (l : Launch) (g : xCfg) (u : Nat)  : Ct l g yX4_init cX4_init 1 none (xRc 2 6 620 39) [.ref u] [(u, .inr (4, [.null, .null]))] (fun rv w => rv = none ∧ ∃ q : Nat → Nat, q 1 = u ∧ w = [(q 1, .inr (4, [.ref (q 2), .ref (q 7)])), (q 2, .inr (5, [.int (nI v0.1), .ref (q 3), .ref (q 4), .ref (q 5), .ref (q 6)])), (q 3, .inl (g.2.1, 200, .inl v0.2.1)), (q 4, .inl (g.2.1, 200, .inl v0.2.2.1)), (q 5, .inl (g.2.1, 200, .inl v0.2.2.2.1)), (q 6, .inl (g.2.1, 7, .inl v0.2.2.2.2.1)), (q 7, .inr (6, [.int (nI v0.2.2.2.2.2.1), .int v0.2.2.2.2.2.2.1, .int v0.2.2.2.2.2.2.2.1, .int v0.2.2.2.2.2.2.2.2.1, .int v0.2.2.2.2.2.2.2.2.2.1, .int v0.2.2.2.2.2.2.2.2.2.2.1, .int v0.2.2.2.2.2.2.2.2.2.2.2.1, .int v0.2.2.2.2.2.2.2.2.2.2.2.2]))]) := by
  refine Ct.walk (by decide) (Nat.le_of_ble_eq_true rfl) ?_
  intro p0 e0 s0 m0 below meth c0 A0 ls Q hQ E hr hnm hw hl
  have hx := E.x
  have hb := E.b
  have hl : lv_has ls 1 [(0, .ref u)] := hl
  refine lv_aload_n hx hb dX4_init_0 rfl (lv_at hl 0 rfl) ?_
  refine x_obj E ko_X4_1 hl.1 (Nat.le_of_ble_eq_true rfl) (Nat.le_of_ble_eq_true rfl) dX4_init_1 ?_
  refine lv_aload_n hx hb dX4_init_4 rfl (lv_at hl 0 rfl) ?_
  refine x_new (fs := [.int 0, .null, .null, .null, .null]) E hw kn_X4_7 (fun j hj => by match j, hj with | 0, _ => rfl | 1, _ => rfl | 2, _ => rfl | 3, _ => rfl | 4, _ => rfl | k + 5, hk => exact absurd hk (by omega)) (Nat.le_of_ble_eq_true rfl) (Nat.le_of_ble_eq_true rfl) (fun _ => rfl) dX4_init_5 (fun a_1 H hw => ?_)
  have hw : xW g A0 s0 [(u, .inr (4, [.null, .null])), (a_1, .inr (5, [.int 0, .null, .null, .null, .null]))] _ _ := hw
  refine lv_dup hx hb dX4_init_8 rfl ?_
  have hw : xW g A0 s0 ([(u, .inr (4, [.null, .null]))] ++ [(a_1, .inr (5, [.int 0, .null, .null, .null, .null]))]) _ _ := hw
  refine x_goSP (wr := [(u, .inr (4, [.null, .null]))]) (wc := [(a_1, .inr (5, [.int 0, .null, .null, .null, .null]))]) (rest := [.ref a_1, .ref u]) E hw (x_runINS (wr := [(u, .inr (4, [.null, .null]))]) (As := []) (rest := [.ref a_1, .ref u]) E hw (c_X5_init l g a_1) km_X4_9 ki_X5_init rfl hl.1 rfl rfl (Nat.le_of_ble_eq_true rfl) ⟨Nat.le_of_ble_eq_true rfl, Nat.le_of_ble_eq_true rfl⟩ ⟨Nat.le_of_ble_eq_true rfl, Nat.le_of_ble_eq_true rfl⟩ dX4_init_9) (fun rv w1 H locs hp hw => ?_)
  obtain ⟨rfl, b_2, b_3, b_4, b_5, rfl⟩ := hp
  have hw : xW g A0 s0 [(u, .inr (4, [.null, .null])), (a_1, .inr (5, [.int 100, .ref b_2, .ref b_3, .ref b_4, .ref b_5])), (b_2, .inl (g.2.1, 200, .inl ce0)), (b_3, .inl (g.2.1, 200, .inl (fun _ => 0))), (b_4, .inl (g.2.1, 200, .inl (fun _ => 0))), (b_5, .inl (g.2.1, 7, .inl tFirst))] _ _ := hw
  refine x_putF E hnm hw kf_X4_10 kp_X4_0 rfl 0 rfl (ty := .object "SpeedWarden$Track") (by decide +kernel) rfl rfl (by simp) (ws' := [(u, .inr (4, [.ref a_1, .null])), (a_1, .inr (5, [.int 100, .ref b_2, .ref b_3, .ref b_4, .ref b_5])), (b_2, .inl (g.2.1, 200, .inl ce0)), (b_3, .inl (g.2.1, 200, .inl (fun _ => 0))), (b_4, .inl (g.2.1, 200, .inl (fun _ => 0))), (b_5, .inl (g.2.1, 7, .inl tFirst))]) rfl dX4_init_12 (fun H locs hw => ?_)
  refine lv_aload_n hx hb dX4_init_15 rfl (lv_at hl 0 rfl) ?_
  refine x_new (fs := [.int 0, .int 0, .int 0, .int 0, .int 0, .int 0, .int 0, .int 0]) E hw kn_X4_16 (fun j hj => by match j, hj with | 0, _ => rfl | 1, _ => rfl | 2, _ => rfl | 3, _ => rfl | 4, _ => rfl | 5, _ => rfl | 6, _ => rfl | 7, _ => rfl | k + 8, hk => exact absurd hk (by omega)) (Nat.le_of_ble_eq_true rfl) (Nat.le_of_ble_eq_true rfl) (fun _ => rfl) dX4_init_16 (fun a_6 H hw => ?_)
  have hw : xW g A0 s0 [(u, .inr (4, [.ref a_1, .null])), (a_1, .inr (5, [.int 100, .ref b_2, .ref b_3, .ref b_4, .ref b_5])), (b_2, .inl (g.2.1, 200, .inl ce0)), (b_3, .inl (g.2.1, 200, .inl (fun _ => 0))), (b_4, .inl (g.2.1, 200, .inl (fun _ => 0))), (b_5, .inl (g.2.1, 7, .inl tFirst)), (a_6, .inr (6, [.int 0, .int 0, .int 0, .int 0, .int 0, .int 0, .int 0, .int 0]))] _ _ := hw
  refine lv_dup hx hb dX4_init_19 rfl ?_
  have hw : xW g A0 s0 ([(u, .inr (4, [.ref a_1, .null])), (a_1, .inr (5, [.int 100, .ref b_2, .ref b_3, .ref b_4, .ref b_5])), (b_2, .inl (g.2.1, 200, .inl ce0)), (b_3, .inl (g.2.1, 200, .inl (fun _ => 0))), (b_4, .inl (g.2.1, 200, .inl (fun _ => 0))), (b_5, .inl (g.2.1, 7, .inl tFirst))] ++ [(a_6, .inr (6, [.int 0, .int 0, .int 0, .int 0, .int 0, .int 0, .int 0, .int 0]))]) _ _ := hw
  refine x_goSP (wr := [(u, .inr (4, [.ref a_1, .null])), (a_1, .inr (5, [.int 100, .ref b_2, .ref b_3, .ref b_4, .ref b_5])), (b_2, .inl (g.2.1, 200, .inl ce0)), (b_3, .inl (g.2.1, 200, .inl (fun _ => 0))), (b_4, .inl (g.2.1, 200, .inl (fun _ => 0))), (b_5, .inl (g.2.1, 7, .inl tFirst))]) (wc := [(a_6, .inr (6, [.int 0, .int 0, .int 0, .int 0, .int 0, .int 0, .int 0, .int 0]))]) (rest := [.ref a_6, .ref u]) E hw (x_runINS (wr := [(u, .inr (4, [.ref a_1, .null])), (a_1, .inr (5, [.int 100, .ref b_2, .ref b_3, .ref b_4, .ref b_5])), (b_2, .inl (g.2.1, 200, .inl ce0)), (b_3, .inl (g.2.1, 200, .inl (fun _ => 0))), (b_4, .inl (g.2.1, 200, .inl (fun _ => 0))), (b_5, .inl (g.2.1, 7, .inl tFirst))]) (As := []) (rest := [.ref a_6, .ref u]) E hw (c_X6_init l g a_6) km_X4_18 ki_X6_init rfl hl.1 rfl rfl (Nat.le_of_ble_eq_true rfl) ⟨Nat.le_of_ble_eq_true rfl, Nat.le_of_ble_eq_true rfl⟩ ⟨Nat.le_of_ble_eq_true rfl, Nat.le_of_ble_eq_true rfl⟩ dX4_init_20) (fun rv w1 H locs hp hw => ?_)
  obtain ⟨rfl, rfl⟩ := hp
  have hw : xW g A0 s0 [(u, .inr (4, [.ref a_1, .null])), (a_1, .inr (5, [.int 100, .ref b_2, .ref b_3, .ref b_4, .ref b_5])), (b_2, .inl (g.2.1, 200, .inl ce0)), (b_3, .inl (g.2.1, 200, .inl (fun _ => 0))), (b_4, .inl (g.2.1, 200, .inl (fun _ => 0))), (b_5, .inl (g.2.1, 7, .inl tFirst)), (a_6, .inr (6, [.int 0, .int 0, .int 0, .int 0, .int 0, .int 0, .int 0, .int 0]))] _ _ := hw
  refine x_putF E hnm hw kf_X4_19 kp_X4_1 rfl 0 rfl (ty := .object "SpeedWarden$Train") (by decide +kernel) rfl rfl (by simp) (ws' := [(u, .inr (4, [.ref a_1, .ref a_6])), (a_1, .inr (5, [.int 100, .ref b_2, .ref b_3, .ref b_4, .ref b_5])), (b_2, .inl (g.2.1, 200, .inl ce0)), (b_3, .inl (g.2.1, 200, .inl (fun _ => 0))), (b_4, .inl (g.2.1, 200, .inl (fun _ => 0))), (b_5, .inl (g.2.1, 7, .inl tFirst)), (a_6, .inr (6, [.int 0, .int 0, .int 0, .int 0, .int 0, .int 0, .int 0, .int 0]))]) rfl dX4_init_23 (fun H locs hw => ?_)
  exact xr_v hQ E hr hw dX4_init_26 ⟨rfl, fun j => [0, u, a_1, b_2, b_3, b_4, b_5, a_6].getD j 0, rfl, rfl⟩

set_option maxRecDepth 100000 in
set_option maxHeartbeats 4000000 in
theorem c_X2_init (l : Launch) (g : xCfg) (u : Nat)  : Ct l g yX2_init cX2_init 1 none (xRc 4 10 1024 91) [.ref u] [(u, .inr (2, [.null, .null, .null, .null]))] (fun rv w => rv = none ∧ ∃ h : Nat → Nat, h 0 = u ∧ w = [(h 0, .inr (2, [.ref (h 1), .ref (h 2), .ref (h 7), .ref (h 8)])), (h 1, .inr (4, [.ref (h 2), .ref (h 7)])), (h 2, .inr (5, [.int (nI v0.1), .ref (h 3), .ref (h 4), .ref (h 5), .ref (h 6)])), (h 3, .inl (g.2.1, 200, .inl v0.2.1)), (h 4, .inl (g.2.1, 200, .inl v0.2.2.1)), (h 5, .inl (g.2.1, 200, .inl v0.2.2.2.1)), (h 6, .inl (g.2.1, 7, .inl v0.2.2.2.2.1)), (h 7, .inr (6, [.int (nI v0.2.2.2.2.2.1), .int v0.2.2.2.2.2.2.1, .int v0.2.2.2.2.2.2.2.1, .int v0.2.2.2.2.2.2.2.2.1, .int v0.2.2.2.2.2.2.2.2.2.1, .int v0.2.2.2.2.2.2.2.2.2.2.1, .int v0.2.2.2.2.2.2.2.2.2.2.2.1, .int v0.2.2.2.2.2.2.2.2.2.2.2.2])), (h 8, .inr (0, [.ref (h 9), .ref (h 10)])), (h 9, .inl (g.2.1, 200, .inl (foOf v0 1 (fun _ => 0)))), (h 10, .inl (g.2.1, 200, .inl (sqOf v0 1 (fun _ => 0) (fun _ => 0))))]) := by
  refine Ct.walk (by decide) (Nat.le_of_ble_eq_true rfl) ?_
  intro p0 e0 s0 m0 below meth c0 A0 ls Q hQ E hr hnm hw hl
  have hx := E.x
  have hb := E.b
  have hl : lv_has ls 1 [(0, .ref u)] := hl
  refine lv_aload_n hx hb dX2_init_0 rfl (lv_at hl 0 rfl) ?_
  refine x_obj E ko_X2_3 hl.1 (Nat.le_of_ble_eq_true rfl) (Nat.le_of_ble_eq_true rfl) dX2_init_1 ?_
  refine lv_aload_n hx hb dX2_init_4 rfl (lv_at hl 0 rfl) ?_
  refine x_new (fs := [.null, .null]) E hw kn_X2_9 (fun j hj => by match j, hj with | 0, _ => rfl | 1, _ => rfl | k + 2, hk => exact absurd hk (by omega)) (Nat.le_of_ble_eq_true rfl) (Nat.le_of_ble_eq_true rfl) (fun _ => rfl) dX2_init_5 (fun a_1 H hw => ?_)
  have hw : xW g A0 s0 [(u, .inr (2, [.null, .null, .null, .null])), (a_1, .inr (4, [.null, .null]))] _ _ := hw
  refine lv_dup hx hb dX2_init_8 rfl ?_
  have hw : xW g A0 s0 ([(u, .inr (2, [.null, .null, .null, .null]))] ++ [(a_1, .inr (4, [.null, .null]))]) _ _ := hw
  refine x_goSP (wr := [(u, .inr (2, [.null, .null, .null, .null]))]) (wc := [(a_1, .inr (4, [.null, .null]))]) (rest := [.ref a_1, .ref u]) E hw (x_runINS (wr := [(u, .inr (2, [.null, .null, .null, .null]))]) (As := []) (rest := [.ref a_1, .ref u]) E hw (c_X4_init l g a_1) km_X2_11 ki_X4_init rfl hl.1 rfl rfl (Nat.le_of_ble_eq_true rfl) ⟨Nat.le_of_ble_eq_true rfl, Nat.le_of_ble_eq_true rfl⟩ ⟨Nat.le_of_ble_eq_true rfl, Nat.le_of_ble_eq_true rfl⟩ dX2_init_9) (fun rv w1 H locs hp hw => ?_)
  obtain ⟨rfl, b_2, rfl, rfl⟩ := hp
  have hw : xW g A0 s0 [(u, .inr (2, [.null, .null, .null, .null])), (b_2 1, .inr (4, [.ref (b_2 2), .ref (b_2 7)])), (b_2 2, .inr (5, [.int (nI v0.1), .ref (b_2 3), .ref (b_2 4), .ref (b_2 5), .ref (b_2 6)])), (b_2 3, .inl (g.2.1, 200, .inl v0.2.1)), (b_2 4, .inl (g.2.1, 200, .inl v0.2.2.1)), (b_2 5, .inl (g.2.1, 200, .inl v0.2.2.2.1)), (b_2 6, .inl (g.2.1, 7, .inl v0.2.2.2.2.1)), (b_2 7, .inr (6, [.int (nI v0.2.2.2.2.2.1), .int v0.2.2.2.2.2.2.1, .int v0.2.2.2.2.2.2.2.1, .int v0.2.2.2.2.2.2.2.2.1, .int v0.2.2.2.2.2.2.2.2.2.1, .int v0.2.2.2.2.2.2.2.2.2.2.1, .int v0.2.2.2.2.2.2.2.2.2.2.2.1, .int v0.2.2.2.2.2.2.2.2.2.2.2.2]))] _ _ := hw
  refine x_putF E hnm hw kf_X2_12 kp_X2_0 rfl 0 rfl (ty := .object "SpeedWarden$State") (by decide +kernel) rfl rfl (by simp) (ws' := [(u, .inr (2, [.ref (b_2 1), .null, .null, .null])), (b_2 1, .inr (4, [.ref (b_2 2), .ref (b_2 7)])), (b_2 2, .inr (5, [.int (nI v0.1), .ref (b_2 3), .ref (b_2 4), .ref (b_2 5), .ref (b_2 6)])), (b_2 3, .inl (g.2.1, 200, .inl v0.2.1)), (b_2 4, .inl (g.2.1, 200, .inl v0.2.2.1)), (b_2 5, .inl (g.2.1, 200, .inl v0.2.2.2.1)), (b_2 6, .inl (g.2.1, 7, .inl v0.2.2.2.2.1)), (b_2 7, .inr (6, [.int (nI v0.2.2.2.2.2.1), .int v0.2.2.2.2.2.2.1, .int v0.2.2.2.2.2.2.2.1, .int v0.2.2.2.2.2.2.2.2.1, .int v0.2.2.2.2.2.2.2.2.2.1, .int v0.2.2.2.2.2.2.2.2.2.2.1, .int v0.2.2.2.2.2.2.2.2.2.2.2.1, .int v0.2.2.2.2.2.2.2.2.2.2.2.2]))]) rfl dX2_init_12 (fun H locs hw => ?_)
  refine lv_aload_n hx hb dX2_init_15 rfl (lv_at hl 0 rfl) ?_
  refine lv_aload_n hx hb dX2_init_16 rfl (lv_at hl 0 rfl) ?_
  refine x_get E hw kf_X2_12 0 rfl rfl dX2_init_17 ?_
  refine x_getN E hw kf_X2_18 1 rfl rfl dX2_init_20 ?_
  refine x_putF E hnm hw kf_X2_22 kp_X2_1 rfl 0 rfl (ty := .object "SpeedWarden$Track") (by decide +kernel) rfl rfl (by simp) (ws' := [(u, .inr (2, [.ref (b_2 1), .ref (b_2 2), .null, .null])), (b_2 1, .inr (4, [.ref (b_2 2), .ref (b_2 7)])), (b_2 2, .inr (5, [.int (nI v0.1), .ref (b_2 3), .ref (b_2 4), .ref (b_2 5), .ref (b_2 6)])), (b_2 3, .inl (g.2.1, 200, .inl v0.2.1)), (b_2 4, .inl (g.2.1, 200, .inl v0.2.2.1)), (b_2 5, .inl (g.2.1, 200, .inl v0.2.2.2.1)), (b_2 6, .inl (g.2.1, 7, .inl v0.2.2.2.2.1)), (b_2 7, .inr (6, [.int (nI v0.2.2.2.2.2.1), .int v0.2.2.2.2.2.2.1, .int v0.2.2.2.2.2.2.2.1, .int v0.2.2.2.2.2.2.2.2.1, .int v0.2.2.2.2.2.2.2.2.2.1, .int v0.2.2.2.2.2.2.2.2.2.2.1, .int v0.2.2.2.2.2.2.2.2.2.2.2.1, .int v0.2.2.2.2.2.2.2.2.2.2.2.2]))]) rfl dX2_init_23 (fun H locs hw => ?_)
  refine lv_aload_n hx hb dX2_init_26 rfl (lv_at hl 0 rfl) ?_
  refine lv_aload_n hx hb dX2_init_27 rfl (lv_at hl 0 rfl) ?_
  refine x_get E hw kf_X2_12 0 rfl rfl dX2_init_28 ?_
  refine x_getN E hw kf_X2_23 1 rfl rfl dX2_init_31 ?_
  refine x_putF E hnm hw kf_X2_27 kp_X2_2 rfl 0 rfl (ty := .object "SpeedWarden$Train") (by decide +kernel) rfl rfl (by simp) (ws' := [(u, .inr (2, [.ref (b_2 1), .ref (b_2 2), .ref (b_2 7), .null])), (b_2 1, .inr (4, [.ref (b_2 2), .ref (b_2 7)])), (b_2 2, .inr (5, [.int (nI v0.1), .ref (b_2 3), .ref (b_2 4), .ref (b_2 5), .ref (b_2 6)])), (b_2 3, .inl (g.2.1, 200, .inl v0.2.1)), (b_2 4, .inl (g.2.1, 200, .inl v0.2.2.1)), (b_2 5, .inl (g.2.1, 200, .inl v0.2.2.2.1)), (b_2 6, .inl (g.2.1, 7, .inl v0.2.2.2.2.1)), (b_2 7, .inr (6, [.int (nI v0.2.2.2.2.2.1), .int v0.2.2.2.2.2.2.1, .int v0.2.2.2.2.2.2.2.1, .int v0.2.2.2.2.2.2.2.2.1, .int v0.2.2.2.2.2.2.2.2.2.1, .int v0.2.2.2.2.2.2.2.2.2.2.1, .int v0.2.2.2.2.2.2.2.2.2.2.2.1, .int v0.2.2.2.2.2.2.2.2.2.2.2.2]))]) rfl dX2_init_34 (fun H locs hw => ?_)
  refine lv_aload_n hx hb dX2_init_37 rfl (lv_at hl 0 rfl) ?_
  refine x_new (fs := [.null, .null]) E hw kn_X2_28 (fun j hj => by match j, hj with | 0, _ => rfl | 1, _ => rfl | k + 2, hk => exact absurd hk (by omega)) (Nat.le_of_ble_eq_true rfl) (Nat.le_of_ble_eq_true rfl) (fun _ => rfl) dX2_init_38 (fun a_3 H hw => ?_)
  have hw : xW g A0 s0 [(u, .inr (2, [.ref (b_2 1), .ref (b_2 2), .ref (b_2 7), .null])), (b_2 1, .inr (4, [.ref (b_2 2), .ref (b_2 7)])), (b_2 2, .inr (5, [.int (nI v0.1), .ref (b_2 3), .ref (b_2 4), .ref (b_2 5), .ref (b_2 6)])), (b_2 3, .inl (g.2.1, 200, .inl v0.2.1)), (b_2 4, .inl (g.2.1, 200, .inl v0.2.2.1)), (b_2 5, .inl (g.2.1, 200, .inl v0.2.2.2.1)), (b_2 6, .inl (g.2.1, 7, .inl v0.2.2.2.2.1)), (b_2 7, .inr (6, [.int (nI v0.2.2.2.2.2.1), .int v0.2.2.2.2.2.2.1, .int v0.2.2.2.2.2.2.2.1, .int v0.2.2.2.2.2.2.2.2.1, .int v0.2.2.2.2.2.2.2.2.2.1, .int v0.2.2.2.2.2.2.2.2.2.2.1, .int v0.2.2.2.2.2.2.2.2.2.2.2.1, .int v0.2.2.2.2.2.2.2.2.2.2.2.2])), (a_3, .inr (0, [.null, .null]))] _ _ := hw
  refine lv_dup hx hb dX2_init_41 rfl ?_
  have hw : xW g A0 s0 ([(u, .inr (2, [.ref (b_2 1), .ref (b_2 2), .ref (b_2 7), .null])), (b_2 1, .inr (4, [.ref (b_2 2), .ref (b_2 7)])), (b_2 2, .inr (5, [.int (nI v0.1), .ref (b_2 3), .ref (b_2 4), .ref (b_2 5), .ref (b_2 6)])), (b_2 3, .inl (g.2.1, 200, .inl v0.2.1)), (b_2 4, .inl (g.2.1, 200, .inl v0.2.2.1)), (b_2 5, .inl (g.2.1, 200, .inl v0.2.2.2.1)), (b_2 6, .inl (g.2.1, 7, .inl v0.2.2.2.2.1)), (b_2 7, .inr (6, [.int (nI v0.2.2.2.2.2.1), .int v0.2.2.2.2.2.2.1, .int v0.2.2.2.2.2.2.2.1, .int v0.2.2.2.2.2.2.2.2.1, .int v0.2.2.2.2.2.2.2.2.2.1, .int v0.2.2.2.2.2.2.2.2.2.2.1, .int v0.2.2.2.2.2.2.2.2.2.2.2.1, .int v0.2.2.2.2.2.2.2.2.2.2.2.2]))] ++ [(a_3, .inr (0, [.null, .null]))]) _ _ := hw
  refine x_goSP (wr := [(u, .inr (2, [.ref (b_2 1), .ref (b_2 2), .ref (b_2 7), .null])), (b_2 1, .inr (4, [.ref (b_2 2), .ref (b_2 7)])), (b_2 2, .inr (5, [.int (nI v0.1), .ref (b_2 3), .ref (b_2 4), .ref (b_2 5), .ref (b_2 6)])), (b_2 3, .inl (g.2.1, 200, .inl v0.2.1)), (b_2 4, .inl (g.2.1, 200, .inl v0.2.2.1)), (b_2 5, .inl (g.2.1, 200, .inl v0.2.2.2.1)), (b_2 6, .inl (g.2.1, 7, .inl v0.2.2.2.2.1)), (b_2 7, .inr (6, [.int (nI v0.2.2.2.2.2.1), .int v0.2.2.2.2.2.2.1, .int v0.2.2.2.2.2.2.2.1, .int v0.2.2.2.2.2.2.2.2.1, .int v0.2.2.2.2.2.2.2.2.2.1, .int v0.2.2.2.2.2.2.2.2.2.2.1, .int v0.2.2.2.2.2.2.2.2.2.2.2.1, .int v0.2.2.2.2.2.2.2.2.2.2.2.2]))]) (wc := [(a_3, .inr (0, [.null, .null]))]) (rest := [.ref a_3, .ref u]) E hw (x_runINS (wr := [(u, .inr (2, [.ref (b_2 1), .ref (b_2 2), .ref (b_2 7), .null])), (b_2 1, .inr (4, [.ref (b_2 2), .ref (b_2 7)])), (b_2 2, .inr (5, [.int (nI v0.1), .ref (b_2 3), .ref (b_2 4), .ref (b_2 5), .ref (b_2 6)])), (b_2 3, .inl (g.2.1, 200, .inl v0.2.1)), (b_2 4, .inl (g.2.1, 200, .inl v0.2.2.1)), (b_2 5, .inl (g.2.1, 200, .inl v0.2.2.2.1)), (b_2 6, .inl (g.2.1, 7, .inl v0.2.2.2.2.1)), (b_2 7, .inr (6, [.int (nI v0.2.2.2.2.2.1), .int v0.2.2.2.2.2.2.1, .int v0.2.2.2.2.2.2.2.1, .int v0.2.2.2.2.2.2.2.2.1, .int v0.2.2.2.2.2.2.2.2.2.1, .int v0.2.2.2.2.2.2.2.2.2.2.1, .int v0.2.2.2.2.2.2.2.2.2.2.2.1, .int v0.2.2.2.2.2.2.2.2.2.2.2.2]))]) (As := []) (rest := [.ref a_3, .ref u]) E hw (c_X0_init l g a_3) km_X2_30 ki_X0_init rfl hl.1 rfl rfl (Nat.le_of_ble_eq_true rfl) ⟨Nat.le_of_ble_eq_true rfl, Nat.le_of_ble_eq_true rfl⟩ ⟨Nat.le_of_ble_eq_true rfl, Nat.le_of_ble_eq_true rfl⟩ dX2_init_42) (fun rv w1 H locs hp hw => ?_)
  obtain ⟨rfl, b_4, b_5, rfl⟩ := hp
  have hw : xW g A0 s0 [(u, .inr (2, [.ref (b_2 1), .ref (b_2 2), .ref (b_2 7), .null])), (b_2 1, .inr (4, [.ref (b_2 2), .ref (b_2 7)])), (b_2 2, .inr (5, [.int (nI v0.1), .ref (b_2 3), .ref (b_2 4), .ref (b_2 5), .ref (b_2 6)])), (b_2 3, .inl (g.2.1, 200, .inl v0.2.1)), (b_2 4, .inl (g.2.1, 200, .inl v0.2.2.1)), (b_2 5, .inl (g.2.1, 200, .inl v0.2.2.2.1)), (b_2 6, .inl (g.2.1, 7, .inl v0.2.2.2.2.1)), (b_2 7, .inr (6, [.int (nI v0.2.2.2.2.2.1), .int v0.2.2.2.2.2.2.1, .int v0.2.2.2.2.2.2.2.1, .int v0.2.2.2.2.2.2.2.2.1, .int v0.2.2.2.2.2.2.2.2.2.1, .int v0.2.2.2.2.2.2.2.2.2.2.1, .int v0.2.2.2.2.2.2.2.2.2.2.2.1, .int v0.2.2.2.2.2.2.2.2.2.2.2.2])), (a_3, .inr (0, [.ref b_4, .ref b_5])), (b_4, .inl (g.2.1, 200, .inl (fun _ => 0))), (b_5, .inl (g.2.1, 200, .inl (fun _ => 0)))] _ _ := hw
  refine x_putF E hnm hw kf_X2_31 kp_X2_3 rfl 0 rfl (ty := .object "SpeedWarden$Curve") (by decide +kernel) rfl rfl (by simp) (ws' := [(u, .inr (2, [.ref (b_2 1), .ref (b_2 2), .ref (b_2 7), .ref a_3])), (b_2 1, .inr (4, [.ref (b_2 2), .ref (b_2 7)])), (b_2 2, .inr (5, [.int (nI v0.1), .ref (b_2 3), .ref (b_2 4), .ref (b_2 5), .ref (b_2 6)])), (b_2 3, .inl (g.2.1, 200, .inl v0.2.1)), (b_2 4, .inl (g.2.1, 200, .inl v0.2.2.1)), (b_2 5, .inl (g.2.1, 200, .inl v0.2.2.2.1)), (b_2 6, .inl (g.2.1, 7, .inl v0.2.2.2.2.1)), (b_2 7, .inr (6, [.int (nI v0.2.2.2.2.2.1), .int v0.2.2.2.2.2.2.1, .int v0.2.2.2.2.2.2.2.1, .int v0.2.2.2.2.2.2.2.2.1, .int v0.2.2.2.2.2.2.2.2.2.1, .int v0.2.2.2.2.2.2.2.2.2.2.1, .int v0.2.2.2.2.2.2.2.2.2.2.2.1, .int v0.2.2.2.2.2.2.2.2.2.2.2.2])), (a_3, .inr (0, [.ref b_4, .ref b_5])), (b_4, .inl (g.2.1, 200, .inl (fun _ => 0))), (b_5, .inl (g.2.1, 200, .inl (fun _ => 0)))]) rfl dX2_init_45 (fun H locs hw => ?_)
  refine lv_aload_n hx hb dX2_init_48 rfl (lv_at hl 0 rfl) ?_
  have hw : xW g A0 s0 [((hLn u b_2 a_3 b_4 b_5) 0, .inr (2, [.ref ((hLn u b_2 a_3 b_4 b_5) 1), .ref ((hLn u b_2 a_3 b_4 b_5) 2), .ref ((hLn u b_2 a_3 b_4 b_5) 7), .ref ((hLn u b_2 a_3 b_4 b_5) 8)])), ((hLn u b_2 a_3 b_4 b_5) 1, .inr (4, [.ref ((hLn u b_2 a_3 b_4 b_5) 2), .ref ((hLn u b_2 a_3 b_4 b_5) 7)])), ((hLn u b_2 a_3 b_4 b_5) 2, .inr (5, [.int (nI v0.1), .ref ((hLn u b_2 a_3 b_4 b_5) 3), .ref ((hLn u b_2 a_3 b_4 b_5) 4), .ref ((hLn u b_2 a_3 b_4 b_5) 5), .ref ((hLn u b_2 a_3 b_4 b_5) 6)])), ((hLn u b_2 a_3 b_4 b_5) 3, .inl (g.2.1, 200, .inl v0.2.1)), ((hLn u b_2 a_3 b_4 b_5) 4, .inl (g.2.1, 200, .inl v0.2.2.1)), ((hLn u b_2 a_3 b_4 b_5) 5, .inl (g.2.1, 200, .inl v0.2.2.2.1)), ((hLn u b_2 a_3 b_4 b_5) 6, .inl (g.2.1, 7, .inl v0.2.2.2.2.1)), ((hLn u b_2 a_3 b_4 b_5) 7, .inr (6, [.int (nI v0.2.2.2.2.2.1), .int v0.2.2.2.2.2.2.1, .int v0.2.2.2.2.2.2.2.1, .int v0.2.2.2.2.2.2.2.2.1, .int v0.2.2.2.2.2.2.2.2.2.1, .int v0.2.2.2.2.2.2.2.2.2.2.1, .int v0.2.2.2.2.2.2.2.2.2.2.2.1, .int v0.2.2.2.2.2.2.2.2.2.2.2.2])), ((hLn u b_2 a_3 b_4 b_5) 8, .inr (0, [.ref ((hLn u b_2 a_3 b_4 b_5) 9), .ref ((hLn u b_2 a_3 b_4 b_5) 10)])), ((hLn u b_2 a_3 b_4 b_5) 9, .inl (g.2.1, 200, .inl (fun _ => 0))), ((hLn u b_2 a_3 b_4 b_5) 10, .inl (g.2.1, 200, .inl (fun _ => 0)))] _ _ := hw
  refine x_top (v' := .ref ((hLn u b_2 a_3 b_4 b_5) 0)) rfl ?_
  refine x_go (ws' := [((hLn u b_2 a_3 b_4 b_5) 0, .inr (2, [.ref ((hLn u b_2 a_3 b_4 b_5) 1), .ref ((hLn u b_2 a_3 b_4 b_5) 2), .ref ((hLn u b_2 a_3 b_4 b_5) 7), .ref ((hLn u b_2 a_3 b_4 b_5) 8)])), ((hLn u b_2 a_3 b_4 b_5) 1, .inr (4, [.ref ((hLn u b_2 a_3 b_4 b_5) 2), .ref ((hLn u b_2 a_3 b_4 b_5) 7)])), ((hLn u b_2 a_3 b_4 b_5) 2, .inr (5, [.int (nI v0.1), .ref ((hLn u b_2 a_3 b_4 b_5) 3), .ref ((hLn u b_2 a_3 b_4 b_5) 4), .ref ((hLn u b_2 a_3 b_4 b_5) 5), .ref ((hLn u b_2 a_3 b_4 b_5) 6)])), ((hLn u b_2 a_3 b_4 b_5) 3, .inl (g.2.1, 200, .inl v0.2.1)), ((hLn u b_2 a_3 b_4 b_5) 4, .inl (g.2.1, 200, .inl v0.2.2.1)), ((hLn u b_2 a_3 b_4 b_5) 5, .inl (g.2.1, 200, .inl v0.2.2.2.1)), ((hLn u b_2 a_3 b_4 b_5) 6, .inl (g.2.1, 7, .inl v0.2.2.2.2.1)), ((hLn u b_2 a_3 b_4 b_5) 7, .inr (6, [.int (nI v0.2.2.2.2.2.1), .int v0.2.2.2.2.2.2.1, .int v0.2.2.2.2.2.2.2.1, .int v0.2.2.2.2.2.2.2.2.1, .int v0.2.2.2.2.2.2.2.2.2.1, .int v0.2.2.2.2.2.2.2.2.2.2.1, .int v0.2.2.2.2.2.2.2.2.2.2.2.1, .int v0.2.2.2.2.2.2.2.2.2.2.2.2])), ((hLn u b_2 a_3 b_4 b_5) 8, .inr (0, [.ref ((hLn u b_2 a_3 b_4 b_5) 9), .ref ((hLn u b_2 a_3 b_4 b_5) 10)])), ((hLn u b_2 a_3 b_4 b_5) 9, .inl (g.2.1, 200, .inl (foOf v0 1 (fun _ => 0)))), ((hLn u b_2 a_3 b_4 b_5) 10, .inl (g.2.1, 200, .inl (sqOf v0 1 (fun _ => 0) (fun _ => 0))))]) (st1 := []) E hw [0, 8, 9, 10, 2, 3, 4, 6] rfl (x_runV (rest := []) E hw (c_X2_redraws l g (hLn u b_2 a_3 b_4 b_5) (fun _ => 0) (fun _ => 0) v0.1 v0.2.1 v0.2.2.1 v0.2.2.2.2.1 1 (by decide) rfl (by decide) (by decide)) km_X2_35 kv_X2_redraws [0, 8, 9, 10, 2, 3, 4, 6] rfl (by decide) 0 rfl hl.1 rfl rfl (Nat.le_of_ble_eq_true rfl) ⟨Nat.le_of_ble_eq_true rfl, Nat.le_of_ble_eq_true rfl⟩ ⟨Nat.le_of_ble_eq_true rfl, Nat.le_of_ble_eq_true rfl⟩ dX2_init_49) rfl rfl rfl (fun H locs hw => ?_)
  exact xr_v hQ E hr hw dX2_init_52 ⟨rfl, (hLn u b_2 a_3 b_4 b_5), rfl, rfl⟩
