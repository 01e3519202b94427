
theorem wh1 {w : Int32} (h : ¬ w = 0) (h2 : 0 ≤ w ∧ w ≤ 1) : w = 1 := by
  obtain ⟨j, hj, rfl⟩ := nI_of (Int32.not_lt.mpr h2.1)
  have h3 := (n_le hj (b := 1) (by decide)).mp h2.2
  have h4 : j ≠ 0 := fun z => h (by rw [z]; rfl)
  rw [show j = 1 by omega]
  rfl
theorem in_w {x : Int32} {m : Nat} (hm : m < 2 ^ 31) (h : 0 ≤ x ∧ x ≤ nI m) : ∃ k, k ≤ m ∧ x = nI k := by
  obtain ⟨j, hj, rfl⟩ := nI_of (Int32.not_lt.mpr h.1)
  exact ⟨j, (n_le hj hm).mp h.2, rfl⟩

set_option maxRecDepth 100000 in
set_option maxHeartbeats 4000000 in
theorem c_X8_mayLengthen (l : Launch) (g : xCfg) (o : Nat → Nat) (hs : Nat) (bads : Int32) (nos : Int32) (fuls : Int32) (cau : Int32) (whe : Int32) (cnt : Nat) (p : Nat) (fau : Int32) (isw : Int32) (ods : Int32) (x : Int32)  : Ct l g yX8_mayLengthen cX8_mayLengthen 2 (some .boolean) (xR 1 22) [.ref (o 0), .int x] [(o 0, .inr (8, [.ref (o 1), .ref (o 2), .int (nI hs), .int bads, .int nos, .int fuls, .int cau, .int whe, .ref (o 3), .ref (o 4), .int (nI cnt), .int (nI p), .int fau, .int isw, .int ods, .ref (o 5), .ref (o 6)]))] (is1 (some (.int (bI (5 ≤ x ∧ x ≤ 200)))) [(o 0, .inr (8, [.ref (o 1), .ref (o 2), .int (nI hs), .int bads, .int nos, .int fuls, .int cau, .int whe, .ref (o 3), .ref (o 4), .int (nI cnt), .int (nI p), .int fau, .int isw, .int ods, .ref (o 5), .ref (o 6)]))]) := by
  refine Ct.walk (by decide) (Nat.le_of_ble_eq_true rfl) ?_
  intro p0 e0 s0 m0 below meth c0 A0 ls Q hQ E hr hnm hw hl
  have hx := E.x
  have hb := E.b
  have hl : lv_has ls 2 [(0, .ref (o 0)), (1, .int x)] := hl
  refine lv_iload_n hx hb dX8_mayLengthen_0 rfl (lv_at hl 1 rfl) ?_
  refine lv_iconst (v := 5) hx hb dX8_mayLengthen_1 (by decide) ?_
  refine lv_sipush (v := 200) hx hb dX8_mayLengthen_2 (by decide) ?_
  refine x_goR (st1 := [.int (bI (5 ≤ x ∧ x ≤ 200))]) E hw [] rfl (x_runS (rest := []) E hw (c_X8_in l g x 5 200 ) km_X8_45 ks_X8_in [] rfl (by decide) hl.1 rfl rfl (Nat.le_of_ble_eq_true rfl) ⟨Nat.le_of_ble_eq_true rfl, Nat.le_of_ble_eq_true rfl⟩ ⟨Nat.zero_le _, Nat.zero_le _⟩ dX8_mayLengthen_5) rfl (fun H locs hw => ?_)
  exact xr_z hQ E hr hw dX8_mayLengthen_8 (bI_01 _) ⟨rfl, rfl⟩

set_option maxRecDepth 100000 in
set_option maxHeartbeats 4000000 in
theorem c_X8_mayLengthen_ok (l : Launch) (g : xCfg) (o : Nat → Nat) (hs : Nat) (bads : Int32) (nos : Int32) (fuls : Int32) (cau : Int32) (whe : Int32) (cnt : Nat) (p : Nat) (fau : Int32) (isw : Int32) (ods : Int32) (m : Nat) (hm : 5 ≤ m) (hm2 : m ≤ 200) : Ct l g yX8_mayLengthen cX8_mayLengthen 2 (some .boolean) (xR 1 22) [.ref (o 0), .int (nI m)] [(o 0, .inr (8, [.ref (o 1), .ref (o 2), .int (nI hs), .int bads, .int nos, .int fuls, .int cau, .int whe, .ref (o 3), .ref (o 4), .int (nI cnt), .int (nI p), .int fau, .int isw, .int ods, .ref (o 5), .ref (o 6)]))] (is1 (some (.int 1)) [(o 0, .inr (8, [.ref (o 1), .ref (o 2), .int (nI hs), .int bads, .int nos, .int fuls, .int cau, .int whe, .ref (o 3), .ref (o 4), .int (nI cnt), .int (nI p), .int fau, .int isw, .int ods, .ref (o 5), .ref (o 6)]))]) := by
  refine Ct.walk (by decide) (Nat.le_of_ble_eq_true rfl) ?_
  intro p0 e0 s0 m0 below meth c0 A0 ls Q hQ E hr hnm hw hl
  have hx := E.x
  have hb := E.b
  have hl : lv_has ls 2 [(0, .ref (o 0)), (1, .int (nI m))] := hl
  refine lv_iload_n hx hb dX8_mayLengthen_0 rfl (lv_at hl 1 rfl) ?_
  refine lv_iconst (v := 5) hx hb dX8_mayLengthen_1 (by decide) ?_
  refine lv_sipush (v := 200) hx hb dX8_mayLengthen_2 (by decide) ?_
  refine x_goR (st1 := [.int 1]) E hw [] rfl (x_runS (rest := []) E hw (c_X8_in_ok l g (nI m) 5 200 (nI_le (a := 5) hm (by omega)) (nI_le (b := 200) hm2 (by decide))) km_X8_45 ks_X8_in [] rfl (by decide) hl.1 rfl rfl (Nat.le_of_ble_eq_true rfl) ⟨Nat.le_of_ble_eq_true rfl, Nat.le_of_ble_eq_true rfl⟩ ⟨Nat.zero_le _, Nat.zero_le _⟩ dX8_mayLengthen_5) rfl (fun H locs hw => ?_)
  exact xr_z hQ E hr hw dX8_mayLengthen_8 (by decide) ⟨rfl, rfl⟩

set_option maxRecDepth 100000 in
set_option maxHeartbeats 4000000 in
theorem c_X8_mayLay_c (l : Launch) (g : xCfg) (o : Nat → Nat) (hs : Nat) (bads : Int32) (nos : Int32) (fuls : Int32) (cau : Int32) (whe : Int32) (cnt : Nat) (p : Nat) (fau : Int32) (isw : Int32) (ods : Int32) (v : SV) (a : Nat) (z : Nat) (u : Int32) (hL : v.1 ≤ 200) (hz : z < v.1) (ha : a ≤ z) (hv : (0 : Int32) ≤ u) (hv2 : u ≤ 60) : Ct l g yX8_mayLay cX8_mayLay 6 (some .boolean) (xR 2 43) [.ref (o 0), .int 0, .int (nI a), .int (nI z), .int u] [(o 0, .inr (8, [.ref (o 1), .ref (o 2), .int (nI hs), .int bads, .int nos, .int fuls, .int cau, .int whe, .ref (o 3), .ref (o 4), .int (nI cnt), .int (nI p), .int fau, .int isw, .int ods, .ref (o 5), .ref (o 6)])), (o 1, .inl (g.2.1, 616, .inl (nwF v)))] (is1 (some (.int 1)) [(o 0, .inr (8, [.ref (o 1), .ref (o 2), .int (nI hs), .int bads, .int nos, .int fuls, .int cau, .int whe, .ref (o 3), .ref (o 4), .int (nI cnt), .int (nI p), .int fau, .int isw, .int ods, .ref (o 5), .ref (o 6)])), (o 1, .inl (g.2.1, 616, .inl (nwF v)))]) := by
  refine Ct.walk (by decide) (Nat.le_of_ble_eq_true rfl) ?_
  intro p0 e0 s0 m0 below meth c0 A0 ls Q hQ E hr hnm hw hl
  have hx := E.x
  have hb := E.b
  have hl : lv_has ls 6 [(0, .ref (o 0)), (1, .int 0), (2, .int (nI a)), (3, .int (nI z)), (4, .int u)] := hl
  refine lv_iload_n hx hb dX8_mayLay_0 rfl (lv_at hl 1 rfl) ?_
  refine lv_if_ne (tgt := 15) hx hb dX8_mayLay_1 (by decide) (fun h => absurd h (by decide)) (fun _ => ?_)
  refine lv_iload hx hb dX8_mayLay_4 (lv_at hl 4 rfl) ?_
  refine lv_iconst (v := 0) hx hb dX8_mayLay_6 (by decide) ?_
  refine lv_bipush (v := 60) hx hb dX8_mayLay_7 (by decide) ?_
  refine x_goR (st1 := [.int 1]) E hw [] rfl (x_runS (rest := []) E hw (c_X8_in_ok l g u 0 60 hv hv2) km_X8_45 ks_X8_in [] rfl (by decide) hl.1 rfl rfl (Nat.le_of_ble_eq_true rfl) ⟨Nat.le_of_ble_eq_true rfl, Nat.le_of_ble_eq_true rfl⟩ ⟨Nat.zero_le _, Nat.zero_le _⟩ dX8_mayLay_9) rfl (fun H locs hw => ?_)
  refine lv_goto (tgt := 24) hx hb dX8_mayLay_12 (by decide) ?_
  refine lv_istore (lv' := [(5, .int 1), (0, .ref (o 0)), (1, .int 0), (2, .int (nI a)), (3, .int (nI z)), (4, .int u)]) hx hb dX8_mayLay_24 hl (by decide) rfl (fun ls hl => ?_)
  refine lv_iload_n hx hb dX8_mayLay_26 rfl (lv_at hl 2 rfl) ?_
  refine lv_iconst (v := 0) hx hb dX8_mayLay_27 (by decide) ?_
  refine lv_iconst (v := 1) hx hb dX8_mayLay_28 (by decide) ?_
  refine x_goR (st1 := [.int 1]) E hw [] rfl (x_runS (rest := []) E hw (c_X8_in_ok l g 0 0 1 (by decide) (by decide)) km_X8_45 ks_X8_in [] rfl (by decide) hl.1 rfl rfl (Nat.le_of_ble_eq_true rfl) ⟨Nat.le_of_ble_eq_true rfl, Nat.le_of_ble_eq_true rfl⟩ ⟨Nat.zero_le _, Nat.zero_le _⟩ dX8_mayLay_29) rfl (fun H locs hw => ?_)
  refine lv_if_eq (tgt := 65) hx hb dX8_mayLay_32 (by decide) (fun h => absurd h (by decide)) (fun _ => ?_)
  refine lv_aload_n hx hb dX8_mayLay_35 rfl (lv_at hl 1 rfl) ?_
  refine lv_iload_n hx hb dX8_mayLay_36 rfl (lv_at hl 3 rfl) ?_
  refine x_goR (st1 := [.int 1]) E hw [0, 1] rfl (x_runV (rest := []) E hw (c_X8_isCell_ok l g o hs bads nos fuls cau whe cnt p fau isw ods v a (by omega) (by omega)) km_X8_70 kv_X8_isCell [0, 1] rfl (by decide) 0 rfl hl.1 rfl rfl (Nat.le_of_ble_eq_true rfl) ⟨Nat.le_of_ble_eq_true rfl, Nat.le_of_ble_eq_true rfl⟩ ⟨Nat.zero_le _, Nat.zero_le _⟩ dX8_mayLay_37) rfl (fun H locs hw => ?_)
  refine lv_if_eq (tgt := 65) hx hb dX8_mayLay_40 (by decide) (fun h => absurd h (by decide)) (fun _ => ?_)
  refine lv_aload_n hx hb dX8_mayLay_43 rfl (lv_at hl 1 rfl) ?_
  refine lv_iload_n hx hb dX8_mayLay_44 rfl (lv_at hl 4 rfl) ?_
  refine x_goR (st1 := [.int 1]) E hw [0, 1] rfl (x_runV (rest := []) E hw (c_X8_isCell_ok l g o hs bads nos fuls cau whe cnt p fau isw ods v z (by omega) (by omega)) km_X8_70 kv_X8_isCell [0, 1] rfl (by decide) 0 rfl hl.1 rfl rfl (Nat.le_of_ble_eq_true rfl) ⟨Nat.le_of_ble_eq_true rfl, Nat.le_of_ble_eq_true rfl⟩ ⟨Nat.zero_le _, Nat.zero_le _⟩ dX8_mayLay_45) rfl (fun H locs hw => ?_)
  refine lv_if_eq (tgt := 65) hx hb dX8_mayLay_48 (by decide) (fun h => absurd h (by decide)) (fun _ => ?_)
  refine lv_iload_n hx hb dX8_mayLay_51 rfl (lv_at hl 3 rfl) ?_
  refine lv_iload_n hx hb dX8_mayLay_52 rfl (lv_at hl 4 rfl) ?_
  refine xn_gt (tgt := 65) hx hb a z rfl rfl (by omega) (by omega) dX8_mayLay_53 (by decide) (fun c_5 => ?_) (fun c_5 => ?_)
  · exact absurd c_5 (by omega)
  · refine lv_iload hx hb dX8_mayLay_56 (lv_at hl 0 rfl) ?_
    refine lv_if_eq (tgt := 65) hx hb dX8_mayLay_58 (by decide) (fun h => absurd h (by decide)) (fun _ => ?_)
    refine lv_iconst (v := 1) hx hb dX8_mayLay_61 (by decide) ?_
    refine lv_goto (tgt := 66) hx hb dX8_mayLay_62 (by decide) ?_
    exact xr_z hQ E hr hw dX8_mayLay_66 (by decide) ⟨rfl, rfl⟩

set_option maxRecDepth 100000 in
set_option maxHeartbeats 4000000 in
theorem c_X8_mayLay_g (l : Launch) (g : xCfg) (o : Nat → Nat) (hs : Nat) (bads : Int32) (nos : Int32) (fuls : Int32) (cau : Int32) (whe : Int32) (cnt : Nat) (p : Nat) (fau : Int32) (isw : Int32) (ods : Int32) (v : SV) (a : Nat) (z : Nat) (u : Int32) (hL : v.1 ≤ 200) (hz : z < v.1) (ha : a ≤ z) (hv : (-20 : Int32) ≤ u) (hv2 : u ≤ 20) : Ct l g yX8_mayLay cX8_mayLay 6 (some .boolean) (xR 2 43) [.ref (o 0), .int 1, .int (nI a), .int (nI z), .int u] [(o 0, .inr (8, [.ref (o 1), .ref (o 2), .int (nI hs), .int bads, .int nos, .int fuls, .int cau, .int whe, .ref (o 3), .ref (o 4), .int (nI cnt), .int (nI p), .int fau, .int isw, .int ods, .ref (o 5), .ref (o 6)])), (o 1, .inl (g.2.1, 616, .inl (nwF v)))] (is1 (some (.int 1)) [(o 0, .inr (8, [.ref (o 1), .ref (o 2), .int (nI hs), .int bads, .int nos, .int fuls, .int cau, .int whe, .ref (o 3), .ref (o 4), .int (nI cnt), .int (nI p), .int fau, .int isw, .int ods, .ref (o 5), .ref (o 6)])), (o 1, .inl (g.2.1, 616, .inl (nwF v)))]) := by
  refine Ct.walk (by decide) (Nat.le_of_ble_eq_true rfl) ?_
  intro p0 e0 s0 m0 below meth c0 A0 ls Q hQ E hr hnm hw hl
  have hx := E.x
  have hb := E.b
  have hl : lv_has ls 6 [(0, .ref (o 0)), (1, .int 1), (2, .int (nI a)), (3, .int (nI z)), (4, .int u)] := hl
  refine lv_iload_n hx hb dX8_mayLay_0 rfl (lv_at hl 1 rfl) ?_
  refine lv_if_ne (tgt := 15) hx hb dX8_mayLay_1 (by decide) (fun _ => ?_) (fun h => absurd h (by decide))
  refine lv_iload hx hb dX8_mayLay_15 (lv_at hl 4 rfl) ?_
  refine lv_bipush (v := -20) hx hb dX8_mayLay_17 (by decide) ?_
  refine lv_bipush (v := 20) hx hb dX8_mayLay_19 (by decide) ?_
  refine x_goR (st1 := [.int 1]) E hw [] rfl (x_runS (rest := []) E hw (c_X8_in_ok l g u (-20) 20 hv hv2) km_X8_45 ks_X8_in [] rfl (by decide) hl.1 rfl rfl (Nat.le_of_ble_eq_true rfl) ⟨Nat.le_of_ble_eq_true rfl, Nat.le_of_ble_eq_true rfl⟩ ⟨Nat.zero_le _, Nat.zero_le _⟩ dX8_mayLay_21) rfl (fun H locs hw => ?_)
  refine lv_istore (lv' := [(5, .int 1), (0, .ref (o 0)), (1, .int 1), (2, .int (nI a)), (3, .int (nI z)), (4, .int u)]) hx hb dX8_mayLay_24 hl (by decide) rfl (fun ls hl => ?_)
  refine lv_iload_n hx hb dX8_mayLay_26 rfl (lv_at hl 2 rfl) ?_
  refine lv_iconst (v := 0) hx hb dX8_mayLay_27 (by decide) ?_
  refine lv_iconst (v := 1) hx hb dX8_mayLay_28 (by decide) ?_
  refine x_goR (st1 := [.int 1]) E hw [] rfl (x_runS (rest := []) E hw (c_X8_in_ok l g 1 0 1 (by decide) (by decide)) km_X8_45 ks_X8_in [] rfl (by decide) hl.1 rfl rfl (Nat.le_of_ble_eq_true rfl) ⟨Nat.le_of_ble_eq_true rfl, Nat.le_of_ble_eq_true rfl⟩ ⟨Nat.zero_le _, Nat.zero_le _⟩ dX8_mayLay_29) rfl (fun H locs hw => ?_)
  refine lv_if_eq (tgt := 65) hx hb dX8_mayLay_32 (by decide) (fun h => absurd h (by decide)) (fun _ => ?_)
  refine lv_aload_n hx hb dX8_mayLay_35 rfl (lv_at hl 1 rfl) ?_
  refine lv_iload_n hx hb dX8_mayLay_36 rfl (lv_at hl 3 rfl) ?_
  refine x_goR (st1 := [.int 1]) E hw [0, 1] rfl (x_runV (rest := []) E hw (c_X8_isCell_ok l g o hs bads nos fuls cau whe cnt p fau isw ods v a (by omega) (by omega)) km_X8_70 kv_X8_isCell [0, 1] rfl (by decide) 0 rfl hl.1 rfl rfl (Nat.le_of_ble_eq_true rfl) ⟨Nat.le_of_ble_eq_true rfl, Nat.le_of_ble_eq_true rfl⟩ ⟨Nat.zero_le _, Nat.zero_le _⟩ dX8_mayLay_37) rfl (fun H locs hw => ?_)
  refine lv_if_eq (tgt := 65) hx hb dX8_mayLay_40 (by decide) (fun h => absurd h (by decide)) (fun _ => ?_)
  refine lv_aload_n hx hb dX8_mayLay_43 rfl (lv_at hl 1 rfl) ?_
  refine lv_iload_n hx hb dX8_mayLay_44 rfl (lv_at hl 4 rfl) ?_
  refine x_goR (st1 := [.int 1]) E hw [0, 1] rfl (x_runV (rest := []) E hw (c_X8_isCell_ok l g o hs bads nos fuls cau whe cnt p fau isw ods v z (by omega) (by omega)) km_X8_70 kv_X8_isCell [0, 1] rfl (by decide) 0 rfl hl.1 rfl rfl (Nat.le_of_ble_eq_true rfl) ⟨Nat.le_of_ble_eq_true rfl, Nat.le_of_ble_eq_true rfl⟩ ⟨Nat.zero_le _, Nat.zero_le _⟩ dX8_mayLay_45) rfl (fun H locs hw => ?_)
  refine lv_if_eq (tgt := 65) hx hb dX8_mayLay_48 (by decide) (fun h => absurd h (by decide)) (fun _ => ?_)
  refine lv_iload_n hx hb dX8_mayLay_51 rfl (lv_at hl 3 rfl) ?_
  refine lv_iload_n hx hb dX8_mayLay_52 rfl (lv_at hl 4 rfl) ?_
  refine xn_gt (tgt := 65) hx hb a z rfl rfl (by omega) (by omega) dX8_mayLay_53 (by decide) (fun c_5 => ?_) (fun c_5 => ?_)
  · exact absurd c_5 (by omega)
  · refine lv_iload hx hb dX8_mayLay_56 (lv_at hl 0 rfl) ?_
    refine lv_if_eq (tgt := 65) hx hb dX8_mayLay_58 (by decide) (fun h => absurd h (by decide)) (fun _ => ?_)
    refine lv_iconst (v := 1) hx hb dX8_mayLay_61 (by decide) ?_
    refine lv_goto (tgt := 66) hx hb dX8_mayLay_62 (by decide) ?_
    exact xr_z hQ E hr hw dX8_mayLay_66 (by decide) ⟨rfl, rfl⟩

set_option maxRecDepth 100000 in
set_option maxHeartbeats 4000000 in
theorem c_X8_mayLay_bad (l : Launch) (g : xCfg) (o : Nat → Nat) (hs : Nat) (bads : Int32) (nos : Int32) (fuls : Int32) (cau : Int32) (whe : Int32) (cnt : Nat) (p : Nat) (fau : Int32) (isw : Int32) (ods : Int32) (v : SV) (wh : Int32) (a : Int32) (b : Int32) (u : Int32) (hL1 : 1 ≤ v.1) (hb0 : ¬ layOk v.1 wh a b u) : Ct l g yX8_mayLay cX8_mayLay 6 (some .boolean) (xR 2 43) [.ref (o 0), .int wh, .int a, .int b, .int u] [(o 0, .inr (8, [.ref (o 1), .ref (o 2), .int (nI hs), .int bads, .int nos, .int fuls, .int cau, .int whe, .ref (o 3), .ref (o 4), .int (nI cnt), .int (nI p), .int fau, .int isw, .int ods, .ref (o 5), .ref (o 6)])), (o 1, .inl (g.2.1, 616, .inl (nwF v)))] (is1 (some (.int 0)) [(o 0, .inr (8, [.ref (o 1), .ref (o 2), .int (nI hs), .int bads, .int nos, .int fuls, .int cau, .int whe, .ref (o 3), .ref (o 4), .int (nI cnt), .int (nI p), .int fau, .int isw, .int ods, .ref (o 5), .ref (o 6)])), (o 1, .inl (g.2.1, 616, .inl (nwF v)))]) := by
  refine Ct.walk (by decide) (Nat.le_of_ble_eq_true rfl) ?_
  intro p0 e0 s0 m0 below meth c0 A0 ls Q hQ E hr hnm hw hl
  have hx := E.x
  have hb := E.b
  have hl : lv_has ls 6 [(0, .ref (o 0)), (1, .int wh), (2, .int a), (3, .int b), (4, .int u)] := hl
  refine lv_iload_n hx hb dX8_mayLay_0 rfl (lv_at hl 1 rfl) ?_
  refine lv_if_ne (tgt := 15) hx hb dX8_mayLay_1 (by decide) (fun c0 => ?_) (fun c0 => ?_)
  · refine lv_iload hx hb dX8_mayLay_15 (lv_at hl 4 rfl) ?_
    refine lv_bipush (v := -20) hx hb dX8_mayLay_17 (by decide) ?_
    refine lv_bipush (v := 20) hx hb dX8_mayLay_19 (by decide) ?_
    refine x_goR (st1 := [.int (bI ((-20) ≤ u ∧ u ≤ 20))]) E hw [] rfl (x_runS (rest := []) E hw (c_X8_in l g u (-20) 20 ) km_X8_45 ks_X8_in [] rfl (by decide) hl.1 rfl rfl (Nat.le_of_ble_eq_true rfl) ⟨Nat.le_of_ble_eq_true rfl, Nat.le_of_ble_eq_true rfl⟩ ⟨Nat.zero_le _, Nat.zero_le _⟩ dX8_mayLay_21) rfl (fun H locs hw => ?_)
    refine lv_istore (lv' := [(5, .int (bI ((-20) ≤ u ∧ u ≤ 20))), (0, .ref (o 0)), (1, .int wh), (2, .int a), (3, .int b), (4, .int u)]) hx hb dX8_mayLay_24 hl (by decide) rfl (fun ls hl => ?_)
    refine lv_iload_n hx hb dX8_mayLay_26 rfl (lv_at hl 2 rfl) ?_
    refine lv_iconst (v := 0) hx hb dX8_mayLay_27 (by decide) ?_
    refine lv_iconst (v := 1) hx hb dX8_mayLay_28 (by decide) ?_
    refine x_goR (st1 := [.int (bI (0 ≤ wh ∧ wh ≤ 1))]) E hw [] rfl (x_runS (rest := []) E hw (c_X8_in l g wh 0 1 ) km_X8_45 ks_X8_in [] rfl (by decide) hl.1 rfl rfl (Nat.le_of_ble_eq_true rfl) ⟨Nat.le_of_ble_eq_true rfl, Nat.le_of_ble_eq_true rfl⟩ ⟨Nat.zero_le _, Nat.zero_le _⟩ dX8_mayLay_29) rfl (fun H locs hw => ?_)
    refine xb_eq (tgt := 65) hx hb dX8_mayLay_32 (by decide) (fun c1 => ?_) (fun c1 => ?_)
    · refine lv_iconst (v := 0) hx hb dX8_mayLay_65 (by decide) ?_
      exact xr_z hQ E hr hw dX8_mayLay_66 (by decide) ⟨rfl, rfl⟩
    · refine lv_aload_n hx hb dX8_mayLay_35 rfl (lv_at hl 1 rfl) ?_
      refine lv_iload_n hx hb dX8_mayLay_36 rfl (lv_at hl 3 rfl) ?_
      refine x_goR (st1 := [.int (bI (0 ≤ a ∧ a ≤ nI (v.1 - 1)))]) E hw [0, 1] rfl (x_runV (rest := []) E hw (c_X8_isCell l g o hs bads nos fuls cau whe cnt p fau isw ods v a (by omega)) km_X8_70 kv_X8_isCell [0, 1] rfl (by decide) 0 rfl hl.1 rfl rfl (Nat.le_of_ble_eq_true rfl) ⟨Nat.le_of_ble_eq_true rfl, Nat.le_of_ble_eq_true rfl⟩ ⟨Nat.zero_le _, Nat.zero_le _⟩ dX8_mayLay_37) rfl (fun H locs hw => ?_)
      refine xb_eq (tgt := 65) hx hb dX8_mayLay_40 (by decide) (fun c2 => ?_) (fun c2 => ?_)
      · refine lv_iconst (v := 0) hx hb dX8_mayLay_65 (by decide) ?_
        exact xr_z hQ E hr hw dX8_mayLay_66 (by decide) ⟨rfl, rfl⟩
      · refine lv_aload_n hx hb dX8_mayLay_43 rfl (lv_at hl 1 rfl) ?_
        refine lv_iload_n hx hb dX8_mayLay_44 rfl (lv_at hl 4 rfl) ?_
        refine x_goR (st1 := [.int (bI (0 ≤ b ∧ b ≤ nI (v.1 - 1)))]) E hw [0, 1] rfl (x_runV (rest := []) E hw (c_X8_isCell l g o hs bads nos fuls cau whe cnt p fau isw ods v b (by omega)) km_X8_70 kv_X8_isCell [0, 1] rfl (by decide) 0 rfl hl.1 rfl rfl (Nat.le_of_ble_eq_true rfl) ⟨Nat.le_of_ble_eq_true rfl, Nat.le_of_ble_eq_true rfl⟩ ⟨Nat.zero_le _, Nat.zero_le _⟩ dX8_mayLay_45) rfl (fun H locs hw => ?_)
        refine xb_eq (tgt := 65) hx hb dX8_mayLay_48 (by decide) (fun c3 => ?_) (fun c3 => ?_)
        · refine lv_iconst (v := 0) hx hb dX8_mayLay_65 (by decide) ?_
          exact xr_z hQ E hr hw dX8_mayLay_66 (by decide) ⟨rfl, rfl⟩
        · refine lv_iload_n hx hb dX8_mayLay_51 rfl (lv_at hl 3 rfl) ?_
          refine lv_iload_n hx hb dX8_mayLay_52 rfl (lv_at hl 4 rfl) ?_
          refine lv_icmp_gt (tgt := 65) hx hb dX8_mayLay_53 (by decide) (fun c4 => ?_) (fun c4 => ?_)
          · refine lv_iconst (v := 0) hx hb dX8_mayLay_65 (by decide) ?_
            exact xr_z hQ E hr hw dX8_mayLay_66 (by decide) ⟨rfl, rfl⟩
          · refine lv_iload hx hb dX8_mayLay_56 (lv_at hl 0 rfl) ?_
            refine xb_eq (tgt := 65) hx hb dX8_mayLay_58 (by decide) (fun c5 => ?_) (fun c5 => ?_)
            · refine lv_iconst (v := 0) hx hb dX8_mayLay_65 (by decide) ?_
              exact xr_z hQ E hr hw dX8_mayLay_66 (by decide) ⟨rfl, rfl⟩
            · exact absurd ⟨⟨c2, c3, Int32.not_lt.mp c4⟩, Or.inr ⟨wh1 c0 c1, c5⟩⟩ hb0
  · refine lv_iload hx hb dX8_mayLay_4 (lv_at hl 4 rfl) ?_
    refine lv_iconst (v := 0) hx hb dX8_mayLay_6 (by decide) ?_
    refine lv_bipush (v := 60) hx hb dX8_mayLay_7 (by decide) ?_
    refine x_goR (st1 := [.int (bI (0 ≤ u ∧ u ≤ 60))]) E hw [] rfl (x_runS (rest := []) E hw (c_X8_in l g u 0 60 ) km_X8_45 ks_X8_in [] rfl (by decide) hl.1 rfl rfl (Nat.le_of_ble_eq_true rfl) ⟨Nat.le_of_ble_eq_true rfl, Nat.le_of_ble_eq_true rfl⟩ ⟨Nat.zero_le _, Nat.zero_le _⟩ dX8_mayLay_9) rfl (fun H locs hw => ?_)
    refine lv_goto (tgt := 24) hx hb dX8_mayLay_12 (by decide) ?_
    refine lv_istore (lv' := [(5, .int (bI (0 ≤ u ∧ u ≤ 60))), (0, .ref (o 0)), (1, .int wh), (2, .int a), (3, .int b), (4, .int u)]) hx hb dX8_mayLay_24 hl (by decide) rfl (fun ls hl => ?_)
    refine lv_iload_n hx hb dX8_mayLay_26 rfl (lv_at hl 2 rfl) ?_
    refine lv_iconst (v := 0) hx hb dX8_mayLay_27 (by decide) ?_
    refine lv_iconst (v := 1) hx hb dX8_mayLay_28 (by decide) ?_
    refine x_goR (st1 := [.int (bI (0 ≤ wh ∧ wh ≤ 1))]) E hw [] rfl (x_runS (rest := []) E hw (c_X8_in l g wh 0 1 ) km_X8_45 ks_X8_in [] rfl (by decide) hl.1 rfl rfl (Nat.le_of_ble_eq_true rfl) ⟨Nat.le_of_ble_eq_true rfl, Nat.le_of_ble_eq_true rfl⟩ ⟨Nat.zero_le _, Nat.zero_le _⟩ dX8_mayLay_29) rfl (fun H locs hw => ?_)
    refine xb_eq (tgt := 65) hx hb dX8_mayLay_32 (by decide) (fun c1 => ?_) (fun c1 => ?_)
    · refine lv_iconst (v := 0) hx hb dX8_mayLay_65 (by decide) ?_
      exact xr_z hQ E hr hw dX8_mayLay_66 (by decide) ⟨rfl, rfl⟩
    · refine lv_aload_n hx hb dX8_mayLay_35 rfl (lv_at hl 1 rfl) ?_
      refine lv_iload_n hx hb dX8_mayLay_36 rfl (lv_at hl 3 rfl) ?_
      refine x_goR (st1 := [.int (bI (0 ≤ a ∧ a ≤ nI (v.1 - 1)))]) E hw [0, 1] rfl (x_runV (rest := []) E hw (c_X8_isCell l g o hs bads nos fuls cau whe cnt p fau isw ods v a (by omega)) km_X8_70 kv_X8_isCell [0, 1] rfl (by decide) 0 rfl hl.1 rfl rfl (Nat.le_of_ble_eq_true rfl) ⟨Nat.le_of_ble_eq_true rfl, Nat.le_of_ble_eq_true rfl⟩ ⟨Nat.zero_le _, Nat.zero_le _⟩ dX8_mayLay_37) rfl (fun H locs hw => ?_)
      refine xb_eq (tgt := 65) hx hb dX8_mayLay_40 (by decide) (fun c2 => ?_) (fun c2 => ?_)
      · refine lv_iconst (v := 0) hx hb dX8_mayLay_65 (by decide) ?_
        exact xr_z hQ E hr hw dX8_mayLay_66 (by decide) ⟨rfl, rfl⟩
      · refine lv_aload_n hx hb dX8_mayLay_43 rfl (lv_at hl 1 rfl) ?_
        refine lv_iload_n hx hb dX8_mayLay_44 rfl (lv_at hl 4 rfl) ?_
        refine x_goR (st1 := [.int (bI (0 ≤ b ∧ b ≤ nI (v.1 - 1)))]) E hw [0, 1] rfl (x_runV (rest := []) E hw (c_X8_isCell l g o hs bads nos fuls cau whe cnt p fau isw ods v b (by omega)) km_X8_70 kv_X8_isCell [0, 1] rfl (by decide) 0 rfl hl.1 rfl rfl (Nat.le_of_ble_eq_true rfl) ⟨Nat.le_of_ble_eq_true rfl, Nat.le_of_ble_eq_true rfl⟩ ⟨Nat.zero_le _, Nat.zero_le _⟩ dX8_mayLay_45) rfl (fun H locs hw => ?_)
        refine xb_eq (tgt := 65) hx hb dX8_mayLay_48 (by decide) (fun c3 => ?_) (fun c3 => ?_)
        · refine lv_iconst (v := 0) hx hb dX8_mayLay_65 (by decide) ?_
          exact xr_z hQ E hr hw dX8_mayLay_66 (by decide) ⟨rfl, rfl⟩
        · refine lv_iload_n hx hb dX8_mayLay_51 rfl (lv_at hl 3 rfl) ?_
          refine lv_iload_n hx hb dX8_mayLay_52 rfl (lv_at hl 4 rfl) ?_
          refine lv_icmp_gt (tgt := 65) hx hb dX8_mayLay_53 (by decide) (fun c4 => ?_) (fun c4 => ?_)
          · refine lv_iconst (v := 0) hx hb dX8_mayLay_65 (by decide) ?_
            exact xr_z hQ E hr hw dX8_mayLay_66 (by decide) ⟨rfl, rfl⟩
          · refine lv_iload hx hb dX8_mayLay_56 (lv_at hl 0 rfl) ?_
            refine xb_eq (tgt := 65) hx hb dX8_mayLay_58 (by decide) (fun c5 => ?_) (fun c5 => ?_)
            · refine lv_iconst (v := 0) hx hb dX8_mayLay_65 (by decide) ?_
              exact xr_z hQ E hr hw dX8_mayLay_66 (by decide) ⟨rfl, rfl⟩
            · exact absurd ⟨⟨c2, c3, Int32.not_lt.mp c4⟩, Or.inl ⟨c0, c5⟩⟩ hb0

set_option maxRecDepth 100000 in
set_option maxHeartbeats 4000000 in
theorem c_X8_lengthens_ok (l : Launch) (g : xCfg) (o : Nat → Nat) (hs : Nat) (bads : Int32) (nos : Int32) (fuls : Int32) (cau : Int32) (whe : Int32) (cnt : Nat) (p : Nat) (fau : Int32) (isw : Int32) (ods : Int32) (v : SV) (P : Nat → SV) (sq : Nat → Int32) (tx : Nat → Int32) (wo : Nat → Int32) (nu : Nat → Int32) (m : Nat) (hL : v.1 ≤ 200) (hh : hs ≤ 6) (hm : 5 ≤ m) (hm2 : m ≤ 200) : Ct l g yX8_lengthens cX8_lengthens 2 (some .int) (xR 2 43) [.ref (o 0), .int (nI m)] [(o 0, .inr (8, [.ref (o 1), .ref (o 2), .int (nI hs), .int bads, .int nos, .int fuls, .int cau, .int whe, .ref (o 3), .ref (o 4), .int (nI cnt), .int (nI p), .int fau, .int isw, .int ods, .ref (o 5), .ref (o 6)])), (o 1, .inl (g.2.1, 616, .inl (nwF v))), (o 2, .inl (g.2.1, 4312, .inl (pF P))), (o 3, .inl (g.2.1, 201, .inl sq)), (o 4, .inl (g.2.1, 120, .inl tx)), (o 5, .inl (g.2.1, 24, .inl wo)), (o 6, .inl (g.2.1, 72, .inl nu))] (is1 (some (.int (nI v.1))) [(o 0, .inr (8, [.ref (o 1), .ref (o 2), .int (nI (min 6 (hs + 1))), .int bads, .int nos, .int fuls, .int cau, .int whe, .ref (o 3), .ref (o 4), .int (nI cnt), .int (nI p), .int fau, .int isw, .int ods, .ref (o 5), .ref (o 6)])), (o 1, .inl (g.2.1, 616, .inl (nwF (lenS m v)))), (o 2, .inl (g.2.1, 4312, .inl (pF (ntP P hs v)))), (o 3, .inl (g.2.1, 201, .inl sq)), (o 4, .inl (g.2.1, 120, .inl tx)), (o 5, .inl (g.2.1, 24, .inl wo)), (o 6, .inl (g.2.1, 72, .inl nu))]) := by
  refine Ct.walk (by decide) (Nat.le_of_ble_eq_true rfl) ?_
  intro p0 e0 s0 m0 below meth c0 A0 ls Q hQ E hr hnm hw hl
  have hx := E.x
  have hb := E.b
  have hl : lv_has ls 2 [(0, .ref (o 0)), (1, .int (nI m))] := hl
  refine lv_aload_n hx hb dX8_lengthens_0 rfl (lv_at hl 0 rfl) ?_
  refine lv_iload_n hx hb dX8_lengthens_1 rfl (lv_at hl 1 rfl) ?_
  refine x_goR (st1 := [.int 1]) E hw [0] rfl (x_runV (rest := []) E hw (c_X8_mayLengthen_ok l g o hs bads nos fuls cau whe cnt p fau isw ods m (by omega) (by omega)) km_X8_56 kv_X8_mayLengthen [0] rfl (by decide) 0 rfl hl.1 rfl rfl (Nat.le_of_ble_eq_true rfl) ⟨Nat.le_of_ble_eq_true rfl, Nat.le_of_ble_eq_true rfl⟩ ⟨Nat.zero_le _, Nat.zero_le _⟩ dX8_lengthens_2) rfl (fun H locs hw => ?_)
  refine lv_if_ne (tgt := 13) hx hb dX8_lengthens_5 (by decide) (fun _ => ?_) (fun h => absurd h (by decide))
  refine lv_aload_n hx hb dX8_lengthens_13 rfl (lv_at hl 0 rfl) ?_
  refine x_go (ws' := [(o 0, .inr (8, [.ref (o 1), .ref (o 2), .int (nI (min 6 (hs + 1))), .int bads, .int nos, .int fuls, .int cau, .int whe, .ref (o 3), .ref (o 4), .int (nI cnt), .int (nI p), .int fau, .int isw, .int ods, .ref (o 5), .ref (o 6)])), (o 1, .inl (g.2.1, 616, .inl (nwF v))), (o 2, .inl (g.2.1, 4312, .inl (pF (ntP P hs v)))), (o 3, .inl (g.2.1, 201, .inl sq)), (o 4, .inl (g.2.1, 120, .inl tx)), (o 5, .inl (g.2.1, 24, .inl wo)), (o 6, .inl (g.2.1, 72, .inl nu))]) (st1 := []) E hw [0, 1, 2] rfl (x_runV (rest := []) E hw (c_X8_notes l g o hs bads nos fuls cau whe cnt p fau isw ods v P (by omega)) km_X8_64 kv_X8_notes [0, 1, 2] rfl (by decide) 0 rfl hl.1 rfl rfl (Nat.le_of_ble_eq_true rfl) ⟨Nat.le_of_ble_eq_true rfl, Nat.le_of_ble_eq_true rfl⟩ ⟨Nat.zero_le _, Nat.zero_le _⟩ dX8_lengthens_14) rfl rfl rfl (fun H locs hw => ?_)
  refine lv_aload_n hx hb dX8_lengthens_17 rfl (lv_at hl 0 rfl) ?_
  refine lv_iload_n hx hb dX8_lengthens_18 rfl (lv_at hl 1 rfl) ?_
  refine x_go (ws' := [(o 0, .inr (8, [.ref (o 1), .ref (o 2), .int (nI (min 6 (hs + 1))), .int bads, .int nos, .int fuls, .int cau, .int whe, .ref (o 3), .ref (o 4), .int (nI cnt), .int (nI p), .int fau, .int isw, .int ods, .ref (o 5), .ref (o 6)])), (o 1, .inl (g.2.1, 616, .inl (nwF (lenS m v)))), (o 2, .inl (g.2.1, 4312, .inl (pF (ntP P hs v)))), (o 3, .inl (g.2.1, 201, .inl sq)), (o 4, .inl (g.2.1, 120, .inl tx)), (o 5, .inl (g.2.1, 24, .inl wo)), (o 6, .inl (g.2.1, 72, .inl nu))]) (st1 := [.int (nI v.1)]) E hw [0, 1] rfl (x_runV (rest := []) E hw (c_X8_lengthen l g o (min 6 (hs + 1)) bads nos fuls cau whe cnt p fau isw ods v m (by omega) (by omega)) km_X8_67 kv_X8_lengthen [0, 1] rfl (by decide) 0 rfl hl.1 rfl rfl (Nat.le_of_ble_eq_true rfl) ⟨Nat.le_of_ble_eq_true rfl, Nat.le_of_ble_eq_true rfl⟩ ⟨Nat.zero_le _, Nat.zero_le _⟩ dX8_lengthens_19) rfl rfl rfl (fun H locs hw => ?_)
  exact xr_i hQ E hr hw dX8_lengthens_22 ⟨rfl, rfl⟩

set_option maxRecDepth 100000 in
set_option maxHeartbeats 4000000 in
theorem c_X8_lengthens_bad (l : Launch) (g : xCfg) (o : Nat → Nat) (hs : Nat) (bads : Int32) (nos : Int32) (fuls : Int32) (cau : Int32) (whe : Int32) (cnt : Nat) (p : Nat) (fau : Int32) (isw : Int32) (ods : Int32) (v : SV) (P : Nat → SV) (sq : Nat → Int32) (tx : Nat → Int32) (wo : Nat → Int32) (nu : Nat → Int32) (x : Int32) (hb0 : ¬ (5 ≤ x ∧ x ≤ 200)) : Ct l g yX8_lengthens cX8_lengthens 2 (some .int) (xR 2 43) [.ref (o 0), .int x] [(o 0, .inr (8, [.ref (o 1), .ref (o 2), .int (nI hs), .int bads, .int nos, .int fuls, .int cau, .int whe, .ref (o 3), .ref (o 4), .int (nI cnt), .int (nI p), .int fau, .int isw, .int ods, .ref (o 5), .ref (o 6)])), (o 1, .inl (g.2.1, 616, .inl (nwF v))), (o 2, .inl (g.2.1, 4312, .inl (pF P))), (o 3, .inl (g.2.1, 201, .inl sq)), (o 4, .inl (g.2.1, 120, .inl tx)), (o 5, .inl (g.2.1, 24, .inl wo)), (o 6, .inl (g.2.1, 72, .inl nu))] (is1 (some (.int (-2))) [(o 0, .inr (8, [.ref (o 1), .ref (o 2), .int (nI hs), .int (bads + 1), .int nos, .int fuls, .int cau, .int whe, .ref (o 3), .ref (o 4), .int (nI cnt), .int (nI p), .int fau, .int isw, .int ods, .ref (o 5), .ref (o 6)])), (o 1, .inl (g.2.1, 616, .inl (nwF v))), (o 2, .inl (g.2.1, 4312, .inl (pF P))), (o 3, .inl (g.2.1, 201, .inl sq)), (o 4, .inl (g.2.1, 120, .inl tx)), (o 5, .inl (g.2.1, 24, .inl wo)), (o 6, .inl (g.2.1, 72, .inl nu))]) := by
  refine Ct.walk (by decide) (Nat.le_of_ble_eq_true rfl) ?_
  intro p0 e0 s0 m0 below meth c0 A0 ls Q hQ E hr hnm hw hl
  have hx := E.x
  have hb := E.b
  have hl : lv_has ls 2 [(0, .ref (o 0)), (1, .int x)] := hl
  refine lv_aload_n hx hb dX8_lengthens_0 rfl (lv_at hl 0 rfl) ?_
  refine lv_iload_n hx hb dX8_lengthens_1 rfl (lv_at hl 1 rfl) ?_
  refine x_goR (st1 := [.int (bI (5 ≤ x ∧ x ≤ 200))]) E hw [0] rfl (x_runV (rest := []) E hw (c_X8_mayLengthen l g o hs bads nos fuls cau whe cnt p fau isw ods x ) km_X8_56 kv_X8_mayLengthen [0] rfl (by decide) 0 rfl hl.1 rfl rfl (Nat.le_of_ble_eq_true rfl) ⟨Nat.le_of_ble_eq_true rfl, Nat.le_of_ble_eq_true rfl⟩ ⟨Nat.zero_le _, Nat.zero_le _⟩ dX8_lengthens_2) rfl (fun H locs hw => ?_)
  refine xb_ne (tgt := 13) hx hb dX8_lengthens_5 (by decide) (fun c1 => ?_) (fun c1 => ?_)
  · exact absurd c1 hb0
  · refine lv_aload_n hx hb dX8_lengthens_8 rfl (lv_at hl 0 rfl) ?_
    refine x_go (ws' := [(o 0, .inr (8, [.ref (o 1), .ref (o 2), .int (nI hs), .int (bads + 1), .int nos, .int fuls, .int cau, .int whe, .ref (o 3), .ref (o 4), .int (nI cnt), .int (nI p), .int fau, .int isw, .int ods, .ref (o 5), .ref (o 6)])), (o 1, .inl (g.2.1, 616, .inl (nwF v))), (o 2, .inl (g.2.1, 4312, .inl (pF P))), (o 3, .inl (g.2.1, 201, .inl sq)), (o 4, .inl (g.2.1, 120, .inl tx)), (o 5, .inl (g.2.1, 24, .inl wo)), (o 6, .inl (g.2.1, 72, .inl nu))]) (st1 := [.int (-2)]) E hw [0] rfl (x_runV (rest := []) E hw (c_X8_bad l g o hs bads nos fuls cau whe cnt p fau isw ods ) km_X8_60 kv_X8_bad [0] rfl (by decide) 0 rfl hl.1 rfl rfl (Nat.le_of_ble_eq_true rfl) ⟨Nat.le_of_ble_eq_true rfl, Nat.le_of_ble_eq_true rfl⟩ ⟨Nat.zero_le _, Nat.zero_le _⟩ dX8_lengthens_9) rfl rfl rfl (fun H locs hw => ?_)
    exact xr_i hQ E hr hw dX8_lengthens_12 ⟨rfl, rfl⟩

set_option maxRecDepth 100000 in
set_option maxHeartbeats 4000000 in
theorem c_X8_lays_c (l : Launch) (g : xCfg) (o : Nat → Nat) (hs : Nat) (bads : Int32) (nos : Int32) (fuls : Int32) (cau : Int32) (whe : Int32) (cnt : Nat) (p : Nat) (fau : Int32) (isw : Int32) (ods : Int32) (v : SV) (P : Nat → SV) (sq : Nat → Int32) (tx : Nat → Int32) (wo : Nat → Int32) (nu : Nat → Int32) (a : Nat) (z : Nat) (u : Int32) (hL : v.1 ≤ 200) (hh : hs ≤ 6) (hz : z < v.1) (ha : a ≤ z) (hv : (0 : Int32) ≤ u) (hv2 : u ≤ 60) : Ct l g yX8_lays cX8_lays 5 (some .int) (xR 3 68) [.ref (o 0), .int 0, .int (nI a), .int (nI z), .int u] [(o 0, .inr (8, [.ref (o 1), .ref (o 2), .int (nI hs), .int bads, .int nos, .int fuls, .int cau, .int whe, .ref (o 3), .ref (o 4), .int (nI cnt), .int (nI p), .int fau, .int isw, .int ods, .ref (o 5), .ref (o 6)])), (o 1, .inl (g.2.1, 616, .inl (nwF v))), (o 2, .inl (g.2.1, 4312, .inl (pF P))), (o 3, .inl (g.2.1, 201, .inl sq)), (o 4, .inl (g.2.1, 120, .inl tx)), (o 5, .inl (g.2.1, 24, .inl wo)), (o 6, .inl (g.2.1, 72, .inl nu))] (is1 (some (.int (nI (cntNe v.2.1 u a (z + 1))))) [(o 0, .inr (8, [.ref (o 1), .ref (o 2), .int (nI (min 6 (hs + 1))), .int bads, .int nos, .int fuls, .int cau, .int whe, .ref (o 3), .ref (o 4), .int (nI cnt), .int (nI p), .int fau, .int isw, .int ods, .ref (o 5), .ref (o 6)])), (o 1, .inl (g.2.1, 616, .inl (nwF (ceiS a z u v)))), (o 2, .inl (g.2.1, 4312, .inl (pF (ntP P hs v)))), (o 3, .inl (g.2.1, 201, .inl sq)), (o 4, .inl (g.2.1, 120, .inl tx)), (o 5, .inl (g.2.1, 24, .inl wo)), (o 6, .inl (g.2.1, 72, .inl nu))]) := by
  refine Ct.walk (by decide) (Nat.le_of_ble_eq_true rfl) ?_
  intro p0 e0 s0 m0 below meth c0 A0 ls Q hQ E hr hnm hw hl
  have hx := E.x
  have hb := E.b
  have hl : lv_has ls 5 [(0, .ref (o 0)), (1, .int 0), (2, .int (nI a)), (3, .int (nI z)), (4, .int u)] := hl
  refine lv_aload_n hx hb dX8_lays_0 rfl (lv_at hl 0 rfl) ?_
  refine lv_iload_n hx hb dX8_lays_1 rfl (lv_at hl 1 rfl) ?_
  refine lv_iload_n hx hb dX8_lays_2 rfl (lv_at hl 2 rfl) ?_
  refine lv_iload_n hx hb dX8_lays_3 rfl (lv_at hl 3 rfl) ?_
  refine lv_iload hx hb dX8_lays_4 (lv_at hl 4 rfl) ?_
  refine x_goR (st1 := [.int 1]) E hw [0, 1] rfl (x_runV (rest := []) E hw (c_X8_mayLay_c l g o hs bads nos fuls cau whe cnt p fau isw ods v a z u (by omega) (by omega) (by omega) hv hv2) km_X8_73 kv_X8_mayLay [0, 1] rfl (by decide) 0 rfl hl.1 rfl rfl (Nat.le_of_ble_eq_true rfl) ⟨Nat.le_of_ble_eq_true rfl, Nat.le_of_ble_eq_true rfl⟩ ⟨Nat.zero_le _, Nat.zero_le _⟩ dX8_lays_6) rfl (fun H locs hw => ?_)
  refine lv_if_ne (tgt := 17) hx hb dX8_lays_9 (by decide) (fun _ => ?_) (fun h => absurd h (by decide))
  refine lv_aload_n hx hb dX8_lays_17 rfl (lv_at hl 0 rfl) ?_
  refine x_go (ws' := [(o 0, .inr (8, [.ref (o 1), .ref (o 2), .int (nI (min 6 (hs + 1))), .int bads, .int nos, .int fuls, .int cau, .int whe, .ref (o 3), .ref (o 4), .int (nI cnt), .int (nI p), .int fau, .int isw, .int ods, .ref (o 5), .ref (o 6)])), (o 1, .inl (g.2.1, 616, .inl (nwF v))), (o 2, .inl (g.2.1, 4312, .inl (pF (ntP P hs v)))), (o 3, .inl (g.2.1, 201, .inl sq)), (o 4, .inl (g.2.1, 120, .inl tx)), (o 5, .inl (g.2.1, 24, .inl wo)), (o 6, .inl (g.2.1, 72, .inl nu))]) (st1 := []) E hw [0, 1, 2] rfl (x_runV (rest := []) E hw (c_X8_notes l g o hs bads nos fuls cau whe cnt p fau isw ods v P (by omega)) km_X8_64 kv_X8_notes [0, 1, 2] rfl (by decide) 0 rfl hl.1 rfl rfl (Nat.le_of_ble_eq_true rfl) ⟨Nat.le_of_ble_eq_true rfl, Nat.le_of_ble_eq_true rfl⟩ ⟨Nat.zero_le _, Nat.zero_le _⟩ dX8_lays_18) rfl rfl rfl (fun H locs hw => ?_)
  refine lv_aload_n hx hb dX8_lays_21 rfl (lv_at hl 0 rfl) ?_
  refine lv_iload_n hx hb dX8_lays_22 rfl (lv_at hl 1 rfl) ?_
  refine lv_iload_n hx hb dX8_lays_23 rfl (lv_at hl 2 rfl) ?_
  refine lv_iload_n hx hb dX8_lays_24 rfl (lv_at hl 3 rfl) ?_
  refine lv_iload hx hb dX8_lays_25 (lv_at hl 4 rfl) ?_
  refine x_go (ws' := [(o 0, .inr (8, [.ref (o 1), .ref (o 2), .int (nI (min 6 (hs + 1))), .int bads, .int nos, .int fuls, .int cau, .int whe, .ref (o 3), .ref (o 4), .int (nI cnt), .int (nI p), .int fau, .int isw, .int ods, .ref (o 5), .ref (o 6)])), (o 1, .inl (g.2.1, 616, .inl (nwF (ceiS a z u v)))), (o 2, .inl (g.2.1, 4312, .inl (pF (ntP P hs v)))), (o 3, .inl (g.2.1, 201, .inl sq)), (o 4, .inl (g.2.1, 120, .inl tx)), (o 5, .inl (g.2.1, 24, .inl wo)), (o 6, .inl (g.2.1, 72, .inl nu))]) (st1 := [.int (nI (cntNe v.2.1 u a (z + 1)))]) E hw [0, 1] rfl (x_runV (rest := []) E hw (c_X8_lay_c l g o (min 6 (hs + 1)) bads nos fuls cau whe cnt p fau isw ods v a z u (by omega) (by omega)) km_X8_77 kv_X8_lay [0, 1] rfl (by decide) 0 rfl hl.1 rfl rfl (Nat.le_of_ble_eq_true rfl) ⟨Nat.le_of_ble_eq_true rfl, Nat.le_of_ble_eq_true rfl⟩ ⟨Nat.zero_le _, Nat.zero_le _⟩ dX8_lays_27) rfl rfl rfl (fun H locs hw => ?_)
  exact xr_i hQ E hr hw dX8_lays_30 ⟨rfl, rfl⟩

set_option maxRecDepth 100000 in
set_option maxHeartbeats 4000000 in
theorem c_X8_lays_g (l : Launch) (g : xCfg) (o : Nat → Nat) (hs : Nat) (bads : Int32) (nos : Int32) (fuls : Int32) (cau : Int32) (whe : Int32) (cnt : Nat) (p : Nat) (fau : Int32) (isw : Int32) (ods : Int32) (v : SV) (P : Nat → SV) (sq : Nat → Int32) (tx : Nat → Int32) (wo : Nat → Int32) (nu : Nat → Int32) (a : Nat) (z : Nat) (u : Int32) (hL : v.1 ≤ 200) (hh : hs ≤ 6) (hz : z < v.1) (ha : a ≤ z) (hv : (-20 : Int32) ≤ u) (hv2 : u ≤ 20) : Ct l g yX8_lays cX8_lays 5 (some .int) (xR 3 68) [.ref (o 0), .int 1, .int (nI a), .int (nI z), .int u] [(o 0, .inr (8, [.ref (o 1), .ref (o 2), .int (nI hs), .int bads, .int nos, .int fuls, .int cau, .int whe, .ref (o 3), .ref (o 4), .int (nI cnt), .int (nI p), .int fau, .int isw, .int ods, .ref (o 5), .ref (o 6)])), (o 1, .inl (g.2.1, 616, .inl (nwF v))), (o 2, .inl (g.2.1, 4312, .inl (pF P))), (o 3, .inl (g.2.1, 201, .inl sq)), (o 4, .inl (g.2.1, 120, .inl tx)), (o 5, .inl (g.2.1, 24, .inl wo)), (o 6, .inl (g.2.1, 72, .inl nu))] (is1 (some (.int (nI (cntNe v.2.2.1 u a (z + 1))))) [(o 0, .inr (8, [.ref (o 1), .ref (o 2), .int (nI (min 6 (hs + 1))), .int bads, .int nos, .int fuls, .int cau, .int whe, .ref (o 3), .ref (o 4), .int (nI cnt), .int (nI p), .int fau, .int isw, .int ods, .ref (o 5), .ref (o 6)])), (o 1, .inl (g.2.1, 616, .inl (nwF (graS a z u v)))), (o 2, .inl (g.2.1, 4312, .inl (pF (ntP P hs v)))), (o 3, .inl (g.2.1, 201, .inl sq)), (o 4, .inl (g.2.1, 120, .inl tx)), (o 5, .inl (g.2.1, 24, .inl wo)), (o 6, .inl (g.2.1, 72, .inl nu))]) := by
  refine Ct.walk (by decide) (Nat.le_of_ble_eq_true rfl) ?_
  intro p0 e0 s0 m0 below meth c0 A0 ls Q hQ E hr hnm hw hl
  have hx := E.x
  have hb := E.b
  have hl : lv_has ls 5 [(0, .ref (o 0)), (1, .int 1), (2, .int (nI a)), (3, .int (nI z)), (4, .int u)] := hl
  refine lv_aload_n hx hb dX8_lays_0 rfl (lv_at hl 0 rfl) ?_
  refine lv_iload_n hx hb dX8_lays_1 rfl (lv_at hl 1 rfl) ?_
  refine lv_iload_n hx hb dX8_lays_2 rfl (lv_at hl 2 rfl) ?_
  refine lv_iload_n hx hb dX8_lays_3 rfl (lv_at hl 3 rfl) ?_
  refine lv_iload hx hb dX8_lays_4 (lv_at hl 4 rfl) ?_
  refine x_goR (st1 := [.int 1]) E hw [0, 1] rfl (x_runV (rest := []) E hw (c_X8_mayLay_g l g o hs bads nos fuls cau whe cnt p fau isw ods v a z u (by omega) (by omega) (by omega) hv hv2) km_X8_73 kv_X8_mayLay [0, 1] rfl (by decide) 0 rfl hl.1 rfl rfl (Nat.le_of_ble_eq_true rfl) ⟨Nat.le_of_ble_eq_true rfl, Nat.le_of_ble_eq_true rfl⟩ ⟨Nat.zero_le _, Nat.zero_le _⟩ dX8_lays_6) rfl (fun H locs hw => ?_)
  refine lv_if_ne (tgt := 17) hx hb dX8_lays_9 (by decide) (fun _ => ?_) (fun h => absurd h (by decide))
  refine lv_aload_n hx hb dX8_lays_17 rfl (lv_at hl 0 rfl) ?_
  refine x_go (ws' := [(o 0, .inr (8, [.ref (o 1), .ref (o 2), .int (nI (min 6 (hs + 1))), .int bads, .int nos, .int fuls, .int cau, .int whe, .ref (o 3), .ref (o 4), .int (nI cnt), .int (nI p), .int fau, .int isw, .int ods, .ref (o 5), .ref (o 6)])), (o 1, .inl (g.2.1, 616, .inl (nwF v))), (o 2, .inl (g.2.1, 4312, .inl (pF (ntP P hs v)))), (o 3, .inl (g.2.1, 201, .inl sq)), (o 4, .inl (g.2.1, 120, .inl tx)), (o 5, .inl (g.2.1, 24, .inl wo)), (o 6, .inl (g.2.1, 72, .inl nu))]) (st1 := []) E hw [0, 1, 2] rfl (x_runV (rest := []) E hw (c_X8_notes l g o hs bads nos fuls cau whe cnt p fau isw ods v P (by omega)) km_X8_64 kv_X8_notes [0, 1, 2] rfl (by decide) 0 rfl hl.1 rfl rfl (Nat.le_of_ble_eq_true rfl) ⟨Nat.le_of_ble_eq_true rfl, Nat.le_of_ble_eq_true rfl⟩ ⟨Nat.zero_le _, Nat.zero_le _⟩ dX8_lays_18) rfl rfl rfl (fun H locs hw => ?_)
  refine lv_aload_n hx hb dX8_lays_21 rfl (lv_at hl 0 rfl) ?_
  refine lv_iload_n hx hb dX8_lays_22 rfl (lv_at hl 1 rfl) ?_
  refine lv_iload_n hx hb dX8_lays_23 rfl (lv_at hl 2 rfl) ?_
  refine lv_iload_n hx hb dX8_lays_24 rfl (lv_at hl 3 rfl) ?_
  refine lv_iload hx hb dX8_lays_25 (lv_at hl 4 rfl) ?_
  refine x_go (ws' := [(o 0, .inr (8, [.ref (o 1), .ref (o 2), .int (nI (min 6 (hs + 1))), .int bads, .int nos, .int fuls, .int cau, .int whe, .ref (o 3), .ref (o 4), .int (nI cnt), .int (nI p), .int fau, .int isw, .int ods, .ref (o 5), .ref (o 6)])), (o 1, .inl (g.2.1, 616, .inl (nwF (graS a z u v)))), (o 2, .inl (g.2.1, 4312, .inl (pF (ntP P hs v)))), (o 3, .inl (g.2.1, 201, .inl sq)), (o 4, .inl (g.2.1, 120, .inl tx)), (o 5, .inl (g.2.1, 24, .inl wo)), (o 6, .inl (g.2.1, 72, .inl nu))]) (st1 := [.int (nI (cntNe v.2.2.1 u a (z + 1)))]) E hw [0, 1] rfl (x_runV (rest := []) E hw (c_X8_lay_g l g o (min 6 (hs + 1)) bads nos fuls cau whe cnt p fau isw ods v a z u (by omega) (by omega)) km_X8_77 kv_X8_lay [0, 1] rfl (by decide) 0 rfl hl.1 rfl rfl (Nat.le_of_ble_eq_true rfl) ⟨Nat.le_of_ble_eq_true rfl, Nat.le_of_ble_eq_true rfl⟩ ⟨Nat.zero_le _, Nat.zero_le _⟩ dX8_lays_27) rfl rfl rfl (fun H locs hw => ?_)
  exact xr_i hQ E hr hw dX8_lays_30 ⟨rfl, rfl⟩

set_option maxRecDepth 100000 in
set_option maxHeartbeats 4000000 in
theorem c_X8_lays_bad (l : Launch) (g : xCfg) (o : Nat → Nat) (hs : Nat) (bads : Int32) (nos : Int32) (fuls : Int32) (cau : Int32) (whe : Int32) (cnt : Nat) (p : Nat) (fau : Int32) (isw : Int32) (ods : Int32) (v : SV) (P : Nat → SV) (sq : Nat → Int32) (tx : Nat → Int32) (wo : Nat → Int32) (nu : Nat → Int32) (wh : Int32) (a : Int32) (b : Int32) (u : Int32) (hL1 : 1 ≤ v.1) (hb0 : ¬ layOk v.1 wh a b u) : Ct l g yX8_lays cX8_lays 5 (some .int) (xR 3 68) [.ref (o 0), .int wh, .int a, .int b, .int u] [(o 0, .inr (8, [.ref (o 1), .ref (o 2), .int (nI hs), .int bads, .int nos, .int fuls, .int cau, .int whe, .ref (o 3), .ref (o 4), .int (nI cnt), .int (nI p), .int fau, .int isw, .int ods, .ref (o 5), .ref (o 6)])), (o 1, .inl (g.2.1, 616, .inl (nwF v))), (o 2, .inl (g.2.1, 4312, .inl (pF P))), (o 3, .inl (g.2.1, 201, .inl sq)), (o 4, .inl (g.2.1, 120, .inl tx)), (o 5, .inl (g.2.1, 24, .inl wo)), (o 6, .inl (g.2.1, 72, .inl nu))] (is1 (some (.int (-2))) [(o 0, .inr (8, [.ref (o 1), .ref (o 2), .int (nI hs), .int (bads + 1), .int nos, .int fuls, .int cau, .int whe, .ref (o 3), .ref (o 4), .int (nI cnt), .int (nI p), .int fau, .int isw, .int ods, .ref (o 5), .ref (o 6)])), (o 1, .inl (g.2.1, 616, .inl (nwF v))), (o 2, .inl (g.2.1, 4312, .inl (pF P))), (o 3, .inl (g.2.1, 201, .inl sq)), (o 4, .inl (g.2.1, 120, .inl tx)), (o 5, .inl (g.2.1, 24, .inl wo)), (o 6, .inl (g.2.1, 72, .inl nu))]) := by
  refine Ct.walk (by decide) (Nat.le_of_ble_eq_true rfl) ?_
  intro p0 e0 s0 m0 below meth c0 A0 ls Q hQ E hr hnm hw hl
  have hx := E.x
  have hb := E.b
  have hl : lv_has ls 5 [(0, .ref (o 0)), (1, .int wh), (2, .int a), (3, .int b), (4, .int u)] := hl
  refine lv_aload_n hx hb dX8_lays_0 rfl (lv_at hl 0 rfl) ?_
  refine lv_iload_n hx hb dX8_lays_1 rfl (lv_at hl 1 rfl) ?_
  refine lv_iload_n hx hb dX8_lays_2 rfl (lv_at hl 2 rfl) ?_
  refine lv_iload_n hx hb dX8_lays_3 rfl (lv_at hl 3 rfl) ?_
  refine lv_iload hx hb dX8_lays_4 (lv_at hl 4 rfl) ?_
  refine x_goR (st1 := [.int 0]) E hw [0, 1] rfl (x_runV (rest := []) E hw (c_X8_mayLay_bad l g o hs bads nos fuls cau whe cnt p fau isw ods v wh a b u (by omega) hb0) km_X8_73 kv_X8_mayLay [0, 1] rfl (by decide) 0 rfl hl.1 rfl rfl (Nat.le_of_ble_eq_true rfl) ⟨Nat.le_of_ble_eq_true rfl, Nat.le_of_ble_eq_true rfl⟩ ⟨Nat.zero_le _, Nat.zero_le _⟩ dX8_lays_6) rfl (fun H locs hw => ?_)
  refine lv_if_ne (tgt := 17) hx hb dX8_lays_9 (by decide) (fun h => absurd h (by decide)) (fun _ => ?_)
  refine lv_aload_n hx hb dX8_lays_12 rfl (lv_at hl 0 rfl) ?_
  refine x_go (ws' := [(o 0, .inr (8, [.ref (o 1), .ref (o 2), .int (nI hs), .int (bads + 1), .int nos, .int fuls, .int cau, .int whe, .ref (o 3), .ref (o 4), .int (nI cnt), .int (nI p), .int fau, .int isw, .int ods, .ref (o 5), .ref (o 6)])), (o 1, .inl (g.2.1, 616, .inl (nwF v))), (o 2, .inl (g.2.1, 4312, .inl (pF P))), (o 3, .inl (g.2.1, 201, .inl sq)), (o 4, .inl (g.2.1, 120, .inl tx)), (o 5, .inl (g.2.1, 24, .inl wo)), (o 6, .inl (g.2.1, 72, .inl nu))]) (st1 := [.int (-2)]) E hw [0] rfl (x_runV (rest := []) E hw (c_X8_bad l g o hs bads nos fuls cau whe cnt p fau isw ods ) km_X8_60 kv_X8_bad [0] rfl (by decide) 0 rfl hl.1 rfl rfl (Nat.le_of_ble_eq_true rfl) ⟨Nat.le_of_ble_eq_true rfl, Nat.le_of_ble_eq_true rfl⟩ ⟨Nat.zero_le _, Nat.zero_le _⟩ dX8_lays_13) rfl rfl rfl (fun H locs hw => ?_)
  exact xr_i hQ E hr hw dX8_lays_16 ⟨rfl, rfl⟩

set_option maxRecDepth 100000 in
set_option maxHeartbeats 4000000 in
theorem c_X8_beacon_ok (l : Launch) (g : xCfg) (o : Nat → Nat) (hs : Nat) (bads : Int32) (nos : Int32) (fuls : Int32) (cau : Int32) (whe : Int32) (cnt : Nat) (p : Nat) (fau : Int32) (isw : Int32) (ods : Int32) (v : SV) (P : Nat → SV) (sq : Nat → Int32) (tx : Nat → Int32) (wo : Nat → Int32) (nu : Nat → Int32) (a : Nat) (on : Int32) (hL : v.1 ≤ 200) (hh : hs ≤ 6) (ha : a < v.1) (ho : 0 ≤ on) (ho2 : on ≤ 1) : Ct l g yX8_beacon cX8_beacon 3 (some .int) (xR 2 43) [.ref (o 0), .int (nI a), .int on] [(o 0, .inr (8, [.ref (o 1), .ref (o 2), .int (nI hs), .int bads, .int nos, .int fuls, .int cau, .int whe, .ref (o 3), .ref (o 4), .int (nI cnt), .int (nI p), .int fau, .int isw, .int ods, .ref (o 5), .ref (o 6)])), (o 1, .inl (g.2.1, 616, .inl (nwF v))), (o 2, .inl (g.2.1, 4312, .inl (pF P))), (o 3, .inl (g.2.1, 201, .inl sq)), (o 4, .inl (g.2.1, 120, .inl tx)), (o 5, .inl (g.2.1, 24, .inl wo)), (o 6, .inl (g.2.1, 72, .inl nu))] (is1 (some (.int (v.2.2.2.1 a))) [(o 0, .inr (8, [.ref (o 1), .ref (o 2), .int (nI (min 6 (hs + 1))), .int bads, .int nos, .int fuls, .int cau, .int whe, .ref (o 3), .ref (o 4), .int (nI cnt), .int (nI p), .int fau, .int isw, .int ods, .ref (o 5), .ref (o 6)])), (o 1, .inl (g.2.1, 616, .inl (nwF (beaS a on v)))), (o 2, .inl (g.2.1, 4312, .inl (pF (ntP P hs v)))), (o 3, .inl (g.2.1, 201, .inl sq)), (o 4, .inl (g.2.1, 120, .inl tx)), (o 5, .inl (g.2.1, 24, .inl wo)), (o 6, .inl (g.2.1, 72, .inl nu))]) := by
  refine Ct.walk (by decide) (Nat.le_of_ble_eq_true rfl) ?_
  intro p0 e0 s0 m0 below meth c0 A0 ls Q hQ E hr hnm hw hl
  have hx := E.x
  have hb := E.b
  have hl : lv_has ls 3 [(0, .ref (o 0)), (1, .int (nI a)), (2, .int on)] := hl
  refine lv_aload_n hx hb dX8_beacon_0 rfl (lv_at hl 0 rfl) ?_
  refine lv_iload_n hx hb dX8_beacon_1 rfl (lv_at hl 1 rfl) ?_
  refine x_goR (st1 := [.int 1]) E hw [0, 1] rfl (x_runV (rest := []) E hw (c_X8_isCell_ok l g o hs bads nos fuls cau whe cnt p fau isw ods v a (by omega) (by omega)) km_X8_70 kv_X8_isCell [0, 1] rfl (by decide) 0 rfl hl.1 rfl rfl (Nat.le_of_ble_eq_true rfl) ⟨Nat.le_of_ble_eq_true rfl, Nat.le_of_ble_eq_true rfl⟩ ⟨Nat.zero_le _, Nat.zero_le _⟩ dX8_beacon_2) rfl (fun H locs hw => ?_)
  refine lv_if_eq (tgt := 17) hx hb dX8_beacon_5 (by decide) (fun h => absurd h (by decide)) (fun _ => ?_)
  refine lv_iload_n hx hb dX8_beacon_8 rfl (lv_at hl 2 rfl) ?_
  refine lv_iconst (v := 0) hx hb dX8_beacon_9 (by decide) ?_
  refine lv_iconst (v := 1) hx hb dX8_beacon_10 (by decide) ?_
  refine x_goR (st1 := [.int 1]) E hw [] rfl (x_runS (rest := []) E hw (c_X8_in_ok l g on 0 1 ho ho2) km_X8_45 ks_X8_in [] rfl (by decide) hl.1 rfl rfl (Nat.le_of_ble_eq_true rfl) ⟨Nat.le_of_ble_eq_true rfl, Nat.le_of_ble_eq_true rfl⟩ ⟨Nat.zero_le _, Nat.zero_le _⟩ dX8_beacon_11) rfl (fun H locs hw => ?_)
  refine lv_if_ne (tgt := 22) hx hb dX8_beacon_14 (by decide) (fun _ => ?_) (fun h => absurd h (by decide))
  refine lv_aload_n hx hb dX8_beacon_22 rfl (lv_at hl 0 rfl) ?_
  refine x_go (ws' := [(o 0, .inr (8, [.ref (o 1), .ref (o 2), .int (nI (min 6 (hs + 1))), .int bads, .int nos, .int fuls, .int cau, .int whe, .ref (o 3), .ref (o 4), .int (nI cnt), .int (nI p), .int fau, .int isw, .int ods, .ref (o 5), .ref (o 6)])), (o 1, .inl (g.2.1, 616, .inl (nwF v))), (o 2, .inl (g.2.1, 4312, .inl (pF (ntP P hs v)))), (o 3, .inl (g.2.1, 201, .inl sq)), (o 4, .inl (g.2.1, 120, .inl tx)), (o 5, .inl (g.2.1, 24, .inl wo)), (o 6, .inl (g.2.1, 72, .inl nu))]) (st1 := []) E hw [0, 1, 2] rfl (x_runV (rest := []) E hw (c_X8_notes l g o hs bads nos fuls cau whe cnt p fau isw ods v P (by omega)) km_X8_64 kv_X8_notes [0, 1, 2] rfl (by decide) 0 rfl hl.1 rfl rfl (Nat.le_of_ble_eq_true rfl) ⟨Nat.le_of_ble_eq_true rfl, Nat.le_of_ble_eq_true rfl⟩ ⟨Nat.zero_le _, Nat.zero_le _⟩ dX8_beacon_23) rfl rfl rfl (fun H locs hw => ?_)
  refine lv_aload_n hx hb dX8_beacon_26 rfl (lv_at hl 0 rfl) ?_
  refine lv_iload_n hx hb dX8_beacon_27 rfl (lv_at hl 1 rfl) ?_
  refine lv_iload_n hx hb dX8_beacon_28 rfl (lv_at hl 2 rfl) ?_
  refine x_go (ws' := [(o 0, .inr (8, [.ref (o 1), .ref (o 2), .int (nI (min 6 (hs + 1))), .int bads, .int nos, .int fuls, .int cau, .int whe, .ref (o 3), .ref (o 4), .int (nI cnt), .int (nI p), .int fau, .int isw, .int ods, .ref (o 5), .ref (o 6)])), (o 1, .inl (g.2.1, 616, .inl (nwF (beaS a on v)))), (o 2, .inl (g.2.1, 4312, .inl (pF (ntP P hs v)))), (o 3, .inl (g.2.1, 201, .inl sq)), (o 4, .inl (g.2.1, 120, .inl tx)), (o 5, .inl (g.2.1, 24, .inl wo)), (o 6, .inl (g.2.1, 72, .inl nu))]) (st1 := [.int (v.2.2.2.1 a)]) E hw [0, 1] rfl (x_runV (rest := []) E hw (c_X8_signal l g o (min 6 (hs + 1)) bads nos fuls cau whe cnt p fau isw ods v a on (by omega)) km_X8_81 kv_X8_signal [0, 1] rfl (by decide) 0 rfl hl.1 rfl rfl (Nat.le_of_ble_eq_true rfl) ⟨Nat.le_of_ble_eq_true rfl, Nat.le_of_ble_eq_true rfl⟩ ⟨Nat.zero_le _, Nat.zero_le _⟩ dX8_beacon_29) rfl rfl rfl (fun H locs hw => ?_)
  exact xr_i hQ E hr hw dX8_beacon_32 ⟨rfl, rfl⟩

set_option maxRecDepth 100000 in
set_option maxHeartbeats 4000000 in
theorem c_X8_beacon_bad (l : Launch) (g : xCfg) (o : Nat → Nat) (hs : Nat) (bads : Int32) (nos : Int32) (fuls : Int32) (cau : Int32) (whe : Int32) (cnt : Nat) (p : Nat) (fau : Int32) (isw : Int32) (ods : Int32) (v : SV) (P : Nat → SV) (sq : Nat → Int32) (tx : Nat → Int32) (wo : Nat → Int32) (nu : Nat → Int32) (a : Int32) (on : Int32) (hL1 : 1 ≤ v.1) (hb0 : ¬ (inL v.1 a ∧ (0 ≤ on ∧ on ≤ 1))) : Ct l g yX8_beacon cX8_beacon 3 (some .int) (xR 2 43) [.ref (o 0), .int a, .int on] [(o 0, .inr (8, [.ref (o 1), .ref (o 2), .int (nI hs), .int bads, .int nos, .int fuls, .int cau, .int whe, .ref (o 3), .ref (o 4), .int (nI cnt), .int (nI p), .int fau, .int isw, .int ods, .ref (o 5), .ref (o 6)])), (o 1, .inl (g.2.1, 616, .inl (nwF v))), (o 2, .inl (g.2.1, 4312, .inl (pF P))), (o 3, .inl (g.2.1, 201, .inl sq)), (o 4, .inl (g.2.1, 120, .inl tx)), (o 5, .inl (g.2.1, 24, .inl wo)), (o 6, .inl (g.2.1, 72, .inl nu))] (is1 (some (.int (-2))) [(o 0, .inr (8, [.ref (o 1), .ref (o 2), .int (nI hs), .int (bads + 1), .int nos, .int fuls, .int cau, .int whe, .ref (o 3), .ref (o 4), .int (nI cnt), .int (nI p), .int fau, .int isw, .int ods, .ref (o 5), .ref (o 6)])), (o 1, .inl (g.2.1, 616, .inl (nwF v))), (o 2, .inl (g.2.1, 4312, .inl (pF P))), (o 3, .inl (g.2.1, 201, .inl sq)), (o 4, .inl (g.2.1, 120, .inl tx)), (o 5, .inl (g.2.1, 24, .inl wo)), (o 6, .inl (g.2.1, 72, .inl nu))]) := by
  refine Ct.walk (by decide) (Nat.le_of_ble_eq_true rfl) ?_
  intro p0 e0 s0 m0 below meth c0 A0 ls Q hQ E hr hnm hw hl
  have hx := E.x
  have hb := E.b
  have hl : lv_has ls 3 [(0, .ref (o 0)), (1, .int a), (2, .int on)] := hl
  refine lv_aload_n hx hb dX8_beacon_0 rfl (lv_at hl 0 rfl) ?_
  refine lv_iload_n hx hb dX8_beacon_1 rfl (lv_at hl 1 rfl) ?_
  refine x_goR (st1 := [.int (bI (0 ≤ a ∧ a ≤ nI (v.1 - 1)))]) E hw [0, 1] rfl (x_runV (rest := []) E hw (c_X8_isCell l g o hs bads nos fuls cau whe cnt p fau isw ods v a (by omega)) km_X8_70 kv_X8_isCell [0, 1] rfl (by decide) 0 rfl hl.1 rfl rfl (Nat.le_of_ble_eq_true rfl) ⟨Nat.le_of_ble_eq_true rfl, Nat.le_of_ble_eq_true rfl⟩ ⟨Nat.zero_le _, Nat.zero_le _⟩ dX8_beacon_2) rfl (fun H locs hw => ?_)
  refine xb_eq (tgt := 17) hx hb dX8_beacon_5 (by decide) (fun c1 => ?_) (fun c1 => ?_)
  · refine lv_aload_n hx hb dX8_beacon_17 rfl (lv_at hl 0 rfl) ?_
    refine x_go (ws' := [(o 0, .inr (8, [.ref (o 1), .ref (o 2), .int (nI hs), .int (bads + 1), .int nos, .int fuls, .int cau, .int whe, .ref (o 3), .ref (o 4), .int (nI cnt), .int (nI p), .int fau, .int isw, .int ods, .ref (o 5), .ref (o 6)])), (o 1, .inl (g.2.1, 616, .inl (nwF v))), (o 2, .inl (g.2.1, 4312, .inl (pF P))), (o 3, .inl (g.2.1, 201, .inl sq)), (o 4, .inl (g.2.1, 120, .inl tx)), (o 5, .inl (g.2.1, 24, .inl wo)), (o 6, .inl (g.2.1, 72, .inl nu))]) (st1 := [.int (-2)]) E hw [0] rfl (x_runV (rest := []) E hw (c_X8_bad l g o hs bads nos fuls cau whe cnt p fau isw ods ) km_X8_60 kv_X8_bad [0] rfl (by decide) 0 rfl hl.1 rfl rfl (Nat.le_of_ble_eq_true rfl) ⟨Nat.le_of_ble_eq_true rfl, Nat.le_of_ble_eq_true rfl⟩ ⟨Nat.zero_le _, Nat.zero_le _⟩ dX8_beacon_18) rfl rfl rfl (fun H locs hw => ?_)
    exact xr_i hQ E hr hw dX8_beacon_21 ⟨rfl, rfl⟩
  · refine lv_iload_n hx hb dX8_beacon_8 rfl (lv_at hl 2 rfl) ?_
    refine lv_iconst (v := 0) hx hb dX8_beacon_9 (by decide) ?_
    refine lv_iconst (v := 1) hx hb dX8_beacon_10 (by decide) ?_
    refine x_goR (st1 := [.int (bI (0 ≤ on ∧ on ≤ 1))]) E hw [] rfl (x_runS (rest := []) E hw (c_X8_in l g on 0 1 ) km_X8_45 ks_X8_in [] rfl (by decide) hl.1 rfl rfl (Nat.le_of_ble_eq_true rfl) ⟨Nat.le_of_ble_eq_true rfl, Nat.le_of_ble_eq_true rfl⟩ ⟨Nat.zero_le _, Nat.zero_le _⟩ dX8_beacon_11) rfl (fun H locs hw => ?_)
    refine xb_ne (tgt := 22) hx hb dX8_beacon_14 (by decide) (fun c2 => ?_) (fun c2 => ?_)
    · exact absurd ⟨c1, c2⟩ hb0
    · refine lv_aload_n hx hb dX8_beacon_17 rfl (lv_at hl 0 rfl) ?_
      refine x_go (ws' := [(o 0, .inr (8, [.ref (o 1), .ref (o 2), .int (nI hs), .int (bads + 1), .int nos, .int fuls, .int cau, .int whe, .ref (o 3), .ref (o 4), .int (nI cnt), .int (nI p), .int fau, .int isw, .int ods, .ref (o 5), .ref (o 6)])), (o 1, .inl (g.2.1, 616, .inl (nwF v))), (o 2, .inl (g.2.1, 4312, .inl (pF P))), (o 3, .inl (g.2.1, 201, .inl sq)), (o 4, .inl (g.2.1, 120, .inl tx)), (o 5, .inl (g.2.1, 24, .inl wo)), (o 6, .inl (g.2.1, 72, .inl nu))]) (st1 := [.int (-2)]) E hw [0] rfl (x_runV (rest := []) E hw (c_X8_bad l g o hs bads nos fuls cau whe cnt p fau isw ods ) km_X8_60 kv_X8_bad [0] rfl (by decide) 0 rfl hl.1 rfl rfl (Nat.le_of_ble_eq_true rfl) ⟨Nat.le_of_ble_eq_true rfl, Nat.le_of_ble_eq_true rfl⟩ ⟨Nat.zero_le _, Nat.zero_le _⟩ dX8_beacon_18) rfl rfl rfl (fun H locs hw => ?_)
      exact xr_i hQ E hr hw dX8_beacon_21 ⟨rfl, rfl⟩

set_option maxRecDepth 100000 in
set_option maxHeartbeats 4000000 in
theorem c_X8_sets_ok (l : Launch) (g : xCfg) (o : Nat → Nat) (hs : Nat) (bads : Int32) (nos : Int32) (fuls : Int32) (cau : Int32) (whe : Int32) (cnt : Nat) (p : Nat) (fau : Int32) (isw : Int32) (ods : Int32) (v : SV) (P : Nat → SV) (sq : Nat → Int32) (tx : Nat → Int32) (wo : Nat → Int32) (nu : Nat → Int32) (w : Nat) (u : Int32) (hh : hs ≤ 6) (hw0 : w < 7) (hv : tLeast w ≤ u) (hv2 : u ≤ tMost w) : Ct l g yX8_sets cX8_sets 3 (some .int) (xR 2 43) [.ref (o 0), .int (nI w), .int u] [(o 0, .inr (8, [.ref (o 1), .ref (o 2), .int (nI hs), .int bads, .int nos, .int fuls, .int cau, .int whe, .ref (o 3), .ref (o 4), .int (nI cnt), .int (nI p), .int fau, .int isw, .int ods, .ref (o 5), .ref (o 6)])), (o 1, .inl (g.2.1, 616, .inl (nwF v))), (o 2, .inl (g.2.1, 4312, .inl (pF P))), (o 3, .inl (g.2.1, 201, .inl sq)), (o 4, .inl (g.2.1, 120, .inl tx)), (o 5, .inl (g.2.1, 24, .inl wo)), (o 6, .inl (g.2.1, 72, .inl nu))] (is1 (some (.int (v.2.2.2.2.1 w))) [(o 0, .inr (8, [.ref (o 1), .ref (o 2), .int (nI (min 6 (hs + 1))), .int bads, .int nos, .int fuls, .int cau, .int whe, .ref (o 3), .ref (o 4), .int (nI cnt), .int (nI p), .int fau, .int isw, .int ods, .ref (o 5), .ref (o 6)])), (o 1, .inl (g.2.1, 616, .inl (nwF (setS w u v)))), (o 2, .inl (g.2.1, 4312, .inl (pF (ntP P hs v)))), (o 3, .inl (g.2.1, 201, .inl sq)), (o 4, .inl (g.2.1, 120, .inl tx)), (o 5, .inl (g.2.1, 24, .inl wo)), (o 6, .inl (g.2.1, 72, .inl nu))]) := by
  refine Ct.walk (by decide) (Nat.le_of_ble_eq_true rfl) ?_
  intro p0 e0 s0 m0 below meth c0 A0 ls Q hQ E hr hnm hw hl
  have hx := E.x
  have hb := E.b
  have hl : lv_has ls 3 [(0, .ref (o 0)), (1, .int (nI w)), (2, .int u)] := hl
  refine lv_iload_n hx hb dX8_sets_0 rfl (lv_at hl 1 rfl) ?_
  refine lv_iload_n hx hb dX8_sets_1 rfl (lv_at hl 2 rfl) ?_
  refine x_goR (st1 := [.int 1]) E hw [] rfl (x_runS (rest := []) E hw (c_X8_maySet l g u w (by omega) hv hv2) km_X8_85 ks_X8_maySet [] rfl (by decide) hl.1 rfl rfl (Nat.le_of_ble_eq_true rfl) ⟨Nat.le_of_ble_eq_true rfl, Nat.le_of_ble_eq_true rfl⟩ ⟨Nat.zero_le _, Nat.zero_le _⟩ dX8_sets_2) rfl (fun H locs hw => ?_)
  refine lv_if_ne (tgt := 13) hx hb dX8_sets_5 (by decide) (fun _ => ?_) (fun h => absurd h (by decide))
  refine lv_aload_n hx hb dX8_sets_13 rfl (lv_at hl 0 rfl) ?_
  refine x_go (ws' := [(o 0, .inr (8, [.ref (o 1), .ref (o 2), .int (nI (min 6 (hs + 1))), .int bads, .int nos, .int fuls, .int cau, .int whe, .ref (o 3), .ref (o 4), .int (nI cnt), .int (nI p), .int fau, .int isw, .int ods, .ref (o 5), .ref (o 6)])), (o 1, .inl (g.2.1, 616, .inl (nwF v))), (o 2, .inl (g.2.1, 4312, .inl (pF (ntP P hs v)))), (o 3, .inl (g.2.1, 201, .inl sq)), (o 4, .inl (g.2.1, 120, .inl tx)), (o 5, .inl (g.2.1, 24, .inl wo)), (o 6, .inl (g.2.1, 72, .inl nu))]) (st1 := []) E hw [0, 1, 2] rfl (x_runV (rest := []) E hw (c_X8_notes l g o hs bads nos fuls cau whe cnt p fau isw ods v P (by omega)) km_X8_64 kv_X8_notes [0, 1, 2] rfl (by decide) 0 rfl hl.1 rfl rfl (Nat.le_of_ble_eq_true rfl) ⟨Nat.le_of_ble_eq_true rfl, Nat.le_of_ble_eq_true rfl⟩ ⟨Nat.zero_le _, Nat.zero_le _⟩ dX8_sets_14) rfl rfl rfl (fun H locs hw => ?_)
  refine lv_aload_n hx hb dX8_sets_17 rfl (lv_at hl 0 rfl) ?_
  refine lv_iload_n hx hb dX8_sets_18 rfl (lv_at hl 1 rfl) ?_
  refine lv_iload_n hx hb dX8_sets_19 rfl (lv_at hl 2 rfl) ?_
  refine x_go (ws' := [(o 0, .inr (8, [.ref (o 1), .ref (o 2), .int (nI (min 6 (hs + 1))), .int bads, .int nos, .int fuls, .int cau, .int whe, .ref (o 3), .ref (o 4), .int (nI cnt), .int (nI p), .int fau, .int isw, .int ods, .ref (o 5), .ref (o 6)])), (o 1, .inl (g.2.1, 616, .inl (nwF (setS w u v)))), (o 2, .inl (g.2.1, 4312, .inl (pF (ntP P hs v)))), (o 3, .inl (g.2.1, 201, .inl sq)), (o 4, .inl (g.2.1, 120, .inl tx)), (o 5, .inl (g.2.1, 24, .inl wo)), (o 6, .inl (g.2.1, 72, .inl nu))]) (st1 := [.int (v.2.2.2.2.1 w)]) E hw [0, 1] rfl (x_runV (rest := []) E hw (c_X8_set l g o (min 6 (hs + 1)) bads nos fuls cau whe cnt p fau isw ods v w u (by omega)) km_X8_89 kv_X8_set [0, 1] rfl (by decide) 0 rfl hl.1 rfl rfl (Nat.le_of_ble_eq_true rfl) ⟨Nat.le_of_ble_eq_true rfl, Nat.le_of_ble_eq_true rfl⟩ ⟨Nat.zero_le _, Nat.zero_le _⟩ dX8_sets_20) rfl rfl rfl (fun H locs hw => ?_)
  exact xr_i hQ E hr hw dX8_sets_23 ⟨rfl, rfl⟩

set_option maxRecDepth 100000 in
set_option maxHeartbeats 4000000 in
theorem c_X8_sets_bad (l : Launch) (g : xCfg) (o : Nat → Nat) (hs : Nat) (bads : Int32) (nos : Int32) (fuls : Int32) (cau : Int32) (whe : Int32) (cnt : Nat) (p : Nat) (fau : Int32) (isw : Int32) (ods : Int32) (v : SV) (P : Nat → SV) (sq : Nat → Int32) (tx : Nat → Int32) (wo : Nat → Int32) (nu : Nat → Int32) (wh : Int32) (u : Int32) (hb0 : ¬ setOk wh u) : Ct l g yX8_sets cX8_sets 3 (some .int) (xR 2 43) [.ref (o 0), .int wh, .int u] [(o 0, .inr (8, [.ref (o 1), .ref (o 2), .int (nI hs), .int bads, .int nos, .int fuls, .int cau, .int whe, .ref (o 3), .ref (o 4), .int (nI cnt), .int (nI p), .int fau, .int isw, .int ods, .ref (o 5), .ref (o 6)])), (o 1, .inl (g.2.1, 616, .inl (nwF v))), (o 2, .inl (g.2.1, 4312, .inl (pF P))), (o 3, .inl (g.2.1, 201, .inl sq)), (o 4, .inl (g.2.1, 120, .inl tx)), (o 5, .inl (g.2.1, 24, .inl wo)), (o 6, .inl (g.2.1, 72, .inl nu))] (is1 (some (.int (-2))) [(o 0, .inr (8, [.ref (o 1), .ref (o 2), .int (nI hs), .int (bads + 1), .int nos, .int fuls, .int cau, .int whe, .ref (o 3), .ref (o 4), .int (nI cnt), .int (nI p), .int fau, .int isw, .int ods, .ref (o 5), .ref (o 6)])), (o 1, .inl (g.2.1, 616, .inl (nwF v))), (o 2, .inl (g.2.1, 4312, .inl (pF P))), (o 3, .inl (g.2.1, 201, .inl sq)), (o 4, .inl (g.2.1, 120, .inl tx)), (o 5, .inl (g.2.1, 24, .inl wo)), (o 6, .inl (g.2.1, 72, .inl nu))]) := by
  refine Ct.walk (by decide) (Nat.le_of_ble_eq_true rfl) ?_
  intro p0 e0 s0 m0 below meth c0 A0 ls Q hQ E hr hnm hw hl
  have hx := E.x
  have hb := E.b
  have hl : lv_has ls 3 [(0, .ref (o 0)), (1, .int wh), (2, .int u)] := hl
  refine lv_iload_n hx hb dX8_sets_0 rfl (lv_at hl 1 rfl) ?_
  refine lv_iload_n hx hb dX8_sets_1 rfl (lv_at hl 2 rfl) ?_
  refine x_goR (st1 := [.int 0]) E hw [] rfl (x_runS (rest := []) E hw (c_X8_maySet_bad l g wh u hb0) km_X8_85 ks_X8_maySet [] rfl (by decide) hl.1 rfl rfl (Nat.le_of_ble_eq_true rfl) ⟨Nat.le_of_ble_eq_true rfl, Nat.le_of_ble_eq_true rfl⟩ ⟨Nat.zero_le _, Nat.zero_le _⟩ dX8_sets_2) rfl (fun H locs hw => ?_)
  refine lv_if_ne (tgt := 13) hx hb dX8_sets_5 (by decide) (fun h => absurd h (by decide)) (fun _ => ?_)
  refine lv_aload_n hx hb dX8_sets_8 rfl (lv_at hl 0 rfl) ?_
  refine x_go (ws' := [(o 0, .inr (8, [.ref (o 1), .ref (o 2), .int (nI hs), .int (bads + 1), .int nos, .int fuls, .int cau, .int whe, .ref (o 3), .ref (o 4), .int (nI cnt), .int (nI p), .int fau, .int isw, .int ods, .ref (o 5), .ref (o 6)])), (o 1, .inl (g.2.1, 616, .inl (nwF v))), (o 2, .inl (g.2.1, 4312, .inl (pF P))), (o 3, .inl (g.2.1, 201, .inl sq)), (o 4, .inl (g.2.1, 120, .inl tx)), (o 5, .inl (g.2.1, 24, .inl wo)), (o 6, .inl (g.2.1, 72, .inl nu))]) (st1 := [.int (-2)]) E hw [0] rfl (x_runV (rest := []) E hw (c_X8_bad l g o hs bads nos fuls cau whe cnt p fau isw ods ) km_X8_60 kv_X8_bad [0] rfl (by decide) 0 rfl hl.1 rfl rfl (Nat.le_of_ble_eq_true rfl) ⟨Nat.le_of_ble_eq_true rfl, Nat.le_of_ble_eq_true rfl⟩ ⟨Nat.zero_le _, Nat.zero_le _⟩ dX8_sets_9) rfl rfl rfl (fun H locs hw => ?_)
  exact xr_i hQ E hr hw dX8_sets_12 ⟨rfl, rfl⟩

set_option maxRecDepth 100000 in
set_option maxHeartbeats 4000000 in
theorem c_X8_cell_ok (l : Launch) (g : xCfg) (o : Nat → Nat) (hs : Nat) (bads : Int32) (nos : Int32) (fuls : Int32) (cau : Int32) (whe : Int32) (cnt : Nat) (p : Nat) (fau : Int32) (isw : Int32) (ods : Int32) (v : SV) (P : Nat → SV) (sq : Nat → Int32) (tx : Nat → Int32) (wo : Nat → Int32) (nu : Nat → Int32) (x : Nat) (w : Nat) (len : Nat) (hL : v.1 ≤ 200) (hx0 : x < v.1) (hw0 : w < 5) (hlen : v.2.2.2.2.1 2 = nI len) (hl1 : 1 ≤ len) (hl2 : len ≤ 30) : Ct l g yX8_cell cX8_cell 3 (some .int) (xR 3 66) [.ref (o 0), .int (nI x), .int (nI w)] [(o 0, .inr (8, [.ref (o 1), .ref (o 2), .int (nI hs), .int bads, .int nos, .int fuls, .int cau, .int whe, .ref (o 3), .ref (o 4), .int (nI cnt), .int (nI p), .int fau, .int isw, .int ods, .ref (o 5), .ref (o 6)])), (o 1, .inl (g.2.1, 616, .inl (nwF v))), (o 2, .inl (g.2.1, 4312, .inl (pF P))), (o 3, .inl (g.2.1, 201, .inl sq)), (o 4, .inl (g.2.1, 120, .inl tx)), (o 5, .inl (g.2.1, 24, .inl wo)), (o 6, .inl (g.2.1, 72, .inl nu))] (is1 (some (.int (cevF v.2.1 v.2.2.1 v.2.2.2.1 (infF v.2.1 len) (v.2.2.2.2.1 0) x w))) [(o 0, .inr (8, [.ref (o 1), .ref (o 2), .int (nI hs), .int bads, .int nos, .int fuls, .int cau, .int whe, .ref (o 3), .ref (o 4), .int (nI cnt), .int (nI p), .int fau, .int isw, .int ods, .ref (o 5), .ref (o 6)])), (o 1, .inl (g.2.1, 616, .inl (nwF v))), (o 2, .inl (g.2.1, 4312, .inl (pF P))), (o 3, .inl (g.2.1, 201, .inl sq)), (o 4, .inl (g.2.1, 120, .inl tx)), (o 5, .inl (g.2.1, 24, .inl wo)), (o 6, .inl (g.2.1, 72, .inl nu))]) := by
  refine Ct.walk (by decide) (Nat.le_of_ble_eq_true rfl) ?_
  intro p0 e0 s0 m0 below meth c0 A0 ls Q hQ E hr hnm hw hl
  have hx := E.x
  have hb := E.b
  have hl : lv_has ls 3 [(0, .ref (o 0)), (1, .int (nI x)), (2, .int (nI w))] := hl
  refine lv_aload_n hx hb dX8_cell_0 rfl (lv_at hl 0 rfl) ?_
  refine lv_iload_n hx hb dX8_cell_1 rfl (lv_at hl 1 rfl) ?_
  refine x_goR (st1 := [.int 1]) E hw [0, 1] rfl (x_runV (rest := []) E hw (c_X8_isCell_ok l g o hs bads nos fuls cau whe cnt p fau isw ods v x (by omega) (by omega)) km_X8_70 kv_X8_isCell [0, 1] rfl (by decide) 0 rfl hl.1 rfl rfl (Nat.le_of_ble_eq_true rfl) ⟨Nat.le_of_ble_eq_true rfl, Nat.le_of_ble_eq_true rfl⟩ ⟨Nat.zero_le _, Nat.zero_le _⟩ dX8_cell_2) rfl (fun H locs hw => ?_)
  refine lv_if_eq (tgt := 26) hx hb dX8_cell_5 (by decide) (fun h => absurd h (by decide)) (fun _ => ?_)
  refine lv_iload_n hx hb dX8_cell_8 rfl (lv_at hl 2 rfl) ?_
  refine lv_iconst (v := 0) hx hb dX8_cell_9 (by decide) ?_
  refine lv_iconst (v := 4) hx hb dX8_cell_10 (by decide) ?_
  refine x_goR (st1 := [.int 1]) E hw [] rfl (x_runS (rest := []) E hw (c_X8_in_ok l g (nI w) 0 4 (nI_pos' (by omega)) (nI_le (b := 4) (by omega) (by decide))) km_X8_45 ks_X8_in [] rfl (by decide) hl.1 rfl rfl (Nat.le_of_ble_eq_true rfl) ⟨Nat.le_of_ble_eq_true rfl, Nat.le_of_ble_eq_true rfl⟩ ⟨Nat.zero_le _, Nat.zero_le _⟩ dX8_cell_11) rfl (fun H locs hw => ?_)
  refine lv_if_eq (tgt := 26) hx hb dX8_cell_14 (by decide) (fun h => absurd h (by decide)) (fun _ => ?_)
  refine lv_aload_n hx hb dX8_cell_17 rfl (lv_at hl 0 rfl) ?_
  refine lv_iload_n hx hb dX8_cell_18 rfl (lv_at hl 1 rfl) ?_
  refine lv_iload_n hx hb dX8_cell_19 rfl (lv_at hl 2 rfl) ?_
  refine x_goR (st1 := [.int (cevF v.2.1 v.2.2.1 v.2.2.2.1 (infF v.2.1 len) (v.2.2.2.2.1 0) x w)]) E hw [0, 1] rfl (x_runV (rest := []) E hw (c_X8_tellCell l g o hs bads nos fuls cau whe cnt p fau isw ods v x len w (by omega) hlen (by omega) (by omega) (by omega)) km_X8_98 kv_X8_tellCell [0, 1] rfl (by decide) 0 rfl hl.1 rfl rfl (Nat.le_of_ble_eq_true rfl) ⟨Nat.le_of_ble_eq_true rfl, Nat.le_of_ble_eq_true rfl⟩ ⟨Nat.zero_le _, Nat.zero_le _⟩ dX8_cell_20) rfl (fun H locs hw => ?_)
  refine lv_goto (tgt := 30) hx hb dX8_cell_23 (by decide) ?_
  exact xr_i hQ E hr hw dX8_cell_30 ⟨rfl, rfl⟩

set_option maxRecDepth 100000 in
set_option maxHeartbeats 4000000 in
theorem c_X8_cell_bad (l : Launch) (g : xCfg) (o : Nat → Nat) (hs : Nat) (bads : Int32) (nos : Int32) (fuls : Int32) (cau : Int32) (whe : Int32) (cnt : Nat) (p : Nat) (fau : Int32) (isw : Int32) (ods : Int32) (v : SV) (P : Nat → SV) (sq : Nat → Int32) (tx : Nat → Int32) (wo : Nat → Int32) (nu : Nat → Int32) (x : Int32) (y : Int32) (hL1 : 1 ≤ v.1) (hb0 : ¬ (inL v.1 x ∧ (0 ≤ y ∧ y ≤ 4))) : Ct l g yX8_cell cX8_cell 3 (some .int) (xR 2 43) [.ref (o 0), .int x, .int y] [(o 0, .inr (8, [.ref (o 1), .ref (o 2), .int (nI hs), .int bads, .int nos, .int fuls, .int cau, .int whe, .ref (o 3), .ref (o 4), .int (nI cnt), .int (nI p), .int fau, .int isw, .int ods, .ref (o 5), .ref (o 6)])), (o 1, .inl (g.2.1, 616, .inl (nwF v))), (o 2, .inl (g.2.1, 4312, .inl (pF P))), (o 3, .inl (g.2.1, 201, .inl sq)), (o 4, .inl (g.2.1, 120, .inl tx)), (o 5, .inl (g.2.1, 24, .inl wo)), (o 6, .inl (g.2.1, 72, .inl nu))] (is1 (some (.int (-2))) [(o 0, .inr (8, [.ref (o 1), .ref (o 2), .int (nI hs), .int (bads + 1), .int nos, .int fuls, .int cau, .int whe, .ref (o 3), .ref (o 4), .int (nI cnt), .int (nI p), .int fau, .int isw, .int ods, .ref (o 5), .ref (o 6)])), (o 1, .inl (g.2.1, 616, .inl (nwF v))), (o 2, .inl (g.2.1, 4312, .inl (pF P))), (o 3, .inl (g.2.1, 201, .inl sq)), (o 4, .inl (g.2.1, 120, .inl tx)), (o 5, .inl (g.2.1, 24, .inl wo)), (o 6, .inl (g.2.1, 72, .inl nu))]) := by
  refine Ct.walk (by decide) (Nat.le_of_ble_eq_true rfl) ?_
  intro p0 e0 s0 m0 below meth c0 A0 ls Q hQ E hr hnm hw hl
  have hx := E.x
  have hb := E.b
  have hl : lv_has ls 3 [(0, .ref (o 0)), (1, .int x), (2, .int y)] := hl
  refine lv_aload_n hx hb dX8_cell_0 rfl (lv_at hl 0 rfl) ?_
  refine lv_iload_n hx hb dX8_cell_1 rfl (lv_at hl 1 rfl) ?_
  refine x_goR (st1 := [.int (bI (0 ≤ x ∧ x ≤ nI (v.1 - 1)))]) E hw [0, 1] rfl (x_runV (rest := []) E hw (c_X8_isCell l g o hs bads nos fuls cau whe cnt p fau isw ods v x (by omega)) km_X8_70 kv_X8_isCell [0, 1] rfl (by decide) 0 rfl hl.1 rfl rfl (Nat.le_of_ble_eq_true rfl) ⟨Nat.le_of_ble_eq_true rfl, Nat.le_of_ble_eq_true rfl⟩ ⟨Nat.zero_le _, Nat.zero_le _⟩ dX8_cell_2) rfl (fun H locs hw => ?_)
  refine xb_eq (tgt := 26) hx hb dX8_cell_5 (by decide) (fun c1 => ?_) (fun c1 => ?_)
  · refine lv_aload_n hx hb dX8_cell_26 rfl (lv_at hl 0 rfl) ?_
    refine x_go (ws' := [(o 0, .inr (8, [.ref (o 1), .ref (o 2), .int (nI hs), .int (bads + 1), .int nos, .int fuls, .int cau, .int whe, .ref (o 3), .ref (o 4), .int (nI cnt), .int (nI p), .int fau, .int isw, .int ods, .ref (o 5), .ref (o 6)])), (o 1, .inl (g.2.1, 616, .inl (nwF v))), (o 2, .inl (g.2.1, 4312, .inl (pF P))), (o 3, .inl (g.2.1, 201, .inl sq)), (o 4, .inl (g.2.1, 120, .inl tx)), (o 5, .inl (g.2.1, 24, .inl wo)), (o 6, .inl (g.2.1, 72, .inl nu))]) (st1 := [.int (-2)]) E hw [0] rfl (x_runV (rest := []) E hw (c_X8_bad l g o hs bads nos fuls cau whe cnt p fau isw ods ) km_X8_60 kv_X8_bad [0] rfl (by decide) 0 rfl hl.1 rfl rfl (Nat.le_of_ble_eq_true rfl) ⟨Nat.le_of_ble_eq_true rfl, Nat.le_of_ble_eq_true rfl⟩ ⟨Nat.zero_le _, Nat.zero_le _⟩ dX8_cell_27) rfl rfl rfl (fun H locs hw => ?_)
    exact xr_i hQ E hr hw dX8_cell_30 ⟨rfl, rfl⟩
  · refine lv_iload_n hx hb dX8_cell_8 rfl (lv_at hl 2 rfl) ?_
    refine lv_iconst (v := 0) hx hb dX8_cell_9 (by decide) ?_
    refine lv_iconst (v := 4) hx hb dX8_cell_10 (by decide) ?_
    refine x_goR (st1 := [.int (bI (0 ≤ y ∧ y ≤ 4))]) E hw [] rfl (x_runS (rest := []) E hw (c_X8_in l g y 0 4 ) km_X8_45 ks_X8_in [] rfl (by decide) hl.1 rfl rfl (Nat.le_of_ble_eq_true rfl) ⟨Nat.le_of_ble_eq_true rfl, Nat.le_of_ble_eq_true rfl⟩ ⟨Nat.zero_le _, Nat.zero_le _⟩ dX8_cell_11) rfl (fun H locs hw => ?_)
    refine xb_eq (tgt := 26) hx hb dX8_cell_14 (by decide) (fun c2 => ?_) (fun c2 => ?_)
    · refine lv_aload_n hx hb dX8_cell_26 rfl (lv_at hl 0 rfl) ?_
      refine x_go (ws' := [(o 0, .inr (8, [.ref (o 1), .ref (o 2), .int (nI hs), .int (bads + 1), .int nos, .int fuls, .int cau, .int whe, .ref (o 3), .ref (o 4), .int (nI cnt), .int (nI p), .int fau, .int isw, .int ods, .ref (o 5), .ref (o 6)])), (o 1, .inl (g.2.1, 616, .inl (nwF v))), (o 2, .inl (g.2.1, 4312, .inl (pF P))), (o 3, .inl (g.2.1, 201, .inl sq)), (o 4, .inl (g.2.1, 120, .inl tx)), (o 5, .inl (g.2.1, 24, .inl wo)), (o 6, .inl (g.2.1, 72, .inl nu))]) (st1 := [.int (-2)]) E hw [0] rfl (x_runV (rest := []) E hw (c_X8_bad l g o hs bads nos fuls cau whe cnt p fau isw ods ) km_X8_60 kv_X8_bad [0] rfl (by decide) 0 rfl hl.1 rfl rfl (Nat.le_of_ble_eq_true rfl) ⟨Nat.le_of_ble_eq_true rfl, Nat.le_of_ble_eq_true rfl⟩ ⟨Nat.zero_le _, Nat.zero_le _⟩ dX8_cell_27) rfl rfl rfl (fun H locs hw => ?_)
      exact xr_i hQ E hr hw dX8_cell_30 ⟨rfl, rfl⟩
    · exact absurd ⟨c1, c2⟩ hb0

set_option maxRecDepth 100000 in
set_option maxHeartbeats 4000000 in
theorem c_X8_lawful_ok (l : Launch) (g : xCfg) (o : Nat → Nat) (hs : Nat) (bads : Int32) (nos : Int32) (fuls : Int32) (cau : Int32) (whe : Int32) (cnt : Nat) (p : Nat) (fau : Int32) (isw : Int32) (ods : Int32) (v : SV) (P : Nat → SV) (sq : Nat → Int32) (tx : Nat → Int32) (wo : Nat → Int32) (nu : Nat → Int32) (x : Nat) (len : Nat) (hL1 : 1 ≤ v.1) (hL : v.1 ≤ 200) (hlen : v.2.2.2.2.1 2 = nI len) (hl1 : 1 ≤ len) (hl2 : len ≤ 30) (hx0 : x < v.1) : Ct l g yX8_lawful cX8_lawful 2 (some .int) (xR 3 67) [.ref (o 0), .int (nI x)] [(o 0, .inr (8, [.ref (o 1), .ref (o 2), .int (nI hs), .int bads, .int nos, .int fuls, .int cau, .int whe, .ref (o 3), .ref (o 4), .int (nI cnt), .int (nI p), .int fau, .int isw, .int ods, .ref (o 5), .ref (o 6)])), (o 1, .inl (g.2.1, 616, .inl (nwF v))), (o 2, .inl (g.2.1, 4312, .inl (pF P))), (o 3, .inl (g.2.1, 201, .inl sq)), (o 4, .inl (g.2.1, 120, .inl tx)), (o 5, .inl (g.2.1, 24, .inl wo)), (o 6, .inl (g.2.1, 72, .inl nu))] (is1 (some (.int ((lwQ v.2.1 v.2.2.1 (v.2.2.2.2.1 0) len v.1 0 sq) x))) [(o 0, .inr (8, [.ref (o 1), .ref (o 2), .int (nI hs), .int bads, .int nos, .int fuls, .int cau, .int whe, .ref (o 3), .ref (o 4), .int (nI cnt), .int (nI p), .int fau, .int isw, .int ods, .ref (o 5), .ref (o 6)])), (o 1, .inl (g.2.1, 616, .inl (nwF v))), (o 2, .inl (g.2.1, 4312, .inl (pF P))), (o 3, .inl (g.2.1, 201, .inl (lwQ v.2.1 v.2.2.1 (v.2.2.2.2.1 0) len v.1 0 sq))), (o 4, .inl (g.2.1, 120, .inl tx)), (o 5, .inl (g.2.1, 24, .inl wo)), (o 6, .inl (g.2.1, 72, .inl nu))]) := by
  refine Ct.walk (by decide) (Nat.le_of_ble_eq_true rfl) ?_
  intro p0 e0 s0 m0 below meth c0 A0 ls Q hQ E hr hnm hw hl
  have hx := E.x
  have hb := E.b
  have hl : lv_has ls 2 [(0, .ref (o 0)), (1, .int (nI x))] := hl
  refine lv_aload_n hx hb dX8_lawful_0 rfl (lv_at hl 0 rfl) ?_
  refine lv_iload_n hx hb dX8_lawful_1 rfl (lv_at hl 1 rfl) ?_
  refine x_goR (st1 := [.int 1]) E hw [0, 1] rfl (x_runV (rest := []) E hw (c_X8_isCell_ok l g o hs bads nos fuls cau whe cnt p fau isw ods v x (by omega) (by omega)) km_X8_70 kv_X8_isCell [0, 1] rfl (by decide) 0 rfl hl.1 rfl rfl (Nat.le_of_ble_eq_true rfl) ⟨Nat.le_of_ble_eq_true rfl, Nat.le_of_ble_eq_true rfl⟩ ⟨Nat.zero_le _, Nat.zero_le _⟩ dX8_lawful_2) rfl (fun H locs hw => ?_)
  refine lv_if_ne (tgt := 13) hx hb dX8_lawful_5 (by decide) (fun _ => ?_) (fun h => absurd h (by decide))
  refine lv_aload_n hx hb dX8_lawful_13 rfl (lv_at hl 0 rfl) ?_
  refine x_go (ws' := [(o 0, .inr (8, [.ref (o 1), .ref (o 2), .int (nI hs), .int bads, .int nos, .int fuls, .int cau, .int whe, .ref (o 3), .ref (o 4), .int (nI cnt), .int (nI p), .int fau, .int isw, .int ods, .ref (o 5), .ref (o 6)])), (o 1, .inl (g.2.1, 616, .inl (nwF v))), (o 2, .inl (g.2.1, 4312, .inl (pF P))), (o 3, .inl (g.2.1, 201, .inl (lwQ v.2.1 v.2.2.1 (v.2.2.2.2.1 0) len v.1 0 sq))), (o 4, .inl (g.2.1, 120, .inl tx)), (o 5, .inl (g.2.1, 24, .inl wo)), (o 6, .inl (g.2.1, 72, .inl nu))]) (st1 := []) E hw [0, 1, 3] rfl (x_runV (rest := []) E hw (c_X8_lawfuls l g o hs bads nos fuls cau whe cnt p fau isw ods v sq len (by omega) (by omega) hlen (by omega) (by omega)) km_X8_101 kv_X8_lawfuls [0, 1, 3] rfl (by decide) 0 rfl hl.1 rfl rfl (Nat.le_of_ble_eq_true rfl) ⟨Nat.le_of_ble_eq_true rfl, Nat.le_of_ble_eq_true rfl⟩ ⟨Nat.zero_le _, Nat.zero_le _⟩ dX8_lawful_14) rfl rfl rfl (fun H locs hw => ?_)
  refine lv_aload_n hx hb dX8_lawful_17 rfl (lv_at hl 0 rfl) ?_
  refine x_get E hw kf_X8_20 0 rfl rfl dX8_lawful_18 ?_
  refine lv_iload_n hx hb dX8_lawful_21 rfl (lv_at hl 1 rfl) ?_
  refine x_ld (v := (lwQ v.2.1 v.2.2.1 (v.2.2.2.2.1 0) len v.1 0 sq) x) E hw 3 rfl x rfl (by omega) (by decide) rfl dX8_lawful_22 ?_
  exact xr_i hQ E hr hw dX8_lawful_23 ⟨rfl, rfl⟩

set_option maxRecDepth 100000 in
set_option maxHeartbeats 4000000 in
theorem c_X8_lawful_bad (l : Launch) (g : xCfg) (o : Nat → Nat) (hs : Nat) (bads : Int32) (nos : Int32) (fuls : Int32) (cau : Int32) (whe : Int32) (cnt : Nat) (p : Nat) (fau : Int32) (isw : Int32) (ods : Int32) (v : SV) (P : Nat → SV) (sq : Nat → Int32) (tx : Nat → Int32) (wo : Nat → Int32) (nu : Nat → Int32) (x : Int32) (hL1 : 1 ≤ v.1) (hb0 : ¬ (0 ≤ x ∧ x ≤ nI (v.1 - 1))) : Ct l g yX8_lawful cX8_lawful 2 (some .int) (xR 2 43) [.ref (o 0), .int x] [(o 0, .inr (8, [.ref (o 1), .ref (o 2), .int (nI hs), .int bads, .int nos, .int fuls, .int cau, .int whe, .ref (o 3), .ref (o 4), .int (nI cnt), .int (nI p), .int fau, .int isw, .int ods, .ref (o 5), .ref (o 6)])), (o 1, .inl (g.2.1, 616, .inl (nwF v))), (o 2, .inl (g.2.1, 4312, .inl (pF P))), (o 3, .inl (g.2.1, 201, .inl sq)), (o 4, .inl (g.2.1, 120, .inl tx)), (o 5, .inl (g.2.1, 24, .inl wo)), (o 6, .inl (g.2.1, 72, .inl nu))] (is1 (some (.int (-2))) [(o 0, .inr (8, [.ref (o 1), .ref (o 2), .int (nI hs), .int (bads + 1), .int nos, .int fuls, .int cau, .int whe, .ref (o 3), .ref (o 4), .int (nI cnt), .int (nI p), .int fau, .int isw, .int ods, .ref (o 5), .ref (o 6)])), (o 1, .inl (g.2.1, 616, .inl (nwF v))), (o 2, .inl (g.2.1, 4312, .inl (pF P))), (o 3, .inl (g.2.1, 201, .inl sq)), (o 4, .inl (g.2.1, 120, .inl tx)), (o 5, .inl (g.2.1, 24, .inl wo)), (o 6, .inl (g.2.1, 72, .inl nu))]) := by
  refine Ct.walk (by decide) (Nat.le_of_ble_eq_true rfl) ?_
  intro p0 e0 s0 m0 below meth c0 A0 ls Q hQ E hr hnm hw hl
  have hx := E.x
  have hb := E.b
  have hl : lv_has ls 2 [(0, .ref (o 0)), (1, .int x)] := hl
  refine lv_aload_n hx hb dX8_lawful_0 rfl (lv_at hl 0 rfl) ?_
  refine lv_iload_n hx hb dX8_lawful_1 rfl (lv_at hl 1 rfl) ?_
  refine x_goR (st1 := [.int (bI (0 ≤ x ∧ x ≤ nI (v.1 - 1)))]) E hw [0, 1] rfl (x_runV (rest := []) E hw (c_X8_isCell l g o hs bads nos fuls cau whe cnt p fau isw ods v x (by omega)) km_X8_70 kv_X8_isCell [0, 1] rfl (by decide) 0 rfl hl.1 rfl rfl (Nat.le_of_ble_eq_true rfl) ⟨Nat.le_of_ble_eq_true rfl, Nat.le_of_ble_eq_true rfl⟩ ⟨Nat.zero_le _, Nat.zero_le _⟩ dX8_lawful_2) rfl (fun H locs hw => ?_)
  refine xb_ne (tgt := 13) hx hb dX8_lawful_5 (by decide) (fun c1 => ?_) (fun c1 => ?_)
  · exact absurd c1 hb0
  · refine lv_aload_n hx hb dX8_lawful_8 rfl (lv_at hl 0 rfl) ?_
    refine x_go (ws' := [(o 0, .inr (8, [.ref (o 1), .ref (o 2), .int (nI hs), .int (bads + 1), .int nos, .int fuls, .int cau, .int whe, .ref (o 3), .ref (o 4), .int (nI cnt), .int (nI p), .int fau, .int isw, .int ods, .ref (o 5), .ref (o 6)])), (o 1, .inl (g.2.1, 616, .inl (nwF v))), (o 2, .inl (g.2.1, 4312, .inl (pF P))), (o 3, .inl (g.2.1, 201, .inl sq)), (o 4, .inl (g.2.1, 120, .inl tx)), (o 5, .inl (g.2.1, 24, .inl wo)), (o 6, .inl (g.2.1, 72, .inl nu))]) (st1 := [.int (-2)]) E hw [0] rfl (x_runV (rest := []) E hw (c_X8_bad l g o hs bads nos fuls cau whe cnt p fau isw ods ) km_X8_60 kv_X8_bad [0] rfl (by decide) 0 rfl hl.1 rfl rfl (Nat.le_of_ble_eq_true rfl) ⟨Nat.le_of_ble_eq_true rfl, Nat.le_of_ble_eq_true rfl⟩ ⟨Nat.zero_le _, Nat.zero_le _⟩ dX8_lawful_9) rfl rfl rfl (fun H locs hw => ?_)
    exact xr_i hQ E hr hw dX8_lawful_12 ⟨rfl, rfl⟩

set_option maxRecDepth 100000 in
set_option maxHeartbeats 4000000 in
theorem c_X8_permitted_ok (l : Launch) (g : xCfg) (o : Nat → Nat) (hs : Nat) (bads : Int32) (nos : Int32) (fuls : Int32) (cau : Int32) (whe : Int32) (cnt : Nat) (p : Nat) (fau : Int32) (isw : Int32) (ods : Int32) (v : SV) (P : Nat → SV) (sq : Nat → Int32) (tx : Nat → Int32) (wo : Nat → Int32) (nu : Nat → Int32) (x : Nat) (len : Nat) (hL1 : 1 ≤ v.1) (hL : v.1 ≤ 200) (hlen : v.2.2.2.2.1 2 = nI len) (hl1 : 1 ≤ len) (hl2 : len ≤ 30) (hx0 : x < v.1) (hQs : ∀ x, x < v.1 → 0 ≤ (lwQ v.2.1 v.2.2.1 (v.2.2.2.2.1 0) len v.1 0 sq) x ∧ (lwQ v.2.1 v.2.2.1 (v.2.2.2.2.1 0) len v.1 0 sq) x ≤ 3600) : Ct l g yX8_permitted cX8_permitted 2 (some .int) (xR 3 67) [.ref (o 0), .int (nI x)] [(o 0, .inr (8, [.ref (o 1), .ref (o 2), .int (nI hs), .int bads, .int nos, .int fuls, .int cau, .int whe, .ref (o 3), .ref (o 4), .int (nI cnt), .int (nI p), .int fau, .int isw, .int ods, .ref (o 5), .ref (o 6)])), (o 1, .inl (g.2.1, 616, .inl (nwF v))), (o 2, .inl (g.2.1, 4312, .inl (pF P))), (o 3, .inl (g.2.1, 201, .inl sq)), (o 4, .inl (g.2.1, 120, .inl tx)), (o 5, .inl (g.2.1, 24, .inl wo)), (o 6, .inl (g.2.1, 72, .inl nu))] (is1 (some (.int (nI (rtL 15 0 ((lwQ v.2.1 v.2.2.1 (v.2.2.2.2.1 0) len v.1 0 sq) x))))) [(o 0, .inr (8, [.ref (o 1), .ref (o 2), .int (nI hs), .int bads, .int nos, .int fuls, .int cau, .int whe, .ref (o 3), .ref (o 4), .int (nI cnt), .int (nI p), .int fau, .int isw, .int ods, .ref (o 5), .ref (o 6)])), (o 1, .inl (g.2.1, 616, .inl (nwF v))), (o 2, .inl (g.2.1, 4312, .inl (pF P))), (o 3, .inl (g.2.1, 201, .inl (lwQ v.2.1 v.2.2.1 (v.2.2.2.2.1 0) len v.1 0 sq))), (o 4, .inl (g.2.1, 120, .inl tx)), (o 5, .inl (g.2.1, 24, .inl wo)), (o 6, .inl (g.2.1, 72, .inl nu))]) := by
  refine Ct.walk (by decide) (Nat.le_of_ble_eq_true rfl) ?_
  intro p0 e0 s0 m0 below meth c0 A0 ls Q hQ E hr hnm hw hl
  have hx := E.x
  have hb := E.b
  have hl : lv_has ls 2 [(0, .ref (o 0)), (1, .int (nI x))] := hl
  refine lv_aload_n hx hb dX8_permitted_0 rfl (lv_at hl 0 rfl) ?_
  refine lv_iload_n hx hb dX8_permitted_1 rfl (lv_at hl 1 rfl) ?_
  refine x_goR (st1 := [.int 1]) E hw [0, 1] rfl (x_runV (rest := []) E hw (c_X8_isCell_ok l g o hs bads nos fuls cau whe cnt p fau isw ods v x (by omega) (by omega)) km_X8_70 kv_X8_isCell [0, 1] rfl (by decide) 0 rfl hl.1 rfl rfl (Nat.le_of_ble_eq_true rfl) ⟨Nat.le_of_ble_eq_true rfl, Nat.le_of_ble_eq_true rfl⟩ ⟨Nat.zero_le _, Nat.zero_le _⟩ dX8_permitted_2) rfl (fun H locs hw => ?_)
  refine lv_if_ne (tgt := 13) hx hb dX8_permitted_5 (by decide) (fun _ => ?_) (fun h => absurd h (by decide))
  refine lv_aload_n hx hb dX8_permitted_13 rfl (lv_at hl 0 rfl) ?_
  refine x_go (ws' := [(o 0, .inr (8, [.ref (o 1), .ref (o 2), .int (nI hs), .int bads, .int nos, .int fuls, .int cau, .int whe, .ref (o 3), .ref (o 4), .int (nI cnt), .int (nI p), .int fau, .int isw, .int ods, .ref (o 5), .ref (o 6)])), (o 1, .inl (g.2.1, 616, .inl (nwF v))), (o 2, .inl (g.2.1, 4312, .inl (pF P))), (o 3, .inl (g.2.1, 201, .inl (lwQ v.2.1 v.2.2.1 (v.2.2.2.2.1 0) len v.1 0 sq))), (o 4, .inl (g.2.1, 120, .inl tx)), (o 5, .inl (g.2.1, 24, .inl wo)), (o 6, .inl (g.2.1, 72, .inl nu))]) (st1 := []) E hw [0, 1, 3] rfl (x_runV (rest := []) E hw (c_X8_lawfuls l g o hs bads nos fuls cau whe cnt p fau isw ods v sq len (by omega) (by omega) hlen (by omega) (by omega)) km_X8_101 kv_X8_lawfuls [0, 1, 3] rfl (by decide) 0 rfl hl.1 rfl rfl (Nat.le_of_ble_eq_true rfl) ⟨Nat.le_of_ble_eq_true rfl, Nat.le_of_ble_eq_true rfl⟩ ⟨Nat.zero_le _, Nat.zero_le _⟩ dX8_permitted_14) rfl rfl rfl (fun H locs hw => ?_)
  refine lv_aload_n hx hb dX8_permitted_17 rfl (lv_at hl 0 rfl) ?_
  refine x_get E hw kf_X8_20 0 rfl rfl dX8_permitted_18 ?_
  refine lv_iload_n hx hb dX8_permitted_21 rfl (lv_at hl 1 rfl) ?_
  refine x_ld (v := (lwQ v.2.1 v.2.2.1 (v.2.2.2.2.1 0) len v.1 0 sq) x) E hw 3 rfl x rfl (by omega) (by decide) rfl dX8_permitted_22 ?_
  obtain ⟨y, hy, hq⟩ := nat_of (hQs x (by omega))
  refine x_goR (st1 := [.int (nI (rtL 15 0 ((lwQ v.2.1 v.2.2.1 (v.2.2.2.2.1 0) len v.1 0 sq) x)))]) E hw [] rfl (x_runS (rest := []) E hw (c_X8_root l g ((lwQ v.2.1 v.2.2.1 (v.2.2.2.2.1 0) len v.1 0 sq) x) y hq hy) km_X8_104 ks_X8_root [] rfl (by decide) hl.1 rfl rfl (Nat.le_of_ble_eq_true rfl) ⟨Nat.le_of_ble_eq_true rfl, Nat.le_of_ble_eq_true rfl⟩ ⟨Nat.zero_le _, Nat.zero_le _⟩ dX8_permitted_23) rfl (fun H locs hw => ?_)
  exact xr_i hQ E hr hw dX8_permitted_26 ⟨rfl, rfl⟩

set_option maxRecDepth 100000 in
set_option maxHeartbeats 4000000 in
theorem c_X8_permitted_bad (l : Launch) (g : xCfg) (o : Nat → Nat) (hs : Nat) (bads : Int32) (nos : Int32) (fuls : Int32) (cau : Int32) (whe : Int32) (cnt : Nat) (p : Nat) (fau : Int32) (isw : Int32) (ods : Int32) (v : SV) (P : Nat → SV) (sq : Nat → Int32) (tx : Nat → Int32) (wo : Nat → Int32) (nu : Nat → Int32) (x : Int32) (hL1 : 1 ≤ v.1) (hb0 : ¬ (0 ≤ x ∧ x ≤ nI (v.1 - 1))) : Ct l g yX8_permitted cX8_permitted 2 (some .int) (xR 2 43) [.ref (o 0), .int x] [(o 0, .inr (8, [.ref (o 1), .ref (o 2), .int (nI hs), .int bads, .int nos, .int fuls, .int cau, .int whe, .ref (o 3), .ref (o 4), .int (nI cnt), .int (nI p), .int fau, .int isw, .int ods, .ref (o 5), .ref (o 6)])), (o 1, .inl (g.2.1, 616, .inl (nwF v))), (o 2, .inl (g.2.1, 4312, .inl (pF P))), (o 3, .inl (g.2.1, 201, .inl sq)), (o 4, .inl (g.2.1, 120, .inl tx)), (o 5, .inl (g.2.1, 24, .inl wo)), (o 6, .inl (g.2.1, 72, .inl nu))] (is1 (some (.int (-2))) [(o 0, .inr (8, [.ref (o 1), .ref (o 2), .int (nI hs), .int (bads + 1), .int nos, .int fuls, .int cau, .int whe, .ref (o 3), .ref (o 4), .int (nI cnt), .int (nI p), .int fau, .int isw, .int ods, .ref (o 5), .ref (o 6)])), (o 1, .inl (g.2.1, 616, .inl (nwF v))), (o 2, .inl (g.2.1, 4312, .inl (pF P))), (o 3, .inl (g.2.1, 201, .inl sq)), (o 4, .inl (g.2.1, 120, .inl tx)), (o 5, .inl (g.2.1, 24, .inl wo)), (o 6, .inl (g.2.1, 72, .inl nu))]) := by
  refine Ct.walk (by decide) (Nat.le_of_ble_eq_true rfl) ?_
  intro p0 e0 s0 m0 below meth c0 A0 ls Q hQ E hr hnm hw hl
  have hx := E.x
  have hb := E.b
  have hl : lv_has ls 2 [(0, .ref (o 0)), (1, .int x)] := hl
  refine lv_aload_n hx hb dX8_permitted_0 rfl (lv_at hl 0 rfl) ?_
  refine lv_iload_n hx hb dX8_permitted_1 rfl (lv_at hl 1 rfl) ?_
  refine x_goR (st1 := [.int (bI (0 ≤ x ∧ x ≤ nI (v.1 - 1)))]) E hw [0, 1] rfl (x_runV (rest := []) E hw (c_X8_isCell l g o hs bads nos fuls cau whe cnt p fau isw ods v x (by omega)) km_X8_70 kv_X8_isCell [0, 1] rfl (by decide) 0 rfl hl.1 rfl rfl (Nat.le_of_ble_eq_true rfl) ⟨Nat.le_of_ble_eq_true rfl, Nat.le_of_ble_eq_true rfl⟩ ⟨Nat.zero_le _, Nat.zero_le _⟩ dX8_permitted_2) rfl (fun H locs hw => ?_)
  refine xb_ne (tgt := 13) hx hb dX8_permitted_5 (by decide) (fun c1 => ?_) (fun c1 => ?_)
  · exact absurd c1 hb0
  · refine lv_aload_n hx hb dX8_permitted_8 rfl (lv_at hl 0 rfl) ?_
    refine x_go (ws' := [(o 0, .inr (8, [.ref (o 1), .ref (o 2), .int (nI hs), .int (bads + 1), .int nos, .int fuls, .int cau, .int whe, .ref (o 3), .ref (o 4), .int (nI cnt), .int (nI p), .int fau, .int isw, .int ods, .ref (o 5), .ref (o 6)])), (o 1, .inl (g.2.1, 616, .inl (nwF v))), (o 2, .inl (g.2.1, 4312, .inl (pF P))), (o 3, .inl (g.2.1, 201, .inl sq)), (o 4, .inl (g.2.1, 120, .inl tx)), (o 5, .inl (g.2.1, 24, .inl wo)), (o 6, .inl (g.2.1, 72, .inl nu))]) (st1 := [.int (-2)]) E hw [0] rfl (x_runV (rest := []) E hw (c_X8_bad l g o hs bads nos fuls cau whe cnt p fau isw ods ) km_X8_60 kv_X8_bad [0] rfl (by decide) 0 rfl hl.1 rfl rfl (Nat.le_of_ble_eq_true rfl) ⟨Nat.le_of_ble_eq_true rfl, Nat.le_of_ble_eq_true rfl⟩ ⟨Nat.zero_le _, Nat.zero_le _⟩ dX8_permitted_9) rfl rfl rfl (fun H locs hw => ?_)
    exact xr_i hQ E hr hw dX8_permitted_12 ⟨rfl, rfl⟩

set_option maxRecDepth 100000 in
set_option maxHeartbeats 4000000 in
theorem c_X8_bound_ok (l : Launch) (g : xCfg) (o : Nat → Nat) (hs : Nat) (bads : Int32) (nos : Int32) (fuls : Int32) (cau : Int32) (whe : Int32) (cnt : Nat) (p : Nat) (fau : Int32) (isw : Int32) (ods : Int32) (v : SV) (P : Nat → SV) (sq : Nat → Int32) (tx : Nat → Int32) (wo : Nat → Int32) (nu : Nat → Int32) (x : Nat) (len : Nat) (hL1 : 1 ≤ v.1) (hL : v.1 ≤ 200) (hlen : v.2.2.2.2.1 2 = nI len) (hl1 : 1 ≤ len) (hl2 : len ≤ 30) (hx0 : x < v.1) : Ct l g yX8_bound cX8_bound 4 (some .int) (xR 3 67) [.ref (o 0), .int (nI x)] [(o 0, .inr (8, [.ref (o 1), .ref (o 2), .int (nI hs), .int bads, .int nos, .int fuls, .int cau, .int whe, .ref (o 3), .ref (o 4), .int (nI cnt), .int (nI p), .int fau, .int isw, .int ods, .ref (o 5), .ref (o 6)])), (o 1, .inl (g.2.1, 616, .inl (nwF v))), (o 2, .inl (g.2.1, 4312, .inl (pF P))), (o 3, .inl (g.2.1, 201, .inl sq)), (o 4, .inl (g.2.1, 120, .inl tx)), (o 5, .inl (g.2.1, 24, .inl wo)), (o 6, .inl (g.2.1, 72, .inl nu))] (is1 (some (.int (nI (bndL ((lwQ v.2.1 v.2.2.1 (v.2.2.2.2.1 0) len v.1 0 sq) x) (infF v.2.1 len) v.2.2.1 (v.2.2.2.2.1 0) (v.1 - x) x 0)))) [(o 0, .inr (8, [.ref (o 1), .ref (o 2), .int (nI hs), .int bads, .int nos, .int fuls, .int cau, .int whe, .ref (o 3), .ref (o 4), .int (nI cnt), .int (nI p), .int fau, .int isw, .int ods, .ref (o 5), .ref (o 6)])), (o 1, .inl (g.2.1, 616, .inl (nwF v))), (o 2, .inl (g.2.1, 4312, .inl (pF P))), (o 3, .inl (g.2.1, 201, .inl (lwQ v.2.1 v.2.2.1 (v.2.2.2.2.1 0) len v.1 0 sq))), (o 4, .inl (g.2.1, 120, .inl tx)), (o 5, .inl (g.2.1, 24, .inl wo)), (o 6, .inl (g.2.1, 72, .inl nu))]) := by
  refine Ct.walk (by decide) (Nat.le_of_ble_eq_true rfl) ?_
  intro p0 e0 s0 m0 below meth c0 A0 ls Q hQ E hr hnm hw hl
  have hx := E.x
  have hb := E.b
  have hl : lv_has ls 4 [(0, .ref (o 0)), (1, .int (nI x))] := hl
  refine lv_aload_n hx hb dX8_bound_0 rfl (lv_at hl 0 rfl) ?_
  refine lv_iload_n hx hb dX8_bound_1 rfl (lv_at hl 1 rfl) ?_
  refine x_goR (st1 := [.int 1]) E hw [0, 1] rfl (x_runV (rest := []) E hw (c_X8_isCell_ok l g o hs bads nos fuls cau whe cnt p fau isw ods v x (by omega) (by omega)) km_X8_70 kv_X8_isCell [0, 1] rfl (by decide) 0 rfl hl.1 rfl rfl (Nat.le_of_ble_eq_true rfl) ⟨Nat.le_of_ble_eq_true rfl, Nat.le_of_ble_eq_true rfl⟩ ⟨Nat.zero_le _, Nat.zero_le _⟩ dX8_bound_2) rfl (fun H locs hw => ?_)
  refine lv_if_ne (tgt := 13) hx hb dX8_bound_5 (by decide) (fun _ => ?_) (fun h => absurd h (by decide))
  refine lv_aload_n hx hb dX8_bound_13 rfl (lv_at hl 0 rfl) ?_
  refine x_go (ws' := [(o 0, .inr (8, [.ref (o 1), .ref (o 2), .int (nI hs), .int bads, .int nos, .int fuls, .int cau, .int whe, .ref (o 3), .ref (o 4), .int (nI cnt), .int (nI p), .int fau, .int isw, .int ods, .ref (o 5), .ref (o 6)])), (o 1, .inl (g.2.1, 616, .inl (nwF v))), (o 2, .inl (g.2.1, 4312, .inl (pF P))), (o 3, .inl (g.2.1, 201, .inl (lwQ v.2.1 v.2.2.1 (v.2.2.2.2.1 0) len v.1 0 sq))), (o 4, .inl (g.2.1, 120, .inl tx)), (o 5, .inl (g.2.1, 24, .inl wo)), (o 6, .inl (g.2.1, 72, .inl nu))]) (st1 := []) E hw [0, 1, 3] rfl (x_runV (rest := []) E hw (c_X8_lawfuls l g o hs bads nos fuls cau whe cnt p fau isw ods v sq len (by omega) (by omega) hlen (by omega) (by omega)) km_X8_101 kv_X8_lawfuls [0, 1, 3] rfl (by decide) 0 rfl hl.1 rfl rfl (Nat.le_of_ble_eq_true rfl) ⟨Nat.le_of_ble_eq_true rfl, Nat.le_of_ble_eq_true rfl⟩ ⟨Nat.zero_le _, Nat.zero_le _⟩ dX8_bound_14) rfl rfl rfl (fun H locs hw => ?_)
  refine lv_iconst (v := 0) hx hb dX8_bound_17 (by decide) ?_
  refine lv_istore_n (lv' := [(2, .int 0), (0, .ref (o 0)), (1, .int (nI x))]) hx hb dX8_bound_18 rfl hl (by decide) rfl (fun ls hl => ?_)
  refine lv_iload_n hx hb dX8_bound_19 rfl (lv_at hl 2 rfl) ?_
  refine lv_istore_n (lv' := [(3, .int (nI x)), (2, .int 0), (0, .ref (o 0)), (1, .int (nI x))]) hx hb dX8_bound_20 rfl hl (by decide) rfl (fun ls hl => ?_)
  have lp_21 : ∀ (fuel : Nat) (y : Nat) (br : Int32), v.1 - y < fuel → x ≤ y → y ≤ v.1 → bndL ((lwQ v.2.1 v.2.2.1 (v.2.2.2.2.1 0) len v.1 0 sq) x) (infF v.2.1 len) v.2.2.1 (v.2.2.2.2.1 0) (v.1 - y) y br = bndL ((lwQ v.2.1 v.2.2.1 (v.2.2.2.2.1 0) len v.1 0 sq) x) (infF v.2.1 len) v.2.2.1 (v.2.2.2.2.1 0) (v.1 - x) x 0 → ∀ (H : Heap) (locs : List Loc) (ls : Array Slot), xW g A0 s0 [(o 0, .inr (8, [.ref (o 1), .ref (o 2), .int (nI hs), .int bads, .int nos, .int fuls, .int cau, .int whe, .ref (o 3), .ref (o 4), .int (nI cnt), .int (nI p), .int fau, .int isw, .int ods, .ref (o 5), .ref (o 6)])), (o 1, .inl (g.2.1, 616, .inl (nwF v))), (o 2, .inl (g.2.1, 4312, .inl (pF P))), (o 3, .inl (g.2.1, 201, .inl (lwQ v.2.1 v.2.2.1 (v.2.2.2.2.1 0) len v.1 0 sq))), (o 4, .inl (g.2.1, 120, .inl tx)), (o 5, .inl (g.2.1, 24, .inl wo)), (o 6, .inl (g.2.1, 72, .inl nu))] H locs → lv_has ls 4 [(3, .int (nI y)), (2, .int br), (0, .ref (o 0)), (1, .int (nI x))] → W p0 l e0 (xR 3 67) s0 m0 [.ref (o 0), .int (nI x)].toArray below meth c0 H locs 0 0 Q (F0 m0 21 ls []) := by
    intro fuel
    induction fuel with
    | zero => intro y br hm; exact absurd hm (Nat.not_lt_zero _)
    | succ fuel ih =>
      intro y br hm h1 h2 hi H locs ls hw hl
      refine lv_iload_n hx hb dX8_bound_21 rfl (lv_at hl 0 rfl) ?_
      refine lv_aload_n hx hb dX8_bound_22 rfl (lv_at hl 2 rfl) ?_
      refine x_get E hw kf_X8_7 0 rfl rfl dX8_bound_23 ?_
      refine lv_iconst (v := 0) hx hb dX8_bound_26 (by decide) ?_
      refine x_ld (v := nI v.1) E hw 1 rfl 0 rfl (by omega) (by decide) rfl dX8_bound_27 ?_
      refine xn_ge (tgt := 69) hx hb y v.1 rfl rfl (by omega) (by omega) dX8_bound_28 (by decide) (fun c_2 => ?_) (fun c_2 => ?_)
      · obtain rfl : y = v.1 := by omega
        refine lv_aload_n hx hb dX8_bound_69 rfl (lv_at hl 2 rfl) ?_
        refine x_get E hw kf_X8_7 0 rfl rfl dX8_bound_70 ?_
        refine lv_iconst (v := 0) hx hb dX8_bound_73 (by decide) ?_
        refine x_ld (v := nI v.1) E hw 1 rfl 0 rfl (by omega) (by decide) rfl dX8_bound_74 ?_
        exact xr_i hQ E hr hw dX8_bound_75 ⟨congrArg (fun z => some (Value.int z)) (congrArg nI (by rw [← hi, Nat.sub_self]; rfl)), rfl⟩
      · refine lv_aload_n hx hb dX8_bound_31 rfl (lv_at hl 2 rfl) ?_
        refine x_get E hw kf_X8_20 0 rfl rfl dX8_bound_32 ?_
        refine lv_iload_n hx hb dX8_bound_35 rfl (lv_at hl 3 rfl) ?_
        refine x_ld (v := (lwQ v.2.1 v.2.2.1 (v.2.2.2.2.1 0) len v.1 0 sq) x) E hw 3 rfl x rfl (by omega) (by decide) rfl dX8_bound_36 ?_
        refine lv_aload_n hx hb dX8_bound_37 rfl (lv_at hl 2 rfl) ?_
        refine lv_iload_n hx hb dX8_bound_38 rfl (lv_at hl 0 rfl) ?_
        refine x_goR (st1 := [.int (infF v.2.1 len y), .int ((lwQ v.2.1 v.2.2.1 (v.2.2.2.2.1 0) len v.1 0 sq) x)]) E hw [0, 1] rfl (x_runV (rest := [.int ((lwQ v.2.1 v.2.2.1 (v.2.2.2.2.1 0) len v.1 0 sq) x)]) E hw (c_X8_inForce l g o hs bads nos fuls cau whe cnt p fau isw ods v y len (by omega) hlen (by omega) (by omega)) km_X8_95 kv_X8_inForce [0, 1] rfl (by decide) 0 rfl hl.1 rfl rfl (Nat.le_of_ble_eq_true rfl) ⟨Nat.le_of_ble_eq_true rfl, Nat.le_of_ble_eq_true rfl⟩ ⟨Nat.zero_le _, Nat.zero_le _⟩ dX8_bound_39) rfl (fun H locs hw => ?_)
        refine lv_aload_n hx hb dX8_bound_42 rfl (lv_at hl 2 rfl) ?_
        refine lv_iload_n hx hb dX8_bound_43 rfl (lv_at hl 0 rfl) ?_
        refine x_goR (st1 := [.int (infF v.2.1 len y), .int (infF v.2.1 len y), .int ((lwQ v.2.1 v.2.2.1 (v.2.2.2.2.1 0) len v.1 0 sq) x)]) E hw [0, 1] rfl (x_runV (rest := [.int (infF v.2.1 len y), .int ((lwQ v.2.1 v.2.2.1 (v.2.2.2.2.1 0) len v.1 0 sq) x)]) E hw (c_X8_inForce l g o hs bads nos fuls cau whe cnt p fau isw ods v y len (by omega) hlen (by omega) (by omega)) km_X8_95 kv_X8_inForce [0, 1] rfl (by decide) 0 rfl hl.1 rfl rfl (Nat.le_of_ble_eq_true rfl) ⟨Nat.le_of_ble_eq_true rfl, Nat.le_of_ble_eq_true rfl⟩ ⟨Nat.zero_le _, Nat.zero_le _⟩ dX8_bound_44) rfl (fun H locs hw => ?_)
        refine lv_imul hx hb dX8_bound_47 ?_
        refine lv_iload_n hx hb dX8_bound_48 rfl (lv_at hl 1 rfl) ?_
        refine lv_iadd hx hb dX8_bound_49 ?_
        refine lv_icmp_ne (tgt := 55) hx hb dX8_bound_50 (by decide) (fun ce => ?_) (fun ce => ?_)
        · refine lv_iload_n hx hb dX8_bound_55 rfl (lv_at hl 1 rfl) ?_
          refine lv_aload_n hx hb dX8_bound_56 rfl (lv_at hl 2 rfl) ?_
          refine lv_iload_n hx hb dX8_bound_57 rfl (lv_at hl 0 rfl) ?_
          refine x_goR (st1 := [.int (dcl (v.2.2.2.2.1 0) (v.2.2.1 y)), .int br]) E hw [0, 1] rfl (x_runV (rest := [.int br]) E hw (c_X8_decel l g o hs bads nos fuls cau whe cnt p fau isw ods v y (by omega)) km_X8_92 kv_X8_decel [0, 1] rfl (by decide) 0 rfl hl.1 rfl rfl (Nat.le_of_ble_eq_true rfl) ⟨Nat.le_of_ble_eq_true rfl, Nat.le_of_ble_eq_true rfl⟩ ⟨Nat.zero_le _, Nat.zero_le _⟩ dX8_bound_58) rfl (fun H locs hw => ?_)
          refine lv_iadd hx hb dX8_bound_61 ?_
          refine lv_istore_n (lv' := [(2, .int (br + dcl (v.2.2.2.2.1 0) (v.2.2.1 y))), (3, .int (nI y)), (0, .ref (o 0)), (1, .int (nI x))]) hx hb dX8_bound_62 rfl hl (by decide) rfl (fun ls hl => ?_)
          refine lv_iinc (v := nI (y + 1)) (lv' := [(3, .int (nI (y + 1))), (2, .int (br + dcl (v.2.2.2.2.1 0) (v.2.2.1 y))), (0, .ref (o 0)), (1, .int (nI x))]) hx hb dX8_bound_63 hl (k := 1) rfl (nI_1 _) (by decide) rfl (fun ls hl => ?_)
          refine lv_goto (tgt := 21) hx hb dX8_bound_66 (by decide) ?_
          have hl : lv_has ls 4 [(3, .int (nI (y + 1))), (2, .int (br + dcl (v.2.2.2.2.1 0) (v.2.2.1 y))), (0, .ref (o 0)), (1, .int (nI x))] := lv_sub hl [0, 1, 2, 3] rfl
          have hl : lv_has ls 4 [(3, .int (nI (y + 1))), (2, .int (br + dcl (v.2.2.2.2.1 0) (v.2.2.1 y))), (0, .ref (o 0)), (1, .int (nI x))] := hl
          have hw : xW g A0 s0 [(o 0, .inr (8, [.ref (o 1), .ref (o 2), .int (nI hs), .int bads, .int nos, .int fuls, .int cau, .int whe, .ref (o 3), .ref (o 4), .int (nI cnt), .int (nI p), .int fau, .int isw, .int ods, .ref (o 5), .ref (o 6)])), (o 1, .inl (g.2.1, 616, .inl (nwF v))), (o 2, .inl (g.2.1, 4312, .inl (pF P))), (o 3, .inl (g.2.1, 201, .inl (lwQ v.2.1 v.2.2.1 (v.2.2.2.2.1 0) len v.1 0 sq))), (o 4, .inl (g.2.1, 120, .inl tx)), (o 5, .inl (g.2.1, 24, .inl wo)), (o 6, .inl (g.2.1, 72, .inl nu))] _ _ := hw
          exact ih (y + 1) (br + dcl (v.2.2.2.2.1 0) (v.2.2.1 y)) (by omega) (by omega) (by omega) ((bndL_go (by omega) ce).symm.trans hi) _ _ _ hw hl
        · refine lv_iload_n hx hb dX8_bound_53 rfl (lv_at hl 0 rfl) ?_
          exact xr_i hQ E hr hw dX8_bound_54 ⟨congrArg (fun z => some (Value.int z)) (congrArg nI ((bndL_at (by omega) ce).symm.trans hi)), rfl⟩
  have hl : lv_has ls 4 [(3, .int (nI x)), (2, .int 0), (0, .ref (o 0)), (1, .int (nI x))] := lv_sub hl [0, 1, 2, 3] rfl
  have hl : lv_has ls 4 [(3, .int (nI x)), (2, .int 0), (0, .ref (o 0)), (1, .int (nI x))] := hl
  have hw : xW g A0 s0 [(o 0, .inr (8, [.ref (o 1), .ref (o 2), .int (nI hs), .int bads, .int nos, .int fuls, .int cau, .int whe, .ref (o 3), .ref (o 4), .int (nI cnt), .int (nI p), .int fau, .int isw, .int ods, .ref (o 5), .ref (o 6)])), (o 1, .inl (g.2.1, 616, .inl (nwF v))), (o 2, .inl (g.2.1, 4312, .inl (pF P))), (o 3, .inl (g.2.1, 201, .inl (lwQ v.2.1 v.2.2.1 (v.2.2.2.2.1 0) len v.1 0 sq))), (o 4, .inl (g.2.1, 120, .inl tx)), (o 5, .inl (g.2.1, 24, .inl wo)), (o 6, .inl (g.2.1, 72, .inl nu))] _ _ := hw
  exact lp_21 ((v.1 - x) + 1) x 0 (Nat.lt_succ_self _) (by omega) (by omega) rfl _ _ _ hw hl

set_option maxRecDepth 100000 in
set_option maxHeartbeats 4000000 in
theorem c_X8_bound_bad (l : Launch) (g : xCfg) (o : Nat → Nat) (hs : Nat) (bads : Int32) (nos : Int32) (fuls : Int32) (cau : Int32) (whe : Int32) (cnt : Nat) (p : Nat) (fau : Int32) (isw : Int32) (ods : Int32) (v : SV) (P : Nat → SV) (sq : Nat → Int32) (tx : Nat → Int32) (wo : Nat → Int32) (nu : Nat → Int32) (x : Int32) (hL1 : 1 ≤ v.1) (hb0 : ¬ (0 ≤ x ∧ x ≤ nI (v.1 - 1))) : Ct l g yX8_bound cX8_bound 4 (some .int) (xR 2 43) [.ref (o 0), .int x] [(o 0, .inr (8, [.ref (o 1), .ref (o 2), .int (nI hs), .int bads, .int nos, .int fuls, .int cau, .int whe, .ref (o 3), .ref (o 4), .int (nI cnt), .int (nI p), .int fau, .int isw, .int ods, .ref (o 5), .ref (o 6)])), (o 1, .inl (g.2.1, 616, .inl (nwF v))), (o 2, .inl (g.2.1, 4312, .inl (pF P))), (o 3, .inl (g.2.1, 201, .inl sq)), (o 4, .inl (g.2.1, 120, .inl tx)), (o 5, .inl (g.2.1, 24, .inl wo)), (o 6, .inl (g.2.1, 72, .inl nu))] (is1 (some (.int (-2))) [(o 0, .inr (8, [.ref (o 1), .ref (o 2), .int (nI hs), .int (bads + 1), .int nos, .int fuls, .int cau, .int whe, .ref (o 3), .ref (o 4), .int (nI cnt), .int (nI p), .int fau, .int isw, .int ods, .ref (o 5), .ref (o 6)])), (o 1, .inl (g.2.1, 616, .inl (nwF v))), (o 2, .inl (g.2.1, 4312, .inl (pF P))), (o 3, .inl (g.2.1, 201, .inl sq)), (o 4, .inl (g.2.1, 120, .inl tx)), (o 5, .inl (g.2.1, 24, .inl wo)), (o 6, .inl (g.2.1, 72, .inl nu))]) := by
  refine Ct.walk (by decide) (Nat.le_of_ble_eq_true rfl) ?_
  intro p0 e0 s0 m0 below meth c0 A0 ls Q hQ E hr hnm hw hl
  have hx := E.x
  have hb := E.b
  have hl : lv_has ls 4 [(0, .ref (o 0)), (1, .int x)] := hl
  refine lv_aload_n hx hb dX8_bound_0 rfl (lv_at hl 0 rfl) ?_
  refine lv_iload_n hx hb dX8_bound_1 rfl (lv_at hl 1 rfl) ?_
  refine x_goR (st1 := [.int (bI (0 ≤ x ∧ x ≤ nI (v.1 - 1)))]) E hw [0, 1] rfl (x_runV (rest := []) E hw (c_X8_isCell l g o hs bads nos fuls cau whe cnt p fau isw ods v x (by omega)) km_X8_70 kv_X8_isCell [0, 1] rfl (by decide) 0 rfl hl.1 rfl rfl (Nat.le_of_ble_eq_true rfl) ⟨Nat.le_of_ble_eq_true rfl, Nat.le_of_ble_eq_true rfl⟩ ⟨Nat.zero_le _, Nat.zero_le _⟩ dX8_bound_2) rfl (fun H locs hw => ?_)
  refine xb_ne (tgt := 13) hx hb dX8_bound_5 (by decide) (fun c1 => ?_) (fun c1 => ?_)
  · exact absurd c1 hb0
  · refine lv_aload_n hx hb dX8_bound_8 rfl (lv_at hl 0 rfl) ?_
    refine x_go (ws' := [(o 0, .inr (8, [.ref (o 1), .ref (o 2), .int (nI hs), .int (bads + 1), .int nos, .int fuls, .int cau, .int whe, .ref (o 3), .ref (o 4), .int (nI cnt), .int (nI p), .int fau, .int isw, .int ods, .ref (o 5), .ref (o 6)])), (o 1, .inl (g.2.1, 616, .inl (nwF v))), (o 2, .inl (g.2.1, 4312, .inl (pF P))), (o 3, .inl (g.2.1, 201, .inl sq)), (o 4, .inl (g.2.1, 120, .inl tx)), (o 5, .inl (g.2.1, 24, .inl wo)), (o 6, .inl (g.2.1, 72, .inl nu))]) (st1 := [.int (-2)]) E hw [0] rfl (x_runV (rest := []) E hw (c_X8_bad l g o hs bads nos fuls cau whe cnt p fau isw ods ) km_X8_60 kv_X8_bad [0] rfl (by decide) 0 rfl hl.1 rfl rfl (Nat.le_of_ble_eq_true rfl) ⟨Nat.le_of_ble_eq_true rfl, Nat.le_of_ble_eq_true rfl⟩ ⟨Nat.zero_le _, Nat.zero_le _⟩ dX8_bound_9) rfl rfl rfl (fun H locs hw => ?_)
    exact xr_i hQ E hr hw dX8_bound_12 ⟨rfl, rfl⟩

set_option maxRecDepth 100000 in
set_option maxHeartbeats 4000000 in
theorem c_X8_stands_ok (l : Launch) (g : xCfg) (o : Nat → Nat) (hs : Nat) (bads : Int32) (nos : Int32) (fuls : Int32) (cau : Int32) (whe : Int32) (cnt : Nat) (p : Nat) (fau : Int32) (isw : Int32) (ods : Int32) (v : SV) (P : Nat → SV) (sq : Nat → Int32) (tx : Nat → Int32) (wo : Nat → Int32) (nu : Nat → Int32) (x : Nat) (u : Int32) (hL : v.1 ≤ 200) (hx0 : x < v.1) (hv : 0 ≤ u) (hv2 : u ≤ 99) : Ct l g yX8_stands cX8_stands 3 (some .int) (xR 3 67) [.ref (o 0), .int (nI x), .int u] [(o 0, .inr (8, [.ref (o 1), .ref (o 2), .int (nI hs), .int bads, .int nos, .int fuls, .int cau, .int whe, .ref (o 3), .ref (o 4), .int (nI cnt), .int (nI p), .int fau, .int isw, .int ods, .ref (o 5), .ref (o 6)])), (o 1, .inl (g.2.1, 616, .inl (nwF v))), (o 2, .inl (g.2.1, 4312, .inl (pF P))), (o 3, .inl (g.2.1, 201, .inl sq)), (o 4, .inl (g.2.1, 120, .inl tx)), (o 5, .inl (g.2.1, 24, .inl wo)), (o 6, .inl (g.2.1, 72, .inl nu))] (is1 (some (.int (stL v.2.2.1 (v.2.2.2.2.1 0) (v.1 - x) x x (u * u)))) [(o 0, .inr (8, [.ref (o 1), .ref (o 2), .int (nI hs), .int bads, .int nos, .int fuls, .int cau, .int whe, .ref (o 3), .ref (o 4), .int (nI cnt), .int (nI p), .int fau, .int isw, .int ods, .ref (o 5), .ref (o 6)])), (o 1, .inl (g.2.1, 616, .inl (nwF v))), (o 2, .inl (g.2.1, 4312, .inl (pF P))), (o 3, .inl (g.2.1, 201, .inl sq)), (o 4, .inl (g.2.1, 120, .inl tx)), (o 5, .inl (g.2.1, 24, .inl wo)), (o 6, .inl (g.2.1, 72, .inl nu))]) := by
  refine Ct.walk (by decide) (Nat.le_of_ble_eq_true rfl) ?_
  intro p0 e0 s0 m0 below meth c0 A0 ls Q hQ E hr hnm hw hl
  have hx := E.x
  have hb := E.b
  have hl : lv_has ls 3 [(0, .ref (o 0)), (1, .int (nI x)), (2, .int u)] := hl
  refine lv_aload_n hx hb dX8_stands_0 rfl (lv_at hl 0 rfl) ?_
  refine lv_iload_n hx hb dX8_stands_1 rfl (lv_at hl 1 rfl) ?_
  refine x_goR (st1 := [.int 1]) E hw [0, 1] rfl (x_runV (rest := []) E hw (c_X8_isCell_ok l g o hs bads nos fuls cau whe cnt p fau isw ods v x (by omega) (by omega)) km_X8_70 kv_X8_isCell [0, 1] rfl (by decide) 0 rfl hl.1 rfl rfl (Nat.le_of_ble_eq_true rfl) ⟨Nat.le_of_ble_eq_true rfl, Nat.le_of_ble_eq_true rfl⟩ ⟨Nat.zero_le _, Nat.zero_le _⟩ dX8_stands_2) rfl (fun H locs hw => ?_)
  refine lv_if_eq (tgt := 27) hx hb dX8_stands_5 (by decide) (fun h => absurd h (by decide)) (fun _ => ?_)
  refine lv_iload_n hx hb dX8_stands_8 rfl (lv_at hl 2 rfl) ?_
  refine lv_iconst (v := 0) hx hb dX8_stands_9 (by decide) ?_
  refine lv_bipush (v := 99) hx hb dX8_stands_10 (by decide) ?_
  refine x_goR (st1 := [.int 1]) E hw [] rfl (x_runS (rest := []) E hw (c_X8_in_ok l g u 0 99 hv hv2) km_X8_45 ks_X8_in [] rfl (by decide) hl.1 rfl rfl (Nat.le_of_ble_eq_true rfl) ⟨Nat.le_of_ble_eq_true rfl, Nat.le_of_ble_eq_true rfl⟩ ⟨Nat.zero_le _, Nat.zero_le _⟩ dX8_stands_12) rfl (fun H locs hw => ?_)
  refine lv_if_eq (tgt := 27) hx hb dX8_stands_15 (by decide) (fun h => absurd h (by decide)) (fun _ => ?_)
  refine lv_aload_n hx hb dX8_stands_18 rfl (lv_at hl 0 rfl) ?_
  refine lv_iload_n hx hb dX8_stands_19 rfl (lv_at hl 1 rfl) ?_
  refine lv_iload_n hx hb dX8_stands_20 rfl (lv_at hl 2 rfl) ?_
  refine x_goR (st1 := [.int (stL v.2.2.1 (v.2.2.2.2.1 0) (v.1 - x) x x (u * u))]) E hw [0, 1] rfl (x_runV (rest := []) E hw (c_X8_standing l g o hs bads nos fuls cau whe cnt p fau isw ods v x u (by omega) (by omega)) km_X8_107 kv_X8_standing [0, 1] rfl (by decide) 0 rfl hl.1 rfl rfl (Nat.le_of_ble_eq_true rfl) ⟨Nat.le_of_ble_eq_true rfl, Nat.le_of_ble_eq_true rfl⟩ ⟨Nat.zero_le _, Nat.zero_le _⟩ dX8_stands_21) rfl (fun H locs hw => ?_)
  refine lv_goto (tgt := 31) hx hb dX8_stands_24 (by decide) ?_
  exact xr_i hQ E hr hw dX8_stands_31 ⟨rfl, rfl⟩

set_option maxRecDepth 100000 in
set_option maxHeartbeats 4000000 in
theorem c_X8_stands_bad (l : Launch) (g : xCfg) (o : Nat → Nat) (hs : Nat) (bads : Int32) (nos : Int32) (fuls : Int32) (cau : Int32) (whe : Int32) (cnt : Nat) (p : Nat) (fau : Int32) (isw : Int32) (ods : Int32) (v : SV) (P : Nat → SV) (sq : Nat → Int32) (tx : Nat → Int32) (wo : Nat → Int32) (nu : Nat → Int32) (x : Int32) (u : Int32) (hL1 : 1 ≤ v.1) (hb0 : ¬ (inL v.1 x ∧ (0 ≤ u ∧ u ≤ 99))) : Ct l g yX8_stands cX8_stands 3 (some .int) (xR 2 43) [.ref (o 0), .int x, .int u] [(o 0, .inr (8, [.ref (o 1), .ref (o 2), .int (nI hs), .int bads, .int nos, .int fuls, .int cau, .int whe, .ref (o 3), .ref (o 4), .int (nI cnt), .int (nI p), .int fau, .int isw, .int ods, .ref (o 5), .ref (o 6)])), (o 1, .inl (g.2.1, 616, .inl (nwF v))), (o 2, .inl (g.2.1, 4312, .inl (pF P))), (o 3, .inl (g.2.1, 201, .inl sq)), (o 4, .inl (g.2.1, 120, .inl tx)), (o 5, .inl (g.2.1, 24, .inl wo)), (o 6, .inl (g.2.1, 72, .inl nu))] (is1 (some (.int (-2))) [(o 0, .inr (8, [.ref (o 1), .ref (o 2), .int (nI hs), .int (bads + 1), .int nos, .int fuls, .int cau, .int whe, .ref (o 3), .ref (o 4), .int (nI cnt), .int (nI p), .int fau, .int isw, .int ods, .ref (o 5), .ref (o 6)])), (o 1, .inl (g.2.1, 616, .inl (nwF v))), (o 2, .inl (g.2.1, 4312, .inl (pF P))), (o 3, .inl (g.2.1, 201, .inl sq)), (o 4, .inl (g.2.1, 120, .inl tx)), (o 5, .inl (g.2.1, 24, .inl wo)), (o 6, .inl (g.2.1, 72, .inl nu))]) := by
  refine Ct.walk (by decide) (Nat.le_of_ble_eq_true rfl) ?_
  intro p0 e0 s0 m0 below meth c0 A0 ls Q hQ E hr hnm hw hl
  have hx := E.x
  have hb := E.b
  have hl : lv_has ls 3 [(0, .ref (o 0)), (1, .int x), (2, .int u)] := hl
  refine lv_aload_n hx hb dX8_stands_0 rfl (lv_at hl 0 rfl) ?_
  refine lv_iload_n hx hb dX8_stands_1 rfl (lv_at hl 1 rfl) ?_
  refine x_goR (st1 := [.int (bI (0 ≤ x ∧ x ≤ nI (v.1 - 1)))]) E hw [0, 1] rfl (x_runV (rest := []) E hw (c_X8_isCell l g o hs bads nos fuls cau whe cnt p fau isw ods v x (by omega)) km_X8_70 kv_X8_isCell [0, 1] rfl (by decide) 0 rfl hl.1 rfl rfl (Nat.le_of_ble_eq_true rfl) ⟨Nat.le_of_ble_eq_true rfl, Nat.le_of_ble_eq_true rfl⟩ ⟨Nat.zero_le _, Nat.zero_le _⟩ dX8_stands_2) rfl (fun H locs hw => ?_)
  refine xb_eq (tgt := 27) hx hb dX8_stands_5 (by decide) (fun c1 => ?_) (fun c1 => ?_)
  · refine lv_aload_n hx hb dX8_stands_27 rfl (lv_at hl 0 rfl) ?_
    refine x_go (ws' := [(o 0, .inr (8, [.ref (o 1), .ref (o 2), .int (nI hs), .int (bads + 1), .int nos, .int fuls, .int cau, .int whe, .ref (o 3), .ref (o 4), .int (nI cnt), .int (nI p), .int fau, .int isw, .int ods, .ref (o 5), .ref (o 6)])), (o 1, .inl (g.2.1, 616, .inl (nwF v))), (o 2, .inl (g.2.1, 4312, .inl (pF P))), (o 3, .inl (g.2.1, 201, .inl sq)), (o 4, .inl (g.2.1, 120, .inl tx)), (o 5, .inl (g.2.1, 24, .inl wo)), (o 6, .inl (g.2.1, 72, .inl nu))]) (st1 := [.int (-2)]) E hw [0] rfl (x_runV (rest := []) E hw (c_X8_bad l g o hs bads nos fuls cau whe cnt p fau isw ods ) km_X8_60 kv_X8_bad [0] rfl (by decide) 0 rfl hl.1 rfl rfl (Nat.le_of_ble_eq_true rfl) ⟨Nat.le_of_ble_eq_true rfl, Nat.le_of_ble_eq_true rfl⟩ ⟨Nat.zero_le _, Nat.zero_le _⟩ dX8_stands_28) rfl rfl rfl (fun H locs hw => ?_)
    exact xr_i hQ E hr hw dX8_stands_31 ⟨rfl, rfl⟩
  · refine lv_iload_n hx hb dX8_stands_8 rfl (lv_at hl 2 rfl) ?_
    refine lv_iconst (v := 0) hx hb dX8_stands_9 (by decide) ?_
    refine lv_bipush (v := 99) hx hb dX8_stands_10 (by decide) ?_
    refine x_goR (st1 := [.int (bI (0 ≤ u ∧ u ≤ 99))]) E hw [] rfl (x_runS (rest := []) E hw (c_X8_in l g u 0 99 ) km_X8_45 ks_X8_in [] rfl (by decide) hl.1 rfl rfl (Nat.le_of_ble_eq_true rfl) ⟨Nat.le_of_ble_eq_true rfl, Nat.le_of_ble_eq_true rfl⟩ ⟨Nat.zero_le _, Nat.zero_le _⟩ dX8_stands_12) rfl (fun H locs hw => ?_)
    refine xb_eq (tgt := 27) hx hb dX8_stands_15 (by decide) (fun c2 => ?_) (fun c2 => ?_)
    · refine lv_aload_n hx hb dX8_stands_27 rfl (lv_at hl 0 rfl) ?_
      refine x_go (ws' := [(o 0, .inr (8, [.ref (o 1), .ref (o 2), .int (nI hs), .int (bads + 1), .int nos, .int fuls, .int cau, .int whe, .ref (o 3), .ref (o 4), .int (nI cnt), .int (nI p), .int fau, .int isw, .int ods, .ref (o 5), .ref (o 6)])), (o 1, .inl (g.2.1, 616, .inl (nwF v))), (o 2, .inl (g.2.1, 4312, .inl (pF P))), (o 3, .inl (g.2.1, 201, .inl sq)), (o 4, .inl (g.2.1, 120, .inl tx)), (o 5, .inl (g.2.1, 24, .inl wo)), (o 6, .inl (g.2.1, 72, .inl nu))]) (st1 := [.int (-2)]) E hw [0] rfl (x_runV (rest := []) E hw (c_X8_bad l g o hs bads nos fuls cau whe cnt p fau isw ods ) km_X8_60 kv_X8_bad [0] rfl (by decide) 0 rfl hl.1 rfl rfl (Nat.le_of_ble_eq_true rfl) ⟨Nat.le_of_ble_eq_true rfl, Nat.le_of_ble_eq_true rfl⟩ ⟨Nat.zero_le _, Nat.zero_le _⟩ dX8_stands_28) rfl rfl rfl (fun H locs hw => ?_)
      exact xr_i hQ E hr hw dX8_stands_31 ⟨rfl, rfl⟩
    · exact absurd ⟨c1, c2⟩ hb0

set_option maxRecDepth 100000 in
set_option maxHeartbeats 4000000 in
theorem c_X8_speed_ok (l : Launch) (g : xCfg) (o : Nat → Nat) (hs : Nat) (bads : Int32) (nos : Int32) (fuls : Int32) (cau : Int32) (whe : Int32) (cnt : Nat) (p : Nat) (fau : Int32) (isw : Int32) (ods : Int32) (v : SV) (P : Nat → SV) (sq : Nat → Int32) (tx : Nat → Int32) (wo : Nat → Int32) (nu : Nat → Int32) (x : Nat) (m : Nat) (hL : v.1 ≤ 200) (hx0 : x < v.1) (hm : m ≤ 200) : Ct l g yX8_speed cX8_speed 4 (some .int) (xR 3 67) [.ref (o 0), .int (nI x), .int (nI m)] [(o 0, .inr (8, [.ref (o 1), .ref (o 2), .int (nI hs), .int bads, .int nos, .int fuls, .int cau, .int whe, .ref (o 3), .ref (o 4), .int (nI cnt), .int (nI p), .int fau, .int isw, .int ods, .ref (o 5), .ref (o 6)])), (o 1, .inl (g.2.1, 616, .inl (nwF v))), (o 2, .inl (g.2.1, 4312, .inl (pF P))), (o 3, .inl (g.2.1, 201, .inl sq)), (o 4, .inl (g.2.1, 120, .inl tx)), (o 5, .inl (g.2.1, 24, .inl wo)), (o 6, .inl (g.2.1, 72, .inl nu))] (is1 (some (.int (nI (spdL v.2.2.1 (v.2.2.2.2.1 0) v.1 x m 99)))) [(o 0, .inr (8, [.ref (o 1), .ref (o 2), .int (nI hs), .int bads, .int nos, .int fuls, .int cau, .int whe, .ref (o 3), .ref (o 4), .int (nI cnt), .int (nI p), .int fau, .int isw, .int ods, .ref (o 5), .ref (o 6)])), (o 1, .inl (g.2.1, 616, .inl (nwF v))), (o 2, .inl (g.2.1, 4312, .inl (pF P))), (o 3, .inl (g.2.1, 201, .inl sq)), (o 4, .inl (g.2.1, 120, .inl tx)), (o 5, .inl (g.2.1, 24, .inl wo)), (o 6, .inl (g.2.1, 72, .inl nu))]) := by
  refine Ct.walk (by decide) (Nat.le_of_ble_eq_true rfl) ?_
  intro p0 e0 s0 m0 below meth c0 A0 ls Q hQ E hr hnm hw hl
  have hx := E.x
  have hb := E.b
  have hl : lv_has ls 4 [(0, .ref (o 0)), (1, .int (nI x)), (2, .int (nI m))] := hl
  refine lv_aload_n hx hb dX8_speed_0 rfl (lv_at hl 0 rfl) ?_
  refine lv_iload_n hx hb dX8_speed_1 rfl (lv_at hl 1 rfl) ?_
  refine x_goR (st1 := [.int 1]) E hw [0, 1] rfl (x_runV (rest := []) E hw (c_X8_isCell_ok l g o hs bads nos fuls cau whe cnt p fau isw ods v x (by omega) (by omega)) km_X8_70 kv_X8_isCell [0, 1] rfl (by decide) 0 rfl hl.1 rfl rfl (Nat.le_of_ble_eq_true rfl) ⟨Nat.le_of_ble_eq_true rfl, Nat.le_of_ble_eq_true rfl⟩ ⟨Nat.zero_le _, Nat.zero_le _⟩ dX8_speed_2) rfl (fun H locs hw => ?_)
  refine lv_if_eq (tgt := 19) hx hb dX8_speed_5 (by decide) (fun h => absurd h (by decide)) (fun _ => ?_)
  refine lv_iload_n hx hb dX8_speed_8 rfl (lv_at hl 2 rfl) ?_
  refine lv_iconst (v := 0) hx hb dX8_speed_9 (by decide) ?_
  refine lv_sipush (v := 200) hx hb dX8_speed_10 (by decide) ?_
  refine x_goR (st1 := [.int 1]) E hw [] rfl (x_runS (rest := []) E hw (c_X8_in_ok l g (nI m) 0 200 (nI_pos' (by omega)) (nI_le (b := 200) hm (by decide))) km_X8_45 ks_X8_in [] rfl (by decide) hl.1 rfl rfl (Nat.le_of_ble_eq_true rfl) ⟨Nat.le_of_ble_eq_true rfl, Nat.le_of_ble_eq_true rfl⟩ ⟨Nat.zero_le _, Nat.zero_le _⟩ dX8_speed_13) rfl (fun H locs hw => ?_)
  refine lv_if_ne (tgt := 24) hx hb dX8_speed_16 (by decide) (fun _ => ?_) (fun h => absurd h (by decide))
  refine lv_bipush (v := 99) hx hb dX8_speed_24 (by decide) ?_
  refine lv_istore_n (lv' := [(3, .int 99), (0, .ref (o 0)), (1, .int (nI x)), (2, .int (nI m))]) hx hb dX8_speed_26 rfl hl (by decide) rfl (fun ls hl => ?_)
  have lp_27 : ∀ (fuel : Nat) (k : Nat), k < fuel → k ≤ 99 → spdL v.2.2.1 (v.2.2.2.2.1 0) v.1 x m k = spdL v.2.2.1 (v.2.2.2.2.1 0) v.1 x m 99 → ∀ (H : Heap) (locs : List Loc) (ls : Array Slot), xW g A0 s0 [(o 0, .inr (8, [.ref (o 1), .ref (o 2), .int (nI hs), .int bads, .int nos, .int fuls, .int cau, .int whe, .ref (o 3), .ref (o 4), .int (nI cnt), .int (nI p), .int fau, .int isw, .int ods, .ref (o 5), .ref (o 6)])), (o 1, .inl (g.2.1, 616, .inl (nwF v))), (o 2, .inl (g.2.1, 4312, .inl (pF P))), (o 3, .inl (g.2.1, 201, .inl sq)), (o 4, .inl (g.2.1, 120, .inl tx)), (o 5, .inl (g.2.1, 24, .inl wo)), (o 6, .inl (g.2.1, 72, .inl nu))] H locs → lv_has ls 4 [(3, .int (nI k)), (0, .ref (o 0)), (1, .int (nI x)), (2, .int (nI m))] → W p0 l e0 (xR 3 67) s0 m0 [.ref (o 0), .int (nI x), .int (nI m)].toArray below meth c0 H locs 0 0 Q (F0 m0 27 ls []) := by
    intro fuel
    induction fuel with
    | zero => intro k hm; exact absurd hm (Nat.not_lt_zero _)
    | succ fuel ih =>
      intro k hm hk hv H locs ls hw hl
      refine lv_iload_n hx hb dX8_speed_27 rfl (lv_at hl 0 rfl) ?_
      refine xz_le (tgt := 53) hx hb k rfl (by omega) dX8_speed_28 (by decide) (fun c1 => ?_) (fun c1 => ?_)
      · obtain rfl : k = 0 := by omega
        refine lv_iconst (v := 0) hx hb dX8_speed_53 (by decide) ?_
        exact xr_i hQ E hr hw dX8_speed_54 ⟨congrArg (fun z => some (Value.int z)) (congrArg nI hv), rfl⟩
      · obtain ⟨j, rfl⟩ : ∃ j, k = j + 1 := ⟨k - 1, by omega⟩
        refine lv_aload_n hx hb dX8_speed_31 rfl (lv_at hl 1 rfl) ?_
        refine lv_iload_n hx hb dX8_speed_32 rfl (lv_at hl 2 rfl) ?_
        refine lv_iload_n hx hb dX8_speed_33 rfl (lv_at hl 0 rfl) ?_
        refine x_goR (st1 := [.int (stL v.2.2.1 (v.2.2.2.2.1 0) (v.1 - x) x x ((nI (j + 1)) * (nI (j + 1))))]) E hw [0, 1] rfl (x_runV (rest := []) E hw (c_X8_standing l g o hs bads nos fuls cau whe cnt p fau isw ods v x (nI (j + 1)) (by omega) (by omega)) km_X8_107 kv_X8_standing [0, 1] rfl (by decide) 0 rfl hl.1 rfl rfl (Nat.le_of_ble_eq_true rfl) ⟨Nat.le_of_ble_eq_true rfl, Nat.le_of_ble_eq_true rfl⟩ ⟨Nat.zero_le _, Nat.zero_le _⟩ dX8_speed_34) rfl (fun H locs hw => ?_)
        refine lv_iconst (v := 0) hx hb dX8_speed_37 (by decide) ?_
        refine lv_iload_n hx hb dX8_speed_38 rfl (lv_at hl 3 rfl) ?_
        refine x_goR (st1 := [.int (bI (0 ≤ (stL v.2.2.1 (v.2.2.2.2.1 0) (v.1 - x) x x ((nI (j + 1)) * (nI (j + 1)))) ∧ (stL v.2.2.1 (v.2.2.2.2.1 0) (v.1 - x) x x ((nI (j + 1)) * (nI (j + 1)))) ≤ (nI m)))]) E hw [] rfl (x_runS (rest := []) E hw (c_X8_in l g (stL v.2.2.1 (v.2.2.2.2.1 0) (v.1 - x) x x ((nI (j + 1)) * (nI (j + 1)))) 0 (nI m) ) km_X8_45 ks_X8_in [] rfl (by decide) hl.1 rfl rfl (Nat.le_of_ble_eq_true rfl) ⟨Nat.le_of_ble_eq_true rfl, Nat.le_of_ble_eq_true rfl⟩ ⟨Nat.zero_le _, Nat.zero_le _⟩ dX8_speed_39) rfl (fun H locs hw => ?_)
        refine xb_eq (tgt := 47) hx hb dX8_speed_42 (by decide) (fun c2 => ?_) (fun c2 => ?_)
        · refine lv_iinc (v := nI j) (lv' := [(3, .int (nI j)), (0, .ref (o 0)), (1, .int (nI x)), (2, .int (nI m))]) hx hb dX8_speed_47 hl (k := 0) rfl (pk_m1 _) (by decide) rfl (fun ls hl => ?_)
          refine lv_goto (tgt := 27) hx hb dX8_speed_50 (by decide) ?_
          have hl : lv_has ls 4 [(3, .int (nI j)), (0, .ref (o 0)), (1, .int (nI x)), (2, .int (nI m))] := lv_sub hl [0, 1, 2, 3] rfl
          have hl : lv_has ls 4 [(3, .int (nI j)), (0, .ref (o 0)), (1, .int (nI x)), (2, .int (nI m))] := hl
          have hw : xW g A0 s0 [(o 0, .inr (8, [.ref (o 1), .ref (o 2), .int (nI hs), .int bads, .int nos, .int fuls, .int cau, .int whe, .ref (o 3), .ref (o 4), .int (nI cnt), .int (nI p), .int fau, .int isw, .int ods, .ref (o 5), .ref (o 6)])), (o 1, .inl (g.2.1, 616, .inl (nwF v))), (o 2, .inl (g.2.1, 4312, .inl (pF P))), (o 3, .inl (g.2.1, 201, .inl sq)), (o 4, .inl (g.2.1, 120, .inl tx)), (o 5, .inl (g.2.1, 24, .inl wo)), (o 6, .inl (g.2.1, 72, .inl nu))] _ _ := hw
          exact ih j (by omega) (by omega) (by rw [← hv, spdL, if_neg c2]) _ _ _ hw hl
        · refine lv_iload_n hx hb dX8_speed_45 rfl (lv_at hl 0 rfl) ?_
          exact xr_i hQ E hr hw dX8_speed_46 ⟨congrArg (fun z => some (Value.int z)) (congrArg nI (by rw [← hv, spdL, if_pos c2])), rfl⟩
  have hl : lv_has ls 4 [(3, .int 99), (0, .ref (o 0)), (1, .int (nI x)), (2, .int (nI m))] := lv_sub hl [0, 1, 2, 3] rfl
  have hl : lv_has ls 4 [(3, .int 99), (0, .ref (o 0)), (1, .int (nI x)), (2, .int (nI m))] := hl
  have hw : xW g A0 s0 [(o 0, .inr (8, [.ref (o 1), .ref (o 2), .int (nI hs), .int bads, .int nos, .int fuls, .int cau, .int whe, .ref (o 3), .ref (o 4), .int (nI cnt), .int (nI p), .int fau, .int isw, .int ods, .ref (o 5), .ref (o 6)])), (o 1, .inl (g.2.1, 616, .inl (nwF v))), (o 2, .inl (g.2.1, 4312, .inl (pF P))), (o 3, .inl (g.2.1, 201, .inl sq)), (o 4, .inl (g.2.1, 120, .inl tx)), (o 5, .inl (g.2.1, 24, .inl wo)), (o 6, .inl (g.2.1, 72, .inl nu))] _ _ := hw
  exact lp_27 (99 + 1) 99 (Nat.lt_succ_self _) (by omega) rfl _ _ _ hw hl

set_option maxRecDepth 100000 in
set_option maxHeartbeats 4000000 in
theorem c_X8_speed_bad (l : Launch) (g : xCfg) (o : Nat → Nat) (hs : Nat) (bads : Int32) (nos : Int32) (fuls : Int32) (cau : Int32) (whe : Int32) (cnt : Nat) (p : Nat) (fau : Int32) (isw : Int32) (ods : Int32) (v : SV) (P : Nat → SV) (sq : Nat → Int32) (tx : Nat → Int32) (wo : Nat → Int32) (nu : Nat → Int32) (x : Int32) (u : Int32) (hL1 : 1 ≤ v.1) (hb0 : ¬ (inL v.1 x ∧ (0 ≤ u ∧ u ≤ 200))) : Ct l g yX8_speed cX8_speed 4 (some .int) (xR 2 43) [.ref (o 0), .int x, .int u] [(o 0, .inr (8, [.ref (o 1), .ref (o 2), .int (nI hs), .int bads, .int nos, .int fuls, .int cau, .int whe, .ref (o 3), .ref (o 4), .int (nI cnt), .int (nI p), .int fau, .int isw, .int ods, .ref (o 5), .ref (o 6)])), (o 1, .inl (g.2.1, 616, .inl (nwF v))), (o 2, .inl (g.2.1, 4312, .inl (pF P))), (o 3, .inl (g.2.1, 201, .inl sq)), (o 4, .inl (g.2.1, 120, .inl tx)), (o 5, .inl (g.2.1, 24, .inl wo)), (o 6, .inl (g.2.1, 72, .inl nu))] (is1 (some (.int (-2))) [(o 0, .inr (8, [.ref (o 1), .ref (o 2), .int (nI hs), .int (bads + 1), .int nos, .int fuls, .int cau, .int whe, .ref (o 3), .ref (o 4), .int (nI cnt), .int (nI p), .int fau, .int isw, .int ods, .ref (o 5), .ref (o 6)])), (o 1, .inl (g.2.1, 616, .inl (nwF v))), (o 2, .inl (g.2.1, 4312, .inl (pF P))), (o 3, .inl (g.2.1, 201, .inl sq)), (o 4, .inl (g.2.1, 120, .inl tx)), (o 5, .inl (g.2.1, 24, .inl wo)), (o 6, .inl (g.2.1, 72, .inl nu))]) := by
  refine Ct.walk (by decide) (Nat.le_of_ble_eq_true rfl) ?_
  intro p0 e0 s0 m0 below meth c0 A0 ls Q hQ E hr hnm hw hl
  have hx := E.x
  have hb := E.b
  have hl : lv_has ls 4 [(0, .ref (o 0)), (1, .int x), (2, .int u)] := hl
  refine lv_aload_n hx hb dX8_speed_0 rfl (lv_at hl 0 rfl) ?_
  refine lv_iload_n hx hb dX8_speed_1 rfl (lv_at hl 1 rfl) ?_
  refine x_goR (st1 := [.int (bI (0 ≤ x ∧ x ≤ nI (v.1 - 1)))]) E hw [0, 1] rfl (x_runV (rest := []) E hw (c_X8_isCell l g o hs bads nos fuls cau whe cnt p fau isw ods v x (by omega)) km_X8_70 kv_X8_isCell [0, 1] rfl (by decide) 0 rfl hl.1 rfl rfl (Nat.le_of_ble_eq_true rfl) ⟨Nat.le_of_ble_eq_true rfl, Nat.le_of_ble_eq_true rfl⟩ ⟨Nat.zero_le _, Nat.zero_le _⟩ dX8_speed_2) rfl (fun H locs hw => ?_)
  refine xb_eq (tgt := 19) hx hb dX8_speed_5 (by decide) (fun c1 => ?_) (fun c1 => ?_)
  · refine lv_aload_n hx hb dX8_speed_19 rfl (lv_at hl 0 rfl) ?_
    refine x_go (ws' := [(o 0, .inr (8, [.ref (o 1), .ref (o 2), .int (nI hs), .int (bads + 1), .int nos, .int fuls, .int cau, .int whe, .ref (o 3), .ref (o 4), .int (nI cnt), .int (nI p), .int fau, .int isw, .int ods, .ref (o 5), .ref (o 6)])), (o 1, .inl (g.2.1, 616, .inl (nwF v))), (o 2, .inl (g.2.1, 4312, .inl (pF P))), (o 3, .inl (g.2.1, 201, .inl sq)), (o 4, .inl (g.2.1, 120, .inl tx)), (o 5, .inl (g.2.1, 24, .inl wo)), (o 6, .inl (g.2.1, 72, .inl nu))]) (st1 := [.int (-2)]) E hw [0] rfl (x_runV (rest := []) E hw (c_X8_bad l g o hs bads nos fuls cau whe cnt p fau isw ods ) km_X8_60 kv_X8_bad [0] rfl (by decide) 0 rfl hl.1 rfl rfl (Nat.le_of_ble_eq_true rfl) ⟨Nat.le_of_ble_eq_true rfl, Nat.le_of_ble_eq_true rfl⟩ ⟨Nat.zero_le _, Nat.zero_le _⟩ dX8_speed_20) rfl rfl rfl (fun H locs hw => ?_)
    exact xr_i hQ E hr hw dX8_speed_23 ⟨rfl, rfl⟩
  · refine lv_iload_n hx hb dX8_speed_8 rfl (lv_at hl 2 rfl) ?_
    refine lv_iconst (v := 0) hx hb dX8_speed_9 (by decide) ?_
    refine lv_sipush (v := 200) hx hb dX8_speed_10 (by decide) ?_
    refine x_goR (st1 := [.int (bI (0 ≤ u ∧ u ≤ 200))]) E hw [] rfl (x_runS (rest := []) E hw (c_X8_in l g u 0 200 ) km_X8_45 ks_X8_in [] rfl (by decide) hl.1 rfl rfl (Nat.le_of_ble_eq_true rfl) ⟨Nat.le_of_ble_eq_true rfl, Nat.le_of_ble_eq_true rfl⟩ ⟨Nat.zero_le _, Nat.zero_le _⟩ dX8_speed_13) rfl (fun H locs hw => ?_)
    refine xb_ne (tgt := 24) hx hb dX8_speed_16 (by decide) (fun c2 => ?_) (fun c2 => ?_)
    · exact absurd ⟨c1, c2⟩ hb0
    · refine lv_aload_n hx hb dX8_speed_19 rfl (lv_at hl 0 rfl) ?_
      refine x_go (ws' := [(o 0, .inr (8, [.ref (o 1), .ref (o 2), .int (nI hs), .int (bads + 1), .int nos, .int fuls, .int cau, .int whe, .ref (o 3), .ref (o 4), .int (nI cnt), .int (nI p), .int fau, .int isw, .int ods, .ref (o 5), .ref (o 6)])), (o 1, .inl (g.2.1, 616, .inl (nwF v))), (o 2, .inl (g.2.1, 4312, .inl (pF P))), (o 3, .inl (g.2.1, 201, .inl sq)), (o 4, .inl (g.2.1, 120, .inl tx)), (o 5, .inl (g.2.1, 24, .inl wo)), (o 6, .inl (g.2.1, 72, .inl nu))]) (st1 := [.int (-2)]) E hw [0] rfl (x_runV (rest := []) E hw (c_X8_bad l g o hs bads nos fuls cau whe cnt p fau isw ods ) km_X8_60 kv_X8_bad [0] rfl (by decide) 0 rfl hl.1 rfl rfl (Nat.le_of_ble_eq_true rfl) ⟨Nat.le_of_ble_eq_true rfl, Nat.le_of_ble_eq_true rfl⟩ ⟨Nat.zero_le _, Nat.zero_le _⟩ dX8_speed_20) rfl rfl rfl (fun H locs hw => ?_)
      exact xr_i hQ E hr hw dX8_speed_23 ⟨rfl, rfl⟩

set_option maxRecDepth 100000 in
set_option maxHeartbeats 4000000 in
theorem c_X8_many_ok (l : Launch) (g : xCfg) (o : Nat → Nat) (hs : Nat) (bads : Int32) (nos : Int32) (fuls : Int32) (cau : Int32) (whe : Int32) (cnt : Nat) (p : Nat) (fau : Int32) (isw : Int32) (ods : Int32) (v : SV) (P : Nat → SV) (sq : Nat → Int32) (tx : Nat → Int32) (wo : Nat → Int32) (nu : Nat → Int32) (u : Int32) (len : Nat) (hL1 : 1 ≤ v.1) (hL : v.1 ≤ 200) (hlen : v.2.2.2.2.1 2 = nI len) (hl1 : 1 ≤ len) (hl2 : len ≤ 30) (hQs : ∀ x, x < v.1 → 0 ≤ (lwQ v.2.1 v.2.2.1 (v.2.2.2.2.1 0) len v.1 0 sq) x ∧ (lwQ v.2.1 v.2.2.1 (v.2.2.2.2.1 0) len v.1 0 sq) x ≤ 3600) (hv : 0 ≤ u) (hv2 : u ≤ 99) : Ct l g yX8_many cX8_many 4 (some .int) (xR 3 67) [.ref (o 0), .int u] [(o 0, .inr (8, [.ref (o 1), .ref (o 2), .int (nI hs), .int bads, .int nos, .int fuls, .int cau, .int whe, .ref (o 3), .ref (o 4), .int (nI cnt), .int (nI p), .int fau, .int isw, .int ods, .ref (o 5), .ref (o 6)])), (o 1, .inl (g.2.1, 616, .inl (nwF v))), (o 2, .inl (g.2.1, 4312, .inl (pF P))), (o 3, .inl (g.2.1, 201, .inl sq)), (o 4, .inl (g.2.1, 120, .inl tx)), (o 5, .inl (g.2.1, 24, .inl wo)), (o 6, .inl (g.2.1, 72, .inl nu))] (is1 (some (.int (nI (cntP (lwQ v.2.1 v.2.2.1 (v.2.2.2.2.1 0) len v.1 0 sq) u v.1)))) [(o 0, .inr (8, [.ref (o 1), .ref (o 2), .int (nI hs), .int bads, .int nos, .int fuls, .int cau, .int whe, .ref (o 3), .ref (o 4), .int (nI cnt), .int (nI p), .int fau, .int isw, .int ods, .ref (o 5), .ref (o 6)])), (o 1, .inl (g.2.1, 616, .inl (nwF v))), (o 2, .inl (g.2.1, 4312, .inl (pF P))), (o 3, .inl (g.2.1, 201, .inl (lwQ v.2.1 v.2.2.1 (v.2.2.2.2.1 0) len v.1 0 sq))), (o 4, .inl (g.2.1, 120, .inl tx)), (o 5, .inl (g.2.1, 24, .inl wo)), (o 6, .inl (g.2.1, 72, .inl nu))]) := by
  refine Ct.walk (by decide) (Nat.le_of_ble_eq_true rfl) ?_
  intro p0 e0 s0 m0 below meth c0 A0 ls Q hQ E hr hnm hw hl
  have hx := E.x
  have hb := E.b
  have hl : lv_has ls 4 [(0, .ref (o 0)), (1, .int u)] := hl
  refine lv_iload_n hx hb dX8_many_0 rfl (lv_at hl 1 rfl) ?_
  refine lv_iconst (v := 0) hx hb dX8_many_1 (by decide) ?_
  refine lv_bipush (v := 99) hx hb dX8_many_2 (by decide) ?_
  refine x_goR (st1 := [.int 1]) E hw [] rfl (x_runS (rest := []) E hw (c_X8_in_ok l g u 0 99 hv hv2) km_X8_45 ks_X8_in [] rfl (by decide) hl.1 rfl rfl (Nat.le_of_ble_eq_true rfl) ⟨Nat.le_of_ble_eq_true rfl, Nat.le_of_ble_eq_true rfl⟩ ⟨Nat.zero_le _, Nat.zero_le _⟩ dX8_many_4) rfl (fun H locs hw => ?_)
  refine lv_if_ne (tgt := 15) hx hb dX8_many_7 (by decide) (fun _ => ?_) (fun h => absurd h (by decide))
  refine lv_aload_n hx hb dX8_many_15 rfl (lv_at hl 0 rfl) ?_
  refine x_go (ws' := [(o 0, .inr (8, [.ref (o 1), .ref (o 2), .int (nI hs), .int bads, .int nos, .int fuls, .int cau, .int whe, .ref (o 3), .ref (o 4), .int (nI cnt), .int (nI p), .int fau, .int isw, .int ods, .ref (o 5), .ref (o 6)])), (o 1, .inl (g.2.1, 616, .inl (nwF v))), (o 2, .inl (g.2.1, 4312, .inl (pF P))), (o 3, .inl (g.2.1, 201, .inl (lwQ v.2.1 v.2.2.1 (v.2.2.2.2.1 0) len v.1 0 sq))), (o 4, .inl (g.2.1, 120, .inl tx)), (o 5, .inl (g.2.1, 24, .inl wo)), (o 6, .inl (g.2.1, 72, .inl nu))]) (st1 := []) E hw [0, 1, 3] rfl (x_runV (rest := []) E hw (c_X8_lawfuls l g o hs bads nos fuls cau whe cnt p fau isw ods v sq len (by omega) (by omega) hlen (by omega) (by omega)) km_X8_101 kv_X8_lawfuls [0, 1, 3] rfl (by decide) 0 rfl hl.1 rfl rfl (Nat.le_of_ble_eq_true rfl) ⟨Nat.le_of_ble_eq_true rfl, Nat.le_of_ble_eq_true rfl⟩ ⟨Nat.zero_le _, Nat.zero_le _⟩ dX8_many_16) rfl rfl rfl (fun H locs hw => ?_)
  refine lv_iconst (v := 0) hx hb dX8_many_19 (by decide) ?_
  refine lv_istore_n (lv' := [(2, .int 0), (0, .ref (o 0)), (1, .int u)]) hx hb dX8_many_20 rfl hl (by decide) rfl (fun ls hl => ?_)
  refine lv_iconst (v := 0) hx hb dX8_many_21 (by decide) ?_
  refine lv_istore_n (lv' := [(3, .int 0), (2, .int 0), (0, .ref (o 0)), (1, .int u)]) hx hb dX8_many_22 rfl hl (by decide) rfl (fun ls hl => ?_)
  have lp_23 : ∀ (fuel : Nat) (x : Nat), v.1 - x < fuel → x ≤ v.1 → ∀ (H : Heap) (locs : List Loc) (ls : Array Slot), xW g A0 s0 [(o 0, .inr (8, [.ref (o 1), .ref (o 2), .int (nI hs), .int bads, .int nos, .int fuls, .int cau, .int whe, .ref (o 3), .ref (o 4), .int (nI cnt), .int (nI p), .int fau, .int isw, .int ods, .ref (o 5), .ref (o 6)])), (o 1, .inl (g.2.1, 616, .inl (nwF v))), (o 2, .inl (g.2.1, 4312, .inl (pF P))), (o 3, .inl (g.2.1, 201, .inl (lwQ v.2.1 v.2.2.1 (v.2.2.2.2.1 0) len v.1 0 sq))), (o 4, .inl (g.2.1, 120, .inl tx)), (o 5, .inl (g.2.1, 24, .inl wo)), (o 6, .inl (g.2.1, 72, .inl nu))] H locs → lv_has ls 4 [(3, .int (nI x)), (2, .int (nI (cntP (lwQ v.2.1 v.2.2.1 (v.2.2.2.2.1 0) len v.1 0 sq) u x))), (0, .ref (o 0)), (1, .int u)] → W p0 l e0 (xR 3 67) s0 m0 [.ref (o 0), .int u].toArray below meth c0 H locs 0 0 Q (F0 m0 23 ls []) := by
    intro fuel
    induction fuel with
    | zero => intro x hm; exact absurd hm (Nat.not_lt_zero _)
    | succ fuel ih =>
      intro x hm h1 H locs ls hw hl
      refine lv_iload_n hx hb dX8_many_23 rfl (lv_at hl 0 rfl) ?_
      refine lv_aload_n hx hb dX8_many_24 rfl (lv_at hl 2 rfl) ?_
      refine x_get E hw kf_X8_7 0 rfl rfl dX8_many_25 ?_
      refine lv_iconst (v := 0) hx hb dX8_many_28 (by decide) ?_
      refine x_ld (v := nI v.1) E hw 1 rfl 0 rfl (by omega) (by decide) rfl dX8_many_29 ?_
      refine xn_ge (tgt := 60) hx hb x v.1 rfl rfl (by omega) (by omega) dX8_many_30 (by decide) (fun c_2 => ?_) (fun c_2 => ?_)
      · obtain rfl : x = v.1 := by omega
        refine lv_iload_n hx hb dX8_many_60 rfl (lv_at hl 1 rfl) ?_
        exact xr_i hQ E hr hw dX8_many_61 ⟨rfl, rfl⟩
      · refine lv_iload_n hx hb dX8_many_33 rfl (lv_at hl 1 rfl) ?_
        refine lv_aload_n hx hb dX8_many_34 rfl (lv_at hl 2 rfl) ?_
        refine x_get E hw kf_X8_20 0 rfl rfl dX8_many_35 ?_
        refine lv_iload_n hx hb dX8_many_38 rfl (lv_at hl 0 rfl) ?_
        refine x_ld (v := (lwQ v.2.1 v.2.2.1 (v.2.2.2.2.1 0) len v.1 0 sq) x) E hw 3 rfl x rfl (by omega) (by decide) rfl dX8_many_39 ?_
        obtain ⟨y, hy, hq⟩ := nat_of (hQs x (by omega))
        refine x_goR (st1 := [.int (nI (rtL 15 0 ((lwQ v.2.1 v.2.2.1 (v.2.2.2.2.1 0) len v.1 0 sq) x))), .int (nI (cntP (lwQ v.2.1 v.2.2.1 (v.2.2.2.2.1 0) len v.1 0 sq) u x))]) E hw [] rfl (x_runS (rest := [.int (nI (cntP (lwQ v.2.1 v.2.2.1 (v.2.2.2.2.1 0) len v.1 0 sq) u x))]) E hw (c_X8_root l g ((lwQ v.2.1 v.2.2.1 (v.2.2.2.2.1 0) len v.1 0 sq) x) y hq hy) km_X8_104 ks_X8_root [] rfl (by decide) hl.1 rfl rfl (Nat.le_of_ble_eq_true rfl) ⟨Nat.le_of_ble_eq_true rfl, Nat.le_of_ble_eq_true rfl⟩ ⟨Nat.zero_le _, Nat.zero_le _⟩ dX8_many_40) rfl (fun H locs hw => ?_)
        refine lv_iload_n hx hb dX8_many_43 rfl (lv_at hl 3 rfl) ?_
        refine lv_icmp_ne (tgt := 51) hx hb dX8_many_44 (by decide) (fun ce => ?_) (fun ce => ?_)
        · refine lv_iconst (v := 0) hx hb dX8_many_51 (by decide) ?_
          refine xn_add hx hb (cntP (lwQ v.2.1 v.2.2.1 (v.2.2.2.2.1 0) len v.1 0 sq) u x) 0 rfl rfl dX8_many_52 ?_
          refine x_topi (x' := nI (cntP (lwQ v.2.1 v.2.2.1 (v.2.2.2.2.1 0) len v.1 0 sq) u x)) rfl ?_
          refine lv_istore_n (lv' := [(2, .int (nI (cntP (lwQ v.2.1 v.2.2.1 (v.2.2.2.2.1 0) len v.1 0 sq) u x))), (3, .int (nI x)), (0, .ref (o 0)), (1, .int u)]) hx hb dX8_many_53 rfl hl (by decide) rfl (fun ls hl => ?_)
          refine lv_iinc (v := nI (x + 1)) (lv' := [(3, .int (nI (x + 1))), (2, .int (nI (cntP (lwQ v.2.1 v.2.2.1 (v.2.2.2.2.1 0) len v.1 0 sq) u x))), (0, .ref (o 0)), (1, .int u)]) hx hb dX8_many_54 hl (k := 1) rfl (nI_1 _) (by decide) rfl (fun ls hl => ?_)
          refine lv_goto (tgt := 23) hx hb dX8_many_57 (by decide) ?_
          have hl : lv_has ls 4 [(3, .int (nI (x + 1))), (2, .int (nI (cntP (lwQ v.2.1 v.2.2.1 (v.2.2.2.2.1 0) len v.1 0 sq) u x))), (0, .ref (o 0)), (1, .int u)] := lv_sub hl [0, 1, 2, 3] rfl
          have hl : lv_has ls 4 [(3, .int (nI (x + 1))), (2, .int (nI (cntP (lwQ v.2.1 v.2.2.1 (v.2.2.2.2.1 0) len v.1 0 sq) u (x + 1)))), (0, .ref (o 0)), (1, .int u)] := lv_re hl (by rw [show (nI (cntP (lwQ v.2.1 v.2.2.1 (v.2.2.2.2.1 0) len v.1 0 sq) u x) : Int32) = nI (cntP (lwQ v.2.1 v.2.2.1 (v.2.2.2.2.1 0) len v.1 0 sq) u (x + 1)) from congrArg nI ((cntP_n ce).symm)])
          have hw : xW g A0 s0 [(o 0, .inr (8, [.ref (o 1), .ref (o 2), .int (nI hs), .int bads, .int nos, .int fuls, .int cau, .int whe, .ref (o 3), .ref (o 4), .int (nI cnt), .int (nI p), .int fau, .int isw, .int ods, .ref (o 5), .ref (o 6)])), (o 1, .inl (g.2.1, 616, .inl (nwF v))), (o 2, .inl (g.2.1, 4312, .inl (pF P))), (o 3, .inl (g.2.1, 201, .inl (lwQ v.2.1 v.2.2.1 (v.2.2.2.2.1 0) len v.1 0 sq))), (o 4, .inl (g.2.1, 120, .inl tx)), (o 5, .inl (g.2.1, 24, .inl wo)), (o 6, .inl (g.2.1, 72, .inl nu))] _ _ := hw
          exact ih (x + 1) (by omega) (by omega) _ _ _ hw hl
        · refine lv_iconst (v := 1) hx hb dX8_many_47 (by decide) ?_
          refine lv_goto (tgt := 52) hx hb dX8_many_48 (by decide) ?_
          refine xn_add hx hb (cntP (lwQ v.2.1 v.2.2.1 (v.2.2.2.2.1 0) len v.1 0 sq) u x) 1 rfl rfl dX8_many_52 ?_
          refine lv_istore_n (lv' := [(2, .int (nI (cntP (lwQ v.2.1 v.2.2.1 (v.2.2.2.2.1 0) len v.1 0 sq) u x + 1))), (3, .int (nI x)), (0, .ref (o 0)), (1, .int u)]) hx hb dX8_many_53 rfl hl (by decide) rfl (fun ls hl => ?_)
          refine lv_iinc (v := nI (x + 1)) (lv' := [(3, .int (nI (x + 1))), (2, .int (nI (cntP (lwQ v.2.1 v.2.2.1 (v.2.2.2.2.1 0) len v.1 0 sq) u x + 1))), (0, .ref (o 0)), (1, .int u)]) hx hb dX8_many_54 hl (k := 1) rfl (nI_1 _) (by decide) rfl (fun ls hl => ?_)
          refine lv_goto (tgt := 23) hx hb dX8_many_57 (by decide) ?_
          have hl : lv_has ls 4 [(3, .int (nI (x + 1))), (2, .int (nI (cntP (lwQ v.2.1 v.2.2.1 (v.2.2.2.2.1 0) len v.1 0 sq) u x + 1))), (0, .ref (o 0)), (1, .int u)] := lv_sub hl [0, 1, 2, 3] rfl
          have hl : lv_has ls 4 [(3, .int (nI (x + 1))), (2, .int (nI (cntP (lwQ v.2.1 v.2.2.1 (v.2.2.2.2.1 0) len v.1 0 sq) u (x + 1)))), (0, .ref (o 0)), (1, .int u)] := lv_re hl (by rw [show (nI (cntP (lwQ v.2.1 v.2.2.1 (v.2.2.2.2.1 0) len v.1 0 sq) u x + 1) : Int32) = nI (cntP (lwQ v.2.1 v.2.2.1 (v.2.2.2.2.1 0) len v.1 0 sq) u (x + 1)) from congrArg nI ((cntP_y ce).symm)])
          have hw : xW g A0 s0 [(o 0, .inr (8, [.ref (o 1), .ref (o 2), .int (nI hs), .int bads, .int nos, .int fuls, .int cau, .int whe, .ref (o 3), .ref (o 4), .int (nI cnt), .int (nI p), .int fau, .int isw, .int ods, .ref (o 5), .ref (o 6)])), (o 1, .inl (g.2.1, 616, .inl (nwF v))), (o 2, .inl (g.2.1, 4312, .inl (pF P))), (o 3, .inl (g.2.1, 201, .inl (lwQ v.2.1 v.2.2.1 (v.2.2.2.2.1 0) len v.1 0 sq))), (o 4, .inl (g.2.1, 120, .inl tx)), (o 5, .inl (g.2.1, 24, .inl wo)), (o 6, .inl (g.2.1, 72, .inl nu))] _ _ := hw
          exact ih (x + 1) (by omega) (by omega) _ _ _ hw hl
  have hl : lv_has ls 4 [(3, .int 0), (2, .int 0), (0, .ref (o 0)), (1, .int u)] := lv_sub hl [0, 1, 2, 3] rfl
  have hl : lv_has ls 4 [(3, .int 0), (2, .int (nI (cntP (lwQ v.2.1 v.2.2.1 (v.2.2.2.2.1 0) len v.1 0 sq) u 0))), (0, .ref (o 0)), (1, .int u)] := lv_re hl (by rw [show (0 : Int32) = nI (cntP (lwQ v.2.1 v.2.2.1 (v.2.2.2.2.1 0) len v.1 0 sq) u 0) from congrArg nI rfl])
  have hw : xW g A0 s0 [(o 0, .inr (8, [.ref (o 1), .ref (o 2), .int (nI hs), .int bads, .int nos, .int fuls, .int cau, .int whe, .ref (o 3), .ref (o 4), .int (nI cnt), .int (nI p), .int fau, .int isw, .int ods, .ref (o 5), .ref (o 6)])), (o 1, .inl (g.2.1, 616, .inl (nwF v))), (o 2, .inl (g.2.1, 4312, .inl (pF P))), (o 3, .inl (g.2.1, 201, .inl (lwQ v.2.1 v.2.2.1 (v.2.2.2.2.1 0) len v.1 0 sq))), (o 4, .inl (g.2.1, 120, .inl tx)), (o 5, .inl (g.2.1, 24, .inl wo)), (o 6, .inl (g.2.1, 72, .inl nu))] _ _ := hw
  exact lp_23 ((v.1 - 0) + 1) 0 (Nat.lt_succ_self _) (by omega) _ _ _ hw hl

set_option maxRecDepth 100000 in
set_option maxHeartbeats 4000000 in
theorem c_X8_many_bad (l : Launch) (g : xCfg) (o : Nat → Nat) (hs : Nat) (bads : Int32) (nos : Int32) (fuls : Int32) (cau : Int32) (whe : Int32) (cnt : Nat) (p : Nat) (fau : Int32) (isw : Int32) (ods : Int32) (v : SV) (P : Nat → SV) (sq : Nat → Int32) (tx : Nat → Int32) (wo : Nat → Int32) (nu : Nat → Int32) (u : Int32) (hb0 : ¬ (0 ≤ u ∧ u ≤ 99)) : Ct l g yX8_many cX8_many 4 (some .int) (xR 1 22) [.ref (o 0), .int u] [(o 0, .inr (8, [.ref (o 1), .ref (o 2), .int (nI hs), .int bads, .int nos, .int fuls, .int cau, .int whe, .ref (o 3), .ref (o 4), .int (nI cnt), .int (nI p), .int fau, .int isw, .int ods, .ref (o 5), .ref (o 6)])), (o 1, .inl (g.2.1, 616, .inl (nwF v))), (o 2, .inl (g.2.1, 4312, .inl (pF P))), (o 3, .inl (g.2.1, 201, .inl sq)), (o 4, .inl (g.2.1, 120, .inl tx)), (o 5, .inl (g.2.1, 24, .inl wo)), (o 6, .inl (g.2.1, 72, .inl nu))] (is1 (some (.int (-2))) [(o 0, .inr (8, [.ref (o 1), .ref (o 2), .int (nI hs), .int (bads + 1), .int nos, .int fuls, .int cau, .int whe, .ref (o 3), .ref (o 4), .int (nI cnt), .int (nI p), .int fau, .int isw, .int ods, .ref (o 5), .ref (o 6)])), (o 1, .inl (g.2.1, 616, .inl (nwF v))), (o 2, .inl (g.2.1, 4312, .inl (pF P))), (o 3, .inl (g.2.1, 201, .inl sq)), (o 4, .inl (g.2.1, 120, .inl tx)), (o 5, .inl (g.2.1, 24, .inl wo)), (o 6, .inl (g.2.1, 72, .inl nu))]) := by
  refine Ct.walk (by decide) (Nat.le_of_ble_eq_true rfl) ?_
  intro p0 e0 s0 m0 below meth c0 A0 ls Q hQ E hr hnm hw hl
  have hx := E.x
  have hb := E.b
  have hl : lv_has ls 4 [(0, .ref (o 0)), (1, .int u)] := hl
  refine lv_iload_n hx hb dX8_many_0 rfl (lv_at hl 1 rfl) ?_
  refine lv_iconst (v := 0) hx hb dX8_many_1 (by decide) ?_
  refine lv_bipush (v := 99) hx hb dX8_many_2 (by decide) ?_
  refine x_goR (st1 := [.int (bI (0 ≤ u ∧ u ≤ 99))]) E hw [] rfl (x_runS (rest := []) E hw (c_X8_in l g u 0 99 ) km_X8_45 ks_X8_in [] rfl (by decide) hl.1 rfl rfl (Nat.le_of_ble_eq_true rfl) ⟨Nat.le_of_ble_eq_true rfl, Nat.le_of_ble_eq_true rfl⟩ ⟨Nat.zero_le _, Nat.zero_le _⟩ dX8_many_4) rfl (fun H locs hw => ?_)
  refine xb_ne (tgt := 15) hx hb dX8_many_7 (by decide) (fun c1 => ?_) (fun c1 => ?_)
  · exact absurd c1 hb0
  · refine lv_aload_n hx hb dX8_many_10 rfl (lv_at hl 0 rfl) ?_
    refine x_go (ws' := [(o 0, .inr (8, [.ref (o 1), .ref (o 2), .int (nI hs), .int (bads + 1), .int nos, .int fuls, .int cau, .int whe, .ref (o 3), .ref (o 4), .int (nI cnt), .int (nI p), .int fau, .int isw, .int ods, .ref (o 5), .ref (o 6)])), (o 1, .inl (g.2.1, 616, .inl (nwF v))), (o 2, .inl (g.2.1, 4312, .inl (pF P))), (o 3, .inl (g.2.1, 201, .inl sq)), (o 4, .inl (g.2.1, 120, .inl tx)), (o 5, .inl (g.2.1, 24, .inl wo)), (o 6, .inl (g.2.1, 72, .inl nu))]) (st1 := [.int (-2)]) E hw [0] rfl (x_runV (rest := []) E hw (c_X8_bad l g o hs bads nos fuls cau whe cnt p fau isw ods ) km_X8_60 kv_X8_bad [0] rfl (by decide) 0 rfl hl.1 rfl rfl (Nat.le_of_ble_eq_true rfl) ⟨Nat.le_of_ble_eq_true rfl, Nat.le_of_ble_eq_true rfl⟩ ⟨Nat.zero_le _, Nat.zero_le _⟩ dX8_many_11) rfl rfl rfl (fun H locs hw => ?_)
    exact xr_i hQ E hr hw dX8_many_14 ⟨rfl, rfl⟩

set_option maxRecDepth 100000 in
set_option maxHeartbeats 4000000 in
theorem c_X8_places_ok (l : Launch) (g : xCfg) (o : Nat → Nat) (hs : Nat) (bads : Int32) (nos : Int32) (fuls : Int32) (cau : Int32) (whe : Int32) (cnt : Nat) (p : Nat) (fau : Int32) (isw : Int32) (ods : Int32) (v : SV) (P : Nat → SV) (sq : Nat → Int32) (tx : Nat → Int32) (wo : Nat → Int32) (nu : Nat → Int32) (x : Nat) (u : Int32) (len : Nat) (yq : Nat) (hL1 : 1 ≤ v.1) (hL : v.1 ≤ 200) (hlen : v.2.2.2.2.1 2 = nI len) (hl1 : 1 ≤ len) (hl2 : len ≤ 30) (hQs : ∀ x, x < v.1 → 0 ≤ (lwQ v.2.1 v.2.2.1 (v.2.2.2.2.1 0) len v.1 0 sq) x ∧ (lwQ v.2.1 v.2.2.1 (v.2.2.2.2.1 0) len v.1 0 sq) x ≤ 3600) (hh : hs ≤ 6) (hx0 : x < v.1) (hv : 0 ≤ u) (hv2 : u ≤ 99) (hqy : u * u = nI yq) (hyq : yq < 2 ^ 30) : Ct l g yX8_places cX8_places 3 (some .int) (xR 6 132) [.ref (o 0), .int (nI x), .int u] [(o 0, .inr (8, [.ref (o 1), .ref (o 2), .int (nI hs), .int bads, .int nos, .int fuls, .int cau, .int whe, .ref (o 3), .ref (o 4), .int (nI cnt), .int (nI p), .int fau, .int isw, .int ods, .ref (o 5), .ref (o 6)])), (o 1, .inl (g.2.1, 616, .inl (nwF v))), (o 2, .inl (g.2.1, 4312, .inl (pF P))), (o 3, .inl (g.2.1, 201, .inl sq)), (o 4, .inl (g.2.1, 120, .inl tx)), (o 5, .inl (g.2.1, 24, .inl wo)), (o 6, .inl (g.2.1, 72, .inl nu))] (is1 (some (.int ((supT v.1 v.2.2.2.2.1 (lwQ v.2.1 v.2.2.1 (v.2.2.2.2.1 0) len v.1 0 sq) (plT x u v.2.2.2.2.2)).2.2.1))) [(o 0, .inr (8, [.ref (o 1), .ref (o 2), .int (nI (min 6 (hs + 1))), .int bads, .int nos, .int fuls, .int cau, .int whe, .ref (o 3), .ref (o 4), .int (nI cnt), .int (nI p), .int fau, .int isw, .int ods, .ref (o 5), .ref (o 6)])), (o 1, .inl (g.2.1, 616, .inl (nwF (trS (supT v.1 v.2.2.2.2.1 (lwQ v.2.1 v.2.2.1 (v.2.2.2.2.1 0) len v.1 0 sq) (plT x u v.2.2.2.2.2)) v)))), (o 2, .inl (g.2.1, 4312, .inl (pF (ntP P hs v)))), (o 3, .inl (g.2.1, 201, .inl (lwQ v.2.1 v.2.2.1 (v.2.2.2.2.1 0) len v.1 0 sq))), (o 4, .inl (g.2.1, 120, .inl tx)), (o 5, .inl (g.2.1, 24, .inl wo)), (o 6, .inl (g.2.1, 72, .inl nu))]) := by
  refine Ct.walk (by decide) (Nat.le_of_ble_eq_true rfl) ?_
  intro p0 e0 s0 m0 below meth c0 A0 ls Q hQ E hr hnm hw hl
  have hx := E.x
  have hb := E.b
  have hl : lv_has ls 3 [(0, .ref (o 0)), (1, .int (nI x)), (2, .int u)] := hl
  refine lv_aload_n hx hb dX8_places_0 rfl (lv_at hl 0 rfl) ?_
  refine lv_iload_n hx hb dX8_places_1 rfl (lv_at hl 1 rfl) ?_
  refine x_goR (st1 := [.int 1]) E hw [0, 1] rfl (x_runV (rest := []) E hw (c_X8_isCell_ok l g o hs bads nos fuls cau whe cnt p fau isw ods v x (by omega) (by omega)) km_X8_70 kv_X8_isCell [0, 1] rfl (by decide) 0 rfl hl.1 rfl rfl (Nat.le_of_ble_eq_true rfl) ⟨Nat.le_of_ble_eq_true rfl, Nat.le_of_ble_eq_true rfl⟩ ⟨Nat.zero_le _, Nat.zero_le _⟩ dX8_places_2) rfl (fun H locs hw => ?_)
  refine lv_if_eq (tgt := 18) hx hb dX8_places_5 (by decide) (fun h => absurd h (by decide)) (fun _ => ?_)
  refine lv_iload_n hx hb dX8_places_8 rfl (lv_at hl 2 rfl) ?_
  refine lv_iconst (v := 0) hx hb dX8_places_9 (by decide) ?_
  refine lv_bipush (v := 99) hx hb dX8_places_10 (by decide) ?_
  refine x_goR (st1 := [.int 1]) E hw [] rfl (x_runS (rest := []) E hw (c_X8_in_ok l g u 0 99 hv hv2) km_X8_45 ks_X8_in [] rfl (by decide) hl.1 rfl rfl (Nat.le_of_ble_eq_true rfl) ⟨Nat.le_of_ble_eq_true rfl, Nat.le_of_ble_eq_true rfl⟩ ⟨Nat.zero_le _, Nat.zero_le _⟩ dX8_places_12) rfl (fun H locs hw => ?_)
  refine lv_if_ne (tgt := 23) hx hb dX8_places_15 (by decide) (fun _ => ?_) (fun h => absurd h (by decide))
  refine lv_aload_n hx hb dX8_places_23 rfl (lv_at hl 0 rfl) ?_
  refine x_go (ws' := [(o 0, .inr (8, [.ref (o 1), .ref (o 2), .int (nI (min 6 (hs + 1))), .int bads, .int nos, .int fuls, .int cau, .int whe, .ref (o 3), .ref (o 4), .int (nI cnt), .int (nI p), .int fau, .int isw, .int ods, .ref (o 5), .ref (o 6)])), (o 1, .inl (g.2.1, 616, .inl (nwF v))), (o 2, .inl (g.2.1, 4312, .inl (pF (ntP P hs v)))), (o 3, .inl (g.2.1, 201, .inl sq)), (o 4, .inl (g.2.1, 120, .inl tx)), (o 5, .inl (g.2.1, 24, .inl wo)), (o 6, .inl (g.2.1, 72, .inl nu))]) (st1 := []) E hw [0, 1, 2] rfl (x_runV (rest := []) E hw (c_X8_notes l g o hs bads nos fuls cau whe cnt p fau isw ods v P (by omega)) km_X8_64 kv_X8_notes [0, 1, 2] rfl (by decide) 0 rfl hl.1 rfl rfl (Nat.le_of_ble_eq_true rfl) ⟨Nat.le_of_ble_eq_true rfl, Nat.le_of_ble_eq_true rfl⟩ ⟨Nat.zero_le _, Nat.zero_le _⟩ dX8_places_24) rfl rfl rfl (fun H locs hw => ?_)
  refine lv_aload_n hx hb dX8_places_27 rfl (lv_at hl 0 rfl) ?_
  refine x_get E hw kf_X8_7 0 rfl rfl dX8_places_28 ?_
  refine lv_bipush (v := 8) hx hb dX8_places_31 (by decide) ?_
  refine lv_iload_n hx hb dX8_places_33 rfl (lv_at hl 1 rfl) ?_
  refine x_ist E hw 1 rfl 8 rfl (by omega) (by decide) (ws' := [(o 0, .inr (8, [.ref (o 1), .ref (o 2), .int (nI (min 6 (hs + 1))), .int bads, .int nos, .int fuls, .int cau, .int whe, .ref (o 3), .ref (o 4), .int (nI cnt), .int (nI p), .int fau, .int isw, .int ods, .ref (o 5), .ref (o 6)])), (o 1, .inl (g.2.1, 616, .inl (upd (nwF v) 8 (nI x)))), (o 2, .inl (g.2.1, 4312, .inl (pF (ntP P hs v)))), (o 3, .inl (g.2.1, 201, .inl sq)), (o 4, .inl (g.2.1, 120, .inl tx)), (o 5, .inl (g.2.1, 24, .inl wo)), (o 6, .inl (g.2.1, 72, .inl nu))]) rfl dX8_places_34 (fun H locs hw => ?_)
  have hw := hw.arr (f' := (nwF (v.1, v.2.1, v.2.2.1, v.2.2.2.1, v.2.2.2.2.1, x, v.2.2.2.2.2.2.1, v.2.2.2.2.2.2.2.1, v.2.2.2.2.2.2.2.2.1, v.2.2.2.2.2.2.2.2.2.1, v.2.2.2.2.2.2.2.2.2.2.1, v.2.2.2.2.2.2.2.2.2.2.2.1, v.2.2.2.2.2.2.2.2.2.2.2.2))) (ws' := [(o 0, .inr (8, [.ref (o 1), .ref (o 2), .int (nI (min 6 (hs + 1))), .int bads, .int nos, .int fuls, .int cau, .int whe, .ref (o 3), .ref (o 4), .int (nI cnt), .int (nI p), .int fau, .int isw, .int ods, .ref (o 5), .ref (o 6)])), (o 1, .inl (g.2.1, 616, .inl (nwF (v.1, v.2.1, v.2.2.1, v.2.2.2.1, v.2.2.2.2.1, x, v.2.2.2.2.2.2.1, v.2.2.2.2.2.2.2.1, v.2.2.2.2.2.2.2.2.1, v.2.2.2.2.2.2.2.2.2.1, v.2.2.2.2.2.2.2.2.2.2.1, v.2.2.2.2.2.2.2.2.2.2.2.1, v.2.2.2.2.2.2.2.2.2.2.2.2)))), (o 2, .inl (g.2.1, 4312, .inl (pF (ntP P hs v)))), (o 3, .inl (g.2.1, 201, .inl sq)), (o 4, .inl (g.2.1, 120, .inl tx)), (o 5, .inl (g.2.1, 24, .inl wo)), (o 6, .inl (g.2.1, 72, .inl nu))]) 1 rfl (fun j _ => nwU_8 _ _ j) rfl
  refine lv_aload_n hx hb dX8_places_35 rfl (lv_at hl 0 rfl) ?_
  refine x_get E hw kf_X8_7 0 rfl rfl dX8_places_36 ?_
  refine lv_bipush (v := 9) hx hb dX8_places_39 (by decide) ?_
  refine lv_iload_n hx hb dX8_places_41 rfl (lv_at hl 2 rfl) ?_
  refine lv_iload_n hx hb dX8_places_42 rfl (lv_at hl 2 rfl) ?_
  refine lv_imul hx hb dX8_places_43 ?_
  refine x_ist E hw 1 rfl 9 rfl (by omega) (by decide) (ws' := [(o 0, .inr (8, [.ref (o 1), .ref (o 2), .int (nI (min 6 (hs + 1))), .int bads, .int nos, .int fuls, .int cau, .int whe, .ref (o 3), .ref (o 4), .int (nI cnt), .int (nI p), .int fau, .int isw, .int ods, .ref (o 5), .ref (o 6)])), (o 1, .inl (g.2.1, 616, .inl (upd (nwF (v.1, v.2.1, v.2.2.1, v.2.2.2.1, v.2.2.2.2.1, x, v.2.2.2.2.2.2.1, v.2.2.2.2.2.2.2.1, v.2.2.2.2.2.2.2.2.1, v.2.2.2.2.2.2.2.2.2.1, v.2.2.2.2.2.2.2.2.2.2.1, v.2.2.2.2.2.2.2.2.2.2.2.1, v.2.2.2.2.2.2.2.2.2.2.2.2)) 9 (u * u)))), (o 2, .inl (g.2.1, 4312, .inl (pF (ntP P hs v)))), (o 3, .inl (g.2.1, 201, .inl sq)), (o 4, .inl (g.2.1, 120, .inl tx)), (o 5, .inl (g.2.1, 24, .inl wo)), (o 6, .inl (g.2.1, 72, .inl nu))]) rfl dX8_places_44 (fun H locs hw => ?_)
  have hw := hw.arr (f' := (nwF (v.1, v.2.1, v.2.2.1, v.2.2.2.1, v.2.2.2.2.1, x, u * u, v.2.2.2.2.2.2.2.1, v.2.2.2.2.2.2.2.2.1, v.2.2.2.2.2.2.2.2.2.1, v.2.2.2.2.2.2.2.2.2.2.1, v.2.2.2.2.2.2.2.2.2.2.2.1, v.2.2.2.2.2.2.2.2.2.2.2.2))) (ws' := [(o 0, .inr (8, [.ref (o 1), .ref (o 2), .int (nI (min 6 (hs + 1))), .int bads, .int nos, .int fuls, .int cau, .int whe, .ref (o 3), .ref (o 4), .int (nI cnt), .int (nI p), .int fau, .int isw, .int ods, .ref (o 5), .ref (o 6)])), (o 1, .inl (g.2.1, 616, .inl (nwF (v.1, v.2.1, v.2.2.1, v.2.2.2.1, v.2.2.2.2.1, x, u * u, v.2.2.2.2.2.2.2.1, v.2.2.2.2.2.2.2.2.1, v.2.2.2.2.2.2.2.2.2.1, v.2.2.2.2.2.2.2.2.2.2.1, v.2.2.2.2.2.2.2.2.2.2.2.1, v.2.2.2.2.2.2.2.2.2.2.2.2)))), (o 2, .inl (g.2.1, 4312, .inl (pF (ntP P hs v)))), (o 3, .inl (g.2.1, 201, .inl sq)), (o 4, .inl (g.2.1, 120, .inl tx)), (o 5, .inl (g.2.1, 24, .inl wo)), (o 6, .inl (g.2.1, 72, .inl nu))]) 1 rfl (fun j _ => nwU_9 _ _ j) rfl
  refine lv_aload_n hx hb dX8_places_45 rfl (lv_at hl 0 rfl) ?_
  refine x_get E hw kf_X8_7 0 rfl rfl dX8_places_46 ?_
  refine lv_bipush (v := 10) hx hb dX8_places_49 (by decide) ?_
  refine lv_iconst (v := 0) hx hb dX8_places_51 (by decide) ?_
  refine x_ist E hw 1 rfl 10 rfl (by omega) (by decide) (ws' := [(o 0, .inr (8, [.ref (o 1), .ref (o 2), .int (nI (min 6 (hs + 1))), .int bads, .int nos, .int fuls, .int cau, .int whe, .ref (o 3), .ref (o 4), .int (nI cnt), .int (nI p), .int fau, .int isw, .int ods, .ref (o 5), .ref (o 6)])), (o 1, .inl (g.2.1, 616, .inl (upd (nwF (v.1, v.2.1, v.2.2.1, v.2.2.2.1, v.2.2.2.2.1, x, u * u, v.2.2.2.2.2.2.2.1, v.2.2.2.2.2.2.2.2.1, v.2.2.2.2.2.2.2.2.2.1, v.2.2.2.2.2.2.2.2.2.2.1, v.2.2.2.2.2.2.2.2.2.2.2.1, v.2.2.2.2.2.2.2.2.2.2.2.2)) 10 0))), (o 2, .inl (g.2.1, 4312, .inl (pF (ntP P hs v)))), (o 3, .inl (g.2.1, 201, .inl sq)), (o 4, .inl (g.2.1, 120, .inl tx)), (o 5, .inl (g.2.1, 24, .inl wo)), (o 6, .inl (g.2.1, 72, .inl nu))]) rfl dX8_places_52 (fun H locs hw => ?_)
  have hw := hw.arr (f' := (nwF (v.1, v.2.1, v.2.2.1, v.2.2.2.1, v.2.2.2.2.1, x, u * u, 0, v.2.2.2.2.2.2.2.2.1, v.2.2.2.2.2.2.2.2.2.1, v.2.2.2.2.2.2.2.2.2.2.1, v.2.2.2.2.2.2.2.2.2.2.2.1, v.2.2.2.2.2.2.2.2.2.2.2.2))) (ws' := [(o 0, .inr (8, [.ref (o 1), .ref (o 2), .int (nI (min 6 (hs + 1))), .int bads, .int nos, .int fuls, .int cau, .int whe, .ref (o 3), .ref (o 4), .int (nI cnt), .int (nI p), .int fau, .int isw, .int ods, .ref (o 5), .ref (o 6)])), (o 1, .inl (g.2.1, 616, .inl (nwF (v.1, v.2.1, v.2.2.1, v.2.2.2.1, v.2.2.2.2.1, x, u * u, 0, v.2.2.2.2.2.2.2.2.1, v.2.2.2.2.2.2.2.2.2.1, v.2.2.2.2.2.2.2.2.2.2.1, v.2.2.2.2.2.2.2.2.2.2.2.1, v.2.2.2.2.2.2.2.2.2.2.2.2)))), (o 2, .inl (g.2.1, 4312, .inl (pF (ntP P hs v)))), (o 3, .inl (g.2.1, 201, .inl sq)), (o 4, .inl (g.2.1, 120, .inl tx)), (o 5, .inl (g.2.1, 24, .inl wo)), (o 6, .inl (g.2.1, 72, .inl nu))]) 1 rfl (fun j _ => nwU_10 _ _ j) rfl
  refine lv_aload_n hx hb dX8_places_53 rfl (lv_at hl 0 rfl) ?_
  refine x_get E hw kf_X8_7 0 rfl rfl dX8_places_54 ?_
  refine lv_bipush (v := 11) hx hb dX8_places_57 (by decide) ?_
  refine lv_sipush (v := 1000) hx hb dX8_places_59 (by decide) ?_
  refine lv_iload_n hx hb dX8_places_62 rfl (lv_at hl 1 rfl) ?_
  refine xn_mul hx hb 1000 x rfl rfl dX8_places_63 ?_
  refine x_ist E hw 1 rfl 11 rfl (by omega) (by decide) (ws' := [(o 0, .inr (8, [.ref (o 1), .ref (o 2), .int (nI (min 6 (hs + 1))), .int bads, .int nos, .int fuls, .int cau, .int whe, .ref (o 3), .ref (o 4), .int (nI cnt), .int (nI p), .int fau, .int isw, .int ods, .ref (o 5), .ref (o 6)])), (o 1, .inl (g.2.1, 616, .inl (upd (nwF (v.1, v.2.1, v.2.2.1, v.2.2.2.1, v.2.2.2.2.1, x, u * u, 0, v.2.2.2.2.2.2.2.2.1, v.2.2.2.2.2.2.2.2.2.1, v.2.2.2.2.2.2.2.2.2.2.1, v.2.2.2.2.2.2.2.2.2.2.2.1, v.2.2.2.2.2.2.2.2.2.2.2.2)) 11 (nI (1000 * x))))), (o 2, .inl (g.2.1, 4312, .inl (pF (ntP P hs v)))), (o 3, .inl (g.2.1, 201, .inl sq)), (o 4, .inl (g.2.1, 120, .inl tx)), (o 5, .inl (g.2.1, 24, .inl wo)), (o 6, .inl (g.2.1, 72, .inl nu))]) rfl dX8_places_64 (fun H locs hw => ?_)
  have hw := hw.arr (f' := (nwF (v.1, v.2.1, v.2.2.1, v.2.2.2.1, v.2.2.2.2.1, x, u * u, 0, nI (1000 * x), v.2.2.2.2.2.2.2.2.2.1, v.2.2.2.2.2.2.2.2.2.2.1, v.2.2.2.2.2.2.2.2.2.2.2.1, v.2.2.2.2.2.2.2.2.2.2.2.2))) (ws' := [(o 0, .inr (8, [.ref (o 1), .ref (o 2), .int (nI (min 6 (hs + 1))), .int bads, .int nos, .int fuls, .int cau, .int whe, .ref (o 3), .ref (o 4), .int (nI cnt), .int (nI p), .int fau, .int isw, .int ods, .ref (o 5), .ref (o 6)])), (o 1, .inl (g.2.1, 616, .inl (nwF (v.1, v.2.1, v.2.2.1, v.2.2.2.1, v.2.2.2.2.1, x, u * u, 0, nI (1000 * x), v.2.2.2.2.2.2.2.2.2.1, v.2.2.2.2.2.2.2.2.2.2.1, v.2.2.2.2.2.2.2.2.2.2.2.1, v.2.2.2.2.2.2.2.2.2.2.2.2)))), (o 2, .inl (g.2.1, 4312, .inl (pF (ntP P hs v)))), (o 3, .inl (g.2.1, 201, .inl sq)), (o 4, .inl (g.2.1, 120, .inl tx)), (o 5, .inl (g.2.1, 24, .inl wo)), (o 6, .inl (g.2.1, 72, .inl nu))]) 1 rfl (fun j _ => nwU_11 _ _ j) rfl
  refine lv_aload_n hx hb dX8_places_65 rfl (lv_at hl 0 rfl) ?_
  refine x_get E hw kf_X8_7 0 rfl rfl dX8_places_66 ?_
  refine lv_bipush (v := 12) hx hb dX8_places_69 (by decide) ?_
  refine lv_sipush (v := 1000) hx hb dX8_places_71 (by decide) ?_
  refine lv_iload_n hx hb dX8_places_74 rfl (lv_at hl 1 rfl) ?_
  refine xn_mul hx hb 1000 x rfl rfl dX8_places_75 ?_
  refine x_ist E hw 1 rfl 12 rfl (by omega) (by decide) (ws' := [(o 0, .inr (8, [.ref (o 1), .ref (o 2), .int (nI (min 6 (hs + 1))), .int bads, .int nos, .int fuls, .int cau, .int whe, .ref (o 3), .ref (o 4), .int (nI cnt), .int (nI p), .int fau, .int isw, .int ods, .ref (o 5), .ref (o 6)])), (o 1, .inl (g.2.1, 616, .inl (upd (nwF (v.1, v.2.1, v.2.2.1, v.2.2.2.1, v.2.2.2.2.1, x, u * u, 0, nI (1000 * x), v.2.2.2.2.2.2.2.2.2.1, v.2.2.2.2.2.2.2.2.2.2.1, v.2.2.2.2.2.2.2.2.2.2.2.1, v.2.2.2.2.2.2.2.2.2.2.2.2)) 12 (nI (1000 * x))))), (o 2, .inl (g.2.1, 4312, .inl (pF (ntP P hs v)))), (o 3, .inl (g.2.1, 201, .inl sq)), (o 4, .inl (g.2.1, 120, .inl tx)), (o 5, .inl (g.2.1, 24, .inl wo)), (o 6, .inl (g.2.1, 72, .inl nu))]) rfl dX8_places_76 (fun H locs hw => ?_)
  have hw := hw.arr (f' := (nwF (v.1, v.2.1, v.2.2.1, v.2.2.2.1, v.2.2.2.2.1, x, u * u, 0, nI (1000 * x), nI (1000 * x), v.2.2.2.2.2.2.2.2.2.2.1, v.2.2.2.2.2.2.2.2.2.2.2.1, v.2.2.2.2.2.2.2.2.2.2.2.2))) (ws' := [(o 0, .inr (8, [.ref (o 1), .ref (o 2), .int (nI (min 6 (hs + 1))), .int bads, .int nos, .int fuls, .int cau, .int whe, .ref (o 3), .ref (o 4), .int (nI cnt), .int (nI p), .int fau, .int isw, .int ods, .ref (o 5), .ref (o 6)])), (o 1, .inl (g.2.1, 616, .inl (nwF (v.1, v.2.1, v.2.2.1, v.2.2.2.1, v.2.2.2.2.1, x, u * u, 0, nI (1000 * x), nI (1000 * x), v.2.2.2.2.2.2.2.2.2.2.1, v.2.2.2.2.2.2.2.2.2.2.2.1, v.2.2.2.2.2.2.2.2.2.2.2.2)))), (o 2, .inl (g.2.1, 4312, .inl (pF (ntP P hs v)))), (o 3, .inl (g.2.1, 201, .inl sq)), (o 4, .inl (g.2.1, 120, .inl tx)), (o 5, .inl (g.2.1, 24, .inl wo)), (o 6, .inl (g.2.1, 72, .inl nu))]) 1 rfl (fun j _ => nwU_12 _ _ j) rfl
  refine lv_aload_n hx hb dX8_places_77 rfl (lv_at hl 0 rfl) ?_
  refine x_go (ws' := [(o 0, .inr (8, [.ref (o 1), .ref (o 2), .int (nI (min 6 (hs + 1))), .int bads, .int nos, .int fuls, .int cau, .int whe, .ref (o 3), .ref (o 4), .int (nI cnt), .int (nI p), .int fau, .int isw, .int ods, .ref (o 5), .ref (o 6)])), (o 1, .inl (g.2.1, 616, .inl (nwF (trS (supT v.1 v.2.2.2.2.1 (lwQ v.2.1 v.2.2.1 (v.2.2.2.2.1 0) len v.1 0 sq) (x, u * u, 0, nI (1000 * x), nI (1000 * x), v.2.2.2.2.2.2.2.2.2.2.1, v.2.2.2.2.2.2.2.2.2.2.2.1, v.2.2.2.2.2.2.2.2.2.2.2.2)) (v.1, v.2.1, v.2.2.1, v.2.2.2.1, v.2.2.2.2.1, x, u * u, 0, nI (1000 * x), nI (1000 * x), v.2.2.2.2.2.2.2.2.2.2.1, v.2.2.2.2.2.2.2.2.2.2.2.1, v.2.2.2.2.2.2.2.2.2.2.2.2))))), (o 2, .inl (g.2.1, 4312, .inl (pF (ntP P hs v)))), (o 3, .inl (g.2.1, 201, .inl (if 0 = 3 then sq else lwQ v.2.1 v.2.2.1 (v.2.2.2.2.1 0) len v.1 0 sq))), (o 4, .inl (g.2.1, 120, .inl tx)), (o 5, .inl (g.2.1, 24, .inl wo)), (o 6, .inl (g.2.1, 72, .inl nu))]) (st1 := []) E hw [0, 1, 3] rfl (x_runV (rest := []) E hw (c_X8_supervises l g o (min 6 (hs + 1)) bads nos fuls cau whe cnt p fau isw ods (v.1, v.2.1, v.2.2.1, v.2.2.2.1, v.2.2.2.2.1, x, u * u, 0, nI (1000 * x), nI (1000 * x), v.2.2.2.2.2.2.2.2.2.2.1, v.2.2.2.2.2.2.2.2.2.2.2.1, v.2.2.2.2.2.2.2.2.2.2.2.2) sq len yq (by omega) (by omega) hlen (by omega) (by omega) hQs hqy hyq) km_X8_128 kv_X8_supervises [0, 1, 3] rfl (by decide) 0 rfl hl.1 rfl rfl (Nat.le_of_ble_eq_true rfl) ⟨Nat.le_of_ble_eq_true rfl, Nat.le_of_ble_eq_true rfl⟩ ⟨Nat.zero_le _, Nat.zero_le _⟩ dX8_places_78) rfl rfl rfl (fun H locs hw => ?_)
  refine lv_aload_n hx hb dX8_places_81 rfl (lv_at hl 0 rfl) ?_
  refine x_get E hw kf_X8_7 0 rfl rfl dX8_places_82 ?_
  refine lv_bipush (v := 10) hx hb dX8_places_85 (by decide) ?_
  refine x_ld (v := (trS (supT v.1 v.2.2.2.2.1 (lwQ v.2.1 v.2.2.1 (v.2.2.2.2.1 0) len v.1 0 sq) (x, u * u, 0, nI (1000 * x), nI (1000 * x), v.2.2.2.2.2.2.2.2.2.2.1, v.2.2.2.2.2.2.2.2.2.2.2.1, v.2.2.2.2.2.2.2.2.2.2.2.2)) (v.1, v.2.1, v.2.2.1, v.2.2.2.1, v.2.2.2.2.1, x, u * u, 0, nI (1000 * x), nI (1000 * x), v.2.2.2.2.2.2.2.2.2.2.1, v.2.2.2.2.2.2.2.2.2.2.2.1, v.2.2.2.2.2.2.2.2.2.2.2.2)).2.2.2.2.2.2.2.1) E hw 1 rfl 10 rfl (by omega) (by decide) rfl dX8_places_87 ?_
  exact xr_i hQ E hr hw dX8_places_88 ⟨rfl, rfl⟩

set_option maxRecDepth 100000 in
set_option maxHeartbeats 4000000 in
theorem c_X8_places_bad (l : Launch) (g : xCfg) (o : Nat → Nat) (hs : Nat) (bads : Int32) (nos : Int32) (fuls : Int32) (cau : Int32) (whe : Int32) (cnt : Nat) (p : Nat) (fau : Int32) (isw : Int32) (ods : Int32) (v : SV) (P : Nat → SV) (sq : Nat → Int32) (tx : Nat → Int32) (wo : Nat → Int32) (nu : Nat → Int32) (x : Int32) (u : Int32) (hL1 : 1 ≤ v.1) (hb0 : ¬ (inL v.1 x ∧ (0 ≤ u ∧ u ≤ 99))) : Ct l g yX8_places cX8_places 3 (some .int) (xR 2 43) [.ref (o 0), .int x, .int u] [(o 0, .inr (8, [.ref (o 1), .ref (o 2), .int (nI hs), .int bads, .int nos, .int fuls, .int cau, .int whe, .ref (o 3), .ref (o 4), .int (nI cnt), .int (nI p), .int fau, .int isw, .int ods, .ref (o 5), .ref (o 6)])), (o 1, .inl (g.2.1, 616, .inl (nwF v))), (o 2, .inl (g.2.1, 4312, .inl (pF P))), (o 3, .inl (g.2.1, 201, .inl sq)), (o 4, .inl (g.2.1, 120, .inl tx)), (o 5, .inl (g.2.1, 24, .inl wo)), (o 6, .inl (g.2.1, 72, .inl nu))] (is1 (some (.int (-2))) [(o 0, .inr (8, [.ref (o 1), .ref (o 2), .int (nI hs), .int (bads + 1), .int nos, .int fuls, .int cau, .int whe, .ref (o 3), .ref (o 4), .int (nI cnt), .int (nI p), .int fau, .int isw, .int ods, .ref (o 5), .ref (o 6)])), (o 1, .inl (g.2.1, 616, .inl (nwF v))), (o 2, .inl (g.2.1, 4312, .inl (pF P))), (o 3, .inl (g.2.1, 201, .inl sq)), (o 4, .inl (g.2.1, 120, .inl tx)), (o 5, .inl (g.2.1, 24, .inl wo)), (o 6, .inl (g.2.1, 72, .inl nu))]) := by
  refine Ct.walk (by decide) (Nat.le_of_ble_eq_true rfl) ?_
  intro p0 e0 s0 m0 below meth c0 A0 ls Q hQ E hr hnm hw hl
  have hx := E.x
  have hb := E.b
  have hl : lv_has ls 3 [(0, .ref (o 0)), (1, .int x), (2, .int u)] := hl
  refine lv_aload_n hx hb dX8_places_0 rfl (lv_at hl 0 rfl) ?_
  refine lv_iload_n hx hb dX8_places_1 rfl (lv_at hl 1 rfl) ?_
  refine x_goR (st1 := [.int (bI (0 ≤ x ∧ x ≤ nI (v.1 - 1)))]) E hw [0, 1] rfl (x_runV (rest := []) E hw (c_X8_isCell l g o hs bads nos fuls cau whe cnt p fau isw ods v x (by omega)) km_X8_70 kv_X8_isCell [0, 1] rfl (by decide) 0 rfl hl.1 rfl rfl (Nat.le_of_ble_eq_true rfl) ⟨Nat.le_of_ble_eq_true rfl, Nat.le_of_ble_eq_true rfl⟩ ⟨Nat.zero_le _, Nat.zero_le _⟩ dX8_places_2) rfl (fun H locs hw => ?_)
  refine xb_eq (tgt := 18) hx hb dX8_places_5 (by decide) (fun c1 => ?_) (fun c1 => ?_)
  · refine lv_aload_n hx hb dX8_places_18 rfl (lv_at hl 0 rfl) ?_
    refine x_go (ws' := [(o 0, .inr (8, [.ref (o 1), .ref (o 2), .int (nI hs), .int (bads + 1), .int nos, .int fuls, .int cau, .int whe, .ref (o 3), .ref (o 4), .int (nI cnt), .int (nI p), .int fau, .int isw, .int ods, .ref (o 5), .ref (o 6)])), (o 1, .inl (g.2.1, 616, .inl (nwF v))), (o 2, .inl (g.2.1, 4312, .inl (pF P))), (o 3, .inl (g.2.1, 201, .inl sq)), (o 4, .inl (g.2.1, 120, .inl tx)), (o 5, .inl (g.2.1, 24, .inl wo)), (o 6, .inl (g.2.1, 72, .inl nu))]) (st1 := [.int (-2)]) E hw [0] rfl (x_runV (rest := []) E hw (c_X8_bad l g o hs bads nos fuls cau whe cnt p fau isw ods ) km_X8_60 kv_X8_bad [0] rfl (by decide) 0 rfl hl.1 rfl rfl (Nat.le_of_ble_eq_true rfl) ⟨Nat.le_of_ble_eq_true rfl, Nat.le_of_ble_eq_true rfl⟩ ⟨Nat.zero_le _, Nat.zero_le _⟩ dX8_places_19) rfl rfl rfl (fun H locs hw => ?_)
    exact xr_i hQ E hr hw dX8_places_22 ⟨rfl, rfl⟩
  · refine lv_iload_n hx hb dX8_places_8 rfl (lv_at hl 2 rfl) ?_
    refine lv_iconst (v := 0) hx hb dX8_places_9 (by decide) ?_
    refine lv_bipush (v := 99) hx hb dX8_places_10 (by decide) ?_
    refine x_goR (st1 := [.int (bI (0 ≤ u ∧ u ≤ 99))]) E hw [] rfl (x_runS (rest := []) E hw (c_X8_in l g u 0 99 ) km_X8_45 ks_X8_in [] rfl (by decide) hl.1 rfl rfl (Nat.le_of_ble_eq_true rfl) ⟨Nat.le_of_ble_eq_true rfl, Nat.le_of_ble_eq_true rfl⟩ ⟨Nat.zero_le _, Nat.zero_le _⟩ dX8_places_12) rfl (fun H locs hw => ?_)
    refine xb_ne (tgt := 23) hx hb dX8_places_15 (by decide) (fun c2 => ?_) (fun c2 => ?_)
    · exact absurd ⟨c1, c2⟩ hb0
    · refine lv_aload_n hx hb dX8_places_18 rfl (lv_at hl 0 rfl) ?_
      refine x_go (ws' := [(o 0, .inr (8, [.ref (o 1), .ref (o 2), .int (nI hs), .int (bads + 1), .int nos, .int fuls, .int cau, .int whe, .ref (o 3), .ref (o 4), .int (nI cnt), .int (nI p), .int fau, .int isw, .int ods, .ref (o 5), .ref (o 6)])), (o 1, .inl (g.2.1, 616, .inl (nwF v))), (o 2, .inl (g.2.1, 4312, .inl (pF P))), (o 3, .inl (g.2.1, 201, .inl sq)), (o 4, .inl (g.2.1, 120, .inl tx)), (o 5, .inl (g.2.1, 24, .inl wo)), (o 6, .inl (g.2.1, 72, .inl nu))]) (st1 := [.int (-2)]) E hw [0] rfl (x_runV (rest := []) E hw (c_X8_bad l g o hs bads nos fuls cau whe cnt p fau isw ods ) km_X8_60 kv_X8_bad [0] rfl (by decide) 0 rfl hl.1 rfl rfl (Nat.le_of_ble_eq_true rfl) ⟨Nat.le_of_ble_eq_true rfl, Nat.le_of_ble_eq_true rfl⟩ ⟨Nat.zero_le _, Nat.zero_le _⟩ dX8_places_19) rfl rfl rfl (fun H locs hw => ?_)
      exact xr_i hQ E hr hw dX8_places_22 ⟨rfl, rfl⟩

set_option maxRecDepth 100000 in
set_option maxHeartbeats 4000000 in
theorem c_X8_steps_ok (l : Launch) (g : xCfg) (o : Nat → Nat) (hs : Nat) (bads : Int32) (nos : Int32) (fuls : Int32) (cau : Int32) (whe : Int32) (cnt : Nat) (p : Nat) (fau : Int32) (isw : Int32) (ods : Int32) (v : SV) (P : Nat → SV) (sq : Nat → Int32) (tx : Nat → Int32) (wo : Nat → Int32) (nu : Nat → Int32) (u : Int32) (len : Nat) (yq : Nat) (hL1 : 1 ≤ v.1) (hL : v.1 ≤ 200) (hlen : v.2.2.2.2.1 2 = nI len) (hl1 : 1 ≤ len) (hl2 : len ≤ 30) (hQs : ∀ x, x < v.1 → 0 ≤ (lwQ v.2.1 v.2.2.1 (v.2.2.2.2.1 0) len v.1 0 sq) x ∧ (lwQ v.2.1 v.2.2.1 (v.2.2.2.2.1 0) len v.1 0 sq) x ≤ 3600) (hh : hs ≤ 6) (hf : v.2.2.2.2.2.1 < v.1) (hv : -1 ≤ u) (hv2 : u ≤ 1) (hqy : ¬ nqF v.2.2.1 v.2.2.2.2.1 u v.2.2.2.2.2 ≤ 0 → nqF v.2.2.1 v.2.2.2.2.1 u v.2.2.2.2.2 = nI yq) (hyq : yq < 2 ^ 30) : Ct l g yX8_steps cX8_steps 2 (some .int) (xR 7 155) [.ref (o 0), .int u] [(o 0, .inr (8, [.ref (o 1), .ref (o 2), .int (nI hs), .int bads, .int nos, .int fuls, .int cau, .int whe, .ref (o 3), .ref (o 4), .int (nI cnt), .int (nI p), .int fau, .int isw, .int ods, .ref (o 5), .ref (o 6)])), (o 1, .inl (g.2.1, 616, .inl (nwF v))), (o 2, .inl (g.2.1, 4312, .inl (pF P))), (o 3, .inl (g.2.1, 201, .inl sq)), (o 4, .inl (g.2.1, 120, .inl tx)), (o 5, .inl (g.2.1, 24, .inl wo)), (o 6, .inl (g.2.1, 72, .inl nu))] (is1 (some (.int (bI (stpP v.1 v.2.2.1 v.2.2.2.2.1 u v.2.2.2.2.2)))) [(o 0, .inr (8, [.ref (o 1), .ref (o 2), .int (nI (min 6 (hs + 1))), .int bads, .int nos, .int fuls, .int cau, .int whe, .ref (o 3), .ref (o 4), .int (nI cnt), .int (nI p), .int fau, .int isw, .int ods, .ref (o 5), .ref (o 6)])), (o 1, .inl (g.2.1, 616, .inl (nwF (trS (stpT v.1 v.2.2.1 v.2.2.2.1 v.2.2.2.2.1 (lwQ v.2.1 v.2.2.1 (v.2.2.2.2.1 0) len v.1 0 sq) u v.2.2.2.2.2) v)))), (o 2, .inl (g.2.1, 4312, .inl (pF (ntP P hs v)))), (o 3, .inl (g.2.1, 201, .inl (if v.2.2.2.2.2.2.2.1 = 3 then sq else lwQ v.2.1 v.2.2.1 (v.2.2.2.2.1 0) len v.1 0 sq))), (o 4, .inl (g.2.1, 120, .inl tx)), (o 5, .inl (g.2.1, 24, .inl wo)), (o 6, .inl (g.2.1, 72, .inl nu))]) := by
  refine Ct.walk (by decide) (Nat.le_of_ble_eq_true rfl) ?_
  intro p0 e0 s0 m0 below meth c0 A0 ls Q hQ E hr hnm hw hl
  have hx := E.x
  have hb := E.b
  have hl : lv_has ls 2 [(0, .ref (o 0)), (1, .int u)] := hl
  refine lv_iload_n hx hb dX8_steps_0 rfl (lv_at hl 1 rfl) ?_
  refine lv_iconst (v := -1) hx hb dX8_steps_1 (by decide) ?_
  refine lv_iconst (v := 1) hx hb dX8_steps_2 (by decide) ?_
  refine x_goR (st1 := [.int 1]) E hw [] rfl (x_runS (rest := []) E hw (c_X8_in_ok l g u (-1) 1 hv hv2) km_X8_45 ks_X8_in [] rfl (by decide) hl.1 rfl rfl (Nat.le_of_ble_eq_true rfl) ⟨Nat.le_of_ble_eq_true rfl, Nat.le_of_ble_eq_true rfl⟩ ⟨Nat.zero_le _, Nat.zero_le _⟩ dX8_steps_3) rfl (fun H locs hw => ?_)
  refine lv_if_ne (tgt := 14) hx hb dX8_steps_6 (by decide) (fun _ => ?_) (fun h => absurd h (by decide))
  refine lv_aload_n hx hb dX8_steps_14 rfl (lv_at hl 0 rfl) ?_
  refine x_go (ws' := [(o 0, .inr (8, [.ref (o 1), .ref (o 2), .int (nI (min 6 (hs + 1))), .int bads, .int nos, .int fuls, .int cau, .int whe, .ref (o 3), .ref (o 4), .int (nI cnt), .int (nI p), .int fau, .int isw, .int ods, .ref (o 5), .ref (o 6)])), (o 1, .inl (g.2.1, 616, .inl (nwF v))), (o 2, .inl (g.2.1, 4312, .inl (pF (ntP P hs v)))), (o 3, .inl (g.2.1, 201, .inl sq)), (o 4, .inl (g.2.1, 120, .inl tx)), (o 5, .inl (g.2.1, 24, .inl wo)), (o 6, .inl (g.2.1, 72, .inl nu))]) (st1 := []) E hw [0, 1, 2] rfl (x_runV (rest := []) E hw (c_X8_notes l g o hs bads nos fuls cau whe cnt p fau isw ods v P (by omega)) km_X8_64 kv_X8_notes [0, 1, 2] rfl (by decide) 0 rfl hl.1 rfl rfl (Nat.le_of_ble_eq_true rfl) ⟨Nat.le_of_ble_eq_true rfl, Nat.le_of_ble_eq_true rfl⟩ ⟨Nat.zero_le _, Nat.zero_le _⟩ dX8_steps_15) rfl rfl rfl (fun H locs hw => ?_)
  refine lv_aload_n hx hb dX8_steps_18 rfl (lv_at hl 0 rfl) ?_
  refine lv_iload_n hx hb dX8_steps_19 rfl (lv_at hl 1 rfl) ?_
  refine x_go (ws' := [(o 0, .inr (8, [.ref (o 1), .ref (o 2), .int (nI (min 6 (hs + 1))), .int bads, .int nos, .int fuls, .int cau, .int whe, .ref (o 3), .ref (o 4), .int (nI cnt), .int (nI p), .int fau, .int isw, .int ods, .ref (o 5), .ref (o 6)])), (o 1, .inl (g.2.1, 616, .inl (nwF (trS (stpT v.1 v.2.2.1 v.2.2.2.1 v.2.2.2.2.1 (lwQ v.2.1 v.2.2.1 (v.2.2.2.2.1 0) len v.1 0 sq) u v.2.2.2.2.2) v)))), (o 2, .inl (g.2.1, 4312, .inl (pF (ntP P hs v)))), (o 3, .inl (g.2.1, 201, .inl (if v.2.2.2.2.2.2.2.1 = 3 then sq else lwQ v.2.1 v.2.2.1 (v.2.2.2.2.1 0) len v.1 0 sq))), (o 4, .inl (g.2.1, 120, .inl tx)), (o 5, .inl (g.2.1, 24, .inl wo)), (o 6, .inl (g.2.1, 72, .inl nu))]) (st1 := [.int (bI (stpP v.1 v.2.2.1 v.2.2.2.2.1 u v.2.2.2.2.2))]) E hw [0, 1, 3] rfl (x_runV (rest := []) E hw (c_X8_goesOn l g o (min 6 (hs + 1)) bads nos fuls cau whe cnt p fau isw ods v sq len u yq (by omega) (by omega) hlen (by omega) (by omega) hQs (by omega) hqy hyq) km_X8_131 kv_X8_goesOn [0, 1, 3] rfl (by decide) 0 rfl hl.1 rfl rfl (Nat.le_of_ble_eq_true rfl) ⟨Nat.le_of_ble_eq_true rfl, Nat.le_of_ble_eq_true rfl⟩ ⟨Nat.zero_le _, Nat.zero_le _⟩ dX8_steps_20) rfl rfl rfl (fun H locs hw => ?_)
  refine xb_eq (tgt := 30) hx hb dX8_steps_23 (by decide) (fun cb => ?_) (fun cb => ?_)
  · refine lv_iconst (v := 0) hx hb dX8_steps_30 (by decide) ?_
    exact xr_i hQ E hr hw dX8_steps_31 ⟨congrArg (fun z => some (Value.int z)) ((bI_f cb).symm), rfl⟩
  · refine lv_iconst (v := 1) hx hb dX8_steps_26 (by decide) ?_
    refine lv_goto (tgt := 31) hx hb dX8_steps_27 (by decide) ?_
    exact xr_i hQ E hr hw dX8_steps_31 ⟨congrArg (fun z => some (Value.int z)) ((bI_t cb).symm), rfl⟩

set_option maxRecDepth 100000 in
set_option maxHeartbeats 4000000 in
theorem c_X8_steps_bad (l : Launch) (g : xCfg) (o : Nat → Nat) (hs : Nat) (bads : Int32) (nos : Int32) (fuls : Int32) (cau : Int32) (whe : Int32) (cnt : Nat) (p : Nat) (fau : Int32) (isw : Int32) (ods : Int32) (v : SV) (P : Nat → SV) (sq : Nat → Int32) (tx : Nat → Int32) (wo : Nat → Int32) (nu : Nat → Int32) (u : Int32) (hb0 : ¬ (-1 ≤ u ∧ u ≤ 1)) : Ct l g yX8_steps cX8_steps 2 (some .int) (xR 1 22) [.ref (o 0), .int u] [(o 0, .inr (8, [.ref (o 1), .ref (o 2), .int (nI hs), .int bads, .int nos, .int fuls, .int cau, .int whe, .ref (o 3), .ref (o 4), .int (nI cnt), .int (nI p), .int fau, .int isw, .int ods, .ref (o 5), .ref (o 6)])), (o 1, .inl (g.2.1, 616, .inl (nwF v))), (o 2, .inl (g.2.1, 4312, .inl (pF P))), (o 3, .inl (g.2.1, 201, .inl sq)), (o 4, .inl (g.2.1, 120, .inl tx)), (o 5, .inl (g.2.1, 24, .inl wo)), (o 6, .inl (g.2.1, 72, .inl nu))] (is1 (some (.int (-2))) [(o 0, .inr (8, [.ref (o 1), .ref (o 2), .int (nI hs), .int (bads + 1), .int nos, .int fuls, .int cau, .int whe, .ref (o 3), .ref (o 4), .int (nI cnt), .int (nI p), .int fau, .int isw, .int ods, .ref (o 5), .ref (o 6)])), (o 1, .inl (g.2.1, 616, .inl (nwF v))), (o 2, .inl (g.2.1, 4312, .inl (pF P))), (o 3, .inl (g.2.1, 201, .inl sq)), (o 4, .inl (g.2.1, 120, .inl tx)), (o 5, .inl (g.2.1, 24, .inl wo)), (o 6, .inl (g.2.1, 72, .inl nu))]) := by
  refine Ct.walk (by decide) (Nat.le_of_ble_eq_true rfl) ?_
  intro p0 e0 s0 m0 below meth c0 A0 ls Q hQ E hr hnm hw hl
  have hx := E.x
  have hb := E.b
  have hl : lv_has ls 2 [(0, .ref (o 0)), (1, .int u)] := hl
  refine lv_iload_n hx hb dX8_steps_0 rfl (lv_at hl 1 rfl) ?_
  refine lv_iconst (v := -1) hx hb dX8_steps_1 (by decide) ?_
  refine lv_iconst (v := 1) hx hb dX8_steps_2 (by decide) ?_
  refine x_goR (st1 := [.int (bI ((-1) ≤ u ∧ u ≤ 1))]) E hw [] rfl (x_runS (rest := []) E hw (c_X8_in l g u (-1) 1 ) km_X8_45 ks_X8_in [] rfl (by decide) hl.1 rfl rfl (Nat.le_of_ble_eq_true rfl) ⟨Nat.le_of_ble_eq_true rfl, Nat.le_of_ble_eq_true rfl⟩ ⟨Nat.zero_le _, Nat.zero_le _⟩ dX8_steps_3) rfl (fun H locs hw => ?_)
  refine xb_ne (tgt := 14) hx hb dX8_steps_6 (by decide) (fun c1 => ?_) (fun c1 => ?_)
  · exact absurd c1 hb0
  · refine lv_aload_n hx hb dX8_steps_9 rfl (lv_at hl 0 rfl) ?_
    refine x_go (ws' := [(o 0, .inr (8, [.ref (o 1), .ref (o 2), .int (nI hs), .int (bads + 1), .int nos, .int fuls, .int cau, .int whe, .ref (o 3), .ref (o 4), .int (nI cnt), .int (nI p), .int fau, .int isw, .int ods, .ref (o 5), .ref (o 6)])), (o 1, .inl (g.2.1, 616, .inl (nwF v))), (o 2, .inl (g.2.1, 4312, .inl (pF P))), (o 3, .inl (g.2.1, 201, .inl sq)), (o 4, .inl (g.2.1, 120, .inl tx)), (o 5, .inl (g.2.1, 24, .inl wo)), (o 6, .inl (g.2.1, 72, .inl nu))]) (st1 := [.int (-2)]) E hw [0] rfl (x_runV (rest := []) E hw (c_X8_bad l g o hs bads nos fuls cau whe cnt p fau isw ods ) km_X8_60 kv_X8_bad [0] rfl (by decide) 0 rfl hl.1 rfl rfl (Nat.le_of_ble_eq_true rfl) ⟨Nat.le_of_ble_eq_true rfl, Nat.le_of_ble_eq_true rfl⟩ ⟨Nat.zero_le _, Nat.zero_le _⟩ dX8_steps_10) rfl rfl rfl (fun H locs hw => ?_)
    exact xr_i hQ E hr hw dX8_steps_13 ⟨rfl, rfl⟩

set_option maxRecDepth 100000 in
set_option maxHeartbeats 4000000 in
theorem c_X8_frees_ok (l : Launch) (g : xCfg) (o : Nat → Nat) (hs : Nat) (bads : Int32) (nos : Int32) (fuls : Int32) (cau : Int32) (whe : Int32) (cnt : Nat) (p : Nat) (fau : Int32) (isw : Int32) (ods : Int32) (v : SV) (P : Nat → SV) (sq : Nat → Int32) (tx : Nat → Int32) (wo : Nat → Int32) (nu : Nat → Int32) (len : Nat) (hL1 : 1 ≤ v.1) (hL : v.1 ≤ 200) (hlen : v.2.2.2.2.1 2 = nI len) (hl1 : 1 ≤ len) (hl2 : len ≤ 30) (hQs : ∀ x, x < v.1 → 0 ≤ (lwQ v.2.1 v.2.2.1 (v.2.2.2.2.1 0) len v.1 0 sq) x ∧ (lwQ v.2.1 v.2.2.1 (v.2.2.2.2.1 0) len v.1 0 sq) x ≤ 3600) (hh : hs ≤ 6) (hm : v.2.2.2.2.2.2.2.1 = 3) (hq0 : v.2.2.2.2.2.2.1 = 0) : Ct l g yX8_frees cX8_frees 1 (some .int) (xR 6 132) [.ref (o 0)] [(o 0, .inr (8, [.ref (o 1), .ref (o 2), .int (nI hs), .int bads, .int nos, .int fuls, .int cau, .int whe, .ref (o 3), .ref (o 4), .int (nI cnt), .int (nI p), .int fau, .int isw, .int ods, .ref (o 5), .ref (o 6)])), (o 1, .inl (g.2.1, 616, .inl (nwF v))), (o 2, .inl (g.2.1, 4312, .inl (pF P))), (o 3, .inl (g.2.1, 201, .inl sq)), (o 4, .inl (g.2.1, 120, .inl tx)), (o 5, .inl (g.2.1, 24, .inl wo)), (o 6, .inl (g.2.1, 72, .inl nu))] (is1 (some (.int ((supT v.1 v.2.2.2.2.1 (lwQ v.2.1 v.2.2.1 (v.2.2.2.2.1 0) len v.1 0 sq) (relT v.2.2.2.2.2)).2.2.1))) [(o 0, .inr (8, [.ref (o 1), .ref (o 2), .int (nI (min 6 (hs + 1))), .int bads, .int nos, .int fuls, .int cau, .int whe, .ref (o 3), .ref (o 4), .int (nI cnt), .int (nI p), .int fau, .int isw, .int ods, .ref (o 5), .ref (o 6)])), (o 1, .inl (g.2.1, 616, .inl (nwF (trS (supT v.1 v.2.2.2.2.1 (lwQ v.2.1 v.2.2.1 (v.2.2.2.2.1 0) len v.1 0 sq) (relT v.2.2.2.2.2)) v)))), (o 2, .inl (g.2.1, 4312, .inl (pF (ntP P hs v)))), (o 3, .inl (g.2.1, 201, .inl (lwQ v.2.1 v.2.2.1 (v.2.2.2.2.1 0) len v.1 0 sq))), (o 4, .inl (g.2.1, 120, .inl tx)), (o 5, .inl (g.2.1, 24, .inl wo)), (o 6, .inl (g.2.1, 72, .inl nu))]) := by
  refine Ct.walk (by decide) (Nat.le_of_ble_eq_true rfl) ?_
  intro p0 e0 s0 m0 below meth c0 A0 ls Q hQ E hr hnm hw hl
  have hx := E.x
  have hb := E.b
  have hl : lv_has ls 1 [(0, .ref (o 0))] := hl
  refine lv_aload_n hx hb dX8_frees_0 rfl (lv_at hl 0 rfl) ?_
  refine x_get E hw kf_X8_7 0 rfl rfl dX8_frees_1 ?_
  refine lv_bipush (v := 10) hx hb dX8_frees_4 (by decide) ?_
  refine x_ld (v := v.2.2.2.2.2.2.2.1) E hw 1 rfl 10 rfl (by omega) (by decide) rfl dX8_frees_6 ?_
  refine lv_iconst (v := 3) hx hb dX8_frees_7 (by decide) ?_
  refine lv_icmp_ne (tgt := 21) hx hb dX8_frees_8 (by decide) (fun ca => ?_) (fun ca => ?_)
  · exact absurd hm ca
  · refine lv_aload_n hx hb dX8_frees_11 rfl (lv_at hl 0 rfl) ?_
    refine x_get E hw kf_X8_7 0 rfl rfl dX8_frees_12 ?_
    refine lv_bipush (v := 9) hx hb dX8_frees_15 (by decide) ?_
    refine x_ld (v := v.2.2.2.2.2.2.1) E hw 1 rfl 9 rfl (by omega) (by decide) rfl dX8_frees_17 ?_
    refine lv_if_eq (tgt := 26) hx hb dX8_frees_18 (by decide) (fun cb => ?_) (fun cb => ?_)
    · refine lv_aload_n hx hb dX8_frees_26 rfl (lv_at hl 0 rfl) ?_
      refine x_go (ws' := [(o 0, .inr (8, [.ref (o 1), .ref (o 2), .int (nI (min 6 (hs + 1))), .int bads, .int nos, .int fuls, .int cau, .int whe, .ref (o 3), .ref (o 4), .int (nI cnt), .int (nI p), .int fau, .int isw, .int ods, .ref (o 5), .ref (o 6)])), (o 1, .inl (g.2.1, 616, .inl (nwF v))), (o 2, .inl (g.2.1, 4312, .inl (pF (ntP P hs v)))), (o 3, .inl (g.2.1, 201, .inl sq)), (o 4, .inl (g.2.1, 120, .inl tx)), (o 5, .inl (g.2.1, 24, .inl wo)), (o 6, .inl (g.2.1, 72, .inl nu))]) (st1 := []) E hw [0, 1, 2] rfl (x_runV (rest := []) E hw (c_X8_notes l g o hs bads nos fuls cau whe cnt p fau isw ods v P (by omega)) km_X8_64 kv_X8_notes [0, 1, 2] rfl (by decide) 0 rfl hl.1 rfl rfl (Nat.le_of_ble_eq_true rfl) ⟨Nat.le_of_ble_eq_true rfl, Nat.le_of_ble_eq_true rfl⟩ ⟨Nat.zero_le _, Nat.zero_le _⟩ dX8_frees_27) rfl rfl rfl (fun H locs hw => ?_)
      refine lv_aload_n hx hb dX8_frees_30 rfl (lv_at hl 0 rfl) ?_
      refine x_get E hw kf_X8_7 0 rfl rfl dX8_frees_31 ?_
      refine lv_bipush (v := 10) hx hb dX8_frees_34 (by decide) ?_
      refine lv_iconst (v := 0) hx hb dX8_frees_36 (by decide) ?_
      refine x_ist E hw 1 rfl 10 rfl (by omega) (by decide) (ws' := [(o 0, .inr (8, [.ref (o 1), .ref (o 2), .int (nI (min 6 (hs + 1))), .int bads, .int nos, .int fuls, .int cau, .int whe, .ref (o 3), .ref (o 4), .int (nI cnt), .int (nI p), .int fau, .int isw, .int ods, .ref (o 5), .ref (o 6)])), (o 1, .inl (g.2.1, 616, .inl (upd (nwF v) 10 0))), (o 2, .inl (g.2.1, 4312, .inl (pF (ntP P hs v)))), (o 3, .inl (g.2.1, 201, .inl sq)), (o 4, .inl (g.2.1, 120, .inl tx)), (o 5, .inl (g.2.1, 24, .inl wo)), (o 6, .inl (g.2.1, 72, .inl nu))]) rfl dX8_frees_37 (fun H locs hw => ?_)
      have hw := hw.arr (f' := (nwF (v.1, v.2.1, v.2.2.1, v.2.2.2.1, v.2.2.2.2.1, v.2.2.2.2.2.1, v.2.2.2.2.2.2.1, 0, v.2.2.2.2.2.2.2.2.1, v.2.2.2.2.2.2.2.2.2.1, v.2.2.2.2.2.2.2.2.2.2.1, v.2.2.2.2.2.2.2.2.2.2.2.1, v.2.2.2.2.2.2.2.2.2.2.2.2))) (ws' := [(o 0, .inr (8, [.ref (o 1), .ref (o 2), .int (nI (min 6 (hs + 1))), .int bads, .int nos, .int fuls, .int cau, .int whe, .ref (o 3), .ref (o 4), .int (nI cnt), .int (nI p), .int fau, .int isw, .int ods, .ref (o 5), .ref (o 6)])), (o 1, .inl (g.2.1, 616, .inl (nwF (v.1, v.2.1, v.2.2.1, v.2.2.2.1, v.2.2.2.2.1, v.2.2.2.2.2.1, v.2.2.2.2.2.2.1, 0, v.2.2.2.2.2.2.2.2.1, v.2.2.2.2.2.2.2.2.2.1, v.2.2.2.2.2.2.2.2.2.2.1, v.2.2.2.2.2.2.2.2.2.2.2.1, v.2.2.2.2.2.2.2.2.2.2.2.2)))), (o 2, .inl (g.2.1, 4312, .inl (pF (ntP P hs v)))), (o 3, .inl (g.2.1, 201, .inl sq)), (o 4, .inl (g.2.1, 120, .inl tx)), (o 5, .inl (g.2.1, 24, .inl wo)), (o 6, .inl (g.2.1, 72, .inl nu))]) 1 rfl (fun j _ => nwU_10 _ _ j) rfl
      refine lv_aload_n hx hb dX8_frees_38 rfl (lv_at hl 0 rfl) ?_
      refine x_go (ws' := [(o 0, .inr (8, [.ref (o 1), .ref (o 2), .int (nI (min 6 (hs + 1))), .int bads, .int nos, .int fuls, .int cau, .int whe, .ref (o 3), .ref (o 4), .int (nI cnt), .int (nI p), .int fau, .int isw, .int ods, .ref (o 5), .ref (o 6)])), (o 1, .inl (g.2.1, 616, .inl (nwF (trS (supT v.1 v.2.2.2.2.1 (lwQ v.2.1 v.2.2.1 (v.2.2.2.2.1 0) len v.1 0 sq) (v.2.2.2.2.2.1, v.2.2.2.2.2.2.1, 0, v.2.2.2.2.2.2.2.2.1, v.2.2.2.2.2.2.2.2.2.1, v.2.2.2.2.2.2.2.2.2.2.1, v.2.2.2.2.2.2.2.2.2.2.2.1, v.2.2.2.2.2.2.2.2.2.2.2.2)) (v.1, v.2.1, v.2.2.1, v.2.2.2.1, v.2.2.2.2.1, v.2.2.2.2.2.1, v.2.2.2.2.2.2.1, 0, v.2.2.2.2.2.2.2.2.1, v.2.2.2.2.2.2.2.2.2.1, v.2.2.2.2.2.2.2.2.2.2.1, v.2.2.2.2.2.2.2.2.2.2.2.1, v.2.2.2.2.2.2.2.2.2.2.2.2))))), (o 2, .inl (g.2.1, 4312, .inl (pF (ntP P hs v)))), (o 3, .inl (g.2.1, 201, .inl (if 0 = 3 then sq else lwQ v.2.1 v.2.2.1 (v.2.2.2.2.1 0) len v.1 0 sq))), (o 4, .inl (g.2.1, 120, .inl tx)), (o 5, .inl (g.2.1, 24, .inl wo)), (o 6, .inl (g.2.1, 72, .inl nu))]) (st1 := []) E hw [0, 1, 3] rfl (x_runV (rest := []) E hw (c_X8_supervises l g o (min 6 (hs + 1)) bads nos fuls cau whe cnt p fau isw ods (v.1, v.2.1, v.2.2.1, v.2.2.2.1, v.2.2.2.2.1, v.2.2.2.2.2.1, v.2.2.2.2.2.2.1, 0, v.2.2.2.2.2.2.2.2.1, v.2.2.2.2.2.2.2.2.2.1, v.2.2.2.2.2.2.2.2.2.2.1, v.2.2.2.2.2.2.2.2.2.2.2.1, v.2.2.2.2.2.2.2.2.2.2.2.2) sq len 0 (by omega) (by omega) hlen (by omega) (by omega) hQs hq0 (by decide)) km_X8_128 kv_X8_supervises [0, 1, 3] rfl (by decide) 0 rfl hl.1 rfl rfl (Nat.le_of_ble_eq_true rfl) ⟨Nat.le_of_ble_eq_true rfl, Nat.le_of_ble_eq_true rfl⟩ ⟨Nat.zero_le _, Nat.zero_le _⟩ dX8_frees_39) rfl rfl rfl (fun H locs hw => ?_)
      refine lv_aload_n hx hb dX8_frees_42 rfl (lv_at hl 0 rfl) ?_
      refine x_get E hw kf_X8_7 0 rfl rfl dX8_frees_43 ?_
      refine lv_bipush (v := 10) hx hb dX8_frees_46 (by decide) ?_
      refine x_ld (v := (trS (supT v.1 v.2.2.2.2.1 (lwQ v.2.1 v.2.2.1 (v.2.2.2.2.1 0) len v.1 0 sq) (v.2.2.2.2.2.1, v.2.2.2.2.2.2.1, 0, v.2.2.2.2.2.2.2.2.1, v.2.2.2.2.2.2.2.2.2.1, v.2.2.2.2.2.2.2.2.2.2.1, v.2.2.2.2.2.2.2.2.2.2.2.1, v.2.2.2.2.2.2.2.2.2.2.2.2)) (v.1, v.2.1, v.2.2.1, v.2.2.2.1, v.2.2.2.2.1, v.2.2.2.2.2.1, v.2.2.2.2.2.2.1, 0, v.2.2.2.2.2.2.2.2.1, v.2.2.2.2.2.2.2.2.2.1, v.2.2.2.2.2.2.2.2.2.2.1, v.2.2.2.2.2.2.2.2.2.2.2.1, v.2.2.2.2.2.2.2.2.2.2.2.2)).2.2.2.2.2.2.2.1) E hw 1 rfl 10 rfl (by omega) (by decide) rfl dX8_frees_48 ?_
      exact xr_i hQ E hr hw dX8_frees_49 ⟨rfl, rfl⟩
    · exact absurd hq0 cb

set_option maxRecDepth 100000 in
set_option maxHeartbeats 4000000 in
theorem c_X8_frees_no (l : Launch) (g : xCfg) (o : Nat → Nat) (hs : Nat) (bads : Int32) (nos : Int32) (fuls : Int32) (cau : Int32) (whe : Int32) (cnt : Nat) (p : Nat) (fau : Int32) (isw : Int32) (ods : Int32) (v : SV) (P : Nat → SV) (sq : Nat → Int32) (tx : Nat → Int32) (wo : Nat → Int32) (nu : Nat → Int32) (hn : ¬ (v.2.2.2.2.2.2.2.1 = 3 ∧ v.2.2.2.2.2.2.1 = 0)) : Ct l g yX8_frees cX8_frees 1 (some .int) (xR 1 20) [.ref (o 0)] [(o 0, .inr (8, [.ref (o 1), .ref (o 2), .int (nI hs), .int bads, .int nos, .int fuls, .int cau, .int whe, .ref (o 3), .ref (o 4), .int (nI cnt), .int (nI p), .int fau, .int isw, .int ods, .ref (o 5), .ref (o 6)])), (o 1, .inl (g.2.1, 616, .inl (nwF v))), (o 2, .inl (g.2.1, 4312, .inl (pF P))), (o 3, .inl (g.2.1, 201, .inl sq)), (o 4, .inl (g.2.1, 120, .inl tx)), (o 5, .inl (g.2.1, 24, .inl wo)), (o 6, .inl (g.2.1, 72, .inl nu))] (is1 (some (.int (-3))) [(o 0, .inr (8, [.ref (o 1), .ref (o 2), .int (nI hs), .int bads, .int (nos + 1), .int fuls, .int cau, .int whe, .ref (o 3), .ref (o 4), .int (nI cnt), .int (nI p), .int fau, .int isw, .int ods, .ref (o 5), .ref (o 6)])), (o 1, .inl (g.2.1, 616, .inl (nwF v))), (o 2, .inl (g.2.1, 4312, .inl (pF P))), (o 3, .inl (g.2.1, 201, .inl sq)), (o 4, .inl (g.2.1, 120, .inl tx)), (o 5, .inl (g.2.1, 24, .inl wo)), (o 6, .inl (g.2.1, 72, .inl nu))]) := by
  refine Ct.walk (by decide) (Nat.le_of_ble_eq_true rfl) ?_
  intro p0 e0 s0 m0 below meth c0 A0 ls Q hQ E hr hnm hw hl
  have hx := E.x
  have hb := E.b
  have hl : lv_has ls 1 [(0, .ref (o 0))] := hl
  refine lv_aload_n hx hb dX8_frees_0 rfl (lv_at hl 0 rfl) ?_
  refine x_get E hw kf_X8_7 0 rfl rfl dX8_frees_1 ?_
  refine lv_bipush (v := 10) hx hb dX8_frees_4 (by decide) ?_
  refine x_ld (v := v.2.2.2.2.2.2.2.1) E hw 1 rfl 10 rfl (by omega) (by decide) rfl dX8_frees_6 ?_
  refine lv_iconst (v := 3) hx hb dX8_frees_7 (by decide) ?_
  refine lv_icmp_ne (tgt := 21) hx hb dX8_frees_8 (by decide) (fun ca => ?_) (fun ca => ?_)
  · refine lv_aload_n hx hb dX8_frees_21 rfl (lv_at hl 0 rfl) ?_
    refine x_go (ws' := [(o 0, .inr (8, [.ref (o 1), .ref (o 2), .int (nI hs), .int bads, .int (nos + 1), .int fuls, .int cau, .int whe, .ref (o 3), .ref (o 4), .int (nI cnt), .int (nI p), .int fau, .int isw, .int ods, .ref (o 5), .ref (o 6)])), (o 1, .inl (g.2.1, 616, .inl (nwF v))), (o 2, .inl (g.2.1, 4312, .inl (pF P))), (o 3, .inl (g.2.1, 201, .inl sq)), (o 4, .inl (g.2.1, 120, .inl tx)), (o 5, .inl (g.2.1, 24, .inl wo)), (o 6, .inl (g.2.1, 72, .inl nu))]) (st1 := [.int (-3)]) E hw [0] rfl (x_runV (rest := []) E hw (c_X8_no l g o hs bads nos fuls cau whe cnt p fau isw ods ) km_X8_137 kv_X8_no [0] rfl (by decide) 0 rfl hl.1 rfl rfl (Nat.le_of_ble_eq_true rfl) ⟨Nat.le_of_ble_eq_true rfl, Nat.le_of_ble_eq_true rfl⟩ ⟨Nat.zero_le _, Nat.zero_le _⟩ dX8_frees_22) rfl rfl rfl (fun H locs hw => ?_)
    exact xr_i hQ E hr hw dX8_frees_25 ⟨rfl, rfl⟩
  · refine lv_aload_n hx hb dX8_frees_11 rfl (lv_at hl 0 rfl) ?_
    refine x_get E hw kf_X8_7 0 rfl rfl dX8_frees_12 ?_
    refine lv_bipush (v := 9) hx hb dX8_frees_15 (by decide) ?_
    refine x_ld (v := v.2.2.2.2.2.2.1) E hw 1 rfl 9 rfl (by omega) (by decide) rfl dX8_frees_17 ?_
    refine lv_if_eq (tgt := 26) hx hb dX8_frees_18 (by decide) (fun cb => ?_) (fun cb => ?_)
    · exact absurd ⟨ca, cb⟩ hn
    · refine lv_aload_n hx hb dX8_frees_21 rfl (lv_at hl 0 rfl) ?_
      refine x_go (ws' := [(o 0, .inr (8, [.ref (o 1), .ref (o 2), .int (nI hs), .int bads, .int (nos + 1), .int fuls, .int cau, .int whe, .ref (o 3), .ref (o 4), .int (nI cnt), .int (nI p), .int fau, .int isw, .int ods, .ref (o 5), .ref (o 6)])), (o 1, .inl (g.2.1, 616, .inl (nwF v))), (o 2, .inl (g.2.1, 4312, .inl (pF P))), (o 3, .inl (g.2.1, 201, .inl sq)), (o 4, .inl (g.2.1, 120, .inl tx)), (o 5, .inl (g.2.1, 24, .inl wo)), (o 6, .inl (g.2.1, 72, .inl nu))]) (st1 := [.int (-3)]) E hw [0] rfl (x_runV (rest := []) E hw (c_X8_no l g o hs bads nos fuls cau whe cnt p fau isw ods ) km_X8_137 kv_X8_no [0] rfl (by decide) 0 rfl hl.1 rfl rfl (Nat.le_of_ble_eq_true rfl) ⟨Nat.le_of_ble_eq_true rfl, Nat.le_of_ble_eq_true rfl⟩ ⟨Nat.zero_le _, Nat.zero_le _⟩ dX8_frees_22) rfl rfl rfl (fun H locs hw => ?_)
      exact xr_i hQ E hr hw dX8_frees_25 ⟨rfl, rfl⟩

set_option maxRecDepth 100000 in
set_option maxHeartbeats 4000000 in
theorem c_X8_tellTrain_0 (l : Launch) (g : xCfg) (o : Nat → Nat) (hs : Nat) (bads : Int32) (nos : Int32) (fuls : Int32) (cau : Int32) (whe : Int32) (cnt : Nat) (p : Nat) (fau : Int32) (isw : Int32) (ods : Int32) (v : SV) (sq : Nat → Int32) (len : Nat) (yq : Nat) (hL1 : 1 ≤ v.1) (hL : v.1 ≤ 200) (hlen : v.2.2.2.2.1 2 = nI len) (hl1 : 1 ≤ len) (hl2 : len ≤ 30) (hQs : ∀ x, x < v.1 → 0 ≤ (lwQ v.2.1 v.2.2.1 (v.2.2.2.2.1 0) len v.1 0 sq) x ∧ (lwQ v.2.1 v.2.2.1 (v.2.2.2.2.1 0) len v.1 0 sq) x ≤ 3600) (hf : v.2.2.2.2.2.1 < 200) (hqy : v.2.2.2.2.2.2.1 = nI yq) (hyq : yq < 2 ^ 30) : Ct l g yX8_tellTrain cX8_tellTrain 2 (some .int) (xR 5 114) [.ref (o 0), .int 0] [(o 0, .inr (8, [.ref (o 1), .ref (o 2), .int (nI hs), .int bads, .int nos, .int fuls, .int cau, .int whe, .ref (o 3), .ref (o 4), .int (nI cnt), .int (nI p), .int fau, .int isw, .int ods, .ref (o 5), .ref (o 6)])), (o 1, .inl (g.2.1, 616, .inl (nwF v))), (o 3, .inl (g.2.1, 201, .inl sq))] (is1 (some (.int (trvF v.1 v.2.2.1 v.2.2.2.2.1 (lwQ v.2.1 v.2.2.1 (v.2.2.2.2.1 0) len v.1 0 sq) v.2.2.2.2.2 0))) [(o 0, .inr (8, [.ref (o 1), .ref (o 2), .int (nI hs), .int bads, .int nos, .int fuls, .int cau, .int whe, .ref (o 3), .ref (o 4), .int (nI cnt), .int (nI p), .int fau, .int isw, .int ods, .ref (o 5), .ref (o 6)])), (o 1, .inl (g.2.1, 616, .inl (nwF v))), (o 3, .inl (g.2.1, 201, .inl (if 0 = 8 ∨ 0 = 11 then lwQ v.2.1 v.2.2.1 (v.2.2.2.2.1 0) len v.1 0 sq else sq)))]) := by
  refine Ct.walk (by decide) (Nat.le_of_ble_eq_true rfl) ?_
  intro p0 e0 s0 m0 below meth c0 A0 ls Q hQ E hr hnm hw hl
  have hx := E.x
  have hb := E.b
  have hl : lv_has ls 2 [(0, .ref (o 0)), (1, .int 0)] := hl
  refine lv_iload_n hx hb dX8_tellTrain_0 rfl (lv_at hl 1 rfl) ?_
  refine x_sw (v := 0) (off := 63) (tgt := 64) hx hb dX8_tellTrain_1 rfl (by decide) (by decide) (by decide) (by decide) ?_
  refine lv_aload_n hx hb dX8_tellTrain_64 rfl (lv_at hl 0 rfl) ?_
  refine x_get E hw kf_X8_7 0 rfl rfl dX8_tellTrain_65 ?_
  refine lv_bipush (v := 8) hx hb dX8_tellTrain_68 (by decide) ?_
  refine x_ld (v := nI v.2.2.2.2.2.1) E hw 1 rfl 8 rfl (by omega) (by decide) rfl dX8_tellTrain_70 ?_
  exact xr_i hQ E hr hw dX8_tellTrain_71 ⟨rfl, rfl⟩

set_option maxRecDepth 100000 in
set_option maxHeartbeats 4000000 in
theorem c_X8_tellTrain_1 (l : Launch) (g : xCfg) (o : Nat → Nat) (hs : Nat) (bads : Int32) (nos : Int32) (fuls : Int32) (cau : Int32) (whe : Int32) (cnt : Nat) (p : Nat) (fau : Int32) (isw : Int32) (ods : Int32) (v : SV) (sq : Nat → Int32) (len : Nat) (yq : Nat) (hL1 : 1 ≤ v.1) (hL : v.1 ≤ 200) (hlen : v.2.2.2.2.1 2 = nI len) (hl1 : 1 ≤ len) (hl2 : len ≤ 30) (hQs : ∀ x, x < v.1 → 0 ≤ (lwQ v.2.1 v.2.2.1 (v.2.2.2.2.1 0) len v.1 0 sq) x ∧ (lwQ v.2.1 v.2.2.1 (v.2.2.2.2.1 0) len v.1 0 sq) x ≤ 3600) (hf : v.2.2.2.2.2.1 < 200) (hqy : v.2.2.2.2.2.2.1 = nI yq) (hyq : yq < 2 ^ 30) : Ct l g yX8_tellTrain cX8_tellTrain 2 (some .int) (xR 5 114) [.ref (o 0), .int 1] [(o 0, .inr (8, [.ref (o 1), .ref (o 2), .int (nI hs), .int bads, .int nos, .int fuls, .int cau, .int whe, .ref (o 3), .ref (o 4), .int (nI cnt), .int (nI p), .int fau, .int isw, .int ods, .ref (o 5), .ref (o 6)])), (o 1, .inl (g.2.1, 616, .inl (nwF v))), (o 3, .inl (g.2.1, 201, .inl sq))] (is1 (some (.int (trvF v.1 v.2.2.1 v.2.2.2.2.1 (lwQ v.2.1 v.2.2.1 (v.2.2.2.2.1 0) len v.1 0 sq) v.2.2.2.2.2 1))) [(o 0, .inr (8, [.ref (o 1), .ref (o 2), .int (nI hs), .int bads, .int nos, .int fuls, .int cau, .int whe, .ref (o 3), .ref (o 4), .int (nI cnt), .int (nI p), .int fau, .int isw, .int ods, .ref (o 5), .ref (o 6)])), (o 1, .inl (g.2.1, 616, .inl (nwF v))), (o 3, .inl (g.2.1, 201, .inl (if 1 = 8 ∨ 1 = 11 then lwQ v.2.1 v.2.2.1 (v.2.2.2.2.1 0) len v.1 0 sq else sq)))]) := by
  refine Ct.walk (by decide) (Nat.le_of_ble_eq_true rfl) ?_
  intro p0 e0 s0 m0 below meth c0 A0 ls Q hQ E hr hnm hw hl
  have hx := E.x
  have hb := E.b
  have hl : lv_has ls 2 [(0, .ref (o 0)), (1, .int 1)] := hl
  refine lv_iload_n hx hb dX8_tellTrain_0 rfl (lv_at hl 1 rfl) ?_
  refine x_sw (v := 1) (off := 71) (tgt := 72) hx hb dX8_tellTrain_1 rfl (by decide) (by decide) (by decide) (by decide) ?_
  refine lv_aload_n hx hb dX8_tellTrain_72 rfl (lv_at hl 0 rfl) ?_
  refine x_get E hw kf_X8_7 0 rfl rfl dX8_tellTrain_73 ?_
  refine lv_bipush (v := 9) hx hb dX8_tellTrain_76 (by decide) ?_
  refine x_ld (v := v.2.2.2.2.2.2.1) E hw 1 rfl 9 rfl (by omega) (by decide) rfl dX8_tellTrain_78 ?_
  exact xr_i hQ E hr hw dX8_tellTrain_79 ⟨rfl, rfl⟩

set_option maxRecDepth 100000 in
set_option maxHeartbeats 4000000 in
theorem c_X8_tellTrain_2 (l : Launch) (g : xCfg) (o : Nat → Nat) (hs : Nat) (bads : Int32) (nos : Int32) (fuls : Int32) (cau : Int32) (whe : Int32) (cnt : Nat) (p : Nat) (fau : Int32) (isw : Int32) (ods : Int32) (v : SV) (sq : Nat → Int32) (len : Nat) (yq : Nat) (hL1 : 1 ≤ v.1) (hL : v.1 ≤ 200) (hlen : v.2.2.2.2.1 2 = nI len) (hl1 : 1 ≤ len) (hl2 : len ≤ 30) (hQs : ∀ x, x < v.1 → 0 ≤ (lwQ v.2.1 v.2.2.1 (v.2.2.2.2.1 0) len v.1 0 sq) x ∧ (lwQ v.2.1 v.2.2.1 (v.2.2.2.2.1 0) len v.1 0 sq) x ≤ 3600) (hf : v.2.2.2.2.2.1 < 200) (hqy : v.2.2.2.2.2.2.1 = nI yq) (hyq : yq < 2 ^ 30) : Ct l g yX8_tellTrain cX8_tellTrain 2 (some .int) (xR 5 114) [.ref (o 0), .int 2] [(o 0, .inr (8, [.ref (o 1), .ref (o 2), .int (nI hs), .int bads, .int nos, .int fuls, .int cau, .int whe, .ref (o 3), .ref (o 4), .int (nI cnt), .int (nI p), .int fau, .int isw, .int ods, .ref (o 5), .ref (o 6)])), (o 1, .inl (g.2.1, 616, .inl (nwF v))), (o 3, .inl (g.2.1, 201, .inl sq))] (is1 (some (.int (trvF v.1 v.2.2.1 v.2.2.2.2.1 (lwQ v.2.1 v.2.2.1 (v.2.2.2.2.1 0) len v.1 0 sq) v.2.2.2.2.2 2))) [(o 0, .inr (8, [.ref (o 1), .ref (o 2), .int (nI hs), .int bads, .int nos, .int fuls, .int cau, .int whe, .ref (o 3), .ref (o 4), .int (nI cnt), .int (nI p), .int fau, .int isw, .int ods, .ref (o 5), .ref (o 6)])), (o 1, .inl (g.2.1, 616, .inl (nwF v))), (o 3, .inl (g.2.1, 201, .inl (if 2 = 8 ∨ 2 = 11 then lwQ v.2.1 v.2.2.1 (v.2.2.2.2.1 0) len v.1 0 sq else sq)))]) := by
  refine Ct.walk (by decide) (Nat.le_of_ble_eq_true rfl) ?_
  intro p0 e0 s0 m0 below meth c0 A0 ls Q hQ E hr hnm hw hl
  have hx := E.x
  have hb := E.b
  have hl : lv_has ls 2 [(0, .ref (o 0)), (1, .int 2)] := hl
  refine lv_iload_n hx hb dX8_tellTrain_0 rfl (lv_at hl 1 rfl) ?_
  refine x_sw (v := 2) (off := 79) (tgt := 80) hx hb dX8_tellTrain_1 rfl (by decide) (by decide) (by decide) (by decide) ?_
  refine lv_aload_n hx hb dX8_tellTrain_80 rfl (lv_at hl 0 rfl) ?_
  refine x_get E hw kf_X8_7 0 rfl rfl dX8_tellTrain_81 ?_
  refine lv_bipush (v := 9) hx hb dX8_tellTrain_84 (by decide) ?_
  refine x_ld (v := v.2.2.2.2.2.2.1) E hw 1 rfl 9 rfl (by omega) (by decide) rfl dX8_tellTrain_86 ?_
  refine x_goR (st1 := [.int (nI (rtL 15 0 v.2.2.2.2.2.2.1))]) E hw [] rfl (x_runS (rest := []) E hw (c_X8_root l g v.2.2.2.2.2.2.1 yq hqy hyq) km_X8_104 ks_X8_root [] rfl (by decide) hl.1 rfl rfl (Nat.le_of_ble_eq_true rfl) ⟨Nat.le_of_ble_eq_true rfl, Nat.le_of_ble_eq_true rfl⟩ ⟨Nat.zero_le _, Nat.zero_le _⟩ dX8_tellTrain_87) rfl (fun H locs hw => ?_)
  exact xr_i hQ E hr hw dX8_tellTrain_90 ⟨rfl, rfl⟩

set_option maxRecDepth 100000 in
set_option maxHeartbeats 4000000 in
theorem c_X8_tellTrain_3 (l : Launch) (g : xCfg) (o : Nat → Nat) (hs : Nat) (bads : Int32) (nos : Int32) (fuls : Int32) (cau : Int32) (whe : Int32) (cnt : Nat) (p : Nat) (fau : Int32) (isw : Int32) (ods : Int32) (v : SV) (sq : Nat → Int32) (len : Nat) (yq : Nat) (hL1 : 1 ≤ v.1) (hL : v.1 ≤ 200) (hlen : v.2.2.2.2.1 2 = nI len) (hl1 : 1 ≤ len) (hl2 : len ≤ 30) (hQs : ∀ x, x < v.1 → 0 ≤ (lwQ v.2.1 v.2.2.1 (v.2.2.2.2.1 0) len v.1 0 sq) x ∧ (lwQ v.2.1 v.2.2.1 (v.2.2.2.2.1 0) len v.1 0 sq) x ≤ 3600) (hf : v.2.2.2.2.2.1 < 200) (hqy : v.2.2.2.2.2.2.1 = nI yq) (hyq : yq < 2 ^ 30) : Ct l g yX8_tellTrain cX8_tellTrain 2 (some .int) (xR 5 114) [.ref (o 0), .int 3] [(o 0, .inr (8, [.ref (o 1), .ref (o 2), .int (nI hs), .int bads, .int nos, .int fuls, .int cau, .int whe, .ref (o 3), .ref (o 4), .int (nI cnt), .int (nI p), .int fau, .int isw, .int ods, .ref (o 5), .ref (o 6)])), (o 1, .inl (g.2.1, 616, .inl (nwF v))), (o 3, .inl (g.2.1, 201, .inl sq))] (is1 (some (.int (trvF v.1 v.2.2.1 v.2.2.2.2.1 (lwQ v.2.1 v.2.2.1 (v.2.2.2.2.1 0) len v.1 0 sq) v.2.2.2.2.2 3))) [(o 0, .inr (8, [.ref (o 1), .ref (o 2), .int (nI hs), .int bads, .int nos, .int fuls, .int cau, .int whe, .ref (o 3), .ref (o 4), .int (nI cnt), .int (nI p), .int fau, .int isw, .int ods, .ref (o 5), .ref (o 6)])), (o 1, .inl (g.2.1, 616, .inl (nwF v))), (o 3, .inl (g.2.1, 201, .inl (if 3 = 8 ∨ 3 = 11 then lwQ v.2.1 v.2.2.1 (v.2.2.2.2.1 0) len v.1 0 sq else sq)))]) := by
  refine Ct.walk (by decide) (Nat.le_of_ble_eq_true rfl) ?_
  intro p0 e0 s0 m0 below meth c0 A0 ls Q hQ E hr hnm hw hl
  have hx := E.x
  have hb := E.b
  have hl : lv_has ls 2 [(0, .ref (o 0)), (1, .int 3)] := hl
  refine lv_iload_n hx hb dX8_tellTrain_0 rfl (lv_at hl 1 rfl) ?_
  refine x_sw (v := 3) (off := 90) (tgt := 91) hx hb dX8_tellTrain_1 rfl (by decide) (by decide) (by decide) (by decide) ?_
  refine lv_aload_n hx hb dX8_tellTrain_91 rfl (lv_at hl 0 rfl) ?_
  refine x_get E hw kf_X8_7 0 rfl rfl dX8_tellTrain_92 ?_
  refine lv_bipush (v := 10) hx hb dX8_tellTrain_95 (by decide) ?_
  refine x_ld (v := v.2.2.2.2.2.2.2.1) E hw 1 rfl 10 rfl (by omega) (by decide) rfl dX8_tellTrain_97 ?_
  exact xr_i hQ E hr hw dX8_tellTrain_98 ⟨rfl, rfl⟩

set_option maxRecDepth 100000 in
set_option maxHeartbeats 4000000 in
theorem c_X8_tellTrain_4 (l : Launch) (g : xCfg) (o : Nat → Nat) (hs : Nat) (bads : Int32) (nos : Int32) (fuls : Int32) (cau : Int32) (whe : Int32) (cnt : Nat) (p : Nat) (fau : Int32) (isw : Int32) (ods : Int32) (v : SV) (sq : Nat → Int32) (len : Nat) (yq : Nat) (hL1 : 1 ≤ v.1) (hL : v.1 ≤ 200) (hlen : v.2.2.2.2.1 2 = nI len) (hl1 : 1 ≤ len) (hl2 : len ≤ 30) (hQs : ∀ x, x < v.1 → 0 ≤ (lwQ v.2.1 v.2.2.1 (v.2.2.2.2.1 0) len v.1 0 sq) x ∧ (lwQ v.2.1 v.2.2.1 (v.2.2.2.2.1 0) len v.1 0 sq) x ≤ 3600) (hf : v.2.2.2.2.2.1 < 200) (hqy : v.2.2.2.2.2.2.1 = nI yq) (hyq : yq < 2 ^ 30) : Ct l g yX8_tellTrain cX8_tellTrain 2 (some .int) (xR 5 114) [.ref (o 0), .int 4] [(o 0, .inr (8, [.ref (o 1), .ref (o 2), .int (nI hs), .int bads, .int nos, .int fuls, .int cau, .int whe, .ref (o 3), .ref (o 4), .int (nI cnt), .int (nI p), .int fau, .int isw, .int ods, .ref (o 5), .ref (o 6)])), (o 1, .inl (g.2.1, 616, .inl (nwF v))), (o 3, .inl (g.2.1, 201, .inl sq))] (is1 (some (.int (trvF v.1 v.2.2.1 v.2.2.2.2.1 (lwQ v.2.1 v.2.2.1 (v.2.2.2.2.1 0) len v.1 0 sq) v.2.2.2.2.2 4))) [(o 0, .inr (8, [.ref (o 1), .ref (o 2), .int (nI hs), .int bads, .int nos, .int fuls, .int cau, .int whe, .ref (o 3), .ref (o 4), .int (nI cnt), .int (nI p), .int fau, .int isw, .int ods, .ref (o 5), .ref (o 6)])), (o 1, .inl (g.2.1, 616, .inl (nwF v))), (o 3, .inl (g.2.1, 201, .inl (if 4 = 8 ∨ 4 = 11 then lwQ v.2.1 v.2.2.1 (v.2.2.2.2.1 0) len v.1 0 sq else sq)))]) := by
  refine Ct.walk (by decide) (Nat.le_of_ble_eq_true rfl) ?_
  intro p0 e0 s0 m0 below meth c0 A0 ls Q hQ E hr hnm hw hl
  have hx := E.x
  have hb := E.b
  have hl : lv_has ls 2 [(0, .ref (o 0)), (1, .int 4)] := hl
  refine lv_iload_n hx hb dX8_tellTrain_0 rfl (lv_at hl 1 rfl) ?_
  refine x_sw (v := 4) (off := 98) (tgt := 99) hx hb dX8_tellTrain_1 rfl (by decide) (by decide) (by decide) (by decide) ?_
  refine lv_aload_n hx hb dX8_tellTrain_99 rfl (lv_at hl 0 rfl) ?_
  refine x_get E hw kf_X8_7 0 rfl rfl dX8_tellTrain_100 ?_
  refine lv_bipush (v := 11) hx hb dX8_tellTrain_103 (by decide) ?_
  refine x_ld (v := v.2.2.2.2.2.2.2.2.1) E hw 1 rfl 11 rfl (by omega) (by decide) rfl dX8_tellTrain_105 ?_
  exact xr_i hQ E hr hw dX8_tellTrain_106 ⟨rfl, rfl⟩

set_option maxRecDepth 100000 in
set_option maxHeartbeats 4000000 in
theorem c_X8_tellTrain_5 (l : Launch) (g : xCfg) (o : Nat → Nat) (hs : Nat) (bads : Int32) (nos : Int32) (fuls : Int32) (cau : Int32) (whe : Int32) (cnt : Nat) (p : Nat) (fau : Int32) (isw : Int32) (ods : Int32) (v : SV) (sq : Nat → Int32) (len : Nat) (yq : Nat) (hL1 : 1 ≤ v.1) (hL : v.1 ≤ 200) (hlen : v.2.2.2.2.1 2 = nI len) (hl1 : 1 ≤ len) (hl2 : len ≤ 30) (hQs : ∀ x, x < v.1 → 0 ≤ (lwQ v.2.1 v.2.2.1 (v.2.2.2.2.1 0) len v.1 0 sq) x ∧ (lwQ v.2.1 v.2.2.1 (v.2.2.2.2.1 0) len v.1 0 sq) x ≤ 3600) (hf : v.2.2.2.2.2.1 < 200) (hqy : v.2.2.2.2.2.2.1 = nI yq) (hyq : yq < 2 ^ 30) : Ct l g yX8_tellTrain cX8_tellTrain 2 (some .int) (xR 5 114) [.ref (o 0), .int 5] [(o 0, .inr (8, [.ref (o 1), .ref (o 2), .int (nI hs), .int bads, .int nos, .int fuls, .int cau, .int whe, .ref (o 3), .ref (o 4), .int (nI cnt), .int (nI p), .int fau, .int isw, .int ods, .ref (o 5), .ref (o 6)])), (o 1, .inl (g.2.1, 616, .inl (nwF v))), (o 3, .inl (g.2.1, 201, .inl sq))] (is1 (some (.int (trvF v.1 v.2.2.1 v.2.2.2.2.1 (lwQ v.2.1 v.2.2.1 (v.2.2.2.2.1 0) len v.1 0 sq) v.2.2.2.2.2 5))) [(o 0, .inr (8, [.ref (o 1), .ref (o 2), .int (nI hs), .int bads, .int nos, .int fuls, .int cau, .int whe, .ref (o 3), .ref (o 4), .int (nI cnt), .int (nI p), .int fau, .int isw, .int ods, .ref (o 5), .ref (o 6)])), (o 1, .inl (g.2.1, 616, .inl (nwF v))), (o 3, .inl (g.2.1, 201, .inl (if 5 = 8 ∨ 5 = 11 then lwQ v.2.1 v.2.2.1 (v.2.2.2.2.1 0) len v.1 0 sq else sq)))]) := by
  refine Ct.walk (by decide) (Nat.le_of_ble_eq_true rfl) ?_
  intro p0 e0 s0 m0 below meth c0 A0 ls Q hQ E hr hnm hw hl
  have hx := E.x
  have hb := E.b
  have hl : lv_has ls 2 [(0, .ref (o 0)), (1, .int 5)] := hl
  refine lv_iload_n hx hb dX8_tellTrain_0 rfl (lv_at hl 1 rfl) ?_
  refine x_sw (v := 5) (off := 106) (tgt := 107) hx hb dX8_tellTrain_1 rfl (by decide) (by decide) (by decide) (by decide) ?_
  refine lv_aload_n hx hb dX8_tellTrain_107 rfl (lv_at hl 0 rfl) ?_
  refine x_get E hw kf_X8_7 0 rfl rfl dX8_tellTrain_108 ?_
  refine lv_bipush (v := 12) hx hb dX8_tellTrain_111 (by decide) ?_
  refine x_ld (v := v.2.2.2.2.2.2.2.2.2.1) E hw 1 rfl 12 rfl (by omega) (by decide) rfl dX8_tellTrain_113 ?_
  exact xr_i hQ E hr hw dX8_tellTrain_114 ⟨rfl, rfl⟩

set_option maxRecDepth 100000 in
set_option maxHeartbeats 4000000 in
theorem c_X8_tellTrain_6 (l : Launch) (g : xCfg) (o : Nat → Nat) (hs : Nat) (bads : Int32) (nos : Int32) (fuls : Int32) (cau : Int32) (whe : Int32) (cnt : Nat) (p : Nat) (fau : Int32) (isw : Int32) (ods : Int32) (v : SV) (sq : Nat → Int32) (len : Nat) (yq : Nat) (hL1 : 1 ≤ v.1) (hL : v.1 ≤ 200) (hlen : v.2.2.2.2.1 2 = nI len) (hl1 : 1 ≤ len) (hl2 : len ≤ 30) (hQs : ∀ x, x < v.1 → 0 ≤ (lwQ v.2.1 v.2.2.1 (v.2.2.2.2.1 0) len v.1 0 sq) x ∧ (lwQ v.2.1 v.2.2.1 (v.2.2.2.2.1 0) len v.1 0 sq) x ≤ 3600) (hf : v.2.2.2.2.2.1 < 200) (hqy : v.2.2.2.2.2.2.1 = nI yq) (hyq : yq < 2 ^ 30) : Ct l g yX8_tellTrain cX8_tellTrain 2 (some .int) (xR 5 114) [.ref (o 0), .int 6] [(o 0, .inr (8, [.ref (o 1), .ref (o 2), .int (nI hs), .int bads, .int nos, .int fuls, .int cau, .int whe, .ref (o 3), .ref (o 4), .int (nI cnt), .int (nI p), .int fau, .int isw, .int ods, .ref (o 5), .ref (o 6)])), (o 1, .inl (g.2.1, 616, .inl (nwF v))), (o 3, .inl (g.2.1, 201, .inl sq))] (is1 (some (.int (trvF v.1 v.2.2.1 v.2.2.2.2.1 (lwQ v.2.1 v.2.2.1 (v.2.2.2.2.1 0) len v.1 0 sq) v.2.2.2.2.2 6))) [(o 0, .inr (8, [.ref (o 1), .ref (o 2), .int (nI hs), .int bads, .int nos, .int fuls, .int cau, .int whe, .ref (o 3), .ref (o 4), .int (nI cnt), .int (nI p), .int fau, .int isw, .int ods, .ref (o 5), .ref (o 6)])), (o 1, .inl (g.2.1, 616, .inl (nwF v))), (o 3, .inl (g.2.1, 201, .inl (if 6 = 8 ∨ 6 = 11 then lwQ v.2.1 v.2.2.1 (v.2.2.2.2.1 0) len v.1 0 sq else sq)))]) := by
  refine Ct.walk (by decide) (Nat.le_of_ble_eq_true rfl) ?_
  intro p0 e0 s0 m0 below meth c0 A0 ls Q hQ E hr hnm hw hl
  have hx := E.x
  have hb := E.b
  have hl : lv_has ls 2 [(0, .ref (o 0)), (1, .int 6)] := hl
  refine lv_iload_n hx hb dX8_tellTrain_0 rfl (lv_at hl 1 rfl) ?_
  refine x_sw (v := 6) (off := 114) (tgt := 115) hx hb dX8_tellTrain_1 rfl (by decide) (by decide) (by decide) (by decide) ?_
  refine lv_aload_n hx hb dX8_tellTrain_115 rfl (lv_at hl 0 rfl) ?_
  refine x_goR (st1 := [.int (nI (kpt v.1 (v.2.2.2.2.2.2.2.2.1 / 1000)))]) E hw [0, 1] rfl (x_runV (rest := []) E hw (c_X8_first l g o hs bads nos fuls cau whe cnt p fau isw ods v (by omega) (by omega)) km_X8_113 kv_X8_first [0, 1] rfl (by decide) 0 rfl hl.1 rfl rfl (Nat.le_of_ble_eq_true rfl) ⟨Nat.le_of_ble_eq_true rfl, Nat.le_of_ble_eq_true rfl⟩ ⟨Nat.zero_le _, Nat.zero_le _⟩ dX8_tellTrain_116) rfl (fun H locs hw => ?_)
  exact xr_i hQ E hr hw dX8_tellTrain_119 ⟨rfl, rfl⟩

set_option maxRecDepth 100000 in
set_option maxHeartbeats 4000000 in
theorem c_X8_tellTrain_7 (l : Launch) (g : xCfg) (o : Nat → Nat) (hs : Nat) (bads : Int32) (nos : Int32) (fuls : Int32) (cau : Int32) (whe : Int32) (cnt : Nat) (p : Nat) (fau : Int32) (isw : Int32) (ods : Int32) (v : SV) (sq : Nat → Int32) (len : Nat) (yq : Nat) (hL1 : 1 ≤ v.1) (hL : v.1 ≤ 200) (hlen : v.2.2.2.2.1 2 = nI len) (hl1 : 1 ≤ len) (hl2 : len ≤ 30) (hQs : ∀ x, x < v.1 → 0 ≤ (lwQ v.2.1 v.2.2.1 (v.2.2.2.2.1 0) len v.1 0 sq) x ∧ (lwQ v.2.1 v.2.2.1 (v.2.2.2.2.1 0) len v.1 0 sq) x ≤ 3600) (hf : v.2.2.2.2.2.1 < 200) (hqy : v.2.2.2.2.2.2.1 = nI yq) (hyq : yq < 2 ^ 30) : Ct l g yX8_tellTrain cX8_tellTrain 2 (some .int) (xR 5 114) [.ref (o 0), .int 7] [(o 0, .inr (8, [.ref (o 1), .ref (o 2), .int (nI hs), .int bads, .int nos, .int fuls, .int cau, .int whe, .ref (o 3), .ref (o 4), .int (nI cnt), .int (nI p), .int fau, .int isw, .int ods, .ref (o 5), .ref (o 6)])), (o 1, .inl (g.2.1, 616, .inl (nwF v))), (o 3, .inl (g.2.1, 201, .inl sq))] (is1 (some (.int (trvF v.1 v.2.2.1 v.2.2.2.2.1 (lwQ v.2.1 v.2.2.1 (v.2.2.2.2.1 0) len v.1 0 sq) v.2.2.2.2.2 7))) [(o 0, .inr (8, [.ref (o 1), .ref (o 2), .int (nI hs), .int bads, .int nos, .int fuls, .int cau, .int whe, .ref (o 3), .ref (o 4), .int (nI cnt), .int (nI p), .int fau, .int isw, .int ods, .ref (o 5), .ref (o 6)])), (o 1, .inl (g.2.1, 616, .inl (nwF v))), (o 3, .inl (g.2.1, 201, .inl (if 7 = 8 ∨ 7 = 11 then lwQ v.2.1 v.2.2.1 (v.2.2.2.2.1 0) len v.1 0 sq else sq)))]) := by
  refine Ct.walk (by decide) (Nat.le_of_ble_eq_true rfl) ?_
  intro p0 e0 s0 m0 below meth c0 A0 ls Q hQ E hr hnm hw hl
  have hx := E.x
  have hb := E.b
  have hl : lv_has ls 2 [(0, .ref (o 0)), (1, .int 7)] := hl
  refine lv_iload_n hx hb dX8_tellTrain_0 rfl (lv_at hl 1 rfl) ?_
  refine x_sw (v := 7) (off := 119) (tgt := 120) hx hb dX8_tellTrain_1 rfl (by decide) (by decide) (by decide) (by decide) ?_
  refine lv_aload_n hx hb dX8_tellTrain_120 rfl (lv_at hl 0 rfl) ?_
  refine x_goR (st1 := [.int (nI (kpt v.1 ((v.2.2.2.2.2.2.2.2.2.1 + 999) / 1000)))]) E hw [0, 1] rfl (x_runV (rest := []) E hw (c_X8_last l g o hs bads nos fuls cau whe cnt p fau isw ods v (by omega) (by omega)) km_X8_116 kv_X8_last [0, 1] rfl (by decide) 0 rfl hl.1 rfl rfl (Nat.le_of_ble_eq_true rfl) ⟨Nat.le_of_ble_eq_true rfl, Nat.le_of_ble_eq_true rfl⟩ ⟨Nat.zero_le _, Nat.zero_le _⟩ dX8_tellTrain_121) rfl (fun H locs hw => ?_)
  exact xr_i hQ E hr hw dX8_tellTrain_124 ⟨rfl, rfl⟩

set_option maxRecDepth 100000 in
set_option maxHeartbeats 4000000 in
theorem c_X8_tellTrain_8 (l : Launch) (g : xCfg) (o : Nat → Nat) (hs : Nat) (bads : Int32) (nos : Int32) (fuls : Int32) (cau : Int32) (whe : Int32) (cnt : Nat) (p : Nat) (fau : Int32) (isw : Int32) (ods : Int32) (v : SV) (sq : Nat → Int32) (len : Nat) (yq : Nat) (hL1 : 1 ≤ v.1) (hL : v.1 ≤ 200) (hlen : v.2.2.2.2.1 2 = nI len) (hl1 : 1 ≤ len) (hl2 : len ≤ 30) (hQs : ∀ x, x < v.1 → 0 ≤ (lwQ v.2.1 v.2.2.1 (v.2.2.2.2.1 0) len v.1 0 sq) x ∧ (lwQ v.2.1 v.2.2.1 (v.2.2.2.2.1 0) len v.1 0 sq) x ≤ 3600) (hf : v.2.2.2.2.2.1 < 200) (hqy : v.2.2.2.2.2.2.1 = nI yq) (hyq : yq < 2 ^ 30) : Ct l g yX8_tellTrain cX8_tellTrain 2 (some .int) (xR 5 114) [.ref (o 0), .int 8] [(o 0, .inr (8, [.ref (o 1), .ref (o 2), .int (nI hs), .int bads, .int nos, .int fuls, .int cau, .int whe, .ref (o 3), .ref (o 4), .int (nI cnt), .int (nI p), .int fau, .int isw, .int ods, .ref (o 5), .ref (o 6)])), (o 1, .inl (g.2.1, 616, .inl (nwF v))), (o 3, .inl (g.2.1, 201, .inl sq))] (is1 (some (.int (trvF v.1 v.2.2.1 v.2.2.2.2.1 (lwQ v.2.1 v.2.2.1 (v.2.2.2.2.1 0) len v.1 0 sq) v.2.2.2.2.2 8))) [(o 0, .inr (8, [.ref (o 1), .ref (o 2), .int (nI hs), .int bads, .int nos, .int fuls, .int cau, .int whe, .ref (o 3), .ref (o 4), .int (nI cnt), .int (nI p), .int fau, .int isw, .int ods, .ref (o 5), .ref (o 6)])), (o 1, .inl (g.2.1, 616, .inl (nwF v))), (o 3, .inl (g.2.1, 201, .inl (if 8 = 8 ∨ 8 = 11 then lwQ v.2.1 v.2.2.1 (v.2.2.2.2.1 0) len v.1 0 sq else sq)))]) := by
  refine Ct.walk (by decide) (Nat.le_of_ble_eq_true rfl) ?_
  intro p0 e0 s0 m0 below meth c0 A0 ls Q hQ E hr hnm hw hl
  have hx := E.x
  have hb := E.b
  have hl : lv_has ls 2 [(0, .ref (o 0)), (1, .int 8)] := hl
  refine lv_iload_n hx hb dX8_tellTrain_0 rfl (lv_at hl 1 rfl) ?_
  refine x_sw (v := 8) (off := 124) (tgt := 125) hx hb dX8_tellTrain_1 rfl (by decide) (by decide) (by decide) (by decide) ?_
  refine lv_aload_n hx hb dX8_tellTrain_125 rfl (lv_at hl 0 rfl) ?_
  refine x_go (ws' := [(o 0, .inr (8, [.ref (o 1), .ref (o 2), .int (nI hs), .int bads, .int nos, .int fuls, .int cau, .int whe, .ref (o 3), .ref (o 4), .int (nI cnt), .int (nI p), .int fau, .int isw, .int ods, .ref (o 5), .ref (o 6)])), (o 1, .inl (g.2.1, 616, .inl (nwF v))), (o 3, .inl (g.2.1, 201, .inl (lwQ v.2.1 v.2.2.1 (v.2.2.2.2.1 0) len v.1 0 sq)))]) (st1 := [.int (nI (seenN v.1 v.2.2.2.2.2.2.2.2.1 v.2.2.2.2.2.2.2.2.2.1 (lwQ v.2.1 v.2.2.1 (v.2.2.2.2.1 0) len v.1 0 sq)))]) E hw [0, 1, 2] rfl (x_runV (rest := []) E hw (c_X8_sees l g o hs bads nos fuls cau whe cnt p fau isw ods v sq len (by omega) (by omega) hlen (by omega) (by omega) hQs) km_X8_122 kv_X8_sees [0, 1, 2] rfl (by decide) 0 rfl hl.1 rfl rfl (Nat.le_of_ble_eq_true rfl) ⟨Nat.le_of_ble_eq_true rfl, Nat.le_of_ble_eq_true rfl⟩ ⟨Nat.zero_le _, Nat.zero_le _⟩ dX8_tellTrain_126) rfl rfl rfl (fun H locs hw => ?_)
  exact xr_i hQ E hr hw dX8_tellTrain_129 ⟨rfl, rfl⟩

set_option maxRecDepth 100000 in
set_option maxHeartbeats 4000000 in
theorem c_X8_tellTrain_9 (l : Launch) (g : xCfg) (o : Nat → Nat) (hs : Nat) (bads : Int32) (nos : Int32) (fuls : Int32) (cau : Int32) (whe : Int32) (cnt : Nat) (p : Nat) (fau : Int32) (isw : Int32) (ods : Int32) (v : SV) (sq : Nat → Int32) (len : Nat) (yq : Nat) (hL1 : 1 ≤ v.1) (hL : v.1 ≤ 200) (hlen : v.2.2.2.2.1 2 = nI len) (hl1 : 1 ≤ len) (hl2 : len ≤ 30) (hQs : ∀ x, x < v.1 → 0 ≤ (lwQ v.2.1 v.2.2.1 (v.2.2.2.2.1 0) len v.1 0 sq) x ∧ (lwQ v.2.1 v.2.2.1 (v.2.2.2.2.1 0) len v.1 0 sq) x ≤ 3600) (hf : v.2.2.2.2.2.1 < 200) (hqy : v.2.2.2.2.2.2.1 = nI yq) (hyq : yq < 2 ^ 30) : Ct l g yX8_tellTrain cX8_tellTrain 2 (some .int) (xR 5 114) [.ref (o 0), .int 9] [(o 0, .inr (8, [.ref (o 1), .ref (o 2), .int (nI hs), .int bads, .int nos, .int fuls, .int cau, .int whe, .ref (o 3), .ref (o 4), .int (nI cnt), .int (nI p), .int fau, .int isw, .int ods, .ref (o 5), .ref (o 6)])), (o 1, .inl (g.2.1, 616, .inl (nwF v))), (o 3, .inl (g.2.1, 201, .inl sq))] (is1 (some (.int (trvF v.1 v.2.2.1 v.2.2.2.2.1 (lwQ v.2.1 v.2.2.1 (v.2.2.2.2.1 0) len v.1 0 sq) v.2.2.2.2.2 9))) [(o 0, .inr (8, [.ref (o 1), .ref (o 2), .int (nI hs), .int bads, .int nos, .int fuls, .int cau, .int whe, .ref (o 3), .ref (o 4), .int (nI cnt), .int (nI p), .int fau, .int isw, .int ods, .ref (o 5), .ref (o 6)])), (o 1, .inl (g.2.1, 616, .inl (nwF v))), (o 3, .inl (g.2.1, 201, .inl (if 9 = 8 ∨ 9 = 11 then lwQ v.2.1 v.2.2.1 (v.2.2.2.2.1 0) len v.1 0 sq else sq)))]) := by
  refine Ct.walk (by decide) (Nat.le_of_ble_eq_true rfl) ?_
  intro p0 e0 s0 m0 below meth c0 A0 ls Q hQ E hr hnm hw hl
  have hx := E.x
  have hb := E.b
  have hl : lv_has ls 2 [(0, .ref (o 0)), (1, .int 9)] := hl
  refine lv_iload_n hx hb dX8_tellTrain_0 rfl (lv_at hl 1 rfl) ?_
  refine x_sw (v := 9) (off := 129) (tgt := 130) hx hb dX8_tellTrain_1 rfl (by decide) (by decide) (by decide) (by decide) ?_
  refine lv_aload_n hx hb dX8_tellTrain_130 rfl (lv_at hl 0 rfl) ?_
  refine x_get E hw kf_X8_7 0 rfl rfl dX8_tellTrain_131 ?_
  refine lv_bipush (v := 13) hx hb dX8_tellTrain_134 (by decide) ?_
  refine x_ld (v := v.2.2.2.2.2.2.2.2.2.2.1) E hw 1 rfl 13 rfl (by omega) (by decide) rfl dX8_tellTrain_136 ?_
  exact xr_i hQ E hr hw dX8_tellTrain_137 ⟨rfl, rfl⟩

set_option maxRecDepth 100000 in
set_option maxHeartbeats 4000000 in
theorem c_X8_tellTrain_10 (l : Launch) (g : xCfg) (o : Nat → Nat) (hs : Nat) (bads : Int32) (nos : Int32) (fuls : Int32) (cau : Int32) (whe : Int32) (cnt : Nat) (p : Nat) (fau : Int32) (isw : Int32) (ods : Int32) (v : SV) (sq : Nat → Int32) (len : Nat) (yq : Nat) (hL1 : 1 ≤ v.1) (hL : v.1 ≤ 200) (hlen : v.2.2.2.2.1 2 = nI len) (hl1 : 1 ≤ len) (hl2 : len ≤ 30) (hQs : ∀ x, x < v.1 → 0 ≤ (lwQ v.2.1 v.2.2.1 (v.2.2.2.2.1 0) len v.1 0 sq) x ∧ (lwQ v.2.1 v.2.2.1 (v.2.2.2.2.1 0) len v.1 0 sq) x ≤ 3600) (hf : v.2.2.2.2.2.1 < 200) (hqy : v.2.2.2.2.2.2.1 = nI yq) (hyq : yq < 2 ^ 30) : Ct l g yX8_tellTrain cX8_tellTrain 2 (some .int) (xR 5 114) [.ref (o 0), .int 10] [(o 0, .inr (8, [.ref (o 1), .ref (o 2), .int (nI hs), .int bads, .int nos, .int fuls, .int cau, .int whe, .ref (o 3), .ref (o 4), .int (nI cnt), .int (nI p), .int fau, .int isw, .int ods, .ref (o 5), .ref (o 6)])), (o 1, .inl (g.2.1, 616, .inl (nwF v))), (o 3, .inl (g.2.1, 201, .inl sq))] (is1 (some (.int (trvF v.1 v.2.2.1 v.2.2.2.2.1 (lwQ v.2.1 v.2.2.1 (v.2.2.2.2.1 0) len v.1 0 sq) v.2.2.2.2.2 10))) [(o 0, .inr (8, [.ref (o 1), .ref (o 2), .int (nI hs), .int bads, .int nos, .int fuls, .int cau, .int whe, .ref (o 3), .ref (o 4), .int (nI cnt), .int (nI p), .int fau, .int isw, .int ods, .ref (o 5), .ref (o 6)])), (o 1, .inl (g.2.1, 616, .inl (nwF v))), (o 3, .inl (g.2.1, 201, .inl (if 10 = 8 ∨ 10 = 11 then lwQ v.2.1 v.2.2.1 (v.2.2.2.2.1 0) len v.1 0 sq else sq)))]) := by
  refine Ct.walk (by decide) (Nat.le_of_ble_eq_true rfl) ?_
  intro p0 e0 s0 m0 below meth c0 A0 ls Q hQ E hr hnm hw hl
  have hx := E.x
  have hb := E.b
  have hl : lv_has ls 2 [(0, .ref (o 0)), (1, .int 10)] := hl
  refine lv_iload_n hx hb dX8_tellTrain_0 rfl (lv_at hl 1 rfl) ?_
  refine x_sw (v := 10) (off := 137) (tgt := 138) hx hb dX8_tellTrain_1 rfl (by decide) (by decide) (by decide) (by decide) ?_
  refine lv_aload_n hx hb dX8_tellTrain_138 rfl (lv_at hl 0 rfl) ?_
  refine x_get E hw kf_X8_7 0 rfl rfl dX8_tellTrain_139 ?_
  refine lv_bipush (v := 14) hx hb dX8_tellTrain_142 (by decide) ?_
  refine x_ld (v := v.2.2.2.2.2.2.2.2.2.2.2.1) E hw 1 rfl 14 rfl (by omega) (by decide) rfl dX8_tellTrain_144 ?_
  exact xr_i hQ E hr hw dX8_tellTrain_145 ⟨rfl, rfl⟩

set_option maxRecDepth 100000 in
set_option maxHeartbeats 4000000 in
theorem c_X8_tellTrain_11 (l : Launch) (g : xCfg) (o : Nat → Nat) (hs : Nat) (bads : Int32) (nos : Int32) (fuls : Int32) (cau : Int32) (whe : Int32) (cnt : Nat) (p : Nat) (fau : Int32) (isw : Int32) (ods : Int32) (v : SV) (sq : Nat → Int32) (len : Nat) (yq : Nat) (hL1 : 1 ≤ v.1) (hL : v.1 ≤ 200) (hlen : v.2.2.2.2.1 2 = nI len) (hl1 : 1 ≤ len) (hl2 : len ≤ 30) (hQs : ∀ x, x < v.1 → 0 ≤ (lwQ v.2.1 v.2.2.1 (v.2.2.2.2.1 0) len v.1 0 sq) x ∧ (lwQ v.2.1 v.2.2.1 (v.2.2.2.2.1 0) len v.1 0 sq) x ≤ 3600) (hf : v.2.2.2.2.2.1 < 200) (hqy : v.2.2.2.2.2.2.1 = nI yq) (hyq : yq < 2 ^ 30) : Ct l g yX8_tellTrain cX8_tellTrain 2 (some .int) (xR 5 114) [.ref (o 0), .int 11] [(o 0, .inr (8, [.ref (o 1), .ref (o 2), .int (nI hs), .int bads, .int nos, .int fuls, .int cau, .int whe, .ref (o 3), .ref (o 4), .int (nI cnt), .int (nI p), .int fau, .int isw, .int ods, .ref (o 5), .ref (o 6)])), (o 1, .inl (g.2.1, 616, .inl (nwF v))), (o 3, .inl (g.2.1, 201, .inl sq))] (is1 (some (.int (trvF v.1 v.2.2.1 v.2.2.2.2.1 (lwQ v.2.1 v.2.2.1 (v.2.2.2.2.1 0) len v.1 0 sq) v.2.2.2.2.2 11))) [(o 0, .inr (8, [.ref (o 1), .ref (o 2), .int (nI hs), .int bads, .int nos, .int fuls, .int cau, .int whe, .ref (o 3), .ref (o 4), .int (nI cnt), .int (nI p), .int fau, .int isw, .int ods, .ref (o 5), .ref (o 6)])), (o 1, .inl (g.2.1, 616, .inl (nwF v))), (o 3, .inl (g.2.1, 201, .inl (if 11 = 8 ∨ 11 = 11 then lwQ v.2.1 v.2.2.1 (v.2.2.2.2.1 0) len v.1 0 sq else sq)))]) := by
  refine Ct.walk (by decide) (Nat.le_of_ble_eq_true rfl) ?_
  intro p0 e0 s0 m0 below meth c0 A0 ls Q hQ E hr hnm hw hl
  have hx := E.x
  have hb := E.b
  have hl : lv_has ls 2 [(0, .ref (o 0)), (1, .int 11)] := hl
  refine lv_iload_n hx hb dX8_tellTrain_0 rfl (lv_at hl 1 rfl) ?_
  refine x_sw (v := 11) (off := 145) (tgt := 146) hx hb dX8_tellTrain_1 rfl (by decide) (by decide) (by decide) (by decide) ?_
  refine lv_aload_n hx hb dX8_tellTrain_146 rfl (lv_at hl 0 rfl) ?_
  refine x_go (ws' := [(o 0, .inr (8, [.ref (o 1), .ref (o 2), .int (nI hs), .int bads, .int nos, .int fuls, .int cau, .int whe, .ref (o 3), .ref (o 4), .int (nI cnt), .int (nI p), .int fau, .int isw, .int ods, .ref (o 5), .ref (o 6)])), (o 1, .inl (g.2.1, 616, .inl (nwF v))), (o 3, .inl (g.2.1, 201, .inl (lwQ v.2.1 v.2.2.1 (v.2.2.2.2.1 0) len v.1 0 sq)))]) (st1 := [.int (drvH v.1 v.2.2.1 v.2.2.2.2.1 (lwQ v.2.1 v.2.2.1 (v.2.2.2.2.1 0) len v.1 0 sq) v.2.2.2.2.2)]) E hw [0, 1, 2] rfl (x_runV (rest := []) E hw (c_X8_handle l g o hs bads nos fuls cau whe cnt p fau isw ods v sq len (by omega) (by omega) hlen (by omega) (by omega) (by omega)) km_X8_134 kv_X8_handle [0, 1, 2] rfl (by decide) 0 rfl hl.1 rfl rfl (Nat.le_of_ble_eq_true rfl) ⟨Nat.le_of_ble_eq_true rfl, Nat.le_of_ble_eq_true rfl⟩ ⟨Nat.zero_le _, Nat.zero_le _⟩ dX8_tellTrain_147) rfl rfl rfl (fun H locs hw => ?_)
  refine lv_iconst (v := 1) hx hb dX8_tellTrain_150 (by decide) ?_
  refine lv_iadd hx hb dX8_tellTrain_151 ?_
  exact xr_i hQ E hr hw dX8_tellTrain_152 ⟨rfl, rfl⟩

set_option maxRecDepth 100000 in
set_option maxHeartbeats 4000000 in
theorem c_X8_tellTrain_12 (l : Launch) (g : xCfg) (o : Nat → Nat) (hs : Nat) (bads : Int32) (nos : Int32) (fuls : Int32) (cau : Int32) (whe : Int32) (cnt : Nat) (p : Nat) (fau : Int32) (isw : Int32) (ods : Int32) (v : SV) (sq : Nat → Int32) (len : Nat) (yq : Nat) (hL1 : 1 ≤ v.1) (hL : v.1 ≤ 200) (hlen : v.2.2.2.2.1 2 = nI len) (hl1 : 1 ≤ len) (hl2 : len ≤ 30) (hQs : ∀ x, x < v.1 → 0 ≤ (lwQ v.2.1 v.2.2.1 (v.2.2.2.2.1 0) len v.1 0 sq) x ∧ (lwQ v.2.1 v.2.2.1 (v.2.2.2.2.1 0) len v.1 0 sq) x ≤ 3600) (hf : v.2.2.2.2.2.1 < 200) (hqy : v.2.2.2.2.2.2.1 = nI yq) (hyq : yq < 2 ^ 30) : Ct l g yX8_tellTrain cX8_tellTrain 2 (some .int) (xR 5 114) [.ref (o 0), .int 12] [(o 0, .inr (8, [.ref (o 1), .ref (o 2), .int (nI hs), .int bads, .int nos, .int fuls, .int cau, .int whe, .ref (o 3), .ref (o 4), .int (nI cnt), .int (nI p), .int fau, .int isw, .int ods, .ref (o 5), .ref (o 6)])), (o 1, .inl (g.2.1, 616, .inl (nwF v))), (o 3, .inl (g.2.1, 201, .inl sq))] (is1 (some (.int (trvF v.1 v.2.2.1 v.2.2.2.2.1 (lwQ v.2.1 v.2.2.1 (v.2.2.2.2.1 0) len v.1 0 sq) v.2.2.2.2.2 12))) [(o 0, .inr (8, [.ref (o 1), .ref (o 2), .int (nI hs), .int bads, .int nos, .int fuls, .int cau, .int whe, .ref (o 3), .ref (o 4), .int (nI cnt), .int (nI p), .int fau, .int isw, .int ods, .ref (o 5), .ref (o 6)])), (o 1, .inl (g.2.1, 616, .inl (nwF v))), (o 3, .inl (g.2.1, 201, .inl (if 12 = 8 ∨ 12 = 11 then lwQ v.2.1 v.2.2.1 (v.2.2.2.2.1 0) len v.1 0 sq else sq)))]) := by
  refine Ct.walk (by decide) (Nat.le_of_ble_eq_true rfl) ?_
  intro p0 e0 s0 m0 below meth c0 A0 ls Q hQ E hr hnm hw hl
  have hx := E.x
  have hb := E.b
  have hl : lv_has ls 2 [(0, .ref (o 0)), (1, .int 12)] := hl
  refine lv_iload_n hx hb dX8_tellTrain_0 rfl (lv_at hl 1 rfl) ?_
  refine lv_tableOut (tgt := 153) hx hb dX8_tellTrain_1 (by decide) (by decide) ?_
  refine lv_aload_n hx hb dX8_tellTrain_153 rfl (lv_at hl 0 rfl) ?_
  refine x_get E hw kf_X8_7 0 rfl rfl dX8_tellTrain_154 ?_
  refine lv_bipush (v := 15) hx hb dX8_tellTrain_157 (by decide) ?_
  refine x_ld (v := v.2.2.2.2.2.2.2.2.2.2.2.2) E hw 1 rfl 15 rfl (by omega) (by decide) rfl dX8_tellTrain_159 ?_
  exact xr_i hQ E hr hw dX8_tellTrain_160 ⟨rfl, rfl⟩

set_option maxRecDepth 100000 in
theorem c_X8_tellTrain (l : Launch) (g : xCfg) (o : Nat → Nat) (hs : Nat) (bads : Int32) (nos : Int32) (fuls : Int32) (cau : Int32) (whe : Int32) (cnt : Nat) (p : Nat) (fau : Int32) (isw : Int32) (ods : Int32) (v : SV) (sq : Nat → Int32) (len : Nat) (yq : Nat) (w : Nat) (hL1 : 1 ≤ v.1) (hL : v.1 ≤ 200) (hlen : v.2.2.2.2.1 2 = nI len) (hl1 : 1 ≤ len) (hl2 : len ≤ 30) (hQs : ∀ x, x < v.1 → 0 ≤ (lwQ v.2.1 v.2.2.1 (v.2.2.2.2.1 0) len v.1 0 sq) x ∧ (lwQ v.2.1 v.2.2.1 (v.2.2.2.2.1 0) len v.1 0 sq) x ≤ 3600) (hf : v.2.2.2.2.2.1 < 200) (hqy : v.2.2.2.2.2.2.1 = nI yq) (hyq : yq < 2 ^ 30) (hw0 : w < 13) : Ct l g yX8_tellTrain cX8_tellTrain 2 (some .int) (xR 5 114) [.ref (o 0), .int (nI w)] [(o 0, .inr (8, [.ref (o 1), .ref (o 2), .int (nI hs), .int bads, .int nos, .int fuls, .int cau, .int whe, .ref (o 3), .ref (o 4), .int (nI cnt), .int (nI p), .int fau, .int isw, .int ods, .ref (o 5), .ref (o 6)])), (o 1, .inl (g.2.1, 616, .inl (nwF v))), (o 3, .inl (g.2.1, 201, .inl sq))] (is1 (some (.int (trvF v.1 v.2.2.1 v.2.2.2.2.1 (lwQ v.2.1 v.2.2.1 (v.2.2.2.2.1 0) len v.1 0 sq) v.2.2.2.2.2 w))) [(o 0, .inr (8, [.ref (o 1), .ref (o 2), .int (nI hs), .int bads, .int nos, .int fuls, .int cau, .int whe, .ref (o 3), .ref (o 4), .int (nI cnt), .int (nI p), .int fau, .int isw, .int ods, .ref (o 5), .ref (o 6)])), (o 1, .inl (g.2.1, 616, .inl (nwF v))), (o 3, .inl (g.2.1, 201, .inl (if w = 8 ∨ w = 11 then lwQ v.2.1 v.2.2.1 (v.2.2.2.2.1 0) len v.1 0 sq else sq)))]) := by
  match w, hw0 with
  | 0, _ => exact c_X8_tellTrain_0 l g o hs bads nos fuls cau whe cnt p fau isw ods v sq len yq hL1 hL hlen hl1 hl2 hQs hf hqy hyq
  | 1, _ => exact c_X8_tellTrain_1 l g o hs bads nos fuls cau whe cnt p fau isw ods v sq len yq hL1 hL hlen hl1 hl2 hQs hf hqy hyq
  | 2, _ => exact c_X8_tellTrain_2 l g o hs bads nos fuls cau whe cnt p fau isw ods v sq len yq hL1 hL hlen hl1 hl2 hQs hf hqy hyq
  | 3, _ => exact c_X8_tellTrain_3 l g o hs bads nos fuls cau whe cnt p fau isw ods v sq len yq hL1 hL hlen hl1 hl2 hQs hf hqy hyq
  | 4, _ => exact c_X8_tellTrain_4 l g o hs bads nos fuls cau whe cnt p fau isw ods v sq len yq hL1 hL hlen hl1 hl2 hQs hf hqy hyq
  | 5, _ => exact c_X8_tellTrain_5 l g o hs bads nos fuls cau whe cnt p fau isw ods v sq len yq hL1 hL hlen hl1 hl2 hQs hf hqy hyq
  | 6, _ => exact c_X8_tellTrain_6 l g o hs bads nos fuls cau whe cnt p fau isw ods v sq len yq hL1 hL hlen hl1 hl2 hQs hf hqy hyq
  | 7, _ => exact c_X8_tellTrain_7 l g o hs bads nos fuls cau whe cnt p fau isw ods v sq len yq hL1 hL hlen hl1 hl2 hQs hf hqy hyq
  | 8, _ => exact c_X8_tellTrain_8 l g o hs bads nos fuls cau whe cnt p fau isw ods v sq len yq hL1 hL hlen hl1 hl2 hQs hf hqy hyq
  | 9, _ => exact c_X8_tellTrain_9 l g o hs bads nos fuls cau whe cnt p fau isw ods v sq len yq hL1 hL hlen hl1 hl2 hQs hf hqy hyq
  | 10, _ => exact c_X8_tellTrain_10 l g o hs bads nos fuls cau whe cnt p fau isw ods v sq len yq hL1 hL hlen hl1 hl2 hQs hf hqy hyq
  | 11, _ => exact c_X8_tellTrain_11 l g o hs bads nos fuls cau whe cnt p fau isw ods v sq len yq hL1 hL hlen hl1 hl2 hQs hf hqy hyq
  | 12, _ => exact c_X8_tellTrain_12 l g o hs bads nos fuls cau whe cnt p fau isw ods v sq len yq hL1 hL hlen hl1 hl2 hQs hf hqy hyq
  | q + 13, hq => exact absurd hq (by omega)

set_option maxRecDepth 100000 in
set_option maxHeartbeats 4000000 in
theorem c_X8_train_ok (l : Launch) (g : xCfg) (o : Nat → Nat) (hs : Nat) (bads : Int32) (nos : Int32) (fuls : Int32) (cau : Int32) (whe : Int32) (cnt : Nat) (p : Nat) (fau : Int32) (isw : Int32) (ods : Int32) (v : SV) (P : Nat → SV) (sq : Nat → Int32) (tx : Nat → Int32) (wo : Nat → Int32) (nu : Nat → Int32) (w : Nat) (len : Nat) (yq : Nat) (hL1 : 1 ≤ v.1) (hL : v.1 ≤ 200) (hlen : v.2.2.2.2.1 2 = nI len) (hl1 : 1 ≤ len) (hl2 : len ≤ 30) (hQs : ∀ x, x < v.1 → 0 ≤ (lwQ v.2.1 v.2.2.1 (v.2.2.2.2.1 0) len v.1 0 sq) x ∧ (lwQ v.2.1 v.2.2.1 (v.2.2.2.2.1 0) len v.1 0 sq) x ≤ 3600) (hf : v.2.2.2.2.2.1 < 200) (hqy : v.2.2.2.2.2.2.1 = nI yq) (hyq : yq < 2 ^ 30) (hw0 : w < 13) : Ct l g yX8_train cX8_train 2 (some .int) (xR 6 135) [.ref (o 0), .int (nI w)] [(o 0, .inr (8, [.ref (o 1), .ref (o 2), .int (nI hs), .int bads, .int nos, .int fuls, .int cau, .int whe, .ref (o 3), .ref (o 4), .int (nI cnt), .int (nI p), .int fau, .int isw, .int ods, .ref (o 5), .ref (o 6)])), (o 1, .inl (g.2.1, 616, .inl (nwF v))), (o 2, .inl (g.2.1, 4312, .inl (pF P))), (o 3, .inl (g.2.1, 201, .inl sq)), (o 4, .inl (g.2.1, 120, .inl tx)), (o 5, .inl (g.2.1, 24, .inl wo)), (o 6, .inl (g.2.1, 72, .inl nu))] (is1 (some (.int (trvF v.1 v.2.2.1 v.2.2.2.2.1 (lwQ v.2.1 v.2.2.1 (v.2.2.2.2.1 0) len v.1 0 sq) v.2.2.2.2.2 w))) [(o 0, .inr (8, [.ref (o 1), .ref (o 2), .int (nI hs), .int bads, .int nos, .int fuls, .int cau, .int whe, .ref (o 3), .ref (o 4), .int (nI cnt), .int (nI p), .int fau, .int isw, .int ods, .ref (o 5), .ref (o 6)])), (o 1, .inl (g.2.1, 616, .inl (nwF v))), (o 2, .inl (g.2.1, 4312, .inl (pF P))), (o 3, .inl (g.2.1, 201, .inl (if w = 8 ∨ w = 11 then lwQ v.2.1 v.2.2.1 (v.2.2.2.2.1 0) len v.1 0 sq else sq))), (o 4, .inl (g.2.1, 120, .inl tx)), (o 5, .inl (g.2.1, 24, .inl wo)), (o 6, .inl (g.2.1, 72, .inl nu))]) := by
  refine Ct.walk (by decide) (Nat.le_of_ble_eq_true rfl) ?_
  intro p0 e0 s0 m0 below meth c0 A0 ls Q hQ E hr hnm hw hl
  have hx := E.x
  have hb := E.b
  have hl : lv_has ls 2 [(0, .ref (o 0)), (1, .int (nI w))] := hl
  refine lv_iload_n hx hb dX8_train_0 rfl (lv_at hl 1 rfl) ?_
  refine lv_iconst (v := 0) hx hb dX8_train_1 (by decide) ?_
  refine lv_bipush (v := 12) hx hb dX8_train_2 (by decide) ?_
  refine x_goR (st1 := [.int 1]) E hw [] rfl (x_runS (rest := []) E hw (c_X8_in_ok l g (nI w) 0 12 (nI_pos' (by omega)) (nI_le (b := 12) (by omega) (by decide))) km_X8_45 ks_X8_in [] rfl (by decide) hl.1 rfl rfl (Nat.le_of_ble_eq_true rfl) ⟨Nat.le_of_ble_eq_true rfl, Nat.le_of_ble_eq_true rfl⟩ ⟨Nat.zero_le _, Nat.zero_le _⟩ dX8_train_4) rfl (fun H locs hw => ?_)
  refine lv_if_eq (tgt := 18) hx hb dX8_train_7 (by decide) (fun h => absurd h (by decide)) (fun _ => ?_)
  refine lv_aload_n hx hb dX8_train_10 rfl (lv_at hl 0 rfl) ?_
  refine lv_iload_n hx hb dX8_train_11 rfl (lv_at hl 1 rfl) ?_
  refine x_go (ws' := [(o 0, .inr (8, [.ref (o 1), .ref (o 2), .int (nI hs), .int bads, .int nos, .int fuls, .int cau, .int whe, .ref (o 3), .ref (o 4), .int (nI cnt), .int (nI p), .int fau, .int isw, .int ods, .ref (o 5), .ref (o 6)])), (o 1, .inl (g.2.1, 616, .inl (nwF v))), (o 2, .inl (g.2.1, 4312, .inl (pF P))), (o 3, .inl (g.2.1, 201, .inl (if w = 8 ∨ w = 11 then lwQ v.2.1 v.2.2.1 (v.2.2.2.2.1 0) len v.1 0 sq else sq))), (o 4, .inl (g.2.1, 120, .inl tx)), (o 5, .inl (g.2.1, 24, .inl wo)), (o 6, .inl (g.2.1, 72, .inl nu))]) (st1 := [.int (trvF v.1 v.2.2.1 v.2.2.2.2.1 (lwQ v.2.1 v.2.2.1 (v.2.2.2.2.1 0) len v.1 0 sq) v.2.2.2.2.2 w)]) E hw [0, 1, 3] rfl (x_runV (rest := []) E hw (c_X8_tellTrain l g o hs bads nos fuls cau whe cnt p fau isw ods v sq len yq w (by omega) (by omega) hlen (by omega) (by omega) hQs (by omega) hqy hyq (by omega)) km_X8_140 kv_X8_tellTrain [0, 1, 3] rfl (by decide) 0 rfl hl.1 rfl rfl (Nat.le_of_ble_eq_true rfl) ⟨Nat.le_of_ble_eq_true rfl, Nat.le_of_ble_eq_true rfl⟩ ⟨Nat.zero_le _, Nat.zero_le _⟩ dX8_train_12) rfl rfl rfl (fun H locs hw => ?_)
  refine lv_goto (tgt := 22) hx hb dX8_train_15 (by decide) ?_
  exact xr_i hQ E hr hw dX8_train_22 ⟨rfl, rfl⟩

set_option maxRecDepth 100000 in
set_option maxHeartbeats 4000000 in
theorem c_X8_train_bad (l : Launch) (g : xCfg) (o : Nat → Nat) (hs : Nat) (bads : Int32) (nos : Int32) (fuls : Int32) (cau : Int32) (whe : Int32) (cnt : Nat) (p : Nat) (fau : Int32) (isw : Int32) (ods : Int32) (v : SV) (P : Nat → SV) (sq : Nat → Int32) (tx : Nat → Int32) (wo : Nat → Int32) (nu : Nat → Int32) (x : Int32) (hb0 : ¬ (0 ≤ x ∧ x ≤ 12)) : Ct l g yX8_train cX8_train 2 (some .int) (xR 1 22) [.ref (o 0), .int x] [(o 0, .inr (8, [.ref (o 1), .ref (o 2), .int (nI hs), .int bads, .int nos, .int fuls, .int cau, .int whe, .ref (o 3), .ref (o 4), .int (nI cnt), .int (nI p), .int fau, .int isw, .int ods, .ref (o 5), .ref (o 6)])), (o 1, .inl (g.2.1, 616, .inl (nwF v))), (o 2, .inl (g.2.1, 4312, .inl (pF P))), (o 3, .inl (g.2.1, 201, .inl sq)), (o 4, .inl (g.2.1, 120, .inl tx)), (o 5, .inl (g.2.1, 24, .inl wo)), (o 6, .inl (g.2.1, 72, .inl nu))] (is1 (some (.int (-2))) [(o 0, .inr (8, [.ref (o 1), .ref (o 2), .int (nI hs), .int (bads + 1), .int nos, .int fuls, .int cau, .int whe, .ref (o 3), .ref (o 4), .int (nI cnt), .int (nI p), .int fau, .int isw, .int ods, .ref (o 5), .ref (o 6)])), (o 1, .inl (g.2.1, 616, .inl (nwF v))), (o 2, .inl (g.2.1, 4312, .inl (pF P))), (o 3, .inl (g.2.1, 201, .inl sq)), (o 4, .inl (g.2.1, 120, .inl tx)), (o 5, .inl (g.2.1, 24, .inl wo)), (o 6, .inl (g.2.1, 72, .inl nu))]) := by
  refine Ct.walk (by decide) (Nat.le_of_ble_eq_true rfl) ?_
  intro p0 e0 s0 m0 below meth c0 A0 ls Q hQ E hr hnm hw hl
  have hx := E.x
  have hb := E.b
  have hl : lv_has ls 2 [(0, .ref (o 0)), (1, .int x)] := hl
  refine lv_iload_n hx hb dX8_train_0 rfl (lv_at hl 1 rfl) ?_
  refine lv_iconst (v := 0) hx hb dX8_train_1 (by decide) ?_
  refine lv_bipush (v := 12) hx hb dX8_train_2 (by decide) ?_
  refine x_goR (st1 := [.int (bI (0 ≤ x ∧ x ≤ 12))]) E hw [] rfl (x_runS (rest := []) E hw (c_X8_in l g x 0 12 ) km_X8_45 ks_X8_in [] rfl (by decide) hl.1 rfl rfl (Nat.le_of_ble_eq_true rfl) ⟨Nat.le_of_ble_eq_true rfl, Nat.le_of_ble_eq_true rfl⟩ ⟨Nat.zero_le _, Nat.zero_le _⟩ dX8_train_4) rfl (fun H locs hw => ?_)
  refine xb_eq (tgt := 18) hx hb dX8_train_7 (by decide) (fun c1 => ?_) (fun c1 => ?_)
  · refine lv_aload_n hx hb dX8_train_18 rfl (lv_at hl 0 rfl) ?_
    refine x_go (ws' := [(o 0, .inr (8, [.ref (o 1), .ref (o 2), .int (nI hs), .int (bads + 1), .int nos, .int fuls, .int cau, .int whe, .ref (o 3), .ref (o 4), .int (nI cnt), .int (nI p), .int fau, .int isw, .int ods, .ref (o 5), .ref (o 6)])), (o 1, .inl (g.2.1, 616, .inl (nwF v))), (o 2, .inl (g.2.1, 4312, .inl (pF P))), (o 3, .inl (g.2.1, 201, .inl sq)), (o 4, .inl (g.2.1, 120, .inl tx)), (o 5, .inl (g.2.1, 24, .inl wo)), (o 6, .inl (g.2.1, 72, .inl nu))]) (st1 := [.int (-2)]) E hw [0] rfl (x_runV (rest := []) E hw (c_X8_bad l g o hs bads nos fuls cau whe cnt p fau isw ods ) km_X8_60 kv_X8_bad [0] rfl (by decide) 0 rfl hl.1 rfl rfl (Nat.le_of_ble_eq_true rfl) ⟨Nat.le_of_ble_eq_true rfl, Nat.le_of_ble_eq_true rfl⟩ ⟨Nat.zero_le _, Nat.zero_le _⟩ dX8_train_19) rfl rfl rfl (fun H locs hw => ?_)
    exact xr_i hQ E hr hw dX8_train_22 ⟨rfl, rfl⟩
  · exact absurd c1 hb0

set_option maxRecDepth 100000 in
set_option maxHeartbeats 4000000 in
theorem c_X8_type_ok (l : Launch) (g : xCfg) (o : Nat → Nat) (hs : Nat) (bads : Int32) (nos : Int32) (fuls : Int32) (cau : Int32) (whe : Int32) (cnt : Nat) (p : Nat) (fau : Int32) (isw : Int32) (ods : Int32) (v : SV) (P : Nat → SV) (sq : Nat → Int32) (tx : Nat → Int32) (wo : Nat → Int32) (nu : Nat → Int32) (c : Int32) (hc : cnt < 120) (h1 : 0 ≤ c) (h2 : c ≤ 127) : Ct l g yX8_type cX8_type 2 (some .int) (xR 1 22) [.ref (o 0), .int c] [(o 0, .inr (8, [.ref (o 1), .ref (o 2), .int (nI hs), .int bads, .int nos, .int fuls, .int cau, .int whe, .ref (o 3), .ref (o 4), .int (nI cnt), .int (nI p), .int fau, .int isw, .int ods, .ref (o 5), .ref (o 6)])), (o 1, .inl (g.2.1, 616, .inl (nwF v))), (o 2, .inl (g.2.1, 4312, .inl (pF P))), (o 3, .inl (g.2.1, 201, .inl sq)), (o 4, .inl (g.2.1, 120, .inl tx)), (o 5, .inl (g.2.1, 24, .inl wo)), (o 6, .inl (g.2.1, 72, .inl nu))] (is1 (some (.int (nI (cnt + 1)))) [(o 0, .inr (8, [.ref (o 1), .ref (o 2), .int (nI hs), .int bads, .int nos, .int fuls, .int cau, .int whe, .ref (o 3), .ref (o 4), .int (nI (cnt + 1)), .int (nI p), .int fau, .int isw, .int ods, .ref (o 5), .ref (o 6)])), (o 1, .inl (g.2.1, 616, .inl (nwF v))), (o 2, .inl (g.2.1, 4312, .inl (pF P))), (o 3, .inl (g.2.1, 201, .inl sq)), (o 4, .inl (g.2.1, 120, .inl (upd tx cnt c))), (o 5, .inl (g.2.1, 24, .inl wo)), (o 6, .inl (g.2.1, 72, .inl nu))]) := by
  refine Ct.walk (by decide) (Nat.le_of_ble_eq_true rfl) ?_
  intro p0 e0 s0 m0 below meth c0 A0 ls Q hQ E hr hnm hw hl
  have hx := E.x
  have hb := E.b
  have hl : lv_has ls 2 [(0, .ref (o 0)), (1, .int c)] := hl
  refine lv_iload_n hx hb dX8_type_0 rfl (lv_at hl 1 rfl) ?_
  refine lv_iconst (v := 0) hx hb dX8_type_1 (by decide) ?_
  refine lv_bipush (v := 127) hx hb dX8_type_2 (by decide) ?_
  refine x_goR (st1 := [.int 1]) E hw [] rfl (x_runS (rest := []) E hw (c_X8_in_ok l g c 0 127 h1 h2) km_X8_45 ks_X8_in [] rfl (by decide) hl.1 rfl rfl (Nat.le_of_ble_eq_true rfl) ⟨Nat.le_of_ble_eq_true rfl, Nat.le_of_ble_eq_true rfl⟩ ⟨Nat.zero_le _, Nat.zero_le _⟩ dX8_type_4) rfl (fun H locs hw => ?_)
  refine lv_if_ne (tgt := 15) hx hb dX8_type_7 (by decide) (fun _ => ?_) (fun h => absurd h (by decide))
  refine lv_aload_n hx hb dX8_type_15 rfl (lv_at hl 0 rfl) ?_
  refine x_get E hw kf_X8_143 0 rfl rfl dX8_type_16 ?_
  refine lv_bipush (v := 120) hx hb dX8_type_19 (by decide) ?_
  refine xn_ne (tgt := 37) hx hb cnt 120 rfl rfl (by omega) (by omega) dX8_type_21 (by decide) (fun c_2 => ?_) (fun c_2 => ?_)
  · refine lv_aload_n hx hb dX8_type_37 rfl (lv_at hl 0 rfl) ?_
    refine x_get E hw kf_X8_23 0 rfl rfl dX8_type_38 ?_
    refine lv_aload_n hx hb dX8_type_41 rfl (lv_at hl 0 rfl) ?_
    refine x_get E hw kf_X8_143 0 rfl rfl dX8_type_42 ?_
    refine lv_iload_n hx hb dX8_type_45 rfl (lv_at hl 1 rfl) ?_
    refine x_ist E hw 4 rfl cnt rfl (by omega) (by decide) (ws' := [(o 0, .inr (8, [.ref (o 1), .ref (o 2), .int (nI hs), .int bads, .int nos, .int fuls, .int cau, .int whe, .ref (o 3), .ref (o 4), .int (nI cnt), .int (nI p), .int fau, .int isw, .int ods, .ref (o 5), .ref (o 6)])), (o 1, .inl (g.2.1, 616, .inl (nwF v))), (o 2, .inl (g.2.1, 4312, .inl (pF P))), (o 3, .inl (g.2.1, 201, .inl sq)), (o 4, .inl (g.2.1, 120, .inl (upd tx cnt c))), (o 5, .inl (g.2.1, 24, .inl wo)), (o 6, .inl (g.2.1, 72, .inl nu))]) rfl dX8_type_46 (fun H locs hw => ?_)
    refine lv_aload_n hx hb dX8_type_47 rfl (lv_at hl 0 rfl) ?_
    refine lv_dup hx hb dX8_type_48 rfl ?_
    refine x_get E hw kf_X8_143 0 rfl rfl dX8_type_49 ?_
    refine lv_iconst (v := 1) hx hb dX8_type_52 (by decide) ?_
    refine xn_add hx hb cnt 1 rfl rfl dX8_type_53 ?_
    refine x_put E hw kf_X8_143 kp_X8_10 0 rfl (ty := .int) (by decide +kernel) rfl rfl (by simp) (ws' := [(o 0, .inr (8, [.ref (o 1), .ref (o 2), .int (nI hs), .int bads, .int nos, .int fuls, .int cau, .int whe, .ref (o 3), .ref (o 4), .int (nI (cnt + 1)), .int (nI p), .int fau, .int isw, .int ods, .ref (o 5), .ref (o 6)])), (o 1, .inl (g.2.1, 616, .inl (nwF v))), (o 2, .inl (g.2.1, 4312, .inl (pF P))), (o 3, .inl (g.2.1, 201, .inl sq)), (o 4, .inl (g.2.1, 120, .inl (upd tx cnt c))), (o 5, .inl (g.2.1, 24, .inl wo)), (o 6, .inl (g.2.1, 72, .inl nu))]) rfl dX8_type_54 (fun H locs hw => ?_)
    refine lv_aload_n hx hb dX8_type_57 rfl (lv_at hl 0 rfl) ?_
    refine x_get E hw kf_X8_143 0 rfl rfl dX8_type_58 ?_
    exact xr_i hQ E hr hw dX8_type_61 ⟨rfl, rfl⟩
  · exact absurd c_2 (by omega)

set_option maxRecDepth 100000 in
set_option maxHeartbeats 4000000 in
theorem c_X8_type_full (l : Launch) (g : xCfg) (o : Nat → Nat) (hs : Nat) (bads : Int32) (nos : Int32) (fuls : Int32) (cau : Int32) (whe : Int32) (cnt : Nat) (p : Nat) (fau : Int32) (isw : Int32) (ods : Int32) (v : SV) (P : Nat → SV) (sq : Nat → Int32) (tx : Nat → Int32) (wo : Nat → Int32) (nu : Nat → Int32) (c : Int32) (hc : cnt = 120) (h1 : 0 ≤ c) (h2 : c ≤ 127) : Ct l g yX8_type cX8_type 2 (some .int) (xR 1 22) [.ref (o 0), .int c] [(o 0, .inr (8, [.ref (o 1), .ref (o 2), .int (nI hs), .int bads, .int nos, .int fuls, .int cau, .int whe, .ref (o 3), .ref (o 4), .int (nI cnt), .int (nI p), .int fau, .int isw, .int ods, .ref (o 5), .ref (o 6)])), (o 1, .inl (g.2.1, 616, .inl (nwF v))), (o 2, .inl (g.2.1, 4312, .inl (pF P))), (o 3, .inl (g.2.1, 201, .inl sq)), (o 4, .inl (g.2.1, 120, .inl tx)), (o 5, .inl (g.2.1, 24, .inl wo)), (o 6, .inl (g.2.1, 72, .inl nu))] (is1 (some (.int (-4))) [(o 0, .inr (8, [.ref (o 1), .ref (o 2), .int (nI hs), .int bads, .int nos, .int (fuls + 1), .int cau, .int whe, .ref (o 3), .ref (o 4), .int (nI cnt), .int (nI p), .int fau, .int isw, .int ods, .ref (o 5), .ref (o 6)])), (o 1, .inl (g.2.1, 616, .inl (nwF v))), (o 2, .inl (g.2.1, 4312, .inl (pF P))), (o 3, .inl (g.2.1, 201, .inl sq)), (o 4, .inl (g.2.1, 120, .inl tx)), (o 5, .inl (g.2.1, 24, .inl wo)), (o 6, .inl (g.2.1, 72, .inl nu))]) := by
  refine Ct.walk (by decide) (Nat.le_of_ble_eq_true rfl) ?_
  intro p0 e0 s0 m0 below meth c0 A0 ls Q hQ E hr hnm hw hl
  have hx := E.x
  have hb := E.b
  have hl : lv_has ls 2 [(0, .ref (o 0)), (1, .int c)] := hl
  refine lv_iload_n hx hb dX8_type_0 rfl (lv_at hl 1 rfl) ?_
  refine lv_iconst (v := 0) hx hb dX8_type_1 (by decide) ?_
  refine lv_bipush (v := 127) hx hb dX8_type_2 (by decide) ?_
  refine x_goR (st1 := [.int 1]) E hw [] rfl (x_runS (rest := []) E hw (c_X8_in_ok l g c 0 127 h1 h2) km_X8_45 ks_X8_in [] rfl (by decide) hl.1 rfl rfl (Nat.le_of_ble_eq_true rfl) ⟨Nat.le_of_ble_eq_true rfl, Nat.le_of_ble_eq_true rfl⟩ ⟨Nat.zero_le _, Nat.zero_le _⟩ dX8_type_4) rfl (fun H locs hw => ?_)
  refine lv_if_ne (tgt := 15) hx hb dX8_type_7 (by decide) (fun _ => ?_) (fun h => absurd h (by decide))
  refine lv_aload_n hx hb dX8_type_15 rfl (lv_at hl 0 rfl) ?_
  refine x_get E hw kf_X8_143 0 rfl rfl dX8_type_16 ?_
  refine lv_bipush (v := 120) hx hb dX8_type_19 (by decide) ?_
  refine xn_ne (tgt := 37) hx hb cnt 120 rfl rfl (by omega) (by omega) dX8_type_21 (by decide) (fun c_2 => ?_) (fun c_2 => ?_)
  · exact absurd c_2 (by omega)
  · refine lv_aload_n hx hb dX8_type_24 rfl (lv_at hl 0 rfl) ?_
    refine lv_dup hx hb dX8_type_25 rfl ?_
    refine x_get E hw kf_X8_146 0 rfl rfl dX8_type_26 ?_
    refine lv_iconst (v := 1) hx hb dX8_type_29 (by decide) ?_
    refine lv_iadd hx hb dX8_type_30 ?_
    refine x_put E hw kf_X8_146 kp_X8_5 0 rfl (ty := .int) (by decide +kernel) rfl rfl (by simp) (ws' := [(o 0, .inr (8, [.ref (o 1), .ref (o 2), .int (nI hs), .int bads, .int nos, .int (fuls + 1), .int cau, .int whe, .ref (o 3), .ref (o 4), .int (nI cnt), .int (nI p), .int fau, .int isw, .int ods, .ref (o 5), .ref (o 6)])), (o 1, .inl (g.2.1, 616, .inl (nwF v))), (o 2, .inl (g.2.1, 4312, .inl (pF P))), (o 3, .inl (g.2.1, 201, .inl sq)), (o 4, .inl (g.2.1, 120, .inl tx)), (o 5, .inl (g.2.1, 24, .inl wo)), (o 6, .inl (g.2.1, 72, .inl nu))]) rfl dX8_type_31 (fun H locs hw => ?_)
    refine lv_bipush (v := -4) hx hb dX8_type_34 (by decide) ?_
    exact xr_i hQ E hr hw dX8_type_36 ⟨rfl, rfl⟩

set_option maxRecDepth 100000 in
set_option maxHeartbeats 4000000 in
theorem c_X8_type_bad (l : Launch) (g : xCfg) (o : Nat → Nat) (hs : Nat) (bads : Int32) (nos : Int32) (fuls : Int32) (cau : Int32) (whe : Int32) (cnt : Nat) (p : Nat) (fau : Int32) (isw : Int32) (ods : Int32) (v : SV) (P : Nat → SV) (sq : Nat → Int32) (tx : Nat → Int32) (wo : Nat → Int32) (nu : Nat → Int32) (c : Int32) (hb0 : ¬ (0 ≤ c ∧ c ≤ 127)) : Ct l g yX8_type cX8_type 2 (some .int) (xR 1 22) [.ref (o 0), .int c] [(o 0, .inr (8, [.ref (o 1), .ref (o 2), .int (nI hs), .int bads, .int nos, .int fuls, .int cau, .int whe, .ref (o 3), .ref (o 4), .int (nI cnt), .int (nI p), .int fau, .int isw, .int ods, .ref (o 5), .ref (o 6)])), (o 1, .inl (g.2.1, 616, .inl (nwF v))), (o 2, .inl (g.2.1, 4312, .inl (pF P))), (o 3, .inl (g.2.1, 201, .inl sq)), (o 4, .inl (g.2.1, 120, .inl tx)), (o 5, .inl (g.2.1, 24, .inl wo)), (o 6, .inl (g.2.1, 72, .inl nu))] (is1 (some (.int (-2))) [(o 0, .inr (8, [.ref (o 1), .ref (o 2), .int (nI hs), .int (bads + 1), .int nos, .int fuls, .int cau, .int whe, .ref (o 3), .ref (o 4), .int (nI cnt), .int (nI p), .int fau, .int isw, .int ods, .ref (o 5), .ref (o 6)])), (o 1, .inl (g.2.1, 616, .inl (nwF v))), (o 2, .inl (g.2.1, 4312, .inl (pF P))), (o 3, .inl (g.2.1, 201, .inl sq)), (o 4, .inl (g.2.1, 120, .inl tx)), (o 5, .inl (g.2.1, 24, .inl wo)), (o 6, .inl (g.2.1, 72, .inl nu))]) := by
  refine Ct.walk (by decide) (Nat.le_of_ble_eq_true rfl) ?_
  intro p0 e0 s0 m0 below meth c0 A0 ls Q hQ E hr hnm hw hl
  have hx := E.x
  have hb := E.b
  have hl : lv_has ls 2 [(0, .ref (o 0)), (1, .int c)] := hl
  refine lv_iload_n hx hb dX8_type_0 rfl (lv_at hl 1 rfl) ?_
  refine lv_iconst (v := 0) hx hb dX8_type_1 (by decide) ?_
  refine lv_bipush (v := 127) hx hb dX8_type_2 (by decide) ?_
  refine x_goR (st1 := [.int (bI (0 ≤ c ∧ c ≤ 127))]) E hw [] rfl (x_runS (rest := []) E hw (c_X8_in l g c 0 127 ) km_X8_45 ks_X8_in [] rfl (by decide) hl.1 rfl rfl (Nat.le_of_ble_eq_true rfl) ⟨Nat.le_of_ble_eq_true rfl, Nat.le_of_ble_eq_true rfl⟩ ⟨Nat.zero_le _, Nat.zero_le _⟩ dX8_type_4) rfl (fun H locs hw => ?_)
  refine xb_ne (tgt := 15) hx hb dX8_type_7 (by decide) (fun c1 => ?_) (fun c1 => ?_)
  · exact absurd c1 hb0
  · refine lv_aload_n hx hb dX8_type_10 rfl (lv_at hl 0 rfl) ?_
    refine x_go (ws' := [(o 0, .inr (8, [.ref (o 1), .ref (o 2), .int (nI hs), .int (bads + 1), .int nos, .int fuls, .int cau, .int whe, .ref (o 3), .ref (o 4), .int (nI cnt), .int (nI p), .int fau, .int isw, .int ods, .ref (o 5), .ref (o 6)])), (o 1, .inl (g.2.1, 616, .inl (nwF v))), (o 2, .inl (g.2.1, 4312, .inl (pF P))), (o 3, .inl (g.2.1, 201, .inl sq)), (o 4, .inl (g.2.1, 120, .inl tx)), (o 5, .inl (g.2.1, 24, .inl wo)), (o 6, .inl (g.2.1, 72, .inl nu))]) (st1 := [.int (-2)]) E hw [0] rfl (x_runV (rest := []) E hw (c_X8_bad l g o hs bads nos fuls cau whe cnt p fau isw ods ) km_X8_60 kv_X8_bad [0] rfl (by decide) 0 rfl hl.1 rfl rfl (Nat.le_of_ble_eq_true rfl) ⟨Nat.le_of_ble_eq_true rfl, Nat.le_of_ble_eq_true rfl⟩ ⟨Nat.zero_le _, Nat.zero_le _⟩ dX8_type_11) rfl rfl rfl (fun H locs hw => ?_)
    exact xr_i hQ E hr hw dX8_type_14 ⟨rfl, rfl⟩

set_option maxRecDepth 100000 in
set_option maxHeartbeats 4000000 in
theorem c_X8_clear_ok (l : Launch) (g : xCfg) (o : Nat → Nat) (hs : Nat) (bads : Int32) (nos : Int32) (fuls : Int32) (cau : Int32) (whe : Int32) (cnt : Nat) (p : Nat) (fau : Int32) (isw : Int32) (ods : Int32) (v : SV) (P : Nat → SV) (sq : Nat → Int32) (tx : Nat → Int32) (wo : Nat → Int32) (nu : Nat → Int32)  : Ct l g yX8_clear cX8_clear 2 (some .int) (xR 0 0) [.ref (o 0)] [(o 0, .inr (8, [.ref (o 1), .ref (o 2), .int (nI hs), .int bads, .int nos, .int fuls, .int cau, .int whe, .ref (o 3), .ref (o 4), .int (nI cnt), .int (nI p), .int fau, .int isw, .int ods, .ref (o 5), .ref (o 6)])), (o 1, .inl (g.2.1, 616, .inl (nwF v))), (o 2, .inl (g.2.1, 4312, .inl (pF P))), (o 3, .inl (g.2.1, 201, .inl sq)), (o 4, .inl (g.2.1, 120, .inl tx)), (o 5, .inl (g.2.1, 24, .inl wo)), (o 6, .inl (g.2.1, 72, .inl nu))] (is1 (some (.int (nI cnt))) [(o 0, .inr (8, [.ref (o 1), .ref (o 2), .int (nI hs), .int bads, .int nos, .int fuls, .int cau, .int whe, .ref (o 3), .ref (o 4), .int 0, .int (nI p), .int fau, .int isw, .int ods, .ref (o 5), .ref (o 6)])), (o 1, .inl (g.2.1, 616, .inl (nwF v))), (o 2, .inl (g.2.1, 4312, .inl (pF P))), (o 3, .inl (g.2.1, 201, .inl sq)), (o 4, .inl (g.2.1, 120, .inl tx)), (o 5, .inl (g.2.1, 24, .inl wo)), (o 6, .inl (g.2.1, 72, .inl nu))]) := by
  refine Ct.walk (by decide) (Nat.le_of_ble_eq_true rfl) ?_
  intro p0 e0 s0 m0 below meth c0 A0 ls Q hQ E hr hnm hw hl
  have hx := E.x
  have hb := E.b
  have hl : lv_has ls 2 [(0, .ref (o 0))] := hl
  refine lv_aload_n hx hb dX8_clear_0 rfl (lv_at hl 0 rfl) ?_
  refine x_get E hw kf_X8_143 0 rfl rfl dX8_clear_1 ?_
  refine lv_istore_n (lv' := [(1, .int (nI cnt)), (0, .ref (o 0))]) hx hb dX8_clear_4 rfl hl (by decide) rfl (fun ls hl => ?_)
  refine lv_aload_n hx hb dX8_clear_5 rfl (lv_at hl 1 rfl) ?_
  refine lv_iconst (v := 0) hx hb dX8_clear_6 (by decide) ?_
  refine x_put E hw kf_X8_143 kp_X8_10 0 rfl (ty := .int) (by decide +kernel) rfl rfl (by simp) (ws' := [(o 0, .inr (8, [.ref (o 1), .ref (o 2), .int (nI hs), .int bads, .int nos, .int fuls, .int cau, .int whe, .ref (o 3), .ref (o 4), .int 0, .int (nI p), .int fau, .int isw, .int ods, .ref (o 5), .ref (o 6)])), (o 1, .inl (g.2.1, 616, .inl (nwF v))), (o 2, .inl (g.2.1, 4312, .inl (pF P))), (o 3, .inl (g.2.1, 201, .inl sq)), (o 4, .inl (g.2.1, 120, .inl tx)), (o 5, .inl (g.2.1, 24, .inl wo)), (o 6, .inl (g.2.1, 72, .inl nu))]) rfl dX8_clear_7 (fun H locs hw => ?_)
  refine lv_iload_n hx hb dX8_clear_10 rfl (lv_at hl 0 rfl) ?_
  exact xr_i hQ E hr hw dX8_clear_11 ⟨rfl, rfl⟩

set_option maxRecDepth 100000 in
set_option maxHeartbeats 4000000 in
theorem c_X8_tellWhy_0 (l : Launch) (g : xCfg) (o : Nat → Nat) (hs : Nat) (bads : Int32) (nos : Int32) (fuls : Int32) (cau : Int32) (whe : Int32) (cnt : Nat) (p : Nat) (fau : Int32) (isw : Int32) (ods : Int32)  : Ct l g yX8_tellWhy cX8_tellWhy 2 (some .int) (xR 0 0) [.ref (o 0), .int 0] [(o 0, .inr (8, [.ref (o 1), .ref (o 2), .int (nI hs), .int bads, .int nos, .int fuls, .int cau, .int whe, .ref (o 3), .ref (o 4), .int (nI cnt), .int (nI p), .int fau, .int isw, .int ods, .ref (o 5), .ref (o 6)]))] (is1 (some (.int cau)) [(o 0, .inr (8, [.ref (o 1), .ref (o 2), .int (nI hs), .int bads, .int nos, .int fuls, .int cau, .int whe, .ref (o 3), .ref (o 4), .int (nI cnt), .int (nI p), .int fau, .int isw, .int ods, .ref (o 5), .ref (o 6)]))]) := by
  refine Ct.walk (by decide) (Nat.le_of_ble_eq_true rfl) ?_
  intro p0 e0 s0 m0 below meth c0 A0 ls Q hQ E hr hnm hw hl
  have hx := E.x
  have hb := E.b
  have hl : lv_has ls 2 [(0, .ref (o 0)), (1, .int 0)] := hl
  refine lv_iload_n hx hb dX8_tellWhy_0 rfl (lv_at hl 1 rfl) ?_
  refine lv_if_ne (tgt := 11) hx hb dX8_tellWhy_1 (by decide) (fun h => absurd h (by decide)) (fun _ => ?_)
  refine lv_aload_n hx hb dX8_tellWhy_4 rfl (lv_at hl 0 rfl) ?_
  refine x_get E hw kf_X8_192 0 rfl rfl dX8_tellWhy_5 ?_
  refine lv_goto (tgt := 15) hx hb dX8_tellWhy_8 (by decide) ?_
  exact xr_i hQ E hr hw dX8_tellWhy_15 ⟨rfl, rfl⟩

set_option maxRecDepth 100000 in
set_option maxHeartbeats 4000000 in
theorem c_X8_tellWhy_1 (l : Launch) (g : xCfg) (o : Nat → Nat) (hs : Nat) (bads : Int32) (nos : Int32) (fuls : Int32) (cau : Int32) (whe : Int32) (cnt : Nat) (p : Nat) (fau : Int32) (isw : Int32) (ods : Int32)  : Ct l g yX8_tellWhy cX8_tellWhy 2 (some .int) (xR 0 0) [.ref (o 0), .int 1] [(o 0, .inr (8, [.ref (o 1), .ref (o 2), .int (nI hs), .int bads, .int nos, .int fuls, .int cau, .int whe, .ref (o 3), .ref (o 4), .int (nI cnt), .int (nI p), .int fau, .int isw, .int ods, .ref (o 5), .ref (o 6)]))] (is1 (some (.int whe)) [(o 0, .inr (8, [.ref (o 1), .ref (o 2), .int (nI hs), .int bads, .int nos, .int fuls, .int cau, .int whe, .ref (o 3), .ref (o 4), .int (nI cnt), .int (nI p), .int fau, .int isw, .int ods, .ref (o 5), .ref (o 6)]))]) := by
  refine Ct.walk (by decide) (Nat.le_of_ble_eq_true rfl) ?_
  intro p0 e0 s0 m0 below meth c0 A0 ls Q hQ E hr hnm hw hl
  have hx := E.x
  have hb := E.b
  have hl : lv_has ls 2 [(0, .ref (o 0)), (1, .int 1)] := hl
  refine lv_iload_n hx hb dX8_tellWhy_0 rfl (lv_at hl 1 rfl) ?_
  refine lv_if_ne (tgt := 11) hx hb dX8_tellWhy_1 (by decide) (fun _ => ?_) (fun h => absurd h (by decide))
  refine lv_aload_n hx hb dX8_tellWhy_11 rfl (lv_at hl 0 rfl) ?_
  refine x_get E hw kf_X8_16 0 rfl rfl dX8_tellWhy_12 ?_
  exact xr_i hQ E hr hw dX8_tellWhy_15 ⟨rfl, rfl⟩

set_option maxRecDepth 100000 in
set_option maxHeartbeats 4000000 in
theorem c_X8_why_0 (l : Launch) (g : xCfg) (o : Nat → Nat) (hs : Nat) (bads : Int32) (nos : Int32) (fuls : Int32) (cau : Int32) (whe : Int32) (cnt : Nat) (p : Nat) (fau : Int32) (isw : Int32) (ods : Int32) (v : SV) (P : Nat → SV) (sq : Nat → Int32) (tx : Nat → Int32) (wo : Nat → Int32) (nu : Nat → Int32)  : Ct l g yX8_why cX8_why 2 (some .int) (xR 1 22) [.ref (o 0), .int 0] [(o 0, .inr (8, [.ref (o 1), .ref (o 2), .int (nI hs), .int bads, .int nos, .int fuls, .int cau, .int whe, .ref (o 3), .ref (o 4), .int (nI cnt), .int (nI p), .int fau, .int isw, .int ods, .ref (o 5), .ref (o 6)])), (o 1, .inl (g.2.1, 616, .inl (nwF v))), (o 2, .inl (g.2.1, 4312, .inl (pF P))), (o 3, .inl (g.2.1, 201, .inl sq)), (o 4, .inl (g.2.1, 120, .inl tx)), (o 5, .inl (g.2.1, 24, .inl wo)), (o 6, .inl (g.2.1, 72, .inl nu))] (is1 (some (.int cau)) [(o 0, .inr (8, [.ref (o 1), .ref (o 2), .int (nI hs), .int bads, .int nos, .int fuls, .int cau, .int whe, .ref (o 3), .ref (o 4), .int (nI cnt), .int (nI p), .int fau, .int isw, .int ods, .ref (o 5), .ref (o 6)])), (o 1, .inl (g.2.1, 616, .inl (nwF v))), (o 2, .inl (g.2.1, 4312, .inl (pF P))), (o 3, .inl (g.2.1, 201, .inl sq)), (o 4, .inl (g.2.1, 120, .inl tx)), (o 5, .inl (g.2.1, 24, .inl wo)), (o 6, .inl (g.2.1, 72, .inl nu))]) := by
  refine Ct.walk (by decide) (Nat.le_of_ble_eq_true rfl) ?_
  intro p0 e0 s0 m0 below meth c0 A0 ls Q hQ E hr hnm hw hl
  have hx := E.x
  have hb := E.b
  have hl : lv_has ls 2 [(0, .ref (o 0)), (1, .int 0)] := hl
  refine lv_iload_n hx hb dX8_why_0 rfl (lv_at hl 1 rfl) ?_
  refine lv_iconst (v := 0) hx hb dX8_why_1 (by decide) ?_
  refine lv_iconst (v := 1) hx hb dX8_why_2 (by decide) ?_
  refine x_goR (st1 := [.int 1]) E hw [] rfl (x_runS (rest := []) E hw (c_X8_in_ok l g 0 0 1 (by decide) (by decide)) km_X8_45 ks_X8_in [] rfl (by decide) hl.1 rfl rfl (Nat.le_of_ble_eq_true rfl) ⟨Nat.le_of_ble_eq_true rfl, Nat.le_of_ble_eq_true rfl⟩ ⟨Nat.zero_le _, Nat.zero_le _⟩ dX8_why_3) rfl (fun H locs hw => ?_)
  refine lv_if_eq (tgt := 17) hx hb dX8_why_6 (by decide) (fun h => absurd h (by decide)) (fun _ => ?_)
  refine lv_aload_n hx hb dX8_why_9 rfl (lv_at hl 0 rfl) ?_
  refine lv_iload_n hx hb dX8_why_10 rfl (lv_at hl 1 rfl) ?_
  refine x_goR (st1 := [.int cau]) E hw [0] rfl (x_runV (rest := []) E hw (c_X8_tellWhy_0 l g o hs bads nos fuls cau whe cnt p fau isw ods ) km_X8_204 kv_X8_tellWhy [0] rfl (by decide) 0 rfl hl.1 rfl rfl (Nat.le_of_ble_eq_true rfl) ⟨Nat.le_of_ble_eq_true rfl, Nat.le_of_ble_eq_true rfl⟩ ⟨Nat.zero_le _, Nat.zero_le _⟩ dX8_why_11) rfl (fun H locs hw => ?_)
  refine lv_goto (tgt := 21) hx hb dX8_why_14 (by decide) ?_
  exact xr_i hQ E hr hw dX8_why_21 ⟨rfl, rfl⟩

set_option maxRecDepth 100000 in
set_option maxHeartbeats 4000000 in
theorem c_X8_why_1 (l : Launch) (g : xCfg) (o : Nat → Nat) (hs : Nat) (bads : Int32) (nos : Int32) (fuls : Int32) (cau : Int32) (whe : Int32) (cnt : Nat) (p : Nat) (fau : Int32) (isw : Int32) (ods : Int32) (v : SV) (P : Nat → SV) (sq : Nat → Int32) (tx : Nat → Int32) (wo : Nat → Int32) (nu : Nat → Int32)  : Ct l g yX8_why cX8_why 2 (some .int) (xR 1 22) [.ref (o 0), .int 1] [(o 0, .inr (8, [.ref (o 1), .ref (o 2), .int (nI hs), .int bads, .int nos, .int fuls, .int cau, .int whe, .ref (o 3), .ref (o 4), .int (nI cnt), .int (nI p), .int fau, .int isw, .int ods, .ref (o 5), .ref (o 6)])), (o 1, .inl (g.2.1, 616, .inl (nwF v))), (o 2, .inl (g.2.1, 4312, .inl (pF P))), (o 3, .inl (g.2.1, 201, .inl sq)), (o 4, .inl (g.2.1, 120, .inl tx)), (o 5, .inl (g.2.1, 24, .inl wo)), (o 6, .inl (g.2.1, 72, .inl nu))] (is1 (some (.int whe)) [(o 0, .inr (8, [.ref (o 1), .ref (o 2), .int (nI hs), .int bads, .int nos, .int fuls, .int cau, .int whe, .ref (o 3), .ref (o 4), .int (nI cnt), .int (nI p), .int fau, .int isw, .int ods, .ref (o 5), .ref (o 6)])), (o 1, .inl (g.2.1, 616, .inl (nwF v))), (o 2, .inl (g.2.1, 4312, .inl (pF P))), (o 3, .inl (g.2.1, 201, .inl sq)), (o 4, .inl (g.2.1, 120, .inl tx)), (o 5, .inl (g.2.1, 24, .inl wo)), (o 6, .inl (g.2.1, 72, .inl nu))]) := by
  refine Ct.walk (by decide) (Nat.le_of_ble_eq_true rfl) ?_
  intro p0 e0 s0 m0 below meth c0 A0 ls Q hQ E hr hnm hw hl
  have hx := E.x
  have hb := E.b
  have hl : lv_has ls 2 [(0, .ref (o 0)), (1, .int 1)] := hl
  refine lv_iload_n hx hb dX8_why_0 rfl (lv_at hl 1 rfl) ?_
  refine lv_iconst (v := 0) hx hb dX8_why_1 (by decide) ?_
  refine lv_iconst (v := 1) hx hb dX8_why_2 (by decide) ?_
  refine x_goR (st1 := [.int 1]) E hw [] rfl (x_runS (rest := []) E hw (c_X8_in_ok l g 1 0 1 (by decide) (by decide)) km_X8_45 ks_X8_in [] rfl (by decide) hl.1 rfl rfl (Nat.le_of_ble_eq_true rfl) ⟨Nat.le_of_ble_eq_true rfl, Nat.le_of_ble_eq_true rfl⟩ ⟨Nat.zero_le _, Nat.zero_le _⟩ dX8_why_3) rfl (fun H locs hw => ?_)
  refine lv_if_eq (tgt := 17) hx hb dX8_why_6 (by decide) (fun h => absurd h (by decide)) (fun _ => ?_)
  refine lv_aload_n hx hb dX8_why_9 rfl (lv_at hl 0 rfl) ?_
  refine lv_iload_n hx hb dX8_why_10 rfl (lv_at hl 1 rfl) ?_
  refine x_goR (st1 := [.int whe]) E hw [0] rfl (x_runV (rest := []) E hw (c_X8_tellWhy_1 l g o hs bads nos fuls cau whe cnt p fau isw ods ) km_X8_204 kv_X8_tellWhy [0] rfl (by decide) 0 rfl hl.1 rfl rfl (Nat.le_of_ble_eq_true rfl) ⟨Nat.le_of_ble_eq_true rfl, Nat.le_of_ble_eq_true rfl⟩ ⟨Nat.zero_le _, Nat.zero_le _⟩ dX8_why_11) rfl (fun H locs hw => ?_)
  refine lv_goto (tgt := 21) hx hb dX8_why_14 (by decide) ?_
  exact xr_i hQ E hr hw dX8_why_21 ⟨rfl, rfl⟩

set_option maxRecDepth 100000 in
set_option maxHeartbeats 4000000 in
theorem c_X8_why_bad (l : Launch) (g : xCfg) (o : Nat → Nat) (hs : Nat) (bads : Int32) (nos : Int32) (fuls : Int32) (cau : Int32) (whe : Int32) (cnt : Nat) (p : Nat) (fau : Int32) (isw : Int32) (ods : Int32) (v : SV) (P : Nat → SV) (sq : Nat → Int32) (tx : Nat → Int32) (wo : Nat → Int32) (nu : Nat → Int32) (x : Int32) (hb0 : ¬ (0 ≤ x ∧ x ≤ 1)) : Ct l g yX8_why cX8_why 2 (some .int) (xR 1 22) [.ref (o 0), .int x] [(o 0, .inr (8, [.ref (o 1), .ref (o 2), .int (nI hs), .int bads, .int nos, .int fuls, .int cau, .int whe, .ref (o 3), .ref (o 4), .int (nI cnt), .int (nI p), .int fau, .int isw, .int ods, .ref (o 5), .ref (o 6)])), (o 1, .inl (g.2.1, 616, .inl (nwF v))), (o 2, .inl (g.2.1, 4312, .inl (pF P))), (o 3, .inl (g.2.1, 201, .inl sq)), (o 4, .inl (g.2.1, 120, .inl tx)), (o 5, .inl (g.2.1, 24, .inl wo)), (o 6, .inl (g.2.1, 72, .inl nu))] (is1 (some (.int (-2))) [(o 0, .inr (8, [.ref (o 1), .ref (o 2), .int (nI hs), .int (bads + 1), .int nos, .int fuls, .int cau, .int whe, .ref (o 3), .ref (o 4), .int (nI cnt), .int (nI p), .int fau, .int isw, .int ods, .ref (o 5), .ref (o 6)])), (o 1, .inl (g.2.1, 616, .inl (nwF v))), (o 2, .inl (g.2.1, 4312, .inl (pF P))), (o 3, .inl (g.2.1, 201, .inl sq)), (o 4, .inl (g.2.1, 120, .inl tx)), (o 5, .inl (g.2.1, 24, .inl wo)), (o 6, .inl (g.2.1, 72, .inl nu))]) := by
  refine Ct.walk (by decide) (Nat.le_of_ble_eq_true rfl) ?_
  intro p0 e0 s0 m0 below meth c0 A0 ls Q hQ E hr hnm hw hl
  have hx := E.x
  have hb := E.b
  have hl : lv_has ls 2 [(0, .ref (o 0)), (1, .int x)] := hl
  refine lv_iload_n hx hb dX8_why_0 rfl (lv_at hl 1 rfl) ?_
  refine lv_iconst (v := 0) hx hb dX8_why_1 (by decide) ?_
  refine lv_iconst (v := 1) hx hb dX8_why_2 (by decide) ?_
  refine x_goR (st1 := [.int (bI (0 ≤ x ∧ x ≤ 1))]) E hw [] rfl (x_runS (rest := []) E hw (c_X8_in l g x 0 1 ) km_X8_45 ks_X8_in [] rfl (by decide) hl.1 rfl rfl (Nat.le_of_ble_eq_true rfl) ⟨Nat.le_of_ble_eq_true rfl, Nat.le_of_ble_eq_true rfl⟩ ⟨Nat.zero_le _, Nat.zero_le _⟩ dX8_why_3) rfl (fun H locs hw => ?_)
  refine xb_eq (tgt := 17) hx hb dX8_why_6 (by decide) (fun c1 => ?_) (fun c1 => ?_)
  · refine lv_aload_n hx hb dX8_why_17 rfl (lv_at hl 0 rfl) ?_
    refine x_go (ws' := [(o 0, .inr (8, [.ref (o 1), .ref (o 2), .int (nI hs), .int (bads + 1), .int nos, .int fuls, .int cau, .int whe, .ref (o 3), .ref (o 4), .int (nI cnt), .int (nI p), .int fau, .int isw, .int ods, .ref (o 5), .ref (o 6)])), (o 1, .inl (g.2.1, 616, .inl (nwF v))), (o 2, .inl (g.2.1, 4312, .inl (pF P))), (o 3, .inl (g.2.1, 201, .inl sq)), (o 4, .inl (g.2.1, 120, .inl tx)), (o 5, .inl (g.2.1, 24, .inl wo)), (o 6, .inl (g.2.1, 72, .inl nu))]) (st1 := [.int (-2)]) E hw [0] rfl (x_runV (rest := []) E hw (c_X8_bad l g o hs bads nos fuls cau whe cnt p fau isw ods ) km_X8_60 kv_X8_bad [0] rfl (by decide) 0 rfl hl.1 rfl rfl (Nat.le_of_ble_eq_true rfl) ⟨Nat.le_of_ble_eq_true rfl, Nat.le_of_ble_eq_true rfl⟩ ⟨Nat.zero_le _, Nat.zero_le _⟩ dX8_why_18) rfl rfl rfl (fun H locs hw => ?_)
    exact xr_i hQ E hr hw dX8_why_21 ⟨rfl, rfl⟩
  · exact absurd c1 hb0

set_option maxRecDepth 100000 in
set_option maxHeartbeats 4000000 in
theorem c_X8_back_no (l : Launch) (g : xCfg) (o : Nat → Nat) (hs : Nat) (bads : Int32) (nos : Int32) (fuls : Int32) (cau : Int32) (whe : Int32) (cnt : Nat) (p : Nat) (fau : Int32) (isw : Int32) (ods : Int32) (v : SV) (P : Nat → SV) (sq : Nat → Int32) (tx : Nat → Int32) (wo : Nat → Int32) (nu : Nat → Int32) (h0 : hs = 0) : Ct l g yX8_back cX8_back 1 (some .int) (xR 1 20) [.ref (o 0)] [(o 0, .inr (8, [.ref (o 1), .ref (o 2), .int (nI hs), .int bads, .int nos, .int fuls, .int cau, .int whe, .ref (o 3), .ref (o 4), .int (nI cnt), .int (nI p), .int fau, .int isw, .int ods, .ref (o 5), .ref (o 6)])), (o 1, .inl (g.2.1, 616, .inl (nwF v))), (o 2, .inl (g.2.1, 4312, .inl (pF P))), (o 3, .inl (g.2.1, 201, .inl sq)), (o 4, .inl (g.2.1, 120, .inl tx)), (o 5, .inl (g.2.1, 24, .inl wo)), (o 6, .inl (g.2.1, 72, .inl nu))] (is1 (some (.int (-3))) [(o 0, .inr (8, [.ref (o 1), .ref (o 2), .int (nI hs), .int bads, .int (nos + 1), .int fuls, .int cau, .int whe, .ref (o 3), .ref (o 4), .int (nI cnt), .int (nI p), .int fau, .int isw, .int ods, .ref (o 5), .ref (o 6)])), (o 1, .inl (g.2.1, 616, .inl (nwF v))), (o 2, .inl (g.2.1, 4312, .inl (pF P))), (o 3, .inl (g.2.1, 201, .inl sq)), (o 4, .inl (g.2.1, 120, .inl tx)), (o 5, .inl (g.2.1, 24, .inl wo)), (o 6, .inl (g.2.1, 72, .inl nu))]) := by
  refine Ct.walk (by decide) (Nat.le_of_ble_eq_true rfl) ?_
  intro p0 e0 s0 m0 below meth c0 A0 ls Q hQ E hr hnm hw hl
  have hx := E.x
  have hb := E.b
  have hl : lv_has ls 1 [(0, .ref (o 0))] := hl
  refine lv_aload_n hx hb dX8_back_0 rfl (lv_at hl 0 rfl) ?_
  refine x_get E hw kf_X8_38 0 rfl rfl dX8_back_1 ?_
  refine xz_ne (tgt := 12) hx hb hs rfl (by omega) dX8_back_4 (by decide) (fun c_1 => ?_) (fun c_1 => ?_)
  · exact absurd c_1 (by omega)
  · refine lv_aload_n hx hb dX8_back_7 rfl (lv_at hl 0 rfl) ?_
    refine x_go (ws' := [(o 0, .inr (8, [.ref (o 1), .ref (o 2), .int (nI hs), .int bads, .int (nos + 1), .int fuls, .int cau, .int whe, .ref (o 3), .ref (o 4), .int (nI cnt), .int (nI p), .int fau, .int isw, .int ods, .ref (o 5), .ref (o 6)])), (o 1, .inl (g.2.1, 616, .inl (nwF v))), (o 2, .inl (g.2.1, 4312, .inl (pF P))), (o 3, .inl (g.2.1, 201, .inl sq)), (o 4, .inl (g.2.1, 120, .inl tx)), (o 5, .inl (g.2.1, 24, .inl wo)), (o 6, .inl (g.2.1, 72, .inl nu))]) (st1 := [.int (-3)]) E hw [0] rfl (x_runV (rest := []) E hw (c_X8_no l g o hs bads nos fuls cau whe cnt p fau isw ods ) km_X8_137 kv_X8_no [0] rfl (by decide) 0 rfl hl.1 rfl rfl (Nat.le_of_ble_eq_true rfl) ⟨Nat.le_of_ble_eq_true rfl, Nat.le_of_ble_eq_true rfl⟩ ⟨Nat.zero_le _, Nat.zero_le _⟩ dX8_back_8) rfl rfl rfl (fun H locs hw => ?_)
    exact xr_i hQ E hr hw dX8_back_11 ⟨rfl, rfl⟩

set_option maxRecDepth 100000 in
set_option maxHeartbeats 4000000 in
theorem c_X8_back_ok (l : Launch) (g : xCfg) (o : Nat → Nat) (hs : Nat) (bads : Int32) (nos : Int32) (fuls : Int32) (cau : Int32) (whe : Int32) (cnt : Nat) (p : Nat) (fau : Int32) (isw : Int32) (ods : Int32) (v : SV) (P : Nat → SV) (sq : Nat → Int32) (tx : Nat → Int32) (wo : Nat → Int32) (nu : Nat → Int32) (h1 : 1 ≤ hs) (hh : hs ≤ 6) : Ct l g yX8_back cX8_back 1 (some .int) (xR 1 22) [.ref (o 0)] [(o 0, .inr (8, [.ref (o 1), .ref (o 2), .int (nI hs), .int bads, .int nos, .int fuls, .int cau, .int whe, .ref (o 3), .ref (o 4), .int (nI cnt), .int (nI p), .int fau, .int isw, .int ods, .ref (o 5), .ref (o 6)])), (o 1, .inl (g.2.1, 616, .inl (nwF v))), (o 2, .inl (g.2.1, 4312, .inl (pF P))), (o 3, .inl (g.2.1, 201, .inl sq)), (o 4, .inl (g.2.1, 120, .inl tx)), (o 5, .inl (g.2.1, 24, .inl wo)), (o 6, .inl (g.2.1, 72, .inl nu))] (is1 (some (.int (nI (hs - 1)))) [(o 0, .inr (8, [.ref (o 1), .ref (o 2), .int (nI (hs - 1)), .int bads, .int nos, .int fuls, .int cau, .int whe, .ref (o 3), .ref (o 4), .int (nI cnt), .int (nI p), .int fau, .int isw, .int ods, .ref (o 5), .ref (o 6)])), (o 1, .inl (g.2.1, 616, .inl (nwF (P (hs - 1))))), (o 2, .inl (g.2.1, 4312, .inl (pF P))), (o 3, .inl (g.2.1, 201, .inl sq)), (o 4, .inl (g.2.1, 120, .inl tx)), (o 5, .inl (g.2.1, 24, .inl wo)), (o 6, .inl (g.2.1, 72, .inl nu))]) := by
  refine Ct.walk (by decide) (Nat.le_of_ble_eq_true rfl) ?_
  intro p0 e0 s0 m0 below meth c0 A0 ls Q hQ E hr hnm hw hl
  have hx := E.x
  have hb := E.b
  have hl : lv_has ls 1 [(0, .ref (o 0))] := hl
  refine lv_aload_n hx hb dX8_back_0 rfl (lv_at hl 0 rfl) ?_
  refine x_get E hw kf_X8_38 0 rfl rfl dX8_back_1 ?_
  refine xz_ne (tgt := 12) hx hb hs rfl (by omega) dX8_back_4 (by decide) (fun c_1 => ?_) (fun c_1 => ?_)
  · refine lv_aload_n hx hb dX8_back_12 rfl (lv_at hl 0 rfl) ?_
    refine lv_dup hx hb dX8_back_13 rfl ?_
    refine x_get E hw kf_X8_38 0 rfl rfl dX8_back_14 ?_
    refine lv_iconst (v := 1) hx hb dX8_back_17 (by decide) ?_
    refine xn_sub hx hb hs 1 rfl rfl (by omega) dX8_back_18 ?_
    refine x_put E hw kf_X8_38 kp_X8_2 0 rfl (ty := .int) (by decide +kernel) rfl rfl (by simp) (ws' := [(o 0, .inr (8, [.ref (o 1), .ref (o 2), .int (nI (hs - 1)), .int bads, .int nos, .int fuls, .int cau, .int whe, .ref (o 3), .ref (o 4), .int (nI cnt), .int (nI p), .int fau, .int isw, .int ods, .ref (o 5), .ref (o 6)])), (o 1, .inl (g.2.1, 616, .inl (nwF v))), (o 2, .inl (g.2.1, 4312, .inl (pF P))), (o 3, .inl (g.2.1, 201, .inl sq)), (o 4, .inl (g.2.1, 120, .inl tx)), (o 5, .inl (g.2.1, 24, .inl wo)), (o 6, .inl (g.2.1, 72, .inl nu))]) rfl dX8_back_19 (fun H locs hw => ?_)
    refine lv_aload_n hx hb dX8_back_22 rfl (lv_at hl 0 rfl) ?_
    refine lv_aload_n hx hb dX8_back_23 rfl (lv_at hl 0 rfl) ?_
    refine x_get E hw kf_X8_38 0 rfl rfl dX8_back_24 ?_
    refine x_go (ws' := [(o 0, .inr (8, [.ref (o 1), .ref (o 2), .int (nI (hs - 1)), .int bads, .int nos, .int fuls, .int cau, .int whe, .ref (o 3), .ref (o 4), .int (nI cnt), .int (nI p), .int fau, .int isw, .int ods, .ref (o 5), .ref (o 6)])), (o 1, .inl (g.2.1, 616, .inl (nwF (P (hs - 1))))), (o 2, .inl (g.2.1, 4312, .inl (pF P))), (o 3, .inl (g.2.1, 201, .inl sq)), (o 4, .inl (g.2.1, 120, .inl tx)), (o 5, .inl (g.2.1, 24, .inl wo)), (o 6, .inl (g.2.1, 72, .inl nu))]) (st1 := []) E hw [0, 1, 2] rfl (x_runV (rest := []) E hw (c_X8_takeFrom l g o (hs - 1) bads nos fuls cau whe cnt p fau isw ods v P (hs - 1) (by omega)) km_X8_198 kv_X8_takeFrom [0, 1, 2] rfl (by decide) 0 rfl hl.1 rfl rfl (Nat.le_of_ble_eq_true rfl) ⟨Nat.le_of_ble_eq_true rfl, Nat.le_of_ble_eq_true rfl⟩ ⟨Nat.zero_le _, Nat.zero_le _⟩ dX8_back_27) rfl rfl rfl (fun H locs hw => ?_)
    refine lv_aload_n hx hb dX8_back_30 rfl (lv_at hl 0 rfl) ?_
    refine x_get E hw kf_X8_38 0 rfl rfl dX8_back_31 ?_
    exact xr_i hQ E hr hw dX8_back_34 ⟨rfl, rfl⟩
  · exact absurd c_1 (by omega)

set_option maxRecDepth 100000 in
set_option maxHeartbeats 4000000 in
theorem c_X8_tell_0 (l : Launch) (g : xCfg) (o : Nat → Nat) (hs : Nat) (bads : Int32) (nos : Int32) (fuls : Int32) (cau : Int32) (whe : Int32) (cnt : Nat) (p : Nat) (fau : Int32) (isw : Int32) (ods : Int32) (v : SV)  : Ct l g yX8_tell cX8_tell 2 (some .int) (xR 0 0) [.ref (o 0), .int 0] [(o 0, .inr (8, [.ref (o 1), .ref (o 2), .int (nI hs), .int bads, .int nos, .int fuls, .int cau, .int whe, .ref (o 3), .ref (o 4), .int (nI cnt), .int (nI p), .int fau, .int isw, .int ods, .ref (o 5), .ref (o 6)])), (o 1, .inl (g.2.1, 616, .inl (nwF v)))] (is1 (some (.int (tldF bads nos fuls v.1 v.2.2.2.2.1 cnt hs 0))) [(o 0, .inr (8, [.ref (o 1), .ref (o 2), .int (nI hs), .int bads, .int nos, .int fuls, .int cau, .int whe, .ref (o 3), .ref (o 4), .int (nI cnt), .int (nI p), .int fau, .int isw, .int ods, .ref (o 5), .ref (o 6)])), (o 1, .inl (g.2.1, 616, .inl (nwF v)))]) := by
  refine Ct.walk (by decide) (Nat.le_of_ble_eq_true rfl) ?_
  intro p0 e0 s0 m0 below meth c0 A0 ls Q hQ E hr hnm hw hl
  have hx := E.x
  have hb := E.b
  have hl : lv_has ls 2 [(0, .ref (o 0)), (1, .int 0)] := hl
  refine lv_iload_n hx hb dX8_tell_0 rfl (lv_at hl 1 rfl) ?_
  refine x_sw (v := 0) (off := 67) (tgt := 68) hx hb dX8_tell_1 rfl (by decide) (by decide) (by decide) (by decide) ?_
  refine lv_aload_n hx hb dX8_tell_68 rfl (lv_at hl 0 rfl) ?_
  refine x_get E hw kf_X8_32 0 rfl rfl dX8_tell_69 ?_
  exact xr_i hQ E hr hw dX8_tell_72 ⟨rfl, rfl⟩

set_option maxRecDepth 100000 in
set_option maxHeartbeats 4000000 in
theorem c_X8_tell_1 (l : Launch) (g : xCfg) (o : Nat → Nat) (hs : Nat) (bads : Int32) (nos : Int32) (fuls : Int32) (cau : Int32) (whe : Int32) (cnt : Nat) (p : Nat) (fau : Int32) (isw : Int32) (ods : Int32) (v : SV)  : Ct l g yX8_tell cX8_tell 2 (some .int) (xR 0 0) [.ref (o 0), .int 1] [(o 0, .inr (8, [.ref (o 1), .ref (o 2), .int (nI hs), .int bads, .int nos, .int fuls, .int cau, .int whe, .ref (o 3), .ref (o 4), .int (nI cnt), .int (nI p), .int fau, .int isw, .int ods, .ref (o 5), .ref (o 6)])), (o 1, .inl (g.2.1, 616, .inl (nwF v)))] (is1 (some (.int (tldF bads nos fuls v.1 v.2.2.2.2.1 cnt hs 1))) [(o 0, .inr (8, [.ref (o 1), .ref (o 2), .int (nI hs), .int bads, .int nos, .int fuls, .int cau, .int whe, .ref (o 3), .ref (o 4), .int (nI cnt), .int (nI p), .int fau, .int isw, .int ods, .ref (o 5), .ref (o 6)])), (o 1, .inl (g.2.1, 616, .inl (nwF v)))]) := by
  refine Ct.walk (by decide) (Nat.le_of_ble_eq_true rfl) ?_
  intro p0 e0 s0 m0 below meth c0 A0 ls Q hQ E hr hnm hw hl
  have hx := E.x
  have hb := E.b
  have hl : lv_has ls 2 [(0, .ref (o 0)), (1, .int 1)] := hl
  refine lv_iload_n hx hb dX8_tell_0 rfl (lv_at hl 1 rfl) ?_
  refine x_sw (v := 1) (off := 72) (tgt := 73) hx hb dX8_tell_1 rfl (by decide) (by decide) (by decide) (by decide) ?_
  refine lv_aload_n hx hb dX8_tell_73 rfl (lv_at hl 0 rfl) ?_
  refine x_get E hw kf_X8_35 0 rfl rfl dX8_tell_74 ?_
  exact xr_i hQ E hr hw dX8_tell_77 ⟨rfl, rfl⟩

set_option maxRecDepth 100000 in
set_option maxHeartbeats 4000000 in
theorem c_X8_tell_2 (l : Launch) (g : xCfg) (o : Nat → Nat) (hs : Nat) (bads : Int32) (nos : Int32) (fuls : Int32) (cau : Int32) (whe : Int32) (cnt : Nat) (p : Nat) (fau : Int32) (isw : Int32) (ods : Int32) (v : SV)  : Ct l g yX8_tell cX8_tell 2 (some .int) (xR 0 0) [.ref (o 0), .int 2] [(o 0, .inr (8, [.ref (o 1), .ref (o 2), .int (nI hs), .int bads, .int nos, .int fuls, .int cau, .int whe, .ref (o 3), .ref (o 4), .int (nI cnt), .int (nI p), .int fau, .int isw, .int ods, .ref (o 5), .ref (o 6)])), (o 1, .inl (g.2.1, 616, .inl (nwF v)))] (is1 (some (.int (tldF bads nos fuls v.1 v.2.2.2.2.1 cnt hs 2))) [(o 0, .inr (8, [.ref (o 1), .ref (o 2), .int (nI hs), .int bads, .int nos, .int fuls, .int cau, .int whe, .ref (o 3), .ref (o 4), .int (nI cnt), .int (nI p), .int fau, .int isw, .int ods, .ref (o 5), .ref (o 6)])), (o 1, .inl (g.2.1, 616, .inl (nwF v)))]) := by
  refine Ct.walk (by decide) (Nat.le_of_ble_eq_true rfl) ?_
  intro p0 e0 s0 m0 below meth c0 A0 ls Q hQ E hr hnm hw hl
  have hx := E.x
  have hb := E.b
  have hl : lv_has ls 2 [(0, .ref (o 0)), (1, .int 2)] := hl
  refine lv_iload_n hx hb dX8_tell_0 rfl (lv_at hl 1 rfl) ?_
  refine x_sw (v := 2) (off := 77) (tgt := 78) hx hb dX8_tell_1 rfl (by decide) (by decide) (by decide) (by decide) ?_
  refine lv_aload_n hx hb dX8_tell_78 rfl (lv_at hl 0 rfl) ?_
  refine x_get E hw kf_X8_146 0 rfl rfl dX8_tell_79 ?_
  exact xr_i hQ E hr hw dX8_tell_82 ⟨rfl, rfl⟩

set_option maxRecDepth 100000 in
set_option maxHeartbeats 4000000 in
theorem c_X8_tell_3 (l : Launch) (g : xCfg) (o : Nat → Nat) (hs : Nat) (bads : Int32) (nos : Int32) (fuls : Int32) (cau : Int32) (whe : Int32) (cnt : Nat) (p : Nat) (fau : Int32) (isw : Int32) (ods : Int32) (v : SV)  : Ct l g yX8_tell cX8_tell 2 (some .int) (xR 0 0) [.ref (o 0), .int 3] [(o 0, .inr (8, [.ref (o 1), .ref (o 2), .int (nI hs), .int bads, .int nos, .int fuls, .int cau, .int whe, .ref (o 3), .ref (o 4), .int (nI cnt), .int (nI p), .int fau, .int isw, .int ods, .ref (o 5), .ref (o 6)])), (o 1, .inl (g.2.1, 616, .inl (nwF v)))] (is1 (some (.int (tldF bads nos fuls v.1 v.2.2.2.2.1 cnt hs 3))) [(o 0, .inr (8, [.ref (o 1), .ref (o 2), .int (nI hs), .int bads, .int nos, .int fuls, .int cau, .int whe, .ref (o 3), .ref (o 4), .int (nI cnt), .int (nI p), .int fau, .int isw, .int ods, .ref (o 5), .ref (o 6)])), (o 1, .inl (g.2.1, 616, .inl (nwF v)))]) := by
  refine Ct.walk (by decide) (Nat.le_of_ble_eq_true rfl) ?_
  intro p0 e0 s0 m0 below meth c0 A0 ls Q hQ E hr hnm hw hl
  have hx := E.x
  have hb := E.b
  have hl : lv_has ls 2 [(0, .ref (o 0)), (1, .int 3)] := hl
  refine lv_iload_n hx hb dX8_tell_0 rfl (lv_at hl 1 rfl) ?_
  refine x_sw (v := 3) (off := 82) (tgt := 83) hx hb dX8_tell_1 rfl (by decide) (by decide) (by decide) (by decide) ?_
  refine lv_aload_n hx hb dX8_tell_83 rfl (lv_at hl 0 rfl) ?_
  refine x_get E hw kf_X8_7 0 rfl rfl dX8_tell_84 ?_
  refine lv_iconst (v := 0) hx hb dX8_tell_87 (by decide) ?_
  refine x_ld (v := nI v.1) E hw 1 rfl 0 rfl (by omega) (by decide) rfl dX8_tell_88 ?_
  exact xr_i hQ E hr hw dX8_tell_89 ⟨rfl, rfl⟩

set_option maxRecDepth 100000 in
set_option maxHeartbeats 4000000 in
theorem c_X8_tell_4 (l : Launch) (g : xCfg) (o : Nat → Nat) (hs : Nat) (bads : Int32) (nos : Int32) (fuls : Int32) (cau : Int32) (whe : Int32) (cnt : Nat) (p : Nat) (fau : Int32) (isw : Int32) (ods : Int32) (v : SV)  : Ct l g yX8_tell cX8_tell 2 (some .int) (xR 0 0) [.ref (o 0), .int 4] [(o 0, .inr (8, [.ref (o 1), .ref (o 2), .int (nI hs), .int bads, .int nos, .int fuls, .int cau, .int whe, .ref (o 3), .ref (o 4), .int (nI cnt), .int (nI p), .int fau, .int isw, .int ods, .ref (o 5), .ref (o 6)])), (o 1, .inl (g.2.1, 616, .inl (nwF v)))] (is1 (some (.int (tldF bads nos fuls v.1 v.2.2.2.2.1 cnt hs 4))) [(o 0, .inr (8, [.ref (o 1), .ref (o 2), .int (nI hs), .int bads, .int nos, .int fuls, .int cau, .int whe, .ref (o 3), .ref (o 4), .int (nI cnt), .int (nI p), .int fau, .int isw, .int ods, .ref (o 5), .ref (o 6)])), (o 1, .inl (g.2.1, 616, .inl (nwF v)))]) := by
  refine Ct.walk (by decide) (Nat.le_of_ble_eq_true rfl) ?_
  intro p0 e0 s0 m0 below meth c0 A0 ls Q hQ E hr hnm hw hl
  have hx := E.x
  have hb := E.b
  have hl : lv_has ls 2 [(0, .ref (o 0)), (1, .int 4)] := hl
  refine lv_iload_n hx hb dX8_tell_0 rfl (lv_at hl 1 rfl) ?_
  refine x_sw (v := 4) (off := 99) (tgt := 100) hx hb dX8_tell_1 rfl (by decide) (by decide) (by decide) (by decide) ?_
  refine lv_aload_n hx hb dX8_tell_100 rfl (lv_at hl 0 rfl) ?_
  refine x_get E hw kf_X8_7 0 rfl rfl dX8_tell_101 ?_
  refine lv_iconst (v := 1) hx hb dX8_tell_104 (by decide) ?_
  refine lv_iload_n hx hb dX8_tell_105 rfl (lv_at hl 1 rfl) ?_
  refine xn_add hx hb 1 4 rfl rfl dX8_tell_106 ?_
  refine x_topi (x' := 5) rfl ?_
  refine lv_iconst (v := 4) hx hb dX8_tell_107 (by decide) ?_
  refine lv_isub hx hb dX8_tell_108 ?_
  refine x_top (v' := .int 1) (by decide) ?_
  refine x_ld (v := v.2.2.2.2.1 0) E hw 1 rfl 1 rfl (by omega) (by decide) rfl dX8_tell_109 ?_
  exact xr_i hQ E hr hw dX8_tell_110 ⟨rfl, rfl⟩

set_option maxRecDepth 100000 in
set_option maxHeartbeats 4000000 in
theorem c_X8_tell_5 (l : Launch) (g : xCfg) (o : Nat → Nat) (hs : Nat) (bads : Int32) (nos : Int32) (fuls : Int32) (cau : Int32) (whe : Int32) (cnt : Nat) (p : Nat) (fau : Int32) (isw : Int32) (ods : Int32) (v : SV)  : Ct l g yX8_tell cX8_tell 2 (some .int) (xR 0 0) [.ref (o 0), .int 5] [(o 0, .inr (8, [.ref (o 1), .ref (o 2), .int (nI hs), .int bads, .int nos, .int fuls, .int cau, .int whe, .ref (o 3), .ref (o 4), .int (nI cnt), .int (nI p), .int fau, .int isw, .int ods, .ref (o 5), .ref (o 6)])), (o 1, .inl (g.2.1, 616, .inl (nwF v)))] (is1 (some (.int (tldF bads nos fuls v.1 v.2.2.2.2.1 cnt hs 5))) [(o 0, .inr (8, [.ref (o 1), .ref (o 2), .int (nI hs), .int bads, .int nos, .int fuls, .int cau, .int whe, .ref (o 3), .ref (o 4), .int (nI cnt), .int (nI p), .int fau, .int isw, .int ods, .ref (o 5), .ref (o 6)])), (o 1, .inl (g.2.1, 616, .inl (nwF v)))]) := by
  refine Ct.walk (by decide) (Nat.le_of_ble_eq_true rfl) ?_
  intro p0 e0 s0 m0 below meth c0 A0 ls Q hQ E hr hnm hw hl
  have hx := E.x
  have hb := E.b
  have hl : lv_has ls 2 [(0, .ref (o 0)), (1, .int 5)] := hl
  refine lv_iload_n hx hb dX8_tell_0 rfl (lv_at hl 1 rfl) ?_
  refine x_sw (v := 5) (off := 99) (tgt := 100) hx hb dX8_tell_1 rfl (by decide) (by decide) (by decide) (by decide) ?_
  refine lv_aload_n hx hb dX8_tell_100 rfl (lv_at hl 0 rfl) ?_
  refine x_get E hw kf_X8_7 0 rfl rfl dX8_tell_101 ?_
  refine lv_iconst (v := 1) hx hb dX8_tell_104 (by decide) ?_
  refine lv_iload_n hx hb dX8_tell_105 rfl (lv_at hl 1 rfl) ?_
  refine xn_add hx hb 1 5 rfl rfl dX8_tell_106 ?_
  refine x_topi (x' := 6) rfl ?_
  refine lv_iconst (v := 4) hx hb dX8_tell_107 (by decide) ?_
  refine lv_isub hx hb dX8_tell_108 ?_
  refine x_top (v' := .int 2) (by decide) ?_
  refine x_ld (v := v.2.2.2.2.1 1) E hw 1 rfl 2 rfl (by omega) (by decide) rfl dX8_tell_109 ?_
  exact xr_i hQ E hr hw dX8_tell_110 ⟨rfl, rfl⟩

set_option maxRecDepth 100000 in
set_option maxHeartbeats 4000000 in
theorem c_X8_tell_6 (l : Launch) (g : xCfg) (o : Nat → Nat) (hs : Nat) (bads : Int32) (nos : Int32) (fuls : Int32) (cau : Int32) (whe : Int32) (cnt : Nat) (p : Nat) (fau : Int32) (isw : Int32) (ods : Int32) (v : SV)  : Ct l g yX8_tell cX8_tell 2 (some .int) (xR 0 0) [.ref (o 0), .int 6] [(o 0, .inr (8, [.ref (o 1), .ref (o 2), .int (nI hs), .int bads, .int nos, .int fuls, .int cau, .int whe, .ref (o 3), .ref (o 4), .int (nI cnt), .int (nI p), .int fau, .int isw, .int ods, .ref (o 5), .ref (o 6)])), (o 1, .inl (g.2.1, 616, .inl (nwF v)))] (is1 (some (.int (tldF bads nos fuls v.1 v.2.2.2.2.1 cnt hs 6))) [(o 0, .inr (8, [.ref (o 1), .ref (o 2), .int (nI hs), .int bads, .int nos, .int fuls, .int cau, .int whe, .ref (o 3), .ref (o 4), .int (nI cnt), .int (nI p), .int fau, .int isw, .int ods, .ref (o 5), .ref (o 6)])), (o 1, .inl (g.2.1, 616, .inl (nwF v)))]) := by
  refine Ct.walk (by decide) (Nat.le_of_ble_eq_true rfl) ?_
  intro p0 e0 s0 m0 below meth c0 A0 ls Q hQ E hr hnm hw hl
  have hx := E.x
  have hb := E.b
  have hl : lv_has ls 2 [(0, .ref (o 0)), (1, .int 6)] := hl
  refine lv_iload_n hx hb dX8_tell_0 rfl (lv_at hl 1 rfl) ?_
  refine x_sw (v := 6) (off := 99) (tgt := 100) hx hb dX8_tell_1 rfl (by decide) (by decide) (by decide) (by decide) ?_
  refine lv_aload_n hx hb dX8_tell_100 rfl (lv_at hl 0 rfl) ?_
  refine x_get E hw kf_X8_7 0 rfl rfl dX8_tell_101 ?_
  refine lv_iconst (v := 1) hx hb dX8_tell_104 (by decide) ?_
  refine lv_iload_n hx hb dX8_tell_105 rfl (lv_at hl 1 rfl) ?_
  refine xn_add hx hb 1 6 rfl rfl dX8_tell_106 ?_
  refine x_topi (x' := 7) rfl ?_
  refine lv_iconst (v := 4) hx hb dX8_tell_107 (by decide) ?_
  refine lv_isub hx hb dX8_tell_108 ?_
  refine x_top (v' := .int 3) (by decide) ?_
  refine x_ld (v := v.2.2.2.2.1 2) E hw 1 rfl 3 rfl (by omega) (by decide) rfl dX8_tell_109 ?_
  exact xr_i hQ E hr hw dX8_tell_110 ⟨rfl, rfl⟩

set_option maxRecDepth 100000 in
set_option maxHeartbeats 4000000 in
theorem c_X8_tell_7 (l : Launch) (g : xCfg) (o : Nat → Nat) (hs : Nat) (bads : Int32) (nos : Int32) (fuls : Int32) (cau : Int32) (whe : Int32) (cnt : Nat) (p : Nat) (fau : Int32) (isw : Int32) (ods : Int32) (v : SV)  : Ct l g yX8_tell cX8_tell 2 (some .int) (xR 0 0) [.ref (o 0), .int 7] [(o 0, .inr (8, [.ref (o 1), .ref (o 2), .int (nI hs), .int bads, .int nos, .int fuls, .int cau, .int whe, .ref (o 3), .ref (o 4), .int (nI cnt), .int (nI p), .int fau, .int isw, .int ods, .ref (o 5), .ref (o 6)])), (o 1, .inl (g.2.1, 616, .inl (nwF v)))] (is1 (some (.int (tldF bads nos fuls v.1 v.2.2.2.2.1 cnt hs 7))) [(o 0, .inr (8, [.ref (o 1), .ref (o 2), .int (nI hs), .int bads, .int nos, .int fuls, .int cau, .int whe, .ref (o 3), .ref (o 4), .int (nI cnt), .int (nI p), .int fau, .int isw, .int ods, .ref (o 5), .ref (o 6)])), (o 1, .inl (g.2.1, 616, .inl (nwF v)))]) := by
  refine Ct.walk (by decide) (Nat.le_of_ble_eq_true rfl) ?_
  intro p0 e0 s0 m0 below meth c0 A0 ls Q hQ E hr hnm hw hl
  have hx := E.x
  have hb := E.b
  have hl : lv_has ls 2 [(0, .ref (o 0)), (1, .int 7)] := hl
  refine lv_iload_n hx hb dX8_tell_0 rfl (lv_at hl 1 rfl) ?_
  refine x_sw (v := 7) (off := 99) (tgt := 100) hx hb dX8_tell_1 rfl (by decide) (by decide) (by decide) (by decide) ?_
  refine lv_aload_n hx hb dX8_tell_100 rfl (lv_at hl 0 rfl) ?_
  refine x_get E hw kf_X8_7 0 rfl rfl dX8_tell_101 ?_
  refine lv_iconst (v := 1) hx hb dX8_tell_104 (by decide) ?_
  refine lv_iload_n hx hb dX8_tell_105 rfl (lv_at hl 1 rfl) ?_
  refine xn_add hx hb 1 7 rfl rfl dX8_tell_106 ?_
  refine x_topi (x' := 8) rfl ?_
  refine lv_iconst (v := 4) hx hb dX8_tell_107 (by decide) ?_
  refine lv_isub hx hb dX8_tell_108 ?_
  refine x_top (v' := .int 4) (by decide) ?_
  refine x_ld (v := v.2.2.2.2.1 3) E hw 1 rfl 4 rfl (by omega) (by decide) rfl dX8_tell_109 ?_
  exact xr_i hQ E hr hw dX8_tell_110 ⟨rfl, rfl⟩

set_option maxRecDepth 100000 in
set_option maxHeartbeats 4000000 in
theorem c_X8_tell_8 (l : Launch) (g : xCfg) (o : Nat → Nat) (hs : Nat) (bads : Int32) (nos : Int32) (fuls : Int32) (cau : Int32) (whe : Int32) (cnt : Nat) (p : Nat) (fau : Int32) (isw : Int32) (ods : Int32) (v : SV)  : Ct l g yX8_tell cX8_tell 2 (some .int) (xR 0 0) [.ref (o 0), .int 8] [(o 0, .inr (8, [.ref (o 1), .ref (o 2), .int (nI hs), .int bads, .int nos, .int fuls, .int cau, .int whe, .ref (o 3), .ref (o 4), .int (nI cnt), .int (nI p), .int fau, .int isw, .int ods, .ref (o 5), .ref (o 6)])), (o 1, .inl (g.2.1, 616, .inl (nwF v)))] (is1 (some (.int (tldF bads nos fuls v.1 v.2.2.2.2.1 cnt hs 8))) [(o 0, .inr (8, [.ref (o 1), .ref (o 2), .int (nI hs), .int bads, .int nos, .int fuls, .int cau, .int whe, .ref (o 3), .ref (o 4), .int (nI cnt), .int (nI p), .int fau, .int isw, .int ods, .ref (o 5), .ref (o 6)])), (o 1, .inl (g.2.1, 616, .inl (nwF v)))]) := by
  refine Ct.walk (by decide) (Nat.le_of_ble_eq_true rfl) ?_
  intro p0 e0 s0 m0 below meth c0 A0 ls Q hQ E hr hnm hw hl
  have hx := E.x
  have hb := E.b
  have hl : lv_has ls 2 [(0, .ref (o 0)), (1, .int 8)] := hl
  refine lv_iload_n hx hb dX8_tell_0 rfl (lv_at hl 1 rfl) ?_
  refine x_sw (v := 8) (off := 99) (tgt := 100) hx hb dX8_tell_1 rfl (by decide) (by decide) (by decide) (by decide) ?_
  refine lv_aload_n hx hb dX8_tell_100 rfl (lv_at hl 0 rfl) ?_
  refine x_get E hw kf_X8_7 0 rfl rfl dX8_tell_101 ?_
  refine lv_iconst (v := 1) hx hb dX8_tell_104 (by decide) ?_
  refine lv_iload_n hx hb dX8_tell_105 rfl (lv_at hl 1 rfl) ?_
  refine xn_add hx hb 1 8 rfl rfl dX8_tell_106 ?_
  refine x_topi (x' := 9) rfl ?_
  refine lv_iconst (v := 4) hx hb dX8_tell_107 (by decide) ?_
  refine lv_isub hx hb dX8_tell_108 ?_
  refine x_top (v' := .int 5) (by decide) ?_
  refine x_ld (v := v.2.2.2.2.1 4) E hw 1 rfl 5 rfl (by omega) (by decide) rfl dX8_tell_109 ?_
  exact xr_i hQ E hr hw dX8_tell_110 ⟨rfl, rfl⟩

set_option maxRecDepth 100000 in
set_option maxHeartbeats 4000000 in
theorem c_X8_tell_9 (l : Launch) (g : xCfg) (o : Nat → Nat) (hs : Nat) (bads : Int32) (nos : Int32) (fuls : Int32) (cau : Int32) (whe : Int32) (cnt : Nat) (p : Nat) (fau : Int32) (isw : Int32) (ods : Int32) (v : SV)  : Ct l g yX8_tell cX8_tell 2 (some .int) (xR 0 0) [.ref (o 0), .int 9] [(o 0, .inr (8, [.ref (o 1), .ref (o 2), .int (nI hs), .int bads, .int nos, .int fuls, .int cau, .int whe, .ref (o 3), .ref (o 4), .int (nI cnt), .int (nI p), .int fau, .int isw, .int ods, .ref (o 5), .ref (o 6)])), (o 1, .inl (g.2.1, 616, .inl (nwF v)))] (is1 (some (.int (tldF bads nos fuls v.1 v.2.2.2.2.1 cnt hs 9))) [(o 0, .inr (8, [.ref (o 1), .ref (o 2), .int (nI hs), .int bads, .int nos, .int fuls, .int cau, .int whe, .ref (o 3), .ref (o 4), .int (nI cnt), .int (nI p), .int fau, .int isw, .int ods, .ref (o 5), .ref (o 6)])), (o 1, .inl (g.2.1, 616, .inl (nwF v)))]) := by
  refine Ct.walk (by decide) (Nat.le_of_ble_eq_true rfl) ?_
  intro p0 e0 s0 m0 below meth c0 A0 ls Q hQ E hr hnm hw hl
  have hx := E.x
  have hb := E.b
  have hl : lv_has ls 2 [(0, .ref (o 0)), (1, .int 9)] := hl
  refine lv_iload_n hx hb dX8_tell_0 rfl (lv_at hl 1 rfl) ?_
  refine x_sw (v := 9) (off := 99) (tgt := 100) hx hb dX8_tell_1 rfl (by decide) (by decide) (by decide) (by decide) ?_
  refine lv_aload_n hx hb dX8_tell_100 rfl (lv_at hl 0 rfl) ?_
  refine x_get E hw kf_X8_7 0 rfl rfl dX8_tell_101 ?_
  refine lv_iconst (v := 1) hx hb dX8_tell_104 (by decide) ?_
  refine lv_iload_n hx hb dX8_tell_105 rfl (lv_at hl 1 rfl) ?_
  refine xn_add hx hb 1 9 rfl rfl dX8_tell_106 ?_
  refine x_topi (x' := 10) rfl ?_
  refine lv_iconst (v := 4) hx hb dX8_tell_107 (by decide) ?_
  refine lv_isub hx hb dX8_tell_108 ?_
  refine x_top (v' := .int 6) (by decide) ?_
  refine x_ld (v := v.2.2.2.2.1 5) E hw 1 rfl 6 rfl (by omega) (by decide) rfl dX8_tell_109 ?_
  exact xr_i hQ E hr hw dX8_tell_110 ⟨rfl, rfl⟩

set_option maxRecDepth 100000 in
set_option maxHeartbeats 4000000 in
theorem c_X8_tell_10 (l : Launch) (g : xCfg) (o : Nat → Nat) (hs : Nat) (bads : Int32) (nos : Int32) (fuls : Int32) (cau : Int32) (whe : Int32) (cnt : Nat) (p : Nat) (fau : Int32) (isw : Int32) (ods : Int32) (v : SV)  : Ct l g yX8_tell cX8_tell 2 (some .int) (xR 0 0) [.ref (o 0), .int 10] [(o 0, .inr (8, [.ref (o 1), .ref (o 2), .int (nI hs), .int bads, .int nos, .int fuls, .int cau, .int whe, .ref (o 3), .ref (o 4), .int (nI cnt), .int (nI p), .int fau, .int isw, .int ods, .ref (o 5), .ref (o 6)])), (o 1, .inl (g.2.1, 616, .inl (nwF v)))] (is1 (some (.int (tldF bads nos fuls v.1 v.2.2.2.2.1 cnt hs 10))) [(o 0, .inr (8, [.ref (o 1), .ref (o 2), .int (nI hs), .int bads, .int nos, .int fuls, .int cau, .int whe, .ref (o 3), .ref (o 4), .int (nI cnt), .int (nI p), .int fau, .int isw, .int ods, .ref (o 5), .ref (o 6)])), (o 1, .inl (g.2.1, 616, .inl (nwF v)))]) := by
  refine Ct.walk (by decide) (Nat.le_of_ble_eq_true rfl) ?_
  intro p0 e0 s0 m0 below meth c0 A0 ls Q hQ E hr hnm hw hl
  have hx := E.x
  have hb := E.b
  have hl : lv_has ls 2 [(0, .ref (o 0)), (1, .int 10)] := hl
  refine lv_iload_n hx hb dX8_tell_0 rfl (lv_at hl 1 rfl) ?_
  refine x_sw (v := 10) (off := 99) (tgt := 100) hx hb dX8_tell_1 rfl (by decide) (by decide) (by decide) (by decide) ?_
  refine lv_aload_n hx hb dX8_tell_100 rfl (lv_at hl 0 rfl) ?_
  refine x_get E hw kf_X8_7 0 rfl rfl dX8_tell_101 ?_
  refine lv_iconst (v := 1) hx hb dX8_tell_104 (by decide) ?_
  refine lv_iload_n hx hb dX8_tell_105 rfl (lv_at hl 1 rfl) ?_
  refine xn_add hx hb 1 10 rfl rfl dX8_tell_106 ?_
  refine x_topi (x' := 11) rfl ?_
  refine lv_iconst (v := 4) hx hb dX8_tell_107 (by decide) ?_
  refine lv_isub hx hb dX8_tell_108 ?_
  refine x_top (v' := .int 7) (by decide) ?_
  refine x_ld (v := v.2.2.2.2.1 6) E hw 1 rfl 7 rfl (by omega) (by decide) rfl dX8_tell_109 ?_
  exact xr_i hQ E hr hw dX8_tell_110 ⟨rfl, rfl⟩

set_option maxRecDepth 100000 in
set_option maxHeartbeats 4000000 in
theorem c_X8_tell_11 (l : Launch) (g : xCfg) (o : Nat → Nat) (hs : Nat) (bads : Int32) (nos : Int32) (fuls : Int32) (cau : Int32) (whe : Int32) (cnt : Nat) (p : Nat) (fau : Int32) (isw : Int32) (ods : Int32) (v : SV)  : Ct l g yX8_tell cX8_tell 2 (some .int) (xR 0 0) [.ref (o 0), .int 11] [(o 0, .inr (8, [.ref (o 1), .ref (o 2), .int (nI hs), .int bads, .int nos, .int fuls, .int cau, .int whe, .ref (o 3), .ref (o 4), .int (nI cnt), .int (nI p), .int fau, .int isw, .int ods, .ref (o 5), .ref (o 6)])), (o 1, .inl (g.2.1, 616, .inl (nwF v)))] (is1 (some (.int (tldF bads nos fuls v.1 v.2.2.2.2.1 cnt hs 11))) [(o 0, .inr (8, [.ref (o 1), .ref (o 2), .int (nI hs), .int bads, .int nos, .int fuls, .int cau, .int whe, .ref (o 3), .ref (o 4), .int (nI cnt), .int (nI p), .int fau, .int isw, .int ods, .ref (o 5), .ref (o 6)])), (o 1, .inl (g.2.1, 616, .inl (nwF v)))]) := by
  refine Ct.walk (by decide) (Nat.le_of_ble_eq_true rfl) ?_
  intro p0 e0 s0 m0 below meth c0 A0 ls Q hQ E hr hnm hw hl
  have hx := E.x
  have hb := E.b
  have hl : lv_has ls 2 [(0, .ref (o 0)), (1, .int 11)] := hl
  refine lv_iload_n hx hb dX8_tell_0 rfl (lv_at hl 1 rfl) ?_
  refine x_sw (v := 11) (off := 89) (tgt := 90) hx hb dX8_tell_1 rfl (by decide) (by decide) (by decide) (by decide) ?_
  refine lv_aload_n hx hb dX8_tell_90 rfl (lv_at hl 0 rfl) ?_
  refine x_get E hw kf_X8_143 0 rfl rfl dX8_tell_91 ?_
  exact xr_i hQ E hr hw dX8_tell_94 ⟨rfl, rfl⟩

set_option maxRecDepth 100000 in
set_option maxHeartbeats 4000000 in
theorem c_X8_tell_12 (l : Launch) (g : xCfg) (o : Nat → Nat) (hs : Nat) (bads : Int32) (nos : Int32) (fuls : Int32) (cau : Int32) (whe : Int32) (cnt : Nat) (p : Nat) (fau : Int32) (isw : Int32) (ods : Int32) (v : SV)  : Ct l g yX8_tell cX8_tell 2 (some .int) (xR 0 0) [.ref (o 0), .int 12] [(o 0, .inr (8, [.ref (o 1), .ref (o 2), .int (nI hs), .int bads, .int nos, .int fuls, .int cau, .int whe, .ref (o 3), .ref (o 4), .int (nI cnt), .int (nI p), .int fau, .int isw, .int ods, .ref (o 5), .ref (o 6)])), (o 1, .inl (g.2.1, 616, .inl (nwF v)))] (is1 (some (.int (tldF bads nos fuls v.1 v.2.2.2.2.1 cnt hs 12))) [(o 0, .inr (8, [.ref (o 1), .ref (o 2), .int (nI hs), .int bads, .int nos, .int fuls, .int cau, .int whe, .ref (o 3), .ref (o 4), .int (nI cnt), .int (nI p), .int fau, .int isw, .int ods, .ref (o 5), .ref (o 6)])), (o 1, .inl (g.2.1, 616, .inl (nwF v)))]) := by
  refine Ct.walk (by decide) (Nat.le_of_ble_eq_true rfl) ?_
  intro p0 e0 s0 m0 below meth c0 A0 ls Q hQ E hr hnm hw hl
  have hx := E.x
  have hb := E.b
  have hl : lv_has ls 2 [(0, .ref (o 0)), (1, .int 12)] := hl
  refine lv_iload_n hx hb dX8_tell_0 rfl (lv_at hl 1 rfl) ?_
  refine x_sw (v := 12) (off := 94) (tgt := 95) hx hb dX8_tell_1 rfl (by decide) (by decide) (by decide) (by decide) ?_
  refine lv_aload_n hx hb dX8_tell_95 rfl (lv_at hl 0 rfl) ?_
  refine x_get E hw kf_X8_38 0 rfl rfl dX8_tell_96 ?_
  exact xr_i hQ E hr hw dX8_tell_99 ⟨rfl, rfl⟩

set_option maxRecDepth 100000 in
theorem c_X8_tell (l : Launch) (g : xCfg) (o : Nat → Nat) (hs : Nat) (bads : Int32) (nos : Int32) (fuls : Int32) (cau : Int32) (whe : Int32) (cnt : Nat) (p : Nat) (fau : Int32) (isw : Int32) (ods : Int32) (v : SV) (w : Nat) (hw0 : w < 13) : Ct l g yX8_tell cX8_tell 2 (some .int) (xR 0 0) [.ref (o 0), .int (nI w)] [(o 0, .inr (8, [.ref (o 1), .ref (o 2), .int (nI hs), .int bads, .int nos, .int fuls, .int cau, .int whe, .ref (o 3), .ref (o 4), .int (nI cnt), .int (nI p), .int fau, .int isw, .int ods, .ref (o 5), .ref (o 6)])), (o 1, .inl (g.2.1, 616, .inl (nwF v)))] (is1 (some (.int (tldF bads nos fuls v.1 v.2.2.2.2.1 cnt hs w))) [(o 0, .inr (8, [.ref (o 1), .ref (o 2), .int (nI hs), .int bads, .int nos, .int fuls, .int cau, .int whe, .ref (o 3), .ref (o 4), .int (nI cnt), .int (nI p), .int fau, .int isw, .int ods, .ref (o 5), .ref (o 6)])), (o 1, .inl (g.2.1, 616, .inl (nwF v)))]) := by
  match w, hw0 with
  | 0, _ => exact c_X8_tell_0 l g o hs bads nos fuls cau whe cnt p fau isw ods v 
  | 1, _ => exact c_X8_tell_1 l g o hs bads nos fuls cau whe cnt p fau isw ods v 
  | 2, _ => exact c_X8_tell_2 l g o hs bads nos fuls cau whe cnt p fau isw ods v 
  | 3, _ => exact c_X8_tell_3 l g o hs bads nos fuls cau whe cnt p fau isw ods v 
  | 4, _ => exact c_X8_tell_4 l g o hs bads nos fuls cau whe cnt p fau isw ods v 
  | 5, _ => exact c_X8_tell_5 l g o hs bads nos fuls cau whe cnt p fau isw ods v 
  | 6, _ => exact c_X8_tell_6 l g o hs bads nos fuls cau whe cnt p fau isw ods v 
  | 7, _ => exact c_X8_tell_7 l g o hs bads nos fuls cau whe cnt p fau isw ods v 
  | 8, _ => exact c_X8_tell_8 l g o hs bads nos fuls cau whe cnt p fau isw ods v 
  | 9, _ => exact c_X8_tell_9 l g o hs bads nos fuls cau whe cnt p fau isw ods v 
  | 10, _ => exact c_X8_tell_10 l g o hs bads nos fuls cau whe cnt p fau isw ods v 
  | 11, _ => exact c_X8_tell_11 l g o hs bads nos fuls cau whe cnt p fau isw ods v 
  | 12, _ => exact c_X8_tell_12 l g o hs bads nos fuls cau whe cnt p fau isw ods v 
  | q + 13, hq => exact absurd hq (by omega)

set_option maxRecDepth 100000 in
set_option maxHeartbeats 4000000 in
theorem c_X8_told_ok (l : Launch) (g : xCfg) (o : Nat → Nat) (hs : Nat) (bads : Int32) (nos : Int32) (fuls : Int32) (cau : Int32) (whe : Int32) (cnt : Nat) (p : Nat) (fau : Int32) (isw : Int32) (ods : Int32) (v : SV) (P : Nat → SV) (sq : Nat → Int32) (tx : Nat → Int32) (wo : Nat → Int32) (nu : Nat → Int32) (w : Nat) (hw0 : w < 13) : Ct l g yX8_told cX8_told 2 (some .int) (xR 1 22) [.ref (o 0), .int (nI w)] [(o 0, .inr (8, [.ref (o 1), .ref (o 2), .int (nI hs), .int bads, .int nos, .int fuls, .int cau, .int whe, .ref (o 3), .ref (o 4), .int (nI cnt), .int (nI p), .int fau, .int isw, .int ods, .ref (o 5), .ref (o 6)])), (o 1, .inl (g.2.1, 616, .inl (nwF v))), (o 2, .inl (g.2.1, 4312, .inl (pF P))), (o 3, .inl (g.2.1, 201, .inl sq)), (o 4, .inl (g.2.1, 120, .inl tx)), (o 5, .inl (g.2.1, 24, .inl wo)), (o 6, .inl (g.2.1, 72, .inl nu))] (is1 (some (.int (tldF bads nos fuls v.1 v.2.2.2.2.1 cnt hs w))) [(o 0, .inr (8, [.ref (o 1), .ref (o 2), .int (nI hs), .int bads, .int nos, .int fuls, .int cau, .int whe, .ref (o 3), .ref (o 4), .int (nI cnt), .int (nI p), .int fau, .int isw, .int ods, .ref (o 5), .ref (o 6)])), (o 1, .inl (g.2.1, 616, .inl (nwF v))), (o 2, .inl (g.2.1, 4312, .inl (pF P))), (o 3, .inl (g.2.1, 201, .inl sq)), (o 4, .inl (g.2.1, 120, .inl tx)), (o 5, .inl (g.2.1, 24, .inl wo)), (o 6, .inl (g.2.1, 72, .inl nu))]) := by
  refine Ct.walk (by decide) (Nat.le_of_ble_eq_true rfl) ?_
  intro p0 e0 s0 m0 below meth c0 A0 ls Q hQ E hr hnm hw hl
  have hx := E.x
  have hb := E.b
  have hl : lv_has ls 2 [(0, .ref (o 0)), (1, .int (nI w))] := hl
  refine lv_iload_n hx hb dX8_told_0 rfl (lv_at hl 1 rfl) ?_
  refine lv_iconst (v := 0) hx hb dX8_told_1 (by decide) ?_
  refine lv_bipush (v := 12) hx hb dX8_told_2 (by decide) ?_
  refine x_goR (st1 := [.int 1]) E hw [] rfl (x_runS (rest := []) E hw (c_X8_in_ok l g (nI w) 0 12 (nI_pos' (by omega)) (nI_le (b := 12) (by omega) (by decide))) km_X8_45 ks_X8_in [] rfl (by decide) hl.1 rfl rfl (Nat.le_of_ble_eq_true rfl) ⟨Nat.le_of_ble_eq_true rfl, Nat.le_of_ble_eq_true rfl⟩ ⟨Nat.zero_le _, Nat.zero_le _⟩ dX8_told_4) rfl (fun H locs hw => ?_)
  refine lv_if_eq (tgt := 18) hx hb dX8_told_7 (by decide) (fun h => absurd h (by decide)) (fun _ => ?_)
  refine lv_aload_n hx hb dX8_told_10 rfl (lv_at hl 0 rfl) ?_
  refine lv_iload_n hx hb dX8_told_11 rfl (lv_at hl 1 rfl) ?_
  refine x_goR (st1 := [.int (tldF bads nos fuls v.1 v.2.2.2.2.1 cnt hs w)]) E hw [0, 1] rfl (x_runV (rest := []) E hw (c_X8_tell l g o hs bads nos fuls cau whe cnt p fau isw ods v w (by omega)) km_X8_207 kv_X8_tell [0, 1] rfl (by decide) 0 rfl hl.1 rfl rfl (Nat.le_of_ble_eq_true rfl) ⟨Nat.le_of_ble_eq_true rfl, Nat.le_of_ble_eq_true rfl⟩ ⟨Nat.zero_le _, Nat.zero_le _⟩ dX8_told_12) rfl (fun H locs hw => ?_)
  refine lv_goto (tgt := 22) hx hb dX8_told_15 (by decide) ?_
  exact xr_i hQ E hr hw dX8_told_22 ⟨rfl, rfl⟩

set_option maxRecDepth 100000 in
set_option maxHeartbeats 4000000 in
theorem c_X8_told_bad (l : Launch) (g : xCfg) (o : Nat → Nat) (hs : Nat) (bads : Int32) (nos : Int32) (fuls : Int32) (cau : Int32) (whe : Int32) (cnt : Nat) (p : Nat) (fau : Int32) (isw : Int32) (ods : Int32) (v : SV) (P : Nat → SV) (sq : Nat → Int32) (tx : Nat → Int32) (wo : Nat → Int32) (nu : Nat → Int32) (x : Int32) (hb0 : ¬ (0 ≤ x ∧ x ≤ 12)) : Ct l g yX8_told cX8_told 2 (some .int) (xR 1 22) [.ref (o 0), .int x] [(o 0, .inr (8, [.ref (o 1), .ref (o 2), .int (nI hs), .int bads, .int nos, .int fuls, .int cau, .int whe, .ref (o 3), .ref (o 4), .int (nI cnt), .int (nI p), .int fau, .int isw, .int ods, .ref (o 5), .ref (o 6)])), (o 1, .inl (g.2.1, 616, .inl (nwF v))), (o 2, .inl (g.2.1, 4312, .inl (pF P))), (o 3, .inl (g.2.1, 201, .inl sq)), (o 4, .inl (g.2.1, 120, .inl tx)), (o 5, .inl (g.2.1, 24, .inl wo)), (o 6, .inl (g.2.1, 72, .inl nu))] (is1 (some (.int (-2))) [(o 0, .inr (8, [.ref (o 1), .ref (o 2), .int (nI hs), .int (bads + 1), .int nos, .int fuls, .int cau, .int whe, .ref (o 3), .ref (o 4), .int (nI cnt), .int (nI p), .int fau, .int isw, .int ods, .ref (o 5), .ref (o 6)])), (o 1, .inl (g.2.1, 616, .inl (nwF v))), (o 2, .inl (g.2.1, 4312, .inl (pF P))), (o 3, .inl (g.2.1, 201, .inl sq)), (o 4, .inl (g.2.1, 120, .inl tx)), (o 5, .inl (g.2.1, 24, .inl wo)), (o 6, .inl (g.2.1, 72, .inl nu))]) := by
  refine Ct.walk (by decide) (Nat.le_of_ble_eq_true rfl) ?_
  intro p0 e0 s0 m0 below meth c0 A0 ls Q hQ E hr hnm hw hl
  have hx := E.x
  have hb := E.b
  have hl : lv_has ls 2 [(0, .ref (o 0)), (1, .int x)] := hl
  refine lv_iload_n hx hb dX8_told_0 rfl (lv_at hl 1 rfl) ?_
  refine lv_iconst (v := 0) hx hb dX8_told_1 (by decide) ?_
  refine lv_bipush (v := 12) hx hb dX8_told_2 (by decide) ?_
  refine x_goR (st1 := [.int (bI (0 ≤ x ∧ x ≤ 12))]) E hw [] rfl (x_runS (rest := []) E hw (c_X8_in l g x 0 12 ) km_X8_45 ks_X8_in [] rfl (by decide) hl.1 rfl rfl (Nat.le_of_ble_eq_true rfl) ⟨Nat.le_of_ble_eq_true rfl, Nat.le_of_ble_eq_true rfl⟩ ⟨Nat.zero_le _, Nat.zero_le _⟩ dX8_told_4) rfl (fun H locs hw => ?_)
  refine xb_eq (tgt := 18) hx hb dX8_told_7 (by decide) (fun c1 => ?_) (fun c1 => ?_)
  · refine lv_aload_n hx hb dX8_told_18 rfl (lv_at hl 0 rfl) ?_
    refine x_go (ws' := [(o 0, .inr (8, [.ref (o 1), .ref (o 2), .int (nI hs), .int (bads + 1), .int nos, .int fuls, .int cau, .int whe, .ref (o 3), .ref (o 4), .int (nI cnt), .int (nI p), .int fau, .int isw, .int ods, .ref (o 5), .ref (o 6)])), (o 1, .inl (g.2.1, 616, .inl (nwF v))), (o 2, .inl (g.2.1, 4312, .inl (pF P))), (o 3, .inl (g.2.1, 201, .inl sq)), (o 4, .inl (g.2.1, 120, .inl tx)), (o 5, .inl (g.2.1, 24, .inl wo)), (o 6, .inl (g.2.1, 72, .inl nu))]) (st1 := [.int (-2)]) E hw [0] rfl (x_runV (rest := []) E hw (c_X8_bad l g o hs bads nos fuls cau whe cnt p fau isw ods ) km_X8_60 kv_X8_bad [0] rfl (by decide) 0 rfl hl.1 rfl rfl (Nat.le_of_ble_eq_true rfl) ⟨Nat.le_of_ble_eq_true rfl, Nat.le_of_ble_eq_true rfl⟩ ⟨Nat.zero_le _, Nat.zero_le _⟩ dX8_told_19) rfl rfl rfl (fun H locs hw => ?_)
    exact xr_i hQ E hr hw dX8_told_22 ⟨rfl, rfl⟩
  · exact absurd c1 hb0
