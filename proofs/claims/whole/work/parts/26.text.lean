
theorem bI_cg {P Q : Prop} [Decidable P] [Decidable Q] (h : P ↔ Q) : bI P = bI Q := by
  by_cases hp : P
  · rw [bI_t hp, bI_t (h.mp hp)]
  · rw [bI_f hp, bI_f (fun z => hp (h.mpr z))]
/-- the byte here, or none -/
def hrF (tx : Nat → Int32) (cnt p : Nat) : Int32 := if p < cnt then tx p else -1
theorem hr_eq {tx : Nat → Int32} {cnt p : Nat} {c : Int32} (hc : ¬ c = -1) : hrF tx cnt p = c ↔ p < cnt ∧ tx p = c := by
  unfold hrF
  split
  · rename_i h; exact ⟨fun z => ⟨h, z⟩, fun z => z.2⟩
  · rename_i h; exact ⟨fun z => absurd z.symm hc, fun z => absurd z.1 h⟩
theorem hr_in {tx : Nat → Int32} {cnt p : Nat} {a b : Int32} (ha : (0 : Int32) ≤ a) : (a ≤ hrF tx cnt p ∧ hrF tx cnt p ≤ b) ↔ (p < cnt ∧ (a ≤ tx p ∧ tx p ≤ b)) := by
  unfold hrF
  split
  · rename_i h; exact ⟨fun z => ⟨h, z⟩, fun z => z.2⟩
  · rename_i h; exact ⟨fun z => absurd (Int32.le_trans ha z.1) (by decide), fun z => absurd z.1 h⟩
theorem skB_no {tx : Nat → Int32} {cnt p : Nat} (h : ¬ hrF tx cnt p = 32) : skB tx (cnt - p) p = p := by
  by_cases hp : p < cnt
  · exact skB_at hp (fun z => h ((hr_eq (by decide)).mpr ⟨hp, z⟩))
  · rw [show cnt - p = 0 by omega]; rfl
theorem skL_no {tx : Nat → Int32} {cnt p : Nat} (h : ¬ (97 ≤ hrF tx cnt p ∧ hrF tx cnt p ≤ 122)) : skL tx (cnt - p) p = p := by
  by_cases hp : p < cnt
  · exact skL_at hp (fun z => h ((hr_in (by decide)).mpr ⟨hp, z⟩))
  · rw [show cnt - p = 0 by omega]; rfl
/-- a word's first letters as the model compares them -/
abbrev spR (tx : Nat → Int32) (f p : Nat) (a b c d : Int32) : Prop := 2 < p - f ∧ tx f = a ∧ tx (f + 1) = b ∧ tx (f + 2) = c ∧ (if p - f = 3 then d = 0 else tx (f + 3) = d)
def wdR (tx : Nat → Int32) (f p : Nat) : Int32 :=
  let w6 : Int32 := if p - f = 6 then (if spR tx f p 98 101 97 99 then (if tx (f + 4) = 111 then (if tx (f + 5) = 110 then 3 else -1) else -1) else -1) else -1
  let e5 : Int32 := if spR tx f p 101 114 114 111 then (if tx (f + 4) = 114 then 7 else -1) else -1
  let b5 : Int32 := if spR tx f p 98 114 97 107 then (if tx (f + 4) = 101 then 4 else e5) else e5
  let w5 : Int32 := if p - f = 5 then (if spR tx f p 103 114 97 100 then (if tx (f + 4) = 101 then 2 else b5) else b5) else w6
  let w4 : Int32 := if p - f = 4 then (if spR tx f p 99 101 105 108 then 1 else if spR tx f p 112 117 108 108 then 5 else if spR tx f p 108 111 110 103 then 6 else -1) else w5
  if p - f = 3 then (if spR tx f p 108 101 110 0 then 0 else w4) else w4
theorem nmD_45 {tx : Nat → Int32} {cnt p : Nat} (h : tx (skB tx (cnt - p) p) = 45) : nmD false tx cnt p = (0, skB tx (cnt - p) p) := by
  have hS : nmS false tx cnt p = skB tx (cnt - p) p := if_neg (fun z => absurd z.1 (by decide))
  rw [nmD, hS]
  exact dgs_no (fun z => absurd z.2.1 (by rw [h]; decide))

set_option maxRecDepth 100000 in
set_option maxHeartbeats 4000000 in
theorem c_X8_here (l : Launch) (g : xCfg) (o : Nat → Nat) (hs : Nat) (bads : Int32) (nos : Int32) (fuls : Int32) (cau : Int32) (whe : Int32) (cnt : Nat) (p : Nat) (fau : Int32) (isw : Int32) (ods : Int32) (tx : Nat → Int32) (hc : cnt ≤ 120) (hp : p ≤ cnt) : Ct l g yX8_here cX8_here 1 (some .int) (xR 0 0) [.ref (o 0)] [(o 0, .inr (8, [.ref (o 1), .ref (o 2), .int (nI hs), .int bads, .int nos, .int fuls, .int cau, .int whe, .ref (o 3), .ref (o 4), .int (nI cnt), .int (nI p), .int fau, .int isw, .int ods, .ref (o 5), .ref (o 6)])), (o 4, .inl (g.2.1, 120, .inl tx))] (is1 (some (.int (hrF tx cnt p))) [(o 0, .inr (8, [.ref (o 1), .ref (o 2), .int (nI hs), .int bads, .int nos, .int fuls, .int cau, .int whe, .ref (o 3), .ref (o 4), .int (nI cnt), .int (nI p), .int fau, .int isw, .int ods, .ref (o 5), .ref (o 6)])), (o 4, .inl (g.2.1, 120, .inl tx))]) := by
  refine Ct.walk (by decide) (Nat.le_of_ble_eq_true rfl) ?_
  intro p0 e0 s0 m0 below meth c0 A0 ls Q hQ E hr hnm hw hl
  have hx := E.x
  have hb := E.b
  have hl : lv_has ls 1 [(0, .ref (o 0))] := hl
  refine lv_aload_n hx hb dX8_here_0 rfl (lv_at hl 0 rfl) ?_
  refine x_get E hw kf_X8_149 0 rfl rfl dX8_here_1 ?_
  refine lv_aload_n hx hb dX8_here_4 rfl (lv_at hl 0 rfl) ?_
  refine x_get E hw kf_X8_143 0 rfl rfl dX8_here_5 ?_
  refine xn_ge (tgt := 23) hx hb p cnt rfl rfl (by omega) (by omega) dX8_here_8 (by decide) (fun c_1 => ?_) (fun c_1 => ?_)
  · refine lv_iconst (v := -1) hx hb dX8_here_23 (by decide) ?_
    exact xr_i hQ E hr hw dX8_here_24 ⟨congrArg (fun z => some (Value.int z)) (by simp only [hrF, if_pos c_1, if_neg (Nat.not_lt.mpr c_1)]), rfl⟩
  · refine lv_aload_n hx hb dX8_here_11 rfl (lv_at hl 0 rfl) ?_
    refine x_get E hw kf_X8_23 0 rfl rfl dX8_here_12 ?_
    refine lv_aload_n hx hb dX8_here_15 rfl (lv_at hl 0 rfl) ?_
    refine x_get E hw kf_X8_149 0 rfl rfl dX8_here_16 ?_
    refine x_ld (v := tx p) E hw 1 rfl p rfl (by omega) (by decide) rfl dX8_here_19 ?_
    refine lv_goto (tgt := 24) hx hb dX8_here_20 (by decide) ?_
    exact xr_i hQ E hr hw dX8_here_24 ⟨congrArg (fun z => some (Value.int z)) (by simp only [hrF, if_pos c_1, if_neg (Nat.not_le.mpr c_1)]), rfl⟩

set_option maxRecDepth 100000 in
set_option maxHeartbeats 4000000 in
theorem c_X8_skips (l : Launch) (g : xCfg) (o : Nat → Nat) (hs : Nat) (bads : Int32) (nos : Int32) (fuls : Int32) (cau : Int32) (whe : Int32) (cnt : Nat) (p : Nat) (fau : Int32) (isw : Int32) (ods : Int32) (tx : Nat → Int32) (hc : cnt ≤ 120) (hp : p ≤ cnt) : Ct l g yX8_skips cX8_skips 1 none (xR 1 20) [.ref (o 0)] [(o 0, .inr (8, [.ref (o 1), .ref (o 2), .int (nI hs), .int bads, .int nos, .int fuls, .int cau, .int whe, .ref (o 3), .ref (o 4), .int (nI cnt), .int (nI p), .int fau, .int isw, .int ods, .ref (o 5), .ref (o 6)])), (o 4, .inl (g.2.1, 120, .inl tx))] (is1 none [(o 0, .inr (8, [.ref (o 1), .ref (o 2), .int (nI hs), .int bads, .int nos, .int fuls, .int cau, .int whe, .ref (o 3), .ref (o 4), .int (nI cnt), .int (nI (skB tx (cnt - p) p)), .int fau, .int isw, .int ods, .ref (o 5), .ref (o 6)])), (o 4, .inl (g.2.1, 120, .inl tx))]) := by
  refine Ct.walk (by decide) (Nat.le_of_ble_eq_true rfl) ?_
  intro p0 e0 s0 m0 below meth c0 A0 ls Q hQ E hr hnm hw hl
  have hx := E.x
  have hb := E.b
  have hl : lv_has ls 1 [(0, .ref (o 0))] := hl
  have lp_0 : ∀ (fuel : Nat) (x : Nat), cnt - x < fuel → x ≤ cnt → skB tx (cnt - x) x = skB tx (cnt - p) p → ∀ (H : Heap) (locs : List Loc) (ls : Array Slot), xW g A0 s0 [(o 0, .inr (8, [.ref (o 1), .ref (o 2), .int (nI hs), .int bads, .int nos, .int fuls, .int cau, .int whe, .ref (o 3), .ref (o 4), .int (nI cnt), .int (nI x), .int fau, .int isw, .int ods, .ref (o 5), .ref (o 6)])), (o 4, .inl (g.2.1, 120, .inl tx))] H locs → lv_has ls 1 [(0, .ref (o 0))] → W p0 l e0 (xR 1 20) s0 m0 [.ref (o 0)].toArray below meth c0 H locs 0 0 Q (F0 m0 0 ls []) := by
    intro fuel
    induction fuel with
    | zero => intro x hm; exact absurd hm (Nat.not_lt_zero _)
    | succ fuel ih =>
      intro x hm hx0 hv H locs ls hw hl
      refine lv_aload_n hx hb dX8_skips_0 rfl (lv_at hl 0 rfl) ?_
      refine x_goR (st1 := [.int (hrF tx cnt x)]) E hw [0, 1] rfl (x_runV (rest := []) E hw (c_X8_here l g o hs bads nos fuls cau whe cnt x fau isw ods tx (by omega) (by omega)) km_X8_152 kv_X8_here [0, 1] rfl (by decide) 0 rfl hl.1 rfl rfl (Nat.le_of_ble_eq_true rfl) ⟨Nat.le_of_ble_eq_true rfl, Nat.le_of_ble_eq_true rfl⟩ ⟨Nat.zero_le _, Nat.zero_le _⟩ dX8_skips_1) rfl (fun H locs hw => ?_)
      refine lv_bipush (v := 32) hx hb dX8_skips_4 (by decide) ?_
      refine lv_icmp_ne (tgt := 22) hx hb dX8_skips_6 (by decide) (fun c1 => ?_) (fun c1 => ?_)
      · exact xr_v hQ E hr hw dX8_skips_22 ⟨rfl, (by rw [← hv, skB_no c1])⟩
      · refine lv_aload_n hx hb dX8_skips_9 rfl (lv_at hl 0 rfl) ?_
        refine lv_dup hx hb dX8_skips_10 rfl ?_
        refine x_get E hw kf_X8_149 0 rfl rfl dX8_skips_11 ?_
        refine lv_iconst (v := 1) hx hb dX8_skips_14 (by decide) ?_
        refine xn_add hx hb x 1 rfl rfl dX8_skips_15 ?_
        refine x_put E hw kf_X8_149 kp_X8_11 0 rfl (ty := .int) (by decide +kernel) rfl rfl (by simp) (ws' := [(o 0, .inr (8, [.ref (o 1), .ref (o 2), .int (nI hs), .int bads, .int nos, .int fuls, .int cau, .int whe, .ref (o 3), .ref (o 4), .int (nI cnt), .int (nI (x + 1)), .int fau, .int isw, .int ods, .ref (o 5), .ref (o 6)])), (o 4, .inl (g.2.1, 120, .inl tx))]) rfl dX8_skips_16 (fun H locs hw => ?_)
        refine lv_goto (tgt := 0) hx hb dX8_skips_19 (by decide) ?_
        have hl : lv_has ls 1 [(0, .ref (o 0))] := lv_sub hl [0] rfl
        have hl : lv_has ls 1 [(0, .ref (o 0))] := hl
        have hw : xW g A0 s0 [(o 0, .inr (8, [.ref (o 1), .ref (o 2), .int (nI hs), .int bads, .int nos, .int fuls, .int cau, .int whe, .ref (o 3), .ref (o 4), .int (nI cnt), .int (nI (x + 1)), .int fau, .int isw, .int ods, .ref (o 5), .ref (o 6)])), (o 4, .inl (g.2.1, 120, .inl tx))] _ _ := hw
        exact ih (x + 1) (by have := ((hr_eq (by decide)).mp c1).1; omega) (((hr_eq (by decide)).mp c1).1) ((skB_st ((hr_eq (by decide)).mp c1).1 ((hr_eq (by decide)).mp c1).2).symm.trans hv) _ _ _ hw hl
  have hl : lv_has ls 1 [(0, .ref (o 0))] := lv_sub hl [0] rfl
  have hl : lv_has ls 1 [(0, .ref (o 0))] := hl
  have hw : xW g A0 s0 [(o 0, .inr (8, [.ref (o 1), .ref (o 2), .int (nI hs), .int bads, .int nos, .int fuls, .int cau, .int whe, .ref (o 3), .ref (o 4), .int (nI cnt), .int (nI p), .int fau, .int isw, .int ods, .ref (o 5), .ref (o 6)])), (o 4, .inl (g.2.1, 120, .inl tx))] _ _ := hw
  exact lp_0 ((cnt - p) + 1) p (Nat.lt_succ_self _) (by omega) rfl _ _ _ hw hl

set_option maxRecDepth 100000 in
set_option maxHeartbeats 4000000 in
theorem c_X8_isFigure (l : Launch) (g : xCfg) (o : Nat → Nat) (hs : Nat) (bads : Int32) (nos : Int32) (fuls : Int32) (cau : Int32) (whe : Int32) (cnt : Nat) (p : Nat) (fau : Int32) (isw : Int32) (ods : Int32) (tx : Nat → Int32) (hc : cnt ≤ 120) (hp : p ≤ cnt) : Ct l g yX8_isFigure cX8_isFigure 1 (some .boolean) (xR 1 22) [.ref (o 0)] [(o 0, .inr (8, [.ref (o 1), .ref (o 2), .int (nI hs), .int bads, .int nos, .int fuls, .int cau, .int whe, .ref (o 3), .ref (o 4), .int (nI cnt), .int (nI p), .int fau, .int isw, .int ods, .ref (o 5), .ref (o 6)])), (o 4, .inl (g.2.1, 120, .inl tx))] (is1 (some (.int (bI (p < cnt ∧ (48 ≤ tx p ∧ tx p ≤ 57))))) [(o 0, .inr (8, [.ref (o 1), .ref (o 2), .int (nI hs), .int bads, .int nos, .int fuls, .int cau, .int whe, .ref (o 3), .ref (o 4), .int (nI cnt), .int (nI p), .int fau, .int isw, .int ods, .ref (o 5), .ref (o 6)])), (o 4, .inl (g.2.1, 120, .inl tx))]) := by
  refine Ct.walk (by decide) (Nat.le_of_ble_eq_true rfl) ?_
  intro p0 e0 s0 m0 below meth c0 A0 ls Q hQ E hr hnm hw hl
  have hx := E.x
  have hb := E.b
  have hl : lv_has ls 1 [(0, .ref (o 0))] := hl
  refine lv_aload_n hx hb dX8_isFigure_0 rfl (lv_at hl 0 rfl) ?_
  refine x_goR (st1 := [.int (hrF tx cnt p)]) E hw [0, 1] rfl (x_runV (rest := []) E hw (c_X8_here l g o hs bads nos fuls cau whe cnt p fau isw ods tx (by omega) (by omega)) km_X8_152 kv_X8_here [0, 1] rfl (by decide) 0 rfl hl.1 rfl rfl (Nat.le_of_ble_eq_true rfl) ⟨Nat.le_of_ble_eq_true rfl, Nat.le_of_ble_eq_true rfl⟩ ⟨Nat.zero_le _, Nat.zero_le _⟩ dX8_isFigure_1) rfl (fun H locs hw => ?_)
  refine lv_bipush (v := 48) hx hb dX8_isFigure_4 (by decide) ?_
  refine lv_bipush (v := 57) hx hb dX8_isFigure_6 (by decide) ?_
  refine x_goR (st1 := [.int (bI (48 ≤ (hrF tx cnt p) ∧ (hrF tx cnt p) ≤ 57))]) E hw [] rfl (x_runS (rest := []) E hw (c_X8_in l g (hrF tx cnt p) 48 57 ) km_X8_45 ks_X8_in [] rfl (by decide) hl.1 rfl rfl (Nat.le_of_ble_eq_true rfl) ⟨Nat.le_of_ble_eq_true rfl, Nat.le_of_ble_eq_true rfl⟩ ⟨Nat.zero_le _, Nat.zero_le _⟩ dX8_isFigure_8) rfl (fun H locs hw => ?_)
  exact xr_z hQ E hr hw dX8_isFigure_11 (bI_01 _) ⟨congrArg (fun z => some (Value.int z)) (bI_cg (hr_in (by decide))), rfl⟩

set_option maxRecDepth 100000 in
set_option maxHeartbeats 4000000 in
theorem c_X8_stopsHere (l : Launch) (g : xCfg) (o : Nat → Nat) (hs : Nat) (bads : Int32) (nos : Int32) (fuls : Int32) (cau : Int32) (whe : Int32) (cnt : Nat) (p : Nat) (fau : Int32) (isw : Int32) (ods : Int32)  : Ct l g yX8_stopsHere cX8_stopsHere 1 (some .boolean) (xR 0 0) [.ref (o 0)] [(o 0, .inr (8, [.ref (o 1), .ref (o 2), .int (nI hs), .int bads, .int nos, .int fuls, .int cau, .int whe, .ref (o 3), .ref (o 4), .int (nI cnt), .int (nI p), .int fau, .int isw, .int ods, .ref (o 5), .ref (o 6)]))] (is1 (some (.int 0)) [(o 0, .inr (8, [.ref (o 1), .ref (o 2), .int (nI hs), .int bads, .int nos, .int fuls, .int cau, .int whe, .ref (o 3), .ref (o 4), .int (nI cnt), .int (nI p), .int (nI p), .int isw, .int ods, .ref (o 5), .ref (o 6)]))]) := by
  refine Ct.walk (by decide) (Nat.le_of_ble_eq_true rfl) ?_
  intro p0 e0 s0 m0 below meth c0 A0 ls Q hQ E hr hnm hw hl
  have hx := E.x
  have hb := E.b
  have hl : lv_has ls 1 [(0, .ref (o 0))] := hl
  refine lv_aload_n hx hb dX8_stopsHere_0 rfl (lv_at hl 0 rfl) ?_
  refine lv_aload_n hx hb dX8_stopsHere_1 rfl (lv_at hl 0 rfl) ?_
  refine x_get E hw kf_X8_149 0 rfl rfl dX8_stopsHere_2 ?_
  refine x_put E hw kf_X8_159 kp_X8_12 0 rfl (ty := .int) (by decide +kernel) rfl rfl (by simp) (ws' := [(o 0, .inr (8, [.ref (o 1), .ref (o 2), .int (nI hs), .int bads, .int nos, .int fuls, .int cau, .int whe, .ref (o 3), .ref (o 4), .int (nI cnt), .int (nI p), .int (nI p), .int isw, .int ods, .ref (o 5), .ref (o 6)]))]) rfl dX8_stopsHere_5 (fun H locs hw => ?_)
  refine lv_iconst (v := 0) hx hb dX8_stopsHere_8 (by decide) ?_
  exact xr_z hQ E hr hw dX8_stopsHere_9 (by decide) ⟨rfl, rfl⟩

set_option maxRecDepth 100000 in
set_option maxHeartbeats 4000000 in
theorem c_X8_spells (l : Launch) (g : xCfg) (o : Nat → Nat) (hs : Nat) (bads : Int32) (nos : Int32) (fuls : Int32) (cau : Int32) (whe : Int32) (cnt : Nat) (p : Nat) (fau : Int32) (isw : Int32) (ods : Int32) (tx : Nat → Int32) (f : Nat) (a : Int32) (b : Int32) (c : Int32) (d : Int32) (hf : f ≤ p) (hp : p ≤ 120) : Ct l g yX8_spells cX8_spells 6 (some .boolean) (xR 0 0) [.ref (o 0), .int (nI f), .int a, .int b, .int c, .int d] [(o 0, .inr (8, [.ref (o 1), .ref (o 2), .int (nI hs), .int bads, .int nos, .int fuls, .int cau, .int whe, .ref (o 3), .ref (o 4), .int (nI cnt), .int (nI p), .int fau, .int isw, .int ods, .ref (o 5), .ref (o 6)])), (o 4, .inl (g.2.1, 120, .inl tx))] (is1 (some (.int (bI (spR tx f p a b c d)))) [(o 0, .inr (8, [.ref (o 1), .ref (o 2), .int (nI hs), .int bads, .int nos, .int fuls, .int cau, .int whe, .ref (o 3), .ref (o 4), .int (nI cnt), .int (nI p), .int fau, .int isw, .int ods, .ref (o 5), .ref (o 6)])), (o 4, .inl (g.2.1, 120, .inl tx))]) := by
  refine Ct.walk (by decide) (Nat.le_of_ble_eq_true rfl) ?_
  intro p0 e0 s0 m0 below meth c0 A0 ls Q hQ E hr hnm hw hl
  have hx := E.x
  have hb := E.b
  have hl : lv_has ls 6 [(0, .ref (o 0)), (1, .int (nI f)), (2, .int a), (3, .int b), (4, .int c), (5, .int d)] := hl
  refine lv_aload_n hx hb dX8_spells_0 rfl (lv_at hl 0 rfl) ?_
  refine x_get E hw kf_X8_149 0 rfl rfl dX8_spells_1 ?_
  refine lv_iload_n hx hb dX8_spells_4 rfl (lv_at hl 1 rfl) ?_
  refine xn_sub hx hb p f rfl rfl (by omega) dX8_spells_5 ?_
  refine lv_iconst (v := 2) hx hb dX8_spells_6 (by decide) ?_
  refine xn_le (tgt := 80) hx hb (p - f) 2 rfl rfl (by omega) (by omega) dX8_spells_7 (by decide) (fun c1 => ?_) (fun c1 => ?_)
  · refine lv_iconst (v := 0) hx hb dX8_spells_80 (by decide) ?_
    exact xr_z hQ E hr hw dX8_spells_81 (by decide) ⟨congrArg (fun z => some (Value.int z)) ((bI_f (by rintro ⟨z1, z2, z3, z4, z5⟩; first | exact c2 z2 | exact c3 z3 | exact c4 z4 | (rw [if_pos c5] at z5; exact c6 z5) | (rw [if_neg c5] at z5; exact c7 z5) | omega)).symm), rfl⟩
  · refine lv_aload_n hx hb dX8_spells_10 rfl (lv_at hl 0 rfl) ?_
    refine x_get E hw kf_X8_23 0 rfl rfl dX8_spells_11 ?_
    refine lv_iload_n hx hb dX8_spells_14 rfl (lv_at hl 1 rfl) ?_
    refine x_ld (v := tx f) E hw 1 rfl f rfl (by omega) (by decide) rfl dX8_spells_15 ?_
    refine lv_iload_n hx hb dX8_spells_16 rfl (lv_at hl 2 rfl) ?_
    refine lv_icmp_ne (tgt := 80) hx hb dX8_spells_17 (by decide) (fun c2 => ?_) (fun c2 => ?_)
    · refine lv_iconst (v := 0) hx hb dX8_spells_80 (by decide) ?_
      exact xr_z hQ E hr hw dX8_spells_81 (by decide) ⟨congrArg (fun z => some (Value.int z)) ((bI_f (by rintro ⟨z1, z2, z3, z4, z5⟩; first | exact c2 z2 | exact c3 z3 | exact c4 z4 | (rw [if_pos c5] at z5; exact c6 z5) | (rw [if_neg c5] at z5; exact c7 z5) | omega)).symm), rfl⟩
    · refine lv_aload_n hx hb dX8_spells_20 rfl (lv_at hl 0 rfl) ?_
      refine x_get E hw kf_X8_23 0 rfl rfl dX8_spells_21 ?_
      refine lv_iload_n hx hb dX8_spells_24 rfl (lv_at hl 1 rfl) ?_
      refine lv_iconst (v := 1) hx hb dX8_spells_25 (by decide) ?_
      refine xn_add hx hb f 1 rfl rfl dX8_spells_26 ?_
      refine x_ld (v := tx (f + 1)) E hw 1 rfl (f + 1) rfl (by omega) (by decide) rfl dX8_spells_27 ?_
      refine lv_iload_n hx hb dX8_spells_28 rfl (lv_at hl 3 rfl) ?_
      refine lv_icmp_ne (tgt := 80) hx hb dX8_spells_29 (by decide) (fun c3 => ?_) (fun c3 => ?_)
      · refine lv_iconst (v := 0) hx hb dX8_spells_80 (by decide) ?_
        exact xr_z hQ E hr hw dX8_spells_81 (by decide) ⟨congrArg (fun z => some (Value.int z)) ((bI_f (by rintro ⟨z1, z2, z3, z4, z5⟩; first | exact c2 z2 | exact c3 z3 | exact c4 z4 | (rw [if_pos c5] at z5; exact c6 z5) | (rw [if_neg c5] at z5; exact c7 z5) | omega)).symm), rfl⟩
      · refine lv_aload_n hx hb dX8_spells_32 rfl (lv_at hl 0 rfl) ?_
        refine x_get E hw kf_X8_23 0 rfl rfl dX8_spells_33 ?_
        refine lv_iload_n hx hb dX8_spells_36 rfl (lv_at hl 1 rfl) ?_
        refine lv_iconst (v := 2) hx hb dX8_spells_37 (by decide) ?_
        refine xn_add hx hb f 2 rfl rfl dX8_spells_38 ?_
        refine x_ld (v := tx (f + 2)) E hw 1 rfl (f + 2) rfl (by omega) (by decide) rfl dX8_spells_39 ?_
        refine lv_iload hx hb dX8_spells_40 (lv_at hl 4 rfl) ?_
        refine lv_icmp_ne (tgt := 80) hx hb dX8_spells_42 (by decide) (fun c4 => ?_) (fun c4 => ?_)
        · refine lv_iconst (v := 0) hx hb dX8_spells_80 (by decide) ?_
          exact xr_z hQ E hr hw dX8_spells_81 (by decide) ⟨congrArg (fun z => some (Value.int z)) ((bI_f (by rintro ⟨z1, z2, z3, z4, z5⟩; first | exact c2 z2 | exact c3 z3 | exact c4 z4 | (rw [if_pos c5] at z5; exact c6 z5) | (rw [if_neg c5] at z5; exact c7 z5) | omega)).symm), rfl⟩
        · refine lv_aload_n hx hb dX8_spells_45 rfl (lv_at hl 0 rfl) ?_
          refine x_get E hw kf_X8_149 0 rfl rfl dX8_spells_46 ?_
          refine lv_iload_n hx hb dX8_spells_49 rfl (lv_at hl 1 rfl) ?_
          refine xn_sub hx hb p f rfl rfl (by omega) dX8_spells_50 ?_
          refine lv_iconst (v := 3) hx hb dX8_spells_51 (by decide) ?_
          refine xn_ne (tgt := 63) hx hb (p - f) 3 rfl rfl (by omega) (by omega) dX8_spells_52 (by decide) (fun c5 => ?_) (fun c5 => ?_)
          · refine lv_aload_n hx hb dX8_spells_63 rfl (lv_at hl 0 rfl) ?_
            refine x_get E hw kf_X8_23 0 rfl rfl dX8_spells_64 ?_
            refine lv_iload_n hx hb dX8_spells_67 rfl (lv_at hl 1 rfl) ?_
            refine lv_iconst (v := 3) hx hb dX8_spells_68 (by decide) ?_
            refine xn_add hx hb f 3 rfl rfl dX8_spells_69 ?_
            refine x_ld (v := tx (f + 3)) E hw 1 rfl (f + 3) rfl (by omega) (by decide) rfl dX8_spells_70 ?_
            refine lv_iload hx hb dX8_spells_71 (lv_at hl 5 rfl) ?_
            refine lv_icmp_ne (tgt := 80) hx hb dX8_spells_73 (by decide) (fun c7 => ?_) (fun c7 => ?_)
            · refine lv_iconst (v := 0) hx hb dX8_spells_80 (by decide) ?_
              exact xr_z hQ E hr hw dX8_spells_81 (by decide) ⟨congrArg (fun z => some (Value.int z)) ((bI_f (by rintro ⟨z1, z2, z3, z4, z5⟩; first | exact c2 z2 | exact c3 z3 | exact c4 z4 | (rw [if_pos c5] at z5; exact c6 z5) | (rw [if_neg c5] at z5; exact c7 z5) | omega)).symm), rfl⟩
            · refine lv_iconst (v := 1) hx hb dX8_spells_76 (by decide) ?_
              refine lv_goto (tgt := 81) hx hb dX8_spells_77 (by decide) ?_
              exact xr_z hQ E hr hw dX8_spells_81 (by decide) ⟨congrArg (fun z => some (Value.int z)) ((bI_t ⟨c1, c2, c3, c4, by rw [if_neg c5]; exact c7⟩).symm), rfl⟩
          · refine lv_iload hx hb dX8_spells_55 (lv_at hl 5 rfl) ?_
            refine lv_if_ne (tgt := 80) hx hb dX8_spells_57 (by decide) (fun c6 => ?_) (fun c6 => ?_)
            · refine lv_iconst (v := 0) hx hb dX8_spells_80 (by decide) ?_
              exact xr_z hQ E hr hw dX8_spells_81 (by decide) ⟨congrArg (fun z => some (Value.int z)) ((bI_f (by rintro ⟨z1, z2, z3, z4, z5⟩; first | exact c2 z2 | exact c3 z3 | exact c4 z4 | (rw [if_pos c5] at z5; exact c6 z5) | (rw [if_neg c5] at z5; exact c7 z5) | omega)).symm), rfl⟩
            · refine lv_goto (tgt := 76) hx hb dX8_spells_60 (by decide) ?_
              refine lv_iconst (v := 1) hx hb dX8_spells_76 (by decide) ?_
              refine lv_goto (tgt := 81) hx hb dX8_spells_77 (by decide) ?_
              exact xr_z hQ E hr hw dX8_spells_81 (by decide) ⟨congrArg (fun z => some (Value.int z)) ((bI_t ⟨c1, c2, c3, c4, by rw [if_pos c5]; exact c6⟩).symm), rfl⟩

set_option maxRecDepth 100000 in
set_option maxHeartbeats 4000000 in
theorem c_X8_wordFrom (l : Launch) (g : xCfg) (o : Nat → Nat) (hs : Nat) (bads : Int32) (nos : Int32) (fuls : Int32) (cau : Int32) (whe : Int32) (cnt : Nat) (p : Nat) (fau : Int32) (isw : Int32) (ods : Int32) (tx : Nat → Int32) (f : Nat) (hf : f ≤ p) (hp : p ≤ 120) : Ct l g yX8_wordFrom cX8_wordFrom 6 (some .int) (xR 1 25) [.ref (o 0), .int (nI f)] [(o 0, .inr (8, [.ref (o 1), .ref (o 2), .int (nI hs), .int bads, .int nos, .int fuls, .int cau, .int whe, .ref (o 3), .ref (o 4), .int (nI cnt), .int (nI p), .int fau, .int isw, .int ods, .ref (o 5), .ref (o 6)])), (o 4, .inl (g.2.1, 120, .inl tx))] (is1 (some (.int (wdR tx f p))) [(o 0, .inr (8, [.ref (o 1), .ref (o 2), .int (nI hs), .int bads, .int nos, .int fuls, .int cau, .int whe, .ref (o 3), .ref (o 4), .int (nI cnt), .int (nI p), .int fau, .int isw, .int ods, .ref (o 5), .ref (o 6)])), (o 4, .inl (g.2.1, 120, .inl tx))]) := by
  refine Ct.walk (by decide) (Nat.le_of_ble_eq_true rfl) ?_
  intro p0 e0 s0 m0 below meth c0 A0 ls Q hQ E hr hnm hw hl
  have hx := E.x
  have hb := E.b
  have hl : lv_has ls 6 [(0, .ref (o 0)), (1, .int (nI f))] := hl
  refine lv_aload_n hx hb dX8_wordFrom_0 rfl (lv_at hl 0 rfl) ?_
  refine x_get E hw kf_X8_149 0 rfl rfl dX8_wordFrom_1 ?_
  refine lv_iload_n hx hb dX8_wordFrom_4 rfl (lv_at hl 1 rfl) ?_
  refine xn_sub hx hb p f rfl rfl (by omega) dX8_wordFrom_5 ?_
  refine lv_istore_n (lv' := [(2, .int (nI (p - f))), (0, .ref (o 0)), (1, .int (nI f))]) hx hb dX8_wordFrom_6 rfl hl (by decide) rfl (fun ls hl => ?_)
  refine lv_iload_n hx hb dX8_wordFrom_7 rfl (lv_at hl 0 rfl) ?_
  refine lv_iconst (v := 3) hx hb dX8_wordFrom_8 (by decide) ?_
  refine xn_ne (tgt := 29) hx hb (p - f) 3 rfl rfl (by omega) (by omega) dX8_wordFrom_9 (by decide) (fun c_1 => ?_) (fun c_1 => ?_)
  · refine lv_iload_n hx hb dX8_wordFrom_29 rfl (lv_at hl 0 rfl) ?_
    refine lv_iconst (v := 4) hx hb dX8_wordFrom_30 (by decide) ?_
    refine xn_ne (tgt := 97) hx hb (p - f) 4 rfl rfl (by omega) (by omega) dX8_wordFrom_31 (by decide) (fun c_2 => ?_) (fun c_2 => ?_)
    · refine lv_iload_n hx hb dX8_wordFrom_97 rfl (lv_at hl 0 rfl) ?_
      refine lv_iconst (v := 5) hx hb dX8_wordFrom_98 (by decide) ?_
      refine xn_ne (tgt := 238) hx hb (p - f) 5 rfl rfl (by omega) (by omega) dX8_wordFrom_99 (by decide) (fun c_3 => ?_) (fun c_3 => ?_)
      · refine lv_iload_n hx hb dX8_wordFrom_238 rfl (lv_at hl 0 rfl) ?_
        refine lv_bipush (v := 6) hx hb dX8_wordFrom_239 (by decide) ?_
        refine xn_ne (tgt := 290) hx hb (p - f) 6 rfl rfl (by omega) (by omega) dX8_wordFrom_241 (by decide) (fun c_4 => ?_) (fun c_4 => ?_)
        · refine lv_iconst (v := -1) hx hb dX8_wordFrom_290 (by decide) ?_
          exact xr_i hQ E hr hw dX8_wordFrom_291 ⟨congrArg (fun z => some (Value.int z)) (by first | (simp only [wdR, if_neg c_1, if_neg c_2, if_neg c_3, if_neg c_4]; done) | contradiction), rfl⟩
        · refine lv_aload_n hx hb dX8_wordFrom_244 rfl (lv_at hl 1 rfl) ?_
          refine lv_iload_n hx hb dX8_wordFrom_245 rfl (lv_at hl 2 rfl) ?_
          refine lv_bipush (v := 98) hx hb dX8_wordFrom_246 (by decide) ?_
          refine lv_bipush (v := 101) hx hb dX8_wordFrom_248 (by decide) ?_
          refine lv_bipush (v := 97) hx hb dX8_wordFrom_250 (by decide) ?_
          refine lv_bipush (v := 99) hx hb dX8_wordFrom_252 (by decide) ?_
          refine x_goR (st1 := [.int (bI (spR tx f p 98 101 97 99))]) E hw [0, 1] rfl (x_runV (rest := []) E hw (c_X8_spells l g o hs bads nos fuls cau whe cnt p fau isw ods tx f 98 101 97 99 (by omega) (by omega)) km_X8_155 kv_X8_spells [0, 1] rfl (by decide) 0 rfl hl.1 rfl rfl (Nat.le_of_ble_eq_true rfl) ⟨Nat.le_of_ble_eq_true rfl, Nat.le_of_ble_eq_true rfl⟩ ⟨Nat.zero_le _, Nat.zero_le _⟩ dX8_wordFrom_254) rfl (fun H locs hw => ?_)
          refine xb_eq (tgt := 290) hx hb dX8_wordFrom_257 (by decide) (fun c_5 => ?_) (fun c_5 => ?_)
          · refine lv_iconst (v := -1) hx hb dX8_wordFrom_290 (by decide) ?_
            exact xr_i hQ E hr hw dX8_wordFrom_291 ⟨congrArg (fun z => some (Value.int z)) (by first | (simp only [wdR, if_neg c_1, if_neg c_2, if_neg c_3, if_pos c_4, if_neg c_5]; done) | contradiction), rfl⟩
          · refine lv_aload_n hx hb dX8_wordFrom_260 rfl (lv_at hl 1 rfl) ?_
            refine x_get E hw kf_X8_23 0 rfl rfl dX8_wordFrom_261 ?_
            refine lv_iload_n hx hb dX8_wordFrom_264 rfl (lv_at hl 2 rfl) ?_
            refine lv_iconst (v := 4) hx hb dX8_wordFrom_265 (by decide) ?_
            refine xn_add hx hb f 4 rfl rfl dX8_wordFrom_266 ?_
            refine x_ld (v := tx (f + 4)) E hw 1 rfl (f + 4) rfl (by omega) (by decide) rfl dX8_wordFrom_267 ?_
            refine lv_bipush (v := 111) hx hb dX8_wordFrom_268 (by decide) ?_
            refine lv_icmp_ne (tgt := 290) hx hb dX8_wordFrom_270 (by decide) (fun c_6 => ?_) (fun c_6 => ?_)
            · refine lv_iconst (v := -1) hx hb dX8_wordFrom_290 (by decide) ?_
              exact xr_i hQ E hr hw dX8_wordFrom_291 ⟨congrArg (fun z => some (Value.int z)) (by first | (simp only [wdR, if_neg c_1, if_neg c_2, if_neg c_3, if_pos c_4, if_pos c_5, if_neg c_6]; done) | contradiction), rfl⟩
            · refine lv_aload_n hx hb dX8_wordFrom_273 rfl (lv_at hl 1 rfl) ?_
              refine x_get E hw kf_X8_23 0 rfl rfl dX8_wordFrom_274 ?_
              refine lv_iload_n hx hb dX8_wordFrom_277 rfl (lv_at hl 2 rfl) ?_
              refine lv_iconst (v := 5) hx hb dX8_wordFrom_278 (by decide) ?_
              refine xn_add hx hb f 5 rfl rfl dX8_wordFrom_279 ?_
              refine x_ld (v := tx (f + 5)) E hw 1 rfl (f + 5) rfl (by omega) (by decide) rfl dX8_wordFrom_280 ?_
              refine lv_bipush (v := 110) hx hb dX8_wordFrom_281 (by decide) ?_
              refine lv_icmp_ne (tgt := 290) hx hb dX8_wordFrom_283 (by decide) (fun c_7 => ?_) (fun c_7 => ?_)
              · refine lv_iconst (v := -1) hx hb dX8_wordFrom_290 (by decide) ?_
                exact xr_i hQ E hr hw dX8_wordFrom_291 ⟨congrArg (fun z => some (Value.int z)) (by first | (simp only [wdR, if_neg c_1, if_neg c_2, if_neg c_3, if_pos c_4, if_pos c_5, if_pos c_6, if_neg c_7]; done) | contradiction), rfl⟩
              · refine lv_iconst (v := 3) hx hb dX8_wordFrom_286 (by decide) ?_
                refine lv_goto (tgt := 291) hx hb dX8_wordFrom_287 (by decide) ?_
                exact xr_i hQ E hr hw dX8_wordFrom_291 ⟨congrArg (fun z => some (Value.int z)) (by first | (simp only [wdR, if_neg c_1, if_neg c_2, if_neg c_3, if_pos c_4, if_pos c_5, if_pos c_6, if_pos c_7]; done) | contradiction), rfl⟩
      · refine lv_aload_n hx hb dX8_wordFrom_102 rfl (lv_at hl 1 rfl) ?_
        refine lv_iload_n hx hb dX8_wordFrom_103 rfl (lv_at hl 2 rfl) ?_
        refine lv_bipush (v := 103) hx hb dX8_wordFrom_104 (by decide) ?_
        refine lv_bipush (v := 114) hx hb dX8_wordFrom_106 (by decide) ?_
        refine lv_bipush (v := 97) hx hb dX8_wordFrom_108 (by decide) ?_
        refine lv_bipush (v := 100) hx hb dX8_wordFrom_110 (by decide) ?_
        refine x_goR (st1 := [.int (bI (spR tx f p 103 114 97 100))]) E hw [0, 1] rfl (x_runV (rest := []) E hw (c_X8_spells l g o hs bads nos fuls cau whe cnt p fau isw ods tx f 103 114 97 100 (by omega) (by omega)) km_X8_155 kv_X8_spells [0, 1] rfl (by decide) 0 rfl hl.1 rfl rfl (Nat.le_of_ble_eq_true rfl) ⟨Nat.le_of_ble_eq_true rfl, Nat.le_of_ble_eq_true rfl⟩ ⟨Nat.zero_le _, Nat.zero_le _⟩ dX8_wordFrom_112) rfl (fun H locs hw => ?_)
        refine xb_eq (tgt := 135) hx hb dX8_wordFrom_115 (by decide) (fun c_8 => ?_) (fun c_8 => ?_)
        · refine lv_iconst (v := 0) hx hb dX8_wordFrom_135 (by decide) ?_
          refine lv_istore_n (lv' := [(3, .int 0), (2, .int (nI (p - f))), (0, .ref (o 0)), (1, .int (nI f))]) hx hb dX8_wordFrom_136 rfl hl (by decide) rfl (fun ls hl => ?_)
          refine lv_aload_n hx hb dX8_wordFrom_137 rfl (lv_at hl 2 rfl) ?_
          refine lv_iload_n hx hb dX8_wordFrom_138 rfl (lv_at hl 3 rfl) ?_
          refine lv_bipush (v := 98) hx hb dX8_wordFrom_139 (by decide) ?_
          refine lv_bipush (v := 114) hx hb dX8_wordFrom_141 (by decide) ?_
          refine lv_bipush (v := 97) hx hb dX8_wordFrom_143 (by decide) ?_
          refine lv_bipush (v := 107) hx hb dX8_wordFrom_145 (by decide) ?_
          refine x_goR (st1 := [.int (bI (spR tx f p 98 114 97 107))]) E hw [0, 1] rfl (x_runV (rest := []) E hw (c_X8_spells l g o hs bads nos fuls cau whe cnt p fau isw ods tx f 98 114 97 107 (by omega) (by omega)) km_X8_155 kv_X8_spells [0, 1] rfl (by decide) 0 rfl hl.1 rfl rfl (Nat.le_of_ble_eq_true rfl) ⟨Nat.le_of_ble_eq_true rfl, Nat.le_of_ble_eq_true rfl⟩ ⟨Nat.zero_le _, Nat.zero_le _⟩ dX8_wordFrom_147) rfl (fun H locs hw => ?_)
          refine xb_eq (tgt := 170) hx hb dX8_wordFrom_150 (by decide) (fun c_9 => ?_) (fun c_9 => ?_)
          · refine lv_iconst (v := 0) hx hb dX8_wordFrom_170 (by decide) ?_
            refine lv_istore (lv' := [(4, .int 0), (3, .int 0), (2, .int (nI (p - f))), (0, .ref (o 0)), (1, .int (nI f))]) hx hb dX8_wordFrom_171 hl (by decide) rfl (fun ls hl => ?_)
            refine lv_aload_n hx hb dX8_wordFrom_173 rfl (lv_at hl 3 rfl) ?_
            refine lv_iload_n hx hb dX8_wordFrom_174 rfl (lv_at hl 4 rfl) ?_
            refine lv_bipush (v := 101) hx hb dX8_wordFrom_175 (by decide) ?_
            refine lv_bipush (v := 114) hx hb dX8_wordFrom_177 (by decide) ?_
            refine lv_bipush (v := 114) hx hb dX8_wordFrom_179 (by decide) ?_
            refine lv_bipush (v := 111) hx hb dX8_wordFrom_181 (by decide) ?_
            refine x_goR (st1 := [.int (bI (spR tx f p 101 114 114 111))]) E hw [0, 1] rfl (x_runV (rest := []) E hw (c_X8_spells l g o hs bads nos fuls cau whe cnt p fau isw ods tx f 101 114 114 111 (by omega) (by omega)) km_X8_155 kv_X8_spells [0, 1] rfl (by decide) 0 rfl hl.1 rfl rfl (Nat.le_of_ble_eq_true rfl) ⟨Nat.le_of_ble_eq_true rfl, Nat.le_of_ble_eq_true rfl⟩ ⟨Nat.zero_le _, Nat.zero_le _⟩ dX8_wordFrom_183) rfl (fun H locs hw => ?_)
            refine xb_eq (tgt := 206) hx hb dX8_wordFrom_186 (by decide) (fun c_10 => ?_) (fun c_10 => ?_)
            · refine lv_iconst (v := 0) hx hb dX8_wordFrom_206 (by decide) ?_
              refine lv_istore (lv' := [(5, .int 0), (4, .int 0), (3, .int 0), (2, .int (nI (p - f))), (0, .ref (o 0)), (1, .int (nI f))]) hx hb dX8_wordFrom_207 hl (by decide) rfl (fun ls hl => ?_)
              refine lv_iload_n hx hb dX8_wordFrom_209 rfl (lv_at hl 2 rfl) ?_
              refine lv_if_eq (tgt := 217) hx hb dX8_wordFrom_210 (by decide) (fun _ => ?_) (fun h => absurd h (by decide))
              refine lv_iload hx hb dX8_wordFrom_217 (lv_at hl 1 rfl) ?_
              refine lv_if_eq (tgt := 226) hx hb dX8_wordFrom_219 (by decide) (fun _ => ?_) (fun h => absurd h (by decide))
              refine lv_iload hx hb dX8_wordFrom_226 (lv_at hl 0 rfl) ?_
              refine lv_if_eq (tgt := 236) hx hb dX8_wordFrom_228 (by decide) (fun _ => ?_) (fun h => absurd h (by decide))
              refine lv_iconst (v := -1) hx hb dX8_wordFrom_236 (by decide) ?_
              exact xr_i hQ E hr hw dX8_wordFrom_237 ⟨congrArg (fun z => some (Value.int z)) (by first | (simp only [wdR, if_neg c_1, if_neg c_2, if_pos c_3, if_neg c_8, if_neg c_9, if_neg c_10]; done) | contradiction), rfl⟩
            · refine lv_aload_n hx hb dX8_wordFrom_189 rfl (lv_at hl 3 rfl) ?_
              refine x_get E hw kf_X8_23 0 rfl rfl dX8_wordFrom_190 ?_
              refine lv_iload_n hx hb dX8_wordFrom_193 rfl (lv_at hl 4 rfl) ?_
              refine lv_iconst (v := 4) hx hb dX8_wordFrom_194 (by decide) ?_
              refine xn_add hx hb f 4 rfl rfl dX8_wordFrom_195 ?_
              refine x_ld (v := tx (f + 4)) E hw 1 rfl (f + 4) rfl (by omega) (by decide) rfl dX8_wordFrom_196 ?_
              refine lv_bipush (v := 114) hx hb dX8_wordFrom_197 (by decide) ?_
              refine lv_icmp_ne (tgt := 206) hx hb dX8_wordFrom_199 (by decide) (fun c_14 => ?_) (fun c_14 => ?_)
              · refine lv_iconst (v := 0) hx hb dX8_wordFrom_206 (by decide) ?_
                refine lv_istore (lv' := [(5, .int 0), (4, .int 0), (3, .int 0), (2, .int (nI (p - f))), (0, .ref (o 0)), (1, .int (nI f))]) hx hb dX8_wordFrom_207 hl (by decide) rfl (fun ls hl => ?_)
                refine lv_iload_n hx hb dX8_wordFrom_209 rfl (lv_at hl 2 rfl) ?_
                refine lv_if_eq (tgt := 217) hx hb dX8_wordFrom_210 (by decide) (fun _ => ?_) (fun h => absurd h (by decide))
                refine lv_iload hx hb dX8_wordFrom_217 (lv_at hl 1 rfl) ?_
                refine lv_if_eq (tgt := 226) hx hb dX8_wordFrom_219 (by decide) (fun _ => ?_) (fun h => absurd h (by decide))
                refine lv_iload hx hb dX8_wordFrom_226 (lv_at hl 0 rfl) ?_
                refine lv_if_eq (tgt := 236) hx hb dX8_wordFrom_228 (by decide) (fun _ => ?_) (fun h => absurd h (by decide))
                refine lv_iconst (v := -1) hx hb dX8_wordFrom_236 (by decide) ?_
                exact xr_i hQ E hr hw dX8_wordFrom_237 ⟨congrArg (fun z => some (Value.int z)) (by first | (simp only [wdR, if_neg c_1, if_neg c_2, if_pos c_3, if_neg c_8, if_neg c_9, if_pos c_10, if_neg c_14]; done) | contradiction), rfl⟩
              · refine lv_iconst (v := 1) hx hb dX8_wordFrom_202 (by decide) ?_
                refine lv_goto (tgt := 207) hx hb dX8_wordFrom_203 (by decide) ?_
                refine lv_istore (lv' := [(5, .int 1), (4, .int 0), (3, .int 0), (2, .int (nI (p - f))), (0, .ref (o 0)), (1, .int (nI f))]) hx hb dX8_wordFrom_207 hl (by decide) rfl (fun ls hl => ?_)
                refine lv_iload_n hx hb dX8_wordFrom_209 rfl (lv_at hl 2 rfl) ?_
                refine lv_if_eq (tgt := 217) hx hb dX8_wordFrom_210 (by decide) (fun _ => ?_) (fun h => absurd h (by decide))
                refine lv_iload hx hb dX8_wordFrom_217 (lv_at hl 1 rfl) ?_
                refine lv_if_eq (tgt := 226) hx hb dX8_wordFrom_219 (by decide) (fun _ => ?_) (fun h => absurd h (by decide))
                refine lv_iload hx hb dX8_wordFrom_226 (lv_at hl 0 rfl) ?_
                refine lv_if_eq (tgt := 236) hx hb dX8_wordFrom_228 (by decide) (fun h => absurd h (by decide)) (fun _ => ?_)
                refine lv_bipush (v := 7) hx hb dX8_wordFrom_231 (by decide) ?_
                refine lv_goto (tgt := 237) hx hb dX8_wordFrom_233 (by decide) ?_
                exact xr_i hQ E hr hw dX8_wordFrom_237 ⟨congrArg (fun z => some (Value.int z)) (by first | (simp only [wdR, if_neg c_1, if_neg c_2, if_pos c_3, if_neg c_8, if_neg c_9, if_pos c_10, if_pos c_14]; done) | contradiction), rfl⟩
          · refine lv_aload_n hx hb dX8_wordFrom_153 rfl (lv_at hl 2 rfl) ?_
            refine x_get E hw kf_X8_23 0 rfl rfl dX8_wordFrom_154 ?_
            refine lv_iload_n hx hb dX8_wordFrom_157 rfl (lv_at hl 3 rfl) ?_
            refine lv_iconst (v := 4) hx hb dX8_wordFrom_158 (by decide) ?_
            refine xn_add hx hb f 4 rfl rfl dX8_wordFrom_159 ?_
            refine x_ld (v := tx (f + 4)) E hw 1 rfl (f + 4) rfl (by omega) (by decide) rfl dX8_wordFrom_160 ?_
            refine lv_bipush (v := 101) hx hb dX8_wordFrom_161 (by decide) ?_
            refine lv_icmp_ne (tgt := 170) hx hb dX8_wordFrom_163 (by decide) (fun c_21 => ?_) (fun c_21 => ?_)
            · refine lv_iconst (v := 0) hx hb dX8_wordFrom_170 (by decide) ?_
              refine lv_istore (lv' := [(4, .int 0), (3, .int 0), (2, .int (nI (p - f))), (0, .ref (o 0)), (1, .int (nI f))]) hx hb dX8_wordFrom_171 hl (by decide) rfl (fun ls hl => ?_)
              refine lv_aload_n hx hb dX8_wordFrom_173 rfl (lv_at hl 3 rfl) ?_
              refine lv_iload_n hx hb dX8_wordFrom_174 rfl (lv_at hl 4 rfl) ?_
              refine lv_bipush (v := 101) hx hb dX8_wordFrom_175 (by decide) ?_
              refine lv_bipush (v := 114) hx hb dX8_wordFrom_177 (by decide) ?_
              refine lv_bipush (v := 114) hx hb dX8_wordFrom_179 (by decide) ?_
              refine lv_bipush (v := 111) hx hb dX8_wordFrom_181 (by decide) ?_
              refine x_goR (st1 := [.int (bI (spR tx f p 101 114 114 111))]) E hw [0, 1] rfl (x_runV (rest := []) E hw (c_X8_spells l g o hs bads nos fuls cau whe cnt p fau isw ods tx f 101 114 114 111 (by omega) (by omega)) km_X8_155 kv_X8_spells [0, 1] rfl (by decide) 0 rfl hl.1 rfl rfl (Nat.le_of_ble_eq_true rfl) ⟨Nat.le_of_ble_eq_true rfl, Nat.le_of_ble_eq_true rfl⟩ ⟨Nat.zero_le _, Nat.zero_le _⟩ dX8_wordFrom_183) rfl (fun H locs hw => ?_)
              refine xb_eq (tgt := 206) hx hb dX8_wordFrom_186 (by decide) (fun c_22 => ?_) (fun c_22 => ?_)
              · refine lv_iconst (v := 0) hx hb dX8_wordFrom_206 (by decide) ?_
                refine lv_istore (lv' := [(5, .int 0), (4, .int 0), (3, .int 0), (2, .int (nI (p - f))), (0, .ref (o 0)), (1, .int (nI f))]) hx hb dX8_wordFrom_207 hl (by decide) rfl (fun ls hl => ?_)
                refine lv_iload_n hx hb dX8_wordFrom_209 rfl (lv_at hl 2 rfl) ?_
                refine lv_if_eq (tgt := 217) hx hb dX8_wordFrom_210 (by decide) (fun _ => ?_) (fun h => absurd h (by decide))
                refine lv_iload hx hb dX8_wordFrom_217 (lv_at hl 1 rfl) ?_
                refine lv_if_eq (tgt := 226) hx hb dX8_wordFrom_219 (by decide) (fun _ => ?_) (fun h => absurd h (by decide))
                refine lv_iload hx hb dX8_wordFrom_226 (lv_at hl 0 rfl) ?_
                refine lv_if_eq (tgt := 236) hx hb dX8_wordFrom_228 (by decide) (fun _ => ?_) (fun h => absurd h (by decide))
                refine lv_iconst (v := -1) hx hb dX8_wordFrom_236 (by decide) ?_
                exact xr_i hQ E hr hw dX8_wordFrom_237 ⟨congrArg (fun z => some (Value.int z)) (by first | (simp only [wdR, if_neg c_1, if_neg c_2, if_pos c_3, if_neg c_8, if_pos c_9, if_neg c_21, if_neg c_22]; done) | contradiction), rfl⟩
              · refine lv_aload_n hx hb dX8_wordFrom_189 rfl (lv_at hl 3 rfl) ?_
                refine x_get E hw kf_X8_23 0 rfl rfl dX8_wordFrom_190 ?_
                refine lv_iload_n hx hb dX8_wordFrom_193 rfl (lv_at hl 4 rfl) ?_
                refine lv_iconst (v := 4) hx hb dX8_wordFrom_194 (by decide) ?_
                refine xn_add hx hb f 4 rfl rfl dX8_wordFrom_195 ?_
                refine x_ld (v := tx (f + 4)) E hw 1 rfl (f + 4) rfl (by omega) (by decide) rfl dX8_wordFrom_196 ?_
                refine lv_bipush (v := 114) hx hb dX8_wordFrom_197 (by decide) ?_
                refine lv_icmp_ne (tgt := 206) hx hb dX8_wordFrom_199 (by decide) (fun c_26 => ?_) (fun c_26 => ?_)
                · refine lv_iconst (v := 0) hx hb dX8_wordFrom_206 (by decide) ?_
                  refine lv_istore (lv' := [(5, .int 0), (4, .int 0), (3, .int 0), (2, .int (nI (p - f))), (0, .ref (o 0)), (1, .int (nI f))]) hx hb dX8_wordFrom_207 hl (by decide) rfl (fun ls hl => ?_)
                  refine lv_iload_n hx hb dX8_wordFrom_209 rfl (lv_at hl 2 rfl) ?_
                  refine lv_if_eq (tgt := 217) hx hb dX8_wordFrom_210 (by decide) (fun _ => ?_) (fun h => absurd h (by decide))
                  refine lv_iload hx hb dX8_wordFrom_217 (lv_at hl 1 rfl) ?_
                  refine lv_if_eq (tgt := 226) hx hb dX8_wordFrom_219 (by decide) (fun _ => ?_) (fun h => absurd h (by decide))
                  refine lv_iload hx hb dX8_wordFrom_226 (lv_at hl 0 rfl) ?_
                  refine lv_if_eq (tgt := 236) hx hb dX8_wordFrom_228 (by decide) (fun _ => ?_) (fun h => absurd h (by decide))
                  refine lv_iconst (v := -1) hx hb dX8_wordFrom_236 (by decide) ?_
                  exact xr_i hQ E hr hw dX8_wordFrom_237 ⟨congrArg (fun z => some (Value.int z)) (by first | (simp only [wdR, if_neg c_1, if_neg c_2, if_pos c_3, if_neg c_8, if_pos c_9, if_neg c_21, if_pos c_22, if_neg c_26]; done) | contradiction), rfl⟩
                · refine lv_iconst (v := 1) hx hb dX8_wordFrom_202 (by decide) ?_
                  refine lv_goto (tgt := 207) hx hb dX8_wordFrom_203 (by decide) ?_
                  refine lv_istore (lv' := [(5, .int 1), (4, .int 0), (3, .int 0), (2, .int (nI (p - f))), (0, .ref (o 0)), (1, .int (nI f))]) hx hb dX8_wordFrom_207 hl (by decide) rfl (fun ls hl => ?_)
                  refine lv_iload_n hx hb dX8_wordFrom_209 rfl (lv_at hl 2 rfl) ?_
                  refine lv_if_eq (tgt := 217) hx hb dX8_wordFrom_210 (by decide) (fun _ => ?_) (fun h => absurd h (by decide))
                  refine lv_iload hx hb dX8_wordFrom_217 (lv_at hl 1 rfl) ?_
                  refine lv_if_eq (tgt := 226) hx hb dX8_wordFrom_219 (by decide) (fun _ => ?_) (fun h => absurd h (by decide))
                  refine lv_iload hx hb dX8_wordFrom_226 (lv_at hl 0 rfl) ?_
                  refine lv_if_eq (tgt := 236) hx hb dX8_wordFrom_228 (by decide) (fun h => absurd h (by decide)) (fun _ => ?_)
                  refine lv_bipush (v := 7) hx hb dX8_wordFrom_231 (by decide) ?_
                  refine lv_goto (tgt := 237) hx hb dX8_wordFrom_233 (by decide) ?_
                  exact xr_i hQ E hr hw dX8_wordFrom_237 ⟨congrArg (fun z => some (Value.int z)) (by first | (simp only [wdR, if_neg c_1, if_neg c_2, if_pos c_3, if_neg c_8, if_pos c_9, if_neg c_21, if_pos c_22, if_pos c_26]; done) | contradiction), rfl⟩
            · refine lv_iconst (v := 1) hx hb dX8_wordFrom_166 (by decide) ?_
              refine lv_goto (tgt := 171) hx hb dX8_wordFrom_167 (by decide) ?_
              refine lv_istore (lv' := [(4, .int 1), (3, .int 0), (2, .int (nI (p - f))), (0, .ref (o 0)), (1, .int (nI f))]) hx hb dX8_wordFrom_171 hl (by decide) rfl (fun ls hl => ?_)
              refine lv_aload_n hx hb dX8_wordFrom_173 rfl (lv_at hl 3 rfl) ?_
              refine lv_iload_n hx hb dX8_wordFrom_174 rfl (lv_at hl 4 rfl) ?_
              refine lv_bipush (v := 101) hx hb dX8_wordFrom_175 (by decide) ?_
              refine lv_bipush (v := 114) hx hb dX8_wordFrom_177 (by decide) ?_
              refine lv_bipush (v := 114) hx hb dX8_wordFrom_179 (by decide) ?_
              refine lv_bipush (v := 111) hx hb dX8_wordFrom_181 (by decide) ?_
              refine x_goR (st1 := [.int (bI (spR tx f p 101 114 114 111))]) E hw [0, 1] rfl (x_runV (rest := []) E hw (c_X8_spells l g o hs bads nos fuls cau whe cnt p fau isw ods tx f 101 114 114 111 (by omega) (by omega)) km_X8_155 kv_X8_spells [0, 1] rfl (by decide) 0 rfl hl.1 rfl rfl (Nat.le_of_ble_eq_true rfl) ⟨Nat.le_of_ble_eq_true rfl, Nat.le_of_ble_eq_true rfl⟩ ⟨Nat.zero_le _, Nat.zero_le _⟩ dX8_wordFrom_183) rfl (fun H locs hw => ?_)
              refine xb_eq (tgt := 206) hx hb dX8_wordFrom_186 (by decide) (fun c_33 => ?_) (fun c_33 => ?_)
              · refine lv_iconst (v := 0) hx hb dX8_wordFrom_206 (by decide) ?_
                refine lv_istore (lv' := [(5, .int 0), (4, .int 1), (3, .int 0), (2, .int (nI (p - f))), (0, .ref (o 0)), (1, .int (nI f))]) hx hb dX8_wordFrom_207 hl (by decide) rfl (fun ls hl => ?_)
                refine lv_iload_n hx hb dX8_wordFrom_209 rfl (lv_at hl 2 rfl) ?_
                refine lv_if_eq (tgt := 217) hx hb dX8_wordFrom_210 (by decide) (fun _ => ?_) (fun h => absurd h (by decide))
                refine lv_iload hx hb dX8_wordFrom_217 (lv_at hl 1 rfl) ?_
                refine lv_if_eq (tgt := 226) hx hb dX8_wordFrom_219 (by decide) (fun h => absurd h (by decide)) (fun _ => ?_)
                refine lv_iconst (v := 4) hx hb dX8_wordFrom_222 (by decide) ?_
                refine lv_goto (tgt := 237) hx hb dX8_wordFrom_223 (by decide) ?_
                exact xr_i hQ E hr hw dX8_wordFrom_237 ⟨congrArg (fun z => some (Value.int z)) (by first | (simp only [wdR, if_neg c_1, if_neg c_2, if_pos c_3, if_neg c_8, if_pos c_9, if_pos c_21, if_neg c_33]; done) | contradiction), rfl⟩
              · refine lv_aload_n hx hb dX8_wordFrom_189 rfl (lv_at hl 3 rfl) ?_
                refine x_get E hw kf_X8_23 0 rfl rfl dX8_wordFrom_190 ?_
                refine lv_iload_n hx hb dX8_wordFrom_193 rfl (lv_at hl 4 rfl) ?_
                refine lv_iconst (v := 4) hx hb dX8_wordFrom_194 (by decide) ?_
                refine xn_add hx hb f 4 rfl rfl dX8_wordFrom_195 ?_
                refine x_ld (v := tx (f + 4)) E hw 1 rfl (f + 4) rfl (by omega) (by decide) rfl dX8_wordFrom_196 ?_
                refine lv_bipush (v := 114) hx hb dX8_wordFrom_197 (by decide) ?_
                refine lv_icmp_ne (tgt := 206) hx hb dX8_wordFrom_199 (by decide) (fun c_36 => ?_) (fun c_36 => ?_)
                · refine lv_iconst (v := 0) hx hb dX8_wordFrom_206 (by decide) ?_
                  refine lv_istore (lv' := [(5, .int 0), (4, .int 1), (3, .int 0), (2, .int (nI (p - f))), (0, .ref (o 0)), (1, .int (nI f))]) hx hb dX8_wordFrom_207 hl (by decide) rfl (fun ls hl => ?_)
                  refine lv_iload_n hx hb dX8_wordFrom_209 rfl (lv_at hl 2 rfl) ?_
                  refine lv_if_eq (tgt := 217) hx hb dX8_wordFrom_210 (by decide) (fun _ => ?_) (fun h => absurd h (by decide))
                  refine lv_iload hx hb dX8_wordFrom_217 (lv_at hl 1 rfl) ?_
                  refine lv_if_eq (tgt := 226) hx hb dX8_wordFrom_219 (by decide) (fun h => absurd h (by decide)) (fun _ => ?_)
                  refine lv_iconst (v := 4) hx hb dX8_wordFrom_222 (by decide) ?_
                  refine lv_goto (tgt := 237) hx hb dX8_wordFrom_223 (by decide) ?_
                  exact xr_i hQ E hr hw dX8_wordFrom_237 ⟨congrArg (fun z => some (Value.int z)) (by first | (simp only [wdR, if_neg c_1, if_neg c_2, if_pos c_3, if_neg c_8, if_pos c_9, if_pos c_21, if_pos c_33, if_neg c_36]; done) | contradiction), rfl⟩
                · refine lv_iconst (v := 1) hx hb dX8_wordFrom_202 (by decide) ?_
                  refine lv_goto (tgt := 207) hx hb dX8_wordFrom_203 (by decide) ?_
                  refine lv_istore (lv' := [(5, .int 1), (4, .int 1), (3, .int 0), (2, .int (nI (p - f))), (0, .ref (o 0)), (1, .int (nI f))]) hx hb dX8_wordFrom_207 hl (by decide) rfl (fun ls hl => ?_)
                  refine lv_iload_n hx hb dX8_wordFrom_209 rfl (lv_at hl 2 rfl) ?_
                  refine lv_if_eq (tgt := 217) hx hb dX8_wordFrom_210 (by decide) (fun _ => ?_) (fun h => absurd h (by decide))
                  refine lv_iload hx hb dX8_wordFrom_217 (lv_at hl 1 rfl) ?_
                  refine lv_if_eq (tgt := 226) hx hb dX8_wordFrom_219 (by decide) (fun h => absurd h (by decide)) (fun _ => ?_)
                  refine lv_iconst (v := 4) hx hb dX8_wordFrom_222 (by decide) ?_
                  refine lv_goto (tgt := 237) hx hb dX8_wordFrom_223 (by decide) ?_
                  exact xr_i hQ E hr hw dX8_wordFrom_237 ⟨congrArg (fun z => some (Value.int z)) (by first | (simp only [wdR, if_neg c_1, if_neg c_2, if_pos c_3, if_neg c_8, if_pos c_9, if_pos c_21, if_pos c_33, if_pos c_36]; done) | contradiction), rfl⟩
        · refine lv_aload_n hx hb dX8_wordFrom_118 rfl (lv_at hl 1 rfl) ?_
          refine x_get E hw kf_X8_23 0 rfl rfl dX8_wordFrom_119 ?_
          refine lv_iload_n hx hb dX8_wordFrom_122 rfl (lv_at hl 2 rfl) ?_
          refine lv_iconst (v := 4) hx hb dX8_wordFrom_123 (by decide) ?_
          refine xn_add hx hb f 4 rfl rfl dX8_wordFrom_124 ?_
          refine x_ld (v := tx (f + 4)) E hw 1 rfl (f + 4) rfl (by omega) (by decide) rfl dX8_wordFrom_125 ?_
          refine lv_bipush (v := 101) hx hb dX8_wordFrom_126 (by decide) ?_
          refine lv_icmp_ne (tgt := 135) hx hb dX8_wordFrom_128 (by decide) (fun c_41 => ?_) (fun c_41 => ?_)
          · refine lv_iconst (v := 0) hx hb dX8_wordFrom_135 (by decide) ?_
            refine lv_istore_n (lv' := [(3, .int 0), (2, .int (nI (p - f))), (0, .ref (o 0)), (1, .int (nI f))]) hx hb dX8_wordFrom_136 rfl hl (by decide) rfl (fun ls hl => ?_)
            refine lv_aload_n hx hb dX8_wordFrom_137 rfl (lv_at hl 2 rfl) ?_
            refine lv_iload_n hx hb dX8_wordFrom_138 rfl (lv_at hl 3 rfl) ?_
            refine lv_bipush (v := 98) hx hb dX8_wordFrom_139 (by decide) ?_
            refine lv_bipush (v := 114) hx hb dX8_wordFrom_141 (by decide) ?_
            refine lv_bipush (v := 97) hx hb dX8_wordFrom_143 (by decide) ?_
            refine lv_bipush (v := 107) hx hb dX8_wordFrom_145 (by decide) ?_
            refine x_goR (st1 := [.int (bI (spR tx f p 98 114 97 107))]) E hw [0, 1] rfl (x_runV (rest := []) E hw (c_X8_spells l g o hs bads nos fuls cau whe cnt p fau isw ods tx f 98 114 97 107 (by omega) (by omega)) km_X8_155 kv_X8_spells [0, 1] rfl (by decide) 0 rfl hl.1 rfl rfl (Nat.le_of_ble_eq_true rfl) ⟨Nat.le_of_ble_eq_true rfl, Nat.le_of_ble_eq_true rfl⟩ ⟨Nat.zero_le _, Nat.zero_le _⟩ dX8_wordFrom_147) rfl (fun H locs hw => ?_)
            refine xb_eq (tgt := 170) hx hb dX8_wordFrom_150 (by decide) (fun c_42 => ?_) (fun c_42 => ?_)
            · refine lv_iconst (v := 0) hx hb dX8_wordFrom_170 (by decide) ?_
              refine lv_istore (lv' := [(4, .int 0), (3, .int 0), (2, .int (nI (p - f))), (0, .ref (o 0)), (1, .int (nI f))]) hx hb dX8_wordFrom_171 hl (by decide) rfl (fun ls hl => ?_)
              refine lv_aload_n hx hb dX8_wordFrom_173 rfl (lv_at hl 3 rfl) ?_
              refine lv_iload_n hx hb dX8_wordFrom_174 rfl (lv_at hl 4 rfl) ?_
              refine lv_bipush (v := 101) hx hb dX8_wordFrom_175 (by decide) ?_
              refine lv_bipush (v := 114) hx hb dX8_wordFrom_177 (by decide) ?_
              refine lv_bipush (v := 114) hx hb dX8_wordFrom_179 (by decide) ?_
              refine lv_bipush (v := 111) hx hb dX8_wordFrom_181 (by decide) ?_
              refine x_goR (st1 := [.int (bI (spR tx f p 101 114 114 111))]) E hw [0, 1] rfl (x_runV (rest := []) E hw (c_X8_spells l g o hs bads nos fuls cau whe cnt p fau isw ods tx f 101 114 114 111 (by omega) (by omega)) km_X8_155 kv_X8_spells [0, 1] rfl (by decide) 0 rfl hl.1 rfl rfl (Nat.le_of_ble_eq_true rfl) ⟨Nat.le_of_ble_eq_true rfl, Nat.le_of_ble_eq_true rfl⟩ ⟨Nat.zero_le _, Nat.zero_le _⟩ dX8_wordFrom_183) rfl (fun H locs hw => ?_)
              refine xb_eq (tgt := 206) hx hb dX8_wordFrom_186 (by decide) (fun c_43 => ?_) (fun c_43 => ?_)
              · refine lv_iconst (v := 0) hx hb dX8_wordFrom_206 (by decide) ?_
                refine lv_istore (lv' := [(5, .int 0), (4, .int 0), (3, .int 0), (2, .int (nI (p - f))), (0, .ref (o 0)), (1, .int (nI f))]) hx hb dX8_wordFrom_207 hl (by decide) rfl (fun ls hl => ?_)
                refine lv_iload_n hx hb dX8_wordFrom_209 rfl (lv_at hl 2 rfl) ?_
                refine lv_if_eq (tgt := 217) hx hb dX8_wordFrom_210 (by decide) (fun _ => ?_) (fun h => absurd h (by decide))
                refine lv_iload hx hb dX8_wordFrom_217 (lv_at hl 1 rfl) ?_
                refine lv_if_eq (tgt := 226) hx hb dX8_wordFrom_219 (by decide) (fun _ => ?_) (fun h => absurd h (by decide))
                refine lv_iload hx hb dX8_wordFrom_226 (lv_at hl 0 rfl) ?_
                refine lv_if_eq (tgt := 236) hx hb dX8_wordFrom_228 (by decide) (fun _ => ?_) (fun h => absurd h (by decide))
                refine lv_iconst (v := -1) hx hb dX8_wordFrom_236 (by decide) ?_
                exact xr_i hQ E hr hw dX8_wordFrom_237 ⟨congrArg (fun z => some (Value.int z)) (by first | (simp only [wdR, if_neg c_1, if_neg c_2, if_pos c_3, if_pos c_8, if_neg c_41, if_neg c_42, if_neg c_43]; done) | contradiction), rfl⟩
              · refine lv_aload_n hx hb dX8_wordFrom_189 rfl (lv_at hl 3 rfl) ?_
                refine x_get E hw kf_X8_23 0 rfl rfl dX8_wordFrom_190 ?_
                refine lv_iload_n hx hb dX8_wordFrom_193 rfl (lv_at hl 4 rfl) ?_
                refine lv_iconst (v := 4) hx hb dX8_wordFrom_194 (by decide) ?_
                refine xn_add hx hb f 4 rfl rfl dX8_wordFrom_195 ?_
                refine x_ld (v := tx (f + 4)) E hw 1 rfl (f + 4) rfl (by omega) (by decide) rfl dX8_wordFrom_196 ?_
                refine lv_bipush (v := 114) hx hb dX8_wordFrom_197 (by decide) ?_
                refine lv_icmp_ne (tgt := 206) hx hb dX8_wordFrom_199 (by decide) (fun c_47 => ?_) (fun c_47 => ?_)
                · refine lv_iconst (v := 0) hx hb dX8_wordFrom_206 (by decide) ?_
                  refine lv_istore (lv' := [(5, .int 0), (4, .int 0), (3, .int 0), (2, .int (nI (p - f))), (0, .ref (o 0)), (1, .int (nI f))]) hx hb dX8_wordFrom_207 hl (by decide) rfl (fun ls hl => ?_)
                  refine lv_iload_n hx hb dX8_wordFrom_209 rfl (lv_at hl 2 rfl) ?_
                  refine lv_if_eq (tgt := 217) hx hb dX8_wordFrom_210 (by decide) (fun _ => ?_) (fun h => absurd h (by decide))
                  refine lv_iload hx hb dX8_wordFrom_217 (lv_at hl 1 rfl) ?_
                  refine lv_if_eq (tgt := 226) hx hb dX8_wordFrom_219 (by decide) (fun _ => ?_) (fun h => absurd h (by decide))
                  refine lv_iload hx hb dX8_wordFrom_226 (lv_at hl 0 rfl) ?_
                  refine lv_if_eq (tgt := 236) hx hb dX8_wordFrom_228 (by decide) (fun _ => ?_) (fun h => absurd h (by decide))
                  refine lv_iconst (v := -1) hx hb dX8_wordFrom_236 (by decide) ?_
                  exact xr_i hQ E hr hw dX8_wordFrom_237 ⟨congrArg (fun z => some (Value.int z)) (by first | (simp only [wdR, if_neg c_1, if_neg c_2, if_pos c_3, if_pos c_8, if_neg c_41, if_neg c_42, if_pos c_43, if_neg c_47]; done) | contradiction), rfl⟩
                · refine lv_iconst (v := 1) hx hb dX8_wordFrom_202 (by decide) ?_
                  refine lv_goto (tgt := 207) hx hb dX8_wordFrom_203 (by decide) ?_
                  refine lv_istore (lv' := [(5, .int 1), (4, .int 0), (3, .int 0), (2, .int (nI (p - f))), (0, .ref (o 0)), (1, .int (nI f))]) hx hb dX8_wordFrom_207 hl (by decide) rfl (fun ls hl => ?_)
                  refine lv_iload_n hx hb dX8_wordFrom_209 rfl (lv_at hl 2 rfl) ?_
                  refine lv_if_eq (tgt := 217) hx hb dX8_wordFrom_210 (by decide) (fun _ => ?_) (fun h => absurd h (by decide))
                  refine lv_iload hx hb dX8_wordFrom_217 (lv_at hl 1 rfl) ?_
                  refine lv_if_eq (tgt := 226) hx hb dX8_wordFrom_219 (by decide) (fun _ => ?_) (fun h => absurd h (by decide))
                  refine lv_iload hx hb dX8_wordFrom_226 (lv_at hl 0 rfl) ?_
                  refine lv_if_eq (tgt := 236) hx hb dX8_wordFrom_228 (by decide) (fun h => absurd h (by decide)) (fun _ => ?_)
                  refine lv_bipush (v := 7) hx hb dX8_wordFrom_231 (by decide) ?_
                  refine lv_goto (tgt := 237) hx hb dX8_wordFrom_233 (by decide) ?_
                  exact xr_i hQ E hr hw dX8_wordFrom_237 ⟨congrArg (fun z => some (Value.int z)) (by first | (simp only [wdR, if_neg c_1, if_neg c_2, if_pos c_3, if_pos c_8, if_neg c_41, if_neg c_42, if_pos c_43, if_pos c_47]; done) | contradiction), rfl⟩
            · refine lv_aload_n hx hb dX8_wordFrom_153 rfl (lv_at hl 2 rfl) ?_
              refine x_get E hw kf_X8_23 0 rfl rfl dX8_wordFrom_154 ?_
              refine lv_iload_n hx hb dX8_wordFrom_157 rfl (lv_at hl 3 rfl) ?_
              refine lv_iconst (v := 4) hx hb dX8_wordFrom_158 (by decide) ?_
              refine xn_add hx hb f 4 rfl rfl dX8_wordFrom_159 ?_
              refine x_ld (v := tx (f + 4)) E hw 1 rfl (f + 4) rfl (by omega) (by decide) rfl dX8_wordFrom_160 ?_
              refine lv_bipush (v := 101) hx hb dX8_wordFrom_161 (by decide) ?_
              refine lv_icmp_ne (tgt := 170) hx hb dX8_wordFrom_163 (by decide) (fun c_54 => ?_) (fun c_54 => ?_)
              · refine lv_iconst (v := 0) hx hb dX8_wordFrom_170 (by decide) ?_
                refine lv_istore (lv' := [(4, .int 0), (3, .int 0), (2, .int (nI (p - f))), (0, .ref (o 0)), (1, .int (nI f))]) hx hb dX8_wordFrom_171 hl (by decide) rfl (fun ls hl => ?_)
                refine lv_aload_n hx hb dX8_wordFrom_173 rfl (lv_at hl 3 rfl) ?_
                refine lv_iload_n hx hb dX8_wordFrom_174 rfl (lv_at hl 4 rfl) ?_
                refine lv_bipush (v := 101) hx hb dX8_wordFrom_175 (by decide) ?_
                refine lv_bipush (v := 114) hx hb dX8_wordFrom_177 (by decide) ?_
                refine lv_bipush (v := 114) hx hb dX8_wordFrom_179 (by decide) ?_
                refine lv_bipush (v := 111) hx hb dX8_wordFrom_181 (by decide) ?_
                refine x_goR (st1 := [.int (bI (spR tx f p 101 114 114 111))]) E hw [0, 1] rfl (x_runV (rest := []) E hw (c_X8_spells l g o hs bads nos fuls cau whe cnt p fau isw ods tx f 101 114 114 111 (by omega) (by omega)) km_X8_155 kv_X8_spells [0, 1] rfl (by decide) 0 rfl hl.1 rfl rfl (Nat.le_of_ble_eq_true rfl) ⟨Nat.le_of_ble_eq_true rfl, Nat.le_of_ble_eq_true rfl⟩ ⟨Nat.zero_le _, Nat.zero_le _⟩ dX8_wordFrom_183) rfl (fun H locs hw => ?_)
                refine xb_eq (tgt := 206) hx hb dX8_wordFrom_186 (by decide) (fun c_55 => ?_) (fun c_55 => ?_)
                · refine lv_iconst (v := 0) hx hb dX8_wordFrom_206 (by decide) ?_
                  refine lv_istore (lv' := [(5, .int 0), (4, .int 0), (3, .int 0), (2, .int (nI (p - f))), (0, .ref (o 0)), (1, .int (nI f))]) hx hb dX8_wordFrom_207 hl (by decide) rfl (fun ls hl => ?_)
                  refine lv_iload_n hx hb dX8_wordFrom_209 rfl (lv_at hl 2 rfl) ?_
                  refine lv_if_eq (tgt := 217) hx hb dX8_wordFrom_210 (by decide) (fun _ => ?_) (fun h => absurd h (by decide))
                  refine lv_iload hx hb dX8_wordFrom_217 (lv_at hl 1 rfl) ?_
                  refine lv_if_eq (tgt := 226) hx hb dX8_wordFrom_219 (by decide) (fun _ => ?_) (fun h => absurd h (by decide))
                  refine lv_iload hx hb dX8_wordFrom_226 (lv_at hl 0 rfl) ?_
                  refine lv_if_eq (tgt := 236) hx hb dX8_wordFrom_228 (by decide) (fun _ => ?_) (fun h => absurd h (by decide))
                  refine lv_iconst (v := -1) hx hb dX8_wordFrom_236 (by decide) ?_
                  exact xr_i hQ E hr hw dX8_wordFrom_237 ⟨congrArg (fun z => some (Value.int z)) (by first | (simp only [wdR, if_neg c_1, if_neg c_2, if_pos c_3, if_pos c_8, if_neg c_41, if_pos c_42, if_neg c_54, if_neg c_55]; done) | contradiction), rfl⟩
                · refine lv_aload_n hx hb dX8_wordFrom_189 rfl (lv_at hl 3 rfl) ?_
                  refine x_get E hw kf_X8_23 0 rfl rfl dX8_wordFrom_190 ?_
                  refine lv_iload_n hx hb dX8_wordFrom_193 rfl (lv_at hl 4 rfl) ?_
                  refine lv_iconst (v := 4) hx hb dX8_wordFrom_194 (by decide) ?_
                  refine xn_add hx hb f 4 rfl rfl dX8_wordFrom_195 ?_
                  refine x_ld (v := tx (f + 4)) E hw 1 rfl (f + 4) rfl (by omega) (by decide) rfl dX8_wordFrom_196 ?_
                  refine lv_bipush (v := 114) hx hb dX8_wordFrom_197 (by decide) ?_
                  refine lv_icmp_ne (tgt := 206) hx hb dX8_wordFrom_199 (by decide) (fun c_59 => ?_) (fun c_59 => ?_)
                  · refine lv_iconst (v := 0) hx hb dX8_wordFrom_206 (by decide) ?_
                    refine lv_istore (lv' := [(5, .int 0), (4, .int 0), (3, .int 0), (2, .int (nI (p - f))), (0, .ref (o 0)), (1, .int (nI f))]) hx hb dX8_wordFrom_207 hl (by decide) rfl (fun ls hl => ?_)
                    refine lv_iload_n hx hb dX8_wordFrom_209 rfl (lv_at hl 2 rfl) ?_
                    refine lv_if_eq (tgt := 217) hx hb dX8_wordFrom_210 (by decide) (fun _ => ?_) (fun h => absurd h (by decide))
                    refine lv_iload hx hb dX8_wordFrom_217 (lv_at hl 1 rfl) ?_
                    refine lv_if_eq (tgt := 226) hx hb dX8_wordFrom_219 (by decide) (fun _ => ?_) (fun h => absurd h (by decide))
                    refine lv_iload hx hb dX8_wordFrom_226 (lv_at hl 0 rfl) ?_
                    refine lv_if_eq (tgt := 236) hx hb dX8_wordFrom_228 (by decide) (fun _ => ?_) (fun h => absurd h (by decide))
                    refine lv_iconst (v := -1) hx hb dX8_wordFrom_236 (by decide) ?_
                    exact xr_i hQ E hr hw dX8_wordFrom_237 ⟨congrArg (fun z => some (Value.int z)) (by first | (simp only [wdR, if_neg c_1, if_neg c_2, if_pos c_3, if_pos c_8, if_neg c_41, if_pos c_42, if_neg c_54, if_pos c_55, if_neg c_59]; done) | contradiction), rfl⟩
                  · refine lv_iconst (v := 1) hx hb dX8_wordFrom_202 (by decide) ?_
                    refine lv_goto (tgt := 207) hx hb dX8_wordFrom_203 (by decide) ?_
                    refine lv_istore (lv' := [(5, .int 1), (4, .int 0), (3, .int 0), (2, .int (nI (p - f))), (0, .ref (o 0)), (1, .int (nI f))]) hx hb dX8_wordFrom_207 hl (by decide) rfl (fun ls hl => ?_)
                    refine lv_iload_n hx hb dX8_wordFrom_209 rfl (lv_at hl 2 rfl) ?_
                    refine lv_if_eq (tgt := 217) hx hb dX8_wordFrom_210 (by decide) (fun _ => ?_) (fun h => absurd h (by decide))
                    refine lv_iload hx hb dX8_wordFrom_217 (lv_at hl 1 rfl) ?_
                    refine lv_if_eq (tgt := 226) hx hb dX8_wordFrom_219 (by decide) (fun _ => ?_) (fun h => absurd h (by decide))
                    refine lv_iload hx hb dX8_wordFrom_226 (lv_at hl 0 rfl) ?_
                    refine lv_if_eq (tgt := 236) hx hb dX8_wordFrom_228 (by decide) (fun h => absurd h (by decide)) (fun _ => ?_)
                    refine lv_bipush (v := 7) hx hb dX8_wordFrom_231 (by decide) ?_
                    refine lv_goto (tgt := 237) hx hb dX8_wordFrom_233 (by decide) ?_
                    exact xr_i hQ E hr hw dX8_wordFrom_237 ⟨congrArg (fun z => some (Value.int z)) (by first | (simp only [wdR, if_neg c_1, if_neg c_2, if_pos c_3, if_pos c_8, if_neg c_41, if_pos c_42, if_neg c_54, if_pos c_55, if_pos c_59]; done) | contradiction), rfl⟩
              · refine lv_iconst (v := 1) hx hb dX8_wordFrom_166 (by decide) ?_
                refine lv_goto (tgt := 171) hx hb dX8_wordFrom_167 (by decide) ?_
                refine lv_istore (lv' := [(4, .int 1), (3, .int 0), (2, .int (nI (p - f))), (0, .ref (o 0)), (1, .int (nI f))]) hx hb dX8_wordFrom_171 hl (by decide) rfl (fun ls hl => ?_)
                refine lv_aload_n hx hb dX8_wordFrom_173 rfl (lv_at hl 3 rfl) ?_
                refine lv_iload_n hx hb dX8_wordFrom_174 rfl (lv_at hl 4 rfl) ?_
                refine lv_bipush (v := 101) hx hb dX8_wordFrom_175 (by decide) ?_
                refine lv_bipush (v := 114) hx hb dX8_wordFrom_177 (by decide) ?_
                refine lv_bipush (v := 114) hx hb dX8_wordFrom_179 (by decide) ?_
                refine lv_bipush (v := 111) hx hb dX8_wordFrom_181 (by decide) ?_
                refine x_goR (st1 := [.int (bI (spR tx f p 101 114 114 111))]) E hw [0, 1] rfl (x_runV (rest := []) E hw (c_X8_spells l g o hs bads nos fuls cau whe cnt p fau isw ods tx f 101 114 114 111 (by omega) (by omega)) km_X8_155 kv_X8_spells [0, 1] rfl (by decide) 0 rfl hl.1 rfl rfl (Nat.le_of_ble_eq_true rfl) ⟨Nat.le_of_ble_eq_true rfl, Nat.le_of_ble_eq_true rfl⟩ ⟨Nat.zero_le _, Nat.zero_le _⟩ dX8_wordFrom_183) rfl (fun H locs hw => ?_)
                refine xb_eq (tgt := 206) hx hb dX8_wordFrom_186 (by decide) (fun c_66 => ?_) (fun c_66 => ?_)
                · refine lv_iconst (v := 0) hx hb dX8_wordFrom_206 (by decide) ?_
                  refine lv_istore (lv' := [(5, .int 0), (4, .int 1), (3, .int 0), (2, .int (nI (p - f))), (0, .ref (o 0)), (1, .int (nI f))]) hx hb dX8_wordFrom_207 hl (by decide) rfl (fun ls hl => ?_)
                  refine lv_iload_n hx hb dX8_wordFrom_209 rfl (lv_at hl 2 rfl) ?_
                  refine lv_if_eq (tgt := 217) hx hb dX8_wordFrom_210 (by decide) (fun _ => ?_) (fun h => absurd h (by decide))
                  refine lv_iload hx hb dX8_wordFrom_217 (lv_at hl 1 rfl) ?_
                  refine lv_if_eq (tgt := 226) hx hb dX8_wordFrom_219 (by decide) (fun h => absurd h (by decide)) (fun _ => ?_)
                  refine lv_iconst (v := 4) hx hb dX8_wordFrom_222 (by decide) ?_
                  refine lv_goto (tgt := 237) hx hb dX8_wordFrom_223 (by decide) ?_
                  exact xr_i hQ E hr hw dX8_wordFrom_237 ⟨congrArg (fun z => some (Value.int z)) (by first | (simp only [wdR, if_neg c_1, if_neg c_2, if_pos c_3, if_pos c_8, if_neg c_41, if_pos c_42, if_pos c_54, if_neg c_66]; done) | contradiction), rfl⟩
                · refine lv_aload_n hx hb dX8_wordFrom_189 rfl (lv_at hl 3 rfl) ?_
                  refine x_get E hw kf_X8_23 0 rfl rfl dX8_wordFrom_190 ?_
                  refine lv_iload_n hx hb dX8_wordFrom_193 rfl (lv_at hl 4 rfl) ?_
                  refine lv_iconst (v := 4) hx hb dX8_wordFrom_194 (by decide) ?_
                  refine xn_add hx hb f 4 rfl rfl dX8_wordFrom_195 ?_
                  refine x_ld (v := tx (f + 4)) E hw 1 rfl (f + 4) rfl (by omega) (by decide) rfl dX8_wordFrom_196 ?_
                  refine lv_bipush (v := 114) hx hb dX8_wordFrom_197 (by decide) ?_
                  refine lv_icmp_ne (tgt := 206) hx hb dX8_wordFrom_199 (by decide) (fun c_69 => ?_) (fun c_69 => ?_)
                  · refine lv_iconst (v := 0) hx hb dX8_wordFrom_206 (by decide) ?_
                    refine lv_istore (lv' := [(5, .int 0), (4, .int 1), (3, .int 0), (2, .int (nI (p - f))), (0, .ref (o 0)), (1, .int (nI f))]) hx hb dX8_wordFrom_207 hl (by decide) rfl (fun ls hl => ?_)
                    refine lv_iload_n hx hb dX8_wordFrom_209 rfl (lv_at hl 2 rfl) ?_
                    refine lv_if_eq (tgt := 217) hx hb dX8_wordFrom_210 (by decide) (fun _ => ?_) (fun h => absurd h (by decide))
                    refine lv_iload hx hb dX8_wordFrom_217 (lv_at hl 1 rfl) ?_
                    refine lv_if_eq (tgt := 226) hx hb dX8_wordFrom_219 (by decide) (fun h => absurd h (by decide)) (fun _ => ?_)
                    refine lv_iconst (v := 4) hx hb dX8_wordFrom_222 (by decide) ?_
                    refine lv_goto (tgt := 237) hx hb dX8_wordFrom_223 (by decide) ?_
                    exact xr_i hQ E hr hw dX8_wordFrom_237 ⟨congrArg (fun z => some (Value.int z)) (by first | (simp only [wdR, if_neg c_1, if_neg c_2, if_pos c_3, if_pos c_8, if_neg c_41, if_pos c_42, if_pos c_54, if_pos c_66, if_neg c_69]; done) | contradiction), rfl⟩
                  · refine lv_iconst (v := 1) hx hb dX8_wordFrom_202 (by decide) ?_
                    refine lv_goto (tgt := 207) hx hb dX8_wordFrom_203 (by decide) ?_
                    refine lv_istore (lv' := [(5, .int 1), (4, .int 1), (3, .int 0), (2, .int (nI (p - f))), (0, .ref (o 0)), (1, .int (nI f))]) hx hb dX8_wordFrom_207 hl (by decide) rfl (fun ls hl => ?_)
                    refine lv_iload_n hx hb dX8_wordFrom_209 rfl (lv_at hl 2 rfl) ?_
                    refine lv_if_eq (tgt := 217) hx hb dX8_wordFrom_210 (by decide) (fun _ => ?_) (fun h => absurd h (by decide))
                    refine lv_iload hx hb dX8_wordFrom_217 (lv_at hl 1 rfl) ?_
                    refine lv_if_eq (tgt := 226) hx hb dX8_wordFrom_219 (by decide) (fun h => absurd h (by decide)) (fun _ => ?_)
                    refine lv_iconst (v := 4) hx hb dX8_wordFrom_222 (by decide) ?_
                    refine lv_goto (tgt := 237) hx hb dX8_wordFrom_223 (by decide) ?_
                    exact xr_i hQ E hr hw dX8_wordFrom_237 ⟨congrArg (fun z => some (Value.int z)) (by first | (simp only [wdR, if_neg c_1, if_neg c_2, if_pos c_3, if_pos c_8, if_neg c_41, if_pos c_42, if_pos c_54, if_pos c_66, if_pos c_69]; done) | contradiction), rfl⟩
          · refine lv_iconst (v := 1) hx hb dX8_wordFrom_131 (by decide) ?_
            refine lv_goto (tgt := 136) hx hb dX8_wordFrom_132 (by decide) ?_
            refine lv_istore_n (lv' := [(3, .int 1), (2, .int (nI (p - f))), (0, .ref (o 0)), (1, .int (nI f))]) hx hb dX8_wordFrom_136 rfl hl (by decide) rfl (fun ls hl => ?_)
            refine lv_aload_n hx hb dX8_wordFrom_137 rfl (lv_at hl 2 rfl) ?_
            refine lv_iload_n hx hb dX8_wordFrom_138 rfl (lv_at hl 3 rfl) ?_
            refine lv_bipush (v := 98) hx hb dX8_wordFrom_139 (by decide) ?_
            refine lv_bipush (v := 114) hx hb dX8_wordFrom_141 (by decide) ?_
            refine lv_bipush (v := 97) hx hb dX8_wordFrom_143 (by decide) ?_
            refine lv_bipush (v := 107) hx hb dX8_wordFrom_145 (by decide) ?_
            refine x_goR (st1 := [.int (bI (spR tx f p 98 114 97 107))]) E hw [0, 1] rfl (x_runV (rest := []) E hw (c_X8_spells l g o hs bads nos fuls cau whe cnt p fau isw ods tx f 98 114 97 107 (by omega) (by omega)) km_X8_155 kv_X8_spells [0, 1] rfl (by decide) 0 rfl hl.1 rfl rfl (Nat.le_of_ble_eq_true rfl) ⟨Nat.le_of_ble_eq_true rfl, Nat.le_of_ble_eq_true rfl⟩ ⟨Nat.zero_le _, Nat.zero_le _⟩ dX8_wordFrom_147) rfl (fun H locs hw => ?_)
            refine xb_eq (tgt := 170) hx hb dX8_wordFrom_150 (by decide) (fun c_74 => ?_) (fun c_74 => ?_)
            · refine lv_iconst (v := 0) hx hb dX8_wordFrom_170 (by decide) ?_
              refine lv_istore (lv' := [(4, .int 0), (3, .int 1), (2, .int (nI (p - f))), (0, .ref (o 0)), (1, .int (nI f))]) hx hb dX8_wordFrom_171 hl (by decide) rfl (fun ls hl => ?_)
              refine lv_aload_n hx hb dX8_wordFrom_173 rfl (lv_at hl 3 rfl) ?_
              refine lv_iload_n hx hb dX8_wordFrom_174 rfl (lv_at hl 4 rfl) ?_
              refine lv_bipush (v := 101) hx hb dX8_wordFrom_175 (by decide) ?_
              refine lv_bipush (v := 114) hx hb dX8_wordFrom_177 (by decide) ?_
              refine lv_bipush (v := 114) hx hb dX8_wordFrom_179 (by decide) ?_
              refine lv_bipush (v := 111) hx hb dX8_wordFrom_181 (by decide) ?_
              refine x_goR (st1 := [.int (bI (spR tx f p 101 114 114 111))]) E hw [0, 1] rfl (x_runV (rest := []) E hw (c_X8_spells l g o hs bads nos fuls cau whe cnt p fau isw ods tx f 101 114 114 111 (by omega) (by omega)) km_X8_155 kv_X8_spells [0, 1] rfl (by decide) 0 rfl hl.1 rfl rfl (Nat.le_of_ble_eq_true rfl) ⟨Nat.le_of_ble_eq_true rfl, Nat.le_of_ble_eq_true rfl⟩ ⟨Nat.zero_le _, Nat.zero_le _⟩ dX8_wordFrom_183) rfl (fun H locs hw => ?_)
              refine xb_eq (tgt := 206) hx hb dX8_wordFrom_186 (by decide) (fun c_75 => ?_) (fun c_75 => ?_)
              · refine lv_iconst (v := 0) hx hb dX8_wordFrom_206 (by decide) ?_
                refine lv_istore (lv' := [(5, .int 0), (4, .int 0), (3, .int 1), (2, .int (nI (p - f))), (0, .ref (o 0)), (1, .int (nI f))]) hx hb dX8_wordFrom_207 hl (by decide) rfl (fun ls hl => ?_)
                refine lv_iload_n hx hb dX8_wordFrom_209 rfl (lv_at hl 2 rfl) ?_
                refine lv_if_eq (tgt := 217) hx hb dX8_wordFrom_210 (by decide) (fun h => absurd h (by decide)) (fun _ => ?_)
                refine lv_iconst (v := 2) hx hb dX8_wordFrom_213 (by decide) ?_
                refine lv_goto (tgt := 237) hx hb dX8_wordFrom_214 (by decide) ?_
                exact xr_i hQ E hr hw dX8_wordFrom_237 ⟨congrArg (fun z => some (Value.int z)) (by first | (simp only [wdR, if_neg c_1, if_neg c_2, if_pos c_3, if_pos c_8, if_pos c_41, if_neg c_74, if_neg c_75]; done) | contradiction), rfl⟩
              · refine lv_aload_n hx hb dX8_wordFrom_189 rfl (lv_at hl 3 rfl) ?_
                refine x_get E hw kf_X8_23 0 rfl rfl dX8_wordFrom_190 ?_
                refine lv_iload_n hx hb dX8_wordFrom_193 rfl (lv_at hl 4 rfl) ?_
                refine lv_iconst (v := 4) hx hb dX8_wordFrom_194 (by decide) ?_
                refine xn_add hx hb f 4 rfl rfl dX8_wordFrom_195 ?_
                refine x_ld (v := tx (f + 4)) E hw 1 rfl (f + 4) rfl (by omega) (by decide) rfl dX8_wordFrom_196 ?_
                refine lv_bipush (v := 114) hx hb dX8_wordFrom_197 (by decide) ?_
                refine lv_icmp_ne (tgt := 206) hx hb dX8_wordFrom_199 (by decide) (fun c_77 => ?_) (fun c_77 => ?_)
                · refine lv_iconst (v := 0) hx hb dX8_wordFrom_206 (by decide) ?_
                  refine lv_istore (lv' := [(5, .int 0), (4, .int 0), (3, .int 1), (2, .int (nI (p - f))), (0, .ref (o 0)), (1, .int (nI f))]) hx hb dX8_wordFrom_207 hl (by decide) rfl (fun ls hl => ?_)
                  refine lv_iload_n hx hb dX8_wordFrom_209 rfl (lv_at hl 2 rfl) ?_
                  refine lv_if_eq (tgt := 217) hx hb dX8_wordFrom_210 (by decide) (fun h => absurd h (by decide)) (fun _ => ?_)
                  refine lv_iconst (v := 2) hx hb dX8_wordFrom_213 (by decide) ?_
                  refine lv_goto (tgt := 237) hx hb dX8_wordFrom_214 (by decide) ?_
                  exact xr_i hQ E hr hw dX8_wordFrom_237 ⟨congrArg (fun z => some (Value.int z)) (by first | (simp only [wdR, if_neg c_1, if_neg c_2, if_pos c_3, if_pos c_8, if_pos c_41, if_neg c_74, if_pos c_75, if_neg c_77]; done) | contradiction), rfl⟩
                · refine lv_iconst (v := 1) hx hb dX8_wordFrom_202 (by decide) ?_
                  refine lv_goto (tgt := 207) hx hb dX8_wordFrom_203 (by decide) ?_
                  refine lv_istore (lv' := [(5, .int 1), (4, .int 0), (3, .int 1), (2, .int (nI (p - f))), (0, .ref (o 0)), (1, .int (nI f))]) hx hb dX8_wordFrom_207 hl (by decide) rfl (fun ls hl => ?_)
                  refine lv_iload_n hx hb dX8_wordFrom_209 rfl (lv_at hl 2 rfl) ?_
                  refine lv_if_eq (tgt := 217) hx hb dX8_wordFrom_210 (by decide) (fun h => absurd h (by decide)) (fun _ => ?_)
                  refine lv_iconst (v := 2) hx hb dX8_wordFrom_213 (by decide) ?_
                  refine lv_goto (tgt := 237) hx hb dX8_wordFrom_214 (by decide) ?_
                  exact xr_i hQ E hr hw dX8_wordFrom_237 ⟨congrArg (fun z => some (Value.int z)) (by first | (simp only [wdR, if_neg c_1, if_neg c_2, if_pos c_3, if_pos c_8, if_pos c_41, if_neg c_74, if_pos c_75, if_pos c_77]; done) | contradiction), rfl⟩
            · refine lv_aload_n hx hb dX8_wordFrom_153 rfl (lv_at hl 2 rfl) ?_
              refine x_get E hw kf_X8_23 0 rfl rfl dX8_wordFrom_154 ?_
              refine lv_iload_n hx hb dX8_wordFrom_157 rfl (lv_at hl 3 rfl) ?_
              refine lv_iconst (v := 4) hx hb dX8_wordFrom_158 (by decide) ?_
              refine xn_add hx hb f 4 rfl rfl dX8_wordFrom_159 ?_
              refine x_ld (v := tx (f + 4)) E hw 1 rfl (f + 4) rfl (by omega) (by decide) rfl dX8_wordFrom_160 ?_
              refine lv_bipush (v := 101) hx hb dX8_wordFrom_161 (by decide) ?_
              refine lv_icmp_ne (tgt := 170) hx hb dX8_wordFrom_163 (by decide) (fun c_80 => ?_) (fun c_80 => ?_)
              · refine lv_iconst (v := 0) hx hb dX8_wordFrom_170 (by decide) ?_
                refine lv_istore (lv' := [(4, .int 0), (3, .int 1), (2, .int (nI (p - f))), (0, .ref (o 0)), (1, .int (nI f))]) hx hb dX8_wordFrom_171 hl (by decide) rfl (fun ls hl => ?_)
                refine lv_aload_n hx hb dX8_wordFrom_173 rfl (lv_at hl 3 rfl) ?_
                refine lv_iload_n hx hb dX8_wordFrom_174 rfl (lv_at hl 4 rfl) ?_
                refine lv_bipush (v := 101) hx hb dX8_wordFrom_175 (by decide) ?_
                refine lv_bipush (v := 114) hx hb dX8_wordFrom_177 (by decide) ?_
                refine lv_bipush (v := 114) hx hb dX8_wordFrom_179 (by decide) ?_
                refine lv_bipush (v := 111) hx hb dX8_wordFrom_181 (by decide) ?_
                refine x_goR (st1 := [.int (bI (spR tx f p 101 114 114 111))]) E hw [0, 1] rfl (x_runV (rest := []) E hw (c_X8_spells l g o hs bads nos fuls cau whe cnt p fau isw ods tx f 101 114 114 111 (by omega) (by omega)) km_X8_155 kv_X8_spells [0, 1] rfl (by decide) 0 rfl hl.1 rfl rfl (Nat.le_of_ble_eq_true rfl) ⟨Nat.le_of_ble_eq_true rfl, Nat.le_of_ble_eq_true rfl⟩ ⟨Nat.zero_le _, Nat.zero_le _⟩ dX8_wordFrom_183) rfl (fun H locs hw => ?_)
                refine xb_eq (tgt := 206) hx hb dX8_wordFrom_186 (by decide) (fun c_81 => ?_) (fun c_81 => ?_)
                · refine lv_iconst (v := 0) hx hb dX8_wordFrom_206 (by decide) ?_
                  refine lv_istore (lv' := [(5, .int 0), (4, .int 0), (3, .int 1), (2, .int (nI (p - f))), (0, .ref (o 0)), (1, .int (nI f))]) hx hb dX8_wordFrom_207 hl (by decide) rfl (fun ls hl => ?_)
                  refine lv_iload_n hx hb dX8_wordFrom_209 rfl (lv_at hl 2 rfl) ?_
                  refine lv_if_eq (tgt := 217) hx hb dX8_wordFrom_210 (by decide) (fun h => absurd h (by decide)) (fun _ => ?_)
                  refine lv_iconst (v := 2) hx hb dX8_wordFrom_213 (by decide) ?_
                  refine lv_goto (tgt := 237) hx hb dX8_wordFrom_214 (by decide) ?_
                  exact xr_i hQ E hr hw dX8_wordFrom_237 ⟨congrArg (fun z => some (Value.int z)) (by first | (simp only [wdR, if_neg c_1, if_neg c_2, if_pos c_3, if_pos c_8, if_pos c_41, if_pos c_74, if_neg c_80, if_neg c_81]; done) | contradiction), rfl⟩
                · refine lv_aload_n hx hb dX8_wordFrom_189 rfl (lv_at hl 3 rfl) ?_
                  refine x_get E hw kf_X8_23 0 rfl rfl dX8_wordFrom_190 ?_
                  refine lv_iload_n hx hb dX8_wordFrom_193 rfl (lv_at hl 4 rfl) ?_
                  refine lv_iconst (v := 4) hx hb dX8_wordFrom_194 (by decide) ?_
                  refine xn_add hx hb f 4 rfl rfl dX8_wordFrom_195 ?_
                  refine x_ld (v := tx (f + 4)) E hw 1 rfl (f + 4) rfl (by omega) (by decide) rfl dX8_wordFrom_196 ?_
                  refine lv_bipush (v := 114) hx hb dX8_wordFrom_197 (by decide) ?_
                  refine lv_icmp_ne (tgt := 206) hx hb dX8_wordFrom_199 (by decide) (fun c_83 => ?_) (fun c_83 => ?_)
                  · refine lv_iconst (v := 0) hx hb dX8_wordFrom_206 (by decide) ?_
                    refine lv_istore (lv' := [(5, .int 0), (4, .int 0), (3, .int 1), (2, .int (nI (p - f))), (0, .ref (o 0)), (1, .int (nI f))]) hx hb dX8_wordFrom_207 hl (by decide) rfl (fun ls hl => ?_)
                    refine lv_iload_n hx hb dX8_wordFrom_209 rfl (lv_at hl 2 rfl) ?_
                    refine lv_if_eq (tgt := 217) hx hb dX8_wordFrom_210 (by decide) (fun h => absurd h (by decide)) (fun _ => ?_)
                    refine lv_iconst (v := 2) hx hb dX8_wordFrom_213 (by decide) ?_
                    refine lv_goto (tgt := 237) hx hb dX8_wordFrom_214 (by decide) ?_
                    exact xr_i hQ E hr hw dX8_wordFrom_237 ⟨congrArg (fun z => some (Value.int z)) (by first | (simp only [wdR, if_neg c_1, if_neg c_2, if_pos c_3, if_pos c_8, if_pos c_41, if_pos c_74, if_neg c_80, if_pos c_81, if_neg c_83]; done) | contradiction), rfl⟩
                  · refine lv_iconst (v := 1) hx hb dX8_wordFrom_202 (by decide) ?_
                    refine lv_goto (tgt := 207) hx hb dX8_wordFrom_203 (by decide) ?_
                    refine lv_istore (lv' := [(5, .int 1), (4, .int 0), (3, .int 1), (2, .int (nI (p - f))), (0, .ref (o 0)), (1, .int (nI f))]) hx hb dX8_wordFrom_207 hl (by decide) rfl (fun ls hl => ?_)
                    refine lv_iload_n hx hb dX8_wordFrom_209 rfl (lv_at hl 2 rfl) ?_
                    refine lv_if_eq (tgt := 217) hx hb dX8_wordFrom_210 (by decide) (fun h => absurd h (by decide)) (fun _ => ?_)
                    refine lv_iconst (v := 2) hx hb dX8_wordFrom_213 (by decide) ?_
                    refine lv_goto (tgt := 237) hx hb dX8_wordFrom_214 (by decide) ?_
                    exact xr_i hQ E hr hw dX8_wordFrom_237 ⟨congrArg (fun z => some (Value.int z)) (by first | (simp only [wdR, if_neg c_1, if_neg c_2, if_pos c_3, if_pos c_8, if_pos c_41, if_pos c_74, if_neg c_80, if_pos c_81, if_pos c_83]; done) | contradiction), rfl⟩
              · refine lv_iconst (v := 1) hx hb dX8_wordFrom_166 (by decide) ?_
                refine lv_goto (tgt := 171) hx hb dX8_wordFrom_167 (by decide) ?_
                refine lv_istore (lv' := [(4, .int 1), (3, .int 1), (2, .int (nI (p - f))), (0, .ref (o 0)), (1, .int (nI f))]) hx hb dX8_wordFrom_171 hl (by decide) rfl (fun ls hl => ?_)
                refine lv_aload_n hx hb dX8_wordFrom_173 rfl (lv_at hl 3 rfl) ?_
                refine lv_iload_n hx hb dX8_wordFrom_174 rfl (lv_at hl 4 rfl) ?_
                refine lv_bipush (v := 101) hx hb dX8_wordFrom_175 (by decide) ?_
                refine lv_bipush (v := 114) hx hb dX8_wordFrom_177 (by decide) ?_
                refine lv_bipush (v := 114) hx hb dX8_wordFrom_179 (by decide) ?_
                refine lv_bipush (v := 111) hx hb dX8_wordFrom_181 (by decide) ?_
                refine x_goR (st1 := [.int (bI (spR tx f p 101 114 114 111))]) E hw [0, 1] rfl (x_runV (rest := []) E hw (c_X8_spells l g o hs bads nos fuls cau whe cnt p fau isw ods tx f 101 114 114 111 (by omega) (by omega)) km_X8_155 kv_X8_spells [0, 1] rfl (by decide) 0 rfl hl.1 rfl rfl (Nat.le_of_ble_eq_true rfl) ⟨Nat.le_of_ble_eq_true rfl, Nat.le_of_ble_eq_true rfl⟩ ⟨Nat.zero_le _, Nat.zero_le _⟩ dX8_wordFrom_183) rfl (fun H locs hw => ?_)
                refine xb_eq (tgt := 206) hx hb dX8_wordFrom_186 (by decide) (fun c_86 => ?_) (fun c_86 => ?_)
                · refine lv_iconst (v := 0) hx hb dX8_wordFrom_206 (by decide) ?_
                  refine lv_istore (lv' := [(5, .int 0), (4, .int 1), (3, .int 1), (2, .int (nI (p - f))), (0, .ref (o 0)), (1, .int (nI f))]) hx hb dX8_wordFrom_207 hl (by decide) rfl (fun ls hl => ?_)
                  refine lv_iload_n hx hb dX8_wordFrom_209 rfl (lv_at hl 2 rfl) ?_
                  refine lv_if_eq (tgt := 217) hx hb dX8_wordFrom_210 (by decide) (fun h => absurd h (by decide)) (fun _ => ?_)
                  refine lv_iconst (v := 2) hx hb dX8_wordFrom_213 (by decide) ?_
                  refine lv_goto (tgt := 237) hx hb dX8_wordFrom_214 (by decide) ?_
                  exact xr_i hQ E hr hw dX8_wordFrom_237 ⟨congrArg (fun z => some (Value.int z)) (by first | (simp only [wdR, if_neg c_1, if_neg c_2, if_pos c_3, if_pos c_8, if_pos c_41, if_pos c_74, if_pos c_80, if_neg c_86]; done) | contradiction), rfl⟩
                · refine lv_aload_n hx hb dX8_wordFrom_189 rfl (lv_at hl 3 rfl) ?_
                  refine x_get E hw kf_X8_23 0 rfl rfl dX8_wordFrom_190 ?_
                  refine lv_iload_n hx hb dX8_wordFrom_193 rfl (lv_at hl 4 rfl) ?_
                  refine lv_iconst (v := 4) hx hb dX8_wordFrom_194 (by decide) ?_
                  refine xn_add hx hb f 4 rfl rfl dX8_wordFrom_195 ?_
                  refine x_ld (v := tx (f + 4)) E hw 1 rfl (f + 4) rfl (by omega) (by decide) rfl dX8_wordFrom_196 ?_
                  refine lv_bipush (v := 114) hx hb dX8_wordFrom_197 (by decide) ?_
                  refine lv_icmp_ne (tgt := 206) hx hb dX8_wordFrom_199 (by decide) (fun c_88 => ?_) (fun c_88 => ?_)
                  · refine lv_iconst (v := 0) hx hb dX8_wordFrom_206 (by decide) ?_
                    refine lv_istore (lv' := [(5, .int 0), (4, .int 1), (3, .int 1), (2, .int (nI (p - f))), (0, .ref (o 0)), (1, .int (nI f))]) hx hb dX8_wordFrom_207 hl (by decide) rfl (fun ls hl => ?_)
                    refine lv_iload_n hx hb dX8_wordFrom_209 rfl (lv_at hl 2 rfl) ?_
                    refine lv_if_eq (tgt := 217) hx hb dX8_wordFrom_210 (by decide) (fun h => absurd h (by decide)) (fun _ => ?_)
                    refine lv_iconst (v := 2) hx hb dX8_wordFrom_213 (by decide) ?_
                    refine lv_goto (tgt := 237) hx hb dX8_wordFrom_214 (by decide) ?_
                    exact xr_i hQ E hr hw dX8_wordFrom_237 ⟨congrArg (fun z => some (Value.int z)) (by first | (simp only [wdR, if_neg c_1, if_neg c_2, if_pos c_3, if_pos c_8, if_pos c_41, if_pos c_74, if_pos c_80, if_pos c_86, if_neg c_88]; done) | contradiction), rfl⟩
                  · refine lv_iconst (v := 1) hx hb dX8_wordFrom_202 (by decide) ?_
                    refine lv_goto (tgt := 207) hx hb dX8_wordFrom_203 (by decide) ?_
                    refine lv_istore (lv' := [(5, .int 1), (4, .int 1), (3, .int 1), (2, .int (nI (p - f))), (0, .ref (o 0)), (1, .int (nI f))]) hx hb dX8_wordFrom_207 hl (by decide) rfl (fun ls hl => ?_)
                    refine lv_iload_n hx hb dX8_wordFrom_209 rfl (lv_at hl 2 rfl) ?_
                    refine lv_if_eq (tgt := 217) hx hb dX8_wordFrom_210 (by decide) (fun h => absurd h (by decide)) (fun _ => ?_)
                    refine lv_iconst (v := 2) hx hb dX8_wordFrom_213 (by decide) ?_
                    refine lv_goto (tgt := 237) hx hb dX8_wordFrom_214 (by decide) ?_
                    exact xr_i hQ E hr hw dX8_wordFrom_237 ⟨congrArg (fun z => some (Value.int z)) (by first | (simp only [wdR, if_neg c_1, if_neg c_2, if_pos c_3, if_pos c_8, if_pos c_41, if_pos c_74, if_pos c_80, if_pos c_86, if_pos c_88]; done) | contradiction), rfl⟩
    · refine lv_aload_n hx hb dX8_wordFrom_34 rfl (lv_at hl 1 rfl) ?_
      refine lv_iload_n hx hb dX8_wordFrom_35 rfl (lv_at hl 2 rfl) ?_
      refine lv_bipush (v := 99) hx hb dX8_wordFrom_36 (by decide) ?_
      refine lv_bipush (v := 101) hx hb dX8_wordFrom_38 (by decide) ?_
      refine lv_bipush (v := 105) hx hb dX8_wordFrom_40 (by decide) ?_
      refine lv_bipush (v := 108) hx hb dX8_wordFrom_42 (by decide) ?_
      refine x_goR (st1 := [.int (bI (spR tx f p 99 101 105 108))]) E hw [0, 1] rfl (x_runV (rest := []) E hw (c_X8_spells l g o hs bads nos fuls cau whe cnt p fau isw ods tx f 99 101 105 108 (by omega) (by omega)) km_X8_155 kv_X8_spells [0, 1] rfl (by decide) 0 rfl hl.1 rfl rfl (Nat.le_of_ble_eq_true rfl) ⟨Nat.le_of_ble_eq_true rfl, Nat.le_of_ble_eq_true rfl⟩ ⟨Nat.zero_le _, Nat.zero_le _⟩ dX8_wordFrom_44) rfl (fun H locs hw => ?_)
      refine xb_eq (tgt := 54) hx hb dX8_wordFrom_47 (by decide) (fun c_91 => ?_) (fun c_91 => ?_)
      · refine lv_aload_n hx hb dX8_wordFrom_54 rfl (lv_at hl 1 rfl) ?_
        refine lv_iload_n hx hb dX8_wordFrom_55 rfl (lv_at hl 2 rfl) ?_
        refine lv_bipush (v := 112) hx hb dX8_wordFrom_56 (by decide) ?_
        refine lv_bipush (v := 117) hx hb dX8_wordFrom_58 (by decide) ?_
        refine lv_bipush (v := 108) hx hb dX8_wordFrom_60 (by decide) ?_
        refine lv_bipush (v := 108) hx hb dX8_wordFrom_62 (by decide) ?_
        refine x_goR (st1 := [.int (bI (spR tx f p 112 117 108 108))]) E hw [0, 1] rfl (x_runV (rest := []) E hw (c_X8_spells l g o hs bads nos fuls cau whe cnt p fau isw ods tx f 112 117 108 108 (by omega) (by omega)) km_X8_155 kv_X8_spells [0, 1] rfl (by decide) 0 rfl hl.1 rfl rfl (Nat.le_of_ble_eq_true rfl) ⟨Nat.le_of_ble_eq_true rfl, Nat.le_of_ble_eq_true rfl⟩ ⟨Nat.zero_le _, Nat.zero_le _⟩ dX8_wordFrom_64) rfl (fun H locs hw => ?_)
        refine xb_eq (tgt := 74) hx hb dX8_wordFrom_67 (by decide) (fun c_92 => ?_) (fun c_92 => ?_)
        · refine lv_aload_n hx hb dX8_wordFrom_74 rfl (lv_at hl 1 rfl) ?_
          refine lv_iload_n hx hb dX8_wordFrom_75 rfl (lv_at hl 2 rfl) ?_
          refine lv_bipush (v := 108) hx hb dX8_wordFrom_76 (by decide) ?_
          refine lv_bipush (v := 111) hx hb dX8_wordFrom_78 (by decide) ?_
          refine lv_bipush (v := 110) hx hb dX8_wordFrom_80 (by decide) ?_
          refine lv_bipush (v := 103) hx hb dX8_wordFrom_82 (by decide) ?_
          refine x_goR (st1 := [.int (bI (spR tx f p 108 111 110 103))]) E hw [0, 1] rfl (x_runV (rest := []) E hw (c_X8_spells l g o hs bads nos fuls cau whe cnt p fau isw ods tx f 108 111 110 103 (by omega) (by omega)) km_X8_155 kv_X8_spells [0, 1] rfl (by decide) 0 rfl hl.1 rfl rfl (Nat.le_of_ble_eq_true rfl) ⟨Nat.le_of_ble_eq_true rfl, Nat.le_of_ble_eq_true rfl⟩ ⟨Nat.zero_le _, Nat.zero_le _⟩ dX8_wordFrom_84) rfl (fun H locs hw => ?_)
          refine xb_eq (tgt := 95) hx hb dX8_wordFrom_87 (by decide) (fun c_93 => ?_) (fun c_93 => ?_)
          · refine lv_iconst (v := -1) hx hb dX8_wordFrom_95 (by decide) ?_
            exact xr_i hQ E hr hw dX8_wordFrom_96 ⟨congrArg (fun z => some (Value.int z)) (by first | (simp only [wdR, if_neg c_1, if_pos c_2, if_neg c_91, if_neg c_92, if_neg c_93]; done) | contradiction), rfl⟩
          · refine lv_bipush (v := 6) hx hb dX8_wordFrom_90 (by decide) ?_
            refine lv_goto (tgt := 96) hx hb dX8_wordFrom_92 (by decide) ?_
            exact xr_i hQ E hr hw dX8_wordFrom_96 ⟨congrArg (fun z => some (Value.int z)) (by first | (simp only [wdR, if_neg c_1, if_pos c_2, if_neg c_91, if_neg c_92, if_pos c_93]; done) | contradiction), rfl⟩
        · refine lv_iconst (v := 5) hx hb dX8_wordFrom_70 (by decide) ?_
          refine lv_goto (tgt := 96) hx hb dX8_wordFrom_71 (by decide) ?_
          exact xr_i hQ E hr hw dX8_wordFrom_96 ⟨congrArg (fun z => some (Value.int z)) (by first | (simp only [wdR, if_neg c_1, if_pos c_2, if_neg c_91, if_pos c_92]; done) | contradiction), rfl⟩
      · refine lv_iconst (v := 1) hx hb dX8_wordFrom_50 (by decide) ?_
        refine lv_goto (tgt := 96) hx hb dX8_wordFrom_51 (by decide) ?_
        exact xr_i hQ E hr hw dX8_wordFrom_96 ⟨congrArg (fun z => some (Value.int z)) (by first | (simp only [wdR, if_neg c_1, if_pos c_2, if_pos c_91]; done) | contradiction), rfl⟩
  · refine lv_aload_n hx hb dX8_wordFrom_12 rfl (lv_at hl 1 rfl) ?_
    refine lv_iload_n hx hb dX8_wordFrom_13 rfl (lv_at hl 2 rfl) ?_
    refine lv_bipush (v := 108) hx hb dX8_wordFrom_14 (by decide) ?_
    refine lv_bipush (v := 101) hx hb dX8_wordFrom_16 (by decide) ?_
    refine lv_bipush (v := 110) hx hb dX8_wordFrom_18 (by decide) ?_
    refine lv_iconst (v := 0) hx hb dX8_wordFrom_20 (by decide) ?_
    refine x_goR (st1 := [.int (bI (spR tx f p 108 101 110 0))]) E hw [0, 1] rfl (x_runV (rest := []) E hw (c_X8_spells l g o hs bads nos fuls cau whe cnt p fau isw ods tx f 108 101 110 0 (by omega) (by omega)) km_X8_155 kv_X8_spells [0, 1] rfl (by decide) 0 rfl hl.1 rfl rfl (Nat.le_of_ble_eq_true rfl) ⟨Nat.le_of_ble_eq_true rfl, Nat.le_of_ble_eq_true rfl⟩ ⟨Nat.zero_le _, Nat.zero_le _⟩ dX8_wordFrom_21) rfl (fun H locs hw => ?_)
    refine xb_eq (tgt := 29) hx hb dX8_wordFrom_24 (by decide) (fun c_94 => ?_) (fun c_94 => ?_)
    · refine lv_iload_n hx hb dX8_wordFrom_29 rfl (lv_at hl 0 rfl) ?_
      refine lv_iconst (v := 4) hx hb dX8_wordFrom_30 (by decide) ?_
      refine xn_ne (tgt := 97) hx hb (p - f) 4 rfl rfl (by omega) (by omega) dX8_wordFrom_31 (by decide) (fun c_95 => ?_) (fun c_95 => ?_)
      · refine lv_iload_n hx hb dX8_wordFrom_97 rfl (lv_at hl 0 rfl) ?_
        refine lv_iconst (v := 5) hx hb dX8_wordFrom_98 (by decide) ?_
        refine xn_ne (tgt := 238) hx hb (p - f) 5 rfl rfl (by omega) (by omega) dX8_wordFrom_99 (by decide) (fun c_96 => ?_) (fun c_96 => ?_)
        · refine lv_iload_n hx hb dX8_wordFrom_238 rfl (lv_at hl 0 rfl) ?_
          refine lv_bipush (v := 6) hx hb dX8_wordFrom_239 (by decide) ?_
          refine xn_ne (tgt := 290) hx hb (p - f) 6 rfl rfl (by omega) (by omega) dX8_wordFrom_241 (by decide) (fun c_97 => ?_) (fun c_97 => ?_)
          · refine lv_iconst (v := -1) hx hb dX8_wordFrom_290 (by decide) ?_
            exact xr_i hQ E hr hw dX8_wordFrom_291 ⟨congrArg (fun z => some (Value.int z)) (by first | (simp only [wdR, if_pos c_1, if_neg c_94, if_neg c_95, if_neg c_96, if_neg c_97]; done) | contradiction), rfl⟩
          · refine lv_aload_n hx hb dX8_wordFrom_244 rfl (lv_at hl 1 rfl) ?_
            refine lv_iload_n hx hb dX8_wordFrom_245 rfl (lv_at hl 2 rfl) ?_
            refine lv_bipush (v := 98) hx hb dX8_wordFrom_246 (by decide) ?_
            refine lv_bipush (v := 101) hx hb dX8_wordFrom_248 (by decide) ?_
            refine lv_bipush (v := 97) hx hb dX8_wordFrom_250 (by decide) ?_
            refine lv_bipush (v := 99) hx hb dX8_wordFrom_252 (by decide) ?_
            refine x_goR (st1 := [.int (bI (spR tx f p 98 101 97 99))]) E hw [0, 1] rfl (x_runV (rest := []) E hw (c_X8_spells l g o hs bads nos fuls cau whe cnt p fau isw ods tx f 98 101 97 99 (by omega) (by omega)) km_X8_155 kv_X8_spells [0, 1] rfl (by decide) 0 rfl hl.1 rfl rfl (Nat.le_of_ble_eq_true rfl) ⟨Nat.le_of_ble_eq_true rfl, Nat.le_of_ble_eq_true rfl⟩ ⟨Nat.zero_le _, Nat.zero_le _⟩ dX8_wordFrom_254) rfl (fun H locs hw => ?_)
            refine xb_eq (tgt := 290) hx hb dX8_wordFrom_257 (by decide) (fun c_98 => ?_) (fun c_98 => ?_)
            · refine lv_iconst (v := -1) hx hb dX8_wordFrom_290 (by decide) ?_
              exact xr_i hQ E hr hw dX8_wordFrom_291 ⟨congrArg (fun z => some (Value.int z)) (by first | (simp only [wdR, if_pos c_1, if_neg c_94, if_neg c_95, if_neg c_96, if_pos c_97, if_neg c_98]; done) | contradiction), rfl⟩
            · refine lv_aload_n hx hb dX8_wordFrom_260 rfl (lv_at hl 1 rfl) ?_
              refine x_get E hw kf_X8_23 0 rfl rfl dX8_wordFrom_261 ?_
              refine lv_iload_n hx hb dX8_wordFrom_264 rfl (lv_at hl 2 rfl) ?_
              refine lv_iconst (v := 4) hx hb dX8_wordFrom_265 (by decide) ?_
              refine xn_add hx hb f 4 rfl rfl dX8_wordFrom_266 ?_
              refine x_ld (v := tx (f + 4)) E hw 1 rfl (f + 4) rfl (by omega) (by decide) rfl dX8_wordFrom_267 ?_
              refine lv_bipush (v := 111) hx hb dX8_wordFrom_268 (by decide) ?_
              refine lv_icmp_ne (tgt := 290) hx hb dX8_wordFrom_270 (by decide) (fun c_99 => ?_) (fun c_99 => ?_)
              · refine lv_iconst (v := -1) hx hb dX8_wordFrom_290 (by decide) ?_
                exact xr_i hQ E hr hw dX8_wordFrom_291 ⟨congrArg (fun z => some (Value.int z)) (by first | (simp only [wdR, if_pos c_1, if_neg c_94, if_neg c_95, if_neg c_96, if_pos c_97, if_pos c_98, if_neg c_99]; done) | contradiction), rfl⟩
              · refine lv_aload_n hx hb dX8_wordFrom_273 rfl (lv_at hl 1 rfl) ?_
                refine x_get E hw kf_X8_23 0 rfl rfl dX8_wordFrom_274 ?_
                refine lv_iload_n hx hb dX8_wordFrom_277 rfl (lv_at hl 2 rfl) ?_
                refine lv_iconst (v := 5) hx hb dX8_wordFrom_278 (by decide) ?_
                refine xn_add hx hb f 5 rfl rfl dX8_wordFrom_279 ?_
                refine x_ld (v := tx (f + 5)) E hw 1 rfl (f + 5) rfl (by omega) (by decide) rfl dX8_wordFrom_280 ?_
                refine lv_bipush (v := 110) hx hb dX8_wordFrom_281 (by decide) ?_
                refine lv_icmp_ne (tgt := 290) hx hb dX8_wordFrom_283 (by decide) (fun c_100 => ?_) (fun c_100 => ?_)
                · refine lv_iconst (v := -1) hx hb dX8_wordFrom_290 (by decide) ?_
                  exact xr_i hQ E hr hw dX8_wordFrom_291 ⟨congrArg (fun z => some (Value.int z)) (by first | (simp only [wdR, if_pos c_1, if_neg c_94, if_neg c_95, if_neg c_96, if_pos c_97, if_pos c_98, if_pos c_99, if_neg c_100]; done) | contradiction), rfl⟩
                · refine lv_iconst (v := 3) hx hb dX8_wordFrom_286 (by decide) ?_
                  refine lv_goto (tgt := 291) hx hb dX8_wordFrom_287 (by decide) ?_
                  exact xr_i hQ E hr hw dX8_wordFrom_291 ⟨congrArg (fun z => some (Value.int z)) (by first | (simp only [wdR, if_pos c_1, if_neg c_94, if_neg c_95, if_neg c_96, if_pos c_97, if_pos c_98, if_pos c_99, if_pos c_100]; done) | contradiction), rfl⟩
        · refine lv_aload_n hx hb dX8_wordFrom_102 rfl (lv_at hl 1 rfl) ?_
          refine lv_iload_n hx hb dX8_wordFrom_103 rfl (lv_at hl 2 rfl) ?_
          refine lv_bipush (v := 103) hx hb dX8_wordFrom_104 (by decide) ?_
          refine lv_bipush (v := 114) hx hb dX8_wordFrom_106 (by decide) ?_
          refine lv_bipush (v := 97) hx hb dX8_wordFrom_108 (by decide) ?_
          refine lv_bipush (v := 100) hx hb dX8_wordFrom_110 (by decide) ?_
          refine x_goR (st1 := [.int (bI (spR tx f p 103 114 97 100))]) E hw [0, 1] rfl (x_runV (rest := []) E hw (c_X8_spells l g o hs bads nos fuls cau whe cnt p fau isw ods tx f 103 114 97 100 (by omega) (by omega)) km_X8_155 kv_X8_spells [0, 1] rfl (by decide) 0 rfl hl.1 rfl rfl (Nat.le_of_ble_eq_true rfl) ⟨Nat.le_of_ble_eq_true rfl, Nat.le_of_ble_eq_true rfl⟩ ⟨Nat.zero_le _, Nat.zero_le _⟩ dX8_wordFrom_112) rfl (fun H locs hw => ?_)
          refine xb_eq (tgt := 135) hx hb dX8_wordFrom_115 (by decide) (fun c_101 => ?_) (fun c_101 => ?_)
          · refine lv_iconst (v := 0) hx hb dX8_wordFrom_135 (by decide) ?_
            refine lv_istore_n (lv' := [(3, .int 0), (2, .int (nI (p - f))), (0, .ref (o 0)), (1, .int (nI f))]) hx hb dX8_wordFrom_136 rfl hl (by decide) rfl (fun ls hl => ?_)
            refine lv_aload_n hx hb dX8_wordFrom_137 rfl (lv_at hl 2 rfl) ?_
            refine lv_iload_n hx hb dX8_wordFrom_138 rfl (lv_at hl 3 rfl) ?_
            refine lv_bipush (v := 98) hx hb dX8_wordFrom_139 (by decide) ?_
            refine lv_bipush (v := 114) hx hb dX8_wordFrom_141 (by decide) ?_
            refine lv_bipush (v := 97) hx hb dX8_wordFrom_143 (by decide) ?_
            refine lv_bipush (v := 107) hx hb dX8_wordFrom_145 (by decide) ?_
            refine x_goR (st1 := [.int (bI (spR tx f p 98 114 97 107))]) E hw [0, 1] rfl (x_runV (rest := []) E hw (c_X8_spells l g o hs bads nos fuls cau whe cnt p fau isw ods tx f 98 114 97 107 (by omega) (by omega)) km_X8_155 kv_X8_spells [0, 1] rfl (by decide) 0 rfl hl.1 rfl rfl (Nat.le_of_ble_eq_true rfl) ⟨Nat.le_of_ble_eq_true rfl, Nat.le_of_ble_eq_true rfl⟩ ⟨Nat.zero_le _, Nat.zero_le _⟩ dX8_wordFrom_147) rfl (fun H locs hw => ?_)
            refine xb_eq (tgt := 170) hx hb dX8_wordFrom_150 (by decide) (fun c_102 => ?_) (fun c_102 => ?_)
            · refine lv_iconst (v := 0) hx hb dX8_wordFrom_170 (by decide) ?_
              refine lv_istore (lv' := [(4, .int 0), (3, .int 0), (2, .int (nI (p - f))), (0, .ref (o 0)), (1, .int (nI f))]) hx hb dX8_wordFrom_171 hl (by decide) rfl (fun ls hl => ?_)
              refine lv_aload_n hx hb dX8_wordFrom_173 rfl (lv_at hl 3 rfl) ?_
              refine lv_iload_n hx hb dX8_wordFrom_174 rfl (lv_at hl 4 rfl) ?_
              refine lv_bipush (v := 101) hx hb dX8_wordFrom_175 (by decide) ?_
              refine lv_bipush (v := 114) hx hb dX8_wordFrom_177 (by decide) ?_
              refine lv_bipush (v := 114) hx hb dX8_wordFrom_179 (by decide) ?_
              refine lv_bipush (v := 111) hx hb dX8_wordFrom_181 (by decide) ?_
              refine x_goR (st1 := [.int (bI (spR tx f p 101 114 114 111))]) E hw [0, 1] rfl (x_runV (rest := []) E hw (c_X8_spells l g o hs bads nos fuls cau whe cnt p fau isw ods tx f 101 114 114 111 (by omega) (by omega)) km_X8_155 kv_X8_spells [0, 1] rfl (by decide) 0 rfl hl.1 rfl rfl (Nat.le_of_ble_eq_true rfl) ⟨Nat.le_of_ble_eq_true rfl, Nat.le_of_ble_eq_true rfl⟩ ⟨Nat.zero_le _, Nat.zero_le _⟩ dX8_wordFrom_183) rfl (fun H locs hw => ?_)
              refine xb_eq (tgt := 206) hx hb dX8_wordFrom_186 (by decide) (fun c_103 => ?_) (fun c_103 => ?_)
              · refine lv_iconst (v := 0) hx hb dX8_wordFrom_206 (by decide) ?_
                refine lv_istore (lv' := [(5, .int 0), (4, .int 0), (3, .int 0), (2, .int (nI (p - f))), (0, .ref (o 0)), (1, .int (nI f))]) hx hb dX8_wordFrom_207 hl (by decide) rfl (fun ls hl => ?_)
                refine lv_iload_n hx hb dX8_wordFrom_209 rfl (lv_at hl 2 rfl) ?_
                refine lv_if_eq (tgt := 217) hx hb dX8_wordFrom_210 (by decide) (fun _ => ?_) (fun h => absurd h (by decide))
                refine lv_iload hx hb dX8_wordFrom_217 (lv_at hl 1 rfl) ?_
                refine lv_if_eq (tgt := 226) hx hb dX8_wordFrom_219 (by decide) (fun _ => ?_) (fun h => absurd h (by decide))
                refine lv_iload hx hb dX8_wordFrom_226 (lv_at hl 0 rfl) ?_
                refine lv_if_eq (tgt := 236) hx hb dX8_wordFrom_228 (by decide) (fun _ => ?_) (fun h => absurd h (by decide))
                refine lv_iconst (v := -1) hx hb dX8_wordFrom_236 (by decide) ?_
                exact xr_i hQ E hr hw dX8_wordFrom_237 ⟨congrArg (fun z => some (Value.int z)) (by first | (simp only [wdR, if_pos c_1, if_neg c_94, if_neg c_95, if_pos c_96, if_neg c_101, if_neg c_102, if_neg c_103]; done) | contradiction), rfl⟩
              · refine lv_aload_n hx hb dX8_wordFrom_189 rfl (lv_at hl 3 rfl) ?_
                refine x_get E hw kf_X8_23 0 rfl rfl dX8_wordFrom_190 ?_
                refine lv_iload_n hx hb dX8_wordFrom_193 rfl (lv_at hl 4 rfl) ?_
                refine lv_iconst (v := 4) hx hb dX8_wordFrom_194 (by decide) ?_
                refine xn_add hx hb f 4 rfl rfl dX8_wordFrom_195 ?_
                refine x_ld (v := tx (f + 4)) E hw 1 rfl (f + 4) rfl (by omega) (by decide) rfl dX8_wordFrom_196 ?_
                refine lv_bipush (v := 114) hx hb dX8_wordFrom_197 (by decide) ?_
                refine lv_icmp_ne (tgt := 206) hx hb dX8_wordFrom_199 (by decide) (fun c_107 => ?_) (fun c_107 => ?_)
                · refine lv_iconst (v := 0) hx hb dX8_wordFrom_206 (by decide) ?_
                  refine lv_istore (lv' := [(5, .int 0), (4, .int 0), (3, .int 0), (2, .int (nI (p - f))), (0, .ref (o 0)), (1, .int (nI f))]) hx hb dX8_wordFrom_207 hl (by decide) rfl (fun ls hl => ?_)
                  refine lv_iload_n hx hb dX8_wordFrom_209 rfl (lv_at hl 2 rfl) ?_
                  refine lv_if_eq (tgt := 217) hx hb dX8_wordFrom_210 (by decide) (fun _ => ?_) (fun h => absurd h (by decide))
                  refine lv_iload hx hb dX8_wordFrom_217 (lv_at hl 1 rfl) ?_
                  refine lv_if_eq (tgt := 226) hx hb dX8_wordFrom_219 (by decide) (fun _ => ?_) (fun h => absurd h (by decide))
                  refine lv_iload hx hb dX8_wordFrom_226 (lv_at hl 0 rfl) ?_
                  refine lv_if_eq (tgt := 236) hx hb dX8_wordFrom_228 (by decide) (fun _ => ?_) (fun h => absurd h (by decide))
                  refine lv_iconst (v := -1) hx hb dX8_wordFrom_236 (by decide) ?_
                  exact xr_i hQ E hr hw dX8_wordFrom_237 ⟨congrArg (fun z => some (Value.int z)) (by first | (simp only [wdR, if_pos c_1, if_neg c_94, if_neg c_95, if_pos c_96, if_neg c_101, if_neg c_102, if_pos c_103, if_neg c_107]; done) | contradiction), rfl⟩
                · refine lv_iconst (v := 1) hx hb dX8_wordFrom_202 (by decide) ?_
                  refine lv_goto (tgt := 207) hx hb dX8_wordFrom_203 (by decide) ?_
                  refine lv_istore (lv' := [(5, .int 1), (4, .int 0), (3, .int 0), (2, .int (nI (p - f))), (0, .ref (o 0)), (1, .int (nI f))]) hx hb dX8_wordFrom_207 hl (by decide) rfl (fun ls hl => ?_)
                  refine lv_iload_n hx hb dX8_wordFrom_209 rfl (lv_at hl 2 rfl) ?_
                  refine lv_if_eq (tgt := 217) hx hb dX8_wordFrom_210 (by decide) (fun _ => ?_) (fun h => absurd h (by decide))
                  refine lv_iload hx hb dX8_wordFrom_217 (lv_at hl 1 rfl) ?_
                  refine lv_if_eq (tgt := 226) hx hb dX8_wordFrom_219 (by decide) (fun _ => ?_) (fun h => absurd h (by decide))
                  refine lv_iload hx hb dX8_wordFrom_226 (lv_at hl 0 rfl) ?_
                  refine lv_if_eq (tgt := 236) hx hb dX8_wordFrom_228 (by decide) (fun h => absurd h (by decide)) (fun _ => ?_)
                  refine lv_bipush (v := 7) hx hb dX8_wordFrom_231 (by decide) ?_
                  refine lv_goto (tgt := 237) hx hb dX8_wordFrom_233 (by decide) ?_
                  exact xr_i hQ E hr hw dX8_wordFrom_237 ⟨congrArg (fun z => some (Value.int z)) (by first | (simp only [wdR, if_pos c_1, if_neg c_94, if_neg c_95, if_pos c_96, if_neg c_101, if_neg c_102, if_pos c_103, if_pos c_107]; done) | contradiction), rfl⟩
            · refine lv_aload_n hx hb dX8_wordFrom_153 rfl (lv_at hl 2 rfl) ?_
              refine x_get E hw kf_X8_23 0 rfl rfl dX8_wordFrom_154 ?_
              refine lv_iload_n hx hb dX8_wordFrom_157 rfl (lv_at hl 3 rfl) ?_
              refine lv_iconst (v := 4) hx hb dX8_wordFrom_158 (by decide) ?_
              refine xn_add hx hb f 4 rfl rfl dX8_wordFrom_159 ?_
              refine x_ld (v := tx (f + 4)) E hw 1 rfl (f + 4) rfl (by omega) (by decide) rfl dX8_wordFrom_160 ?_
              refine lv_bipush (v := 101) hx hb dX8_wordFrom_161 (by decide) ?_
              refine lv_icmp_ne (tgt := 170) hx hb dX8_wordFrom_163 (by decide) (fun c_114 => ?_) (fun c_114 => ?_)
              · refine lv_iconst (v := 0) hx hb dX8_wordFrom_170 (by decide) ?_
                refine lv_istore (lv' := [(4, .int 0), (3, .int 0), (2, .int (nI (p - f))), (0, .ref (o 0)), (1, .int (nI f))]) hx hb dX8_wordFrom_171 hl (by decide) rfl (fun ls hl => ?_)
                refine lv_aload_n hx hb dX8_wordFrom_173 rfl (lv_at hl 3 rfl) ?_
                refine lv_iload_n hx hb dX8_wordFrom_174 rfl (lv_at hl 4 rfl) ?_
                refine lv_bipush (v := 101) hx hb dX8_wordFrom_175 (by decide) ?_
                refine lv_bipush (v := 114) hx hb dX8_wordFrom_177 (by decide) ?_
                refine lv_bipush (v := 114) hx hb dX8_wordFrom_179 (by decide) ?_
                refine lv_bipush (v := 111) hx hb dX8_wordFrom_181 (by decide) ?_
                refine x_goR (st1 := [.int (bI (spR tx f p 101 114 114 111))]) E hw [0, 1] rfl (x_runV (rest := []) E hw (c_X8_spells l g o hs bads nos fuls cau whe cnt p fau isw ods tx f 101 114 114 111 (by omega) (by omega)) km_X8_155 kv_X8_spells [0, 1] rfl (by decide) 0 rfl hl.1 rfl rfl (Nat.le_of_ble_eq_true rfl) ⟨Nat.le_of_ble_eq_true rfl, Nat.le_of_ble_eq_true rfl⟩ ⟨Nat.zero_le _, Nat.zero_le _⟩ dX8_wordFrom_183) rfl (fun H locs hw => ?_)
                refine xb_eq (tgt := 206) hx hb dX8_wordFrom_186 (by decide) (fun c_115 => ?_) (fun c_115 => ?_)
                · refine lv_iconst (v := 0) hx hb dX8_wordFrom_206 (by decide) ?_
                  refine lv_istore (lv' := [(5, .int 0), (4, .int 0), (3, .int 0), (2, .int (nI (p - f))), (0, .ref (o 0)), (1, .int (nI f))]) hx hb dX8_wordFrom_207 hl (by decide) rfl (fun ls hl => ?_)
                  refine lv_iload_n hx hb dX8_wordFrom_209 rfl (lv_at hl 2 rfl) ?_
                  refine lv_if_eq (tgt := 217) hx hb dX8_wordFrom_210 (by decide) (fun _ => ?_) (fun h => absurd h (by decide))
                  refine lv_iload hx hb dX8_wordFrom_217 (lv_at hl 1 rfl) ?_
                  refine lv_if_eq (tgt := 226) hx hb dX8_wordFrom_219 (by decide) (fun _ => ?_) (fun h => absurd h (by decide))
                  refine lv_iload hx hb dX8_wordFrom_226 (lv_at hl 0 rfl) ?_
                  refine lv_if_eq (tgt := 236) hx hb dX8_wordFrom_228 (by decide) (fun _ => ?_) (fun h => absurd h (by decide))
                  refine lv_iconst (v := -1) hx hb dX8_wordFrom_236 (by decide) ?_
                  exact xr_i hQ E hr hw dX8_wordFrom_237 ⟨congrArg (fun z => some (Value.int z)) (by first | (simp only [wdR, if_pos c_1, if_neg c_94, if_neg c_95, if_pos c_96, if_neg c_101, if_pos c_102, if_neg c_114, if_neg c_115]; done) | contradiction), rfl⟩
                · refine lv_aload_n hx hb dX8_wordFrom_189 rfl (lv_at hl 3 rfl) ?_
                  refine x_get E hw kf_X8_23 0 rfl rfl dX8_wordFrom_190 ?_
                  refine lv_iload_n hx hb dX8_wordFrom_193 rfl (lv_at hl 4 rfl) ?_
                  refine lv_iconst (v := 4) hx hb dX8_wordFrom_194 (by decide) ?_
                  refine xn_add hx hb f 4 rfl rfl dX8_wordFrom_195 ?_
                  refine x_ld (v := tx (f + 4)) E hw 1 rfl (f + 4) rfl (by omega) (by decide) rfl dX8_wordFrom_196 ?_
                  refine lv_bipush (v := 114) hx hb dX8_wordFrom_197 (by decide) ?_
                  refine lv_icmp_ne (tgt := 206) hx hb dX8_wordFrom_199 (by decide) (fun c_119 => ?_) (fun c_119 => ?_)
                  · refine lv_iconst (v := 0) hx hb dX8_wordFrom_206 (by decide) ?_
                    refine lv_istore (lv' := [(5, .int 0), (4, .int 0), (3, .int 0), (2, .int (nI (p - f))), (0, .ref (o 0)), (1, .int (nI f))]) hx hb dX8_wordFrom_207 hl (by decide) rfl (fun ls hl => ?_)
                    refine lv_iload_n hx hb dX8_wordFrom_209 rfl (lv_at hl 2 rfl) ?_
                    refine lv_if_eq (tgt := 217) hx hb dX8_wordFrom_210 (by decide) (fun _ => ?_) (fun h => absurd h (by decide))
                    refine lv_iload hx hb dX8_wordFrom_217 (lv_at hl 1 rfl) ?_
                    refine lv_if_eq (tgt := 226) hx hb dX8_wordFrom_219 (by decide) (fun _ => ?_) (fun h => absurd h (by decide))
                    refine lv_iload hx hb dX8_wordFrom_226 (lv_at hl 0 rfl) ?_
                    refine lv_if_eq (tgt := 236) hx hb dX8_wordFrom_228 (by decide) (fun _ => ?_) (fun h => absurd h (by decide))
                    refine lv_iconst (v := -1) hx hb dX8_wordFrom_236 (by decide) ?_
                    exact xr_i hQ E hr hw dX8_wordFrom_237 ⟨congrArg (fun z => some (Value.int z)) (by first | (simp only [wdR, if_pos c_1, if_neg c_94, if_neg c_95, if_pos c_96, if_neg c_101, if_pos c_102, if_neg c_114, if_pos c_115, if_neg c_119]; done) | contradiction), rfl⟩
                  · refine lv_iconst (v := 1) hx hb dX8_wordFrom_202 (by decide) ?_
                    refine lv_goto (tgt := 207) hx hb dX8_wordFrom_203 (by decide) ?_
                    refine lv_istore (lv' := [(5, .int 1), (4, .int 0), (3, .int 0), (2, .int (nI (p - f))), (0, .ref (o 0)), (1, .int (nI f))]) hx hb dX8_wordFrom_207 hl (by decide) rfl (fun ls hl => ?_)
                    refine lv_iload_n hx hb dX8_wordFrom_209 rfl (lv_at hl 2 rfl) ?_
                    refine lv_if_eq (tgt := 217) hx hb dX8_wordFrom_210 (by decide) (fun _ => ?_) (fun h => absurd h (by decide))
                    refine lv_iload hx hb dX8_wordFrom_217 (lv_at hl 1 rfl) ?_
                    refine lv_if_eq (tgt := 226) hx hb dX8_wordFrom_219 (by decide) (fun _ => ?_) (fun h => absurd h (by decide))
                    refine lv_iload hx hb dX8_wordFrom_226 (lv_at hl 0 rfl) ?_
                    refine lv_if_eq (tgt := 236) hx hb dX8_wordFrom_228 (by decide) (fun h => absurd h (by decide)) (fun _ => ?_)
                    refine lv_bipush (v := 7) hx hb dX8_wordFrom_231 (by decide) ?_
                    refine lv_goto (tgt := 237) hx hb dX8_wordFrom_233 (by decide) ?_
                    exact xr_i hQ E hr hw dX8_wordFrom_237 ⟨congrArg (fun z => some (Value.int z)) (by first | (simp only [wdR, if_pos c_1, if_neg c_94, if_neg c_95, if_pos c_96, if_neg c_101, if_pos c_102, if_neg c_114, if_pos c_115, if_pos c_119]; done) | contradiction), rfl⟩
              · refine lv_iconst (v := 1) hx hb dX8_wordFrom_166 (by decide) ?_
                refine lv_goto (tgt := 171) hx hb dX8_wordFrom_167 (by decide) ?_
                refine lv_istore (lv' := [(4, .int 1), (3, .int 0), (2, .int (nI (p - f))), (0, .ref (o 0)), (1, .int (nI f))]) hx hb dX8_wordFrom_171 hl (by decide) rfl (fun ls hl => ?_)
                refine lv_aload_n hx hb dX8_wordFrom_173 rfl (lv_at hl 3 rfl) ?_
                refine lv_iload_n hx hb dX8_wordFrom_174 rfl (lv_at hl 4 rfl) ?_
                refine lv_bipush (v := 101) hx hb dX8_wordFrom_175 (by decide) ?_
                refine lv_bipush (v := 114) hx hb dX8_wordFrom_177 (by decide) ?_
                refine lv_bipush (v := 114) hx hb dX8_wordFrom_179 (by decide) ?_
                refine lv_bipush (v := 111) hx hb dX8_wordFrom_181 (by decide) ?_
                refine x_goR (st1 := [.int (bI (spR tx f p 101 114 114 111))]) E hw [0, 1] rfl (x_runV (rest := []) E hw (c_X8_spells l g o hs bads nos fuls cau whe cnt p fau isw ods tx f 101 114 114 111 (by omega) (by omega)) km_X8_155 kv_X8_spells [0, 1] rfl (by decide) 0 rfl hl.1 rfl rfl (Nat.le_of_ble_eq_true rfl) ⟨Nat.le_of_ble_eq_true rfl, Nat.le_of_ble_eq_true rfl⟩ ⟨Nat.zero_le _, Nat.zero_le _⟩ dX8_wordFrom_183) rfl (fun H locs hw => ?_)
                refine xb_eq (tgt := 206) hx hb dX8_wordFrom_186 (by decide) (fun c_126 => ?_) (fun c_126 => ?_)
                · refine lv_iconst (v := 0) hx hb dX8_wordFrom_206 (by decide) ?_
                  refine lv_istore (lv' := [(5, .int 0), (4, .int 1), (3, .int 0), (2, .int (nI (p - f))), (0, .ref (o 0)), (1, .int (nI f))]) hx hb dX8_wordFrom_207 hl (by decide) rfl (fun ls hl => ?_)
                  refine lv_iload_n hx hb dX8_wordFrom_209 rfl (lv_at hl 2 rfl) ?_
                  refine lv_if_eq (tgt := 217) hx hb dX8_wordFrom_210 (by decide) (fun _ => ?_) (fun h => absurd h (by decide))
                  refine lv_iload hx hb dX8_wordFrom_217 (lv_at hl 1 rfl) ?_
                  refine lv_if_eq (tgt := 226) hx hb dX8_wordFrom_219 (by decide) (fun h => absurd h (by decide)) (fun _ => ?_)
                  refine lv_iconst (v := 4) hx hb dX8_wordFrom_222 (by decide) ?_
                  refine lv_goto (tgt := 237) hx hb dX8_wordFrom_223 (by decide) ?_
                  exact xr_i hQ E hr hw dX8_wordFrom_237 ⟨congrArg (fun z => some (Value.int z)) (by first | (simp only [wdR, if_pos c_1, if_neg c_94, if_neg c_95, if_pos c_96, if_neg c_101, if_pos c_102, if_pos c_114, if_neg c_126]; done) | contradiction), rfl⟩
                · refine lv_aload_n hx hb dX8_wordFrom_189 rfl (lv_at hl 3 rfl) ?_
                  refine x_get E hw kf_X8_23 0 rfl rfl dX8_wordFrom_190 ?_
                  refine lv_iload_n hx hb dX8_wordFrom_193 rfl (lv_at hl 4 rfl) ?_
                  refine lv_iconst (v := 4) hx hb dX8_wordFrom_194 (by decide) ?_
                  refine xn_add hx hb f 4 rfl rfl dX8_wordFrom_195 ?_
                  refine x_ld (v := tx (f + 4)) E hw 1 rfl (f + 4) rfl (by omega) (by decide) rfl dX8_wordFrom_196 ?_
                  refine lv_bipush (v := 114) hx hb dX8_wordFrom_197 (by decide) ?_
                  refine lv_icmp_ne (tgt := 206) hx hb dX8_wordFrom_199 (by decide) (fun c_129 => ?_) (fun c_129 => ?_)
                  · refine lv_iconst (v := 0) hx hb dX8_wordFrom_206 (by decide) ?_
                    refine lv_istore (lv' := [(5, .int 0), (4, .int 1), (3, .int 0), (2, .int (nI (p - f))), (0, .ref (o 0)), (1, .int (nI f))]) hx hb dX8_wordFrom_207 hl (by decide) rfl (fun ls hl => ?_)
                    refine lv_iload_n hx hb dX8_wordFrom_209 rfl (lv_at hl 2 rfl) ?_
                    refine lv_if_eq (tgt := 217) hx hb dX8_wordFrom_210 (by decide) (fun _ => ?_) (fun h => absurd h (by decide))
                    refine lv_iload hx hb dX8_wordFrom_217 (lv_at hl 1 rfl) ?_
                    refine lv_if_eq (tgt := 226) hx hb dX8_wordFrom_219 (by decide) (fun h => absurd h (by decide)) (fun _ => ?_)
                    refine lv_iconst (v := 4) hx hb dX8_wordFrom_222 (by decide) ?_
                    refine lv_goto (tgt := 237) hx hb dX8_wordFrom_223 (by decide) ?_
                    exact xr_i hQ E hr hw dX8_wordFrom_237 ⟨congrArg (fun z => some (Value.int z)) (by first | (simp only [wdR, if_pos c_1, if_neg c_94, if_neg c_95, if_pos c_96, if_neg c_101, if_pos c_102, if_pos c_114, if_pos c_126, if_neg c_129]; done) | contradiction), rfl⟩
                  · refine lv_iconst (v := 1) hx hb dX8_wordFrom_202 (by decide) ?_
                    refine lv_goto (tgt := 207) hx hb dX8_wordFrom_203 (by decide) ?_
                    refine lv_istore (lv' := [(5, .int 1), (4, .int 1), (3, .int 0), (2, .int (nI (p - f))), (0, .ref (o 0)), (1, .int (nI f))]) hx hb dX8_wordFrom_207 hl (by decide) rfl (fun ls hl => ?_)
                    refine lv_iload_n hx hb dX8_wordFrom_209 rfl (lv_at hl 2 rfl) ?_
                    refine lv_if_eq (tgt := 217) hx hb dX8_wordFrom_210 (by decide) (fun _ => ?_) (fun h => absurd h (by decide))
                    refine lv_iload hx hb dX8_wordFrom_217 (lv_at hl 1 rfl) ?_
                    refine lv_if_eq (tgt := 226) hx hb dX8_wordFrom_219 (by decide) (fun h => absurd h (by decide)) (fun _ => ?_)
                    refine lv_iconst (v := 4) hx hb dX8_wordFrom_222 (by decide) ?_
                    refine lv_goto (tgt := 237) hx hb dX8_wordFrom_223 (by decide) ?_
                    exact xr_i hQ E hr hw dX8_wordFrom_237 ⟨congrArg (fun z => some (Value.int z)) (by first | (simp only [wdR, if_pos c_1, if_neg c_94, if_neg c_95, if_pos c_96, if_neg c_101, if_pos c_102, if_pos c_114, if_pos c_126, if_pos c_129]; done) | contradiction), rfl⟩
          · refine lv_aload_n hx hb dX8_wordFrom_118 rfl (lv_at hl 1 rfl) ?_
            refine x_get E hw kf_X8_23 0 rfl rfl dX8_wordFrom_119 ?_
            refine lv_iload_n hx hb dX8_wordFrom_122 rfl (lv_at hl 2 rfl) ?_
            refine lv_iconst (v := 4) hx hb dX8_wordFrom_123 (by decide) ?_
            refine xn_add hx hb f 4 rfl rfl dX8_wordFrom_124 ?_
            refine x_ld (v := tx (f + 4)) E hw 1 rfl (f + 4) rfl (by omega) (by decide) rfl dX8_wordFrom_125 ?_
            refine lv_bipush (v := 101) hx hb dX8_wordFrom_126 (by decide) ?_
            refine lv_icmp_ne (tgt := 135) hx hb dX8_wordFrom_128 (by decide) (fun c_134 => ?_) (fun c_134 => ?_)
            · refine lv_iconst (v := 0) hx hb dX8_wordFrom_135 (by decide) ?_
              refine lv_istore_n (lv' := [(3, .int 0), (2, .int (nI (p - f))), (0, .ref (o 0)), (1, .int (nI f))]) hx hb dX8_wordFrom_136 rfl hl (by decide) rfl (fun ls hl => ?_)
              refine lv_aload_n hx hb dX8_wordFrom_137 rfl (lv_at hl 2 rfl) ?_
              refine lv_iload_n hx hb dX8_wordFrom_138 rfl (lv_at hl 3 rfl) ?_
              refine lv_bipush (v := 98) hx hb dX8_wordFrom_139 (by decide) ?_
              refine lv_bipush (v := 114) hx hb dX8_wordFrom_141 (by decide) ?_
              refine lv_bipush (v := 97) hx hb dX8_wordFrom_143 (by decide) ?_
              refine lv_bipush (v := 107) hx hb dX8_wordFrom_145 (by decide) ?_
              refine x_goR (st1 := [.int (bI (spR tx f p 98 114 97 107))]) E hw [0, 1] rfl (x_runV (rest := []) E hw (c_X8_spells l g o hs bads nos fuls cau whe cnt p fau isw ods tx f 98 114 97 107 (by omega) (by omega)) km_X8_155 kv_X8_spells [0, 1] rfl (by decide) 0 rfl hl.1 rfl rfl (Nat.le_of_ble_eq_true rfl) ⟨Nat.le_of_ble_eq_true rfl, Nat.le_of_ble_eq_true rfl⟩ ⟨Nat.zero_le _, Nat.zero_le _⟩ dX8_wordFrom_147) rfl (fun H locs hw => ?_)
              refine xb_eq (tgt := 170) hx hb dX8_wordFrom_150 (by decide) (fun c_135 => ?_) (fun c_135 => ?_)
              · refine lv_iconst (v := 0) hx hb dX8_wordFrom_170 (by decide) ?_
                refine lv_istore (lv' := [(4, .int 0), (3, .int 0), (2, .int (nI (p - f))), (0, .ref (o 0)), (1, .int (nI f))]) hx hb dX8_wordFrom_171 hl (by decide) rfl (fun ls hl => ?_)
                refine lv_aload_n hx hb dX8_wordFrom_173 rfl (lv_at hl 3 rfl) ?_
                refine lv_iload_n hx hb dX8_wordFrom_174 rfl (lv_at hl 4 rfl) ?_
                refine lv_bipush (v := 101) hx hb dX8_wordFrom_175 (by decide) ?_
                refine lv_bipush (v := 114) hx hb dX8_wordFrom_177 (by decide) ?_
                refine lv_bipush (v := 114) hx hb dX8_wordFrom_179 (by decide) ?_
                refine lv_bipush (v := 111) hx hb dX8_wordFrom_181 (by decide) ?_
                refine x_goR (st1 := [.int (bI (spR tx f p 101 114 114 111))]) E hw [0, 1] rfl (x_runV (rest := []) E hw (c_X8_spells l g o hs bads nos fuls cau whe cnt p fau isw ods tx f 101 114 114 111 (by omega) (by omega)) km_X8_155 kv_X8_spells [0, 1] rfl (by decide) 0 rfl hl.1 rfl rfl (Nat.le_of_ble_eq_true rfl) ⟨Nat.le_of_ble_eq_true rfl, Nat.le_of_ble_eq_true rfl⟩ ⟨Nat.zero_le _, Nat.zero_le _⟩ dX8_wordFrom_183) rfl (fun H locs hw => ?_)
                refine xb_eq (tgt := 206) hx hb dX8_wordFrom_186 (by decide) (fun c_136 => ?_) (fun c_136 => ?_)
                · refine lv_iconst (v := 0) hx hb dX8_wordFrom_206 (by decide) ?_
                  refine lv_istore (lv' := [(5, .int 0), (4, .int 0), (3, .int 0), (2, .int (nI (p - f))), (0, .ref (o 0)), (1, .int (nI f))]) hx hb dX8_wordFrom_207 hl (by decide) rfl (fun ls hl => ?_)
                  refine lv_iload_n hx hb dX8_wordFrom_209 rfl (lv_at hl 2 rfl) ?_
                  refine lv_if_eq (tgt := 217) hx hb dX8_wordFrom_210 (by decide) (fun _ => ?_) (fun h => absurd h (by decide))
                  refine lv_iload hx hb dX8_wordFrom_217 (lv_at hl 1 rfl) ?_
                  refine lv_if_eq (tgt := 226) hx hb dX8_wordFrom_219 (by decide) (fun _ => ?_) (fun h => absurd h (by decide))
                  refine lv_iload hx hb dX8_wordFrom_226 (lv_at hl 0 rfl) ?_
                  refine lv_if_eq (tgt := 236) hx hb dX8_wordFrom_228 (by decide) (fun _ => ?_) (fun h => absurd h (by decide))
                  refine lv_iconst (v := -1) hx hb dX8_wordFrom_236 (by decide) ?_
                  exact xr_i hQ E hr hw dX8_wordFrom_237 ⟨congrArg (fun z => some (Value.int z)) (by first | (simp only [wdR, if_pos c_1, if_neg c_94, if_neg c_95, if_pos c_96, if_pos c_101, if_neg c_134, if_neg c_135, if_neg c_136]; done) | contradiction), rfl⟩
                · refine lv_aload_n hx hb dX8_wordFrom_189 rfl (lv_at hl 3 rfl) ?_
                  refine x_get E hw kf_X8_23 0 rfl rfl dX8_wordFrom_190 ?_
                  refine lv_iload_n hx hb dX8_wordFrom_193 rfl (lv_at hl 4 rfl) ?_
                  refine lv_iconst (v := 4) hx hb dX8_wordFrom_194 (by decide) ?_
                  refine xn_add hx hb f 4 rfl rfl dX8_wordFrom_195 ?_
                  refine x_ld (v := tx (f + 4)) E hw 1 rfl (f + 4) rfl (by omega) (by decide) rfl dX8_wordFrom_196 ?_
                  refine lv_bipush (v := 114) hx hb dX8_wordFrom_197 (by decide) ?_
                  refine lv_icmp_ne (tgt := 206) hx hb dX8_wordFrom_199 (by decide) (fun c_140 => ?_) (fun c_140 => ?_)
                  · refine lv_iconst (v := 0) hx hb dX8_wordFrom_206 (by decide) ?_
                    refine lv_istore (lv' := [(5, .int 0), (4, .int 0), (3, .int 0), (2, .int (nI (p - f))), (0, .ref (o 0)), (1, .int (nI f))]) hx hb dX8_wordFrom_207 hl (by decide) rfl (fun ls hl => ?_)
                    refine lv_iload_n hx hb dX8_wordFrom_209 rfl (lv_at hl 2 rfl) ?_
                    refine lv_if_eq (tgt := 217) hx hb dX8_wordFrom_210 (by decide) (fun _ => ?_) (fun h => absurd h (by decide))
                    refine lv_iload hx hb dX8_wordFrom_217 (lv_at hl 1 rfl) ?_
                    refine lv_if_eq (tgt := 226) hx hb dX8_wordFrom_219 (by decide) (fun _ => ?_) (fun h => absurd h (by decide))
                    refine lv_iload hx hb dX8_wordFrom_226 (lv_at hl 0 rfl) ?_
                    refine lv_if_eq (tgt := 236) hx hb dX8_wordFrom_228 (by decide) (fun _ => ?_) (fun h => absurd h (by decide))
                    refine lv_iconst (v := -1) hx hb dX8_wordFrom_236 (by decide) ?_
                    exact xr_i hQ E hr hw dX8_wordFrom_237 ⟨congrArg (fun z => some (Value.int z)) (by first | (simp only [wdR, if_pos c_1, if_neg c_94, if_neg c_95, if_pos c_96, if_pos c_101, if_neg c_134, if_neg c_135, if_pos c_136, if_neg c_140]; done) | contradiction), rfl⟩
                  · refine lv_iconst (v := 1) hx hb dX8_wordFrom_202 (by decide) ?_
                    refine lv_goto (tgt := 207) hx hb dX8_wordFrom_203 (by decide) ?_
                    refine lv_istore (lv' := [(5, .int 1), (4, .int 0), (3, .int 0), (2, .int (nI (p - f))), (0, .ref (o 0)), (1, .int (nI f))]) hx hb dX8_wordFrom_207 hl (by decide) rfl (fun ls hl => ?_)
                    refine lv_iload_n hx hb dX8_wordFrom_209 rfl (lv_at hl 2 rfl) ?_
                    refine lv_if_eq (tgt := 217) hx hb dX8_wordFrom_210 (by decide) (fun _ => ?_) (fun h => absurd h (by decide))
                    refine lv_iload hx hb dX8_wordFrom_217 (lv_at hl 1 rfl) ?_
                    refine lv_if_eq (tgt := 226) hx hb dX8_wordFrom_219 (by decide) (fun _ => ?_) (fun h => absurd h (by decide))
                    refine lv_iload hx hb dX8_wordFrom_226 (lv_at hl 0 rfl) ?_
                    refine lv_if_eq (tgt := 236) hx hb dX8_wordFrom_228 (by decide) (fun h => absurd h (by decide)) (fun _ => ?_)
                    refine lv_bipush (v := 7) hx hb dX8_wordFrom_231 (by decide) ?_
                    refine lv_goto (tgt := 237) hx hb dX8_wordFrom_233 (by decide) ?_
                    exact xr_i hQ E hr hw dX8_wordFrom_237 ⟨congrArg (fun z => some (Value.int z)) (by first | (simp only [wdR, if_pos c_1, if_neg c_94, if_neg c_95, if_pos c_96, if_pos c_101, if_neg c_134, if_neg c_135, if_pos c_136, if_pos c_140]; done) | contradiction), rfl⟩
              · refine lv_aload_n hx hb dX8_wordFrom_153 rfl (lv_at hl 2 rfl) ?_
                refine x_get E hw kf_X8_23 0 rfl rfl dX8_wordFrom_154 ?_
                refine lv_iload_n hx hb dX8_wordFrom_157 rfl (lv_at hl 3 rfl) ?_
                refine lv_iconst (v := 4) hx hb dX8_wordFrom_158 (by decide) ?_
                refine xn_add hx hb f 4 rfl rfl dX8_wordFrom_159 ?_
                refine x_ld (v := tx (f + 4)) E hw 1 rfl (f + 4) rfl (by omega) (by decide) rfl dX8_wordFrom_160 ?_
                refine lv_bipush (v := 101) hx hb dX8_wordFrom_161 (by decide) ?_
                refine lv_icmp_ne (tgt := 170) hx hb dX8_wordFrom_163 (by decide) (fun c_147 => ?_) (fun c_147 => ?_)
                · refine lv_iconst (v := 0) hx hb dX8_wordFrom_170 (by decide) ?_
                  refine lv_istore (lv' := [(4, .int 0), (3, .int 0), (2, .int (nI (p - f))), (0, .ref (o 0)), (1, .int (nI f))]) hx hb dX8_wordFrom_171 hl (by decide) rfl (fun ls hl => ?_)
                  refine lv_aload_n hx hb dX8_wordFrom_173 rfl (lv_at hl 3 rfl) ?_
                  refine lv_iload_n hx hb dX8_wordFrom_174 rfl (lv_at hl 4 rfl) ?_
                  refine lv_bipush (v := 101) hx hb dX8_wordFrom_175 (by decide) ?_
                  refine lv_bipush (v := 114) hx hb dX8_wordFrom_177 (by decide) ?_
                  refine lv_bipush (v := 114) hx hb dX8_wordFrom_179 (by decide) ?_
                  refine lv_bipush (v := 111) hx hb dX8_wordFrom_181 (by decide) ?_
                  refine x_goR (st1 := [.int (bI (spR tx f p 101 114 114 111))]) E hw [0, 1] rfl (x_runV (rest := []) E hw (c_X8_spells l g o hs bads nos fuls cau whe cnt p fau isw ods tx f 101 114 114 111 (by omega) (by omega)) km_X8_155 kv_X8_spells [0, 1] rfl (by decide) 0 rfl hl.1 rfl rfl (Nat.le_of_ble_eq_true rfl) ⟨Nat.le_of_ble_eq_true rfl, Nat.le_of_ble_eq_true rfl⟩ ⟨Nat.zero_le _, Nat.zero_le _⟩ dX8_wordFrom_183) rfl (fun H locs hw => ?_)
                  refine xb_eq (tgt := 206) hx hb dX8_wordFrom_186 (by decide) (fun c_148 => ?_) (fun c_148 => ?_)
                  · refine lv_iconst (v := 0) hx hb dX8_wordFrom_206 (by decide) ?_
                    refine lv_istore (lv' := [(5, .int 0), (4, .int 0), (3, .int 0), (2, .int (nI (p - f))), (0, .ref (o 0)), (1, .int (nI f))]) hx hb dX8_wordFrom_207 hl (by decide) rfl (fun ls hl => ?_)
                    refine lv_iload_n hx hb dX8_wordFrom_209 rfl (lv_at hl 2 rfl) ?_
                    refine lv_if_eq (tgt := 217) hx hb dX8_wordFrom_210 (by decide) (fun _ => ?_) (fun h => absurd h (by decide))
                    refine lv_iload hx hb dX8_wordFrom_217 (lv_at hl 1 rfl) ?_
                    refine lv_if_eq (tgt := 226) hx hb dX8_wordFrom_219 (by decide) (fun _ => ?_) (fun h => absurd h (by decide))
                    refine lv_iload hx hb dX8_wordFrom_226 (lv_at hl 0 rfl) ?_
                    refine lv_if_eq (tgt := 236) hx hb dX8_wordFrom_228 (by decide) (fun _ => ?_) (fun h => absurd h (by decide))
                    refine lv_iconst (v := -1) hx hb dX8_wordFrom_236 (by decide) ?_
                    exact xr_i hQ E hr hw dX8_wordFrom_237 ⟨congrArg (fun z => some (Value.int z)) (by first | (simp only [wdR, if_pos c_1, if_neg c_94, if_neg c_95, if_pos c_96, if_pos c_101, if_neg c_134, if_pos c_135, if_neg c_147, if_neg c_148]; done) | contradiction), rfl⟩
                  · refine lv_aload_n hx hb dX8_wordFrom_189 rfl (lv_at hl 3 rfl) ?_
                    refine x_get E hw kf_X8_23 0 rfl rfl dX8_wordFrom_190 ?_
                    refine lv_iload_n hx hb dX8_wordFrom_193 rfl (lv_at hl 4 rfl) ?_
                    refine lv_iconst (v := 4) hx hb dX8_wordFrom_194 (by decide) ?_
                    refine xn_add hx hb f 4 rfl rfl dX8_wordFrom_195 ?_
                    refine x_ld (v := tx (f + 4)) E hw 1 rfl (f + 4) rfl (by omega) (by decide) rfl dX8_wordFrom_196 ?_
                    refine lv_bipush (v := 114) hx hb dX8_wordFrom_197 (by decide) ?_
                    refine lv_icmp_ne (tgt := 206) hx hb dX8_wordFrom_199 (by decide) (fun c_152 => ?_) (fun c_152 => ?_)
                    · refine lv_iconst (v := 0) hx hb dX8_wordFrom_206 (by decide) ?_
                      refine lv_istore (lv' := [(5, .int 0), (4, .int 0), (3, .int 0), (2, .int (nI (p - f))), (0, .ref (o 0)), (1, .int (nI f))]) hx hb dX8_wordFrom_207 hl (by decide) rfl (fun ls hl => ?_)
                      refine lv_iload_n hx hb dX8_wordFrom_209 rfl (lv_at hl 2 rfl) ?_
                      refine lv_if_eq (tgt := 217) hx hb dX8_wordFrom_210 (by decide) (fun _ => ?_) (fun h => absurd h (by decide))
                      refine lv_iload hx hb dX8_wordFrom_217 (lv_at hl 1 rfl) ?_
                      refine lv_if_eq (tgt := 226) hx hb dX8_wordFrom_219 (by decide) (fun _ => ?_) (fun h => absurd h (by decide))
                      refine lv_iload hx hb dX8_wordFrom_226 (lv_at hl 0 rfl) ?_
                      refine lv_if_eq (tgt := 236) hx hb dX8_wordFrom_228 (by decide) (fun _ => ?_) (fun h => absurd h (by decide))
                      refine lv_iconst (v := -1) hx hb dX8_wordFrom_236 (by decide) ?_
                      exact xr_i hQ E hr hw dX8_wordFrom_237 ⟨congrArg (fun z => some (Value.int z)) (by first | (simp only [wdR, if_pos c_1, if_neg c_94, if_neg c_95, if_pos c_96, if_pos c_101, if_neg c_134, if_pos c_135, if_neg c_147, if_pos c_148, if_neg c_152]; done) | contradiction), rfl⟩
                    · refine lv_iconst (v := 1) hx hb dX8_wordFrom_202 (by decide) ?_
                      refine lv_goto (tgt := 207) hx hb dX8_wordFrom_203 (by decide) ?_
                      refine lv_istore (lv' := [(5, .int 1), (4, .int 0), (3, .int 0), (2, .int (nI (p - f))), (0, .ref (o 0)), (1, .int (nI f))]) hx hb dX8_wordFrom_207 hl (by decide) rfl (fun ls hl => ?_)
                      refine lv_iload_n hx hb dX8_wordFrom_209 rfl (lv_at hl 2 rfl) ?_
                      refine lv_if_eq (tgt := 217) hx hb dX8_wordFrom_210 (by decide) (fun _ => ?_) (fun h => absurd h (by decide))
                      refine lv_iload hx hb dX8_wordFrom_217 (lv_at hl 1 rfl) ?_
                      refine lv_if_eq (tgt := 226) hx hb dX8_wordFrom_219 (by decide) (fun _ => ?_) (fun h => absurd h (by decide))
                      refine lv_iload hx hb dX8_wordFrom_226 (lv_at hl 0 rfl) ?_
                      refine lv_if_eq (tgt := 236) hx hb dX8_wordFrom_228 (by decide) (fun h => absurd h (by decide)) (fun _ => ?_)
                      refine lv_bipush (v := 7) hx hb dX8_wordFrom_231 (by decide) ?_
                      refine lv_goto (tgt := 237) hx hb dX8_wordFrom_233 (by decide) ?_
                      exact xr_i hQ E hr hw dX8_wordFrom_237 ⟨congrArg (fun z => some (Value.int z)) (by first | (simp only [wdR, if_pos c_1, if_neg c_94, if_neg c_95, if_pos c_96, if_pos c_101, if_neg c_134, if_pos c_135, if_neg c_147, if_pos c_148, if_pos c_152]; done) | contradiction), rfl⟩
                · refine lv_iconst (v := 1) hx hb dX8_wordFrom_166 (by decide) ?_
                  refine lv_goto (tgt := 171) hx hb dX8_wordFrom_167 (by decide) ?_
                  refine lv_istore (lv' := [(4, .int 1), (3, .int 0), (2, .int (nI (p - f))), (0, .ref (o 0)), (1, .int (nI f))]) hx hb dX8_wordFrom_171 hl (by decide) rfl (fun ls hl => ?_)
                  refine lv_aload_n hx hb dX8_wordFrom_173 rfl (lv_at hl 3 rfl) ?_
                  refine lv_iload_n hx hb dX8_wordFrom_174 rfl (lv_at hl 4 rfl) ?_
                  refine lv_bipush (v := 101) hx hb dX8_wordFrom_175 (by decide) ?_
                  refine lv_bipush (v := 114) hx hb dX8_wordFrom_177 (by decide) ?_
                  refine lv_bipush (v := 114) hx hb dX8_wordFrom_179 (by decide) ?_
                  refine lv_bipush (v := 111) hx hb dX8_wordFrom_181 (by decide) ?_
                  refine x_goR (st1 := [.int (bI (spR tx f p 101 114 114 111))]) E hw [0, 1] rfl (x_runV (rest := []) E hw (c_X8_spells l g o hs bads nos fuls cau whe cnt p fau isw ods tx f 101 114 114 111 (by omega) (by omega)) km_X8_155 kv_X8_spells [0, 1] rfl (by decide) 0 rfl hl.1 rfl rfl (Nat.le_of_ble_eq_true rfl) ⟨Nat.le_of_ble_eq_true rfl, Nat.le_of_ble_eq_true rfl⟩ ⟨Nat.zero_le _, Nat.zero_le _⟩ dX8_wordFrom_183) rfl (fun H locs hw => ?_)
                  refine xb_eq (tgt := 206) hx hb dX8_wordFrom_186 (by decide) (fun c_159 => ?_) (fun c_159 => ?_)
                  · refine lv_iconst (v := 0) hx hb dX8_wordFrom_206 (by decide) ?_
                    refine lv_istore (lv' := [(5, .int 0), (4, .int 1), (3, .int 0), (2, .int (nI (p - f))), (0, .ref (o 0)), (1, .int (nI f))]) hx hb dX8_wordFrom_207 hl (by decide) rfl (fun ls hl => ?_)
                    refine lv_iload_n hx hb dX8_wordFrom_209 rfl (lv_at hl 2 rfl) ?_
                    refine lv_if_eq (tgt := 217) hx hb dX8_wordFrom_210 (by decide) (fun _ => ?_) (fun h => absurd h (by decide))
                    refine lv_iload hx hb dX8_wordFrom_217 (lv_at hl 1 rfl) ?_
                    refine lv_if_eq (tgt := 226) hx hb dX8_wordFrom_219 (by decide) (fun h => absurd h (by decide)) (fun _ => ?_)
                    refine lv_iconst (v := 4) hx hb dX8_wordFrom_222 (by decide) ?_
                    refine lv_goto (tgt := 237) hx hb dX8_wordFrom_223 (by decide) ?_
                    exact xr_i hQ E hr hw dX8_wordFrom_237 ⟨congrArg (fun z => some (Value.int z)) (by first | (simp only [wdR, if_pos c_1, if_neg c_94, if_neg c_95, if_pos c_96, if_pos c_101, if_neg c_134, if_pos c_135, if_pos c_147, if_neg c_159]; done) | contradiction), rfl⟩
                  · refine lv_aload_n hx hb dX8_wordFrom_189 rfl (lv_at hl 3 rfl) ?_
                    refine x_get E hw kf_X8_23 0 rfl rfl dX8_wordFrom_190 ?_
                    refine lv_iload_n hx hb dX8_wordFrom_193 rfl (lv_at hl 4 rfl) ?_
                    refine lv_iconst (v := 4) hx hb dX8_wordFrom_194 (by decide) ?_
                    refine xn_add hx hb f 4 rfl rfl dX8_wordFrom_195 ?_
                    refine x_ld (v := tx (f + 4)) E hw 1 rfl (f + 4) rfl (by omega) (by decide) rfl dX8_wordFrom_196 ?_
                    refine lv_bipush (v := 114) hx hb dX8_wordFrom_197 (by decide) ?_
                    refine lv_icmp_ne (tgt := 206) hx hb dX8_wordFrom_199 (by decide) (fun c_162 => ?_) (fun c_162 => ?_)
                    · refine lv_iconst (v := 0) hx hb dX8_wordFrom_206 (by decide) ?_
                      refine lv_istore (lv' := [(5, .int 0), (4, .int 1), (3, .int 0), (2, .int (nI (p - f))), (0, .ref (o 0)), (1, .int (nI f))]) hx hb dX8_wordFrom_207 hl (by decide) rfl (fun ls hl => ?_)
                      refine lv_iload_n hx hb dX8_wordFrom_209 rfl (lv_at hl 2 rfl) ?_
                      refine lv_if_eq (tgt := 217) hx hb dX8_wordFrom_210 (by decide) (fun _ => ?_) (fun h => absurd h (by decide))
                      refine lv_iload hx hb dX8_wordFrom_217 (lv_at hl 1 rfl) ?_
                      refine lv_if_eq (tgt := 226) hx hb dX8_wordFrom_219 (by decide) (fun h => absurd h (by decide)) (fun _ => ?_)
                      refine lv_iconst (v := 4) hx hb dX8_wordFrom_222 (by decide) ?_
                      refine lv_goto (tgt := 237) hx hb dX8_wordFrom_223 (by decide) ?_
                      exact xr_i hQ E hr hw dX8_wordFrom_237 ⟨congrArg (fun z => some (Value.int z)) (by first | (simp only [wdR, if_pos c_1, if_neg c_94, if_neg c_95, if_pos c_96, if_pos c_101, if_neg c_134, if_pos c_135, if_pos c_147, if_pos c_159, if_neg c_162]; done) | contradiction), rfl⟩
                    · refine lv_iconst (v := 1) hx hb dX8_wordFrom_202 (by decide) ?_
                      refine lv_goto (tgt := 207) hx hb dX8_wordFrom_203 (by decide) ?_
                      refine lv_istore (lv' := [(5, .int 1), (4, .int 1), (3, .int 0), (2, .int (nI (p - f))), (0, .ref (o 0)), (1, .int (nI f))]) hx hb dX8_wordFrom_207 hl (by decide) rfl (fun ls hl => ?_)
                      refine lv_iload_n hx hb dX8_wordFrom_209 rfl (lv_at hl 2 rfl) ?_
                      refine lv_if_eq (tgt := 217) hx hb dX8_wordFrom_210 (by decide) (fun _ => ?_) (fun h => absurd h (by decide))
                      refine lv_iload hx hb dX8_wordFrom_217 (lv_at hl 1 rfl) ?_
                      refine lv_if_eq (tgt := 226) hx hb dX8_wordFrom_219 (by decide) (fun h => absurd h (by decide)) (fun _ => ?_)
                      refine lv_iconst (v := 4) hx hb dX8_wordFrom_222 (by decide) ?_
                      refine lv_goto (tgt := 237) hx hb dX8_wordFrom_223 (by decide) ?_
                      exact xr_i hQ E hr hw dX8_wordFrom_237 ⟨congrArg (fun z => some (Value.int z)) (by first | (simp only [wdR, if_pos c_1, if_neg c_94, if_neg c_95, if_pos c_96, if_pos c_101, if_neg c_134, if_pos c_135, if_pos c_147, if_pos c_159, if_pos c_162]; done) | contradiction), rfl⟩
            · refine lv_iconst (v := 1) hx hb dX8_wordFrom_131 (by decide) ?_
              refine lv_goto (tgt := 136) hx hb dX8_wordFrom_132 (by decide) ?_
              refine lv_istore_n (lv' := [(3, .int 1), (2, .int (nI (p - f))), (0, .ref (o 0)), (1, .int (nI f))]) hx hb dX8_wordFrom_136 rfl hl (by decide) rfl (fun ls hl => ?_)
              refine lv_aload_n hx hb dX8_wordFrom_137 rfl (lv_at hl 2 rfl) ?_
              refine lv_iload_n hx hb dX8_wordFrom_138 rfl (lv_at hl 3 rfl) ?_
              refine lv_bipush (v := 98) hx hb dX8_wordFrom_139 (by decide) ?_
              refine lv_bipush (v := 114) hx hb dX8_wordFrom_141 (by decide) ?_
              refine lv_bipush (v := 97) hx hb dX8_wordFrom_143 (by decide) ?_
              refine lv_bipush (v := 107) hx hb dX8_wordFrom_145 (by decide) ?_
              refine x_goR (st1 := [.int (bI (spR tx f p 98 114 97 107))]) E hw [0, 1] rfl (x_runV (rest := []) E hw (c_X8_spells l g o hs bads nos fuls cau whe cnt p fau isw ods tx f 98 114 97 107 (by omega) (by omega)) km_X8_155 kv_X8_spells [0, 1] rfl (by decide) 0 rfl hl.1 rfl rfl (Nat.le_of_ble_eq_true rfl) ⟨Nat.le_of_ble_eq_true rfl, Nat.le_of_ble_eq_true rfl⟩ ⟨Nat.zero_le _, Nat.zero_le _⟩ dX8_wordFrom_147) rfl (fun H locs hw => ?_)
              refine xb_eq (tgt := 170) hx hb dX8_wordFrom_150 (by decide) (fun c_167 => ?_) (fun c_167 => ?_)
              · refine lv_iconst (v := 0) hx hb dX8_wordFrom_170 (by decide) ?_
                refine lv_istore (lv' := [(4, .int 0), (3, .int 1), (2, .int (nI (p - f))), (0, .ref (o 0)), (1, .int (nI f))]) hx hb dX8_wordFrom_171 hl (by decide) rfl (fun ls hl => ?_)
                refine lv_aload_n hx hb dX8_wordFrom_173 rfl (lv_at hl 3 rfl) ?_
                refine lv_iload_n hx hb dX8_wordFrom_174 rfl (lv_at hl 4 rfl) ?_
                refine lv_bipush (v := 101) hx hb dX8_wordFrom_175 (by decide) ?_
                refine lv_bipush (v := 114) hx hb dX8_wordFrom_177 (by decide) ?_
                refine lv_bipush (v := 114) hx hb dX8_wordFrom_179 (by decide) ?_
                refine lv_bipush (v := 111) hx hb dX8_wordFrom_181 (by decide) ?_
                refine x_goR (st1 := [.int (bI (spR tx f p 101 114 114 111))]) E hw [0, 1] rfl (x_runV (rest := []) E hw (c_X8_spells l g o hs bads nos fuls cau whe cnt p fau isw ods tx f 101 114 114 111 (by omega) (by omega)) km_X8_155 kv_X8_spells [0, 1] rfl (by decide) 0 rfl hl.1 rfl rfl (Nat.le_of_ble_eq_true rfl) ⟨Nat.le_of_ble_eq_true rfl, Nat.le_of_ble_eq_true rfl⟩ ⟨Nat.zero_le _, Nat.zero_le _⟩ dX8_wordFrom_183) rfl (fun H locs hw => ?_)
                refine xb_eq (tgt := 206) hx hb dX8_wordFrom_186 (by decide) (fun c_168 => ?_) (fun c_168 => ?_)
                · refine lv_iconst (v := 0) hx hb dX8_wordFrom_206 (by decide) ?_
                  refine lv_istore (lv' := [(5, .int 0), (4, .int 0), (3, .int 1), (2, .int (nI (p - f))), (0, .ref (o 0)), (1, .int (nI f))]) hx hb dX8_wordFrom_207 hl (by decide) rfl (fun ls hl => ?_)
                  refine lv_iload_n hx hb dX8_wordFrom_209 rfl (lv_at hl 2 rfl) ?_
                  refine lv_if_eq (tgt := 217) hx hb dX8_wordFrom_210 (by decide) (fun h => absurd h (by decide)) (fun _ => ?_)
                  refine lv_iconst (v := 2) hx hb dX8_wordFrom_213 (by decide) ?_
                  refine lv_goto (tgt := 237) hx hb dX8_wordFrom_214 (by decide) ?_
                  exact xr_i hQ E hr hw dX8_wordFrom_237 ⟨congrArg (fun z => some (Value.int z)) (by first | (simp only [wdR, if_pos c_1, if_neg c_94, if_neg c_95, if_pos c_96, if_pos c_101, if_pos c_134, if_neg c_167, if_neg c_168]; done) | contradiction), rfl⟩
                · refine lv_aload_n hx hb dX8_wordFrom_189 rfl (lv_at hl 3 rfl) ?_
                  refine x_get E hw kf_X8_23 0 rfl rfl dX8_wordFrom_190 ?_
                  refine lv_iload_n hx hb dX8_wordFrom_193 rfl (lv_at hl 4 rfl) ?_
                  refine lv_iconst (v := 4) hx hb dX8_wordFrom_194 (by decide) ?_
                  refine xn_add hx hb f 4 rfl rfl dX8_wordFrom_195 ?_
                  refine x_ld (v := tx (f + 4)) E hw 1 rfl (f + 4) rfl (by omega) (by decide) rfl dX8_wordFrom_196 ?_
                  refine lv_bipush (v := 114) hx hb dX8_wordFrom_197 (by decide) ?_
                  refine lv_icmp_ne (tgt := 206) hx hb dX8_wordFrom_199 (by decide) (fun c_170 => ?_) (fun c_170 => ?_)
                  · refine lv_iconst (v := 0) hx hb dX8_wordFrom_206 (by decide) ?_
                    refine lv_istore (lv' := [(5, .int 0), (4, .int 0), (3, .int 1), (2, .int (nI (p - f))), (0, .ref (o 0)), (1, .int (nI f))]) hx hb dX8_wordFrom_207 hl (by decide) rfl (fun ls hl => ?_)
                    refine lv_iload_n hx hb dX8_wordFrom_209 rfl (lv_at hl 2 rfl) ?_
                    refine lv_if_eq (tgt := 217) hx hb dX8_wordFrom_210 (by decide) (fun h => absurd h (by decide)) (fun _ => ?_)
                    refine lv_iconst (v := 2) hx hb dX8_wordFrom_213 (by decide) ?_
                    refine lv_goto (tgt := 237) hx hb dX8_wordFrom_214 (by decide) ?_
                    exact xr_i hQ E hr hw dX8_wordFrom_237 ⟨congrArg (fun z => some (Value.int z)) (by first | (simp only [wdR, if_pos c_1, if_neg c_94, if_neg c_95, if_pos c_96, if_pos c_101, if_pos c_134, if_neg c_167, if_pos c_168, if_neg c_170]; done) | contradiction), rfl⟩
                  · refine lv_iconst (v := 1) hx hb dX8_wordFrom_202 (by decide) ?_
                    refine lv_goto (tgt := 207) hx hb dX8_wordFrom_203 (by decide) ?_
                    refine lv_istore (lv' := [(5, .int 1), (4, .int 0), (3, .int 1), (2, .int (nI (p - f))), (0, .ref (o 0)), (1, .int (nI f))]) hx hb dX8_wordFrom_207 hl (by decide) rfl (fun ls hl => ?_)
                    refine lv_iload_n hx hb dX8_wordFrom_209 rfl (lv_at hl 2 rfl) ?_
                    refine lv_if_eq (tgt := 217) hx hb dX8_wordFrom_210 (by decide) (fun h => absurd h (by decide)) (fun _ => ?_)
                    refine lv_iconst (v := 2) hx hb dX8_wordFrom_213 (by decide) ?_
                    refine lv_goto (tgt := 237) hx hb dX8_wordFrom_214 (by decide) ?_
                    exact xr_i hQ E hr hw dX8_wordFrom_237 ⟨congrArg (fun z => some (Value.int z)) (by first | (simp only [wdR, if_pos c_1, if_neg c_94, if_neg c_95, if_pos c_96, if_pos c_101, if_pos c_134, if_neg c_167, if_pos c_168, if_pos c_170]; done) | contradiction), rfl⟩
              · refine lv_aload_n hx hb dX8_wordFrom_153 rfl (lv_at hl 2 rfl) ?_
                refine x_get E hw kf_X8_23 0 rfl rfl dX8_wordFrom_154 ?_
                refine lv_iload_n hx hb dX8_wordFrom_157 rfl (lv_at hl 3 rfl) ?_
                refine lv_iconst (v := 4) hx hb dX8_wordFrom_158 (by decide) ?_
                refine xn_add hx hb f 4 rfl rfl dX8_wordFrom_159 ?_
                refine x_ld (v := tx (f + 4)) E hw 1 rfl (f + 4) rfl (by omega) (by decide) rfl dX8_wordFrom_160 ?_
                refine lv_bipush (v := 101) hx hb dX8_wordFrom_161 (by decide) ?_
                refine lv_icmp_ne (tgt := 170) hx hb dX8_wordFrom_163 (by decide) (fun c_173 => ?_) (fun c_173 => ?_)
                · refine lv_iconst (v := 0) hx hb dX8_wordFrom_170 (by decide) ?_
                  refine lv_istore (lv' := [(4, .int 0), (3, .int 1), (2, .int (nI (p - f))), (0, .ref (o 0)), (1, .int (nI f))]) hx hb dX8_wordFrom_171 hl (by decide) rfl (fun ls hl => ?_)
                  refine lv_aload_n hx hb dX8_wordFrom_173 rfl (lv_at hl 3 rfl) ?_
                  refine lv_iload_n hx hb dX8_wordFrom_174 rfl (lv_at hl 4 rfl) ?_
                  refine lv_bipush (v := 101) hx hb dX8_wordFrom_175 (by decide) ?_
                  refine lv_bipush (v := 114) hx hb dX8_wordFrom_177 (by decide) ?_
                  refine lv_bipush (v := 114) hx hb dX8_wordFrom_179 (by decide) ?_
                  refine lv_bipush (v := 111) hx hb dX8_wordFrom_181 (by decide) ?_
                  refine x_goR (st1 := [.int (bI (spR tx f p 101 114 114 111))]) E hw [0, 1] rfl (x_runV (rest := []) E hw (c_X8_spells l g o hs bads nos fuls cau whe cnt p fau isw ods tx f 101 114 114 111 (by omega) (by omega)) km_X8_155 kv_X8_spells [0, 1] rfl (by decide) 0 rfl hl.1 rfl rfl (Nat.le_of_ble_eq_true rfl) ⟨Nat.le_of_ble_eq_true rfl, Nat.le_of_ble_eq_true rfl⟩ ⟨Nat.zero_le _, Nat.zero_le _⟩ dX8_wordFrom_183) rfl (fun H locs hw => ?_)
                  refine xb_eq (tgt := 206) hx hb dX8_wordFrom_186 (by decide) (fun c_174 => ?_) (fun c_174 => ?_)
                  · refine lv_iconst (v := 0) hx hb dX8_wordFrom_206 (by decide) ?_
                    refine lv_istore (lv' := [(5, .int 0), (4, .int 0), (3, .int 1), (2, .int (nI (p - f))), (0, .ref (o 0)), (1, .int (nI f))]) hx hb dX8_wordFrom_207 hl (by decide) rfl (fun ls hl => ?_)
                    refine lv_iload_n hx hb dX8_wordFrom_209 rfl (lv_at hl 2 rfl) ?_
                    refine lv_if_eq (tgt := 217) hx hb dX8_wordFrom_210 (by decide) (fun h => absurd h (by decide)) (fun _ => ?_)
                    refine lv_iconst (v := 2) hx hb dX8_wordFrom_213 (by decide) ?_
                    refine lv_goto (tgt := 237) hx hb dX8_wordFrom_214 (by decide) ?_
                    exact xr_i hQ E hr hw dX8_wordFrom_237 ⟨congrArg (fun z => some (Value.int z)) (by first | (simp only [wdR, if_pos c_1, if_neg c_94, if_neg c_95, if_pos c_96, if_pos c_101, if_pos c_134, if_pos c_167, if_neg c_173, if_neg c_174]; done) | contradiction), rfl⟩
                  · refine lv_aload_n hx hb dX8_wordFrom_189 rfl (lv_at hl 3 rfl) ?_
                    refine x_get E hw kf_X8_23 0 rfl rfl dX8_wordFrom_190 ?_
                    refine lv_iload_n hx hb dX8_wordFrom_193 rfl (lv_at hl 4 rfl) ?_
                    refine lv_iconst (v := 4) hx hb dX8_wordFrom_194 (by decide) ?_
                    refine xn_add hx hb f 4 rfl rfl dX8_wordFrom_195 ?_
                    refine x_ld (v := tx (f + 4)) E hw 1 rfl (f + 4) rfl (by omega) (by decide) rfl dX8_wordFrom_196 ?_
                    refine lv_bipush (v := 114) hx hb dX8_wordFrom_197 (by decide) ?_
                    refine lv_icmp_ne (tgt := 206) hx hb dX8_wordFrom_199 (by decide) (fun c_176 => ?_) (fun c_176 => ?_)
                    · refine lv_iconst (v := 0) hx hb dX8_wordFrom_206 (by decide) ?_
                      refine lv_istore (lv' := [(5, .int 0), (4, .int 0), (3, .int 1), (2, .int (nI (p - f))), (0, .ref (o 0)), (1, .int (nI f))]) hx hb dX8_wordFrom_207 hl (by decide) rfl (fun ls hl => ?_)
                      refine lv_iload_n hx hb dX8_wordFrom_209 rfl (lv_at hl 2 rfl) ?_
                      refine lv_if_eq (tgt := 217) hx hb dX8_wordFrom_210 (by decide) (fun h => absurd h (by decide)) (fun _ => ?_)
                      refine lv_iconst (v := 2) hx hb dX8_wordFrom_213 (by decide) ?_
                      refine lv_goto (tgt := 237) hx hb dX8_wordFrom_214 (by decide) ?_
                      exact xr_i hQ E hr hw dX8_wordFrom_237 ⟨congrArg (fun z => some (Value.int z)) (by first | (simp only [wdR, if_pos c_1, if_neg c_94, if_neg c_95, if_pos c_96, if_pos c_101, if_pos c_134, if_pos c_167, if_neg c_173, if_pos c_174, if_neg c_176]; done) | contradiction), rfl⟩
                    · refine lv_iconst (v := 1) hx hb dX8_wordFrom_202 (by decide) ?_
                      refine lv_goto (tgt := 207) hx hb dX8_wordFrom_203 (by decide) ?_
                      refine lv_istore (lv' := [(5, .int 1), (4, .int 0), (3, .int 1), (2, .int (nI (p - f))), (0, .ref (o 0)), (1, .int (nI f))]) hx hb dX8_wordFrom_207 hl (by decide) rfl (fun ls hl => ?_)
                      refine lv_iload_n hx hb dX8_wordFrom_209 rfl (lv_at hl 2 rfl) ?_
                      refine lv_if_eq (tgt := 217) hx hb dX8_wordFrom_210 (by decide) (fun h => absurd h (by decide)) (fun _ => ?_)
                      refine lv_iconst (v := 2) hx hb dX8_wordFrom_213 (by decide) ?_
                      refine lv_goto (tgt := 237) hx hb dX8_wordFrom_214 (by decide) ?_
                      exact xr_i hQ E hr hw dX8_wordFrom_237 ⟨congrArg (fun z => some (Value.int z)) (by first | (simp only [wdR, if_pos c_1, if_neg c_94, if_neg c_95, if_pos c_96, if_pos c_101, if_pos c_134, if_pos c_167, if_neg c_173, if_pos c_174, if_pos c_176]; done) | contradiction), rfl⟩
                · refine lv_iconst (v := 1) hx hb dX8_wordFrom_166 (by decide) ?_
                  refine lv_goto (tgt := 171) hx hb dX8_wordFrom_167 (by decide) ?_
                  refine lv_istore (lv' := [(4, .int 1), (3, .int 1), (2, .int (nI (p - f))), (0, .ref (o 0)), (1, .int (nI f))]) hx hb dX8_wordFrom_171 hl (by decide) rfl (fun ls hl => ?_)
                  refine lv_aload_n hx hb dX8_wordFrom_173 rfl (lv_at hl 3 rfl) ?_
                  refine lv_iload_n hx hb dX8_wordFrom_174 rfl (lv_at hl 4 rfl) ?_
                  refine lv_bipush (v := 101) hx hb dX8_wordFrom_175 (by decide) ?_
                  refine lv_bipush (v := 114) hx hb dX8_wordFrom_177 (by decide) ?_
                  refine lv_bipush (v := 114) hx hb dX8_wordFrom_179 (by decide) ?_
                  refine lv_bipush (v := 111) hx hb dX8_wordFrom_181 (by decide) ?_
                  refine x_goR (st1 := [.int (bI (spR tx f p 101 114 114 111))]) E hw [0, 1] rfl (x_runV (rest := []) E hw (c_X8_spells l g o hs bads nos fuls cau whe cnt p fau isw ods tx f 101 114 114 111 (by omega) (by omega)) km_X8_155 kv_X8_spells [0, 1] rfl (by decide) 0 rfl hl.1 rfl rfl (Nat.le_of_ble_eq_true rfl) ⟨Nat.le_of_ble_eq_true rfl, Nat.le_of_ble_eq_true rfl⟩ ⟨Nat.zero_le _, Nat.zero_le _⟩ dX8_wordFrom_183) rfl (fun H locs hw => ?_)
                  refine xb_eq (tgt := 206) hx hb dX8_wordFrom_186 (by decide) (fun c_179 => ?_) (fun c_179 => ?_)
                  · refine lv_iconst (v := 0) hx hb dX8_wordFrom_206 (by decide) ?_
                    refine lv_istore (lv' := [(5, .int 0), (4, .int 1), (3, .int 1), (2, .int (nI (p - f))), (0, .ref (o 0)), (1, .int (nI f))]) hx hb dX8_wordFrom_207 hl (by decide) rfl (fun ls hl => ?_)
                    refine lv_iload_n hx hb dX8_wordFrom_209 rfl (lv_at hl 2 rfl) ?_
                    refine lv_if_eq (tgt := 217) hx hb dX8_wordFrom_210 (by decide) (fun h => absurd h (by decide)) (fun _ => ?_)
                    refine lv_iconst (v := 2) hx hb dX8_wordFrom_213 (by decide) ?_
                    refine lv_goto (tgt := 237) hx hb dX8_wordFrom_214 (by decide) ?_
                    exact xr_i hQ E hr hw dX8_wordFrom_237 ⟨congrArg (fun z => some (Value.int z)) (by first | (simp only [wdR, if_pos c_1, if_neg c_94, if_neg c_95, if_pos c_96, if_pos c_101, if_pos c_134, if_pos c_167, if_pos c_173, if_neg c_179]; done) | contradiction), rfl⟩
                  · refine lv_aload_n hx hb dX8_wordFrom_189 rfl (lv_at hl 3 rfl) ?_
                    refine x_get E hw kf_X8_23 0 rfl rfl dX8_wordFrom_190 ?_
                    refine lv_iload_n hx hb dX8_wordFrom_193 rfl (lv_at hl 4 rfl) ?_
                    refine lv_iconst (v := 4) hx hb dX8_wordFrom_194 (by decide) ?_
                    refine xn_add hx hb f 4 rfl rfl dX8_wordFrom_195 ?_
                    refine x_ld (v := tx (f + 4)) E hw 1 rfl (f + 4) rfl (by omega) (by decide) rfl dX8_wordFrom_196 ?_
                    refine lv_bipush (v := 114) hx hb dX8_wordFrom_197 (by decide) ?_
                    refine lv_icmp_ne (tgt := 206) hx hb dX8_wordFrom_199 (by decide) (fun c_181 => ?_) (fun c_181 => ?_)
                    · refine lv_iconst (v := 0) hx hb dX8_wordFrom_206 (by decide) ?_
                      refine lv_istore (lv' := [(5, .int 0), (4, .int 1), (3, .int 1), (2, .int (nI (p - f))), (0, .ref (o 0)), (1, .int (nI f))]) hx hb dX8_wordFrom_207 hl (by decide) rfl (fun ls hl => ?_)
                      refine lv_iload_n hx hb dX8_wordFrom_209 rfl (lv_at hl 2 rfl) ?_
                      refine lv_if_eq (tgt := 217) hx hb dX8_wordFrom_210 (by decide) (fun h => absurd h (by decide)) (fun _ => ?_)
                      refine lv_iconst (v := 2) hx hb dX8_wordFrom_213 (by decide) ?_
                      refine lv_goto (tgt := 237) hx hb dX8_wordFrom_214 (by decide) ?_
                      exact xr_i hQ E hr hw dX8_wordFrom_237 ⟨congrArg (fun z => some (Value.int z)) (by first | (simp only [wdR, if_pos c_1, if_neg c_94, if_neg c_95, if_pos c_96, if_pos c_101, if_pos c_134, if_pos c_167, if_pos c_173, if_pos c_179, if_neg c_181]; done) | contradiction), rfl⟩
                    · refine lv_iconst (v := 1) hx hb dX8_wordFrom_202 (by decide) ?_
                      refine lv_goto (tgt := 207) hx hb dX8_wordFrom_203 (by decide) ?_
                      refine lv_istore (lv' := [(5, .int 1), (4, .int 1), (3, .int 1), (2, .int (nI (p - f))), (0, .ref (o 0)), (1, .int (nI f))]) hx hb dX8_wordFrom_207 hl (by decide) rfl (fun ls hl => ?_)
                      refine lv_iload_n hx hb dX8_wordFrom_209 rfl (lv_at hl 2 rfl) ?_
                      refine lv_if_eq (tgt := 217) hx hb dX8_wordFrom_210 (by decide) (fun h => absurd h (by decide)) (fun _ => ?_)
                      refine lv_iconst (v := 2) hx hb dX8_wordFrom_213 (by decide) ?_
                      refine lv_goto (tgt := 237) hx hb dX8_wordFrom_214 (by decide) ?_
                      exact xr_i hQ E hr hw dX8_wordFrom_237 ⟨congrArg (fun z => some (Value.int z)) (by first | (simp only [wdR, if_pos c_1, if_neg c_94, if_neg c_95, if_pos c_96, if_pos c_101, if_pos c_134, if_pos c_167, if_pos c_173, if_pos c_179, if_pos c_181]; done) | contradiction), rfl⟩
      · refine lv_aload_n hx hb dX8_wordFrom_34 rfl (lv_at hl 1 rfl) ?_
        refine lv_iload_n hx hb dX8_wordFrom_35 rfl (lv_at hl 2 rfl) ?_
        refine lv_bipush (v := 99) hx hb dX8_wordFrom_36 (by decide) ?_
        refine lv_bipush (v := 101) hx hb dX8_wordFrom_38 (by decide) ?_
        refine lv_bipush (v := 105) hx hb dX8_wordFrom_40 (by decide) ?_
        refine lv_bipush (v := 108) hx hb dX8_wordFrom_42 (by decide) ?_
        refine x_goR (st1 := [.int (bI (spR tx f p 99 101 105 108))]) E hw [0, 1] rfl (x_runV (rest := []) E hw (c_X8_spells l g o hs bads nos fuls cau whe cnt p fau isw ods tx f 99 101 105 108 (by omega) (by omega)) km_X8_155 kv_X8_spells [0, 1] rfl (by decide) 0 rfl hl.1 rfl rfl (Nat.le_of_ble_eq_true rfl) ⟨Nat.le_of_ble_eq_true rfl, Nat.le_of_ble_eq_true rfl⟩ ⟨Nat.zero_le _, Nat.zero_le _⟩ dX8_wordFrom_44) rfl (fun H locs hw => ?_)
        refine xb_eq (tgt := 54) hx hb dX8_wordFrom_47 (by decide) (fun c_184 => ?_) (fun c_184 => ?_)
        · refine lv_aload_n hx hb dX8_wordFrom_54 rfl (lv_at hl 1 rfl) ?_
          refine lv_iload_n hx hb dX8_wordFrom_55 rfl (lv_at hl 2 rfl) ?_
          refine lv_bipush (v := 112) hx hb dX8_wordFrom_56 (by decide) ?_
          refine lv_bipush (v := 117) hx hb dX8_wordFrom_58 (by decide) ?_
          refine lv_bipush (v := 108) hx hb dX8_wordFrom_60 (by decide) ?_
          refine lv_bipush (v := 108) hx hb dX8_wordFrom_62 (by decide) ?_
          refine x_goR (st1 := [.int (bI (spR tx f p 112 117 108 108))]) E hw [0, 1] rfl (x_runV (rest := []) E hw (c_X8_spells l g o hs bads nos fuls cau whe cnt p fau isw ods tx f 112 117 108 108 (by omega) (by omega)) km_X8_155 kv_X8_spells [0, 1] rfl (by decide) 0 rfl hl.1 rfl rfl (Nat.le_of_ble_eq_true rfl) ⟨Nat.le_of_ble_eq_true rfl, Nat.le_of_ble_eq_true rfl⟩ ⟨Nat.zero_le _, Nat.zero_le _⟩ dX8_wordFrom_64) rfl (fun H locs hw => ?_)
          refine xb_eq (tgt := 74) hx hb dX8_wordFrom_67 (by decide) (fun c_185 => ?_) (fun c_185 => ?_)
          · refine lv_aload_n hx hb dX8_wordFrom_74 rfl (lv_at hl 1 rfl) ?_
            refine lv_iload_n hx hb dX8_wordFrom_75 rfl (lv_at hl 2 rfl) ?_
            refine lv_bipush (v := 108) hx hb dX8_wordFrom_76 (by decide) ?_
            refine lv_bipush (v := 111) hx hb dX8_wordFrom_78 (by decide) ?_
            refine lv_bipush (v := 110) hx hb dX8_wordFrom_80 (by decide) ?_
            refine lv_bipush (v := 103) hx hb dX8_wordFrom_82 (by decide) ?_
            refine x_goR (st1 := [.int (bI (spR tx f p 108 111 110 103))]) E hw [0, 1] rfl (x_runV (rest := []) E hw (c_X8_spells l g o hs bads nos fuls cau whe cnt p fau isw ods tx f 108 111 110 103 (by omega) (by omega)) km_X8_155 kv_X8_spells [0, 1] rfl (by decide) 0 rfl hl.1 rfl rfl (Nat.le_of_ble_eq_true rfl) ⟨Nat.le_of_ble_eq_true rfl, Nat.le_of_ble_eq_true rfl⟩ ⟨Nat.zero_le _, Nat.zero_le _⟩ dX8_wordFrom_84) rfl (fun H locs hw => ?_)
            refine xb_eq (tgt := 95) hx hb dX8_wordFrom_87 (by decide) (fun c_186 => ?_) (fun c_186 => ?_)
            · refine lv_iconst (v := -1) hx hb dX8_wordFrom_95 (by decide) ?_
              exact xr_i hQ E hr hw dX8_wordFrom_96 ⟨congrArg (fun z => some (Value.int z)) (by first | (simp only [wdR, if_pos c_1, if_neg c_94, if_pos c_95, if_neg c_184, if_neg c_185, if_neg c_186]; done) | contradiction), rfl⟩
            · refine lv_bipush (v := 6) hx hb dX8_wordFrom_90 (by decide) ?_
              refine lv_goto (tgt := 96) hx hb dX8_wordFrom_92 (by decide) ?_
              exact xr_i hQ E hr hw dX8_wordFrom_96 ⟨congrArg (fun z => some (Value.int z)) (by first | (simp only [wdR, if_pos c_1, if_neg c_94, if_pos c_95, if_neg c_184, if_neg c_185, if_pos c_186]; done) | contradiction), rfl⟩
          · refine lv_iconst (v := 5) hx hb dX8_wordFrom_70 (by decide) ?_
            refine lv_goto (tgt := 96) hx hb dX8_wordFrom_71 (by decide) ?_
            exact xr_i hQ E hr hw dX8_wordFrom_96 ⟨congrArg (fun z => some (Value.int z)) (by first | (simp only [wdR, if_pos c_1, if_neg c_94, if_pos c_95, if_neg c_184, if_pos c_185]; done) | contradiction), rfl⟩
        · refine lv_iconst (v := 1) hx hb dX8_wordFrom_50 (by decide) ?_
          refine lv_goto (tgt := 96) hx hb dX8_wordFrom_51 (by decide) ?_
          exact xr_i hQ E hr hw dX8_wordFrom_96 ⟨congrArg (fun z => some (Value.int z)) (by first | (simp only [wdR, if_pos c_1, if_neg c_94, if_pos c_95, if_pos c_184]; done) | contradiction), rfl⟩
    · refine lv_iconst (v := 0) hx hb dX8_wordFrom_27 (by decide) ?_
      exact xr_i hQ E hr hw dX8_wordFrom_28 ⟨congrArg (fun z => some (Value.int z)) (by first | (simp only [wdR, if_pos c_1, if_pos c_94]; done) | contradiction), rfl⟩

set_option maxRecDepth 100000 in
set_option maxHeartbeats 4000000 in
theorem c_X8_number_0 (l : Launch) (g : xCfg) (o : Nat → Nat) (hs : Nat) (bads : Int32) (nos : Int32) (fuls : Int32) (cau : Int32) (whe : Int32) (cnt : Nat) (p : Nat) (fau : Int32) (isw : Int32) (ods : Int32) (tx : Nat → Int32) (nu : Nat → Int32) (u : Nat) (hc : cnt ≤ 120) (hp : p ≤ cnt) (hu : u < 72) : Ct l g yX8_number cX8_number 6 (some .boolean) (xR 2 42) [.ref (o 0), .int 0, .int (nI u)] [(o 0, .inr (8, [.ref (o 1), .ref (o 2), .int (nI hs), .int bads, .int nos, .int fuls, .int cau, .int whe, .ref (o 3), .ref (o 4), .int (nI cnt), .int (nI p), .int fau, .int isw, .int ods, .ref (o 5), .ref (o 6)])), (o 4, .inl (g.2.1, 120, .inl tx)), (o 6, .inl (g.2.1, 72, .inl nu))] (is1 (some (.int (bI (nmOk false tx cnt p)))) [(o 0, .inr (8, [.ref (o 1), .ref (o 2), .int (nI hs), .int bads, .int nos, .int fuls, .int cau, .int whe, .ref (o 3), .ref (o 4), .int (nI cnt), .int (nI ((nmD false tx cnt p).2)), .int (if nmOk false tx cnt p then fau else nI (nmD false tx cnt p).2), .int isw, .int ods, .ref (o 5), .ref (o 6)])), (o 4, .inl (g.2.1, 120, .inl tx)), (o 6, .inl (g.2.1, 72, .inl (if nmOk false tx cnt p then upd nu u (nmV false tx cnt p) else nu)))]) := by
  refine Ct.walk (by decide) (Nat.le_of_ble_eq_true rfl) ?_
  intro p0 e0 s0 m0 below meth c0 A0 ls Q hQ E hr hnm hw hl
  have hx := E.x
  have hb := E.b
  have hl : lv_has ls 6 [(0, .ref (o 0)), (1, .int 0), (2, .int (nI u))] := hl
  refine lv_aload_n hx hb dX8_number_0 rfl (lv_at hl 0 rfl) ?_
  refine x_go (ws' := [(o 0, .inr (8, [.ref (o 1), .ref (o 2), .int (nI hs), .int bads, .int nos, .int fuls, .int cau, .int whe, .ref (o 3), .ref (o 4), .int (nI cnt), .int (nI (skB tx (cnt - p) p)), .int fau, .int isw, .int ods, .ref (o 5), .ref (o 6)])), (o 4, .inl (g.2.1, 120, .inl tx)), (o 6, .inl (g.2.1, 72, .inl nu))]) (st1 := []) E hw [0, 1] rfl (x_runV (rest := []) E hw (c_X8_skips l g o hs bads nos fuls cau whe cnt p fau isw ods tx (by omega) hp) km_X8_162 kv_X8_skips [0, 1] rfl (by decide) 0 rfl hl.1 rfl rfl (Nat.le_of_ble_eq_true rfl) ⟨Nat.le_of_ble_eq_true rfl, Nat.le_of_ble_eq_true rfl⟩ ⟨Nat.zero_le _, Nat.zero_le _⟩ dX8_number_1) rfl rfl rfl (fun H locs hw => ?_)
  refine lv_aload_n hx hb dX8_number_4 rfl (lv_at hl 0 rfl) ?_
  refine x_goR (st1 := [.int (hrF tx cnt (skB tx (cnt - p) p))]) E hw [0, 1] rfl (x_runV (rest := []) E hw (c_X8_here l g o hs bads nos fuls cau whe cnt (skB tx (cnt - p) p) fau isw ods tx (by omega) (skB_le hp)) km_X8_152 kv_X8_here [0, 1] rfl (by decide) 0 rfl hl.1 rfl rfl (Nat.le_of_ble_eq_true rfl) ⟨Nat.le_of_ble_eq_true rfl, Nat.le_of_ble_eq_true rfl⟩ ⟨Nat.zero_le _, Nat.zero_le _⟩ dX8_number_5) rfl (fun H locs hw => ?_)
  refine lv_bipush (v := 45) hx hb dX8_number_8 (by decide) ?_
  refine lv_icmp_ne (tgt := 17) hx hb dX8_number_10 (by decide) (fun cm => ?_) (fun cm => ?_)
  · refine lv_iconst (v := 0) hx hb dX8_number_17 (by decide) ?_
    refine lv_istore_n (lv' := [(3, .int 0), (0, .ref (o 0)), (1, .int 0), (2, .int (nI u))]) hx hb dX8_number_18 rfl hl (by decide) rfl (fun ls hl => ?_)
    refine lv_iload_n hx hb dX8_number_19 rfl (lv_at hl 0 rfl) ?_
    refine lv_if_eq (tgt := 32) hx hb dX8_number_20 (by decide) (fun _ => ?_) (fun h => absurd h (by decide))
    refine lv_aload_n hx hb dX8_number_32 rfl (lv_at hl 1 rfl) ?_
    refine lv_dup hx hb dX8_number_33 rfl ?_
    refine x_get E hw kf_X8_149 0 rfl rfl dX8_number_34 ?_
    refine lv_iload_n hx hb dX8_number_37 rfl (lv_at hl 0 rfl) ?_
    refine lv_if_eq (tgt := 45) hx hb dX8_number_38 (by decide) (fun _ => ?_) (fun h => absurd h (by decide))
    refine lv_iconst (v := 0) hx hb dX8_number_45 (by decide) ?_
    refine xn_add hx hb (skB tx (cnt - p) p) 0 rfl rfl dX8_number_46 ?_
    refine x_topi (x' := nI (skB tx (cnt - p) p)) rfl ?_
    refine x_put E hw kf_X8_149 kp_X8_11 0 rfl (ty := .int) (by decide +kernel) rfl rfl (by simp) (ws' := [(o 0, .inr (8, [.ref (o 1), .ref (o 2), .int (nI hs), .int bads, .int nos, .int fuls, .int cau, .int whe, .ref (o 3), .ref (o 4), .int (nI cnt), .int (nI (skB tx (cnt - p) p)), .int fau, .int isw, .int ods, .ref (o 5), .ref (o 6)])), (o 4, .inl (g.2.1, 120, .inl tx)), (o 6, .inl (g.2.1, 72, .inl nu))]) rfl dX8_number_47 (fun H locs hw => ?_)
    have hS : nmS false tx cnt p = skB tx (cnt - p) p := if_neg (fun z => absurd z.1 (by decide))
    have hN : nmV false tx cnt p = (nmD false tx cnt p).1 := if_neg (fun z => absurd z.1 (by decide))
    refine lv_iconst (v := 0) hx hb dX8_number_50 (by decide) ?_
    refine lv_istore (lv' := [(4, .int 0), (3, .int 0), (0, .ref (o 0)), (1, .int 0), (2, .int (nI u))]) hx hb dX8_number_51 hl (by decide) rfl (fun ls hl => ?_)
    refine lv_iconst (v := 0) hx hb dX8_number_53 (by decide) ?_
    refine lv_istore (lv' := [(5, .int 0), (4, .int 0), (3, .int 0), (0, .ref (o 0)), (1, .int 0), (2, .int (nI u))]) hx hb dX8_number_54 hl (by decide) rfl (fun ls hl => ?_)
    have lp_56 : ∀ (fuel : Nat) (k : Nat) (v : Int32) (x : Nat), 3 - k < fuel → k ≤ 3 → x = skB tx (cnt - p) p + k → x ≤ cnt → dgs tx cnt (3 - k) v x = dgs tx cnt 3 0 (skB tx (cnt - p) p) → ∀ (H : Heap) (locs : List Loc) (ls : Array Slot), xW g A0 s0 [(o 0, .inr (8, [.ref (o 1), .ref (o 2), .int (nI hs), .int bads, .int nos, .int fuls, .int cau, .int whe, .ref (o 3), .ref (o 4), .int (nI cnt), .int (nI x), .int fau, .int isw, .int ods, .ref (o 5), .ref (o 6)])), (o 4, .inl (g.2.1, 120, .inl tx)), (o 6, .inl (g.2.1, 72, .inl nu))] H locs → lv_has ls 6 [(5, .int (nI k)), (4, .int v), (0, .ref (o 0)), (2, .int (nI u)), (3, .int 0)] → W p0 l e0 (xR 2 42) s0 m0 [.ref (o 0), .int 0, .int (nI u)].toArray below meth c0 H locs 0 0 Q (F0 m0 56 ls []) := by
      intro fuel
      induction fuel with
      | zero => intro k v x hm; exact absurd hm (Nat.not_lt_zero _)
      | succ fuel ih =>
        intro k v x hm hk hxk hxc hv H locs ls hw hl
        refine lv_aload_n hx hb dX8_number_56 rfl (lv_at hl 2 rfl) ?_
        refine x_goR (st1 := [.int (bI (x < cnt ∧ (48 ≤ tx x ∧ tx x ≤ 57)))]) E hw [0, 1] rfl (x_runV (rest := []) E hw (c_X8_isFigure l g o hs bads nos fuls cau whe cnt x fau isw ods tx (by omega) hxc) km_X8_169 kv_X8_isFigure [0, 1] rfl (by decide) 0 rfl hl.1 rfl rfl (Nat.le_of_ble_eq_true rfl) ⟨Nat.le_of_ble_eq_true rfl, Nat.le_of_ble_eq_true rfl⟩ ⟨Nat.zero_le _, Nat.zero_le _⟩ dX8_number_57) rfl (fun H locs hw => ?_)
        refine xb_eq (tgt := 100) hx hb dX8_number_60 (by decide) (fun cg => ?_) (fun cg => ?_)
        · have hD : nmD false tx cnt p = (v, x) := by rw [nmD, hS, ← hv]; exact dgs_no cg
          refine lv_iload hx hb dX8_number_100 (lv_at hl 0 rfl) ?_
          refine xz_eq (tgt := 112) hx hb k rfl (by omega) dX8_number_102 (by decide) (fun cz => ?_) (fun cz => ?_)
          · refine lv_aload_n hx hb dX8_number_112 rfl (lv_at hl 2 rfl) ?_
            refine x_go (ws' := [(o 0, .inr (8, [.ref (o 1), .ref (o 2), .int (nI hs), .int bads, .int nos, .int fuls, .int cau, .int whe, .ref (o 3), .ref (o 4), .int (nI cnt), .int (nI x), .int (nI x), .int isw, .int ods, .ref (o 5), .ref (o 6)])), (o 4, .inl (g.2.1, 120, .inl tx)), (o 6, .inl (g.2.1, 72, .inl nu))]) (st1 := [.int 0]) E hw [0] rfl (x_runV (rest := []) E hw (c_X8_stopsHere l g o hs bads nos fuls cau whe cnt x fau isw ods ) km_X8_165 kv_X8_stopsHere [0] rfl (by decide) 0 rfl hl.1 rfl rfl (Nat.le_of_ble_eq_true rfl) ⟨Nat.le_of_ble_eq_true rfl, Nat.le_of_ble_eq_true rfl⟩ ⟨Nat.zero_le _, Nat.zero_le _⟩ dX8_number_113) rfl rfl rfl (fun H locs hw => ?_)
            have hno : ¬ nmOk false tx cnt p := nm_f0 hS hD (by omega)
            exact xr_z hQ E hr hw dX8_number_116 (by decide) ⟨congrArg (fun z => some (Value.int z)) ((bI_f hno).symm), (by simp only [if_neg hno, hD])⟩
          · refine lv_aload_n hx hb dX8_number_105 rfl (lv_at hl 2 rfl) ?_
            refine x_goR (st1 := [.int (bI (x < cnt ∧ (48 ≤ tx x ∧ tx x ≤ 57)))]) E hw [0, 1] rfl (x_runV (rest := []) E hw (c_X8_isFigure l g o hs bads nos fuls cau whe cnt x fau isw ods tx (by omega) hxc) km_X8_169 kv_X8_isFigure [0, 1] rfl (by decide) 0 rfl hl.1 rfl rfl (Nat.le_of_ble_eq_true rfl) ⟨Nat.le_of_ble_eq_true rfl, Nat.le_of_ble_eq_true rfl⟩ ⟨Nat.zero_le _, Nat.zero_le _⟩ dX8_number_106) rfl (fun H locs hw => ?_)
            refine xb_eq (tgt := 117) hx hb dX8_number_109 (by decide) (fun cf => ?_) (fun cf => ?_)
            · refine lv_aload_n hx hb dX8_number_117 rfl (lv_at hl 2 rfl) ?_
              refine x_get E hw kf_X8_29 0 rfl rfl dX8_number_118 ?_
              refine lv_iload_n hx hb dX8_number_121 rfl (lv_at hl 3 rfl) ?_
              refine lv_iload_n hx hb dX8_number_122 rfl (lv_at hl 4 rfl) ?_
              refine lv_if_eq (tgt := 132) hx hb dX8_number_123 (by decide) (fun _ => ?_) (fun h => absurd h (by decide))
              refine lv_iload hx hb dX8_number_132 (lv_at hl 1 rfl) ?_
              refine x_ist E hw 2 rfl u rfl (by omega) (by decide) (ws' := [(o 0, .inr (8, [.ref (o 1), .ref (o 2), .int (nI hs), .int bads, .int nos, .int fuls, .int cau, .int whe, .ref (o 3), .ref (o 4), .int (nI cnt), .int (nI x), .int fau, .int isw, .int ods, .ref (o 5), .ref (o 6)])), (o 4, .inl (g.2.1, 120, .inl tx)), (o 6, .inl (g.2.1, 72, .inl (upd nu u v)))]) rfl dX8_number_134 (fun H locs hw => ?_)
              refine lv_iconst (v := 1) hx hb dX8_number_135 (by decide) ?_
              have hok : nmOk false tx cnt p := nm_t hS hD (by omega) cf
              exact xr_z hQ E hr hw dX8_number_136 (by decide) ⟨congrArg (fun z => some (Value.int z)) ((bI_t hok).symm), (by simp only [if_pos hok, hD, hN])⟩
            · refine lv_aload_n hx hb dX8_number_112 rfl (lv_at hl 2 rfl) ?_
              refine x_go (ws' := [(o 0, .inr (8, [.ref (o 1), .ref (o 2), .int (nI hs), .int bads, .int nos, .int fuls, .int cau, .int whe, .ref (o 3), .ref (o 4), .int (nI cnt), .int (nI x), .int (nI x), .int isw, .int ods, .ref (o 5), .ref (o 6)])), (o 4, .inl (g.2.1, 120, .inl tx)), (o 6, .inl (g.2.1, 72, .inl nu))]) (st1 := [.int 0]) E hw [0] rfl (x_runV (rest := []) E hw (c_X8_stopsHere l g o hs bads nos fuls cau whe cnt x fau isw ods ) km_X8_165 kv_X8_stopsHere [0] rfl (by decide) 0 rfl hl.1 rfl rfl (Nat.le_of_ble_eq_true rfl) ⟨Nat.le_of_ble_eq_true rfl, Nat.le_of_ble_eq_true rfl⟩ ⟨Nat.zero_le _, Nat.zero_le _⟩ dX8_number_113) rfl rfl rfl (fun H locs hw => ?_)
              have hno : ¬ nmOk false tx cnt p := nm_f1 hD cf
              exact xr_z hQ E hr hw dX8_number_116 (by decide) ⟨congrArg (fun z => some (Value.int z)) ((bI_f hno).symm), (by simp only [if_neg hno, hD])⟩
        · refine lv_iload hx hb dX8_number_63 (lv_at hl 0 rfl) ?_
          refine lv_iconst (v := 3) hx hb dX8_number_65 (by decide) ?_
          refine xn_ge (tgt := 100) hx hb k 3 rfl rfl (by omega) (by omega) dX8_number_66 (by decide) (fun ck => ?_) (fun ck => ?_)
          · have hD : nmD false tx cnt p = (v, x) := by rw [nmD, hS, ← hv, show 3 - k = 0 by omega]; rfl
            refine lv_iload hx hb dX8_number_100 (lv_at hl 0 rfl) ?_
            refine xz_eq (tgt := 112) hx hb k rfl (by omega) dX8_number_102 (by decide) (fun cz => ?_) (fun cz => ?_)
            · refine lv_aload_n hx hb dX8_number_112 rfl (lv_at hl 2 rfl) ?_
              refine x_go (ws' := [(o 0, .inr (8, [.ref (o 1), .ref (o 2), .int (nI hs), .int bads, .int nos, .int fuls, .int cau, .int whe, .ref (o 3), .ref (o 4), .int (nI cnt), .int (nI x), .int (nI x), .int isw, .int ods, .ref (o 5), .ref (o 6)])), (o 4, .inl (g.2.1, 120, .inl tx)), (o 6, .inl (g.2.1, 72, .inl nu))]) (st1 := [.int 0]) E hw [0] rfl (x_runV (rest := []) E hw (c_X8_stopsHere l g o hs bads nos fuls cau whe cnt x fau isw ods ) km_X8_165 kv_X8_stopsHere [0] rfl (by decide) 0 rfl hl.1 rfl rfl (Nat.le_of_ble_eq_true rfl) ⟨Nat.le_of_ble_eq_true rfl, Nat.le_of_ble_eq_true rfl⟩ ⟨Nat.zero_le _, Nat.zero_le _⟩ dX8_number_113) rfl rfl rfl (fun H locs hw => ?_)
              have hno : ¬ nmOk false tx cnt p := nm_f0 hS hD (by omega)
              exact xr_z hQ E hr hw dX8_number_116 (by decide) ⟨congrArg (fun z => some (Value.int z)) ((bI_f hno).symm), (by simp only [if_neg hno, hD])⟩
            · refine lv_aload_n hx hb dX8_number_105 rfl (lv_at hl 2 rfl) ?_
              refine x_goR (st1 := [.int (bI (x < cnt ∧ (48 ≤ tx x ∧ tx x ≤ 57)))]) E hw [0, 1] rfl (x_runV (rest := []) E hw (c_X8_isFigure l g o hs bads nos fuls cau whe cnt x fau isw ods tx (by omega) hxc) km_X8_169 kv_X8_isFigure [0, 1] rfl (by decide) 0 rfl hl.1 rfl rfl (Nat.le_of_ble_eq_true rfl) ⟨Nat.le_of_ble_eq_true rfl, Nat.le_of_ble_eq_true rfl⟩ ⟨Nat.zero_le _, Nat.zero_le _⟩ dX8_number_106) rfl (fun H locs hw => ?_)
              refine xb_eq (tgt := 117) hx hb dX8_number_109 (by decide) (fun cf => ?_) (fun cf => ?_)
              · refine lv_aload_n hx hb dX8_number_117 rfl (lv_at hl 2 rfl) ?_
                refine x_get E hw kf_X8_29 0 rfl rfl dX8_number_118 ?_
                refine lv_iload_n hx hb dX8_number_121 rfl (lv_at hl 3 rfl) ?_
                refine lv_iload_n hx hb dX8_number_122 rfl (lv_at hl 4 rfl) ?_
                refine lv_if_eq (tgt := 132) hx hb dX8_number_123 (by decide) (fun _ => ?_) (fun h => absurd h (by decide))
                refine lv_iload hx hb dX8_number_132 (lv_at hl 1 rfl) ?_
                refine x_ist E hw 2 rfl u rfl (by omega) (by decide) (ws' := [(o 0, .inr (8, [.ref (o 1), .ref (o 2), .int (nI hs), .int bads, .int nos, .int fuls, .int cau, .int whe, .ref (o 3), .ref (o 4), .int (nI cnt), .int (nI x), .int fau, .int isw, .int ods, .ref (o 5), .ref (o 6)])), (o 4, .inl (g.2.1, 120, .inl tx)), (o 6, .inl (g.2.1, 72, .inl (upd nu u v)))]) rfl dX8_number_134 (fun H locs hw => ?_)
                refine lv_iconst (v := 1) hx hb dX8_number_135 (by decide) ?_
                have hok : nmOk false tx cnt p := nm_t hS hD (by omega) cf
                exact xr_z hQ E hr hw dX8_number_136 (by decide) ⟨congrArg (fun z => some (Value.int z)) ((bI_t hok).symm), (by simp only [if_pos hok, hD, hN])⟩
              · refine lv_aload_n hx hb dX8_number_112 rfl (lv_at hl 2 rfl) ?_
                refine x_go (ws' := [(o 0, .inr (8, [.ref (o 1), .ref (o 2), .int (nI hs), .int bads, .int nos, .int fuls, .int cau, .int whe, .ref (o 3), .ref (o 4), .int (nI cnt), .int (nI x), .int (nI x), .int isw, .int ods, .ref (o 5), .ref (o 6)])), (o 4, .inl (g.2.1, 120, .inl tx)), (o 6, .inl (g.2.1, 72, .inl nu))]) (st1 := [.int 0]) E hw [0] rfl (x_runV (rest := []) E hw (c_X8_stopsHere l g o hs bads nos fuls cau whe cnt x fau isw ods ) km_X8_165 kv_X8_stopsHere [0] rfl (by decide) 0 rfl hl.1 rfl rfl (Nat.le_of_ble_eq_true rfl) ⟨Nat.le_of_ble_eq_true rfl, Nat.le_of_ble_eq_true rfl⟩ ⟨Nat.zero_le _, Nat.zero_le _⟩ dX8_number_113) rfl rfl rfl (fun H locs hw => ?_)
                have hno : ¬ nmOk false tx cnt p := nm_f1 hD cf
                exact xr_z hQ E hr hw dX8_number_116 (by decide) ⟨congrArg (fun z => some (Value.int z)) ((bI_f hno).symm), (by simp only [if_neg hno, hD])⟩
          · refine lv_bipush (v := 10) hx hb dX8_number_69 (by decide) ?_
            refine lv_iload hx hb dX8_number_71 (lv_at hl 1 rfl) ?_
            refine lv_imul hx hb dX8_number_73 ?_
            refine lv_aload_n hx hb dX8_number_74 rfl (lv_at hl 2 rfl) ?_
            refine x_goR (st1 := [.int (hrF tx cnt x), .int (10 * v)]) E hw [0, 1] rfl (x_runV (rest := [.int (10 * v)]) E hw (c_X8_here l g o hs bads nos fuls cau whe cnt x fau isw ods tx (by omega) hxc) km_X8_152 kv_X8_here [0, 1] rfl (by decide) 0 rfl hl.1 rfl rfl (Nat.le_of_ble_eq_true rfl) ⟨Nat.le_of_ble_eq_true rfl, Nat.le_of_ble_eq_true rfl⟩ ⟨Nat.zero_le _, Nat.zero_le _⟩ dX8_number_75) rfl (fun H locs hw => ?_)
            refine x_top (v' := .int (tx x)) (congrArg Value.int (if_pos cg.1)) ?_
            refine lv_iadd hx hb dX8_number_78 ?_
            refine lv_bipush (v := 48) hx hb dX8_number_79 (by decide) ?_
            refine lv_isub hx hb dX8_number_81 ?_
            refine lv_istore (lv' := [(4, .int (((10 * v) + tx x) - 48)), (5, .int (nI k)), (0, .ref (o 0)), (2, .int (nI u)), (3, .int 0)]) hx hb dX8_number_82 hl (by decide) rfl (fun ls hl => ?_)
            refine lv_iinc (v := nI (k + 1)) (lv' := [(5, .int (nI (k + 1))), (4, .int (((10 * v) + tx x) - 48)), (0, .ref (o 0)), (2, .int (nI u)), (3, .int 0)]) hx hb dX8_number_84 hl (k := 1) rfl (nI_1 _) (by decide) rfl (fun ls hl => ?_)
            refine lv_aload_n hx hb dX8_number_87 rfl (lv_at hl 2 rfl) ?_
            refine lv_dup hx hb dX8_number_88 rfl ?_
            refine x_get E hw kf_X8_149 0 rfl rfl dX8_number_89 ?_
            refine lv_iconst (v := 1) hx hb dX8_number_92 (by decide) ?_
            refine xn_add hx hb x 1 rfl rfl dX8_number_93 ?_
            refine x_put E hw kf_X8_149 kp_X8_11 0 rfl (ty := .int) (by decide +kernel) rfl rfl (by simp) (ws' := [(o 0, .inr (8, [.ref (o 1), .ref (o 2), .int (nI hs), .int bads, .int nos, .int fuls, .int cau, .int whe, .ref (o 3), .ref (o 4), .int (nI cnt), .int (nI (x + 1)), .int fau, .int isw, .int ods, .ref (o 5), .ref (o 6)])), (o 4, .inl (g.2.1, 120, .inl tx)), (o 6, .inl (g.2.1, 72, .inl nu))]) rfl dX8_number_94 (fun H locs hw => ?_)
            refine lv_goto (tgt := 56) hx hb dX8_number_97 (by decide) ?_
            have hl : lv_has ls 6 [(5, .int (nI (k + 1))), (4, .int (((10 * v) + tx x) - 48)), (0, .ref (o 0)), (2, .int (nI u)), (3, .int 0)] := lv_sub hl [0, 1, 2, 3, 4] rfl
            have hl : lv_has ls 6 [(5, .int (nI (k + 1))), (4, .int (((10 * v) + tx x) - 48)), (0, .ref (o 0)), (2, .int (nI u)), (3, .int 0)] := hl
            have hw : xW g A0 s0 [(o 0, .inr (8, [.ref (o 1), .ref (o 2), .int (nI hs), .int bads, .int nos, .int fuls, .int cau, .int whe, .ref (o 3), .ref (o 4), .int (nI cnt), .int (nI (x + 1)), .int fau, .int isw, .int ods, .ref (o 5), .ref (o 6)])), (o 4, .inl (g.2.1, 120, .inl tx)), (o 6, .inl (g.2.1, 72, .inl nu))] _ _ := hw
            exact ih (k + 1) (((10 * v) + tx x) - 48) (x + 1) (by omega) (by omega) (by omega) cg.1 ((dgs_st (by omega) cg).symm.trans hv) _ _ _ hw hl
    have hl : lv_has ls 6 [(5, .int 0), (4, .int 0), (0, .ref (o 0)), (2, .int (nI u)), (3, .int 0)] := lv_sub hl [0, 1, 3, 5, 2] rfl
    have hl : lv_has ls 6 [(5, .int 0), (4, .int 0), (0, .ref (o 0)), (2, .int (nI u)), (3, .int 0)] := hl
    have hw : xW g A0 s0 [(o 0, .inr (8, [.ref (o 1), .ref (o 2), .int (nI hs), .int bads, .int nos, .int fuls, .int cau, .int whe, .ref (o 3), .ref (o 4), .int (nI cnt), .int (nI (skB tx (cnt - p) p)), .int fau, .int isw, .int ods, .ref (o 5), .ref (o 6)])), (o 4, .inl (g.2.1, 120, .inl tx)), (o 6, .inl (g.2.1, 72, .inl nu))] _ _ := hw
    exact lp_56 ((3 - 0) + 1) 0 0 (skB tx (cnt - p) p) (Nat.lt_succ_self _) (by omega) rfl (skB_le hp) rfl _ _ _ hw hl
  · refine lv_iconst (v := 1) hx hb dX8_number_13 (by decide) ?_
    refine lv_goto (tgt := 18) hx hb dX8_number_14 (by decide) ?_
    refine lv_istore_n (lv' := [(3, .int 1), (0, .ref (o 0)), (1, .int 0), (2, .int (nI u))]) hx hb dX8_number_18 rfl hl (by decide) rfl (fun ls hl => ?_)
    refine lv_iload_n hx hb dX8_number_19 rfl (lv_at hl 0 rfl) ?_
    refine lv_if_eq (tgt := 32) hx hb dX8_number_20 (by decide) (fun h => absurd h (by decide)) (fun _ => ?_)
    refine lv_iload_n hx hb dX8_number_23 rfl (lv_at hl 2 rfl) ?_
    refine lv_if_ne (tgt := 32) hx hb dX8_number_24 (by decide) (fun h => absurd h (by decide)) (fun _ => ?_)
    refine lv_aload_n hx hb dX8_number_27 rfl (lv_at hl 1 rfl) ?_
    refine x_go (ws' := [(o 0, .inr (8, [.ref (o 1), .ref (o 2), .int (nI hs), .int bads, .int nos, .int fuls, .int cau, .int whe, .ref (o 3), .ref (o 4), .int (nI cnt), .int (nI (skB tx (cnt - p) p)), .int (nI (skB tx (cnt - p) p)), .int isw, .int ods, .ref (o 5), .ref (o 6)])), (o 4, .inl (g.2.1, 120, .inl tx)), (o 6, .inl (g.2.1, 72, .inl nu))]) (st1 := [.int 0]) E hw [0] rfl (x_runV (rest := []) E hw (c_X8_stopsHere l g o hs bads nos fuls cau whe cnt (skB tx (cnt - p) p) fau isw ods ) km_X8_165 kv_X8_stopsHere [0] rfl (by decide) 0 rfl hl.1 rfl rfl (Nat.le_of_ble_eq_true rfl) ⟨Nat.le_of_ble_eq_true rfl, Nat.le_of_ble_eq_true rfl⟩ ⟨Nat.zero_le _, Nat.zero_le _⟩ dX8_number_28) rfl rfl rfl (fun H locs hw => ?_)
    have hS : nmS false tx cnt p = skB tx (cnt - p) p := if_neg (fun z => absurd z.1 (by decide))
    have hD : nmD false tx cnt p = (0, skB tx (cnt - p) p) := nmD_45 ((hr_eq (by decide)).mp cm).2
    have hno : ¬ nmOk false tx cnt p := nm_f0 hS hD (Nat.le_refl _)
    exact xr_z hQ E hr hw dX8_number_31 (by decide) ⟨congrArg (fun z => some (Value.int z)) ((bI_f hno).symm), (by simp only [if_neg hno, hD])⟩

set_option maxRecDepth 100000 in
set_option maxHeartbeats 4000000 in
theorem c_X8_number_1 (l : Launch) (g : xCfg) (o : Nat → Nat) (hs : Nat) (bads : Int32) (nos : Int32) (fuls : Int32) (cau : Int32) (whe : Int32) (cnt : Nat) (p : Nat) (fau : Int32) (isw : Int32) (ods : Int32) (tx : Nat → Int32) (nu : Nat → Int32) (u : Nat) (hc : cnt ≤ 120) (hp : p ≤ cnt) (hu : u < 72) : Ct l g yX8_number cX8_number 6 (some .boolean) (xR 2 42) [.ref (o 0), .int 1, .int (nI u)] [(o 0, .inr (8, [.ref (o 1), .ref (o 2), .int (nI hs), .int bads, .int nos, .int fuls, .int cau, .int whe, .ref (o 3), .ref (o 4), .int (nI cnt), .int (nI p), .int fau, .int isw, .int ods, .ref (o 5), .ref (o 6)])), (o 4, .inl (g.2.1, 120, .inl tx)), (o 6, .inl (g.2.1, 72, .inl nu))] (is1 (some (.int (bI (nmOk true tx cnt p)))) [(o 0, .inr (8, [.ref (o 1), .ref (o 2), .int (nI hs), .int bads, .int nos, .int fuls, .int cau, .int whe, .ref (o 3), .ref (o 4), .int (nI cnt), .int (nI ((nmD true tx cnt p).2)), .int (if nmOk true tx cnt p then fau else nI (nmD true tx cnt p).2), .int isw, .int ods, .ref (o 5), .ref (o 6)])), (o 4, .inl (g.2.1, 120, .inl tx)), (o 6, .inl (g.2.1, 72, .inl (if nmOk true tx cnt p then upd nu u (nmV true tx cnt p) else nu)))]) := by
  refine Ct.walk (by decide) (Nat.le_of_ble_eq_true rfl) ?_
  intro p0 e0 s0 m0 below meth c0 A0 ls Q hQ E hr hnm hw hl
  have hx := E.x
  have hb := E.b
  have hl : lv_has ls 6 [(0, .ref (o 0)), (1, .int 1), (2, .int (nI u))] := hl
  refine lv_aload_n hx hb dX8_number_0 rfl (lv_at hl 0 rfl) ?_
  refine x_go (ws' := [(o 0, .inr (8, [.ref (o 1), .ref (o 2), .int (nI hs), .int bads, .int nos, .int fuls, .int cau, .int whe, .ref (o 3), .ref (o 4), .int (nI cnt), .int (nI (skB tx (cnt - p) p)), .int fau, .int isw, .int ods, .ref (o 5), .ref (o 6)])), (o 4, .inl (g.2.1, 120, .inl tx)), (o 6, .inl (g.2.1, 72, .inl nu))]) (st1 := []) E hw [0, 1] rfl (x_runV (rest := []) E hw (c_X8_skips l g o hs bads nos fuls cau whe cnt p fau isw ods tx (by omega) hp) km_X8_162 kv_X8_skips [0, 1] rfl (by decide) 0 rfl hl.1 rfl rfl (Nat.le_of_ble_eq_true rfl) ⟨Nat.le_of_ble_eq_true rfl, Nat.le_of_ble_eq_true rfl⟩ ⟨Nat.zero_le _, Nat.zero_le _⟩ dX8_number_1) rfl rfl rfl (fun H locs hw => ?_)
  refine lv_aload_n hx hb dX8_number_4 rfl (lv_at hl 0 rfl) ?_
  refine x_goR (st1 := [.int (hrF tx cnt (skB tx (cnt - p) p))]) E hw [0, 1] rfl (x_runV (rest := []) E hw (c_X8_here l g o hs bads nos fuls cau whe cnt (skB tx (cnt - p) p) fau isw ods tx (by omega) (skB_le hp)) km_X8_152 kv_X8_here [0, 1] rfl (by decide) 0 rfl hl.1 rfl rfl (Nat.le_of_ble_eq_true rfl) ⟨Nat.le_of_ble_eq_true rfl, Nat.le_of_ble_eq_true rfl⟩ ⟨Nat.zero_le _, Nat.zero_le _⟩ dX8_number_5) rfl (fun H locs hw => ?_)
  refine lv_bipush (v := 45) hx hb dX8_number_8 (by decide) ?_
  refine lv_icmp_ne (tgt := 17) hx hb dX8_number_10 (by decide) (fun cm => ?_) (fun cm => ?_)
  · refine lv_iconst (v := 0) hx hb dX8_number_17 (by decide) ?_
    refine lv_istore_n (lv' := [(3, .int 0), (0, .ref (o 0)), (1, .int 1), (2, .int (nI u))]) hx hb dX8_number_18 rfl hl (by decide) rfl (fun ls hl => ?_)
    refine lv_iload_n hx hb dX8_number_19 rfl (lv_at hl 0 rfl) ?_
    refine lv_if_eq (tgt := 32) hx hb dX8_number_20 (by decide) (fun _ => ?_) (fun h => absurd h (by decide))
    refine lv_aload_n hx hb dX8_number_32 rfl (lv_at hl 1 rfl) ?_
    refine lv_dup hx hb dX8_number_33 rfl ?_
    refine x_get E hw kf_X8_149 0 rfl rfl dX8_number_34 ?_
    refine lv_iload_n hx hb dX8_number_37 rfl (lv_at hl 0 rfl) ?_
    refine lv_if_eq (tgt := 45) hx hb dX8_number_38 (by decide) (fun _ => ?_) (fun h => absurd h (by decide))
    refine lv_iconst (v := 0) hx hb dX8_number_45 (by decide) ?_
    refine xn_add hx hb (skB tx (cnt - p) p) 0 rfl rfl dX8_number_46 ?_
    refine x_topi (x' := nI (skB tx (cnt - p) p)) rfl ?_
    refine x_put E hw kf_X8_149 kp_X8_11 0 rfl (ty := .int) (by decide +kernel) rfl rfl (by simp) (ws' := [(o 0, .inr (8, [.ref (o 1), .ref (o 2), .int (nI hs), .int bads, .int nos, .int fuls, .int cau, .int whe, .ref (o 3), .ref (o 4), .int (nI cnt), .int (nI (skB tx (cnt - p) p)), .int fau, .int isw, .int ods, .ref (o 5), .ref (o 6)])), (o 4, .inl (g.2.1, 120, .inl tx)), (o 6, .inl (g.2.1, 72, .inl nu))]) rfl dX8_number_47 (fun H locs hw => ?_)
    have hS : nmS true tx cnt p = skB tx (cnt - p) p := if_neg (fun z => cm ((hr_eq (by decide)).mpr z.2))
    have hN : nmV true tx cnt p = (nmD true tx cnt p).1 := if_neg (fun z => cm ((hr_eq (by decide)).mpr z.2))
    refine lv_iconst (v := 0) hx hb dX8_number_50 (by decide) ?_
    refine lv_istore (lv' := [(4, .int 0), (3, .int 0), (0, .ref (o 0)), (1, .int 1), (2, .int (nI u))]) hx hb dX8_number_51 hl (by decide) rfl (fun ls hl => ?_)
    refine lv_iconst (v := 0) hx hb dX8_number_53 (by decide) ?_
    refine lv_istore (lv' := [(5, .int 0), (4, .int 0), (3, .int 0), (0, .ref (o 0)), (1, .int 1), (2, .int (nI u))]) hx hb dX8_number_54 hl (by decide) rfl (fun ls hl => ?_)
    have lp_56 : ∀ (fuel : Nat) (k : Nat) (v : Int32) (x : Nat), 3 - k < fuel → k ≤ 3 → x = skB tx (cnt - p) p + k → x ≤ cnt → dgs tx cnt (3 - k) v x = dgs tx cnt 3 0 (skB tx (cnt - p) p) → ∀ (H : Heap) (locs : List Loc) (ls : Array Slot), xW g A0 s0 [(o 0, .inr (8, [.ref (o 1), .ref (o 2), .int (nI hs), .int bads, .int nos, .int fuls, .int cau, .int whe, .ref (o 3), .ref (o 4), .int (nI cnt), .int (nI x), .int fau, .int isw, .int ods, .ref (o 5), .ref (o 6)])), (o 4, .inl (g.2.1, 120, .inl tx)), (o 6, .inl (g.2.1, 72, .inl nu))] H locs → lv_has ls 6 [(5, .int (nI k)), (4, .int v), (0, .ref (o 0)), (2, .int (nI u)), (3, .int 0)] → W p0 l e0 (xR 2 42) s0 m0 [.ref (o 0), .int 1, .int (nI u)].toArray below meth c0 H locs 0 0 Q (F0 m0 56 ls []) := by
      intro fuel
      induction fuel with
      | zero => intro k v x hm; exact absurd hm (Nat.not_lt_zero _)
      | succ fuel ih =>
        intro k v x hm hk hxk hxc hv H locs ls hw hl
        refine lv_aload_n hx hb dX8_number_56 rfl (lv_at hl 2 rfl) ?_
        refine x_goR (st1 := [.int (bI (x < cnt ∧ (48 ≤ tx x ∧ tx x ≤ 57)))]) E hw [0, 1] rfl (x_runV (rest := []) E hw (c_X8_isFigure l g o hs bads nos fuls cau whe cnt x fau isw ods tx (by omega) hxc) km_X8_169 kv_X8_isFigure [0, 1] rfl (by decide) 0 rfl hl.1 rfl rfl (Nat.le_of_ble_eq_true rfl) ⟨Nat.le_of_ble_eq_true rfl, Nat.le_of_ble_eq_true rfl⟩ ⟨Nat.zero_le _, Nat.zero_le _⟩ dX8_number_57) rfl (fun H locs hw => ?_)
        refine xb_eq (tgt := 100) hx hb dX8_number_60 (by decide) (fun cg => ?_) (fun cg => ?_)
        · have hD : nmD true tx cnt p = (v, x) := by rw [nmD, hS, ← hv]; exact dgs_no cg
          refine lv_iload hx hb dX8_number_100 (lv_at hl 0 rfl) ?_
          refine xz_eq (tgt := 112) hx hb k rfl (by omega) dX8_number_102 (by decide) (fun cz => ?_) (fun cz => ?_)
          · refine lv_aload_n hx hb dX8_number_112 rfl (lv_at hl 2 rfl) ?_
            refine x_go (ws' := [(o 0, .inr (8, [.ref (o 1), .ref (o 2), .int (nI hs), .int bads, .int nos, .int fuls, .int cau, .int whe, .ref (o 3), .ref (o 4), .int (nI cnt), .int (nI x), .int (nI x), .int isw, .int ods, .ref (o 5), .ref (o 6)])), (o 4, .inl (g.2.1, 120, .inl tx)), (o 6, .inl (g.2.1, 72, .inl nu))]) (st1 := [.int 0]) E hw [0] rfl (x_runV (rest := []) E hw (c_X8_stopsHere l g o hs bads nos fuls cau whe cnt x fau isw ods ) km_X8_165 kv_X8_stopsHere [0] rfl (by decide) 0 rfl hl.1 rfl rfl (Nat.le_of_ble_eq_true rfl) ⟨Nat.le_of_ble_eq_true rfl, Nat.le_of_ble_eq_true rfl⟩ ⟨Nat.zero_le _, Nat.zero_le _⟩ dX8_number_113) rfl rfl rfl (fun H locs hw => ?_)
            have hno : ¬ nmOk true tx cnt p := nm_f0 hS hD (by omega)
            exact xr_z hQ E hr hw dX8_number_116 (by decide) ⟨congrArg (fun z => some (Value.int z)) ((bI_f hno).symm), (by simp only [if_neg hno, hD])⟩
          · refine lv_aload_n hx hb dX8_number_105 rfl (lv_at hl 2 rfl) ?_
            refine x_goR (st1 := [.int (bI (x < cnt ∧ (48 ≤ tx x ∧ tx x ≤ 57)))]) E hw [0, 1] rfl (x_runV (rest := []) E hw (c_X8_isFigure l g o hs bads nos fuls cau whe cnt x fau isw ods tx (by omega) hxc) km_X8_169 kv_X8_isFigure [0, 1] rfl (by decide) 0 rfl hl.1 rfl rfl (Nat.le_of_ble_eq_true rfl) ⟨Nat.le_of_ble_eq_true rfl, Nat.le_of_ble_eq_true rfl⟩ ⟨Nat.zero_le _, Nat.zero_le _⟩ dX8_number_106) rfl (fun H locs hw => ?_)
            refine xb_eq (tgt := 117) hx hb dX8_number_109 (by decide) (fun cf => ?_) (fun cf => ?_)
            · refine lv_aload_n hx hb dX8_number_117 rfl (lv_at hl 2 rfl) ?_
              refine x_get E hw kf_X8_29 0 rfl rfl dX8_number_118 ?_
              refine lv_iload_n hx hb dX8_number_121 rfl (lv_at hl 3 rfl) ?_
              refine lv_iload_n hx hb dX8_number_122 rfl (lv_at hl 4 rfl) ?_
              refine lv_if_eq (tgt := 132) hx hb dX8_number_123 (by decide) (fun _ => ?_) (fun h => absurd h (by decide))
              refine lv_iload hx hb dX8_number_132 (lv_at hl 1 rfl) ?_
              refine x_ist E hw 2 rfl u rfl (by omega) (by decide) (ws' := [(o 0, .inr (8, [.ref (o 1), .ref (o 2), .int (nI hs), .int bads, .int nos, .int fuls, .int cau, .int whe, .ref (o 3), .ref (o 4), .int (nI cnt), .int (nI x), .int fau, .int isw, .int ods, .ref (o 5), .ref (o 6)])), (o 4, .inl (g.2.1, 120, .inl tx)), (o 6, .inl (g.2.1, 72, .inl (upd nu u v)))]) rfl dX8_number_134 (fun H locs hw => ?_)
              refine lv_iconst (v := 1) hx hb dX8_number_135 (by decide) ?_
              have hok : nmOk true tx cnt p := nm_t hS hD (by omega) cf
              exact xr_z hQ E hr hw dX8_number_136 (by decide) ⟨congrArg (fun z => some (Value.int z)) ((bI_t hok).symm), (by simp only [if_pos hok, hD, hN])⟩
            · refine lv_aload_n hx hb dX8_number_112 rfl (lv_at hl 2 rfl) ?_
              refine x_go (ws' := [(o 0, .inr (8, [.ref (o 1), .ref (o 2), .int (nI hs), .int bads, .int nos, .int fuls, .int cau, .int whe, .ref (o 3), .ref (o 4), .int (nI cnt), .int (nI x), .int (nI x), .int isw, .int ods, .ref (o 5), .ref (o 6)])), (o 4, .inl (g.2.1, 120, .inl tx)), (o 6, .inl (g.2.1, 72, .inl nu))]) (st1 := [.int 0]) E hw [0] rfl (x_runV (rest := []) E hw (c_X8_stopsHere l g o hs bads nos fuls cau whe cnt x fau isw ods ) km_X8_165 kv_X8_stopsHere [0] rfl (by decide) 0 rfl hl.1 rfl rfl (Nat.le_of_ble_eq_true rfl) ⟨Nat.le_of_ble_eq_true rfl, Nat.le_of_ble_eq_true rfl⟩ ⟨Nat.zero_le _, Nat.zero_le _⟩ dX8_number_113) rfl rfl rfl (fun H locs hw => ?_)
              have hno : ¬ nmOk true tx cnt p := nm_f1 hD cf
              exact xr_z hQ E hr hw dX8_number_116 (by decide) ⟨congrArg (fun z => some (Value.int z)) ((bI_f hno).symm), (by simp only [if_neg hno, hD])⟩
        · refine lv_iload hx hb dX8_number_63 (lv_at hl 0 rfl) ?_
          refine lv_iconst (v := 3) hx hb dX8_number_65 (by decide) ?_
          refine xn_ge (tgt := 100) hx hb k 3 rfl rfl (by omega) (by omega) dX8_number_66 (by decide) (fun ck => ?_) (fun ck => ?_)
          · have hD : nmD true tx cnt p = (v, x) := by rw [nmD, hS, ← hv, show 3 - k = 0 by omega]; rfl
            refine lv_iload hx hb dX8_number_100 (lv_at hl 0 rfl) ?_
            refine xz_eq (tgt := 112) hx hb k rfl (by omega) dX8_number_102 (by decide) (fun cz => ?_) (fun cz => ?_)
            · refine lv_aload_n hx hb dX8_number_112 rfl (lv_at hl 2 rfl) ?_
              refine x_go (ws' := [(o 0, .inr (8, [.ref (o 1), .ref (o 2), .int (nI hs), .int bads, .int nos, .int fuls, .int cau, .int whe, .ref (o 3), .ref (o 4), .int (nI cnt), .int (nI x), .int (nI x), .int isw, .int ods, .ref (o 5), .ref (o 6)])), (o 4, .inl (g.2.1, 120, .inl tx)), (o 6, .inl (g.2.1, 72, .inl nu))]) (st1 := [.int 0]) E hw [0] rfl (x_runV (rest := []) E hw (c_X8_stopsHere l g o hs bads nos fuls cau whe cnt x fau isw ods ) km_X8_165 kv_X8_stopsHere [0] rfl (by decide) 0 rfl hl.1 rfl rfl (Nat.le_of_ble_eq_true rfl) ⟨Nat.le_of_ble_eq_true rfl, Nat.le_of_ble_eq_true rfl⟩ ⟨Nat.zero_le _, Nat.zero_le _⟩ dX8_number_113) rfl rfl rfl (fun H locs hw => ?_)
              have hno : ¬ nmOk true tx cnt p := nm_f0 hS hD (by omega)
              exact xr_z hQ E hr hw dX8_number_116 (by decide) ⟨congrArg (fun z => some (Value.int z)) ((bI_f hno).symm), (by simp only [if_neg hno, hD])⟩
            · refine lv_aload_n hx hb dX8_number_105 rfl (lv_at hl 2 rfl) ?_
              refine x_goR (st1 := [.int (bI (x < cnt ∧ (48 ≤ tx x ∧ tx x ≤ 57)))]) E hw [0, 1] rfl (x_runV (rest := []) E hw (c_X8_isFigure l g o hs bads nos fuls cau whe cnt x fau isw ods tx (by omega) hxc) km_X8_169 kv_X8_isFigure [0, 1] rfl (by decide) 0 rfl hl.1 rfl rfl (Nat.le_of_ble_eq_true rfl) ⟨Nat.le_of_ble_eq_true rfl, Nat.le_of_ble_eq_true rfl⟩ ⟨Nat.zero_le _, Nat.zero_le _⟩ dX8_number_106) rfl (fun H locs hw => ?_)
              refine xb_eq (tgt := 117) hx hb dX8_number_109 (by decide) (fun cf => ?_) (fun cf => ?_)
              · refine lv_aload_n hx hb dX8_number_117 rfl (lv_at hl 2 rfl) ?_
                refine x_get E hw kf_X8_29 0 rfl rfl dX8_number_118 ?_
                refine lv_iload_n hx hb dX8_number_121 rfl (lv_at hl 3 rfl) ?_
                refine lv_iload_n hx hb dX8_number_122 rfl (lv_at hl 4 rfl) ?_
                refine lv_if_eq (tgt := 132) hx hb dX8_number_123 (by decide) (fun _ => ?_) (fun h => absurd h (by decide))
                refine lv_iload hx hb dX8_number_132 (lv_at hl 1 rfl) ?_
                refine x_ist E hw 2 rfl u rfl (by omega) (by decide) (ws' := [(o 0, .inr (8, [.ref (o 1), .ref (o 2), .int (nI hs), .int bads, .int nos, .int fuls, .int cau, .int whe, .ref (o 3), .ref (o 4), .int (nI cnt), .int (nI x), .int fau, .int isw, .int ods, .ref (o 5), .ref (o 6)])), (o 4, .inl (g.2.1, 120, .inl tx)), (o 6, .inl (g.2.1, 72, .inl (upd nu u v)))]) rfl dX8_number_134 (fun H locs hw => ?_)
                refine lv_iconst (v := 1) hx hb dX8_number_135 (by decide) ?_
                have hok : nmOk true tx cnt p := nm_t hS hD (by omega) cf
                exact xr_z hQ E hr hw dX8_number_136 (by decide) ⟨congrArg (fun z => some (Value.int z)) ((bI_t hok).symm), (by simp only [if_pos hok, hD, hN])⟩
              · refine lv_aload_n hx hb dX8_number_112 rfl (lv_at hl 2 rfl) ?_
                refine x_go (ws' := [(o 0, .inr (8, [.ref (o 1), .ref (o 2), .int (nI hs), .int bads, .int nos, .int fuls, .int cau, .int whe, .ref (o 3), .ref (o 4), .int (nI cnt), .int (nI x), .int (nI x), .int isw, .int ods, .ref (o 5), .ref (o 6)])), (o 4, .inl (g.2.1, 120, .inl tx)), (o 6, .inl (g.2.1, 72, .inl nu))]) (st1 := [.int 0]) E hw [0] rfl (x_runV (rest := []) E hw (c_X8_stopsHere l g o hs bads nos fuls cau whe cnt x fau isw ods ) km_X8_165 kv_X8_stopsHere [0] rfl (by decide) 0 rfl hl.1 rfl rfl (Nat.le_of_ble_eq_true rfl) ⟨Nat.le_of_ble_eq_true rfl, Nat.le_of_ble_eq_true rfl⟩ ⟨Nat.zero_le _, Nat.zero_le _⟩ dX8_number_113) rfl rfl rfl (fun H locs hw => ?_)
                have hno : ¬ nmOk true tx cnt p := nm_f1 hD cf
                exact xr_z hQ E hr hw dX8_number_116 (by decide) ⟨congrArg (fun z => some (Value.int z)) ((bI_f hno).symm), (by simp only [if_neg hno, hD])⟩
          · refine lv_bipush (v := 10) hx hb dX8_number_69 (by decide) ?_
            refine lv_iload hx hb dX8_number_71 (lv_at hl 1 rfl) ?_
            refine lv_imul hx hb dX8_number_73 ?_
            refine lv_aload_n hx hb dX8_number_74 rfl (lv_at hl 2 rfl) ?_
            refine x_goR (st1 := [.int (hrF tx cnt x), .int (10 * v)]) E hw [0, 1] rfl (x_runV (rest := [.int (10 * v)]) E hw (c_X8_here l g o hs bads nos fuls cau whe cnt x fau isw ods tx (by omega) hxc) km_X8_152 kv_X8_here [0, 1] rfl (by decide) 0 rfl hl.1 rfl rfl (Nat.le_of_ble_eq_true rfl) ⟨Nat.le_of_ble_eq_true rfl, Nat.le_of_ble_eq_true rfl⟩ ⟨Nat.zero_le _, Nat.zero_le _⟩ dX8_number_75) rfl (fun H locs hw => ?_)
            refine x_top (v' := .int (tx x)) (congrArg Value.int (if_pos cg.1)) ?_
            refine lv_iadd hx hb dX8_number_78 ?_
            refine lv_bipush (v := 48) hx hb dX8_number_79 (by decide) ?_
            refine lv_isub hx hb dX8_number_81 ?_
            refine lv_istore (lv' := [(4, .int (((10 * v) + tx x) - 48)), (5, .int (nI k)), (0, .ref (o 0)), (2, .int (nI u)), (3, .int 0)]) hx hb dX8_number_82 hl (by decide) rfl (fun ls hl => ?_)
            refine lv_iinc (v := nI (k + 1)) (lv' := [(5, .int (nI (k + 1))), (4, .int (((10 * v) + tx x) - 48)), (0, .ref (o 0)), (2, .int (nI u)), (3, .int 0)]) hx hb dX8_number_84 hl (k := 1) rfl (nI_1 _) (by decide) rfl (fun ls hl => ?_)
            refine lv_aload_n hx hb dX8_number_87 rfl (lv_at hl 2 rfl) ?_
            refine lv_dup hx hb dX8_number_88 rfl ?_
            refine x_get E hw kf_X8_149 0 rfl rfl dX8_number_89 ?_
            refine lv_iconst (v := 1) hx hb dX8_number_92 (by decide) ?_
            refine xn_add hx hb x 1 rfl rfl dX8_number_93 ?_
            refine x_put E hw kf_X8_149 kp_X8_11 0 rfl (ty := .int) (by decide +kernel) rfl rfl (by simp) (ws' := [(o 0, .inr (8, [.ref (o 1), .ref (o 2), .int (nI hs), .int bads, .int nos, .int fuls, .int cau, .int whe, .ref (o 3), .ref (o 4), .int (nI cnt), .int (nI (x + 1)), .int fau, .int isw, .int ods, .ref (o 5), .ref (o 6)])), (o 4, .inl (g.2.1, 120, .inl tx)), (o 6, .inl (g.2.1, 72, .inl nu))]) rfl dX8_number_94 (fun H locs hw => ?_)
            refine lv_goto (tgt := 56) hx hb dX8_number_97 (by decide) ?_
            have hl : lv_has ls 6 [(5, .int (nI (k + 1))), (4, .int (((10 * v) + tx x) - 48)), (0, .ref (o 0)), (2, .int (nI u)), (3, .int 0)] := lv_sub hl [0, 1, 2, 3, 4] rfl
            have hl : lv_has ls 6 [(5, .int (nI (k + 1))), (4, .int (((10 * v) + tx x) - 48)), (0, .ref (o 0)), (2, .int (nI u)), (3, .int 0)] := hl
            have hw : xW g A0 s0 [(o 0, .inr (8, [.ref (o 1), .ref (o 2), .int (nI hs), .int bads, .int nos, .int fuls, .int cau, .int whe, .ref (o 3), .ref (o 4), .int (nI cnt), .int (nI (x + 1)), .int fau, .int isw, .int ods, .ref (o 5), .ref (o 6)])), (o 4, .inl (g.2.1, 120, .inl tx)), (o 6, .inl (g.2.1, 72, .inl nu))] _ _ := hw
            exact ih (k + 1) (((10 * v) + tx x) - 48) (x + 1) (by omega) (by omega) (by omega) cg.1 ((dgs_st (by omega) cg).symm.trans hv) _ _ _ hw hl
    have hl : lv_has ls 6 [(5, .int 0), (4, .int 0), (0, .ref (o 0)), (2, .int (nI u)), (3, .int 0)] := lv_sub hl [0, 1, 3, 5, 2] rfl
    have hl : lv_has ls 6 [(5, .int 0), (4, .int 0), (0, .ref (o 0)), (2, .int (nI u)), (3, .int 0)] := hl
    have hw : xW g A0 s0 [(o 0, .inr (8, [.ref (o 1), .ref (o 2), .int (nI hs), .int bads, .int nos, .int fuls, .int cau, .int whe, .ref (o 3), .ref (o 4), .int (nI cnt), .int (nI (skB tx (cnt - p) p)), .int fau, .int isw, .int ods, .ref (o 5), .ref (o 6)])), (o 4, .inl (g.2.1, 120, .inl tx)), (o 6, .inl (g.2.1, 72, .inl nu))] _ _ := hw
    exact lp_56 ((3 - 0) + 1) 0 0 (skB tx (cnt - p) p) (Nat.lt_succ_self _) (by omega) rfl (skB_le hp) rfl _ _ _ hw hl
  · refine lv_iconst (v := 1) hx hb dX8_number_13 (by decide) ?_
    refine lv_goto (tgt := 18) hx hb dX8_number_14 (by decide) ?_
    refine lv_istore_n (lv' := [(3, .int 1), (0, .ref (o 0)), (1, .int 1), (2, .int (nI u))]) hx hb dX8_number_18 rfl hl (by decide) rfl (fun ls hl => ?_)
    refine lv_iload_n hx hb dX8_number_19 rfl (lv_at hl 0 rfl) ?_
    refine lv_if_eq (tgt := 32) hx hb dX8_number_20 (by decide) (fun h => absurd h (by decide)) (fun _ => ?_)
    refine lv_iload_n hx hb dX8_number_23 rfl (lv_at hl 2 rfl) ?_
    refine lv_if_ne (tgt := 32) hx hb dX8_number_24 (by decide) (fun _ => ?_) (fun h => absurd h (by decide))
    refine lv_aload_n hx hb dX8_number_32 rfl (lv_at hl 1 rfl) ?_
    refine lv_dup hx hb dX8_number_33 rfl ?_
    refine x_get E hw kf_X8_149 0 rfl rfl dX8_number_34 ?_
    refine lv_iload_n hx hb dX8_number_37 rfl (lv_at hl 0 rfl) ?_
    refine lv_if_eq (tgt := 45) hx hb dX8_number_38 (by decide) (fun h => absurd h (by decide)) (fun _ => ?_)
    refine lv_iconst (v := 1) hx hb dX8_number_41 (by decide) ?_
    refine lv_goto (tgt := 46) hx hb dX8_number_42 (by decide) ?_
    refine xn_add hx hb (skB tx (cnt - p) p) 1 rfl rfl dX8_number_46 ?_
    refine x_put E hw kf_X8_149 kp_X8_11 0 rfl (ty := .int) (by decide +kernel) rfl rfl (by simp) (ws' := [(o 0, .inr (8, [.ref (o 1), .ref (o 2), .int (nI hs), .int bads, .int nos, .int fuls, .int cau, .int whe, .ref (o 3), .ref (o 4), .int (nI cnt), .int (nI (skB tx (cnt - p) p + 1)), .int fau, .int isw, .int ods, .ref (o 5), .ref (o 6)])), (o 4, .inl (g.2.1, 120, .inl tx)), (o 6, .inl (g.2.1, 72, .inl nu))]) rfl dX8_number_47 (fun H locs hw => ?_)
    have cM := (hr_eq (by decide)).mp cm
    have hS : nmS true tx cnt p = skB tx (cnt - p) p + 1 := if_pos ⟨rfl, cM⟩
    have hN : nmV true tx cnt p = -(nmD true tx cnt p).1 := if_pos ⟨rfl, cM⟩
    refine lv_iconst (v := 0) hx hb dX8_number_50 (by decide) ?_
    refine lv_istore (lv' := [(4, .int 0), (3, .int 1), (0, .ref (o 0)), (1, .int 1), (2, .int (nI u))]) hx hb dX8_number_51 hl (by decide) rfl (fun ls hl => ?_)
    refine lv_iconst (v := 0) hx hb dX8_number_53 (by decide) ?_
    refine lv_istore (lv' := [(5, .int 0), (4, .int 0), (3, .int 1), (0, .ref (o 0)), (1, .int 1), (2, .int (nI u))]) hx hb dX8_number_54 hl (by decide) rfl (fun ls hl => ?_)
    have lp_56 : ∀ (fuel : Nat) (k : Nat) (v : Int32) (x : Nat), 3 - k < fuel → k ≤ 3 → x = skB tx (cnt - p) p + 1 + k → x ≤ cnt → dgs tx cnt (3 - k) v x = dgs tx cnt 3 0 (skB tx (cnt - p) p + 1) → ∀ (H : Heap) (locs : List Loc) (ls : Array Slot), xW g A0 s0 [(o 0, .inr (8, [.ref (o 1), .ref (o 2), .int (nI hs), .int bads, .int nos, .int fuls, .int cau, .int whe, .ref (o 3), .ref (o 4), .int (nI cnt), .int (nI x), .int fau, .int isw, .int ods, .ref (o 5), .ref (o 6)])), (o 4, .inl (g.2.1, 120, .inl tx)), (o 6, .inl (g.2.1, 72, .inl nu))] H locs → lv_has ls 6 [(5, .int (nI k)), (4, .int v), (0, .ref (o 0)), (2, .int (nI u)), (3, .int 1)] → W p0 l e0 (xR 2 42) s0 m0 [.ref (o 0), .int 1, .int (nI u)].toArray below meth c0 H locs 0 0 Q (F0 m0 56 ls []) := by
      intro fuel
      induction fuel with
      | zero => intro k v x hm; exact absurd hm (Nat.not_lt_zero _)
      | succ fuel ih =>
        intro k v x hm hk hxk hxc hv H locs ls hw hl
        refine lv_aload_n hx hb dX8_number_56 rfl (lv_at hl 2 rfl) ?_
        refine x_goR (st1 := [.int (bI (x < cnt ∧ (48 ≤ tx x ∧ tx x ≤ 57)))]) E hw [0, 1] rfl (x_runV (rest := []) E hw (c_X8_isFigure l g o hs bads nos fuls cau whe cnt x fau isw ods tx (by omega) hxc) km_X8_169 kv_X8_isFigure [0, 1] rfl (by decide) 0 rfl hl.1 rfl rfl (Nat.le_of_ble_eq_true rfl) ⟨Nat.le_of_ble_eq_true rfl, Nat.le_of_ble_eq_true rfl⟩ ⟨Nat.zero_le _, Nat.zero_le _⟩ dX8_number_57) rfl (fun H locs hw => ?_)
        refine xb_eq (tgt := 100) hx hb dX8_number_60 (by decide) (fun cg => ?_) (fun cg => ?_)
        · have hD : nmD true tx cnt p = (v, x) := by rw [nmD, hS, ← hv]; exact dgs_no cg
          refine lv_iload hx hb dX8_number_100 (lv_at hl 0 rfl) ?_
          refine xz_eq (tgt := 112) hx hb k rfl (by omega) dX8_number_102 (by decide) (fun cz => ?_) (fun cz => ?_)
          · refine lv_aload_n hx hb dX8_number_112 rfl (lv_at hl 2 rfl) ?_
            refine x_go (ws' := [(o 0, .inr (8, [.ref (o 1), .ref (o 2), .int (nI hs), .int bads, .int nos, .int fuls, .int cau, .int whe, .ref (o 3), .ref (o 4), .int (nI cnt), .int (nI x), .int (nI x), .int isw, .int ods, .ref (o 5), .ref (o 6)])), (o 4, .inl (g.2.1, 120, .inl tx)), (o 6, .inl (g.2.1, 72, .inl nu))]) (st1 := [.int 0]) E hw [0] rfl (x_runV (rest := []) E hw (c_X8_stopsHere l g o hs bads nos fuls cau whe cnt x fau isw ods ) km_X8_165 kv_X8_stopsHere [0] rfl (by decide) 0 rfl hl.1 rfl rfl (Nat.le_of_ble_eq_true rfl) ⟨Nat.le_of_ble_eq_true rfl, Nat.le_of_ble_eq_true rfl⟩ ⟨Nat.zero_le _, Nat.zero_le _⟩ dX8_number_113) rfl rfl rfl (fun H locs hw => ?_)
            have hno : ¬ nmOk true tx cnt p := nm_f0 hS hD (by omega)
            exact xr_z hQ E hr hw dX8_number_116 (by decide) ⟨congrArg (fun z => some (Value.int z)) ((bI_f hno).symm), (by simp only [if_neg hno, hD])⟩
          · refine lv_aload_n hx hb dX8_number_105 rfl (lv_at hl 2 rfl) ?_
            refine x_goR (st1 := [.int (bI (x < cnt ∧ (48 ≤ tx x ∧ tx x ≤ 57)))]) E hw [0, 1] rfl (x_runV (rest := []) E hw (c_X8_isFigure l g o hs bads nos fuls cau whe cnt x fau isw ods tx (by omega) hxc) km_X8_169 kv_X8_isFigure [0, 1] rfl (by decide) 0 rfl hl.1 rfl rfl (Nat.le_of_ble_eq_true rfl) ⟨Nat.le_of_ble_eq_true rfl, Nat.le_of_ble_eq_true rfl⟩ ⟨Nat.zero_le _, Nat.zero_le _⟩ dX8_number_106) rfl (fun H locs hw => ?_)
            refine xb_eq (tgt := 117) hx hb dX8_number_109 (by decide) (fun cf => ?_) (fun cf => ?_)
            · refine lv_aload_n hx hb dX8_number_117 rfl (lv_at hl 2 rfl) ?_
              refine x_get E hw kf_X8_29 0 rfl rfl dX8_number_118 ?_
              refine lv_iload_n hx hb dX8_number_121 rfl (lv_at hl 3 rfl) ?_
              refine lv_iload_n hx hb dX8_number_122 rfl (lv_at hl 4 rfl) ?_
              refine lv_if_eq (tgt := 132) hx hb dX8_number_123 (by decide) (fun h => absurd h (by decide)) (fun _ => ?_)
              refine lv_iload hx hb dX8_number_126 (lv_at hl 1 rfl) ?_
              refine lv_ineg hx hb dX8_number_128 ?_
              refine lv_goto (tgt := 134) hx hb dX8_number_129 (by decide) ?_
              refine x_ist E hw 2 rfl u rfl (by omega) (by decide) (ws' := [(o 0, .inr (8, [.ref (o 1), .ref (o 2), .int (nI hs), .int bads, .int nos, .int fuls, .int cau, .int whe, .ref (o 3), .ref (o 4), .int (nI cnt), .int (nI x), .int fau, .int isw, .int ods, .ref (o 5), .ref (o 6)])), (o 4, .inl (g.2.1, 120, .inl tx)), (o 6, .inl (g.2.1, 72, .inl (upd nu u (-v))))]) rfl dX8_number_134 (fun H locs hw => ?_)
              refine lv_iconst (v := 1) hx hb dX8_number_135 (by decide) ?_
              have hok : nmOk true tx cnt p := nm_t hS hD (by omega) cf
              exact xr_z hQ E hr hw dX8_number_136 (by decide) ⟨congrArg (fun z => some (Value.int z)) ((bI_t hok).symm), (by simp only [if_pos hok, hD, hN])⟩
            · refine lv_aload_n hx hb dX8_number_112 rfl (lv_at hl 2 rfl) ?_
              refine x_go (ws' := [(o 0, .inr (8, [.ref (o 1), .ref (o 2), .int (nI hs), .int bads, .int nos, .int fuls, .int cau, .int whe, .ref (o 3), .ref (o 4), .int (nI cnt), .int (nI x), .int (nI x), .int isw, .int ods, .ref (o 5), .ref (o 6)])), (o 4, .inl (g.2.1, 120, .inl tx)), (o 6, .inl (g.2.1, 72, .inl nu))]) (st1 := [.int 0]) E hw [0] rfl (x_runV (rest := []) E hw (c_X8_stopsHere l g o hs bads nos fuls cau whe cnt x fau isw ods ) km_X8_165 kv_X8_stopsHere [0] rfl (by decide) 0 rfl hl.1 rfl rfl (Nat.le_of_ble_eq_true rfl) ⟨Nat.le_of_ble_eq_true rfl, Nat.le_of_ble_eq_true rfl⟩ ⟨Nat.zero_le _, Nat.zero_le _⟩ dX8_number_113) rfl rfl rfl (fun H locs hw => ?_)
              have hno : ¬ nmOk true tx cnt p := nm_f1 hD cf
              exact xr_z hQ E hr hw dX8_number_116 (by decide) ⟨congrArg (fun z => some (Value.int z)) ((bI_f hno).symm), (by simp only [if_neg hno, hD])⟩
        · refine lv_iload hx hb dX8_number_63 (lv_at hl 0 rfl) ?_
          refine lv_iconst (v := 3) hx hb dX8_number_65 (by decide) ?_
          refine xn_ge (tgt := 100) hx hb k 3 rfl rfl (by omega) (by omega) dX8_number_66 (by decide) (fun ck => ?_) (fun ck => ?_)
          · have hD : nmD true tx cnt p = (v, x) := by rw [nmD, hS, ← hv, show 3 - k = 0 by omega]; rfl
            refine lv_iload hx hb dX8_number_100 (lv_at hl 0 rfl) ?_
            refine xz_eq (tgt := 112) hx hb k rfl (by omega) dX8_number_102 (by decide) (fun cz => ?_) (fun cz => ?_)
            · refine lv_aload_n hx hb dX8_number_112 rfl (lv_at hl 2 rfl) ?_
              refine x_go (ws' := [(o 0, .inr (8, [.ref (o 1), .ref (o 2), .int (nI hs), .int bads, .int nos, .int fuls, .int cau, .int whe, .ref (o 3), .ref (o 4), .int (nI cnt), .int (nI x), .int (nI x), .int isw, .int ods, .ref (o 5), .ref (o 6)])), (o 4, .inl (g.2.1, 120, .inl tx)), (o 6, .inl (g.2.1, 72, .inl nu))]) (st1 := [.int 0]) E hw [0] rfl (x_runV (rest := []) E hw (c_X8_stopsHere l g o hs bads nos fuls cau whe cnt x fau isw ods ) km_X8_165 kv_X8_stopsHere [0] rfl (by decide) 0 rfl hl.1 rfl rfl (Nat.le_of_ble_eq_true rfl) ⟨Nat.le_of_ble_eq_true rfl, Nat.le_of_ble_eq_true rfl⟩ ⟨Nat.zero_le _, Nat.zero_le _⟩ dX8_number_113) rfl rfl rfl (fun H locs hw => ?_)
              have hno : ¬ nmOk true tx cnt p := nm_f0 hS hD (by omega)
              exact xr_z hQ E hr hw dX8_number_116 (by decide) ⟨congrArg (fun z => some (Value.int z)) ((bI_f hno).symm), (by simp only [if_neg hno, hD])⟩
            · refine lv_aload_n hx hb dX8_number_105 rfl (lv_at hl 2 rfl) ?_
              refine x_goR (st1 := [.int (bI (x < cnt ∧ (48 ≤ tx x ∧ tx x ≤ 57)))]) E hw [0, 1] rfl (x_runV (rest := []) E hw (c_X8_isFigure l g o hs bads nos fuls cau whe cnt x fau isw ods tx (by omega) hxc) km_X8_169 kv_X8_isFigure [0, 1] rfl (by decide) 0 rfl hl.1 rfl rfl (Nat.le_of_ble_eq_true rfl) ⟨Nat.le_of_ble_eq_true rfl, Nat.le_of_ble_eq_true rfl⟩ ⟨Nat.zero_le _, Nat.zero_le _⟩ dX8_number_106) rfl (fun H locs hw => ?_)
              refine xb_eq (tgt := 117) hx hb dX8_number_109 (by decide) (fun cf => ?_) (fun cf => ?_)
              · refine lv_aload_n hx hb dX8_number_117 rfl (lv_at hl 2 rfl) ?_
                refine x_get E hw kf_X8_29 0 rfl rfl dX8_number_118 ?_
                refine lv_iload_n hx hb dX8_number_121 rfl (lv_at hl 3 rfl) ?_
                refine lv_iload_n hx hb dX8_number_122 rfl (lv_at hl 4 rfl) ?_
                refine lv_if_eq (tgt := 132) hx hb dX8_number_123 (by decide) (fun h => absurd h (by decide)) (fun _ => ?_)
                refine lv_iload hx hb dX8_number_126 (lv_at hl 1 rfl) ?_
                refine lv_ineg hx hb dX8_number_128 ?_
                refine lv_goto (tgt := 134) hx hb dX8_number_129 (by decide) ?_
                refine x_ist E hw 2 rfl u rfl (by omega) (by decide) (ws' := [(o 0, .inr (8, [.ref (o 1), .ref (o 2), .int (nI hs), .int bads, .int nos, .int fuls, .int cau, .int whe, .ref (o 3), .ref (o 4), .int (nI cnt), .int (nI x), .int fau, .int isw, .int ods, .ref (o 5), .ref (o 6)])), (o 4, .inl (g.2.1, 120, .inl tx)), (o 6, .inl (g.2.1, 72, .inl (upd nu u (-v))))]) rfl dX8_number_134 (fun H locs hw => ?_)
                refine lv_iconst (v := 1) hx hb dX8_number_135 (by decide) ?_
                have hok : nmOk true tx cnt p := nm_t hS hD (by omega) cf
                exact xr_z hQ E hr hw dX8_number_136 (by decide) ⟨congrArg (fun z => some (Value.int z)) ((bI_t hok).symm), (by simp only [if_pos hok, hD, hN])⟩
              · refine lv_aload_n hx hb dX8_number_112 rfl (lv_at hl 2 rfl) ?_
                refine x_go (ws' := [(o 0, .inr (8, [.ref (o 1), .ref (o 2), .int (nI hs), .int bads, .int nos, .int fuls, .int cau, .int whe, .ref (o 3), .ref (o 4), .int (nI cnt), .int (nI x), .int (nI x), .int isw, .int ods, .ref (o 5), .ref (o 6)])), (o 4, .inl (g.2.1, 120, .inl tx)), (o 6, .inl (g.2.1, 72, .inl nu))]) (st1 := [.int 0]) E hw [0] rfl (x_runV (rest := []) E hw (c_X8_stopsHere l g o hs bads nos fuls cau whe cnt x fau isw ods ) km_X8_165 kv_X8_stopsHere [0] rfl (by decide) 0 rfl hl.1 rfl rfl (Nat.le_of_ble_eq_true rfl) ⟨Nat.le_of_ble_eq_true rfl, Nat.le_of_ble_eq_true rfl⟩ ⟨Nat.zero_le _, Nat.zero_le _⟩ dX8_number_113) rfl rfl rfl (fun H locs hw => ?_)
                have hno : ¬ nmOk true tx cnt p := nm_f1 hD cf
                exact xr_z hQ E hr hw dX8_number_116 (by decide) ⟨congrArg (fun z => some (Value.int z)) ((bI_f hno).symm), (by simp only [if_neg hno, hD])⟩
          · refine lv_bipush (v := 10) hx hb dX8_number_69 (by decide) ?_
            refine lv_iload hx hb dX8_number_71 (lv_at hl 1 rfl) ?_
            refine lv_imul hx hb dX8_number_73 ?_
            refine lv_aload_n hx hb dX8_number_74 rfl (lv_at hl 2 rfl) ?_
            refine x_goR (st1 := [.int (hrF tx cnt x), .int (10 * v)]) E hw [0, 1] rfl (x_runV (rest := [.int (10 * v)]) E hw (c_X8_here l g o hs bads nos fuls cau whe cnt x fau isw ods tx (by omega) hxc) km_X8_152 kv_X8_here [0, 1] rfl (by decide) 0 rfl hl.1 rfl rfl (Nat.le_of_ble_eq_true rfl) ⟨Nat.le_of_ble_eq_true rfl, Nat.le_of_ble_eq_true rfl⟩ ⟨Nat.zero_le _, Nat.zero_le _⟩ dX8_number_75) rfl (fun H locs hw => ?_)
            refine x_top (v' := .int (tx x)) (congrArg Value.int (if_pos cg.1)) ?_
            refine lv_iadd hx hb dX8_number_78 ?_
            refine lv_bipush (v := 48) hx hb dX8_number_79 (by decide) ?_
            refine lv_isub hx hb dX8_number_81 ?_
            refine lv_istore (lv' := [(4, .int (((10 * v) + tx x) - 48)), (5, .int (nI k)), (0, .ref (o 0)), (2, .int (nI u)), (3, .int 1)]) hx hb dX8_number_82 hl (by decide) rfl (fun ls hl => ?_)
            refine lv_iinc (v := nI (k + 1)) (lv' := [(5, .int (nI (k + 1))), (4, .int (((10 * v) + tx x) - 48)), (0, .ref (o 0)), (2, .int (nI u)), (3, .int 1)]) hx hb dX8_number_84 hl (k := 1) rfl (nI_1 _) (by decide) rfl (fun ls hl => ?_)
            refine lv_aload_n hx hb dX8_number_87 rfl (lv_at hl 2 rfl) ?_
            refine lv_dup hx hb dX8_number_88 rfl ?_
            refine x_get E hw kf_X8_149 0 rfl rfl dX8_number_89 ?_
            refine lv_iconst (v := 1) hx hb dX8_number_92 (by decide) ?_
            refine xn_add hx hb x 1 rfl rfl dX8_number_93 ?_
            refine x_put E hw kf_X8_149 kp_X8_11 0 rfl (ty := .int) (by decide +kernel) rfl rfl (by simp) (ws' := [(o 0, .inr (8, [.ref (o 1), .ref (o 2), .int (nI hs), .int bads, .int nos, .int fuls, .int cau, .int whe, .ref (o 3), .ref (o 4), .int (nI cnt), .int (nI (x + 1)), .int fau, .int isw, .int ods, .ref (o 5), .ref (o 6)])), (o 4, .inl (g.2.1, 120, .inl tx)), (o 6, .inl (g.2.1, 72, .inl nu))]) rfl dX8_number_94 (fun H locs hw => ?_)
            refine lv_goto (tgt := 56) hx hb dX8_number_97 (by decide) ?_
            have hl : lv_has ls 6 [(5, .int (nI (k + 1))), (4, .int (((10 * v) + tx x) - 48)), (0, .ref (o 0)), (2, .int (nI u)), (3, .int 1)] := lv_sub hl [0, 1, 2, 3, 4] rfl
            have hl : lv_has ls 6 [(5, .int (nI (k + 1))), (4, .int (((10 * v) + tx x) - 48)), (0, .ref (o 0)), (2, .int (nI u)), (3, .int 1)] := hl
            have hw : xW g A0 s0 [(o 0, .inr (8, [.ref (o 1), .ref (o 2), .int (nI hs), .int bads, .int nos, .int fuls, .int cau, .int whe, .ref (o 3), .ref (o 4), .int (nI cnt), .int (nI (x + 1)), .int fau, .int isw, .int ods, .ref (o 5), .ref (o 6)])), (o 4, .inl (g.2.1, 120, .inl tx)), (o 6, .inl (g.2.1, 72, .inl nu))] _ _ := hw
            exact ih (k + 1) (((10 * v) + tx x) - 48) (x + 1) (by omega) (by omega) (by omega) cg.1 ((dgs_st (by omega) cg).symm.trans hv) _ _ _ hw hl
    have hl : lv_has ls 6 [(5, .int 0), (4, .int 0), (0, .ref (o 0)), (2, .int (nI u)), (3, .int 1)] := lv_sub hl [0, 1, 3, 5, 2] rfl
    have hl : lv_has ls 6 [(5, .int 0), (4, .int 0), (0, .ref (o 0)), (2, .int (nI u)), (3, .int 1)] := hl
    have hw : xW g A0 s0 [(o 0, .inr (8, [.ref (o 1), .ref (o 2), .int (nI hs), .int bads, .int nos, .int fuls, .int cau, .int whe, .ref (o 3), .ref (o 4), .int (nI cnt), .int (nI (skB tx (cnt - p) p + 1)), .int fau, .int isw, .int ods, .ref (o 5), .ref (o 6)])), (o 4, .inl (g.2.1, 120, .inl tx)), (o 6, .inl (g.2.1, 72, .inl nu))] _ _ := hw
    exact lp_56 ((3 - 0) + 1) 0 0 (skB tx (cnt - p) p + 1) (Nat.lt_succ_self _) (by omega) rfl (cM.1) rfl _ _ _ hw hl
