
theorem rtL_lt : ∀ (j f : Nat) (q : Int32), rtL j f q < f + 2 ^ j
  | 0, f, _ => by show f < f + 1; omega
  | j + 1, f, q => by
    rw [rtL, Nat.pow_succ]
    split
    · have := rtL_lt j (f + 2 ^ j) q
      omega
    · have := rtL_lt j f q
      omega
theorem rt_b (q : Int32) : rtL 15 0 q < 2 ^ 31 := Nat.lt_of_lt_of_le (rtL_lt 15 0 q) (by decide)
theorem bndL_le (v : Int32) (fo gr : Nat → Int32) (b : Int32) : ∀ (d y : Nat) (br : Int32), bndL v fo gr b d y br ≤ y + d
  | 0, y, _ => Nat.le_refl y
  | d + 1, y, br => by
    rw [bndL]
    have := bndL_le v fo gr b d (y + 1) (br + dcl b (gr y))
    split <;> omega
theorem cntP_le (sq : Nat → Int32) (v : Int32) : ∀ x, cntP sq v x ≤ x
  | 0 => Nat.le_refl 0
  | x + 1 => by
    rw [cntP]
    have := cntP_le sq v x
    split <;> omega
theorem cntNe_le (f : Nat → Int32) (v : Int32) (a : Nat) : ∀ b, cntNe f v a b ≤ b
  | 0 => Nat.le_refl 0
  | b + 1 => by
    rw [cntNe]
    have := cntNe_le f v a b
    split <;> omega
theorem drvT_le (L : Nat) (gr be st sq : Nat → Int32) : ∀ (k : Nat) (t : TV), (drvT L gr be st sq k t).1 ≤ k
  | 0, _ => Nat.le_refl 0
  | k + 1, t => by
    rw [drvT]
    have := drvT_le L gr be st sq k (stpT L gr be st sq (drvH L gr st sq t) t)
    split
    · show _ + 1 ≤ k + 1
      omega
    · exact Nat.zero_le _
theorem bI_nn {P : Prop} [Decidable P] {z : Int32} (hz : z < 0) : ¬ bI P = z := by
  intro h
  rcases bI_01 P with e | e
  · rw [e] at h; rw [← h] at hz; exact absurd hz (by decide)
  · rw [e] at h; rw [← h] at hz; exact absurd hz (by decide)
/-- what told() tells -/
def tldF (ba no fu : Int32) (L : Nat) (st : Nat → Int32) (cnt hd : Nat) : Nat → Int32
  | 0 => ba
  | 1 => no
  | 2 => fu
  | 3 => nI L
  | 11 => nI cnt
  | 12 => nI hd
  | k => st (k - 4)
/-- orders of a text -/
abbrev obOk (w a b x : Int32) (L : Nat) : Prop := (w = 0 ∧ (5 ≤ a ∧ a ≤ 200)) ∨ (w = 1 ∧ layOk L 0 a b x) ∨ (w = 2 ∧ layOk L 1 a b x) ∨ (w = 3 ∧ inL L a) ∨ (w = 4 ∧ (tLeast 0 ≤ a ∧ a ≤ tMost 0)) ∨ (w = 5 ∧ (tLeast 1 ≤ a ∧ a ≤ tMost 1)) ∨ (w = 6 ∧ (tLeast 2 ≤ a ∧ a ≤ tMost 2)) ∨ (w = 7 ∧ (tLeast 3 ≤ a ∧ a ≤ tMost 3))
def lenS (m : Nat) (v : SV) : SV := (m, filF v.2.1 40 v.1 m, filF v.2.2.1 0 v.1 m, filF v.2.2.2.1 0 v.1 m, v.2.2.2.2.1, rszT v.2.2.2.2.2)
def ceiS (a z : Nat) (x : Int32) (v : SV) : SV := (v.1, filF v.2.1 x a (z + 1), v.2.2.1, v.2.2.2.1, v.2.2.2.2.1, v.2.2.2.2.2)
def graS (a z : Nat) (x : Int32) (v : SV) : SV := (v.1, v.2.1, filF v.2.2.1 x a (z + 1), v.2.2.2.1, v.2.2.2.2.1, v.2.2.2.2.2)
def beaS (a : Nat) (x : Int32) (v : SV) : SV := (v.1, v.2.1, v.2.2.1, upd v.2.2.2.1 a x, v.2.2.2.2.1, v.2.2.2.2.2)
def setS (w : Nat) (x : Int32) (v : SV) : SV := (v.1, v.2.1, v.2.2.1, v.2.2.2.1, upd v.2.2.2.2.1 w x, v.2.2.2.2.2)
def obS (w a b x : Int32) (v : SV) : SV := if w = 0 then lenS a.toNatClampNeg v else if w = 1 then ceiS a.toNatClampNeg b.toNatClampNeg x v else if w = 2 then graS a.toNatClampNeg b.toNatClampNeg x v else if w = 3 then beaS a.toNatClampNeg 1 v else if w = 4 then setS 0 a v else if w = 5 then setS 1 a v else if w = 6 then setS 2 a v else setS 3 a v
def obR (w a b x : Int32) (v : SV) : Int32 := if w = 0 then nI v.1 else if w = 1 then nI (cntNe v.2.1 x a.toNatClampNeg (b.toNatClampNeg + 1)) else if w = 2 then nI (cntNe v.2.2.1 x a.toNatClampNeg (b.toNatClampNeg + 1)) else if w = 3 then v.2.2.2.1 a.toNatClampNeg else if w = 4 then v.2.2.2.2.1 0 else if w = 5 then v.2.2.2.2.1 1 else if w = 6 then v.2.2.2.2.1 2 else v.2.2.2.2.1 3
theorem setOk_w {w : Nat} {v : Int32} (h : w < 7) : setOk (nI w) v ↔ (tLeast w ≤ v ∧ v ≤ tMost w) := by
  unfold setOk
  rw [nI_clamp (by omega)]
  exact ⟨fun z => z.2, fun z => ⟨⟨nI_pos' (by omega), nI_le (b := 6) (by omega) (by decide)⟩, z⟩⟩

set_option maxRecDepth 100000 in
set_option maxHeartbeats 4000000 in
theorem c_X7_toldValue_0 (l : Launch) (g : xCfg) (h : Nat → Nat) (bads : Int32) (nos : Int32) (fuls : Int32) (cau : Int32) (whe : Int32) (L : Nat) (st : Nat → Int32) (cnt : Nat) (p : Nat) (ca : Int32) (fa : Int32) (od : Int32) (nx : Nat) (hd : Nat)  : Ct l g yX7_toldValue cX7_toldValue 2 (some .int) (xR 1 22) [.ref (h 17), .int 0] [(h 17, .inr (7, [.ref (h 0), .ref (h 15), .ref (h 11), .int bads, .int nos, .int fuls, .int cau, .int whe])), (h 0, .inr (2, [.ref (h 1), .ref (h 2), .ref (h 7), .ref (h 8)])), (h 2, .inr (5, [.int (nI L), .ref (h 3), .ref (h 4), .ref (h 5), .ref (h 6)])), (h 6, .inl (g.2.1, 7, .inl st)), (h 11, .inr (3, [.ref (h 12), .int (nI cnt), .int (nI p), .int ca, .int fa, .int od, .ref (h 13), .ref (h 14)])), (h 15, .inr (1, [.ref (h 16), .int (nI nx), .int (nI hd)]))] (is1 (some (.int (tldF bads nos fuls L st cnt hd 0))) [(h 17, .inr (7, [.ref (h 0), .ref (h 15), .ref (h 11), .int bads, .int nos, .int fuls, .int cau, .int whe])), (h 0, .inr (2, [.ref (h 1), .ref (h 2), .ref (h 7), .ref (h 8)])), (h 2, .inr (5, [.int (nI L), .ref (h 3), .ref (h 4), .ref (h 5), .ref (h 6)])), (h 6, .inl (g.2.1, 7, .inl st)), (h 11, .inr (3, [.ref (h 12), .int (nI cnt), .int (nI p), .int ca, .int fa, .int od, .ref (h 13), .ref (h 14)])), (h 15, .inr (1, [.ref (h 16), .int (nI nx), .int (nI hd)]))]) := by
  refine Ct.walk (by decide) (Nat.le_of_ble_eq_true rfl) ?_
  intro p0 e0 s0 m0 below meth c0 A0 ls Q hQ E hr hnm hw hl
  have hx := E.x
  have hb := E.b
  have hl : lv_has ls 2 [(0, .ref (h 17)), (1, .int 0)] := hl
  refine lv_iload_n hx hb dX7_toldValue_0 rfl (lv_at hl 1 rfl) ?_
  refine x_sw (v := 0) (off := 67) (tgt := 68) hx hb dX7_toldValue_1 rfl (by decide) (by decide) (by decide) (by decide) ?_
  refine lv_aload_n hx hb dX7_toldValue_68 rfl (lv_at hl 0 rfl) ?_
  refine x_get E hw kf_X7_183 0 rfl rfl dX7_toldValue_69 ?_
  exact xr_i hQ E hr hw dX7_toldValue_72 ⟨rfl, rfl⟩

set_option maxRecDepth 100000 in
set_option maxHeartbeats 4000000 in
theorem c_X7_toldValue_1 (l : Launch) (g : xCfg) (h : Nat → Nat) (bads : Int32) (nos : Int32) (fuls : Int32) (cau : Int32) (whe : Int32) (L : Nat) (st : Nat → Int32) (cnt : Nat) (p : Nat) (ca : Int32) (fa : Int32) (od : Int32) (nx : Nat) (hd : Nat)  : Ct l g yX7_toldValue cX7_toldValue 2 (some .int) (xR 1 22) [.ref (h 17), .int 1] [(h 17, .inr (7, [.ref (h 0), .ref (h 15), .ref (h 11), .int bads, .int nos, .int fuls, .int cau, .int whe])), (h 0, .inr (2, [.ref (h 1), .ref (h 2), .ref (h 7), .ref (h 8)])), (h 2, .inr (5, [.int (nI L), .ref (h 3), .ref (h 4), .ref (h 5), .ref (h 6)])), (h 6, .inl (g.2.1, 7, .inl st)), (h 11, .inr (3, [.ref (h 12), .int (nI cnt), .int (nI p), .int ca, .int fa, .int od, .ref (h 13), .ref (h 14)])), (h 15, .inr (1, [.ref (h 16), .int (nI nx), .int (nI hd)]))] (is1 (some (.int (tldF bads nos fuls L st cnt hd 1))) [(h 17, .inr (7, [.ref (h 0), .ref (h 15), .ref (h 11), .int bads, .int nos, .int fuls, .int cau, .int whe])), (h 0, .inr (2, [.ref (h 1), .ref (h 2), .ref (h 7), .ref (h 8)])), (h 2, .inr (5, [.int (nI L), .ref (h 3), .ref (h 4), .ref (h 5), .ref (h 6)])), (h 6, .inl (g.2.1, 7, .inl st)), (h 11, .inr (3, [.ref (h 12), .int (nI cnt), .int (nI p), .int ca, .int fa, .int od, .ref (h 13), .ref (h 14)])), (h 15, .inr (1, [.ref (h 16), .int (nI nx), .int (nI hd)]))]) := by
  refine Ct.walk (by decide) (Nat.le_of_ble_eq_true rfl) ?_
  intro p0 e0 s0 m0 below meth c0 A0 ls Q hQ E hr hnm hw hl
  have hx := E.x
  have hb := E.b
  have hl : lv_has ls 2 [(0, .ref (h 17)), (1, .int 1)] := hl
  refine lv_iload_n hx hb dX7_toldValue_0 rfl (lv_at hl 1 rfl) ?_
  refine x_sw (v := 1) (off := 72) (tgt := 73) hx hb dX7_toldValue_1 rfl (by decide) (by decide) (by decide) (by decide) ?_
  refine lv_aload_n hx hb dX7_toldValue_73 rfl (lv_at hl 0 rfl) ?_
  refine x_get E hw kf_X7_186 0 rfl rfl dX7_toldValue_74 ?_
  exact xr_i hQ E hr hw dX7_toldValue_77 ⟨rfl, rfl⟩

set_option maxRecDepth 100000 in
set_option maxHeartbeats 4000000 in
theorem c_X7_toldValue_2 (l : Launch) (g : xCfg) (h : Nat → Nat) (bads : Int32) (nos : Int32) (fuls : Int32) (cau : Int32) (whe : Int32) (L : Nat) (st : Nat → Int32) (cnt : Nat) (p : Nat) (ca : Int32) (fa : Int32) (od : Int32) (nx : Nat) (hd : Nat)  : Ct l g yX7_toldValue cX7_toldValue 2 (some .int) (xR 1 22) [.ref (h 17), .int 2] [(h 17, .inr (7, [.ref (h 0), .ref (h 15), .ref (h 11), .int bads, .int nos, .int fuls, .int cau, .int whe])), (h 0, .inr (2, [.ref (h 1), .ref (h 2), .ref (h 7), .ref (h 8)])), (h 2, .inr (5, [.int (nI L), .ref (h 3), .ref (h 4), .ref (h 5), .ref (h 6)])), (h 6, .inl (g.2.1, 7, .inl st)), (h 11, .inr (3, [.ref (h 12), .int (nI cnt), .int (nI p), .int ca, .int fa, .int od, .ref (h 13), .ref (h 14)])), (h 15, .inr (1, [.ref (h 16), .int (nI nx), .int (nI hd)]))] (is1 (some (.int (tldF bads nos fuls L st cnt hd 2))) [(h 17, .inr (7, [.ref (h 0), .ref (h 15), .ref (h 11), .int bads, .int nos, .int fuls, .int cau, .int whe])), (h 0, .inr (2, [.ref (h 1), .ref (h 2), .ref (h 7), .ref (h 8)])), (h 2, .inr (5, [.int (nI L), .ref (h 3), .ref (h 4), .ref (h 5), .ref (h 6)])), (h 6, .inl (g.2.1, 7, .inl st)), (h 11, .inr (3, [.ref (h 12), .int (nI cnt), .int (nI p), .int ca, .int fa, .int od, .ref (h 13), .ref (h 14)])), (h 15, .inr (1, [.ref (h 16), .int (nI nx), .int (nI hd)]))]) := by
  refine Ct.walk (by decide) (Nat.le_of_ble_eq_true rfl) ?_
  intro p0 e0 s0 m0 below meth c0 A0 ls Q hQ E hr hnm hw hl
  have hx := E.x
  have hb := E.b
  have hl : lv_has ls 2 [(0, .ref (h 17)), (1, .int 2)] := hl
  refine lv_iload_n hx hb dX7_toldValue_0 rfl (lv_at hl 1 rfl) ?_
  refine x_sw (v := 2) (off := 77) (tgt := 78) hx hb dX7_toldValue_1 rfl (by decide) (by decide) (by decide) (by decide) ?_
  refine lv_aload_n hx hb dX7_toldValue_78 rfl (lv_at hl 0 rfl) ?_
  refine x_get E hw kf_X7_189 0 rfl rfl dX7_toldValue_79 ?_
  exact xr_i hQ E hr hw dX7_toldValue_82 ⟨rfl, rfl⟩

set_option maxRecDepth 100000 in
set_option maxHeartbeats 4000000 in
theorem c_X7_toldValue_3 (l : Launch) (g : xCfg) (h : Nat → Nat) (bads : Int32) (nos : Int32) (fuls : Int32) (cau : Int32) (whe : Int32) (L : Nat) (st : Nat → Int32) (cnt : Nat) (p : Nat) (ca : Int32) (fa : Int32) (od : Int32) (nx : Nat) (hd : Nat)  : Ct l g yX7_toldValue cX7_toldValue 2 (some .int) (xR 1 22) [.ref (h 17), .int 3] [(h 17, .inr (7, [.ref (h 0), .ref (h 15), .ref (h 11), .int bads, .int nos, .int fuls, .int cau, .int whe])), (h 0, .inr (2, [.ref (h 1), .ref (h 2), .ref (h 7), .ref (h 8)])), (h 2, .inr (5, [.int (nI L), .ref (h 3), .ref (h 4), .ref (h 5), .ref (h 6)])), (h 6, .inl (g.2.1, 7, .inl st)), (h 11, .inr (3, [.ref (h 12), .int (nI cnt), .int (nI p), .int ca, .int fa, .int od, .ref (h 13), .ref (h 14)])), (h 15, .inr (1, [.ref (h 16), .int (nI nx), .int (nI hd)]))] (is1 (some (.int (tldF bads nos fuls L st cnt hd 3))) [(h 17, .inr (7, [.ref (h 0), .ref (h 15), .ref (h 11), .int bads, .int nos, .int fuls, .int cau, .int whe])), (h 0, .inr (2, [.ref (h 1), .ref (h 2), .ref (h 7), .ref (h 8)])), (h 2, .inr (5, [.int (nI L), .ref (h 3), .ref (h 4), .ref (h 5), .ref (h 6)])), (h 6, .inl (g.2.1, 7, .inl st)), (h 11, .inr (3, [.ref (h 12), .int (nI cnt), .int (nI p), .int ca, .int fa, .int od, .ref (h 13), .ref (h 14)])), (h 15, .inr (1, [.ref (h 16), .int (nI nx), .int (nI hd)]))]) := by
  refine Ct.walk (by decide) (Nat.le_of_ble_eq_true rfl) ?_
  intro p0 e0 s0 m0 below meth c0 A0 ls Q hQ E hr hnm hw hl
  have hx := E.x
  have hb := E.b
  have hl : lv_has ls 2 [(0, .ref (h 17)), (1, .int 3)] := hl
  refine lv_iload_n hx hb dX7_toldValue_0 rfl (lv_at hl 1 rfl) ?_
  refine x_sw (v := 3) (off := 82) (tgt := 83) hx hb dX7_toldValue_1 rfl (by decide) (by decide) (by decide) (by decide) ?_
  refine lv_aload_n hx hb dX7_toldValue_83 rfl (lv_at hl 0 rfl) ?_
  refine x_get E hw kf_X7_10 0 rfl rfl dX7_toldValue_84 ?_
  refine x_getN E hw kf_X7_49 1 rfl rfl dX7_toldValue_87 ?_
  refine x_getN E hw kf_X7_180 2 rfl rfl dX7_toldValue_90 ?_
  exact xr_i hQ E hr hw dX7_toldValue_93 ⟨rfl, rfl⟩

set_option maxRecDepth 100000 in
set_option maxHeartbeats 4000000 in
theorem c_X7_toldValue_4 (l : Launch) (g : xCfg) (h : Nat → Nat) (bads : Int32) (nos : Int32) (fuls : Int32) (cau : Int32) (whe : Int32) (L : Nat) (st : Nat → Int32) (cnt : Nat) (p : Nat) (ca : Int32) (fa : Int32) (od : Int32) (nx : Nat) (hd : Nat)  : Ct l g yX7_toldValue cX7_toldValue 2 (some .int) (xR 1 22) [.ref (h 17), .int 4] [(h 17, .inr (7, [.ref (h 0), .ref (h 15), .ref (h 11), .int bads, .int nos, .int fuls, .int cau, .int whe])), (h 0, .inr (2, [.ref (h 1), .ref (h 2), .ref (h 7), .ref (h 8)])), (h 2, .inr (5, [.int (nI L), .ref (h 3), .ref (h 4), .ref (h 5), .ref (h 6)])), (h 6, .inl (g.2.1, 7, .inl st)), (h 11, .inr (3, [.ref (h 12), .int (nI cnt), .int (nI p), .int ca, .int fa, .int od, .ref (h 13), .ref (h 14)])), (h 15, .inr (1, [.ref (h 16), .int (nI nx), .int (nI hd)]))] (is1 (some (.int (tldF bads nos fuls L st cnt hd 4))) [(h 17, .inr (7, [.ref (h 0), .ref (h 15), .ref (h 11), .int bads, .int nos, .int fuls, .int cau, .int whe])), (h 0, .inr (2, [.ref (h 1), .ref (h 2), .ref (h 7), .ref (h 8)])), (h 2, .inr (5, [.int (nI L), .ref (h 3), .ref (h 4), .ref (h 5), .ref (h 6)])), (h 6, .inl (g.2.1, 7, .inl st)), (h 11, .inr (3, [.ref (h 12), .int (nI cnt), .int (nI p), .int ca, .int fa, .int od, .ref (h 13), .ref (h 14)])), (h 15, .inr (1, [.ref (h 16), .int (nI nx), .int (nI hd)]))]) := by
  refine Ct.walk (by decide) (Nat.le_of_ble_eq_true rfl) ?_
  intro p0 e0 s0 m0 below meth c0 A0 ls Q hQ E hr hnm hw hl
  have hx := E.x
  have hb := E.b
  have hl : lv_has ls 2 [(0, .ref (h 17)), (1, .int 4)] := hl
  refine lv_iload_n hx hb dX7_toldValue_0 rfl (lv_at hl 1 rfl) ?_
  refine x_sw (v := 4) (off := 109) (tgt := 110) hx hb dX7_toldValue_1 rfl (by decide) (by decide) (by decide) (by decide) ?_
  refine lv_iload_n hx hb dX7_toldValue_110 rfl (lv_at hl 1 rfl) ?_
  refine lv_iconst (v := 4) hx hb dX7_toldValue_111 (by decide) ?_
  refine lv_bipush (v := 10) hx hb dX7_toldValue_112 (by decide) ?_
  refine x_go (ws' := [(h 17, .inr (7, [.ref (h 0), .ref (h 15), .ref (h 11), .int bads, .int nos, .int fuls, .int cau, .int whe])), (h 0, .inr (2, [.ref (h 1), .ref (h 2), .ref (h 7), .ref (h 8)])), (h 2, .inr (5, [.int (nI L), .ref (h 3), .ref (h 4), .ref (h 5), .ref (h 6)])), (h 6, .inl (g.2.1, 7, .inl st)), (h 11, .inr (3, [.ref (h 12), .int (nI cnt), .int (nI p), .int ca, .int fa, .int od, .ref (h 13), .ref (h 14)])), (h 15, .inr (1, [.ref (h 16), .int (nI nx), .int (nI hd)]))]) (st1 := [.int 1]) E hw [] rfl (x_runS (rest := []) E hw (c_X7_within_ok l g 4 4 10 (by decide) (by decide)) km_X7_96 ks_X7_within [] rfl (by decide) hl.1 rfl rfl (Nat.le_of_ble_eq_true rfl) ⟨Nat.le_of_ble_eq_true rfl, Nat.le_of_ble_eq_true rfl⟩ ⟨Nat.zero_le _, Nat.zero_le _⟩ dX7_toldValue_114) rfl rfl rfl (fun H locs hw => ?_)
  refine lv_if_eq (tgt := 137) hx hb dX7_toldValue_117 (by decide) (fun h => absurd h (by decide)) (fun _ => ?_)
  refine lv_aload_n hx hb dX7_toldValue_120 rfl (lv_at hl 0 rfl) ?_
  refine x_get E hw kf_X7_10 0 rfl rfl dX7_toldValue_121 ?_
  refine x_getN E hw kf_X7_49 1 rfl rfl dX7_toldValue_124 ?_
  refine x_getN E hw kf_X7_201 2 rfl rfl dX7_toldValue_127 ?_
  refine lv_iload_n hx hb dX7_toldValue_130 rfl (lv_at hl 1 rfl) ?_
  refine lv_iconst (v := 4) hx hb dX7_toldValue_131 (by decide) ?_
  refine lv_isub hx hb dX7_toldValue_132 ?_
  refine x_top (v' := .int 0) (by decide) ?_
  refine x_ld (v := st 0) E hw 3 rfl 0 rfl (by omega) (by decide) rfl dX7_toldValue_133 ?_
  refine lv_goto (tgt := 139) hx hb dX7_toldValue_134 (by decide) ?_
  exact xr_i hQ E hr hw dX7_toldValue_139 ⟨rfl, rfl⟩

set_option maxRecDepth 100000 in
set_option maxHeartbeats 4000000 in
theorem c_X7_toldValue_5 (l : Launch) (g : xCfg) (h : Nat → Nat) (bads : Int32) (nos : Int32) (fuls : Int32) (cau : Int32) (whe : Int32) (L : Nat) (st : Nat → Int32) (cnt : Nat) (p : Nat) (ca : Int32) (fa : Int32) (od : Int32) (nx : Nat) (hd : Nat)  : Ct l g yX7_toldValue cX7_toldValue 2 (some .int) (xR 1 22) [.ref (h 17), .int 5] [(h 17, .inr (7, [.ref (h 0), .ref (h 15), .ref (h 11), .int bads, .int nos, .int fuls, .int cau, .int whe])), (h 0, .inr (2, [.ref (h 1), .ref (h 2), .ref (h 7), .ref (h 8)])), (h 2, .inr (5, [.int (nI L), .ref (h 3), .ref (h 4), .ref (h 5), .ref (h 6)])), (h 6, .inl (g.2.1, 7, .inl st)), (h 11, .inr (3, [.ref (h 12), .int (nI cnt), .int (nI p), .int ca, .int fa, .int od, .ref (h 13), .ref (h 14)])), (h 15, .inr (1, [.ref (h 16), .int (nI nx), .int (nI hd)]))] (is1 (some (.int (tldF bads nos fuls L st cnt hd 5))) [(h 17, .inr (7, [.ref (h 0), .ref (h 15), .ref (h 11), .int bads, .int nos, .int fuls, .int cau, .int whe])), (h 0, .inr (2, [.ref (h 1), .ref (h 2), .ref (h 7), .ref (h 8)])), (h 2, .inr (5, [.int (nI L), .ref (h 3), .ref (h 4), .ref (h 5), .ref (h 6)])), (h 6, .inl (g.2.1, 7, .inl st)), (h 11, .inr (3, [.ref (h 12), .int (nI cnt), .int (nI p), .int ca, .int fa, .int od, .ref (h 13), .ref (h 14)])), (h 15, .inr (1, [.ref (h 16), .int (nI nx), .int (nI hd)]))]) := by
  refine Ct.walk (by decide) (Nat.le_of_ble_eq_true rfl) ?_
  intro p0 e0 s0 m0 below meth c0 A0 ls Q hQ E hr hnm hw hl
  have hx := E.x
  have hb := E.b
  have hl : lv_has ls 2 [(0, .ref (h 17)), (1, .int 5)] := hl
  refine lv_iload_n hx hb dX7_toldValue_0 rfl (lv_at hl 1 rfl) ?_
  refine x_sw (v := 5) (off := 109) (tgt := 110) hx hb dX7_toldValue_1 rfl (by decide) (by decide) (by decide) (by decide) ?_
  refine lv_iload_n hx hb dX7_toldValue_110 rfl (lv_at hl 1 rfl) ?_
  refine lv_iconst (v := 4) hx hb dX7_toldValue_111 (by decide) ?_
  refine lv_bipush (v := 10) hx hb dX7_toldValue_112 (by decide) ?_
  refine x_go (ws' := [(h 17, .inr (7, [.ref (h 0), .ref (h 15), .ref (h 11), .int bads, .int nos, .int fuls, .int cau, .int whe])), (h 0, .inr (2, [.ref (h 1), .ref (h 2), .ref (h 7), .ref (h 8)])), (h 2, .inr (5, [.int (nI L), .ref (h 3), .ref (h 4), .ref (h 5), .ref (h 6)])), (h 6, .inl (g.2.1, 7, .inl st)), (h 11, .inr (3, [.ref (h 12), .int (nI cnt), .int (nI p), .int ca, .int fa, .int od, .ref (h 13), .ref (h 14)])), (h 15, .inr (1, [.ref (h 16), .int (nI nx), .int (nI hd)]))]) (st1 := [.int 1]) E hw [] rfl (x_runS (rest := []) E hw (c_X7_within_ok l g 5 4 10 (by decide) (by decide)) km_X7_96 ks_X7_within [] rfl (by decide) hl.1 rfl rfl (Nat.le_of_ble_eq_true rfl) ⟨Nat.le_of_ble_eq_true rfl, Nat.le_of_ble_eq_true rfl⟩ ⟨Nat.zero_le _, Nat.zero_le _⟩ dX7_toldValue_114) rfl rfl rfl (fun H locs hw => ?_)
  refine lv_if_eq (tgt := 137) hx hb dX7_toldValue_117 (by decide) (fun h => absurd h (by decide)) (fun _ => ?_)
  refine lv_aload_n hx hb dX7_toldValue_120 rfl (lv_at hl 0 rfl) ?_
  refine x_get E hw kf_X7_10 0 rfl rfl dX7_toldValue_121 ?_
  refine x_getN E hw kf_X7_49 1 rfl rfl dX7_toldValue_124 ?_
  refine x_getN E hw kf_X7_201 2 rfl rfl dX7_toldValue_127 ?_
  refine lv_iload_n hx hb dX7_toldValue_130 rfl (lv_at hl 1 rfl) ?_
  refine lv_iconst (v := 4) hx hb dX7_toldValue_131 (by decide) ?_
  refine lv_isub hx hb dX7_toldValue_132 ?_
  refine x_top (v' := .int 1) (by decide) ?_
  refine x_ld (v := st 1) E hw 3 rfl 1 rfl (by omega) (by decide) rfl dX7_toldValue_133 ?_
  refine lv_goto (tgt := 139) hx hb dX7_toldValue_134 (by decide) ?_
  exact xr_i hQ E hr hw dX7_toldValue_139 ⟨rfl, rfl⟩

set_option maxRecDepth 100000 in
set_option maxHeartbeats 4000000 in
theorem c_X7_toldValue_6 (l : Launch) (g : xCfg) (h : Nat → Nat) (bads : Int32) (nos : Int32) (fuls : Int32) (cau : Int32) (whe : Int32) (L : Nat) (st : Nat → Int32) (cnt : Nat) (p : Nat) (ca : Int32) (fa : Int32) (od : Int32) (nx : Nat) (hd : Nat)  : Ct l g yX7_toldValue cX7_toldValue 2 (some .int) (xR 1 22) [.ref (h 17), .int 6] [(h 17, .inr (7, [.ref (h 0), .ref (h 15), .ref (h 11), .int bads, .int nos, .int fuls, .int cau, .int whe])), (h 0, .inr (2, [.ref (h 1), .ref (h 2), .ref (h 7), .ref (h 8)])), (h 2, .inr (5, [.int (nI L), .ref (h 3), .ref (h 4), .ref (h 5), .ref (h 6)])), (h 6, .inl (g.2.1, 7, .inl st)), (h 11, .inr (3, [.ref (h 12), .int (nI cnt), .int (nI p), .int ca, .int fa, .int od, .ref (h 13), .ref (h 14)])), (h 15, .inr (1, [.ref (h 16), .int (nI nx), .int (nI hd)]))] (is1 (some (.int (tldF bads nos fuls L st cnt hd 6))) [(h 17, .inr (7, [.ref (h 0), .ref (h 15), .ref (h 11), .int bads, .int nos, .int fuls, .int cau, .int whe])), (h 0, .inr (2, [.ref (h 1), .ref (h 2), .ref (h 7), .ref (h 8)])), (h 2, .inr (5, [.int (nI L), .ref (h 3), .ref (h 4), .ref (h 5), .ref (h 6)])), (h 6, .inl (g.2.1, 7, .inl st)), (h 11, .inr (3, [.ref (h 12), .int (nI cnt), .int (nI p), .int ca, .int fa, .int od, .ref (h 13), .ref (h 14)])), (h 15, .inr (1, [.ref (h 16), .int (nI nx), .int (nI hd)]))]) := by
  refine Ct.walk (by decide) (Nat.le_of_ble_eq_true rfl) ?_
  intro p0 e0 s0 m0 below meth c0 A0 ls Q hQ E hr hnm hw hl
  have hx := E.x
  have hb := E.b
  have hl : lv_has ls 2 [(0, .ref (h 17)), (1, .int 6)] := hl
  refine lv_iload_n hx hb dX7_toldValue_0 rfl (lv_at hl 1 rfl) ?_
  refine x_sw (v := 6) (off := 109) (tgt := 110) hx hb dX7_toldValue_1 rfl (by decide) (by decide) (by decide) (by decide) ?_
  refine lv_iload_n hx hb dX7_toldValue_110 rfl (lv_at hl 1 rfl) ?_
  refine lv_iconst (v := 4) hx hb dX7_toldValue_111 (by decide) ?_
  refine lv_bipush (v := 10) hx hb dX7_toldValue_112 (by decide) ?_
  refine x_go (ws' := [(h 17, .inr (7, [.ref (h 0), .ref (h 15), .ref (h 11), .int bads, .int nos, .int fuls, .int cau, .int whe])), (h 0, .inr (2, [.ref (h 1), .ref (h 2), .ref (h 7), .ref (h 8)])), (h 2, .inr (5, [.int (nI L), .ref (h 3), .ref (h 4), .ref (h 5), .ref (h 6)])), (h 6, .inl (g.2.1, 7, .inl st)), (h 11, .inr (3, [.ref (h 12), .int (nI cnt), .int (nI p), .int ca, .int fa, .int od, .ref (h 13), .ref (h 14)])), (h 15, .inr (1, [.ref (h 16), .int (nI nx), .int (nI hd)]))]) (st1 := [.int 1]) E hw [] rfl (x_runS (rest := []) E hw (c_X7_within_ok l g 6 4 10 (by decide) (by decide)) km_X7_96 ks_X7_within [] rfl (by decide) hl.1 rfl rfl (Nat.le_of_ble_eq_true rfl) ⟨Nat.le_of_ble_eq_true rfl, Nat.le_of_ble_eq_true rfl⟩ ⟨Nat.zero_le _, Nat.zero_le _⟩ dX7_toldValue_114) rfl rfl rfl (fun H locs hw => ?_)
  refine lv_if_eq (tgt := 137) hx hb dX7_toldValue_117 (by decide) (fun h => absurd h (by decide)) (fun _ => ?_)
  refine lv_aload_n hx hb dX7_toldValue_120 rfl (lv_at hl 0 rfl) ?_
  refine x_get E hw kf_X7_10 0 rfl rfl dX7_toldValue_121 ?_
  refine x_getN E hw kf_X7_49 1 rfl rfl dX7_toldValue_124 ?_
  refine x_getN E hw kf_X7_201 2 rfl rfl dX7_toldValue_127 ?_
  refine lv_iload_n hx hb dX7_toldValue_130 rfl (lv_at hl 1 rfl) ?_
  refine lv_iconst (v := 4) hx hb dX7_toldValue_131 (by decide) ?_
  refine lv_isub hx hb dX7_toldValue_132 ?_
  refine x_top (v' := .int 2) (by decide) ?_
  refine x_ld (v := st 2) E hw 3 rfl 2 rfl (by omega) (by decide) rfl dX7_toldValue_133 ?_
  refine lv_goto (tgt := 139) hx hb dX7_toldValue_134 (by decide) ?_
  exact xr_i hQ E hr hw dX7_toldValue_139 ⟨rfl, rfl⟩

set_option maxRecDepth 100000 in
set_option maxHeartbeats 4000000 in
theorem c_X7_toldValue_7 (l : Launch) (g : xCfg) (h : Nat → Nat) (bads : Int32) (nos : Int32) (fuls : Int32) (cau : Int32) (whe : Int32) (L : Nat) (st : Nat → Int32) (cnt : Nat) (p : Nat) (ca : Int32) (fa : Int32) (od : Int32) (nx : Nat) (hd : Nat)  : Ct l g yX7_toldValue cX7_toldValue 2 (some .int) (xR 1 22) [.ref (h 17), .int 7] [(h 17, .inr (7, [.ref (h 0), .ref (h 15), .ref (h 11), .int bads, .int nos, .int fuls, .int cau, .int whe])), (h 0, .inr (2, [.ref (h 1), .ref (h 2), .ref (h 7), .ref (h 8)])), (h 2, .inr (5, [.int (nI L), .ref (h 3), .ref (h 4), .ref (h 5), .ref (h 6)])), (h 6, .inl (g.2.1, 7, .inl st)), (h 11, .inr (3, [.ref (h 12), .int (nI cnt), .int (nI p), .int ca, .int fa, .int od, .ref (h 13), .ref (h 14)])), (h 15, .inr (1, [.ref (h 16), .int (nI nx), .int (nI hd)]))] (is1 (some (.int (tldF bads nos fuls L st cnt hd 7))) [(h 17, .inr (7, [.ref (h 0), .ref (h 15), .ref (h 11), .int bads, .int nos, .int fuls, .int cau, .int whe])), (h 0, .inr (2, [.ref (h 1), .ref (h 2), .ref (h 7), .ref (h 8)])), (h 2, .inr (5, [.int (nI L), .ref (h 3), .ref (h 4), .ref (h 5), .ref (h 6)])), (h 6, .inl (g.2.1, 7, .inl st)), (h 11, .inr (3, [.ref (h 12), .int (nI cnt), .int (nI p), .int ca, .int fa, .int od, .ref (h 13), .ref (h 14)])), (h 15, .inr (1, [.ref (h 16), .int (nI nx), .int (nI hd)]))]) := by
  refine Ct.walk (by decide) (Nat.le_of_ble_eq_true rfl) ?_
  intro p0 e0 s0 m0 below meth c0 A0 ls Q hQ E hr hnm hw hl
  have hx := E.x
  have hb := E.b
  have hl : lv_has ls 2 [(0, .ref (h 17)), (1, .int 7)] := hl
  refine lv_iload_n hx hb dX7_toldValue_0 rfl (lv_at hl 1 rfl) ?_
  refine x_sw (v := 7) (off := 109) (tgt := 110) hx hb dX7_toldValue_1 rfl (by decide) (by decide) (by decide) (by decide) ?_
  refine lv_iload_n hx hb dX7_toldValue_110 rfl (lv_at hl 1 rfl) ?_
  refine lv_iconst (v := 4) hx hb dX7_toldValue_111 (by decide) ?_
  refine lv_bipush (v := 10) hx hb dX7_toldValue_112 (by decide) ?_
  refine x_go (ws' := [(h 17, .inr (7, [.ref (h 0), .ref (h 15), .ref (h 11), .int bads, .int nos, .int fuls, .int cau, .int whe])), (h 0, .inr (2, [.ref (h 1), .ref (h 2), .ref (h 7), .ref (h 8)])), (h 2, .inr (5, [.int (nI L), .ref (h 3), .ref (h 4), .ref (h 5), .ref (h 6)])), (h 6, .inl (g.2.1, 7, .inl st)), (h 11, .inr (3, [.ref (h 12), .int (nI cnt), .int (nI p), .int ca, .int fa, .int od, .ref (h 13), .ref (h 14)])), (h 15, .inr (1, [.ref (h 16), .int (nI nx), .int (nI hd)]))]) (st1 := [.int 1]) E hw [] rfl (x_runS (rest := []) E hw (c_X7_within_ok l g 7 4 10 (by decide) (by decide)) km_X7_96 ks_X7_within [] rfl (by decide) hl.1 rfl rfl (Nat.le_of_ble_eq_true rfl) ⟨Nat.le_of_ble_eq_true rfl, Nat.le_of_ble_eq_true rfl⟩ ⟨Nat.zero_le _, Nat.zero_le _⟩ dX7_toldValue_114) rfl rfl rfl (fun H locs hw => ?_)
  refine lv_if_eq (tgt := 137) hx hb dX7_toldValue_117 (by decide) (fun h => absurd h (by decide)) (fun _ => ?_)
  refine lv_aload_n hx hb dX7_toldValue_120 rfl (lv_at hl 0 rfl) ?_
  refine x_get E hw kf_X7_10 0 rfl rfl dX7_toldValue_121 ?_
  refine x_getN E hw kf_X7_49 1 rfl rfl dX7_toldValue_124 ?_
  refine x_getN E hw kf_X7_201 2 rfl rfl dX7_toldValue_127 ?_
  refine lv_iload_n hx hb dX7_toldValue_130 rfl (lv_at hl 1 rfl) ?_
  refine lv_iconst (v := 4) hx hb dX7_toldValue_131 (by decide) ?_
  refine lv_isub hx hb dX7_toldValue_132 ?_
  refine x_top (v' := .int 3) (by decide) ?_
  refine x_ld (v := st 3) E hw 3 rfl 3 rfl (by omega) (by decide) rfl dX7_toldValue_133 ?_
  refine lv_goto (tgt := 139) hx hb dX7_toldValue_134 (by decide) ?_
  exact xr_i hQ E hr hw dX7_toldValue_139 ⟨rfl, rfl⟩

set_option maxRecDepth 100000 in
set_option maxHeartbeats 4000000 in
theorem c_X7_toldValue_8 (l : Launch) (g : xCfg) (h : Nat → Nat) (bads : Int32) (nos : Int32) (fuls : Int32) (cau : Int32) (whe : Int32) (L : Nat) (st : Nat → Int32) (cnt : Nat) (p : Nat) (ca : Int32) (fa : Int32) (od : Int32) (nx : Nat) (hd : Nat)  : Ct l g yX7_toldValue cX7_toldValue 2 (some .int) (xR 1 22) [.ref (h 17), .int 8] [(h 17, .inr (7, [.ref (h 0), .ref (h 15), .ref (h 11), .int bads, .int nos, .int fuls, .int cau, .int whe])), (h 0, .inr (2, [.ref (h 1), .ref (h 2), .ref (h 7), .ref (h 8)])), (h 2, .inr (5, [.int (nI L), .ref (h 3), .ref (h 4), .ref (h 5), .ref (h 6)])), (h 6, .inl (g.2.1, 7, .inl st)), (h 11, .inr (3, [.ref (h 12), .int (nI cnt), .int (nI p), .int ca, .int fa, .int od, .ref (h 13), .ref (h 14)])), (h 15, .inr (1, [.ref (h 16), .int (nI nx), .int (nI hd)]))] (is1 (some (.int (tldF bads nos fuls L st cnt hd 8))) [(h 17, .inr (7, [.ref (h 0), .ref (h 15), .ref (h 11), .int bads, .int nos, .int fuls, .int cau, .int whe])), (h 0, .inr (2, [.ref (h 1), .ref (h 2), .ref (h 7), .ref (h 8)])), (h 2, .inr (5, [.int (nI L), .ref (h 3), .ref (h 4), .ref (h 5), .ref (h 6)])), (h 6, .inl (g.2.1, 7, .inl st)), (h 11, .inr (3, [.ref (h 12), .int (nI cnt), .int (nI p), .int ca, .int fa, .int od, .ref (h 13), .ref (h 14)])), (h 15, .inr (1, [.ref (h 16), .int (nI nx), .int (nI hd)]))]) := by
  refine Ct.walk (by decide) (Nat.le_of_ble_eq_true rfl) ?_
  intro p0 e0 s0 m0 below meth c0 A0 ls Q hQ E hr hnm hw hl
  have hx := E.x
  have hb := E.b
  have hl : lv_has ls 2 [(0, .ref (h 17)), (1, .int 8)] := hl
  refine lv_iload_n hx hb dX7_toldValue_0 rfl (lv_at hl 1 rfl) ?_
  refine x_sw (v := 8) (off := 109) (tgt := 110) hx hb dX7_toldValue_1 rfl (by decide) (by decide) (by decide) (by decide) ?_
  refine lv_iload_n hx hb dX7_toldValue_110 rfl (lv_at hl 1 rfl) ?_
  refine lv_iconst (v := 4) hx hb dX7_toldValue_111 (by decide) ?_
  refine lv_bipush (v := 10) hx hb dX7_toldValue_112 (by decide) ?_
  refine x_go (ws' := [(h 17, .inr (7, [.ref (h 0), .ref (h 15), .ref (h 11), .int bads, .int nos, .int fuls, .int cau, .int whe])), (h 0, .inr (2, [.ref (h 1), .ref (h 2), .ref (h 7), .ref (h 8)])), (h 2, .inr (5, [.int (nI L), .ref (h 3), .ref (h 4), .ref (h 5), .ref (h 6)])), (h 6, .inl (g.2.1, 7, .inl st)), (h 11, .inr (3, [.ref (h 12), .int (nI cnt), .int (nI p), .int ca, .int fa, .int od, .ref (h 13), .ref (h 14)])), (h 15, .inr (1, [.ref (h 16), .int (nI nx), .int (nI hd)]))]) (st1 := [.int 1]) E hw [] rfl (x_runS (rest := []) E hw (c_X7_within_ok l g 8 4 10 (by decide) (by decide)) km_X7_96 ks_X7_within [] rfl (by decide) hl.1 rfl rfl (Nat.le_of_ble_eq_true rfl) ⟨Nat.le_of_ble_eq_true rfl, Nat.le_of_ble_eq_true rfl⟩ ⟨Nat.zero_le _, Nat.zero_le _⟩ dX7_toldValue_114) rfl rfl rfl (fun H locs hw => ?_)
  refine lv_if_eq (tgt := 137) hx hb dX7_toldValue_117 (by decide) (fun h => absurd h (by decide)) (fun _ => ?_)
  refine lv_aload_n hx hb dX7_toldValue_120 rfl (lv_at hl 0 rfl) ?_
  refine x_get E hw kf_X7_10 0 rfl rfl dX7_toldValue_121 ?_
  refine x_getN E hw kf_X7_49 1 rfl rfl dX7_toldValue_124 ?_
  refine x_getN E hw kf_X7_201 2 rfl rfl dX7_toldValue_127 ?_
  refine lv_iload_n hx hb dX7_toldValue_130 rfl (lv_at hl 1 rfl) ?_
  refine lv_iconst (v := 4) hx hb dX7_toldValue_131 (by decide) ?_
  refine lv_isub hx hb dX7_toldValue_132 ?_
  refine x_top (v' := .int 4) (by decide) ?_
  refine x_ld (v := st 4) E hw 3 rfl 4 rfl (by omega) (by decide) rfl dX7_toldValue_133 ?_
  refine lv_goto (tgt := 139) hx hb dX7_toldValue_134 (by decide) ?_
  exact xr_i hQ E hr hw dX7_toldValue_139 ⟨rfl, rfl⟩

set_option maxRecDepth 100000 in
set_option maxHeartbeats 4000000 in
theorem c_X7_toldValue_9 (l : Launch) (g : xCfg) (h : Nat → Nat) (bads : Int32) (nos : Int32) (fuls : Int32) (cau : Int32) (whe : Int32) (L : Nat) (st : Nat → Int32) (cnt : Nat) (p : Nat) (ca : Int32) (fa : Int32) (od : Int32) (nx : Nat) (hd : Nat)  : Ct l g yX7_toldValue cX7_toldValue 2 (some .int) (xR 1 22) [.ref (h 17), .int 9] [(h 17, .inr (7, [.ref (h 0), .ref (h 15), .ref (h 11), .int bads, .int nos, .int fuls, .int cau, .int whe])), (h 0, .inr (2, [.ref (h 1), .ref (h 2), .ref (h 7), .ref (h 8)])), (h 2, .inr (5, [.int (nI L), .ref (h 3), .ref (h 4), .ref (h 5), .ref (h 6)])), (h 6, .inl (g.2.1, 7, .inl st)), (h 11, .inr (3, [.ref (h 12), .int (nI cnt), .int (nI p), .int ca, .int fa, .int od, .ref (h 13), .ref (h 14)])), (h 15, .inr (1, [.ref (h 16), .int (nI nx), .int (nI hd)]))] (is1 (some (.int (tldF bads nos fuls L st cnt hd 9))) [(h 17, .inr (7, [.ref (h 0), .ref (h 15), .ref (h 11), .int bads, .int nos, .int fuls, .int cau, .int whe])), (h 0, .inr (2, [.ref (h 1), .ref (h 2), .ref (h 7), .ref (h 8)])), (h 2, .inr (5, [.int (nI L), .ref (h 3), .ref (h 4), .ref (h 5), .ref (h 6)])), (h 6, .inl (g.2.1, 7, .inl st)), (h 11, .inr (3, [.ref (h 12), .int (nI cnt), .int (nI p), .int ca, .int fa, .int od, .ref (h 13), .ref (h 14)])), (h 15, .inr (1, [.ref (h 16), .int (nI nx), .int (nI hd)]))]) := by
  refine Ct.walk (by decide) (Nat.le_of_ble_eq_true rfl) ?_
  intro p0 e0 s0 m0 below meth c0 A0 ls Q hQ E hr hnm hw hl
  have hx := E.x
  have hb := E.b
  have hl : lv_has ls 2 [(0, .ref (h 17)), (1, .int 9)] := hl
  refine lv_iload_n hx hb dX7_toldValue_0 rfl (lv_at hl 1 rfl) ?_
  refine x_sw (v := 9) (off := 109) (tgt := 110) hx hb dX7_toldValue_1 rfl (by decide) (by decide) (by decide) (by decide) ?_
  refine lv_iload_n hx hb dX7_toldValue_110 rfl (lv_at hl 1 rfl) ?_
  refine lv_iconst (v := 4) hx hb dX7_toldValue_111 (by decide) ?_
  refine lv_bipush (v := 10) hx hb dX7_toldValue_112 (by decide) ?_
  refine x_go (ws' := [(h 17, .inr (7, [.ref (h 0), .ref (h 15), .ref (h 11), .int bads, .int nos, .int fuls, .int cau, .int whe])), (h 0, .inr (2, [.ref (h 1), .ref (h 2), .ref (h 7), .ref (h 8)])), (h 2, .inr (5, [.int (nI L), .ref (h 3), .ref (h 4), .ref (h 5), .ref (h 6)])), (h 6, .inl (g.2.1, 7, .inl st)), (h 11, .inr (3, [.ref (h 12), .int (nI cnt), .int (nI p), .int ca, .int fa, .int od, .ref (h 13), .ref (h 14)])), (h 15, .inr (1, [.ref (h 16), .int (nI nx), .int (nI hd)]))]) (st1 := [.int 1]) E hw [] rfl (x_runS (rest := []) E hw (c_X7_within_ok l g 9 4 10 (by decide) (by decide)) km_X7_96 ks_X7_within [] rfl (by decide) hl.1 rfl rfl (Nat.le_of_ble_eq_true rfl) ⟨Nat.le_of_ble_eq_true rfl, Nat.le_of_ble_eq_true rfl⟩ ⟨Nat.zero_le _, Nat.zero_le _⟩ dX7_toldValue_114) rfl rfl rfl (fun H locs hw => ?_)
  refine lv_if_eq (tgt := 137) hx hb dX7_toldValue_117 (by decide) (fun h => absurd h (by decide)) (fun _ => ?_)
  refine lv_aload_n hx hb dX7_toldValue_120 rfl (lv_at hl 0 rfl) ?_
  refine x_get E hw kf_X7_10 0 rfl rfl dX7_toldValue_121 ?_
  refine x_getN E hw kf_X7_49 1 rfl rfl dX7_toldValue_124 ?_
  refine x_getN E hw kf_X7_201 2 rfl rfl dX7_toldValue_127 ?_
  refine lv_iload_n hx hb dX7_toldValue_130 rfl (lv_at hl 1 rfl) ?_
  refine lv_iconst (v := 4) hx hb dX7_toldValue_131 (by decide) ?_
  refine lv_isub hx hb dX7_toldValue_132 ?_
  refine x_top (v' := .int 5) (by decide) ?_
  refine x_ld (v := st 5) E hw 3 rfl 5 rfl (by omega) (by decide) rfl dX7_toldValue_133 ?_
  refine lv_goto (tgt := 139) hx hb dX7_toldValue_134 (by decide) ?_
  exact xr_i hQ E hr hw dX7_toldValue_139 ⟨rfl, rfl⟩

set_option maxRecDepth 100000 in
set_option maxHeartbeats 4000000 in
theorem c_X7_toldValue_10 (l : Launch) (g : xCfg) (h : Nat → Nat) (bads : Int32) (nos : Int32) (fuls : Int32) (cau : Int32) (whe : Int32) (L : Nat) (st : Nat → Int32) (cnt : Nat) (p : Nat) (ca : Int32) (fa : Int32) (od : Int32) (nx : Nat) (hd : Nat)  : Ct l g yX7_toldValue cX7_toldValue 2 (some .int) (xR 1 22) [.ref (h 17), .int 10] [(h 17, .inr (7, [.ref (h 0), .ref (h 15), .ref (h 11), .int bads, .int nos, .int fuls, .int cau, .int whe])), (h 0, .inr (2, [.ref (h 1), .ref (h 2), .ref (h 7), .ref (h 8)])), (h 2, .inr (5, [.int (nI L), .ref (h 3), .ref (h 4), .ref (h 5), .ref (h 6)])), (h 6, .inl (g.2.1, 7, .inl st)), (h 11, .inr (3, [.ref (h 12), .int (nI cnt), .int (nI p), .int ca, .int fa, .int od, .ref (h 13), .ref (h 14)])), (h 15, .inr (1, [.ref (h 16), .int (nI nx), .int (nI hd)]))] (is1 (some (.int (tldF bads nos fuls L st cnt hd 10))) [(h 17, .inr (7, [.ref (h 0), .ref (h 15), .ref (h 11), .int bads, .int nos, .int fuls, .int cau, .int whe])), (h 0, .inr (2, [.ref (h 1), .ref (h 2), .ref (h 7), .ref (h 8)])), (h 2, .inr (5, [.int (nI L), .ref (h 3), .ref (h 4), .ref (h 5), .ref (h 6)])), (h 6, .inl (g.2.1, 7, .inl st)), (h 11, .inr (3, [.ref (h 12), .int (nI cnt), .int (nI p), .int ca, .int fa, .int od, .ref (h 13), .ref (h 14)])), (h 15, .inr (1, [.ref (h 16), .int (nI nx), .int (nI hd)]))]) := by
  refine Ct.walk (by decide) (Nat.le_of_ble_eq_true rfl) ?_
  intro p0 e0 s0 m0 below meth c0 A0 ls Q hQ E hr hnm hw hl
  have hx := E.x
  have hb := E.b
  have hl : lv_has ls 2 [(0, .ref (h 17)), (1, .int 10)] := hl
  refine lv_iload_n hx hb dX7_toldValue_0 rfl (lv_at hl 1 rfl) ?_
  refine x_sw (v := 10) (off := 109) (tgt := 110) hx hb dX7_toldValue_1 rfl (by decide) (by decide) (by decide) (by decide) ?_
  refine lv_iload_n hx hb dX7_toldValue_110 rfl (lv_at hl 1 rfl) ?_
  refine lv_iconst (v := 4) hx hb dX7_toldValue_111 (by decide) ?_
  refine lv_bipush (v := 10) hx hb dX7_toldValue_112 (by decide) ?_
  refine x_go (ws' := [(h 17, .inr (7, [.ref (h 0), .ref (h 15), .ref (h 11), .int bads, .int nos, .int fuls, .int cau, .int whe])), (h 0, .inr (2, [.ref (h 1), .ref (h 2), .ref (h 7), .ref (h 8)])), (h 2, .inr (5, [.int (nI L), .ref (h 3), .ref (h 4), .ref (h 5), .ref (h 6)])), (h 6, .inl (g.2.1, 7, .inl st)), (h 11, .inr (3, [.ref (h 12), .int (nI cnt), .int (nI p), .int ca, .int fa, .int od, .ref (h 13), .ref (h 14)])), (h 15, .inr (1, [.ref (h 16), .int (nI nx), .int (nI hd)]))]) (st1 := [.int 1]) E hw [] rfl (x_runS (rest := []) E hw (c_X7_within_ok l g 10 4 10 (by decide) (by decide)) km_X7_96 ks_X7_within [] rfl (by decide) hl.1 rfl rfl (Nat.le_of_ble_eq_true rfl) ⟨Nat.le_of_ble_eq_true rfl, Nat.le_of_ble_eq_true rfl⟩ ⟨Nat.zero_le _, Nat.zero_le _⟩ dX7_toldValue_114) rfl rfl rfl (fun H locs hw => ?_)
  refine lv_if_eq (tgt := 137) hx hb dX7_toldValue_117 (by decide) (fun h => absurd h (by decide)) (fun _ => ?_)
  refine lv_aload_n hx hb dX7_toldValue_120 rfl (lv_at hl 0 rfl) ?_
  refine x_get E hw kf_X7_10 0 rfl rfl dX7_toldValue_121 ?_
  refine x_getN E hw kf_X7_49 1 rfl rfl dX7_toldValue_124 ?_
  refine x_getN E hw kf_X7_201 2 rfl rfl dX7_toldValue_127 ?_
  refine lv_iload_n hx hb dX7_toldValue_130 rfl (lv_at hl 1 rfl) ?_
  refine lv_iconst (v := 4) hx hb dX7_toldValue_131 (by decide) ?_
  refine lv_isub hx hb dX7_toldValue_132 ?_
  refine x_top (v' := .int 6) (by decide) ?_
  refine x_ld (v := st 6) E hw 3 rfl 6 rfl (by omega) (by decide) rfl dX7_toldValue_133 ?_
  refine lv_goto (tgt := 139) hx hb dX7_toldValue_134 (by decide) ?_
  exact xr_i hQ E hr hw dX7_toldValue_139 ⟨rfl, rfl⟩

set_option maxRecDepth 100000 in
set_option maxHeartbeats 4000000 in
theorem c_X7_toldValue_11 (l : Launch) (g : xCfg) (h : Nat → Nat) (bads : Int32) (nos : Int32) (fuls : Int32) (cau : Int32) (whe : Int32) (L : Nat) (st : Nat → Int32) (cnt : Nat) (p : Nat) (ca : Int32) (fa : Int32) (od : Int32) (nx : Nat) (hd : Nat)  : Ct l g yX7_toldValue cX7_toldValue 2 (some .int) (xR 1 22) [.ref (h 17), .int 11] [(h 17, .inr (7, [.ref (h 0), .ref (h 15), .ref (h 11), .int bads, .int nos, .int fuls, .int cau, .int whe])), (h 0, .inr (2, [.ref (h 1), .ref (h 2), .ref (h 7), .ref (h 8)])), (h 2, .inr (5, [.int (nI L), .ref (h 3), .ref (h 4), .ref (h 5), .ref (h 6)])), (h 6, .inl (g.2.1, 7, .inl st)), (h 11, .inr (3, [.ref (h 12), .int (nI cnt), .int (nI p), .int ca, .int fa, .int od, .ref (h 13), .ref (h 14)])), (h 15, .inr (1, [.ref (h 16), .int (nI nx), .int (nI hd)]))] (is1 (some (.int (tldF bads nos fuls L st cnt hd 11))) [(h 17, .inr (7, [.ref (h 0), .ref (h 15), .ref (h 11), .int bads, .int nos, .int fuls, .int cau, .int whe])), (h 0, .inr (2, [.ref (h 1), .ref (h 2), .ref (h 7), .ref (h 8)])), (h 2, .inr (5, [.int (nI L), .ref (h 3), .ref (h 4), .ref (h 5), .ref (h 6)])), (h 6, .inl (g.2.1, 7, .inl st)), (h 11, .inr (3, [.ref (h 12), .int (nI cnt), .int (nI p), .int ca, .int fa, .int od, .ref (h 13), .ref (h 14)])), (h 15, .inr (1, [.ref (h 16), .int (nI nx), .int (nI hd)]))]) := by
  refine Ct.walk (by decide) (Nat.le_of_ble_eq_true rfl) ?_
  intro p0 e0 s0 m0 below meth c0 A0 ls Q hQ E hr hnm hw hl
  have hx := E.x
  have hb := E.b
  have hl : lv_has ls 2 [(0, .ref (h 17)), (1, .int 11)] := hl
  refine lv_iload_n hx hb dX7_toldValue_0 rfl (lv_at hl 1 rfl) ?_
  refine x_sw (v := 11) (off := 93) (tgt := 94) hx hb dX7_toldValue_1 rfl (by decide) (by decide) (by decide) (by decide) ?_
  refine lv_aload_n hx hb dX7_toldValue_94 rfl (lv_at hl 0 rfl) ?_
  refine x_get E hw kf_X7_26 0 rfl rfl dX7_toldValue_95 ?_
  refine x_getN E hw kf_X7_198 4 rfl rfl dX7_toldValue_98 ?_
  exact xr_i hQ E hr hw dX7_toldValue_101 ⟨rfl, rfl⟩

set_option maxRecDepth 100000 in
set_option maxHeartbeats 4000000 in
theorem c_X7_toldValue_12 (l : Launch) (g : xCfg) (h : Nat → Nat) (bads : Int32) (nos : Int32) (fuls : Int32) (cau : Int32) (whe : Int32) (L : Nat) (st : Nat → Int32) (cnt : Nat) (p : Nat) (ca : Int32) (fa : Int32) (od : Int32) (nx : Nat) (hd : Nat)  : Ct l g yX7_toldValue cX7_toldValue 2 (some .int) (xR 1 22) [.ref (h 17), .int 12] [(h 17, .inr (7, [.ref (h 0), .ref (h 15), .ref (h 11), .int bads, .int nos, .int fuls, .int cau, .int whe])), (h 0, .inr (2, [.ref (h 1), .ref (h 2), .ref (h 7), .ref (h 8)])), (h 2, .inr (5, [.int (nI L), .ref (h 3), .ref (h 4), .ref (h 5), .ref (h 6)])), (h 6, .inl (g.2.1, 7, .inl st)), (h 11, .inr (3, [.ref (h 12), .int (nI cnt), .int (nI p), .int ca, .int fa, .int od, .ref (h 13), .ref (h 14)])), (h 15, .inr (1, [.ref (h 16), .int (nI nx), .int (nI hd)]))] (is1 (some (.int (tldF bads nos fuls L st cnt hd 12))) [(h 17, .inr (7, [.ref (h 0), .ref (h 15), .ref (h 11), .int bads, .int nos, .int fuls, .int cau, .int whe])), (h 0, .inr (2, [.ref (h 1), .ref (h 2), .ref (h 7), .ref (h 8)])), (h 2, .inr (5, [.int (nI L), .ref (h 3), .ref (h 4), .ref (h 5), .ref (h 6)])), (h 6, .inl (g.2.1, 7, .inl st)), (h 11, .inr (3, [.ref (h 12), .int (nI cnt), .int (nI p), .int ca, .int fa, .int od, .ref (h 13), .ref (h 14)])), (h 15, .inr (1, [.ref (h 16), .int (nI nx), .int (nI hd)]))]) := by
  refine Ct.walk (by decide) (Nat.le_of_ble_eq_true rfl) ?_
  intro p0 e0 s0 m0 below meth c0 A0 ls Q hQ E hr hnm hw hl
  have hx := E.x
  have hb := E.b
  have hl : lv_has ls 2 [(0, .ref (h 17)), (1, .int 12)] := hl
  refine lv_iload_n hx hb dX7_toldValue_0 rfl (lv_at hl 1 rfl) ?_
  refine x_sw (v := 12) (off := 101) (tgt := 102) hx hb dX7_toldValue_1 rfl (by decide) (by decide) (by decide) (by decide) ?_
  refine lv_aload_n hx hb dX7_toldValue_102 rfl (lv_at hl 0 rfl) ?_
  refine x_get E hw kf_X7_19 0 rfl rfl dX7_toldValue_103 ?_
  refine x_getN E hw kf_X7_167 5 rfl rfl dX7_toldValue_106 ?_
  exact xr_i hQ E hr hw dX7_toldValue_109 ⟨rfl, rfl⟩

theorem c_X7_toldValue (l : Launch) (g : xCfg) (h : Nat → Nat) (bads : Int32) (nos : Int32) (fuls : Int32) (cau : Int32) (whe : Int32) (L : Nat) (st : Nat → Int32) (cnt : Nat) (p : Nat) (ca : Int32) (fa : Int32) (od : Int32) (nx : Nat) (hd : Nat) (w : Nat) (hw0 : w < 13) : Ct l g yX7_toldValue cX7_toldValue 2 (some .int) (xR 1 22) [.ref (h 17), .int (nI w)] [(h 17, .inr (7, [.ref (h 0), .ref (h 15), .ref (h 11), .int bads, .int nos, .int fuls, .int cau, .int whe])), (h 0, .inr (2, [.ref (h 1), .ref (h 2), .ref (h 7), .ref (h 8)])), (h 2, .inr (5, [.int (nI L), .ref (h 3), .ref (h 4), .ref (h 5), .ref (h 6)])), (h 6, .inl (g.2.1, 7, .inl st)), (h 11, .inr (3, [.ref (h 12), .int (nI cnt), .int (nI p), .int ca, .int fa, .int od, .ref (h 13), .ref (h 14)])), (h 15, .inr (1, [.ref (h 16), .int (nI nx), .int (nI hd)]))] (is1 (some (.int (tldF bads nos fuls L st cnt hd w))) [(h 17, .inr (7, [.ref (h 0), .ref (h 15), .ref (h 11), .int bads, .int nos, .int fuls, .int cau, .int whe])), (h 0, .inr (2, [.ref (h 1), .ref (h 2), .ref (h 7), .ref (h 8)])), (h 2, .inr (5, [.int (nI L), .ref (h 3), .ref (h 4), .ref (h 5), .ref (h 6)])), (h 6, .inl (g.2.1, 7, .inl st)), (h 11, .inr (3, [.ref (h 12), .int (nI cnt), .int (nI p), .int ca, .int fa, .int od, .ref (h 13), .ref (h 14)])), (h 15, .inr (1, [.ref (h 16), .int (nI nx), .int (nI hd)]))]) := by
  match w, hw0 with
  | 0, _ => exact c_X7_toldValue_0 l g h bads nos fuls cau whe L st cnt p ca fa od nx hd 
  | 1, _ => exact c_X7_toldValue_1 l g h bads nos fuls cau whe L st cnt p ca fa od nx hd 
  | 2, _ => exact c_X7_toldValue_2 l g h bads nos fuls cau whe L st cnt p ca fa od nx hd 
  | 3, _ => exact c_X7_toldValue_3 l g h bads nos fuls cau whe L st cnt p ca fa od nx hd 
  | 4, _ => exact c_X7_toldValue_4 l g h bads nos fuls cau whe L st cnt p ca fa od nx hd 
  | 5, _ => exact c_X7_toldValue_5 l g h bads nos fuls cau whe L st cnt p ca fa od nx hd 
  | 6, _ => exact c_X7_toldValue_6 l g h bads nos fuls cau whe L st cnt p ca fa od nx hd 
  | 7, _ => exact c_X7_toldValue_7 l g h bads nos fuls cau whe L st cnt p ca fa od nx hd 
  | 8, _ => exact c_X7_toldValue_8 l g h bads nos fuls cau whe L st cnt p ca fa od nx hd 
  | 9, _ => exact c_X7_toldValue_9 l g h bads nos fuls cau whe L st cnt p ca fa od nx hd 
  | 10, _ => exact c_X7_toldValue_10 l g h bads nos fuls cau whe L st cnt p ca fa od nx hd 
  | 11, _ => exact c_X7_toldValue_11 l g h bads nos fuls cau whe L st cnt p ca fa od nx hd 
  | 12, _ => exact c_X7_toldValue_12 l g h bads nos fuls cau whe L st cnt p ca fa od nx hd 
  | w + 13, h => exact absurd h (by omega)

set_option maxRecDepth 100000 in
set_option maxHeartbeats 4000000 in
theorem c_X7_toldValue_bad (l : Launch) (g : xCfg) (h : Nat → Nat) (bads : Int32) (nos : Int32) (fuls : Int32) (cau : Int32) (whe : Int32) (L : Nat) (st : Nat → Int32) (cnt : Nat) (p : Nat) (ca : Int32) (fa : Int32) (od : Int32) (nx : Nat) (hd : Nat) (x : Int32) (hb0 : ∀ k, k < 13 → x ≠ nI k) : Ct l g yX7_toldValue cX7_toldValue 2 (some .int) (xR 1 22) [.ref (h 17), .int x] [(h 17, .inr (7, [.ref (h 0), .ref (h 15), .ref (h 11), .int bads, .int nos, .int fuls, .int cau, .int whe])), (h 0, .inr (2, [.ref (h 1), .ref (h 2), .ref (h 7), .ref (h 8)])), (h 2, .inr (5, [.int (nI L), .ref (h 3), .ref (h 4), .ref (h 5), .ref (h 6)])), (h 6, .inl (g.2.1, 7, .inl st)), (h 11, .inr (3, [.ref (h 12), .int (nI cnt), .int (nI p), .int ca, .int fa, .int od, .ref (h 13), .ref (h 14)])), (h 15, .inr (1, [.ref (h 16), .int (nI nx), .int (nI hd)]))] (is1 (some (.int (-2))) [(h 17, .inr (7, [.ref (h 0), .ref (h 15), .ref (h 11), .int bads, .int nos, .int fuls, .int cau, .int whe])), (h 0, .inr (2, [.ref (h 1), .ref (h 2), .ref (h 7), .ref (h 8)])), (h 2, .inr (5, [.int (nI L), .ref (h 3), .ref (h 4), .ref (h 5), .ref (h 6)])), (h 6, .inl (g.2.1, 7, .inl st)), (h 11, .inr (3, [.ref (h 12), .int (nI cnt), .int (nI p), .int ca, .int fa, .int od, .ref (h 13), .ref (h 14)])), (h 15, .inr (1, [.ref (h 16), .int (nI nx), .int (nI hd)]))]) := by
  refine Ct.walk (by decide) (Nat.le_of_ble_eq_true rfl) ?_
  intro p0 e0 s0 m0 below meth c0 A0 ls Q hQ E hr hnm hw hl
  have hx := E.x
  have hb := E.b
  have hl : lv_has ls 2 [(0, .ref (h 17)), (1, .int x)] := hl
  refine lv_iload_n hx hb dX7_toldValue_0 rfl (lv_at hl 1 rfl) ?_
  refine lv_tableOut (tgt := 110) hx hb dX7_toldValue_1 (x_out 13 (by decide) (by decide) hb0) (by decide) ?_
  refine lv_iload_n hx hb dX7_toldValue_110 rfl (lv_at hl 1 rfl) ?_
  refine lv_iconst (v := 4) hx hb dX7_toldValue_111 (by decide) ?_
  refine lv_bipush (v := 10) hx hb dX7_toldValue_112 (by decide) ?_
  refine x_go (ws' := [(h 17, .inr (7, [.ref (h 0), .ref (h 15), .ref (h 11), .int bads, .int nos, .int fuls, .int cau, .int whe])), (h 0, .inr (2, [.ref (h 1), .ref (h 2), .ref (h 7), .ref (h 8)])), (h 2, .inr (5, [.int (nI L), .ref (h 3), .ref (h 4), .ref (h 5), .ref (h 6)])), (h 6, .inl (g.2.1, 7, .inl st)), (h 11, .inr (3, [.ref (h 12), .int (nI cnt), .int (nI p), .int ca, .int fa, .int od, .ref (h 13), .ref (h 14)])), (h 15, .inr (1, [.ref (h 16), .int (nI nx), .int (nI hd)]))]) (st1 := [.int (bI (4 ≤ x ∧ x ≤ 10))]) E hw [] rfl (x_runS (rest := []) E hw (c_X7_within l g x 4 10 ) km_X7_96 ks_X7_within [] rfl (by decide) hl.1 rfl rfl (Nat.le_of_ble_eq_true rfl) ⟨Nat.le_of_ble_eq_true rfl, Nat.le_of_ble_eq_true rfl⟩ ⟨Nat.zero_le _, Nat.zero_le _⟩ dX7_toldValue_114) rfl rfl rfl (fun H locs hw => ?_)
  refine xb_eq (tgt := 137) hx hb dX7_toldValue_117 (by decide) (fun c1 => ?_) (fun c1 => ?_)
  · refine lv_bipush (v := -2) hx hb dX7_toldValue_137 (by decide) ?_
    exact xr_i hQ E hr hw dX7_toldValue_139 ⟨rfl, rfl⟩
  · exact absurd c1 (by rintro ⟨a1, a2⟩; obtain ⟨j, hj, e⟩ := nI_of (Int32.not_lt.mpr (Int32.le_trans (by decide : (0 : Int32) ≤ 4) a1)); have := (n_le hj (b := 10) (by decide)).mp (e ▸ a2); exact hb0 j (by omega) e)

set_option maxRecDepth 100000 in
set_option maxHeartbeats 4000000 in
theorem c_X7_obeys_0 (l : Launch) (g : xCfg) (h : Nat → Nat) (bads : Int32) (nos : Int32) (fuls : Int32) (cau : Int32) (whe : Int32) (cnt : Nat) (p : Nat) (ca : Int32) (fa : Int32) (od : Int32) (wo : Nat → Int32) (nu : Nat → Int32) (v : SV) (k : Nat) (m : Nat) (hL1 : 1 ≤ v.1) (hL : v.1 ≤ 200) (hk : k < 24) (hwd : wo k = 0) (ha : nu (k * 3 + 0) = nI m) (hm : 5 ≤ m) (hm2 : m ≤ 200) : Ct l g yX7_obeys cX7_obeys 5 (some .int) (xR 6 200) [.ref (h 17), .int (nI k)] [(h 17, .inr (7, [.ref (h 0), .ref (h 15), .ref (h 11), .int bads, .int nos, .int fuls, .int cau, .int whe])), (h 11, .inr (3, [.ref (h 12), .int (nI cnt), .int (nI p), .int ca, .int fa, .int od, .ref (h 13), .ref (h 14)])), (h 13, .inl (g.2.1, 24, .inl wo)), (h 14, .inl (g.2.1, 72, .inl nu)), (h 0, .inr (2, [.ref (h 1), .ref (h 2), .ref (h 7), .ref (h 8)])), (h 2, .inr (5, [.int (nI v.1), .ref (h 3), .ref (h 4), .ref (h 5), .ref (h 6)])), (h 3, .inl (g.2.1, 200, .inl v.2.1)), (h 4, .inl (g.2.1, 200, .inl v.2.2.1)), (h 5, .inl (g.2.1, 200, .inl v.2.2.2.1)), (h 6, .inl (g.2.1, 7, .inl v.2.2.2.2.1)), (h 7, .inr (6, [.int (nI v.2.2.2.2.2.1), .int v.2.2.2.2.2.2.1, .int v.2.2.2.2.2.2.2.1, .int v.2.2.2.2.2.2.2.2.1, .int v.2.2.2.2.2.2.2.2.2.1, .int v.2.2.2.2.2.2.2.2.2.2.1, .int v.2.2.2.2.2.2.2.2.2.2.2.1, .int v.2.2.2.2.2.2.2.2.2.2.2.2]))] (is1 (some (.int (nI v.1))) [(h 17, .inr (7, [.ref (h 0), .ref (h 15), .ref (h 11), .int bads, .int nos, .int fuls, .int cau, .int whe])), (h 11, .inr (3, [.ref (h 12), .int (nI cnt), .int (nI p), .int ca, .int fa, .int od, .ref (h 13), .ref (h 14)])), (h 13, .inl (g.2.1, 24, .inl wo)), (h 14, .inl (g.2.1, 72, .inl nu)), (h 0, .inr (2, [.ref (h 1), .ref (h 2), .ref (h 7), .ref (h 8)])), (h 2, .inr (5, [.int (nI m), .ref (h 3), .ref (h 4), .ref (h 5), .ref (h 6)])), (h 3, .inl (g.2.1, 200, .inl (filF v.2.1 40 v.1 m))), (h 4, .inl (g.2.1, 200, .inl (filF v.2.2.1 0 v.1 m))), (h 5, .inl (g.2.1, 200, .inl (filF v.2.2.2.1 0 v.1 m))), (h 6, .inl (g.2.1, 7, .inl v.2.2.2.2.1)), (h 7, .inr (6, [.int (nI ((rszT v.2.2.2.2.2).1)), .int ((rszT v.2.2.2.2.2).2.1), .int ((rszT v.2.2.2.2.2).2.2.1), .int ((rszT v.2.2.2.2.2).2.2.2.1), .int ((rszT v.2.2.2.2.2).2.2.2.2.1), .int ((rszT v.2.2.2.2.2).2.2.2.2.2.1), .int ((rszT v.2.2.2.2.2).2.2.2.2.2.2.1), .int ((rszT v.2.2.2.2.2).2.2.2.2.2.2.2)]))]) := by
  refine Ct.walk (by decide) (Nat.le_of_ble_eq_true rfl) ?_
  intro p0 e0 s0 m0 below meth c0 A0 ls Q hQ E hr hnm hw hl
  have hx := E.x
  have hb := E.b
  have hl : lv_has ls 5 [(0, .ref (h 17)), (1, .int (nI k))] := hl
  refine lv_aload_n hx hb dX7_obeys_0 rfl (lv_at hl 0 rfl) ?_
  refine x_get E hw kf_X7_26 0 rfl rfl dX7_obeys_1 ?_
  refine lv_iload_n hx hb dX7_obeys_4 rfl (lv_at hl 1 rfl) ?_
  refine lv_iconst (v := 0) hx hb dX7_obeys_5 (by decide) ?_
  refine x_go (ws' := [(h 17, .inr (7, [.ref (h 0), .ref (h 15), .ref (h 11), .int bads, .int nos, .int fuls, .int cau, .int whe])), (h 11, .inr (3, [.ref (h 12), .int (nI cnt), .int (nI p), .int ca, .int fa, .int od, .ref (h 13), .ref (h 14)])), (h 13, .inl (g.2.1, 24, .inl wo)), (h 14, .inl (g.2.1, 72, .inl nu)), (h 0, .inr (2, [.ref (h 1), .ref (h 2), .ref (h 7), .ref (h 8)])), (h 2, .inr (5, [.int (nI v.1), .ref (h 3), .ref (h 4), .ref (h 5), .ref (h 6)])), (h 3, .inl (g.2.1, 200, .inl v.2.1)), (h 4, .inl (g.2.1, 200, .inl v.2.2.1)), (h 5, .inl (g.2.1, 200, .inl v.2.2.2.1)), (h 6, .inl (g.2.1, 7, .inl v.2.2.2.2.1)), (h 7, .inr (6, [.int (nI v.2.2.2.2.2.1), .int v.2.2.2.2.2.2.1, .int v.2.2.2.2.2.2.2.1, .int v.2.2.2.2.2.2.2.2.1, .int v.2.2.2.2.2.2.2.2.2.1, .int v.2.2.2.2.2.2.2.2.2.2.1, .int v.2.2.2.2.2.2.2.2.2.2.2.1, .int v.2.2.2.2.2.2.2.2.2.2.2.2]))]) (st1 := [.int (nu (k * 3 + 0))]) E hw [1, 3] rfl (x_runVN (rest := []) E hw (c_X3_number l g h cnt p ca fa od nu k 0 (by omega)) km_X7_192 kv_X3_number [1, 3] rfl (by decide) 1 rfl hl.1 rfl rfl (Nat.le_of_ble_eq_true rfl) ⟨Nat.le_of_ble_eq_true rfl, Nat.le_of_ble_eq_true rfl⟩ ⟨Nat.zero_le _, Nat.zero_le _⟩ dX7_obeys_6) rfl rfl rfl (fun H locs hw => ?_)
  refine x_top (v' := .int (nI m)) (congrArg Value.int ha) ?_
  refine lv_istore_n (lv' := [(2, .int (nI m)), (0, .ref (h 17)), (1, .int (nI k))]) hx hb dX7_obeys_9 rfl hl (by decide) rfl (fun ls hl => ?_)
  refine lv_aload_n hx hb dX7_obeys_10 rfl (lv_at hl 1 rfl) ?_
  refine x_get E hw kf_X7_26 0 rfl rfl dX7_obeys_11 ?_
  refine lv_iload_n hx hb dX7_obeys_14 rfl (lv_at hl 2 rfl) ?_
  refine lv_iconst (v := 1) hx hb dX7_obeys_15 (by decide) ?_
  refine x_go (ws' := [(h 17, .inr (7, [.ref (h 0), .ref (h 15), .ref (h 11), .int bads, .int nos, .int fuls, .int cau, .int whe])), (h 11, .inr (3, [.ref (h 12), .int (nI cnt), .int (nI p), .int ca, .int fa, .int od, .ref (h 13), .ref (h 14)])), (h 13, .inl (g.2.1, 24, .inl wo)), (h 14, .inl (g.2.1, 72, .inl nu)), (h 0, .inr (2, [.ref (h 1), .ref (h 2), .ref (h 7), .ref (h 8)])), (h 2, .inr (5, [.int (nI v.1), .ref (h 3), .ref (h 4), .ref (h 5), .ref (h 6)])), (h 3, .inl (g.2.1, 200, .inl v.2.1)), (h 4, .inl (g.2.1, 200, .inl v.2.2.1)), (h 5, .inl (g.2.1, 200, .inl v.2.2.2.1)), (h 6, .inl (g.2.1, 7, .inl v.2.2.2.2.1)), (h 7, .inr (6, [.int (nI v.2.2.2.2.2.1), .int v.2.2.2.2.2.2.1, .int v.2.2.2.2.2.2.2.1, .int v.2.2.2.2.2.2.2.2.1, .int v.2.2.2.2.2.2.2.2.2.1, .int v.2.2.2.2.2.2.2.2.2.2.1, .int v.2.2.2.2.2.2.2.2.2.2.2.1, .int v.2.2.2.2.2.2.2.2.2.2.2.2]))]) (st1 := [.int (nu (k * 3 + 1))]) E hw [1, 3] rfl (x_runVN (rest := []) E hw (c_X3_number l g h cnt p ca fa od nu k 1 (by omega)) km_X7_192 kv_X3_number [1, 3] rfl (by decide) 1 rfl hl.1 rfl rfl (Nat.le_of_ble_eq_true rfl) ⟨Nat.le_of_ble_eq_true rfl, Nat.le_of_ble_eq_true rfl⟩ ⟨Nat.zero_le _, Nat.zero_le _⟩ dX7_obeys_16) rfl rfl rfl (fun H locs hw => ?_)
  refine lv_istore_n (lv' := [(3, .int (nu (k * 3 + 1))), (2, .int (nI m)), (0, .ref (h 17)), (1, .int (nI k))]) hx hb dX7_obeys_19 rfl hl (by decide) rfl (fun ls hl => ?_)
  refine lv_aload_n hx hb dX7_obeys_20 rfl (lv_at hl 2 rfl) ?_
  refine x_get E hw kf_X7_26 0 rfl rfl dX7_obeys_21 ?_
  refine lv_iload_n hx hb dX7_obeys_24 rfl (lv_at hl 3 rfl) ?_
  refine lv_iconst (v := 2) hx hb dX7_obeys_25 (by decide) ?_
  refine x_go (ws' := [(h 17, .inr (7, [.ref (h 0), .ref (h 15), .ref (h 11), .int bads, .int nos, .int fuls, .int cau, .int whe])), (h 11, .inr (3, [.ref (h 12), .int (nI cnt), .int (nI p), .int ca, .int fa, .int od, .ref (h 13), .ref (h 14)])), (h 13, .inl (g.2.1, 24, .inl wo)), (h 14, .inl (g.2.1, 72, .inl nu)), (h 0, .inr (2, [.ref (h 1), .ref (h 2), .ref (h 7), .ref (h 8)])), (h 2, .inr (5, [.int (nI v.1), .ref (h 3), .ref (h 4), .ref (h 5), .ref (h 6)])), (h 3, .inl (g.2.1, 200, .inl v.2.1)), (h 4, .inl (g.2.1, 200, .inl v.2.2.1)), (h 5, .inl (g.2.1, 200, .inl v.2.2.2.1)), (h 6, .inl (g.2.1, 7, .inl v.2.2.2.2.1)), (h 7, .inr (6, [.int (nI v.2.2.2.2.2.1), .int v.2.2.2.2.2.2.1, .int v.2.2.2.2.2.2.2.1, .int v.2.2.2.2.2.2.2.2.1, .int v.2.2.2.2.2.2.2.2.2.1, .int v.2.2.2.2.2.2.2.2.2.2.1, .int v.2.2.2.2.2.2.2.2.2.2.2.1, .int v.2.2.2.2.2.2.2.2.2.2.2.2]))]) (st1 := [.int (nu (k * 3 + 2))]) E hw [1, 3] rfl (x_runVN (rest := []) E hw (c_X3_number l g h cnt p ca fa od nu k 2 (by omega)) km_X7_192 kv_X3_number [1, 3] rfl (by decide) 1 rfl hl.1 rfl rfl (Nat.le_of_ble_eq_true rfl) ⟨Nat.le_of_ble_eq_true rfl, Nat.le_of_ble_eq_true rfl⟩ ⟨Nat.zero_le _, Nat.zero_le _⟩ dX7_obeys_26) rfl rfl rfl (fun H locs hw => ?_)
  refine lv_istore (lv' := [(4, .int (nu (k * 3 + 2))), (3, .int (nu (k * 3 + 1))), (2, .int (nI m)), (0, .ref (h 17)), (1, .int (nI k))]) hx hb dX7_obeys_29 hl (by decide) rfl (fun ls hl => ?_)
  refine lv_aload_n hx hb dX7_obeys_31 rfl (lv_at hl 3 rfl) ?_
  refine x_get E hw kf_X7_26 0 rfl rfl dX7_obeys_32 ?_
  refine x_getN E hw kf_X7_195 1 rfl rfl dX7_obeys_35 ?_
  refine lv_iload_n hx hb dX7_obeys_38 rfl (lv_at hl 4 rfl) ?_
  refine x_ld (v := 0) E hw 2 rfl k rfl (by omega) (by decide) hwd dX7_obeys_39 ?_
  refine x_sw (v := 0) (off := 48) (tgt := 88) hx hb dX7_obeys_40 rfl (by decide) (by decide) (by decide) (by decide) ?_
  refine lv_aload_n hx hb dX7_obeys_88 rfl (lv_at hl 3 rfl) ?_
  refine x_get E hw kf_X7_10 0 rfl rfl dX7_obeys_89 ?_
  refine lv_iload_n hx hb dX7_obeys_92 rfl (lv_at hl 2 rfl) ?_
  refine x_go (ws' := [(h 17, .inr (7, [.ref (h 0), .ref (h 15), .ref (h 11), .int bads, .int nos, .int fuls, .int cau, .int whe])), (h 11, .inr (3, [.ref (h 12), .int (nI cnt), .int (nI p), .int ca, .int fa, .int od, .ref (h 13), .ref (h 14)])), (h 13, .inl (g.2.1, 24, .inl wo)), (h 14, .inl (g.2.1, 72, .inl nu)), (h 0, .inr (2, [.ref (h 1), .ref (h 2), .ref (h 7), .ref (h 8)])), (h 2, .inr (5, [.int (nI m), .ref (h 3), .ref (h 4), .ref (h 5), .ref (h 6)])), (h 3, .inl (g.2.1, 200, .inl (filF v.2.1 40 v.1 m))), (h 4, .inl (g.2.1, 200, .inl (filF v.2.2.1 0 v.1 m))), (h 5, .inl (g.2.1, 200, .inl (filF v.2.2.2.1 0 v.1 m))), (h 6, .inl (g.2.1, 7, .inl v.2.2.2.2.1)), (h 7, .inr (6, [.int (nI ((rszT v.2.2.2.2.2).1)), .int ((rszT v.2.2.2.2.2).2.1), .int ((rszT v.2.2.2.2.2).2.2.1), .int ((rszT v.2.2.2.2.2).2.2.2.1), .int ((rszT v.2.2.2.2.2).2.2.2.2.1), .int ((rszT v.2.2.2.2.2).2.2.2.2.2.1), .int ((rszT v.2.2.2.2.2).2.2.2.2.2.2.1), .int ((rszT v.2.2.2.2.2).2.2.2.2.2.2.2)]))]) (st1 := [.int (nI v.1)]) E hw [4, 5, 6, 7, 8, 10] rfl (x_runVN (rest := []) E hw (c_X2_resizes_ok l g h v.1 v.2.1 v.2.2.1 v.2.2.2.1 v.2.2.2.2.2 m (by omega) (by omega) (by omega)) km_X7_42 kv_X2_resizes [4, 5, 6, 7, 8, 10] rfl (by decide) 4 rfl hl.1 rfl rfl (Nat.le_of_ble_eq_true rfl) ⟨Nat.le_of_ble_eq_true rfl, Nat.le_of_ble_eq_true rfl⟩ ⟨Nat.zero_le _, Nat.zero_le _⟩ dX7_obeys_93) rfl rfl rfl (fun H locs hw => ?_)
  exact xr_i hQ E hr hw dX7_obeys_96 ⟨rfl, rfl⟩

set_option maxRecDepth 100000 in
set_option maxHeartbeats 4000000 in
theorem c_X7_obeys_1 (l : Launch) (g : xCfg) (h : Nat → Nat) (bads : Int32) (nos : Int32) (fuls : Int32) (cau : Int32) (whe : Int32) (cnt : Nat) (p : Nat) (ca : Int32) (fa : Int32) (od : Int32) (wo : Nat → Int32) (nu : Nat → Int32) (v : SV) (k : Nat) (a : Nat) (z : Nat) (hL1 : 1 ≤ v.1) (hL : v.1 ≤ 200) (hk : k < 24) (hwd : wo k = 1) (ha : nu (k * 3 + 0) = nI a) (hz0 : nu (k * 3 + 1) = nI z) (hz : z < v.1) (haz : a ≤ z) (hv : (0 : Int32) ≤ nu (k * 3 + 2)) (hv2 : nu (k * 3 + 2) ≤ 60) : Ct l g yX7_obeys cX7_obeys 5 (some .int) (xR 6 200) [.ref (h 17), .int (nI k)] [(h 17, .inr (7, [.ref (h 0), .ref (h 15), .ref (h 11), .int bads, .int nos, .int fuls, .int cau, .int whe])), (h 11, .inr (3, [.ref (h 12), .int (nI cnt), .int (nI p), .int ca, .int fa, .int od, .ref (h 13), .ref (h 14)])), (h 13, .inl (g.2.1, 24, .inl wo)), (h 14, .inl (g.2.1, 72, .inl nu)), (h 0, .inr (2, [.ref (h 1), .ref (h 2), .ref (h 7), .ref (h 8)])), (h 2, .inr (5, [.int (nI v.1), .ref (h 3), .ref (h 4), .ref (h 5), .ref (h 6)])), (h 3, .inl (g.2.1, 200, .inl v.2.1)), (h 4, .inl (g.2.1, 200, .inl v.2.2.1)), (h 5, .inl (g.2.1, 200, .inl v.2.2.2.1)), (h 6, .inl (g.2.1, 7, .inl v.2.2.2.2.1)), (h 7, .inr (6, [.int (nI v.2.2.2.2.2.1), .int v.2.2.2.2.2.2.1, .int v.2.2.2.2.2.2.2.1, .int v.2.2.2.2.2.2.2.2.1, .int v.2.2.2.2.2.2.2.2.2.1, .int v.2.2.2.2.2.2.2.2.2.2.1, .int v.2.2.2.2.2.2.2.2.2.2.2.1, .int v.2.2.2.2.2.2.2.2.2.2.2.2]))] (is1 (some (.int (nI (cntNe v.2.1 (nu (k * 3 + 2)) a (z + 1))))) [(h 17, .inr (7, [.ref (h 0), .ref (h 15), .ref (h 11), .int bads, .int nos, .int fuls, .int cau, .int whe])), (h 11, .inr (3, [.ref (h 12), .int (nI cnt), .int (nI p), .int ca, .int fa, .int od, .ref (h 13), .ref (h 14)])), (h 13, .inl (g.2.1, 24, .inl wo)), (h 14, .inl (g.2.1, 72, .inl nu)), (h 0, .inr (2, [.ref (h 1), .ref (h 2), .ref (h 7), .ref (h 8)])), (h 2, .inr (5, [.int (nI v.1), .ref (h 3), .ref (h 4), .ref (h 5), .ref (h 6)])), (h 3, .inl (g.2.1, 200, .inl (filF v.2.1 (nu (k * 3 + 2)) a (z + 1)))), (h 4, .inl (g.2.1, 200, .inl v.2.2.1)), (h 5, .inl (g.2.1, 200, .inl v.2.2.2.1)), (h 6, .inl (g.2.1, 7, .inl v.2.2.2.2.1)), (h 7, .inr (6, [.int (nI v.2.2.2.2.2.1), .int v.2.2.2.2.2.2.1, .int v.2.2.2.2.2.2.2.1, .int v.2.2.2.2.2.2.2.2.1, .int v.2.2.2.2.2.2.2.2.2.1, .int v.2.2.2.2.2.2.2.2.2.2.1, .int v.2.2.2.2.2.2.2.2.2.2.2.1, .int v.2.2.2.2.2.2.2.2.2.2.2.2]))]) := by
  refine Ct.walk (by decide) (Nat.le_of_ble_eq_true rfl) ?_
  intro p0 e0 s0 m0 below meth c0 A0 ls Q hQ E hr hnm hw hl
  have hx := E.x
  have hb := E.b
  have hl : lv_has ls 5 [(0, .ref (h 17)), (1, .int (nI k))] := hl
  refine lv_aload_n hx hb dX7_obeys_0 rfl (lv_at hl 0 rfl) ?_
  refine x_get E hw kf_X7_26 0 rfl rfl dX7_obeys_1 ?_
  refine lv_iload_n hx hb dX7_obeys_4 rfl (lv_at hl 1 rfl) ?_
  refine lv_iconst (v := 0) hx hb dX7_obeys_5 (by decide) ?_
  refine x_go (ws' := [(h 17, .inr (7, [.ref (h 0), .ref (h 15), .ref (h 11), .int bads, .int nos, .int fuls, .int cau, .int whe])), (h 11, .inr (3, [.ref (h 12), .int (nI cnt), .int (nI p), .int ca, .int fa, .int od, .ref (h 13), .ref (h 14)])), (h 13, .inl (g.2.1, 24, .inl wo)), (h 14, .inl (g.2.1, 72, .inl nu)), (h 0, .inr (2, [.ref (h 1), .ref (h 2), .ref (h 7), .ref (h 8)])), (h 2, .inr (5, [.int (nI v.1), .ref (h 3), .ref (h 4), .ref (h 5), .ref (h 6)])), (h 3, .inl (g.2.1, 200, .inl v.2.1)), (h 4, .inl (g.2.1, 200, .inl v.2.2.1)), (h 5, .inl (g.2.1, 200, .inl v.2.2.2.1)), (h 6, .inl (g.2.1, 7, .inl v.2.2.2.2.1)), (h 7, .inr (6, [.int (nI v.2.2.2.2.2.1), .int v.2.2.2.2.2.2.1, .int v.2.2.2.2.2.2.2.1, .int v.2.2.2.2.2.2.2.2.1, .int v.2.2.2.2.2.2.2.2.2.1, .int v.2.2.2.2.2.2.2.2.2.2.1, .int v.2.2.2.2.2.2.2.2.2.2.2.1, .int v.2.2.2.2.2.2.2.2.2.2.2.2]))]) (st1 := [.int (nu (k * 3 + 0))]) E hw [1, 3] rfl (x_runVN (rest := []) E hw (c_X3_number l g h cnt p ca fa od nu k 0 (by omega)) km_X7_192 kv_X3_number [1, 3] rfl (by decide) 1 rfl hl.1 rfl rfl (Nat.le_of_ble_eq_true rfl) ⟨Nat.le_of_ble_eq_true rfl, Nat.le_of_ble_eq_true rfl⟩ ⟨Nat.zero_le _, Nat.zero_le _⟩ dX7_obeys_6) rfl rfl rfl (fun H locs hw => ?_)
  refine x_top (v' := .int (nI a)) (congrArg Value.int ha) ?_
  refine lv_istore_n (lv' := [(2, .int (nI a)), (0, .ref (h 17)), (1, .int (nI k))]) hx hb dX7_obeys_9 rfl hl (by decide) rfl (fun ls hl => ?_)
  refine lv_aload_n hx hb dX7_obeys_10 rfl (lv_at hl 1 rfl) ?_
  refine x_get E hw kf_X7_26 0 rfl rfl dX7_obeys_11 ?_
  refine lv_iload_n hx hb dX7_obeys_14 rfl (lv_at hl 2 rfl) ?_
  refine lv_iconst (v := 1) hx hb dX7_obeys_15 (by decide) ?_
  refine x_go (ws' := [(h 17, .inr (7, [.ref (h 0), .ref (h 15), .ref (h 11), .int bads, .int nos, .int fuls, .int cau, .int whe])), (h 11, .inr (3, [.ref (h 12), .int (nI cnt), .int (nI p), .int ca, .int fa, .int od, .ref (h 13), .ref (h 14)])), (h 13, .inl (g.2.1, 24, .inl wo)), (h 14, .inl (g.2.1, 72, .inl nu)), (h 0, .inr (2, [.ref (h 1), .ref (h 2), .ref (h 7), .ref (h 8)])), (h 2, .inr (5, [.int (nI v.1), .ref (h 3), .ref (h 4), .ref (h 5), .ref (h 6)])), (h 3, .inl (g.2.1, 200, .inl v.2.1)), (h 4, .inl (g.2.1, 200, .inl v.2.2.1)), (h 5, .inl (g.2.1, 200, .inl v.2.2.2.1)), (h 6, .inl (g.2.1, 7, .inl v.2.2.2.2.1)), (h 7, .inr (6, [.int (nI v.2.2.2.2.2.1), .int v.2.2.2.2.2.2.1, .int v.2.2.2.2.2.2.2.1, .int v.2.2.2.2.2.2.2.2.1, .int v.2.2.2.2.2.2.2.2.2.1, .int v.2.2.2.2.2.2.2.2.2.2.1, .int v.2.2.2.2.2.2.2.2.2.2.2.1, .int v.2.2.2.2.2.2.2.2.2.2.2.2]))]) (st1 := [.int (nu (k * 3 + 1))]) E hw [1, 3] rfl (x_runVN (rest := []) E hw (c_X3_number l g h cnt p ca fa od nu k 1 (by omega)) km_X7_192 kv_X3_number [1, 3] rfl (by decide) 1 rfl hl.1 rfl rfl (Nat.le_of_ble_eq_true rfl) ⟨Nat.le_of_ble_eq_true rfl, Nat.le_of_ble_eq_true rfl⟩ ⟨Nat.zero_le _, Nat.zero_le _⟩ dX7_obeys_16) rfl rfl rfl (fun H locs hw => ?_)
  refine x_top (v' := .int (nI z)) (congrArg Value.int hz0) ?_
  refine lv_istore_n (lv' := [(3, .int (nI z)), (2, .int (nI a)), (0, .ref (h 17)), (1, .int (nI k))]) hx hb dX7_obeys_19 rfl hl (by decide) rfl (fun ls hl => ?_)
  refine lv_aload_n hx hb dX7_obeys_20 rfl (lv_at hl 2 rfl) ?_
  refine x_get E hw kf_X7_26 0 rfl rfl dX7_obeys_21 ?_
  refine lv_iload_n hx hb dX7_obeys_24 rfl (lv_at hl 3 rfl) ?_
  refine lv_iconst (v := 2) hx hb dX7_obeys_25 (by decide) ?_
  refine x_go (ws' := [(h 17, .inr (7, [.ref (h 0), .ref (h 15), .ref (h 11), .int bads, .int nos, .int fuls, .int cau, .int whe])), (h 11, .inr (3, [.ref (h 12), .int (nI cnt), .int (nI p), .int ca, .int fa, .int od, .ref (h 13), .ref (h 14)])), (h 13, .inl (g.2.1, 24, .inl wo)), (h 14, .inl (g.2.1, 72, .inl nu)), (h 0, .inr (2, [.ref (h 1), .ref (h 2), .ref (h 7), .ref (h 8)])), (h 2, .inr (5, [.int (nI v.1), .ref (h 3), .ref (h 4), .ref (h 5), .ref (h 6)])), (h 3, .inl (g.2.1, 200, .inl v.2.1)), (h 4, .inl (g.2.1, 200, .inl v.2.2.1)), (h 5, .inl (g.2.1, 200, .inl v.2.2.2.1)), (h 6, .inl (g.2.1, 7, .inl v.2.2.2.2.1)), (h 7, .inr (6, [.int (nI v.2.2.2.2.2.1), .int v.2.2.2.2.2.2.1, .int v.2.2.2.2.2.2.2.1, .int v.2.2.2.2.2.2.2.2.1, .int v.2.2.2.2.2.2.2.2.2.1, .int v.2.2.2.2.2.2.2.2.2.2.1, .int v.2.2.2.2.2.2.2.2.2.2.2.1, .int v.2.2.2.2.2.2.2.2.2.2.2.2]))]) (st1 := [.int (nu (k * 3 + 2))]) E hw [1, 3] rfl (x_runVN (rest := []) E hw (c_X3_number l g h cnt p ca fa od nu k 2 (by omega)) km_X7_192 kv_X3_number [1, 3] rfl (by decide) 1 rfl hl.1 rfl rfl (Nat.le_of_ble_eq_true rfl) ⟨Nat.le_of_ble_eq_true rfl, Nat.le_of_ble_eq_true rfl⟩ ⟨Nat.zero_le _, Nat.zero_le _⟩ dX7_obeys_26) rfl rfl rfl (fun H locs hw => ?_)
  refine lv_istore (lv' := [(4, .int (nu (k * 3 + 2))), (3, .int (nI z)), (2, .int (nI a)), (0, .ref (h 17)), (1, .int (nI k))]) hx hb dX7_obeys_29 hl (by decide) rfl (fun ls hl => ?_)
  refine lv_aload_n hx hb dX7_obeys_31 rfl (lv_at hl 3 rfl) ?_
  refine x_get E hw kf_X7_26 0 rfl rfl dX7_obeys_32 ?_
  refine x_getN E hw kf_X7_195 1 rfl rfl dX7_obeys_35 ?_
  refine lv_iload_n hx hb dX7_obeys_38 rfl (lv_at hl 4 rfl) ?_
  refine x_ld (v := 1) E hw 2 rfl k rfl (by omega) (by decide) hwd dX7_obeys_39 ?_
  refine x_sw (v := 1) (off := 57) (tgt := 97) hx hb dX7_obeys_40 rfl (by decide) (by decide) (by decide) (by decide) ?_
  refine lv_aload_n hx hb dX7_obeys_97 rfl (lv_at hl 3 rfl) ?_
  refine x_get E hw kf_X7_10 0 rfl rfl dX7_obeys_98 ?_
  refine x_getN E hw kf_X7_49 4 rfl rfl dX7_obeys_101 ?_
  refine lv_iconst (v := 0) hx hb dX7_obeys_104 (by decide) ?_
  refine lv_iload_n hx hb dX7_obeys_105 rfl (lv_at hl 2 rfl) ?_
  refine lv_iload_n hx hb dX7_obeys_106 rfl (lv_at hl 1 rfl) ?_
  refine lv_iload hx hb dX7_obeys_107 (lv_at hl 0 rfl) ?_
  refine x_go (ws' := [(h 17, .inr (7, [.ref (h 0), .ref (h 15), .ref (h 11), .int bads, .int nos, .int fuls, .int cau, .int whe])), (h 11, .inr (3, [.ref (h 12), .int (nI cnt), .int (nI p), .int ca, .int fa, .int od, .ref (h 13), .ref (h 14)])), (h 13, .inl (g.2.1, 24, .inl wo)), (h 14, .inl (g.2.1, 72, .inl nu)), (h 0, .inr (2, [.ref (h 1), .ref (h 2), .ref (h 7), .ref (h 8)])), (h 2, .inr (5, [.int (nI v.1), .ref (h 3), .ref (h 4), .ref (h 5), .ref (h 6)])), (h 3, .inl (g.2.1, 200, .inl (filF v.2.1 (nu (k * 3 + 2)) a (z + 1)))), (h 4, .inl (g.2.1, 200, .inl v.2.2.1)), (h 5, .inl (g.2.1, 200, .inl v.2.2.2.1)), (h 6, .inl (g.2.1, 7, .inl v.2.2.2.2.1)), (h 7, .inr (6, [.int (nI v.2.2.2.2.2.1), .int v.2.2.2.2.2.2.1, .int v.2.2.2.2.2.2.2.1, .int v.2.2.2.2.2.2.2.2.1, .int v.2.2.2.2.2.2.2.2.2.1, .int v.2.2.2.2.2.2.2.2.2.2.1, .int v.2.2.2.2.2.2.2.2.2.2.2.1, .int v.2.2.2.2.2.2.2.2.2.2.2.2]))]) (st1 := [.int (nI (cntNe v.2.1 (nu (k * 3 + 2)) a (z + 1)))]) E hw [5, 6] rfl (x_runVN (rest := []) E hw (c_X5_relaid_c l g h v.1 v.2.1 a z (nu (k * 3 + 2)) (by omega) (by omega) (by omega) hv hv2) km_X7_53 kv_X5_relaid [5, 6] rfl (by decide) 5 rfl hl.1 rfl rfl (Nat.le_of_ble_eq_true rfl) ⟨Nat.le_of_ble_eq_true rfl, Nat.le_of_ble_eq_true rfl⟩ ⟨Nat.zero_le _, Nat.zero_le _⟩ dX7_obeys_109) rfl rfl rfl (fun H locs hw => ?_)
  exact xr_i hQ E hr hw dX7_obeys_112 ⟨rfl, rfl⟩

set_option maxRecDepth 100000 in
set_option maxHeartbeats 4000000 in
theorem c_X7_obeys_2 (l : Launch) (g : xCfg) (h : Nat → Nat) (bads : Int32) (nos : Int32) (fuls : Int32) (cau : Int32) (whe : Int32) (cnt : Nat) (p : Nat) (ca : Int32) (fa : Int32) (od : Int32) (wo : Nat → Int32) (nu : Nat → Int32) (v : SV) (k : Nat) (a : Nat) (z : Nat) (hL1 : 1 ≤ v.1) (hL : v.1 ≤ 200) (hk : k < 24) (hwd : wo k = 2) (ha : nu (k * 3 + 0) = nI a) (hz0 : nu (k * 3 + 1) = nI z) (hz : z < v.1) (haz : a ≤ z) (hv : (-20 : Int32) ≤ nu (k * 3 + 2)) (hv2 : nu (k * 3 + 2) ≤ 20) : Ct l g yX7_obeys cX7_obeys 5 (some .int) (xR 6 200) [.ref (h 17), .int (nI k)] [(h 17, .inr (7, [.ref (h 0), .ref (h 15), .ref (h 11), .int bads, .int nos, .int fuls, .int cau, .int whe])), (h 11, .inr (3, [.ref (h 12), .int (nI cnt), .int (nI p), .int ca, .int fa, .int od, .ref (h 13), .ref (h 14)])), (h 13, .inl (g.2.1, 24, .inl wo)), (h 14, .inl (g.2.1, 72, .inl nu)), (h 0, .inr (2, [.ref (h 1), .ref (h 2), .ref (h 7), .ref (h 8)])), (h 2, .inr (5, [.int (nI v.1), .ref (h 3), .ref (h 4), .ref (h 5), .ref (h 6)])), (h 3, .inl (g.2.1, 200, .inl v.2.1)), (h 4, .inl (g.2.1, 200, .inl v.2.2.1)), (h 5, .inl (g.2.1, 200, .inl v.2.2.2.1)), (h 6, .inl (g.2.1, 7, .inl v.2.2.2.2.1)), (h 7, .inr (6, [.int (nI v.2.2.2.2.2.1), .int v.2.2.2.2.2.2.1, .int v.2.2.2.2.2.2.2.1, .int v.2.2.2.2.2.2.2.2.1, .int v.2.2.2.2.2.2.2.2.2.1, .int v.2.2.2.2.2.2.2.2.2.2.1, .int v.2.2.2.2.2.2.2.2.2.2.2.1, .int v.2.2.2.2.2.2.2.2.2.2.2.2]))] (is1 (some (.int (nI (cntNe v.2.2.1 (nu (k * 3 + 2)) a (z + 1))))) [(h 17, .inr (7, [.ref (h 0), .ref (h 15), .ref (h 11), .int bads, .int nos, .int fuls, .int cau, .int whe])), (h 11, .inr (3, [.ref (h 12), .int (nI cnt), .int (nI p), .int ca, .int fa, .int od, .ref (h 13), .ref (h 14)])), (h 13, .inl (g.2.1, 24, .inl wo)), (h 14, .inl (g.2.1, 72, .inl nu)), (h 0, .inr (2, [.ref (h 1), .ref (h 2), .ref (h 7), .ref (h 8)])), (h 2, .inr (5, [.int (nI v.1), .ref (h 3), .ref (h 4), .ref (h 5), .ref (h 6)])), (h 3, .inl (g.2.1, 200, .inl v.2.1)), (h 4, .inl (g.2.1, 200, .inl (filF v.2.2.1 (nu (k * 3 + 2)) a (z + 1)))), (h 5, .inl (g.2.1, 200, .inl v.2.2.2.1)), (h 6, .inl (g.2.1, 7, .inl v.2.2.2.2.1)), (h 7, .inr (6, [.int (nI v.2.2.2.2.2.1), .int v.2.2.2.2.2.2.1, .int v.2.2.2.2.2.2.2.1, .int v.2.2.2.2.2.2.2.2.1, .int v.2.2.2.2.2.2.2.2.2.1, .int v.2.2.2.2.2.2.2.2.2.2.1, .int v.2.2.2.2.2.2.2.2.2.2.2.1, .int v.2.2.2.2.2.2.2.2.2.2.2.2]))]) := by
  refine Ct.walk (by decide) (Nat.le_of_ble_eq_true rfl) ?_
  intro p0 e0 s0 m0 below meth c0 A0 ls Q hQ E hr hnm hw hl
  have hx := E.x
  have hb := E.b
  have hl : lv_has ls 5 [(0, .ref (h 17)), (1, .int (nI k))] := hl
  refine lv_aload_n hx hb dX7_obeys_0 rfl (lv_at hl 0 rfl) ?_
  refine x_get E hw kf_X7_26 0 rfl rfl dX7_obeys_1 ?_
  refine lv_iload_n hx hb dX7_obeys_4 rfl (lv_at hl 1 rfl) ?_
  refine lv_iconst (v := 0) hx hb dX7_obeys_5 (by decide) ?_
  refine x_go (ws' := [(h 17, .inr (7, [.ref (h 0), .ref (h 15), .ref (h 11), .int bads, .int nos, .int fuls, .int cau, .int whe])), (h 11, .inr (3, [.ref (h 12), .int (nI cnt), .int (nI p), .int ca, .int fa, .int od, .ref (h 13), .ref (h 14)])), (h 13, .inl (g.2.1, 24, .inl wo)), (h 14, .inl (g.2.1, 72, .inl nu)), (h 0, .inr (2, [.ref (h 1), .ref (h 2), .ref (h 7), .ref (h 8)])), (h 2, .inr (5, [.int (nI v.1), .ref (h 3), .ref (h 4), .ref (h 5), .ref (h 6)])), (h 3, .inl (g.2.1, 200, .inl v.2.1)), (h 4, .inl (g.2.1, 200, .inl v.2.2.1)), (h 5, .inl (g.2.1, 200, .inl v.2.2.2.1)), (h 6, .inl (g.2.1, 7, .inl v.2.2.2.2.1)), (h 7, .inr (6, [.int (nI v.2.2.2.2.2.1), .int v.2.2.2.2.2.2.1, .int v.2.2.2.2.2.2.2.1, .int v.2.2.2.2.2.2.2.2.1, .int v.2.2.2.2.2.2.2.2.2.1, .int v.2.2.2.2.2.2.2.2.2.2.1, .int v.2.2.2.2.2.2.2.2.2.2.2.1, .int v.2.2.2.2.2.2.2.2.2.2.2.2]))]) (st1 := [.int (nu (k * 3 + 0))]) E hw [1, 3] rfl (x_runVN (rest := []) E hw (c_X3_number l g h cnt p ca fa od nu k 0 (by omega)) km_X7_192 kv_X3_number [1, 3] rfl (by decide) 1 rfl hl.1 rfl rfl (Nat.le_of_ble_eq_true rfl) ⟨Nat.le_of_ble_eq_true rfl, Nat.le_of_ble_eq_true rfl⟩ ⟨Nat.zero_le _, Nat.zero_le _⟩ dX7_obeys_6) rfl rfl rfl (fun H locs hw => ?_)
  refine x_top (v' := .int (nI a)) (congrArg Value.int ha) ?_
  refine lv_istore_n (lv' := [(2, .int (nI a)), (0, .ref (h 17)), (1, .int (nI k))]) hx hb dX7_obeys_9 rfl hl (by decide) rfl (fun ls hl => ?_)
  refine lv_aload_n hx hb dX7_obeys_10 rfl (lv_at hl 1 rfl) ?_
  refine x_get E hw kf_X7_26 0 rfl rfl dX7_obeys_11 ?_
  refine lv_iload_n hx hb dX7_obeys_14 rfl (lv_at hl 2 rfl) ?_
  refine lv_iconst (v := 1) hx hb dX7_obeys_15 (by decide) ?_
  refine x_go (ws' := [(h 17, .inr (7, [.ref (h 0), .ref (h 15), .ref (h 11), .int bads, .int nos, .int fuls, .int cau, .int whe])), (h 11, .inr (3, [.ref (h 12), .int (nI cnt), .int (nI p), .int ca, .int fa, .int od, .ref (h 13), .ref (h 14)])), (h 13, .inl (g.2.1, 24, .inl wo)), (h 14, .inl (g.2.1, 72, .inl nu)), (h 0, .inr (2, [.ref (h 1), .ref (h 2), .ref (h 7), .ref (h 8)])), (h 2, .inr (5, [.int (nI v.1), .ref (h 3), .ref (h 4), .ref (h 5), .ref (h 6)])), (h 3, .inl (g.2.1, 200, .inl v.2.1)), (h 4, .inl (g.2.1, 200, .inl v.2.2.1)), (h 5, .inl (g.2.1, 200, .inl v.2.2.2.1)), (h 6, .inl (g.2.1, 7, .inl v.2.2.2.2.1)), (h 7, .inr (6, [.int (nI v.2.2.2.2.2.1), .int v.2.2.2.2.2.2.1, .int v.2.2.2.2.2.2.2.1, .int v.2.2.2.2.2.2.2.2.1, .int v.2.2.2.2.2.2.2.2.2.1, .int v.2.2.2.2.2.2.2.2.2.2.1, .int v.2.2.2.2.2.2.2.2.2.2.2.1, .int v.2.2.2.2.2.2.2.2.2.2.2.2]))]) (st1 := [.int (nu (k * 3 + 1))]) E hw [1, 3] rfl (x_runVN (rest := []) E hw (c_X3_number l g h cnt p ca fa od nu k 1 (by omega)) km_X7_192 kv_X3_number [1, 3] rfl (by decide) 1 rfl hl.1 rfl rfl (Nat.le_of_ble_eq_true rfl) ⟨Nat.le_of_ble_eq_true rfl, Nat.le_of_ble_eq_true rfl⟩ ⟨Nat.zero_le _, Nat.zero_le _⟩ dX7_obeys_16) rfl rfl rfl (fun H locs hw => ?_)
  refine x_top (v' := .int (nI z)) (congrArg Value.int hz0) ?_
  refine lv_istore_n (lv' := [(3, .int (nI z)), (2, .int (nI a)), (0, .ref (h 17)), (1, .int (nI k))]) hx hb dX7_obeys_19 rfl hl (by decide) rfl (fun ls hl => ?_)
  refine lv_aload_n hx hb dX7_obeys_20 rfl (lv_at hl 2 rfl) ?_
  refine x_get E hw kf_X7_26 0 rfl rfl dX7_obeys_21 ?_
  refine lv_iload_n hx hb dX7_obeys_24 rfl (lv_at hl 3 rfl) ?_
  refine lv_iconst (v := 2) hx hb dX7_obeys_25 (by decide) ?_
  refine x_go (ws' := [(h 17, .inr (7, [.ref (h 0), .ref (h 15), .ref (h 11), .int bads, .int nos, .int fuls, .int cau, .int whe])), (h 11, .inr (3, [.ref (h 12), .int (nI cnt), .int (nI p), .int ca, .int fa, .int od, .ref (h 13), .ref (h 14)])), (h 13, .inl (g.2.1, 24, .inl wo)), (h 14, .inl (g.2.1, 72, .inl nu)), (h 0, .inr (2, [.ref (h 1), .ref (h 2), .ref (h 7), .ref (h 8)])), (h 2, .inr (5, [.int (nI v.1), .ref (h 3), .ref (h 4), .ref (h 5), .ref (h 6)])), (h 3, .inl (g.2.1, 200, .inl v.2.1)), (h 4, .inl (g.2.1, 200, .inl v.2.2.1)), (h 5, .inl (g.2.1, 200, .inl v.2.2.2.1)), (h 6, .inl (g.2.1, 7, .inl v.2.2.2.2.1)), (h 7, .inr (6, [.int (nI v.2.2.2.2.2.1), .int v.2.2.2.2.2.2.1, .int v.2.2.2.2.2.2.2.1, .int v.2.2.2.2.2.2.2.2.1, .int v.2.2.2.2.2.2.2.2.2.1, .int v.2.2.2.2.2.2.2.2.2.2.1, .int v.2.2.2.2.2.2.2.2.2.2.2.1, .int v.2.2.2.2.2.2.2.2.2.2.2.2]))]) (st1 := [.int (nu (k * 3 + 2))]) E hw [1, 3] rfl (x_runVN (rest := []) E hw (c_X3_number l g h cnt p ca fa od nu k 2 (by omega)) km_X7_192 kv_X3_number [1, 3] rfl (by decide) 1 rfl hl.1 rfl rfl (Nat.le_of_ble_eq_true rfl) ⟨Nat.le_of_ble_eq_true rfl, Nat.le_of_ble_eq_true rfl⟩ ⟨Nat.zero_le _, Nat.zero_le _⟩ dX7_obeys_26) rfl rfl rfl (fun H locs hw => ?_)
  refine lv_istore (lv' := [(4, .int (nu (k * 3 + 2))), (3, .int (nI z)), (2, .int (nI a)), (0, .ref (h 17)), (1, .int (nI k))]) hx hb dX7_obeys_29 hl (by decide) rfl (fun ls hl => ?_)
  refine lv_aload_n hx hb dX7_obeys_31 rfl (lv_at hl 3 rfl) ?_
  refine x_get E hw kf_X7_26 0 rfl rfl dX7_obeys_32 ?_
  refine x_getN E hw kf_X7_195 1 rfl rfl dX7_obeys_35 ?_
  refine lv_iload_n hx hb dX7_obeys_38 rfl (lv_at hl 4 rfl) ?_
  refine x_ld (v := 2) E hw 2 rfl k rfl (by omega) (by decide) hwd dX7_obeys_39 ?_
  refine x_sw (v := 2) (off := 73) (tgt := 113) hx hb dX7_obeys_40 rfl (by decide) (by decide) (by decide) (by decide) ?_
  refine lv_aload_n hx hb dX7_obeys_113 rfl (lv_at hl 3 rfl) ?_
  refine x_get E hw kf_X7_10 0 rfl rfl dX7_obeys_114 ?_
  refine x_getN E hw kf_X7_49 4 rfl rfl dX7_obeys_117 ?_
  refine lv_iconst (v := 1) hx hb dX7_obeys_120 (by decide) ?_
  refine lv_iload_n hx hb dX7_obeys_121 rfl (lv_at hl 2 rfl) ?_
  refine lv_iload_n hx hb dX7_obeys_122 rfl (lv_at hl 1 rfl) ?_
  refine lv_iload hx hb dX7_obeys_123 (lv_at hl 0 rfl) ?_
  refine x_go (ws' := [(h 17, .inr (7, [.ref (h 0), .ref (h 15), .ref (h 11), .int bads, .int nos, .int fuls, .int cau, .int whe])), (h 11, .inr (3, [.ref (h 12), .int (nI cnt), .int (nI p), .int ca, .int fa, .int od, .ref (h 13), .ref (h 14)])), (h 13, .inl (g.2.1, 24, .inl wo)), (h 14, .inl (g.2.1, 72, .inl nu)), (h 0, .inr (2, [.ref (h 1), .ref (h 2), .ref (h 7), .ref (h 8)])), (h 2, .inr (5, [.int (nI v.1), .ref (h 3), .ref (h 4), .ref (h 5), .ref (h 6)])), (h 3, .inl (g.2.1, 200, .inl v.2.1)), (h 4, .inl (g.2.1, 200, .inl (filF v.2.2.1 (nu (k * 3 + 2)) a (z + 1)))), (h 5, .inl (g.2.1, 200, .inl v.2.2.2.1)), (h 6, .inl (g.2.1, 7, .inl v.2.2.2.2.1)), (h 7, .inr (6, [.int (nI v.2.2.2.2.2.1), .int v.2.2.2.2.2.2.1, .int v.2.2.2.2.2.2.2.1, .int v.2.2.2.2.2.2.2.2.1, .int v.2.2.2.2.2.2.2.2.2.1, .int v.2.2.2.2.2.2.2.2.2.2.1, .int v.2.2.2.2.2.2.2.2.2.2.2.1, .int v.2.2.2.2.2.2.2.2.2.2.2.2]))]) (st1 := [.int (nI (cntNe v.2.2.1 (nu (k * 3 + 2)) a (z + 1)))]) E hw [5, 7] rfl (x_runVN (rest := []) E hw (c_X5_relaid_g l g h v.1 v.2.2.1 a z (nu (k * 3 + 2)) (by omega) (by omega) (by omega) hv hv2) km_X7_53 kv_X5_relaid [5, 7] rfl (by decide) 5 rfl hl.1 rfl rfl (Nat.le_of_ble_eq_true rfl) ⟨Nat.le_of_ble_eq_true rfl, Nat.le_of_ble_eq_true rfl⟩ ⟨Nat.zero_le _, Nat.zero_le _⟩ dX7_obeys_125) rfl rfl rfl (fun H locs hw => ?_)
  exact xr_i hQ E hr hw dX7_obeys_128 ⟨rfl, rfl⟩

set_option maxRecDepth 100000 in
set_option maxHeartbeats 4000000 in
theorem c_X7_obeys_3 (l : Launch) (g : xCfg) (h : Nat → Nat) (bads : Int32) (nos : Int32) (fuls : Int32) (cau : Int32) (whe : Int32) (cnt : Nat) (p : Nat) (ca : Int32) (fa : Int32) (od : Int32) (wo : Nat → Int32) (nu : Nat → Int32) (v : SV) (k : Nat) (a : Nat) (hL1 : 1 ≤ v.1) (hL : v.1 ≤ 200) (hk : k < 24) (hwd : wo k = 3) (ha : nu (k * 3 + 0) = nI a) (haL : a < v.1) : Ct l g yX7_obeys cX7_obeys 5 (some .int) (xR 6 200) [.ref (h 17), .int (nI k)] [(h 17, .inr (7, [.ref (h 0), .ref (h 15), .ref (h 11), .int bads, .int nos, .int fuls, .int cau, .int whe])), (h 11, .inr (3, [.ref (h 12), .int (nI cnt), .int (nI p), .int ca, .int fa, .int od, .ref (h 13), .ref (h 14)])), (h 13, .inl (g.2.1, 24, .inl wo)), (h 14, .inl (g.2.1, 72, .inl nu)), (h 0, .inr (2, [.ref (h 1), .ref (h 2), .ref (h 7), .ref (h 8)])), (h 2, .inr (5, [.int (nI v.1), .ref (h 3), .ref (h 4), .ref (h 5), .ref (h 6)])), (h 3, .inl (g.2.1, 200, .inl v.2.1)), (h 4, .inl (g.2.1, 200, .inl v.2.2.1)), (h 5, .inl (g.2.1, 200, .inl v.2.2.2.1)), (h 6, .inl (g.2.1, 7, .inl v.2.2.2.2.1)), (h 7, .inr (6, [.int (nI v.2.2.2.2.2.1), .int v.2.2.2.2.2.2.1, .int v.2.2.2.2.2.2.2.1, .int v.2.2.2.2.2.2.2.2.1, .int v.2.2.2.2.2.2.2.2.2.1, .int v.2.2.2.2.2.2.2.2.2.2.1, .int v.2.2.2.2.2.2.2.2.2.2.2.1, .int v.2.2.2.2.2.2.2.2.2.2.2.2]))] (is1 (some (.int (v.2.2.2.1 a))) [(h 17, .inr (7, [.ref (h 0), .ref (h 15), .ref (h 11), .int bads, .int nos, .int fuls, .int cau, .int whe])), (h 11, .inr (3, [.ref (h 12), .int (nI cnt), .int (nI p), .int ca, .int fa, .int od, .ref (h 13), .ref (h 14)])), (h 13, .inl (g.2.1, 24, .inl wo)), (h 14, .inl (g.2.1, 72, .inl nu)), (h 0, .inr (2, [.ref (h 1), .ref (h 2), .ref (h 7), .ref (h 8)])), (h 2, .inr (5, [.int (nI v.1), .ref (h 3), .ref (h 4), .ref (h 5), .ref (h 6)])), (h 3, .inl (g.2.1, 200, .inl v.2.1)), (h 4, .inl (g.2.1, 200, .inl v.2.2.1)), (h 5, .inl (g.2.1, 200, .inl (upd v.2.2.2.1 a 1))), (h 6, .inl (g.2.1, 7, .inl v.2.2.2.2.1)), (h 7, .inr (6, [.int (nI v.2.2.2.2.2.1), .int v.2.2.2.2.2.2.1, .int v.2.2.2.2.2.2.2.1, .int v.2.2.2.2.2.2.2.2.1, .int v.2.2.2.2.2.2.2.2.2.1, .int v.2.2.2.2.2.2.2.2.2.2.1, .int v.2.2.2.2.2.2.2.2.2.2.2.1, .int v.2.2.2.2.2.2.2.2.2.2.2.2]))]) := by
  refine Ct.walk (by decide) (Nat.le_of_ble_eq_true rfl) ?_
  intro p0 e0 s0 m0 below meth c0 A0 ls Q hQ E hr hnm hw hl
  have hx := E.x
  have hb := E.b
  have hl : lv_has ls 5 [(0, .ref (h 17)), (1, .int (nI k))] := hl
  refine lv_aload_n hx hb dX7_obeys_0 rfl (lv_at hl 0 rfl) ?_
  refine x_get E hw kf_X7_26 0 rfl rfl dX7_obeys_1 ?_
  refine lv_iload_n hx hb dX7_obeys_4 rfl (lv_at hl 1 rfl) ?_
  refine lv_iconst (v := 0) hx hb dX7_obeys_5 (by decide) ?_
  refine x_go (ws' := [(h 17, .inr (7, [.ref (h 0), .ref (h 15), .ref (h 11), .int bads, .int nos, .int fuls, .int cau, .int whe])), (h 11, .inr (3, [.ref (h 12), .int (nI cnt), .int (nI p), .int ca, .int fa, .int od, .ref (h 13), .ref (h 14)])), (h 13, .inl (g.2.1, 24, .inl wo)), (h 14, .inl (g.2.1, 72, .inl nu)), (h 0, .inr (2, [.ref (h 1), .ref (h 2), .ref (h 7), .ref (h 8)])), (h 2, .inr (5, [.int (nI v.1), .ref (h 3), .ref (h 4), .ref (h 5), .ref (h 6)])), (h 3, .inl (g.2.1, 200, .inl v.2.1)), (h 4, .inl (g.2.1, 200, .inl v.2.2.1)), (h 5, .inl (g.2.1, 200, .inl v.2.2.2.1)), (h 6, .inl (g.2.1, 7, .inl v.2.2.2.2.1)), (h 7, .inr (6, [.int (nI v.2.2.2.2.2.1), .int v.2.2.2.2.2.2.1, .int v.2.2.2.2.2.2.2.1, .int v.2.2.2.2.2.2.2.2.1, .int v.2.2.2.2.2.2.2.2.2.1, .int v.2.2.2.2.2.2.2.2.2.2.1, .int v.2.2.2.2.2.2.2.2.2.2.2.1, .int v.2.2.2.2.2.2.2.2.2.2.2.2]))]) (st1 := [.int (nu (k * 3 + 0))]) E hw [1, 3] rfl (x_runVN (rest := []) E hw (c_X3_number l g h cnt p ca fa od nu k 0 (by omega)) km_X7_192 kv_X3_number [1, 3] rfl (by decide) 1 rfl hl.1 rfl rfl (Nat.le_of_ble_eq_true rfl) ⟨Nat.le_of_ble_eq_true rfl, Nat.le_of_ble_eq_true rfl⟩ ⟨Nat.zero_le _, Nat.zero_le _⟩ dX7_obeys_6) rfl rfl rfl (fun H locs hw => ?_)
  refine x_top (v' := .int (nI a)) (congrArg Value.int ha) ?_
  refine lv_istore_n (lv' := [(2, .int (nI a)), (0, .ref (h 17)), (1, .int (nI k))]) hx hb dX7_obeys_9 rfl hl (by decide) rfl (fun ls hl => ?_)
  refine lv_aload_n hx hb dX7_obeys_10 rfl (lv_at hl 1 rfl) ?_
  refine x_get E hw kf_X7_26 0 rfl rfl dX7_obeys_11 ?_
  refine lv_iload_n hx hb dX7_obeys_14 rfl (lv_at hl 2 rfl) ?_
  refine lv_iconst (v := 1) hx hb dX7_obeys_15 (by decide) ?_
  refine x_go (ws' := [(h 17, .inr (7, [.ref (h 0), .ref (h 15), .ref (h 11), .int bads, .int nos, .int fuls, .int cau, .int whe])), (h 11, .inr (3, [.ref (h 12), .int (nI cnt), .int (nI p), .int ca, .int fa, .int od, .ref (h 13), .ref (h 14)])), (h 13, .inl (g.2.1, 24, .inl wo)), (h 14, .inl (g.2.1, 72, .inl nu)), (h 0, .inr (2, [.ref (h 1), .ref (h 2), .ref (h 7), .ref (h 8)])), (h 2, .inr (5, [.int (nI v.1), .ref (h 3), .ref (h 4), .ref (h 5), .ref (h 6)])), (h 3, .inl (g.2.1, 200, .inl v.2.1)), (h 4, .inl (g.2.1, 200, .inl v.2.2.1)), (h 5, .inl (g.2.1, 200, .inl v.2.2.2.1)), (h 6, .inl (g.2.1, 7, .inl v.2.2.2.2.1)), (h 7, .inr (6, [.int (nI v.2.2.2.2.2.1), .int v.2.2.2.2.2.2.1, .int v.2.2.2.2.2.2.2.1, .int v.2.2.2.2.2.2.2.2.1, .int v.2.2.2.2.2.2.2.2.2.1, .int v.2.2.2.2.2.2.2.2.2.2.1, .int v.2.2.2.2.2.2.2.2.2.2.2.1, .int v.2.2.2.2.2.2.2.2.2.2.2.2]))]) (st1 := [.int (nu (k * 3 + 1))]) E hw [1, 3] rfl (x_runVN (rest := []) E hw (c_X3_number l g h cnt p ca fa od nu k 1 (by omega)) km_X7_192 kv_X3_number [1, 3] rfl (by decide) 1 rfl hl.1 rfl rfl (Nat.le_of_ble_eq_true rfl) ⟨Nat.le_of_ble_eq_true rfl, Nat.le_of_ble_eq_true rfl⟩ ⟨Nat.zero_le _, Nat.zero_le _⟩ dX7_obeys_16) rfl rfl rfl (fun H locs hw => ?_)
  refine lv_istore_n (lv' := [(3, .int (nu (k * 3 + 1))), (2, .int (nI a)), (0, .ref (h 17)), (1, .int (nI k))]) hx hb dX7_obeys_19 rfl hl (by decide) rfl (fun ls hl => ?_)
  refine lv_aload_n hx hb dX7_obeys_20 rfl (lv_at hl 2 rfl) ?_
  refine x_get E hw kf_X7_26 0 rfl rfl dX7_obeys_21 ?_
  refine lv_iload_n hx hb dX7_obeys_24 rfl (lv_at hl 3 rfl) ?_
  refine lv_iconst (v := 2) hx hb dX7_obeys_25 (by decide) ?_
  refine x_go (ws' := [(h 17, .inr (7, [.ref (h 0), .ref (h 15), .ref (h 11), .int bads, .int nos, .int fuls, .int cau, .int whe])), (h 11, .inr (3, [.ref (h 12), .int (nI cnt), .int (nI p), .int ca, .int fa, .int od, .ref (h 13), .ref (h 14)])), (h 13, .inl (g.2.1, 24, .inl wo)), (h 14, .inl (g.2.1, 72, .inl nu)), (h 0, .inr (2, [.ref (h 1), .ref (h 2), .ref (h 7), .ref (h 8)])), (h 2, .inr (5, [.int (nI v.1), .ref (h 3), .ref (h 4), .ref (h 5), .ref (h 6)])), (h 3, .inl (g.2.1, 200, .inl v.2.1)), (h 4, .inl (g.2.1, 200, .inl v.2.2.1)), (h 5, .inl (g.2.1, 200, .inl v.2.2.2.1)), (h 6, .inl (g.2.1, 7, .inl v.2.2.2.2.1)), (h 7, .inr (6, [.int (nI v.2.2.2.2.2.1), .int v.2.2.2.2.2.2.1, .int v.2.2.2.2.2.2.2.1, .int v.2.2.2.2.2.2.2.2.1, .int v.2.2.2.2.2.2.2.2.2.1, .int v.2.2.2.2.2.2.2.2.2.2.1, .int v.2.2.2.2.2.2.2.2.2.2.2.1, .int v.2.2.2.2.2.2.2.2.2.2.2.2]))]) (st1 := [.int (nu (k * 3 + 2))]) E hw [1, 3] rfl (x_runVN (rest := []) E hw (c_X3_number l g h cnt p ca fa od nu k 2 (by omega)) km_X7_192 kv_X3_number [1, 3] rfl (by decide) 1 rfl hl.1 rfl rfl (Nat.le_of_ble_eq_true rfl) ⟨Nat.le_of_ble_eq_true rfl, Nat.le_of_ble_eq_true rfl⟩ ⟨Nat.zero_le _, Nat.zero_le _⟩ dX7_obeys_26) rfl rfl rfl (fun H locs hw => ?_)
  refine lv_istore (lv' := [(4, .int (nu (k * 3 + 2))), (3, .int (nu (k * 3 + 1))), (2, .int (nI a)), (0, .ref (h 17)), (1, .int (nI k))]) hx hb dX7_obeys_29 hl (by decide) rfl (fun ls hl => ?_)
  refine lv_aload_n hx hb dX7_obeys_31 rfl (lv_at hl 3 rfl) ?_
  refine x_get E hw kf_X7_26 0 rfl rfl dX7_obeys_32 ?_
  refine x_getN E hw kf_X7_195 1 rfl rfl dX7_obeys_35 ?_
  refine lv_iload_n hx hb dX7_obeys_38 rfl (lv_at hl 4 rfl) ?_
  refine x_ld (v := 3) E hw 2 rfl k rfl (by omega) (by decide) hwd dX7_obeys_39 ?_
  refine x_sw (v := 3) (off := 89) (tgt := 129) hx hb dX7_obeys_40 rfl (by decide) (by decide) (by decide) (by decide) ?_
  refine lv_aload_n hx hb dX7_obeys_129 rfl (lv_at hl 3 rfl) ?_
  refine x_get E hw kf_X7_10 0 rfl rfl dX7_obeys_130 ?_
  refine x_getN E hw kf_X7_49 4 rfl rfl dX7_obeys_133 ?_
  refine lv_iload_n hx hb dX7_obeys_136 rfl (lv_at hl 2 rfl) ?_
  refine lv_iconst (v := 1) hx hb dX7_obeys_137 (by decide) ?_
  refine x_go (ws' := [(h 17, .inr (7, [.ref (h 0), .ref (h 15), .ref (h 11), .int bads, .int nos, .int fuls, .int cau, .int whe])), (h 11, .inr (3, [.ref (h 12), .int (nI cnt), .int (nI p), .int ca, .int fa, .int od, .ref (h 13), .ref (h 14)])), (h 13, .inl (g.2.1, 24, .inl wo)), (h 14, .inl (g.2.1, 72, .inl nu)), (h 0, .inr (2, [.ref (h 1), .ref (h 2), .ref (h 7), .ref (h 8)])), (h 2, .inr (5, [.int (nI v.1), .ref (h 3), .ref (h 4), .ref (h 5), .ref (h 6)])), (h 3, .inl (g.2.1, 200, .inl v.2.1)), (h 4, .inl (g.2.1, 200, .inl v.2.2.1)), (h 5, .inl (g.2.1, 200, .inl (upd v.2.2.2.1 a 1))), (h 6, .inl (g.2.1, 7, .inl v.2.2.2.2.1)), (h 7, .inr (6, [.int (nI v.2.2.2.2.2.1), .int v.2.2.2.2.2.2.1, .int v.2.2.2.2.2.2.2.1, .int v.2.2.2.2.2.2.2.2.1, .int v.2.2.2.2.2.2.2.2.2.1, .int v.2.2.2.2.2.2.2.2.2.2.1, .int v.2.2.2.2.2.2.2.2.2.2.2.1, .int v.2.2.2.2.2.2.2.2.2.2.2.2]))]) (st1 := [.int (v.2.2.2.1 a)]) E hw [5, 8] rfl (x_runVN (rest := []) E hw (c_X5_marked_ok l g h v.1 v.2.2.2.1 a 1 (by omega) (by omega) (by decide) (by decide)) km_X7_59 kv_X5_marked [5, 8] rfl (by decide) 5 rfl hl.1 rfl rfl (Nat.le_of_ble_eq_true rfl) ⟨Nat.le_of_ble_eq_true rfl, Nat.le_of_ble_eq_true rfl⟩ ⟨Nat.zero_le _, Nat.zero_le _⟩ dX7_obeys_138) rfl rfl rfl (fun H locs hw => ?_)
  exact xr_i hQ E hr hw dX7_obeys_141 ⟨rfl, rfl⟩

set_option maxRecDepth 100000 in
set_option maxHeartbeats 4000000 in
theorem c_X7_obeys_4 (l : Launch) (g : xCfg) (h : Nat → Nat) (bads : Int32) (nos : Int32) (fuls : Int32) (cau : Int32) (whe : Int32) (cnt : Nat) (p : Nat) (ca : Int32) (fa : Int32) (od : Int32) (wo : Nat → Int32) (nu : Nat → Int32) (v : SV) (k : Nat) (hL1 : 1 ≤ v.1) (hL : v.1 ≤ 200) (hk : k < 24) (hwd : wo k = 4) (hv : tLeast 0 ≤ nu (k * 3 + 0)) (hv2 : nu (k * 3 + 0) ≤ tMost 0) : Ct l g yX7_obeys cX7_obeys 5 (some .int) (xR 6 200) [.ref (h 17), .int (nI k)] [(h 17, .inr (7, [.ref (h 0), .ref (h 15), .ref (h 11), .int bads, .int nos, .int fuls, .int cau, .int whe])), (h 11, .inr (3, [.ref (h 12), .int (nI cnt), .int (nI p), .int ca, .int fa, .int od, .ref (h 13), .ref (h 14)])), (h 13, .inl (g.2.1, 24, .inl wo)), (h 14, .inl (g.2.1, 72, .inl nu)), (h 0, .inr (2, [.ref (h 1), .ref (h 2), .ref (h 7), .ref (h 8)])), (h 2, .inr (5, [.int (nI v.1), .ref (h 3), .ref (h 4), .ref (h 5), .ref (h 6)])), (h 3, .inl (g.2.1, 200, .inl v.2.1)), (h 4, .inl (g.2.1, 200, .inl v.2.2.1)), (h 5, .inl (g.2.1, 200, .inl v.2.2.2.1)), (h 6, .inl (g.2.1, 7, .inl v.2.2.2.2.1)), (h 7, .inr (6, [.int (nI v.2.2.2.2.2.1), .int v.2.2.2.2.2.2.1, .int v.2.2.2.2.2.2.2.1, .int v.2.2.2.2.2.2.2.2.1, .int v.2.2.2.2.2.2.2.2.2.1, .int v.2.2.2.2.2.2.2.2.2.2.1, .int v.2.2.2.2.2.2.2.2.2.2.2.1, .int v.2.2.2.2.2.2.2.2.2.2.2.2]))] (is1 (some (.int (v.2.2.2.2.1 0))) [(h 17, .inr (7, [.ref (h 0), .ref (h 15), .ref (h 11), .int bads, .int nos, .int fuls, .int cau, .int whe])), (h 11, .inr (3, [.ref (h 12), .int (nI cnt), .int (nI p), .int ca, .int fa, .int od, .ref (h 13), .ref (h 14)])), (h 13, .inl (g.2.1, 24, .inl wo)), (h 14, .inl (g.2.1, 72, .inl nu)), (h 0, .inr (2, [.ref (h 1), .ref (h 2), .ref (h 7), .ref (h 8)])), (h 2, .inr (5, [.int (nI v.1), .ref (h 3), .ref (h 4), .ref (h 5), .ref (h 6)])), (h 3, .inl (g.2.1, 200, .inl v.2.1)), (h 4, .inl (g.2.1, 200, .inl v.2.2.1)), (h 5, .inl (g.2.1, 200, .inl v.2.2.2.1)), (h 6, .inl (g.2.1, 7, .inl (upd v.2.2.2.2.1 0 (nu (k * 3 + 0))))), (h 7, .inr (6, [.int (nI v.2.2.2.2.2.1), .int v.2.2.2.2.2.2.1, .int v.2.2.2.2.2.2.2.1, .int v.2.2.2.2.2.2.2.2.1, .int v.2.2.2.2.2.2.2.2.2.1, .int v.2.2.2.2.2.2.2.2.2.2.1, .int v.2.2.2.2.2.2.2.2.2.2.2.1, .int v.2.2.2.2.2.2.2.2.2.2.2.2]))]) := by
  refine Ct.walk (by decide) (Nat.le_of_ble_eq_true rfl) ?_
  intro p0 e0 s0 m0 below meth c0 A0 ls Q hQ E hr hnm hw hl
  have hx := E.x
  have hb := E.b
  have hl : lv_has ls 5 [(0, .ref (h 17)), (1, .int (nI k))] := hl
  refine lv_aload_n hx hb dX7_obeys_0 rfl (lv_at hl 0 rfl) ?_
  refine x_get E hw kf_X7_26 0 rfl rfl dX7_obeys_1 ?_
  refine lv_iload_n hx hb dX7_obeys_4 rfl (lv_at hl 1 rfl) ?_
  refine lv_iconst (v := 0) hx hb dX7_obeys_5 (by decide) ?_
  refine x_go (ws' := [(h 17, .inr (7, [.ref (h 0), .ref (h 15), .ref (h 11), .int bads, .int nos, .int fuls, .int cau, .int whe])), (h 11, .inr (3, [.ref (h 12), .int (nI cnt), .int (nI p), .int ca, .int fa, .int od, .ref (h 13), .ref (h 14)])), (h 13, .inl (g.2.1, 24, .inl wo)), (h 14, .inl (g.2.1, 72, .inl nu)), (h 0, .inr (2, [.ref (h 1), .ref (h 2), .ref (h 7), .ref (h 8)])), (h 2, .inr (5, [.int (nI v.1), .ref (h 3), .ref (h 4), .ref (h 5), .ref (h 6)])), (h 3, .inl (g.2.1, 200, .inl v.2.1)), (h 4, .inl (g.2.1, 200, .inl v.2.2.1)), (h 5, .inl (g.2.1, 200, .inl v.2.2.2.1)), (h 6, .inl (g.2.1, 7, .inl v.2.2.2.2.1)), (h 7, .inr (6, [.int (nI v.2.2.2.2.2.1), .int v.2.2.2.2.2.2.1, .int v.2.2.2.2.2.2.2.1, .int v.2.2.2.2.2.2.2.2.1, .int v.2.2.2.2.2.2.2.2.2.1, .int v.2.2.2.2.2.2.2.2.2.2.1, .int v.2.2.2.2.2.2.2.2.2.2.2.1, .int v.2.2.2.2.2.2.2.2.2.2.2.2]))]) (st1 := [.int (nu (k * 3 + 0))]) E hw [1, 3] rfl (x_runVN (rest := []) E hw (c_X3_number l g h cnt p ca fa od nu k 0 (by omega)) km_X7_192 kv_X3_number [1, 3] rfl (by decide) 1 rfl hl.1 rfl rfl (Nat.le_of_ble_eq_true rfl) ⟨Nat.le_of_ble_eq_true rfl, Nat.le_of_ble_eq_true rfl⟩ ⟨Nat.zero_le _, Nat.zero_le _⟩ dX7_obeys_6) rfl rfl rfl (fun H locs hw => ?_)
  refine lv_istore_n (lv' := [(2, .int (nu (k * 3 + 0))), (0, .ref (h 17)), (1, .int (nI k))]) hx hb dX7_obeys_9 rfl hl (by decide) rfl (fun ls hl => ?_)
  refine lv_aload_n hx hb dX7_obeys_10 rfl (lv_at hl 1 rfl) ?_
  refine x_get E hw kf_X7_26 0 rfl rfl dX7_obeys_11 ?_
  refine lv_iload_n hx hb dX7_obeys_14 rfl (lv_at hl 2 rfl) ?_
  refine lv_iconst (v := 1) hx hb dX7_obeys_15 (by decide) ?_
  refine x_go (ws' := [(h 17, .inr (7, [.ref (h 0), .ref (h 15), .ref (h 11), .int bads, .int nos, .int fuls, .int cau, .int whe])), (h 11, .inr (3, [.ref (h 12), .int (nI cnt), .int (nI p), .int ca, .int fa, .int od, .ref (h 13), .ref (h 14)])), (h 13, .inl (g.2.1, 24, .inl wo)), (h 14, .inl (g.2.1, 72, .inl nu)), (h 0, .inr (2, [.ref (h 1), .ref (h 2), .ref (h 7), .ref (h 8)])), (h 2, .inr (5, [.int (nI v.1), .ref (h 3), .ref (h 4), .ref (h 5), .ref (h 6)])), (h 3, .inl (g.2.1, 200, .inl v.2.1)), (h 4, .inl (g.2.1, 200, .inl v.2.2.1)), (h 5, .inl (g.2.1, 200, .inl v.2.2.2.1)), (h 6, .inl (g.2.1, 7, .inl v.2.2.2.2.1)), (h 7, .inr (6, [.int (nI v.2.2.2.2.2.1), .int v.2.2.2.2.2.2.1, .int v.2.2.2.2.2.2.2.1, .int v.2.2.2.2.2.2.2.2.1, .int v.2.2.2.2.2.2.2.2.2.1, .int v.2.2.2.2.2.2.2.2.2.2.1, .int v.2.2.2.2.2.2.2.2.2.2.2.1, .int v.2.2.2.2.2.2.2.2.2.2.2.2]))]) (st1 := [.int (nu (k * 3 + 1))]) E hw [1, 3] rfl (x_runVN (rest := []) E hw (c_X3_number l g h cnt p ca fa od nu k 1 (by omega)) km_X7_192 kv_X3_number [1, 3] rfl (by decide) 1 rfl hl.1 rfl rfl (Nat.le_of_ble_eq_true rfl) ⟨Nat.le_of_ble_eq_true rfl, Nat.le_of_ble_eq_true rfl⟩ ⟨Nat.zero_le _, Nat.zero_le _⟩ dX7_obeys_16) rfl rfl rfl (fun H locs hw => ?_)
  refine lv_istore_n (lv' := [(3, .int (nu (k * 3 + 1))), (2, .int (nu (k * 3 + 0))), (0, .ref (h 17)), (1, .int (nI k))]) hx hb dX7_obeys_19 rfl hl (by decide) rfl (fun ls hl => ?_)
  refine lv_aload_n hx hb dX7_obeys_20 rfl (lv_at hl 2 rfl) ?_
  refine x_get E hw kf_X7_26 0 rfl rfl dX7_obeys_21 ?_
  refine lv_iload_n hx hb dX7_obeys_24 rfl (lv_at hl 3 rfl) ?_
  refine lv_iconst (v := 2) hx hb dX7_obeys_25 (by decide) ?_
  refine x_go (ws' := [(h 17, .inr (7, [.ref (h 0), .ref (h 15), .ref (h 11), .int bads, .int nos, .int fuls, .int cau, .int whe])), (h 11, .inr (3, [.ref (h 12), .int (nI cnt), .int (nI p), .int ca, .int fa, .int od, .ref (h 13), .ref (h 14)])), (h 13, .inl (g.2.1, 24, .inl wo)), (h 14, .inl (g.2.1, 72, .inl nu)), (h 0, .inr (2, [.ref (h 1), .ref (h 2), .ref (h 7), .ref (h 8)])), (h 2, .inr (5, [.int (nI v.1), .ref (h 3), .ref (h 4), .ref (h 5), .ref (h 6)])), (h 3, .inl (g.2.1, 200, .inl v.2.1)), (h 4, .inl (g.2.1, 200, .inl v.2.2.1)), (h 5, .inl (g.2.1, 200, .inl v.2.2.2.1)), (h 6, .inl (g.2.1, 7, .inl v.2.2.2.2.1)), (h 7, .inr (6, [.int (nI v.2.2.2.2.2.1), .int v.2.2.2.2.2.2.1, .int v.2.2.2.2.2.2.2.1, .int v.2.2.2.2.2.2.2.2.1, .int v.2.2.2.2.2.2.2.2.2.1, .int v.2.2.2.2.2.2.2.2.2.2.1, .int v.2.2.2.2.2.2.2.2.2.2.2.1, .int v.2.2.2.2.2.2.2.2.2.2.2.2]))]) (st1 := [.int (nu (k * 3 + 2))]) E hw [1, 3] rfl (x_runVN (rest := []) E hw (c_X3_number l g h cnt p ca fa od nu k 2 (by omega)) km_X7_192 kv_X3_number [1, 3] rfl (by decide) 1 rfl hl.1 rfl rfl (Nat.le_of_ble_eq_true rfl) ⟨Nat.le_of_ble_eq_true rfl, Nat.le_of_ble_eq_true rfl⟩ ⟨Nat.zero_le _, Nat.zero_le _⟩ dX7_obeys_26) rfl rfl rfl (fun H locs hw => ?_)
  refine lv_istore (lv' := [(4, .int (nu (k * 3 + 2))), (3, .int (nu (k * 3 + 1))), (2, .int (nu (k * 3 + 0))), (0, .ref (h 17)), (1, .int (nI k))]) hx hb dX7_obeys_29 hl (by decide) rfl (fun ls hl => ?_)
  refine lv_aload_n hx hb dX7_obeys_31 rfl (lv_at hl 3 rfl) ?_
  refine x_get E hw kf_X7_26 0 rfl rfl dX7_obeys_32 ?_
  refine x_getN E hw kf_X7_195 1 rfl rfl dX7_obeys_35 ?_
  refine lv_iload_n hx hb dX7_obeys_38 rfl (lv_at hl 4 rfl) ?_
  refine x_ld (v := 4) E hw 2 rfl k rfl (by omega) (by decide) hwd dX7_obeys_39 ?_
  refine x_sw (v := 4) (off := 102) (tgt := 142) hx hb dX7_obeys_40 rfl (by decide) (by decide) (by decide) (by decide) ?_
  refine lv_aload_n hx hb dX7_obeys_142 rfl (lv_at hl 3 rfl) ?_
  refine x_get E hw kf_X7_10 0 rfl rfl dX7_obeys_143 ?_
  refine x_getN E hw kf_X7_49 4 rfl rfl dX7_obeys_146 ?_
  refine lv_iconst (v := 0) hx hb dX7_obeys_149 (by decide) ?_
  refine lv_iload_n hx hb dX7_obeys_150 rfl (lv_at hl 2 rfl) ?_
  refine x_go (ws' := [(h 17, .inr (7, [.ref (h 0), .ref (h 15), .ref (h 11), .int bads, .int nos, .int fuls, .int cau, .int whe])), (h 11, .inr (3, [.ref (h 12), .int (nI cnt), .int (nI p), .int ca, .int fa, .int od, .ref (h 13), .ref (h 14)])), (h 13, .inl (g.2.1, 24, .inl wo)), (h 14, .inl (g.2.1, 72, .inl nu)), (h 0, .inr (2, [.ref (h 1), .ref (h 2), .ref (h 7), .ref (h 8)])), (h 2, .inr (5, [.int (nI v.1), .ref (h 3), .ref (h 4), .ref (h 5), .ref (h 6)])), (h 3, .inl (g.2.1, 200, .inl v.2.1)), (h 4, .inl (g.2.1, 200, .inl v.2.2.1)), (h 5, .inl (g.2.1, 200, .inl v.2.2.2.1)), (h 6, .inl (g.2.1, 7, .inl (upd v.2.2.2.2.1 0 (nu (k * 3 + 0))))), (h 7, .inr (6, [.int (nI v.2.2.2.2.2.1), .int v.2.2.2.2.2.2.1, .int v.2.2.2.2.2.2.2.1, .int v.2.2.2.2.2.2.2.2.1, .int v.2.2.2.2.2.2.2.2.2.1, .int v.2.2.2.2.2.2.2.2.2.2.1, .int v.2.2.2.2.2.2.2.2.2.2.2.1, .int v.2.2.2.2.2.2.2.2.2.2.2.2]))]) (st1 := [.int (v.2.2.2.2.1 0)]) E hw [5, 9] rfl (x_runVN (rest := []) E hw (c_X5_adjusted_ok l g h v.1 v.2.2.2.2.1 0 (nu (k * 3 + 0)) (by omega) hv hv2) km_X7_66 kv_X5_adjusted [5, 9] rfl (by decide) 5 rfl hl.1 rfl rfl (Nat.le_of_ble_eq_true rfl) ⟨Nat.le_of_ble_eq_true rfl, Nat.le_of_ble_eq_true rfl⟩ ⟨Nat.zero_le _, Nat.zero_le _⟩ dX7_obeys_151) rfl rfl rfl (fun H locs hw => ?_)
  exact xr_i hQ E hr hw dX7_obeys_154 ⟨rfl, rfl⟩

set_option maxRecDepth 100000 in
set_option maxHeartbeats 4000000 in
theorem c_X7_obeys_5 (l : Launch) (g : xCfg) (h : Nat → Nat) (bads : Int32) (nos : Int32) (fuls : Int32) (cau : Int32) (whe : Int32) (cnt : Nat) (p : Nat) (ca : Int32) (fa : Int32) (od : Int32) (wo : Nat → Int32) (nu : Nat → Int32) (v : SV) (k : Nat) (hL1 : 1 ≤ v.1) (hL : v.1 ≤ 200) (hk : k < 24) (hwd : wo k = 5) (hv : tLeast 1 ≤ nu (k * 3 + 0)) (hv2 : nu (k * 3 + 0) ≤ tMost 1) : Ct l g yX7_obeys cX7_obeys 5 (some .int) (xR 6 200) [.ref (h 17), .int (nI k)] [(h 17, .inr (7, [.ref (h 0), .ref (h 15), .ref (h 11), .int bads, .int nos, .int fuls, .int cau, .int whe])), (h 11, .inr (3, [.ref (h 12), .int (nI cnt), .int (nI p), .int ca, .int fa, .int od, .ref (h 13), .ref (h 14)])), (h 13, .inl (g.2.1, 24, .inl wo)), (h 14, .inl (g.2.1, 72, .inl nu)), (h 0, .inr (2, [.ref (h 1), .ref (h 2), .ref (h 7), .ref (h 8)])), (h 2, .inr (5, [.int (nI v.1), .ref (h 3), .ref (h 4), .ref (h 5), .ref (h 6)])), (h 3, .inl (g.2.1, 200, .inl v.2.1)), (h 4, .inl (g.2.1, 200, .inl v.2.2.1)), (h 5, .inl (g.2.1, 200, .inl v.2.2.2.1)), (h 6, .inl (g.2.1, 7, .inl v.2.2.2.2.1)), (h 7, .inr (6, [.int (nI v.2.2.2.2.2.1), .int v.2.2.2.2.2.2.1, .int v.2.2.2.2.2.2.2.1, .int v.2.2.2.2.2.2.2.2.1, .int v.2.2.2.2.2.2.2.2.2.1, .int v.2.2.2.2.2.2.2.2.2.2.1, .int v.2.2.2.2.2.2.2.2.2.2.2.1, .int v.2.2.2.2.2.2.2.2.2.2.2.2]))] (is1 (some (.int (v.2.2.2.2.1 1))) [(h 17, .inr (7, [.ref (h 0), .ref (h 15), .ref (h 11), .int bads, .int nos, .int fuls, .int cau, .int whe])), (h 11, .inr (3, [.ref (h 12), .int (nI cnt), .int (nI p), .int ca, .int fa, .int od, .ref (h 13), .ref (h 14)])), (h 13, .inl (g.2.1, 24, .inl wo)), (h 14, .inl (g.2.1, 72, .inl nu)), (h 0, .inr (2, [.ref (h 1), .ref (h 2), .ref (h 7), .ref (h 8)])), (h 2, .inr (5, [.int (nI v.1), .ref (h 3), .ref (h 4), .ref (h 5), .ref (h 6)])), (h 3, .inl (g.2.1, 200, .inl v.2.1)), (h 4, .inl (g.2.1, 200, .inl v.2.2.1)), (h 5, .inl (g.2.1, 200, .inl v.2.2.2.1)), (h 6, .inl (g.2.1, 7, .inl (upd v.2.2.2.2.1 1 (nu (k * 3 + 0))))), (h 7, .inr (6, [.int (nI v.2.2.2.2.2.1), .int v.2.2.2.2.2.2.1, .int v.2.2.2.2.2.2.2.1, .int v.2.2.2.2.2.2.2.2.1, .int v.2.2.2.2.2.2.2.2.2.1, .int v.2.2.2.2.2.2.2.2.2.2.1, .int v.2.2.2.2.2.2.2.2.2.2.2.1, .int v.2.2.2.2.2.2.2.2.2.2.2.2]))]) := by
  refine Ct.walk (by decide) (Nat.le_of_ble_eq_true rfl) ?_
  intro p0 e0 s0 m0 below meth c0 A0 ls Q hQ E hr hnm hw hl
  have hx := E.x
  have hb := E.b
  have hl : lv_has ls 5 [(0, .ref (h 17)), (1, .int (nI k))] := hl
  refine lv_aload_n hx hb dX7_obeys_0 rfl (lv_at hl 0 rfl) ?_
  refine x_get E hw kf_X7_26 0 rfl rfl dX7_obeys_1 ?_
  refine lv_iload_n hx hb dX7_obeys_4 rfl (lv_at hl 1 rfl) ?_
  refine lv_iconst (v := 0) hx hb dX7_obeys_5 (by decide) ?_
  refine x_go (ws' := [(h 17, .inr (7, [.ref (h 0), .ref (h 15), .ref (h 11), .int bads, .int nos, .int fuls, .int cau, .int whe])), (h 11, .inr (3, [.ref (h 12), .int (nI cnt), .int (nI p), .int ca, .int fa, .int od, .ref (h 13), .ref (h 14)])), (h 13, .inl (g.2.1, 24, .inl wo)), (h 14, .inl (g.2.1, 72, .inl nu)), (h 0, .inr (2, [.ref (h 1), .ref (h 2), .ref (h 7), .ref (h 8)])), (h 2, .inr (5, [.int (nI v.1), .ref (h 3), .ref (h 4), .ref (h 5), .ref (h 6)])), (h 3, .inl (g.2.1, 200, .inl v.2.1)), (h 4, .inl (g.2.1, 200, .inl v.2.2.1)), (h 5, .inl (g.2.1, 200, .inl v.2.2.2.1)), (h 6, .inl (g.2.1, 7, .inl v.2.2.2.2.1)), (h 7, .inr (6, [.int (nI v.2.2.2.2.2.1), .int v.2.2.2.2.2.2.1, .int v.2.2.2.2.2.2.2.1, .int v.2.2.2.2.2.2.2.2.1, .int v.2.2.2.2.2.2.2.2.2.1, .int v.2.2.2.2.2.2.2.2.2.2.1, .int v.2.2.2.2.2.2.2.2.2.2.2.1, .int v.2.2.2.2.2.2.2.2.2.2.2.2]))]) (st1 := [.int (nu (k * 3 + 0))]) E hw [1, 3] rfl (x_runVN (rest := []) E hw (c_X3_number l g h cnt p ca fa od nu k 0 (by omega)) km_X7_192 kv_X3_number [1, 3] rfl (by decide) 1 rfl hl.1 rfl rfl (Nat.le_of_ble_eq_true rfl) ⟨Nat.le_of_ble_eq_true rfl, Nat.le_of_ble_eq_true rfl⟩ ⟨Nat.zero_le _, Nat.zero_le _⟩ dX7_obeys_6) rfl rfl rfl (fun H locs hw => ?_)
  refine lv_istore_n (lv' := [(2, .int (nu (k * 3 + 0))), (0, .ref (h 17)), (1, .int (nI k))]) hx hb dX7_obeys_9 rfl hl (by decide) rfl (fun ls hl => ?_)
  refine lv_aload_n hx hb dX7_obeys_10 rfl (lv_at hl 1 rfl) ?_
  refine x_get E hw kf_X7_26 0 rfl rfl dX7_obeys_11 ?_
  refine lv_iload_n hx hb dX7_obeys_14 rfl (lv_at hl 2 rfl) ?_
  refine lv_iconst (v := 1) hx hb dX7_obeys_15 (by decide) ?_
  refine x_go (ws' := [(h 17, .inr (7, [.ref (h 0), .ref (h 15), .ref (h 11), .int bads, .int nos, .int fuls, .int cau, .int whe])), (h 11, .inr (3, [.ref (h 12), .int (nI cnt), .int (nI p), .int ca, .int fa, .int od, .ref (h 13), .ref (h 14)])), (h 13, .inl (g.2.1, 24, .inl wo)), (h 14, .inl (g.2.1, 72, .inl nu)), (h 0, .inr (2, [.ref (h 1), .ref (h 2), .ref (h 7), .ref (h 8)])), (h 2, .inr (5, [.int (nI v.1), .ref (h 3), .ref (h 4), .ref (h 5), .ref (h 6)])), (h 3, .inl (g.2.1, 200, .inl v.2.1)), (h 4, .inl (g.2.1, 200, .inl v.2.2.1)), (h 5, .inl (g.2.1, 200, .inl v.2.2.2.1)), (h 6, .inl (g.2.1, 7, .inl v.2.2.2.2.1)), (h 7, .inr (6, [.int (nI v.2.2.2.2.2.1), .int v.2.2.2.2.2.2.1, .int v.2.2.2.2.2.2.2.1, .int v.2.2.2.2.2.2.2.2.1, .int v.2.2.2.2.2.2.2.2.2.1, .int v.2.2.2.2.2.2.2.2.2.2.1, .int v.2.2.2.2.2.2.2.2.2.2.2.1, .int v.2.2.2.2.2.2.2.2.2.2.2.2]))]) (st1 := [.int (nu (k * 3 + 1))]) E hw [1, 3] rfl (x_runVN (rest := []) E hw (c_X3_number l g h cnt p ca fa od nu k 1 (by omega)) km_X7_192 kv_X3_number [1, 3] rfl (by decide) 1 rfl hl.1 rfl rfl (Nat.le_of_ble_eq_true rfl) ⟨Nat.le_of_ble_eq_true rfl, Nat.le_of_ble_eq_true rfl⟩ ⟨Nat.zero_le _, Nat.zero_le _⟩ dX7_obeys_16) rfl rfl rfl (fun H locs hw => ?_)
  refine lv_istore_n (lv' := [(3, .int (nu (k * 3 + 1))), (2, .int (nu (k * 3 + 0))), (0, .ref (h 17)), (1, .int (nI k))]) hx hb dX7_obeys_19 rfl hl (by decide) rfl (fun ls hl => ?_)
  refine lv_aload_n hx hb dX7_obeys_20 rfl (lv_at hl 2 rfl) ?_
  refine x_get E hw kf_X7_26 0 rfl rfl dX7_obeys_21 ?_
  refine lv_iload_n hx hb dX7_obeys_24 rfl (lv_at hl 3 rfl) ?_
  refine lv_iconst (v := 2) hx hb dX7_obeys_25 (by decide) ?_
  refine x_go (ws' := [(h 17, .inr (7, [.ref (h 0), .ref (h 15), .ref (h 11), .int bads, .int nos, .int fuls, .int cau, .int whe])), (h 11, .inr (3, [.ref (h 12), .int (nI cnt), .int (nI p), .int ca, .int fa, .int od, .ref (h 13), .ref (h 14)])), (h 13, .inl (g.2.1, 24, .inl wo)), (h 14, .inl (g.2.1, 72, .inl nu)), (h 0, .inr (2, [.ref (h 1), .ref (h 2), .ref (h 7), .ref (h 8)])), (h 2, .inr (5, [.int (nI v.1), .ref (h 3), .ref (h 4), .ref (h 5), .ref (h 6)])), (h 3, .inl (g.2.1, 200, .inl v.2.1)), (h 4, .inl (g.2.1, 200, .inl v.2.2.1)), (h 5, .inl (g.2.1, 200, .inl v.2.2.2.1)), (h 6, .inl (g.2.1, 7, .inl v.2.2.2.2.1)), (h 7, .inr (6, [.int (nI v.2.2.2.2.2.1), .int v.2.2.2.2.2.2.1, .int v.2.2.2.2.2.2.2.1, .int v.2.2.2.2.2.2.2.2.1, .int v.2.2.2.2.2.2.2.2.2.1, .int v.2.2.2.2.2.2.2.2.2.2.1, .int v.2.2.2.2.2.2.2.2.2.2.2.1, .int v.2.2.2.2.2.2.2.2.2.2.2.2]))]) (st1 := [.int (nu (k * 3 + 2))]) E hw [1, 3] rfl (x_runVN (rest := []) E hw (c_X3_number l g h cnt p ca fa od nu k 2 (by omega)) km_X7_192 kv_X3_number [1, 3] rfl (by decide) 1 rfl hl.1 rfl rfl (Nat.le_of_ble_eq_true rfl) ⟨Nat.le_of_ble_eq_true rfl, Nat.le_of_ble_eq_true rfl⟩ ⟨Nat.zero_le _, Nat.zero_le _⟩ dX7_obeys_26) rfl rfl rfl (fun H locs hw => ?_)
  refine lv_istore (lv' := [(4, .int (nu (k * 3 + 2))), (3, .int (nu (k * 3 + 1))), (2, .int (nu (k * 3 + 0))), (0, .ref (h 17)), (1, .int (nI k))]) hx hb dX7_obeys_29 hl (by decide) rfl (fun ls hl => ?_)
  refine lv_aload_n hx hb dX7_obeys_31 rfl (lv_at hl 3 rfl) ?_
  refine x_get E hw kf_X7_26 0 rfl rfl dX7_obeys_32 ?_
  refine x_getN E hw kf_X7_195 1 rfl rfl dX7_obeys_35 ?_
  refine lv_iload_n hx hb dX7_obeys_38 rfl (lv_at hl 4 rfl) ?_
  refine x_ld (v := 5) E hw 2 rfl k rfl (by omega) (by decide) hwd dX7_obeys_39 ?_
  refine x_sw (v := 5) (off := 115) (tgt := 155) hx hb dX7_obeys_40 rfl (by decide) (by decide) (by decide) (by decide) ?_
  refine lv_aload_n hx hb dX7_obeys_155 rfl (lv_at hl 3 rfl) ?_
  refine x_get E hw kf_X7_10 0 rfl rfl dX7_obeys_156 ?_
  refine x_getN E hw kf_X7_49 4 rfl rfl dX7_obeys_159 ?_
  refine lv_iconst (v := 1) hx hb dX7_obeys_162 (by decide) ?_
  refine lv_iload_n hx hb dX7_obeys_163 rfl (lv_at hl 2 rfl) ?_
  refine x_go (ws' := [(h 17, .inr (7, [.ref (h 0), .ref (h 15), .ref (h 11), .int bads, .int nos, .int fuls, .int cau, .int whe])), (h 11, .inr (3, [.ref (h 12), .int (nI cnt), .int (nI p), .int ca, .int fa, .int od, .ref (h 13), .ref (h 14)])), (h 13, .inl (g.2.1, 24, .inl wo)), (h 14, .inl (g.2.1, 72, .inl nu)), (h 0, .inr (2, [.ref (h 1), .ref (h 2), .ref (h 7), .ref (h 8)])), (h 2, .inr (5, [.int (nI v.1), .ref (h 3), .ref (h 4), .ref (h 5), .ref (h 6)])), (h 3, .inl (g.2.1, 200, .inl v.2.1)), (h 4, .inl (g.2.1, 200, .inl v.2.2.1)), (h 5, .inl (g.2.1, 200, .inl v.2.2.2.1)), (h 6, .inl (g.2.1, 7, .inl (upd v.2.2.2.2.1 1 (nu (k * 3 + 0))))), (h 7, .inr (6, [.int (nI v.2.2.2.2.2.1), .int v.2.2.2.2.2.2.1, .int v.2.2.2.2.2.2.2.1, .int v.2.2.2.2.2.2.2.2.1, .int v.2.2.2.2.2.2.2.2.2.1, .int v.2.2.2.2.2.2.2.2.2.2.1, .int v.2.2.2.2.2.2.2.2.2.2.2.1, .int v.2.2.2.2.2.2.2.2.2.2.2.2]))]) (st1 := [.int (v.2.2.2.2.1 1)]) E hw [5, 9] rfl (x_runVN (rest := []) E hw (c_X5_adjusted_ok l g h v.1 v.2.2.2.2.1 1 (nu (k * 3 + 0)) (by omega) hv hv2) km_X7_66 kv_X5_adjusted [5, 9] rfl (by decide) 5 rfl hl.1 rfl rfl (Nat.le_of_ble_eq_true rfl) ⟨Nat.le_of_ble_eq_true rfl, Nat.le_of_ble_eq_true rfl⟩ ⟨Nat.zero_le _, Nat.zero_le _⟩ dX7_obeys_164) rfl rfl rfl (fun H locs hw => ?_)
  exact xr_i hQ E hr hw dX7_obeys_167 ⟨rfl, rfl⟩

set_option maxRecDepth 100000 in
set_option maxHeartbeats 4000000 in
theorem c_X7_obeys_6 (l : Launch) (g : xCfg) (h : Nat → Nat) (bads : Int32) (nos : Int32) (fuls : Int32) (cau : Int32) (whe : Int32) (cnt : Nat) (p : Nat) (ca : Int32) (fa : Int32) (od : Int32) (wo : Nat → Int32) (nu : Nat → Int32) (v : SV) (k : Nat) (hL1 : 1 ≤ v.1) (hL : v.1 ≤ 200) (hk : k < 24) (hwd : wo k = 6) (hv : tLeast 2 ≤ nu (k * 3 + 0)) (hv2 : nu (k * 3 + 0) ≤ tMost 2) : Ct l g yX7_obeys cX7_obeys 5 (some .int) (xR 6 200) [.ref (h 17), .int (nI k)] [(h 17, .inr (7, [.ref (h 0), .ref (h 15), .ref (h 11), .int bads, .int nos, .int fuls, .int cau, .int whe])), (h 11, .inr (3, [.ref (h 12), .int (nI cnt), .int (nI p), .int ca, .int fa, .int od, .ref (h 13), .ref (h 14)])), (h 13, .inl (g.2.1, 24, .inl wo)), (h 14, .inl (g.2.1, 72, .inl nu)), (h 0, .inr (2, [.ref (h 1), .ref (h 2), .ref (h 7), .ref (h 8)])), (h 2, .inr (5, [.int (nI v.1), .ref (h 3), .ref (h 4), .ref (h 5), .ref (h 6)])), (h 3, .inl (g.2.1, 200, .inl v.2.1)), (h 4, .inl (g.2.1, 200, .inl v.2.2.1)), (h 5, .inl (g.2.1, 200, .inl v.2.2.2.1)), (h 6, .inl (g.2.1, 7, .inl v.2.2.2.2.1)), (h 7, .inr (6, [.int (nI v.2.2.2.2.2.1), .int v.2.2.2.2.2.2.1, .int v.2.2.2.2.2.2.2.1, .int v.2.2.2.2.2.2.2.2.1, .int v.2.2.2.2.2.2.2.2.2.1, .int v.2.2.2.2.2.2.2.2.2.2.1, .int v.2.2.2.2.2.2.2.2.2.2.2.1, .int v.2.2.2.2.2.2.2.2.2.2.2.2]))] (is1 (some (.int (v.2.2.2.2.1 2))) [(h 17, .inr (7, [.ref (h 0), .ref (h 15), .ref (h 11), .int bads, .int nos, .int fuls, .int cau, .int whe])), (h 11, .inr (3, [.ref (h 12), .int (nI cnt), .int (nI p), .int ca, .int fa, .int od, .ref (h 13), .ref (h 14)])), (h 13, .inl (g.2.1, 24, .inl wo)), (h 14, .inl (g.2.1, 72, .inl nu)), (h 0, .inr (2, [.ref (h 1), .ref (h 2), .ref (h 7), .ref (h 8)])), (h 2, .inr (5, [.int (nI v.1), .ref (h 3), .ref (h 4), .ref (h 5), .ref (h 6)])), (h 3, .inl (g.2.1, 200, .inl v.2.1)), (h 4, .inl (g.2.1, 200, .inl v.2.2.1)), (h 5, .inl (g.2.1, 200, .inl v.2.2.2.1)), (h 6, .inl (g.2.1, 7, .inl (upd v.2.2.2.2.1 2 (nu (k * 3 + 0))))), (h 7, .inr (6, [.int (nI v.2.2.2.2.2.1), .int v.2.2.2.2.2.2.1, .int v.2.2.2.2.2.2.2.1, .int v.2.2.2.2.2.2.2.2.1, .int v.2.2.2.2.2.2.2.2.2.1, .int v.2.2.2.2.2.2.2.2.2.2.1, .int v.2.2.2.2.2.2.2.2.2.2.2.1, .int v.2.2.2.2.2.2.2.2.2.2.2.2]))]) := by
  refine Ct.walk (by decide) (Nat.le_of_ble_eq_true rfl) ?_
  intro p0 e0 s0 m0 below meth c0 A0 ls Q hQ E hr hnm hw hl
  have hx := E.x
  have hb := E.b
  have hl : lv_has ls 5 [(0, .ref (h 17)), (1, .int (nI k))] := hl
  refine lv_aload_n hx hb dX7_obeys_0 rfl (lv_at hl 0 rfl) ?_
  refine x_get E hw kf_X7_26 0 rfl rfl dX7_obeys_1 ?_
  refine lv_iload_n hx hb dX7_obeys_4 rfl (lv_at hl 1 rfl) ?_
  refine lv_iconst (v := 0) hx hb dX7_obeys_5 (by decide) ?_
  refine x_go (ws' := [(h 17, .inr (7, [.ref (h 0), .ref (h 15), .ref (h 11), .int bads, .int nos, .int fuls, .int cau, .int whe])), (h 11, .inr (3, [.ref (h 12), .int (nI cnt), .int (nI p), .int ca, .int fa, .int od, .ref (h 13), .ref (h 14)])), (h 13, .inl (g.2.1, 24, .inl wo)), (h 14, .inl (g.2.1, 72, .inl nu)), (h 0, .inr (2, [.ref (h 1), .ref (h 2), .ref (h 7), .ref (h 8)])), (h 2, .inr (5, [.int (nI v.1), .ref (h 3), .ref (h 4), .ref (h 5), .ref (h 6)])), (h 3, .inl (g.2.1, 200, .inl v.2.1)), (h 4, .inl (g.2.1, 200, .inl v.2.2.1)), (h 5, .inl (g.2.1, 200, .inl v.2.2.2.1)), (h 6, .inl (g.2.1, 7, .inl v.2.2.2.2.1)), (h 7, .inr (6, [.int (nI v.2.2.2.2.2.1), .int v.2.2.2.2.2.2.1, .int v.2.2.2.2.2.2.2.1, .int v.2.2.2.2.2.2.2.2.1, .int v.2.2.2.2.2.2.2.2.2.1, .int v.2.2.2.2.2.2.2.2.2.2.1, .int v.2.2.2.2.2.2.2.2.2.2.2.1, .int v.2.2.2.2.2.2.2.2.2.2.2.2]))]) (st1 := [.int (nu (k * 3 + 0))]) E hw [1, 3] rfl (x_runVN (rest := []) E hw (c_X3_number l g h cnt p ca fa od nu k 0 (by omega)) km_X7_192 kv_X3_number [1, 3] rfl (by decide) 1 rfl hl.1 rfl rfl (Nat.le_of_ble_eq_true rfl) ⟨Nat.le_of_ble_eq_true rfl, Nat.le_of_ble_eq_true rfl⟩ ⟨Nat.zero_le _, Nat.zero_le _⟩ dX7_obeys_6) rfl rfl rfl (fun H locs hw => ?_)
  refine lv_istore_n (lv' := [(2, .int (nu (k * 3 + 0))), (0, .ref (h 17)), (1, .int (nI k))]) hx hb dX7_obeys_9 rfl hl (by decide) rfl (fun ls hl => ?_)
  refine lv_aload_n hx hb dX7_obeys_10 rfl (lv_at hl 1 rfl) ?_
  refine x_get E hw kf_X7_26 0 rfl rfl dX7_obeys_11 ?_
  refine lv_iload_n hx hb dX7_obeys_14 rfl (lv_at hl 2 rfl) ?_
  refine lv_iconst (v := 1) hx hb dX7_obeys_15 (by decide) ?_
  refine x_go (ws' := [(h 17, .inr (7, [.ref (h 0), .ref (h 15), .ref (h 11), .int bads, .int nos, .int fuls, .int cau, .int whe])), (h 11, .inr (3, [.ref (h 12), .int (nI cnt), .int (nI p), .int ca, .int fa, .int od, .ref (h 13), .ref (h 14)])), (h 13, .inl (g.2.1, 24, .inl wo)), (h 14, .inl (g.2.1, 72, .inl nu)), (h 0, .inr (2, [.ref (h 1), .ref (h 2), .ref (h 7), .ref (h 8)])), (h 2, .inr (5, [.int (nI v.1), .ref (h 3), .ref (h 4), .ref (h 5), .ref (h 6)])), (h 3, .inl (g.2.1, 200, .inl v.2.1)), (h 4, .inl (g.2.1, 200, .inl v.2.2.1)), (h 5, .inl (g.2.1, 200, .inl v.2.2.2.1)), (h 6, .inl (g.2.1, 7, .inl v.2.2.2.2.1)), (h 7, .inr (6, [.int (nI v.2.2.2.2.2.1), .int v.2.2.2.2.2.2.1, .int v.2.2.2.2.2.2.2.1, .int v.2.2.2.2.2.2.2.2.1, .int v.2.2.2.2.2.2.2.2.2.1, .int v.2.2.2.2.2.2.2.2.2.2.1, .int v.2.2.2.2.2.2.2.2.2.2.2.1, .int v.2.2.2.2.2.2.2.2.2.2.2.2]))]) (st1 := [.int (nu (k * 3 + 1))]) E hw [1, 3] rfl (x_runVN (rest := []) E hw (c_X3_number l g h cnt p ca fa od nu k 1 (by omega)) km_X7_192 kv_X3_number [1, 3] rfl (by decide) 1 rfl hl.1 rfl rfl (Nat.le_of_ble_eq_true rfl) ⟨Nat.le_of_ble_eq_true rfl, Nat.le_of_ble_eq_true rfl⟩ ⟨Nat.zero_le _, Nat.zero_le _⟩ dX7_obeys_16) rfl rfl rfl (fun H locs hw => ?_)
  refine lv_istore_n (lv' := [(3, .int (nu (k * 3 + 1))), (2, .int (nu (k * 3 + 0))), (0, .ref (h 17)), (1, .int (nI k))]) hx hb dX7_obeys_19 rfl hl (by decide) rfl (fun ls hl => ?_)
  refine lv_aload_n hx hb dX7_obeys_20 rfl (lv_at hl 2 rfl) ?_
  refine x_get E hw kf_X7_26 0 rfl rfl dX7_obeys_21 ?_
  refine lv_iload_n hx hb dX7_obeys_24 rfl (lv_at hl 3 rfl) ?_
  refine lv_iconst (v := 2) hx hb dX7_obeys_25 (by decide) ?_
  refine x_go (ws' := [(h 17, .inr (7, [.ref (h 0), .ref (h 15), .ref (h 11), .int bads, .int nos, .int fuls, .int cau, .int whe])), (h 11, .inr (3, [.ref (h 12), .int (nI cnt), .int (nI p), .int ca, .int fa, .int od, .ref (h 13), .ref (h 14)])), (h 13, .inl (g.2.1, 24, .inl wo)), (h 14, .inl (g.2.1, 72, .inl nu)), (h 0, .inr (2, [.ref (h 1), .ref (h 2), .ref (h 7), .ref (h 8)])), (h 2, .inr (5, [.int (nI v.1), .ref (h 3), .ref (h 4), .ref (h 5), .ref (h 6)])), (h 3, .inl (g.2.1, 200, .inl v.2.1)), (h 4, .inl (g.2.1, 200, .inl v.2.2.1)), (h 5, .inl (g.2.1, 200, .inl v.2.2.2.1)), (h 6, .inl (g.2.1, 7, .inl v.2.2.2.2.1)), (h 7, .inr (6, [.int (nI v.2.2.2.2.2.1), .int v.2.2.2.2.2.2.1, .int v.2.2.2.2.2.2.2.1, .int v.2.2.2.2.2.2.2.2.1, .int v.2.2.2.2.2.2.2.2.2.1, .int v.2.2.2.2.2.2.2.2.2.2.1, .int v.2.2.2.2.2.2.2.2.2.2.2.1, .int v.2.2.2.2.2.2.2.2.2.2.2.2]))]) (st1 := [.int (nu (k * 3 + 2))]) E hw [1, 3] rfl (x_runVN (rest := []) E hw (c_X3_number l g h cnt p ca fa od nu k 2 (by omega)) km_X7_192 kv_X3_number [1, 3] rfl (by decide) 1 rfl hl.1 rfl rfl (Nat.le_of_ble_eq_true rfl) ⟨Nat.le_of_ble_eq_true rfl, Nat.le_of_ble_eq_true rfl⟩ ⟨Nat.zero_le _, Nat.zero_le _⟩ dX7_obeys_26) rfl rfl rfl (fun H locs hw => ?_)
  refine lv_istore (lv' := [(4, .int (nu (k * 3 + 2))), (3, .int (nu (k * 3 + 1))), (2, .int (nu (k * 3 + 0))), (0, .ref (h 17)), (1, .int (nI k))]) hx hb dX7_obeys_29 hl (by decide) rfl (fun ls hl => ?_)
  refine lv_aload_n hx hb dX7_obeys_31 rfl (lv_at hl 3 rfl) ?_
  refine x_get E hw kf_X7_26 0 rfl rfl dX7_obeys_32 ?_
  refine x_getN E hw kf_X7_195 1 rfl rfl dX7_obeys_35 ?_
  refine lv_iload_n hx hb dX7_obeys_38 rfl (lv_at hl 4 rfl) ?_
  refine x_ld (v := 6) E hw 2 rfl k rfl (by omega) (by decide) hwd dX7_obeys_39 ?_
  refine x_sw (v := 6) (off := 128) (tgt := 168) hx hb dX7_obeys_40 rfl (by decide) (by decide) (by decide) (by decide) ?_
  refine lv_aload_n hx hb dX7_obeys_168 rfl (lv_at hl 3 rfl) ?_
  refine x_get E hw kf_X7_10 0 rfl rfl dX7_obeys_169 ?_
  refine x_getN E hw kf_X7_49 4 rfl rfl dX7_obeys_172 ?_
  refine lv_iconst (v := 2) hx hb dX7_obeys_175 (by decide) ?_
  refine lv_iload_n hx hb dX7_obeys_176 rfl (lv_at hl 2 rfl) ?_
  refine x_go (ws' := [(h 17, .inr (7, [.ref (h 0), .ref (h 15), .ref (h 11), .int bads, .int nos, .int fuls, .int cau, .int whe])), (h 11, .inr (3, [.ref (h 12), .int (nI cnt), .int (nI p), .int ca, .int fa, .int od, .ref (h 13), .ref (h 14)])), (h 13, .inl (g.2.1, 24, .inl wo)), (h 14, .inl (g.2.1, 72, .inl nu)), (h 0, .inr (2, [.ref (h 1), .ref (h 2), .ref (h 7), .ref (h 8)])), (h 2, .inr (5, [.int (nI v.1), .ref (h 3), .ref (h 4), .ref (h 5), .ref (h 6)])), (h 3, .inl (g.2.1, 200, .inl v.2.1)), (h 4, .inl (g.2.1, 200, .inl v.2.2.1)), (h 5, .inl (g.2.1, 200, .inl v.2.2.2.1)), (h 6, .inl (g.2.1, 7, .inl (upd v.2.2.2.2.1 2 (nu (k * 3 + 0))))), (h 7, .inr (6, [.int (nI v.2.2.2.2.2.1), .int v.2.2.2.2.2.2.1, .int v.2.2.2.2.2.2.2.1, .int v.2.2.2.2.2.2.2.2.1, .int v.2.2.2.2.2.2.2.2.2.1, .int v.2.2.2.2.2.2.2.2.2.2.1, .int v.2.2.2.2.2.2.2.2.2.2.2.1, .int v.2.2.2.2.2.2.2.2.2.2.2.2]))]) (st1 := [.int (v.2.2.2.2.1 2)]) E hw [5, 9] rfl (x_runVN (rest := []) E hw (c_X5_adjusted_ok l g h v.1 v.2.2.2.2.1 2 (nu (k * 3 + 0)) (by omega) hv hv2) km_X7_66 kv_X5_adjusted [5, 9] rfl (by decide) 5 rfl hl.1 rfl rfl (Nat.le_of_ble_eq_true rfl) ⟨Nat.le_of_ble_eq_true rfl, Nat.le_of_ble_eq_true rfl⟩ ⟨Nat.zero_le _, Nat.zero_le _⟩ dX7_obeys_177) rfl rfl rfl (fun H locs hw => ?_)
  exact xr_i hQ E hr hw dX7_obeys_180 ⟨rfl, rfl⟩

set_option maxRecDepth 100000 in
set_option maxHeartbeats 4000000 in
theorem c_X7_obeys_7 (l : Launch) (g : xCfg) (h : Nat → Nat) (bads : Int32) (nos : Int32) (fuls : Int32) (cau : Int32) (whe : Int32) (cnt : Nat) (p : Nat) (ca : Int32) (fa : Int32) (od : Int32) (wo : Nat → Int32) (nu : Nat → Int32) (v : SV) (k : Nat) (hL1 : 1 ≤ v.1) (hL : v.1 ≤ 200) (hk : k < 24) (hwd : wo k = 7) (hv : tLeast 3 ≤ nu (k * 3 + 0)) (hv2 : nu (k * 3 + 0) ≤ tMost 3) : Ct l g yX7_obeys cX7_obeys 5 (some .int) (xR 6 200) [.ref (h 17), .int (nI k)] [(h 17, .inr (7, [.ref (h 0), .ref (h 15), .ref (h 11), .int bads, .int nos, .int fuls, .int cau, .int whe])), (h 11, .inr (3, [.ref (h 12), .int (nI cnt), .int (nI p), .int ca, .int fa, .int od, .ref (h 13), .ref (h 14)])), (h 13, .inl (g.2.1, 24, .inl wo)), (h 14, .inl (g.2.1, 72, .inl nu)), (h 0, .inr (2, [.ref (h 1), .ref (h 2), .ref (h 7), .ref (h 8)])), (h 2, .inr (5, [.int (nI v.1), .ref (h 3), .ref (h 4), .ref (h 5), .ref (h 6)])), (h 3, .inl (g.2.1, 200, .inl v.2.1)), (h 4, .inl (g.2.1, 200, .inl v.2.2.1)), (h 5, .inl (g.2.1, 200, .inl v.2.2.2.1)), (h 6, .inl (g.2.1, 7, .inl v.2.2.2.2.1)), (h 7, .inr (6, [.int (nI v.2.2.2.2.2.1), .int v.2.2.2.2.2.2.1, .int v.2.2.2.2.2.2.2.1, .int v.2.2.2.2.2.2.2.2.1, .int v.2.2.2.2.2.2.2.2.2.1, .int v.2.2.2.2.2.2.2.2.2.2.1, .int v.2.2.2.2.2.2.2.2.2.2.2.1, .int v.2.2.2.2.2.2.2.2.2.2.2.2]))] (is1 (some (.int (v.2.2.2.2.1 3))) [(h 17, .inr (7, [.ref (h 0), .ref (h 15), .ref (h 11), .int bads, .int nos, .int fuls, .int cau, .int whe])), (h 11, .inr (3, [.ref (h 12), .int (nI cnt), .int (nI p), .int ca, .int fa, .int od, .ref (h 13), .ref (h 14)])), (h 13, .inl (g.2.1, 24, .inl wo)), (h 14, .inl (g.2.1, 72, .inl nu)), (h 0, .inr (2, [.ref (h 1), .ref (h 2), .ref (h 7), .ref (h 8)])), (h 2, .inr (5, [.int (nI v.1), .ref (h 3), .ref (h 4), .ref (h 5), .ref (h 6)])), (h 3, .inl (g.2.1, 200, .inl v.2.1)), (h 4, .inl (g.2.1, 200, .inl v.2.2.1)), (h 5, .inl (g.2.1, 200, .inl v.2.2.2.1)), (h 6, .inl (g.2.1, 7, .inl (upd v.2.2.2.2.1 3 (nu (k * 3 + 0))))), (h 7, .inr (6, [.int (nI v.2.2.2.2.2.1), .int v.2.2.2.2.2.2.1, .int v.2.2.2.2.2.2.2.1, .int v.2.2.2.2.2.2.2.2.1, .int v.2.2.2.2.2.2.2.2.2.1, .int v.2.2.2.2.2.2.2.2.2.2.1, .int v.2.2.2.2.2.2.2.2.2.2.2.1, .int v.2.2.2.2.2.2.2.2.2.2.2.2]))]) := by
  refine Ct.walk (by decide) (Nat.le_of_ble_eq_true rfl) ?_
  intro p0 e0 s0 m0 below meth c0 A0 ls Q hQ E hr hnm hw hl
  have hx := E.x
  have hb := E.b
  have hl : lv_has ls 5 [(0, .ref (h 17)), (1, .int (nI k))] := hl
  refine lv_aload_n hx hb dX7_obeys_0 rfl (lv_at hl 0 rfl) ?_
  refine x_get E hw kf_X7_26 0 rfl rfl dX7_obeys_1 ?_
  refine lv_iload_n hx hb dX7_obeys_4 rfl (lv_at hl 1 rfl) ?_
  refine lv_iconst (v := 0) hx hb dX7_obeys_5 (by decide) ?_
  refine x_go (ws' := [(h 17, .inr (7, [.ref (h 0), .ref (h 15), .ref (h 11), .int bads, .int nos, .int fuls, .int cau, .int whe])), (h 11, .inr (3, [.ref (h 12), .int (nI cnt), .int (nI p), .int ca, .int fa, .int od, .ref (h 13), .ref (h 14)])), (h 13, .inl (g.2.1, 24, .inl wo)), (h 14, .inl (g.2.1, 72, .inl nu)), (h 0, .inr (2, [.ref (h 1), .ref (h 2), .ref (h 7), .ref (h 8)])), (h 2, .inr (5, [.int (nI v.1), .ref (h 3), .ref (h 4), .ref (h 5), .ref (h 6)])), (h 3, .inl (g.2.1, 200, .inl v.2.1)), (h 4, .inl (g.2.1, 200, .inl v.2.2.1)), (h 5, .inl (g.2.1, 200, .inl v.2.2.2.1)), (h 6, .inl (g.2.1, 7, .inl v.2.2.2.2.1)), (h 7, .inr (6, [.int (nI v.2.2.2.2.2.1), .int v.2.2.2.2.2.2.1, .int v.2.2.2.2.2.2.2.1, .int v.2.2.2.2.2.2.2.2.1, .int v.2.2.2.2.2.2.2.2.2.1, .int v.2.2.2.2.2.2.2.2.2.2.1, .int v.2.2.2.2.2.2.2.2.2.2.2.1, .int v.2.2.2.2.2.2.2.2.2.2.2.2]))]) (st1 := [.int (nu (k * 3 + 0))]) E hw [1, 3] rfl (x_runVN (rest := []) E hw (c_X3_number l g h cnt p ca fa od nu k 0 (by omega)) km_X7_192 kv_X3_number [1, 3] rfl (by decide) 1 rfl hl.1 rfl rfl (Nat.le_of_ble_eq_true rfl) ⟨Nat.le_of_ble_eq_true rfl, Nat.le_of_ble_eq_true rfl⟩ ⟨Nat.zero_le _, Nat.zero_le _⟩ dX7_obeys_6) rfl rfl rfl (fun H locs hw => ?_)
  refine lv_istore_n (lv' := [(2, .int (nu (k * 3 + 0))), (0, .ref (h 17)), (1, .int (nI k))]) hx hb dX7_obeys_9 rfl hl (by decide) rfl (fun ls hl => ?_)
  refine lv_aload_n hx hb dX7_obeys_10 rfl (lv_at hl 1 rfl) ?_
  refine x_get E hw kf_X7_26 0 rfl rfl dX7_obeys_11 ?_
  refine lv_iload_n hx hb dX7_obeys_14 rfl (lv_at hl 2 rfl) ?_
  refine lv_iconst (v := 1) hx hb dX7_obeys_15 (by decide) ?_
  refine x_go (ws' := [(h 17, .inr (7, [.ref (h 0), .ref (h 15), .ref (h 11), .int bads, .int nos, .int fuls, .int cau, .int whe])), (h 11, .inr (3, [.ref (h 12), .int (nI cnt), .int (nI p), .int ca, .int fa, .int od, .ref (h 13), .ref (h 14)])), (h 13, .inl (g.2.1, 24, .inl wo)), (h 14, .inl (g.2.1, 72, .inl nu)), (h 0, .inr (2, [.ref (h 1), .ref (h 2), .ref (h 7), .ref (h 8)])), (h 2, .inr (5, [.int (nI v.1), .ref (h 3), .ref (h 4), .ref (h 5), .ref (h 6)])), (h 3, .inl (g.2.1, 200, .inl v.2.1)), (h 4, .inl (g.2.1, 200, .inl v.2.2.1)), (h 5, .inl (g.2.1, 200, .inl v.2.2.2.1)), (h 6, .inl (g.2.1, 7, .inl v.2.2.2.2.1)), (h 7, .inr (6, [.int (nI v.2.2.2.2.2.1), .int v.2.2.2.2.2.2.1, .int v.2.2.2.2.2.2.2.1, .int v.2.2.2.2.2.2.2.2.1, .int v.2.2.2.2.2.2.2.2.2.1, .int v.2.2.2.2.2.2.2.2.2.2.1, .int v.2.2.2.2.2.2.2.2.2.2.2.1, .int v.2.2.2.2.2.2.2.2.2.2.2.2]))]) (st1 := [.int (nu (k * 3 + 1))]) E hw [1, 3] rfl (x_runVN (rest := []) E hw (c_X3_number l g h cnt p ca fa od nu k 1 (by omega)) km_X7_192 kv_X3_number [1, 3] rfl (by decide) 1 rfl hl.1 rfl rfl (Nat.le_of_ble_eq_true rfl) ⟨Nat.le_of_ble_eq_true rfl, Nat.le_of_ble_eq_true rfl⟩ ⟨Nat.zero_le _, Nat.zero_le _⟩ dX7_obeys_16) rfl rfl rfl (fun H locs hw => ?_)
  refine lv_istore_n (lv' := [(3, .int (nu (k * 3 + 1))), (2, .int (nu (k * 3 + 0))), (0, .ref (h 17)), (1, .int (nI k))]) hx hb dX7_obeys_19 rfl hl (by decide) rfl (fun ls hl => ?_)
  refine lv_aload_n hx hb dX7_obeys_20 rfl (lv_at hl 2 rfl) ?_
  refine x_get E hw kf_X7_26 0 rfl rfl dX7_obeys_21 ?_
  refine lv_iload_n hx hb dX7_obeys_24 rfl (lv_at hl 3 rfl) ?_
  refine lv_iconst (v := 2) hx hb dX7_obeys_25 (by decide) ?_
  refine x_go (ws' := [(h 17, .inr (7, [.ref (h 0), .ref (h 15), .ref (h 11), .int bads, .int nos, .int fuls, .int cau, .int whe])), (h 11, .inr (3, [.ref (h 12), .int (nI cnt), .int (nI p), .int ca, .int fa, .int od, .ref (h 13), .ref (h 14)])), (h 13, .inl (g.2.1, 24, .inl wo)), (h 14, .inl (g.2.1, 72, .inl nu)), (h 0, .inr (2, [.ref (h 1), .ref (h 2), .ref (h 7), .ref (h 8)])), (h 2, .inr (5, [.int (nI v.1), .ref (h 3), .ref (h 4), .ref (h 5), .ref (h 6)])), (h 3, .inl (g.2.1, 200, .inl v.2.1)), (h 4, .inl (g.2.1, 200, .inl v.2.2.1)), (h 5, .inl (g.2.1, 200, .inl v.2.2.2.1)), (h 6, .inl (g.2.1, 7, .inl v.2.2.2.2.1)), (h 7, .inr (6, [.int (nI v.2.2.2.2.2.1), .int v.2.2.2.2.2.2.1, .int v.2.2.2.2.2.2.2.1, .int v.2.2.2.2.2.2.2.2.1, .int v.2.2.2.2.2.2.2.2.2.1, .int v.2.2.2.2.2.2.2.2.2.2.1, .int v.2.2.2.2.2.2.2.2.2.2.2.1, .int v.2.2.2.2.2.2.2.2.2.2.2.2]))]) (st1 := [.int (nu (k * 3 + 2))]) E hw [1, 3] rfl (x_runVN (rest := []) E hw (c_X3_number l g h cnt p ca fa od nu k 2 (by omega)) km_X7_192 kv_X3_number [1, 3] rfl (by decide) 1 rfl hl.1 rfl rfl (Nat.le_of_ble_eq_true rfl) ⟨Nat.le_of_ble_eq_true rfl, Nat.le_of_ble_eq_true rfl⟩ ⟨Nat.zero_le _, Nat.zero_le _⟩ dX7_obeys_26) rfl rfl rfl (fun H locs hw => ?_)
  refine lv_istore (lv' := [(4, .int (nu (k * 3 + 2))), (3, .int (nu (k * 3 + 1))), (2, .int (nu (k * 3 + 0))), (0, .ref (h 17)), (1, .int (nI k))]) hx hb dX7_obeys_29 hl (by decide) rfl (fun ls hl => ?_)
  refine lv_aload_n hx hb dX7_obeys_31 rfl (lv_at hl 3 rfl) ?_
  refine x_get E hw kf_X7_26 0 rfl rfl dX7_obeys_32 ?_
  refine x_getN E hw kf_X7_195 1 rfl rfl dX7_obeys_35 ?_
  refine lv_iload_n hx hb dX7_obeys_38 rfl (lv_at hl 4 rfl) ?_
  refine x_ld (v := 7) E hw 2 rfl k rfl (by omega) (by decide) hwd dX7_obeys_39 ?_
  refine x_sw (v := 7) (off := 141) (tgt := 181) hx hb dX7_obeys_40 rfl (by decide) (by decide) (by decide) (by decide) ?_
  refine lv_aload_n hx hb dX7_obeys_181 rfl (lv_at hl 3 rfl) ?_
  refine x_get E hw kf_X7_10 0 rfl rfl dX7_obeys_182 ?_
  refine x_getN E hw kf_X7_49 4 rfl rfl dX7_obeys_185 ?_
  refine lv_iconst (v := 3) hx hb dX7_obeys_188 (by decide) ?_
  refine lv_iload_n hx hb dX7_obeys_189 rfl (lv_at hl 2 rfl) ?_
  refine x_go (ws' := [(h 17, .inr (7, [.ref (h 0), .ref (h 15), .ref (h 11), .int bads, .int nos, .int fuls, .int cau, .int whe])), (h 11, .inr (3, [.ref (h 12), .int (nI cnt), .int (nI p), .int ca, .int fa, .int od, .ref (h 13), .ref (h 14)])), (h 13, .inl (g.2.1, 24, .inl wo)), (h 14, .inl (g.2.1, 72, .inl nu)), (h 0, .inr (2, [.ref (h 1), .ref (h 2), .ref (h 7), .ref (h 8)])), (h 2, .inr (5, [.int (nI v.1), .ref (h 3), .ref (h 4), .ref (h 5), .ref (h 6)])), (h 3, .inl (g.2.1, 200, .inl v.2.1)), (h 4, .inl (g.2.1, 200, .inl v.2.2.1)), (h 5, .inl (g.2.1, 200, .inl v.2.2.2.1)), (h 6, .inl (g.2.1, 7, .inl (upd v.2.2.2.2.1 3 (nu (k * 3 + 0))))), (h 7, .inr (6, [.int (nI v.2.2.2.2.2.1), .int v.2.2.2.2.2.2.1, .int v.2.2.2.2.2.2.2.1, .int v.2.2.2.2.2.2.2.2.1, .int v.2.2.2.2.2.2.2.2.2.1, .int v.2.2.2.2.2.2.2.2.2.2.1, .int v.2.2.2.2.2.2.2.2.2.2.2.1, .int v.2.2.2.2.2.2.2.2.2.2.2.2]))]) (st1 := [.int (v.2.2.2.2.1 3)]) E hw [5, 9] rfl (x_runVN (rest := []) E hw (c_X5_adjusted_ok l g h v.1 v.2.2.2.2.1 3 (nu (k * 3 + 0)) (by omega) hv hv2) km_X7_66 kv_X5_adjusted [5, 9] rfl (by decide) 5 rfl hl.1 rfl rfl (Nat.le_of_ble_eq_true rfl) ⟨Nat.le_of_ble_eq_true rfl, Nat.le_of_ble_eq_true rfl⟩ ⟨Nat.zero_le _, Nat.zero_le _⟩ dX7_obeys_190) rfl rfl rfl (fun H locs hw => ?_)
  exact xr_i hQ E hr hw dX7_obeys_193 ⟨rfl, rfl⟩

set_option maxRecDepth 100000 in
set_option maxHeartbeats 4000000 in
theorem c_X7_obeys_bad (l : Launch) (g : xCfg) (h : Nat → Nat) (bads : Int32) (nos : Int32) (fuls : Int32) (cau : Int32) (whe : Int32) (cnt : Nat) (p : Nat) (ca : Int32) (fa : Int32) (od : Int32) (wo : Nat → Int32) (nu : Nat → Int32) (v : SV) (k : Nat) (hL1 : 1 ≤ v.1) (hL : v.1 ≤ 200) (hk : k < 24) (hb0 : ¬ obOk (wo k) (nu (k * 3 + 0)) (nu (k * 3 + 1)) (nu (k * 3 + 2)) v.1) : Ct l g yX7_obeys cX7_obeys 5 (some .int) (xR 6 200) [.ref (h 17), .int (nI k)] [(h 17, .inr (7, [.ref (h 0), .ref (h 15), .ref (h 11), .int bads, .int nos, .int fuls, .int cau, .int whe])), (h 11, .inr (3, [.ref (h 12), .int (nI cnt), .int (nI p), .int ca, .int fa, .int od, .ref (h 13), .ref (h 14)])), (h 13, .inl (g.2.1, 24, .inl wo)), (h 14, .inl (g.2.1, 72, .inl nu)), (h 0, .inr (2, [.ref (h 1), .ref (h 2), .ref (h 7), .ref (h 8)])), (h 2, .inr (5, [.int (nI v.1), .ref (h 3), .ref (h 4), .ref (h 5), .ref (h 6)])), (h 3, .inl (g.2.1, 200, .inl v.2.1)), (h 4, .inl (g.2.1, 200, .inl v.2.2.1)), (h 5, .inl (g.2.1, 200, .inl v.2.2.2.1)), (h 6, .inl (g.2.1, 7, .inl v.2.2.2.2.1)), (h 7, .inr (6, [.int (nI v.2.2.2.2.2.1), .int v.2.2.2.2.2.2.1, .int v.2.2.2.2.2.2.2.1, .int v.2.2.2.2.2.2.2.2.1, .int v.2.2.2.2.2.2.2.2.2.1, .int v.2.2.2.2.2.2.2.2.2.2.1, .int v.2.2.2.2.2.2.2.2.2.2.2.1, .int v.2.2.2.2.2.2.2.2.2.2.2.2]))] (is1 (some (.int (-2))) [(h 17, .inr (7, [.ref (h 0), .ref (h 15), .ref (h 11), .int bads, .int nos, .int fuls, .int cau, .int whe])), (h 11, .inr (3, [.ref (h 12), .int (nI cnt), .int (nI p), .int ca, .int fa, .int od, .ref (h 13), .ref (h 14)])), (h 13, .inl (g.2.1, 24, .inl wo)), (h 14, .inl (g.2.1, 72, .inl nu)), (h 0, .inr (2, [.ref (h 1), .ref (h 2), .ref (h 7), .ref (h 8)])), (h 2, .inr (5, [.int (nI v.1), .ref (h 3), .ref (h 4), .ref (h 5), .ref (h 6)])), (h 3, .inl (g.2.1, 200, .inl v.2.1)), (h 4, .inl (g.2.1, 200, .inl v.2.2.1)), (h 5, .inl (g.2.1, 200, .inl v.2.2.2.1)), (h 6, .inl (g.2.1, 7, .inl v.2.2.2.2.1)), (h 7, .inr (6, [.int (nI v.2.2.2.2.2.1), .int v.2.2.2.2.2.2.1, .int v.2.2.2.2.2.2.2.1, .int v.2.2.2.2.2.2.2.2.1, .int v.2.2.2.2.2.2.2.2.2.1, .int v.2.2.2.2.2.2.2.2.2.2.1, .int v.2.2.2.2.2.2.2.2.2.2.2.1, .int v.2.2.2.2.2.2.2.2.2.2.2.2]))]) := by
  refine Ct.walk (by decide) (Nat.le_of_ble_eq_true rfl) ?_
  intro p0 e0 s0 m0 below meth c0 A0 ls Q hQ E hr hnm hw hl
  have hx := E.x
  have hb := E.b
  have hl : lv_has ls 5 [(0, .ref (h 17)), (1, .int (nI k))] := hl
  refine lv_aload_n hx hb dX7_obeys_0 rfl (lv_at hl 0 rfl) ?_
  refine x_get E hw kf_X7_26 0 rfl rfl dX7_obeys_1 ?_
  refine lv_iload_n hx hb dX7_obeys_4 rfl (lv_at hl 1 rfl) ?_
  refine lv_iconst (v := 0) hx hb dX7_obeys_5 (by decide) ?_
  refine x_go (ws' := [(h 17, .inr (7, [.ref (h 0), .ref (h 15), .ref (h 11), .int bads, .int nos, .int fuls, .int cau, .int whe])), (h 11, .inr (3, [.ref (h 12), .int (nI cnt), .int (nI p), .int ca, .int fa, .int od, .ref (h 13), .ref (h 14)])), (h 13, .inl (g.2.1, 24, .inl wo)), (h 14, .inl (g.2.1, 72, .inl nu)), (h 0, .inr (2, [.ref (h 1), .ref (h 2), .ref (h 7), .ref (h 8)])), (h 2, .inr (5, [.int (nI v.1), .ref (h 3), .ref (h 4), .ref (h 5), .ref (h 6)])), (h 3, .inl (g.2.1, 200, .inl v.2.1)), (h 4, .inl (g.2.1, 200, .inl v.2.2.1)), (h 5, .inl (g.2.1, 200, .inl v.2.2.2.1)), (h 6, .inl (g.2.1, 7, .inl v.2.2.2.2.1)), (h 7, .inr (6, [.int (nI v.2.2.2.2.2.1), .int v.2.2.2.2.2.2.1, .int v.2.2.2.2.2.2.2.1, .int v.2.2.2.2.2.2.2.2.1, .int v.2.2.2.2.2.2.2.2.2.1, .int v.2.2.2.2.2.2.2.2.2.2.1, .int v.2.2.2.2.2.2.2.2.2.2.2.1, .int v.2.2.2.2.2.2.2.2.2.2.2.2]))]) (st1 := [.int (nu (k * 3 + 0))]) E hw [1, 3] rfl (x_runVN (rest := []) E hw (c_X3_number l g h cnt p ca fa od nu k 0 (by omega)) km_X7_192 kv_X3_number [1, 3] rfl (by decide) 1 rfl hl.1 rfl rfl (Nat.le_of_ble_eq_true rfl) ⟨Nat.le_of_ble_eq_true rfl, Nat.le_of_ble_eq_true rfl⟩ ⟨Nat.zero_le _, Nat.zero_le _⟩ dX7_obeys_6) rfl rfl rfl (fun H locs hw => ?_)
  refine lv_istore_n (lv' := [(2, .int (nu (k * 3 + 0))), (0, .ref (h 17)), (1, .int (nI k))]) hx hb dX7_obeys_9 rfl hl (by decide) rfl (fun ls hl => ?_)
  refine lv_aload_n hx hb dX7_obeys_10 rfl (lv_at hl 1 rfl) ?_
  refine x_get E hw kf_X7_26 0 rfl rfl dX7_obeys_11 ?_
  refine lv_iload_n hx hb dX7_obeys_14 rfl (lv_at hl 2 rfl) ?_
  refine lv_iconst (v := 1) hx hb dX7_obeys_15 (by decide) ?_
  refine x_go (ws' := [(h 17, .inr (7, [.ref (h 0), .ref (h 15), .ref (h 11), .int bads, .int nos, .int fuls, .int cau, .int whe])), (h 11, .inr (3, [.ref (h 12), .int (nI cnt), .int (nI p), .int ca, .int fa, .int od, .ref (h 13), .ref (h 14)])), (h 13, .inl (g.2.1, 24, .inl wo)), (h 14, .inl (g.2.1, 72, .inl nu)), (h 0, .inr (2, [.ref (h 1), .ref (h 2), .ref (h 7), .ref (h 8)])), (h 2, .inr (5, [.int (nI v.1), .ref (h 3), .ref (h 4), .ref (h 5), .ref (h 6)])), (h 3, .inl (g.2.1, 200, .inl v.2.1)), (h 4, .inl (g.2.1, 200, .inl v.2.2.1)), (h 5, .inl (g.2.1, 200, .inl v.2.2.2.1)), (h 6, .inl (g.2.1, 7, .inl v.2.2.2.2.1)), (h 7, .inr (6, [.int (nI v.2.2.2.2.2.1), .int v.2.2.2.2.2.2.1, .int v.2.2.2.2.2.2.2.1, .int v.2.2.2.2.2.2.2.2.1, .int v.2.2.2.2.2.2.2.2.2.1, .int v.2.2.2.2.2.2.2.2.2.2.1, .int v.2.2.2.2.2.2.2.2.2.2.2.1, .int v.2.2.2.2.2.2.2.2.2.2.2.2]))]) (st1 := [.int (nu (k * 3 + 1))]) E hw [1, 3] rfl (x_runVN (rest := []) E hw (c_X3_number l g h cnt p ca fa od nu k 1 (by omega)) km_X7_192 kv_X3_number [1, 3] rfl (by decide) 1 rfl hl.1 rfl rfl (Nat.le_of_ble_eq_true rfl) ⟨Nat.le_of_ble_eq_true rfl, Nat.le_of_ble_eq_true rfl⟩ ⟨Nat.zero_le _, Nat.zero_le _⟩ dX7_obeys_16) rfl rfl rfl (fun H locs hw => ?_)
  refine lv_istore_n (lv' := [(3, .int (nu (k * 3 + 1))), (2, .int (nu (k * 3 + 0))), (0, .ref (h 17)), (1, .int (nI k))]) hx hb dX7_obeys_19 rfl hl (by decide) rfl (fun ls hl => ?_)
  refine lv_aload_n hx hb dX7_obeys_20 rfl (lv_at hl 2 rfl) ?_
  refine x_get E hw kf_X7_26 0 rfl rfl dX7_obeys_21 ?_
  refine lv_iload_n hx hb dX7_obeys_24 rfl (lv_at hl 3 rfl) ?_
  refine lv_iconst (v := 2) hx hb dX7_obeys_25 (by decide) ?_
  refine x_go (ws' := [(h 17, .inr (7, [.ref (h 0), .ref (h 15), .ref (h 11), .int bads, .int nos, .int fuls, .int cau, .int whe])), (h 11, .inr (3, [.ref (h 12), .int (nI cnt), .int (nI p), .int ca, .int fa, .int od, .ref (h 13), .ref (h 14)])), (h 13, .inl (g.2.1, 24, .inl wo)), (h 14, .inl (g.2.1, 72, .inl nu)), (h 0, .inr (2, [.ref (h 1), .ref (h 2), .ref (h 7), .ref (h 8)])), (h 2, .inr (5, [.int (nI v.1), .ref (h 3), .ref (h 4), .ref (h 5), .ref (h 6)])), (h 3, .inl (g.2.1, 200, .inl v.2.1)), (h 4, .inl (g.2.1, 200, .inl v.2.2.1)), (h 5, .inl (g.2.1, 200, .inl v.2.2.2.1)), (h 6, .inl (g.2.1, 7, .inl v.2.2.2.2.1)), (h 7, .inr (6, [.int (nI v.2.2.2.2.2.1), .int v.2.2.2.2.2.2.1, .int v.2.2.2.2.2.2.2.1, .int v.2.2.2.2.2.2.2.2.1, .int v.2.2.2.2.2.2.2.2.2.1, .int v.2.2.2.2.2.2.2.2.2.2.1, .int v.2.2.2.2.2.2.2.2.2.2.2.1, .int v.2.2.2.2.2.2.2.2.2.2.2.2]))]) (st1 := [.int (nu (k * 3 + 2))]) E hw [1, 3] rfl (x_runVN (rest := []) E hw (c_X3_number l g h cnt p ca fa od nu k 2 (by omega)) km_X7_192 kv_X3_number [1, 3] rfl (by decide) 1 rfl hl.1 rfl rfl (Nat.le_of_ble_eq_true rfl) ⟨Nat.le_of_ble_eq_true rfl, Nat.le_of_ble_eq_true rfl⟩ ⟨Nat.zero_le _, Nat.zero_le _⟩ dX7_obeys_26) rfl rfl rfl (fun H locs hw => ?_)
  refine lv_istore (lv' := [(4, .int (nu (k * 3 + 2))), (3, .int (nu (k * 3 + 1))), (2, .int (nu (k * 3 + 0))), (0, .ref (h 17)), (1, .int (nI k))]) hx hb dX7_obeys_29 hl (by decide) rfl (fun ls hl => ?_)
  refine lv_aload_n hx hb dX7_obeys_31 rfl (lv_at hl 3 rfl) ?_
  refine x_get E hw kf_X7_26 0 rfl rfl dX7_obeys_32 ?_
  refine x_getN E hw kf_X7_195 1 rfl rfl dX7_obeys_35 ?_
  refine lv_iload_n hx hb dX7_obeys_38 rfl (lv_at hl 4 rfl) ?_
  refine x_ld (v := wo k) E hw 2 rfl k rfl (by omega) (by decide) rfl dX7_obeys_39 ?_
  by_cases s_40_0 : wo k = 0
  · refine x_sw (v := 0) (off := 48) (tgt := 88) hx hb dX7_obeys_40 s_40_0 (by decide) (by decide) (by decide) (by decide) ?_
    refine lv_aload_n hx hb dX7_obeys_88 rfl (lv_at hl 3 rfl) ?_
    refine x_get E hw kf_X7_10 0 rfl rfl dX7_obeys_89 ?_
    refine lv_iload_n hx hb dX7_obeys_92 rfl (lv_at hl 2 rfl) ?_
    refine x_go (ws' := [(h 17, .inr (7, [.ref (h 0), .ref (h 15), .ref (h 11), .int bads, .int nos, .int fuls, .int cau, .int whe])), (h 11, .inr (3, [.ref (h 12), .int (nI cnt), .int (nI p), .int ca, .int fa, .int od, .ref (h 13), .ref (h 14)])), (h 13, .inl (g.2.1, 24, .inl wo)), (h 14, .inl (g.2.1, 72, .inl nu)), (h 0, .inr (2, [.ref (h 1), .ref (h 2), .ref (h 7), .ref (h 8)])), (h 2, .inr (5, [.int (nI v.1), .ref (h 3), .ref (h 4), .ref (h 5), .ref (h 6)])), (h 3, .inl (g.2.1, 200, .inl v.2.1)), (h 4, .inl (g.2.1, 200, .inl v.2.2.1)), (h 5, .inl (g.2.1, 200, .inl v.2.2.2.1)), (h 6, .inl (g.2.1, 7, .inl v.2.2.2.2.1)), (h 7, .inr (6, [.int (nI v.2.2.2.2.2.1), .int v.2.2.2.2.2.2.1, .int v.2.2.2.2.2.2.2.1, .int v.2.2.2.2.2.2.2.2.1, .int v.2.2.2.2.2.2.2.2.2.1, .int v.2.2.2.2.2.2.2.2.2.2.1, .int v.2.2.2.2.2.2.2.2.2.2.2.1, .int v.2.2.2.2.2.2.2.2.2.2.2.2]))]) (st1 := [.int (-2)]) E hw [4, 5, 6, 7, 8, 10] rfl (x_runVN (rest := []) E hw (c_X2_resizes_bad l g h v.1 v.2.1 v.2.2.1 v.2.2.2.1 v.2.2.2.2.2 (nu (k * 3 + 0)) (fun z => hb0 (Or.inl ⟨s_40_0, z⟩))) km_X7_42 kv_X2_resizes [4, 5, 6, 7, 8, 10] rfl (by decide) 4 rfl hl.1 rfl rfl (Nat.le_of_ble_eq_true rfl) ⟨Nat.le_of_ble_eq_true rfl, Nat.le_of_ble_eq_true rfl⟩ ⟨Nat.zero_le _, Nat.zero_le _⟩ dX7_obeys_93) rfl rfl rfl (fun H locs hw => ?_)
    exact xr_i hQ E hr hw dX7_obeys_96 ⟨rfl, rfl⟩
  by_cases s_40_1 : wo k = 1
  · refine x_sw (v := 1) (off := 57) (tgt := 97) hx hb dX7_obeys_40 s_40_1 (by decide) (by decide) (by decide) (by decide) ?_
    refine lv_aload_n hx hb dX7_obeys_97 rfl (lv_at hl 3 rfl) ?_
    refine x_get E hw kf_X7_10 0 rfl rfl dX7_obeys_98 ?_
    refine x_getN E hw kf_X7_49 4 rfl rfl dX7_obeys_101 ?_
    refine lv_iconst (v := 0) hx hb dX7_obeys_104 (by decide) ?_
    refine lv_iload_n hx hb dX7_obeys_105 rfl (lv_at hl 2 rfl) ?_
    refine lv_iload_n hx hb dX7_obeys_106 rfl (lv_at hl 1 rfl) ?_
    refine lv_iload hx hb dX7_obeys_107 (lv_at hl 0 rfl) ?_
    refine x_go (ws' := [(h 17, .inr (7, [.ref (h 0), .ref (h 15), .ref (h 11), .int bads, .int nos, .int fuls, .int cau, .int whe])), (h 11, .inr (3, [.ref (h 12), .int (nI cnt), .int (nI p), .int ca, .int fa, .int od, .ref (h 13), .ref (h 14)])), (h 13, .inl (g.2.1, 24, .inl wo)), (h 14, .inl (g.2.1, 72, .inl nu)), (h 0, .inr (2, [.ref (h 1), .ref (h 2), .ref (h 7), .ref (h 8)])), (h 2, .inr (5, [.int (nI v.1), .ref (h 3), .ref (h 4), .ref (h 5), .ref (h 6)])), (h 3, .inl (g.2.1, 200, .inl v.2.1)), (h 4, .inl (g.2.1, 200, .inl v.2.2.1)), (h 5, .inl (g.2.1, 200, .inl v.2.2.2.1)), (h 6, .inl (g.2.1, 7, .inl v.2.2.2.2.1)), (h 7, .inr (6, [.int (nI v.2.2.2.2.2.1), .int v.2.2.2.2.2.2.1, .int v.2.2.2.2.2.2.2.1, .int v.2.2.2.2.2.2.2.2.1, .int v.2.2.2.2.2.2.2.2.2.1, .int v.2.2.2.2.2.2.2.2.2.2.1, .int v.2.2.2.2.2.2.2.2.2.2.2.1, .int v.2.2.2.2.2.2.2.2.2.2.2.2]))]) (st1 := [.int (-2)]) E hw [5, 6, 7] rfl (x_runVN (rest := []) E hw (c_X5_relaid_bad l g h v.1 v.2.1 v.2.2.1 0 (nu (k * 3 + 0)) (nu (k * 3 + 1)) (nu (k * 3 + 2)) (by omega) (by omega) (fun z => hb0 (Or.inr (Or.inl ⟨s_40_1, z⟩)))) km_X7_53 kv_X5_relaid [5, 6, 7] rfl (by decide) 5 rfl hl.1 rfl rfl (Nat.le_of_ble_eq_true rfl) ⟨Nat.le_of_ble_eq_true rfl, Nat.le_of_ble_eq_true rfl⟩ ⟨Nat.zero_le _, Nat.zero_le _⟩ dX7_obeys_109) rfl rfl rfl (fun H locs hw => ?_)
    exact xr_i hQ E hr hw dX7_obeys_112 ⟨rfl, rfl⟩
  by_cases s_40_2 : wo k = 2
  · refine x_sw (v := 2) (off := 73) (tgt := 113) hx hb dX7_obeys_40 s_40_2 (by decide) (by decide) (by decide) (by decide) ?_
    refine lv_aload_n hx hb dX7_obeys_113 rfl (lv_at hl 3 rfl) ?_
    refine x_get E hw kf_X7_10 0 rfl rfl dX7_obeys_114 ?_
    refine x_getN E hw kf_X7_49 4 rfl rfl dX7_obeys_117 ?_
    refine lv_iconst (v := 1) hx hb dX7_obeys_120 (by decide) ?_
    refine lv_iload_n hx hb dX7_obeys_121 rfl (lv_at hl 2 rfl) ?_
    refine lv_iload_n hx hb dX7_obeys_122 rfl (lv_at hl 1 rfl) ?_
    refine lv_iload hx hb dX7_obeys_123 (lv_at hl 0 rfl) ?_
    refine x_go (ws' := [(h 17, .inr (7, [.ref (h 0), .ref (h 15), .ref (h 11), .int bads, .int nos, .int fuls, .int cau, .int whe])), (h 11, .inr (3, [.ref (h 12), .int (nI cnt), .int (nI p), .int ca, .int fa, .int od, .ref (h 13), .ref (h 14)])), (h 13, .inl (g.2.1, 24, .inl wo)), (h 14, .inl (g.2.1, 72, .inl nu)), (h 0, .inr (2, [.ref (h 1), .ref (h 2), .ref (h 7), .ref (h 8)])), (h 2, .inr (5, [.int (nI v.1), .ref (h 3), .ref (h 4), .ref (h 5), .ref (h 6)])), (h 3, .inl (g.2.1, 200, .inl v.2.1)), (h 4, .inl (g.2.1, 200, .inl v.2.2.1)), (h 5, .inl (g.2.1, 200, .inl v.2.2.2.1)), (h 6, .inl (g.2.1, 7, .inl v.2.2.2.2.1)), (h 7, .inr (6, [.int (nI v.2.2.2.2.2.1), .int v.2.2.2.2.2.2.1, .int v.2.2.2.2.2.2.2.1, .int v.2.2.2.2.2.2.2.2.1, .int v.2.2.2.2.2.2.2.2.2.1, .int v.2.2.2.2.2.2.2.2.2.2.1, .int v.2.2.2.2.2.2.2.2.2.2.2.1, .int v.2.2.2.2.2.2.2.2.2.2.2.2]))]) (st1 := [.int (-2)]) E hw [5, 6, 7] rfl (x_runVN (rest := []) E hw (c_X5_relaid_bad l g h v.1 v.2.1 v.2.2.1 1 (nu (k * 3 + 0)) (nu (k * 3 + 1)) (nu (k * 3 + 2)) (by omega) (by omega) (fun z => hb0 (Or.inr (Or.inr (Or.inl ⟨s_40_2, z⟩))))) km_X7_53 kv_X5_relaid [5, 6, 7] rfl (by decide) 5 rfl hl.1 rfl rfl (Nat.le_of_ble_eq_true rfl) ⟨Nat.le_of_ble_eq_true rfl, Nat.le_of_ble_eq_true rfl⟩ ⟨Nat.zero_le _, Nat.zero_le _⟩ dX7_obeys_125) rfl rfl rfl (fun H locs hw => ?_)
    exact xr_i hQ E hr hw dX7_obeys_128 ⟨rfl, rfl⟩
  by_cases s_40_3 : wo k = 3
  · refine x_sw (v := 3) (off := 89) (tgt := 129) hx hb dX7_obeys_40 s_40_3 (by decide) (by decide) (by decide) (by decide) ?_
    refine lv_aload_n hx hb dX7_obeys_129 rfl (lv_at hl 3 rfl) ?_
    refine x_get E hw kf_X7_10 0 rfl rfl dX7_obeys_130 ?_
    refine x_getN E hw kf_X7_49 4 rfl rfl dX7_obeys_133 ?_
    refine lv_iload_n hx hb dX7_obeys_136 rfl (lv_at hl 2 rfl) ?_
    refine lv_iconst (v := 1) hx hb dX7_obeys_137 (by decide) ?_
    refine x_go (ws' := [(h 17, .inr (7, [.ref (h 0), .ref (h 15), .ref (h 11), .int bads, .int nos, .int fuls, .int cau, .int whe])), (h 11, .inr (3, [.ref (h 12), .int (nI cnt), .int (nI p), .int ca, .int fa, .int od, .ref (h 13), .ref (h 14)])), (h 13, .inl (g.2.1, 24, .inl wo)), (h 14, .inl (g.2.1, 72, .inl nu)), (h 0, .inr (2, [.ref (h 1), .ref (h 2), .ref (h 7), .ref (h 8)])), (h 2, .inr (5, [.int (nI v.1), .ref (h 3), .ref (h 4), .ref (h 5), .ref (h 6)])), (h 3, .inl (g.2.1, 200, .inl v.2.1)), (h 4, .inl (g.2.1, 200, .inl v.2.2.1)), (h 5, .inl (g.2.1, 200, .inl v.2.2.2.1)), (h 6, .inl (g.2.1, 7, .inl v.2.2.2.2.1)), (h 7, .inr (6, [.int (nI v.2.2.2.2.2.1), .int v.2.2.2.2.2.2.1, .int v.2.2.2.2.2.2.2.1, .int v.2.2.2.2.2.2.2.2.1, .int v.2.2.2.2.2.2.2.2.2.1, .int v.2.2.2.2.2.2.2.2.2.2.1, .int v.2.2.2.2.2.2.2.2.2.2.2.1, .int v.2.2.2.2.2.2.2.2.2.2.2.2]))]) (st1 := [.int (-2)]) E hw [5, 8] rfl (x_runVN (rest := []) E hw (c_X5_marked_bad l g h v.1 v.2.2.2.1 (nu (k * 3 + 0)) 1 (by omega) (by omega) (fun z => hb0 (Or.inr (Or.inr (Or.inr (Or.inl ⟨s_40_3, z.1⟩)))))) km_X7_59 kv_X5_marked [5, 8] rfl (by decide) 5 rfl hl.1 rfl rfl (Nat.le_of_ble_eq_true rfl) ⟨Nat.le_of_ble_eq_true rfl, Nat.le_of_ble_eq_true rfl⟩ ⟨Nat.zero_le _, Nat.zero_le _⟩ dX7_obeys_138) rfl rfl rfl (fun H locs hw => ?_)
    exact xr_i hQ E hr hw dX7_obeys_141 ⟨rfl, rfl⟩
  by_cases s_40_4 : wo k = 4
  · refine x_sw (v := 4) (off := 102) (tgt := 142) hx hb dX7_obeys_40 s_40_4 (by decide) (by decide) (by decide) (by decide) ?_
    refine lv_aload_n hx hb dX7_obeys_142 rfl (lv_at hl 3 rfl) ?_
    refine x_get E hw kf_X7_10 0 rfl rfl dX7_obeys_143 ?_
    refine x_getN E hw kf_X7_49 4 rfl rfl dX7_obeys_146 ?_
    refine lv_iconst (v := 0) hx hb dX7_obeys_149 (by decide) ?_
    refine lv_iload_n hx hb dX7_obeys_150 rfl (lv_at hl 2 rfl) ?_
    refine x_go (ws' := [(h 17, .inr (7, [.ref (h 0), .ref (h 15), .ref (h 11), .int bads, .int nos, .int fuls, .int cau, .int whe])), (h 11, .inr (3, [.ref (h 12), .int (nI cnt), .int (nI p), .int ca, .int fa, .int od, .ref (h 13), .ref (h 14)])), (h 13, .inl (g.2.1, 24, .inl wo)), (h 14, .inl (g.2.1, 72, .inl nu)), (h 0, .inr (2, [.ref (h 1), .ref (h 2), .ref (h 7), .ref (h 8)])), (h 2, .inr (5, [.int (nI v.1), .ref (h 3), .ref (h 4), .ref (h 5), .ref (h 6)])), (h 3, .inl (g.2.1, 200, .inl v.2.1)), (h 4, .inl (g.2.1, 200, .inl v.2.2.1)), (h 5, .inl (g.2.1, 200, .inl v.2.2.2.1)), (h 6, .inl (g.2.1, 7, .inl v.2.2.2.2.1)), (h 7, .inr (6, [.int (nI v.2.2.2.2.2.1), .int v.2.2.2.2.2.2.1, .int v.2.2.2.2.2.2.2.1, .int v.2.2.2.2.2.2.2.2.1, .int v.2.2.2.2.2.2.2.2.2.1, .int v.2.2.2.2.2.2.2.2.2.2.1, .int v.2.2.2.2.2.2.2.2.2.2.2.1, .int v.2.2.2.2.2.2.2.2.2.2.2.2]))]) (st1 := [.int (-2)]) E hw [5, 9] rfl (x_runVN (rest := []) E hw (c_X5_adjusted_bad l g h v.1 v.2.2.2.2.1 0 (nu (k * 3 + 0)) (fun z => hb0 (Or.inr (Or.inr (Or.inr (Or.inr (Or.inl ⟨s_40_4, (setOk_w (w := 0) (by decide)).mp z⟩))))))) km_X7_66 kv_X5_adjusted [5, 9] rfl (by decide) 5 rfl hl.1 rfl rfl (Nat.le_of_ble_eq_true rfl) ⟨Nat.le_of_ble_eq_true rfl, Nat.le_of_ble_eq_true rfl⟩ ⟨Nat.zero_le _, Nat.zero_le _⟩ dX7_obeys_151) rfl rfl rfl (fun H locs hw => ?_)
    exact xr_i hQ E hr hw dX7_obeys_154 ⟨rfl, rfl⟩
  by_cases s_40_5 : wo k = 5
  · refine x_sw (v := 5) (off := 115) (tgt := 155) hx hb dX7_obeys_40 s_40_5 (by decide) (by decide) (by decide) (by decide) ?_
    refine lv_aload_n hx hb dX7_obeys_155 rfl (lv_at hl 3 rfl) ?_
    refine x_get E hw kf_X7_10 0 rfl rfl dX7_obeys_156 ?_
    refine x_getN E hw kf_X7_49 4 rfl rfl dX7_obeys_159 ?_
    refine lv_iconst (v := 1) hx hb dX7_obeys_162 (by decide) ?_
    refine lv_iload_n hx hb dX7_obeys_163 rfl (lv_at hl 2 rfl) ?_
    refine x_go (ws' := [(h 17, .inr (7, [.ref (h 0), .ref (h 15), .ref (h 11), .int bads, .int nos, .int fuls, .int cau, .int whe])), (h 11, .inr (3, [.ref (h 12), .int (nI cnt), .int (nI p), .int ca, .int fa, .int od, .ref (h 13), .ref (h 14)])), (h 13, .inl (g.2.1, 24, .inl wo)), (h 14, .inl (g.2.1, 72, .inl nu)), (h 0, .inr (2, [.ref (h 1), .ref (h 2), .ref (h 7), .ref (h 8)])), (h 2, .inr (5, [.int (nI v.1), .ref (h 3), .ref (h 4), .ref (h 5), .ref (h 6)])), (h 3, .inl (g.2.1, 200, .inl v.2.1)), (h 4, .inl (g.2.1, 200, .inl v.2.2.1)), (h 5, .inl (g.2.1, 200, .inl v.2.2.2.1)), (h 6, .inl (g.2.1, 7, .inl v.2.2.2.2.1)), (h 7, .inr (6, [.int (nI v.2.2.2.2.2.1), .int v.2.2.2.2.2.2.1, .int v.2.2.2.2.2.2.2.1, .int v.2.2.2.2.2.2.2.2.1, .int v.2.2.2.2.2.2.2.2.2.1, .int v.2.2.2.2.2.2.2.2.2.2.1, .int v.2.2.2.2.2.2.2.2.2.2.2.1, .int v.2.2.2.2.2.2.2.2.2.2.2.2]))]) (st1 := [.int (-2)]) E hw [5, 9] rfl (x_runVN (rest := []) E hw (c_X5_adjusted_bad l g h v.1 v.2.2.2.2.1 1 (nu (k * 3 + 0)) (fun z => hb0 (Or.inr (Or.inr (Or.inr (Or.inr (Or.inr (Or.inl ⟨s_40_5, (setOk_w (w := 1) (by decide)).mp z⟩)))))))) km_X7_66 kv_X5_adjusted [5, 9] rfl (by decide) 5 rfl hl.1 rfl rfl (Nat.le_of_ble_eq_true rfl) ⟨Nat.le_of_ble_eq_true rfl, Nat.le_of_ble_eq_true rfl⟩ ⟨Nat.zero_le _, Nat.zero_le _⟩ dX7_obeys_164) rfl rfl rfl (fun H locs hw => ?_)
    exact xr_i hQ E hr hw dX7_obeys_167 ⟨rfl, rfl⟩
  by_cases s_40_6 : wo k = 6
  · refine x_sw (v := 6) (off := 128) (tgt := 168) hx hb dX7_obeys_40 s_40_6 (by decide) (by decide) (by decide) (by decide) ?_
    refine lv_aload_n hx hb dX7_obeys_168 rfl (lv_at hl 3 rfl) ?_
    refine x_get E hw kf_X7_10 0 rfl rfl dX7_obeys_169 ?_
    refine x_getN E hw kf_X7_49 4 rfl rfl dX7_obeys_172 ?_
    refine lv_iconst (v := 2) hx hb dX7_obeys_175 (by decide) ?_
    refine lv_iload_n hx hb dX7_obeys_176 rfl (lv_at hl 2 rfl) ?_
    refine x_go (ws' := [(h 17, .inr (7, [.ref (h 0), .ref (h 15), .ref (h 11), .int bads, .int nos, .int fuls, .int cau, .int whe])), (h 11, .inr (3, [.ref (h 12), .int (nI cnt), .int (nI p), .int ca, .int fa, .int od, .ref (h 13), .ref (h 14)])), (h 13, .inl (g.2.1, 24, .inl wo)), (h 14, .inl (g.2.1, 72, .inl nu)), (h 0, .inr (2, [.ref (h 1), .ref (h 2), .ref (h 7), .ref (h 8)])), (h 2, .inr (5, [.int (nI v.1), .ref (h 3), .ref (h 4), .ref (h 5), .ref (h 6)])), (h 3, .inl (g.2.1, 200, .inl v.2.1)), (h 4, .inl (g.2.1, 200, .inl v.2.2.1)), (h 5, .inl (g.2.1, 200, .inl v.2.2.2.1)), (h 6, .inl (g.2.1, 7, .inl v.2.2.2.2.1)), (h 7, .inr (6, [.int (nI v.2.2.2.2.2.1), .int v.2.2.2.2.2.2.1, .int v.2.2.2.2.2.2.2.1, .int v.2.2.2.2.2.2.2.2.1, .int v.2.2.2.2.2.2.2.2.2.1, .int v.2.2.2.2.2.2.2.2.2.2.1, .int v.2.2.2.2.2.2.2.2.2.2.2.1, .int v.2.2.2.2.2.2.2.2.2.2.2.2]))]) (st1 := [.int (-2)]) E hw [5, 9] rfl (x_runVN (rest := []) E hw (c_X5_adjusted_bad l g h v.1 v.2.2.2.2.1 2 (nu (k * 3 + 0)) (fun z => hb0 (Or.inr (Or.inr (Or.inr (Or.inr (Or.inr (Or.inr (Or.inl ⟨s_40_6, (setOk_w (w := 2) (by decide)).mp z⟩))))))))) km_X7_66 kv_X5_adjusted [5, 9] rfl (by decide) 5 rfl hl.1 rfl rfl (Nat.le_of_ble_eq_true rfl) ⟨Nat.le_of_ble_eq_true rfl, Nat.le_of_ble_eq_true rfl⟩ ⟨Nat.zero_le _, Nat.zero_le _⟩ dX7_obeys_177) rfl rfl rfl (fun H locs hw => ?_)
    exact xr_i hQ E hr hw dX7_obeys_180 ⟨rfl, rfl⟩
  by_cases s_40_7 : wo k = 7
  · refine x_sw (v := 7) (off := 141) (tgt := 181) hx hb dX7_obeys_40 s_40_7 (by decide) (by decide) (by decide) (by decide) ?_
    refine lv_aload_n hx hb dX7_obeys_181 rfl (lv_at hl 3 rfl) ?_
    refine x_get E hw kf_X7_10 0 rfl rfl dX7_obeys_182 ?_
    refine x_getN E hw kf_X7_49 4 rfl rfl dX7_obeys_185 ?_
    refine lv_iconst (v := 3) hx hb dX7_obeys_188 (by decide) ?_
    refine lv_iload_n hx hb dX7_obeys_189 rfl (lv_at hl 2 rfl) ?_
    refine x_go (ws' := [(h 17, .inr (7, [.ref (h 0), .ref (h 15), .ref (h 11), .int bads, .int nos, .int fuls, .int cau, .int whe])), (h 11, .inr (3, [.ref (h 12), .int (nI cnt), .int (nI p), .int ca, .int fa, .int od, .ref (h 13), .ref (h 14)])), (h 13, .inl (g.2.1, 24, .inl wo)), (h 14, .inl (g.2.1, 72, .inl nu)), (h 0, .inr (2, [.ref (h 1), .ref (h 2), .ref (h 7), .ref (h 8)])), (h 2, .inr (5, [.int (nI v.1), .ref (h 3), .ref (h 4), .ref (h 5), .ref (h 6)])), (h 3, .inl (g.2.1, 200, .inl v.2.1)), (h 4, .inl (g.2.1, 200, .inl v.2.2.1)), (h 5, .inl (g.2.1, 200, .inl v.2.2.2.1)), (h 6, .inl (g.2.1, 7, .inl v.2.2.2.2.1)), (h 7, .inr (6, [.int (nI v.2.2.2.2.2.1), .int v.2.2.2.2.2.2.1, .int v.2.2.2.2.2.2.2.1, .int v.2.2.2.2.2.2.2.2.1, .int v.2.2.2.2.2.2.2.2.2.1, .int v.2.2.2.2.2.2.2.2.2.2.1, .int v.2.2.2.2.2.2.2.2.2.2.2.1, .int v.2.2.2.2.2.2.2.2.2.2.2.2]))]) (st1 := [.int (-2)]) E hw [5, 9] rfl (x_runVN (rest := []) E hw (c_X5_adjusted_bad l g h v.1 v.2.2.2.2.1 3 (nu (k * 3 + 0)) (fun z => hb0 (Or.inr (Or.inr (Or.inr (Or.inr (Or.inr (Or.inr (Or.inr ⟨s_40_7, (setOk_w (w := 3) (by decide)).mp z⟩))))))))) km_X7_66 kv_X5_adjusted [5, 9] rfl (by decide) 5 rfl hl.1 rfl rfl (Nat.le_of_ble_eq_true rfl) ⟨Nat.le_of_ble_eq_true rfl, Nat.le_of_ble_eq_true rfl⟩ ⟨Nat.zero_le _, Nat.zero_le _⟩ dX7_obeys_190) rfl rfl rfl (fun H locs hw => ?_)
    exact xr_i hQ E hr hw dX7_obeys_193 ⟨rfl, rfl⟩
  refine lv_tableOut (tgt := 194) hx hb dX7_obeys_40 (x_out 8 (by decide) (by decide) (by intro q hq; match q, hq with | 0, _ => exact s_40_0 | 1, _ => exact s_40_1 | 2, _ => exact s_40_2 | 3, _ => exact s_40_3 | 4, _ => exact s_40_4 | 5, _ => exact s_40_5 | 6, _ => exact s_40_6 | 7, _ => exact s_40_7 | q + 8, hq => omega)) (by decide) ?_
  refine lv_bipush (v := -2) hx hb dX7_obeys_194 (by decide) ?_
  exact xr_i hQ E hr hw dX7_obeys_196 ⟨rfl, rfl⟩

set_option maxRecDepth 100000 in
theorem c_X7_obeys_ok (l : Launch) (g : xCfg) (h : Nat → Nat) (bads : Int32) (nos : Int32) (fuls : Int32) (cau : Int32) (whe : Int32) (cnt : Nat) (p : Nat) (ca : Int32) (fa : Int32) (od : Int32) (wo : Nat → Int32) (nu : Nat → Int32) (v : SV) (k : Nat) (hL1 : 1 ≤ v.1) (hL : v.1 ≤ 200) (hk : k < 24) (hb0 : obOk (wo k) (nu (k * 3 + 0)) (nu (k * 3 + 1)) (nu (k * 3 + 2)) v.1) : Ct l g yX7_obeys cX7_obeys 5 (some .int) (xR 6 200) [.ref (h 17), .int (nI k)] [(h 17, .inr (7, [.ref (h 0), .ref (h 15), .ref (h 11), .int bads, .int nos, .int fuls, .int cau, .int whe])), (h 11, .inr (3, [.ref (h 12), .int (nI cnt), .int (nI p), .int ca, .int fa, .int od, .ref (h 13), .ref (h 14)])), (h 13, .inl (g.2.1, 24, .inl wo)), (h 14, .inl (g.2.1, 72, .inl nu)), (h 0, .inr (2, [.ref (h 1), .ref (h 2), .ref (h 7), .ref (h 8)])), (h 2, .inr (5, [.int (nI v.1), .ref (h 3), .ref (h 4), .ref (h 5), .ref (h 6)])), (h 3, .inl (g.2.1, 200, .inl v.2.1)), (h 4, .inl (g.2.1, 200, .inl v.2.2.1)), (h 5, .inl (g.2.1, 200, .inl v.2.2.2.1)), (h 6, .inl (g.2.1, 7, .inl v.2.2.2.2.1)), (h 7, .inr (6, [.int (nI v.2.2.2.2.2.1), .int v.2.2.2.2.2.2.1, .int v.2.2.2.2.2.2.2.1, .int v.2.2.2.2.2.2.2.2.1, .int v.2.2.2.2.2.2.2.2.2.1, .int v.2.2.2.2.2.2.2.2.2.2.1, .int v.2.2.2.2.2.2.2.2.2.2.2.1, .int v.2.2.2.2.2.2.2.2.2.2.2.2]))] (is1 (some (.int (obR (wo k) (nu (k * 3 + 0)) (nu (k * 3 + 1)) (nu (k * 3 + 2)) v))) [(h 17, .inr (7, [.ref (h 0), .ref (h 15), .ref (h 11), .int bads, .int nos, .int fuls, .int cau, .int whe])), (h 11, .inr (3, [.ref (h 12), .int (nI cnt), .int (nI p), .int ca, .int fa, .int od, .ref (h 13), .ref (h 14)])), (h 13, .inl (g.2.1, 24, .inl wo)), (h 14, .inl (g.2.1, 72, .inl nu)), (h 0, .inr (2, [.ref (h 1), .ref (h 2), .ref (h 7), .ref (h 8)])), (h 2, .inr (5, [.int (nI ((obS (wo k) (nu (k * 3 + 0)) (nu (k * 3 + 1)) (nu (k * 3 + 2)) v).1)), .ref (h 3), .ref (h 4), .ref (h 5), .ref (h 6)])), (h 3, .inl (g.2.1, 200, .inl ((obS (wo k) (nu (k * 3 + 0)) (nu (k * 3 + 1)) (nu (k * 3 + 2)) v).2.1))), (h 4, .inl (g.2.1, 200, .inl ((obS (wo k) (nu (k * 3 + 0)) (nu (k * 3 + 1)) (nu (k * 3 + 2)) v).2.2.1))), (h 5, .inl (g.2.1, 200, .inl ((obS (wo k) (nu (k * 3 + 0)) (nu (k * 3 + 1)) (nu (k * 3 + 2)) v).2.2.2.1))), (h 6, .inl (g.2.1, 7, .inl ((obS (wo k) (nu (k * 3 + 0)) (nu (k * 3 + 1)) (nu (k * 3 + 2)) v).2.2.2.2.1))), (h 7, .inr (6, [.int (nI (((obS (wo k) (nu (k * 3 + 0)) (nu (k * 3 + 1)) (nu (k * 3 + 2)) v).2.2.2.2.2).1)), .int (((obS (wo k) (nu (k * 3 + 0)) (nu (k * 3 + 1)) (nu (k * 3 + 2)) v).2.2.2.2.2).2.1), .int (((obS (wo k) (nu (k * 3 + 0)) (nu (k * 3 + 1)) (nu (k * 3 + 2)) v).2.2.2.2.2).2.2.1), .int (((obS (wo k) (nu (k * 3 + 0)) (nu (k * 3 + 1)) (nu (k * 3 + 2)) v).2.2.2.2.2).2.2.2.1), .int (((obS (wo k) (nu (k * 3 + 0)) (nu (k * 3 + 1)) (nu (k * 3 + 2)) v).2.2.2.2.2).2.2.2.2.1), .int (((obS (wo k) (nu (k * 3 + 0)) (nu (k * 3 + 1)) (nu (k * 3 + 2)) v).2.2.2.2.2).2.2.2.2.2.1), .int (((obS (wo k) (nu (k * 3 + 0)) (nu (k * 3 + 1)) (nu (k * 3 + 2)) v).2.2.2.2.2).2.2.2.2.2.2.1), .int (((obS (wo k) (nu (k * 3 + 0)) (nu (k * 3 + 1)) (nu (k * 3 + 2)) v).2.2.2.2.2).2.2.2.2.2.2.2)]))]) := by
  unfold obR obS
  generalize ea : nu (k * 3 + 0) = a at hb0 ⊢
  generalize eb : nu (k * 3 + 1) = b at hb0 ⊢
  generalize ex : nu (k * 3 + 2) = x at hb0 ⊢
  rcases hb0 with ⟨e, h1, h2⟩ | ⟨e, ⟨h1, h2, h3⟩, h4⟩ | ⟨e, ⟨h1, h2, h3⟩, h4⟩ | ⟨e, h1⟩ | ⟨e, h1, h2⟩ | ⟨e, h1, h2⟩ | ⟨e, h1, h2⟩ | ⟨e, h1, h2⟩
  · obtain ⟨m, hm, rfl⟩ := nI_of (Int32.not_lt.mpr (Int32.le_trans (by decide : (0 : Int32) ≤ 5) h1))
    have q1 := (n_le (a := 5) (by decide) hm).mp h1
    have q2 := (n_le hm (b := 200) (by decide)).mp h2
    simp only [e, if_pos (rfl : (0 : Int32) = 0)]
    rw [nI_clamp hm]
    exact c_X7_obeys_0 l g h bads nos fuls cau whe cnt p ca fa od wo nu v k m hL1 hL hk e ea q1 q2
  · obtain ⟨a, ha, rfl⟩ := inL_of h1 hL1 hL
    obtain ⟨z, hz, rfl⟩ := inL_of h2 hL1 hL
    have q1 := (n_le (by omega) (by omega)).mp h3
    simp only [e, if_neg (by decide : ¬ (1 : Int32) = 0), if_pos (rfl : (1 : Int32) = 1)]
    rw [nI_clamp (by omega), nI_clamp (by omega)]
    rcases h4 with ⟨z0, q2, q3⟩ | ⟨z0, q2, q3⟩
    · subst ex; exact c_X7_obeys_1 l g h bads nos fuls cau whe cnt p ca fa od wo nu v k a z hL1 hL hk e ea eb hz q1 q2 q3
    · exact absurd z0 (by decide)
  · obtain ⟨a, ha, rfl⟩ := inL_of h1 hL1 hL
    obtain ⟨z, hz, rfl⟩ := inL_of h2 hL1 hL
    have q1 := (n_le (by omega) (by omega)).mp h3
    simp only [e, if_neg (by decide : ¬ (2 : Int32) = 0), if_neg (by decide : ¬ (2 : Int32) = 1), if_pos (rfl : (2 : Int32) = 2)]
    rw [nI_clamp (by omega), nI_clamp (by omega)]
    rcases h4 with ⟨z0, q2, q3⟩ | ⟨z0, q2, q3⟩
    · exact absurd z0 (by decide)
    · subst ex; exact c_X7_obeys_2 l g h bads nos fuls cau whe cnt p ca fa od wo nu v k a z hL1 hL hk e ea eb hz q1 q2 q3
  · obtain ⟨a, ha, rfl⟩ := inL_of h1 hL1 hL
    simp only [e, if_neg (by decide : ¬ (3 : Int32) = 0), if_neg (by decide : ¬ (3 : Int32) = 1), if_neg (by decide : ¬ (3 : Int32) = 2), if_pos (rfl : (3 : Int32) = 3)]
    rw [nI_clamp (by omega)]
    exact c_X7_obeys_3 l g h bads nos fuls cau whe cnt p ca fa od wo nu v k a hL1 hL hk e ea ha
  · simp only [e, if_neg (by decide : ¬ (4 : Int32) = 0), if_neg (by decide : ¬ (4 : Int32) = 1), if_neg (by decide : ¬ (4 : Int32) = 2), if_neg (by decide : ¬ (4 : Int32) = 3), if_pos (rfl : (4 : Int32) = 4)]
    subst ea; exact c_X7_obeys_4 l g h bads nos fuls cau whe cnt p ca fa od wo nu v k hL1 hL hk e h1 h2
  · simp only [e, if_neg (by decide : ¬ (5 : Int32) = 0), if_neg (by decide : ¬ (5 : Int32) = 1), if_neg (by decide : ¬ (5 : Int32) = 2), if_neg (by decide : ¬ (5 : Int32) = 3), if_neg (by decide : ¬ (5 : Int32) = 4), if_pos (rfl : (5 : Int32) = 5)]
    subst ea; exact c_X7_obeys_5 l g h bads nos fuls cau whe cnt p ca fa od wo nu v k hL1 hL hk e h1 h2
  · simp only [e, if_neg (by decide : ¬ (6 : Int32) = 0), if_neg (by decide : ¬ (6 : Int32) = 1), if_neg (by decide : ¬ (6 : Int32) = 2), if_neg (by decide : ¬ (6 : Int32) = 3), if_neg (by decide : ¬ (6 : Int32) = 4), if_neg (by decide : ¬ (6 : Int32) = 5), if_pos (rfl : (6 : Int32) = 6)]
    subst ea; exact c_X7_obeys_6 l g h bads nos fuls cau whe cnt p ca fa od wo nu v k hL1 hL hk e h1 h2
  · simp only [e, if_neg (by decide : ¬ (7 : Int32) = 0), if_neg (by decide : ¬ (7 : Int32) = 1), if_neg (by decide : ¬ (7 : Int32) = 2), if_neg (by decide : ¬ (7 : Int32) = 3), if_neg (by decide : ¬ (7 : Int32) = 4), if_neg (by decide : ¬ (7 : Int32) = 5), if_neg (by decide : ¬ (7 : Int32) = 6)]
    subst ea; exact c_X7_obeys_7 l g h bads nos fuls cau whe cnt p ca fa od wo nu v k hL1 hL hk e h1 h2
