
/-- a number kept to the cells -/
def kpt (L : Nat) (x : Int32) : Nat := if nI (L - 1) < x then L - 1 else x.toNatClampNeg
theorem clampN {x : Int32} : (if (0 : Int32) < x then x else 0) = nI x.toNatClampNeg := by
  by_cases h : x < 0
  · have h0 : x.toNatClampNeg = 0 := by
      have h1 : x.toInt < 0 := by simpa using Int32.lt_iff_toInt_lt.mp h
      show x.toInt.toNat = 0
      omega
    rw [h0, if_neg (fun z => absurd (Int32.lt_trans h z) (Int32.lt_irrefl))]
    rfl
  · obtain ⟨j, hj, rfl⟩ := nI_of h
    rw [nI_clamp hj]
    split
    · rfl
    · rename_i h1
      have : ¬ 0 < j := fun z => h1 ((n_lt (a := 0) (by decide) hj).mpr z)
      rw [show j = 0 by omega]
      rfl
theorem kpt_eq {L : Nat} {x : Int32} (hL : L ≤ 200) : (if (0 : Int32) < (if nI (L - 1) < x then nI (L - 1) else x) then (if nI (L - 1) < x then nI (L - 1) else x) else 0) = nI (kpt L x) := by
  rw [clampN]
  unfold kpt
  split
  · rw [nI_clamp (by omega)]
  · rfl
theorem kpt_lt {L : Nat} {x : Int32} (h : 1 ≤ L) (hL : L ≤ 200) : kpt L x < L := by
  unfold kpt
  split
  · omega
  · rename_i h1
    by_cases h0 : x < 0
    · have h2 : x.toInt < 0 := by simpa using Int32.lt_iff_toInt_lt.mp h0
      show x.toInt.toNat < L
      omega
    · obtain ⟨j, hj, rfl⟩ := nI_of h0
      rw [nI_clamp hj]
      have : ¬ L - 1 < j := fun z => h1 ((n_lt (by omega) hj).mpr z)
      omega
theorem minN {a b : Nat} (ha : a < 2 ^ 31) (hb : b < 2 ^ 31) : (if nI b < nI a then nI b else nI a) = nI (min a b) := by
  by_cases h : b < a
  · rw [if_pos ((n_lt hb ha).mpr h), Nat.min_eq_right (by omega)]
  · rw [if_neg (fun z => h ((n_lt hb ha).mp z)), Nat.min_eq_left (by omega)]
/-- SEEN -/
def seenN (L : Nat) (lo hi : Int32) (sq : Nat → Int32) : Nat := rtL 15 0 (lsq sq (kpt L (lo / 1000)) (kpt L ((hi + 999) / 1000) - kpt L (lo / 1000)))
/-- GAIN -/
def gnF (mo hd b pl gd : Int32) : Int32 := if mo = 3 then -dcl b gd else if mo = 2 then -(3 * b / 4) - gd else if 0 ≤ hd then (if hd = 0 then -gd else pl - gd) else -(b / 2) - gd
/-- a train: FRONT, SQUARE, MODE, LOW, HIGH, ALARMS, OVERRUNS, steps in all -/
abbrev TV : Type := Nat × Int32 × Int32 × Int32 × Int32 × Int32 × Int32 × Int32
def abv (L : Nat) (sq : Nat → Int32) (t : TV) : Int32 := nI (rtL 15 0 t.2.1) - nI (seenN L t.2.2.2.1 t.2.2.2.2.1 sq)
def supM (md ab : Int32) (st : Nat → Int32) : Int32 := if md = 3 then md else if ab ≤ st 6 then (if ab ≤ st 5 then (if ab ≤ st 4 then 0 else if md = 2 then 2 else 1) else 2) else 3
def supA (md ab al : Int32) (st : Nat → Int32) : Int32 := if md = 3 then al else if ab ≤ st 6 then al else al + 1
def supT (L : Nat) (st sq : Nat → Int32) (t : TV) : TV := (t.1, t.2.1, supM t.2.2.1 (abv L sq t) st, t.2.2.2.1, t.2.2.2.2.1, supA t.2.2.1 (abv L sq t) t.2.2.2.2.2.1 st, t.2.2.2.2.2.2.1, t.2.2.2.2.2.2.2)
def nqF (gr st : Nat → Int32) (hd : Int32) (t : TV) : Int32 := t.2.1 + gnF t.2.2.1 hd (st 0) (st 1) (gr t.1)
abbrev stpP (L : Nat) (gr st : Nat → Int32) (hd : Int32) (t : TV) : Prop := ¬ nqF gr st hd t ≤ 0 ∧ t.1 < L - 1
def goT (be st : Nat → Int32) (v : Int32) (t : TV) : TV := (t.1 + 1, v, t.2.2.1, if be (t.1 + 1) = 1 then nI (1000 * (t.1 + 1)) else t.2.2.2.1 + (1000 - st 3), if be (t.1 + 1) = 1 then nI (1000 * (t.1 + 1)) else t.2.2.2.2.1 + (1000 + st 3), t.2.2.2.2.2.1, t.2.2.2.2.2.2.1, t.2.2.2.2.2.2.2 + 1)
def hltT (o : Int32) (t : TV) : TV := (t.1, 0, t.2.2.1, t.2.2.2.1, t.2.2.2.2.1, t.2.2.2.2.2.1, o, t.2.2.2.2.2.2.2)
def stpT (L : Nat) (gr be st sq : Nat → Int32) (hd : Int32) (t : TV) : TV := if stpP L gr st hd t then supT L st sq (goT be st (nqF gr st hd t) t) else supT L st sq (hltT (if nqF gr st hd t ≤ 0 then t.2.2.2.2.2.2.1 else t.2.2.2.2.2.2.1 + 1) t)
theorem stpT_go {L : Nat} {gr be st sq : Nat → Int32} {hd : Int32} {t : TV} (h : stpP L gr st hd t) : stpT L gr be st sq hd t = supT L st sq (goT be st (nqF gr st hd t) t) := if_pos h
theorem stpT_end {L : Nat} {gr be st sq : Nat → Int32} {hd : Int32} {t : TV} (h : ¬ nqF gr st hd t ≤ 0) (h2 : L - 1 ≤ t.1) : stpT L gr be st sq hd t = supT L st sq (hltT (t.2.2.2.2.2.2.1 + 1) t) := by
  rw [stpT, if_neg (fun z => absurd z.2 (by omega)), if_neg h]
theorem stpT_0 {L : Nat} {gr be st sq : Nat → Int32} {hd : Int32} {t : TV} (h : nqF gr st hd t ≤ 0) : stpT L gr be st sq hd t = supT L st sq (hltT t.2.2.2.2.2.2.1 t) := by
  rw [stpT, if_neg (fun z => z.1 h), if_pos h]
theorem stpT_lt {L : Nat} {gr be st sq : Nat → Int32} {hd : Int32} {t : TV} (h : t.1 < L) : (stpT L gr be st sq hd t).1 < L := by
  unfold stpT
  split
  · rename_i h1
    show t.1 + 1 < L
    omega
  · exact h
/-- the HANDLE that the DRIVER takes -/
def mostF (L : Nat) (sq : Nat → Int32) (t : TV) : Int32 := lsq sq (kpt L (t.2.2.2.1 / 1000)) (min (kpt L ((t.2.2.2.2.1 + 999) / 1000) + 1) (L - 1) - kpt L (t.2.2.2.1 / 1000))
def drvH (L : Nat) (gr st sq : Nat → Int32) (t : TV) : Int32 := if mostF L sq t < t.2.1 + gnF 0 1 (st 0) (st 1) (gr t.1) then (if mostF L sq t < t.2.1 + gnF 0 0 (st 0) (st 1) (gr t.1) then -1 else 0) else 1
def drvT (L : Nat) (gr be st sq : Nat → Int32) : Nat → TV → Nat × TV
  | 0, t => (0, t)
  | k + 1, t => if stpP L gr st (drvH L gr st sq t) t then ((drvT L gr be st sq k (stpT L gr be st sq (drvH L gr st sq t) t)).1 + 1, (drvT L gr be st sq k (stpT L gr be st sq (drvH L gr st sq t) t)).2) else (0, stpT L gr be st sq (drvH L gr st sq t) t)
theorem drvT_no {L : Nat} {gr be st sq : Nat → Int32} {k : Nat} {t : TV} (h : ¬ stpP L gr st (drvH L gr st sq t) t) : drvT L gr be st sq (k + 1) t = (0, stpT L gr be st sq (drvH L gr st sq t) t) := by rw [drvT, if_neg h]
theorem drvT_go {L : Nat} {gr be st sq : Nat → Int32} {k : Nat} {t : TV} (h : stpP L gr st (drvH L gr st sq t) t) : drvT L gr be st sq (k + 1) t = ((drvT L gr be st sq k (stpT L gr be st sq (drvH L gr st sq t) t)).1 + 1, (drvT L gr be st sq k (stpT L gr be st sq (drvH L gr st sq t) t)).2) := by rw [drvT, if_pos h]
def plT (x : Nat) (v : Int32) (t : TV) : TV := (x, v * v, 0, nI (1000 * x), nI (1000 * x), t.2.2.2.2.2.1, t.2.2.2.2.2.2.1, t.2.2.2.2.2.2.2)
def rszT (t : TV) : TV := (0, 0, 0, 0, 0, t.2.2.2.2.2.1, t.2.2.2.2.2.2.1, t.2.2.2.2.2.2.2)
def relT (t : TV) : TV := (t.1, t.2.1, 0, t.2.2.2.1, t.2.2.2.2.1, t.2.2.2.2.2.1, t.2.2.2.2.2.2.1, t.2.2.2.2.2.2.2)
/-- how many of the first x cells have the root v -/
def cntP (sq : Nat → Int32) (v : Int32) : Nat → Nat
  | 0 => 0
  | x + 1 => cntP sq v x + if nI (rtL 15 0 (sq x)) = v then 1 else 0
theorem cntP_y {sq : Nat → Int32} {v : Int32} {x : Nat} (h : nI (rtL 15 0 (sq x)) = v) : cntP sq v (x + 1) = cntP sq v x + 1 := by rw [cntP, if_pos h]
theorem cntP_n {sq : Nat → Int32} {v : Int32} {x : Nat} (h : ¬ nI (rtL 15 0 (sq x)) = v) : cntP sq v (x + 1) = cntP sq v x := by rw [cntP, if_neg h, Nat.add_zero]
theorem nI_nn {L : Nat} {z : Int32} (h : L < 2 ^ 31) (hz : z < 0) : ¬ nI L = z := fun e => absurd (e ▸ hz : nI L < 0) (nI_pos h)
/-- what train() tells, cell() tells -/
def trvF (L : Nat) (gr st sq : Nat → Int32) (t : TV) : Nat → Int32
  | 0 => nI t.1
  | 1 => t.2.1
  | 2 => nI (rtL 15 0 t.2.1)
  | 3 => t.2.2.1
  | 4 => t.2.2.2.1
  | 5 => t.2.2.2.2.1
  | 6 => nI (kpt L (t.2.2.2.1 / 1000))
  | 7 => nI (kpt L ((t.2.2.2.2.1 + 999) / 1000))
  | 8 => nI (seenN L t.2.2.2.1 t.2.2.2.2.1 sq)
  | 9 => t.2.2.2.2.2.1
  | 10 => t.2.2.2.2.2.2.1
  | 11 => drvH L gr st sq t + 1
  | _ => t.2.2.2.2.2.2.2
def cevF (ce gr be fo : Nat → Int32) (b : Int32) (x : Nat) : Nat → Int32
  | 0 => ce x
  | 1 => gr x + 20
  | 2 => be x
  | 3 => dcl b (gr x)
  | _ => fo x

set_option maxRecDepth 100000 in
set_option maxHeartbeats 4000000 in
theorem c_X2_kept (l : Launch) (g : xCfg) (h : Nat → Nat) (L : Nat) (x : Int32) (hL1 : 1 ≤ L) (hL : L ≤ 200) : Ct l g yX2_kept cX2_kept 2 (some .int) (xR 1 14) [.ref (h 0), .int x] [(h 0, .inr (2, [.ref (h 1), .ref (h 2), .ref (h 7), .ref (h 8)])), (h 2, .inr (5, [.int (nI L), .ref (h 3), .ref (h 4), .ref (h 5), .ref (h 6)]))] (is1 (some (.int (nI (kpt L x)))) [(h 0, .inr (2, [.ref (h 1), .ref (h 2), .ref (h 7), .ref (h 8)])), (h 2, .inr (5, [.int (nI L), .ref (h 3), .ref (h 4), .ref (h 5), .ref (h 6)]))]) := by
  refine Ct.walk (by decide) (Nat.le_of_ble_eq_true rfl) ?_
  intro p0 e0 s0 m0 below meth c0 A0 ls Q hQ E hr hnm hw hl
  have hx := E.x
  have hb := E.b
  have hl : lv_has ls 2 [(0, .ref (h 0)), (1, .int x)] := hl
  refine lv_iconst (v := 0) hx hb dX2_kept_0 (by decide) ?_
  refine lv_iload_n hx hb dX2_kept_1 rfl (lv_at hl 1 rfl) ?_
  refine lv_aload_n hx hb dX2_kept_2 rfl (lv_at hl 0 rfl) ?_
  refine x_get E hw kf_X2_22 0 rfl rfl dX2_kept_3 ?_
  refine x_getN E hw kf_X2_74 1 rfl rfl dX2_kept_6 ?_
  refine lv_iconst (v := 1) hx hb dX2_kept_9 (by decide) ?_
  refine xn_sub hx hb L 1 rfl rfl (by omega) dX2_kept_10 ?_
  refine x_min E km_X2_129 hl.1 (Nat.le_of_ble_eq_true rfl) (Nat.le_of_ble_eq_true rfl) ⟨Nat.zero_le _, Nat.zero_le _⟩ dX2_kept_11 ?_
  refine x_max E km_X2_149 hl.1 (Nat.le_of_ble_eq_true rfl) (Nat.le_of_ble_eq_true rfl) ⟨Nat.zero_le _, Nat.zero_le _⟩ dX2_kept_14 ?_
  exact xr_i hQ E hr hw dX2_kept_17 ⟨congrArg (fun z => some (Value.int z)) (kpt_eq hL), rfl⟩

set_option maxRecDepth 100000 in
set_option maxHeartbeats 4000000 in
theorem c_X2_spanFirst (l : Launch) (g : xCfg) (h : Nat → Nat) (L : Nat) (t : TV) (hL1 : 1 ≤ L) (hL : L ≤ 200) : Ct l g yX2_spanFirst cX2_spanFirst 1 (some .int) (xR 2 35) [.ref (h 0)] [(h 0, .inr (2, [.ref (h 1), .ref (h 2), .ref (h 7), .ref (h 8)])), (h 2, .inr (5, [.int (nI L), .ref (h 3), .ref (h 4), .ref (h 5), .ref (h 6)])), (h 7, .inr (6, [.int (nI t.1), .int t.2.1, .int t.2.2.1, .int t.2.2.2.1, .int t.2.2.2.2.1, .int t.2.2.2.2.2.1, .int t.2.2.2.2.2.2.1, .int t.2.2.2.2.2.2.2]))] (is1 (some (.int (nI (kpt L (t.2.2.2.1 / 1000))))) [(h 0, .inr (2, [.ref (h 1), .ref (h 2), .ref (h 7), .ref (h 8)])), (h 2, .inr (5, [.int (nI L), .ref (h 3), .ref (h 4), .ref (h 5), .ref (h 6)])), (h 7, .inr (6, [.int (nI t.1), .int t.2.1, .int t.2.2.1, .int t.2.2.2.1, .int t.2.2.2.2.1, .int t.2.2.2.2.2.1, .int t.2.2.2.2.2.2.1, .int t.2.2.2.2.2.2.2]))]) := by
  refine Ct.walk (by decide) (Nat.le_of_ble_eq_true rfl) ?_
  intro p0 e0 s0 m0 below meth c0 A0 ls Q hQ E hr hnm hw hl
  have hx := E.x
  have hb := E.b
  have hl : lv_has ls 1 [(0, .ref (h 0))] := hl
  refine lv_aload_n hx hb dX2_spanFirst_0 rfl (lv_at hl 0 rfl) ?_
  refine lv_aload_n hx hb dX2_spanFirst_1 rfl (lv_at hl 0 rfl) ?_
  refine x_get E hw kf_X2_27 0 rfl rfl dX2_spanFirst_2 ?_
  refine x_getN E hw kf_X2_140 2 rfl rfl dX2_spanFirst_5 ?_
  refine lv_sipush (v := 1000) hx hb dX2_spanFirst_8 (by decide) ?_
  refine lv_idiv hx hb dX2_spanFirst_11 (by decide) ?_
  refine x_go (ws' := [(h 0, .inr (2, [.ref (h 1), .ref (h 2), .ref (h 7), .ref (h 8)])), (h 2, .inr (5, [.int (nI L), .ref (h 3), .ref (h 4), .ref (h 5), .ref (h 6)])), (h 7, .inr (6, [.int (nI t.1), .int t.2.1, .int t.2.2.1, .int t.2.2.2.1, .int t.2.2.2.2.1, .int t.2.2.2.2.2.1, .int t.2.2.2.2.2.2.1, .int t.2.2.2.2.2.2.2]))]) (st1 := [.int (nI (kpt L (t.2.2.2.1 / 1000)))]) E hw [0, 1] rfl (x_runV (rest := []) E hw (c_X2_kept l g h L (t.2.2.2.1 / 1000) (by omega) (by omega)) km_X2_143 kv_X2_kept [0, 1] rfl (by decide) 0 rfl hl.1 rfl rfl (Nat.le_of_ble_eq_true rfl) ⟨Nat.le_of_ble_eq_true rfl, Nat.le_of_ble_eq_true rfl⟩ ⟨Nat.zero_le _, Nat.zero_le _⟩ dX2_spanFirst_12) rfl rfl rfl (fun H locs hw => ?_)
  exact xr_i hQ E hr hw dX2_spanFirst_15 ⟨rfl, rfl⟩

set_option maxRecDepth 100000 in
set_option maxHeartbeats 4000000 in
theorem c_X2_spanLast (l : Launch) (g : xCfg) (h : Nat → Nat) (L : Nat) (t : TV) (hL1 : 1 ≤ L) (hL : L ≤ 200) : Ct l g yX2_spanLast cX2_spanLast 1 (some .int) (xR 2 35) [.ref (h 0)] [(h 0, .inr (2, [.ref (h 1), .ref (h 2), .ref (h 7), .ref (h 8)])), (h 2, .inr (5, [.int (nI L), .ref (h 3), .ref (h 4), .ref (h 5), .ref (h 6)])), (h 7, .inr (6, [.int (nI t.1), .int t.2.1, .int t.2.2.1, .int t.2.2.2.1, .int t.2.2.2.2.1, .int t.2.2.2.2.2.1, .int t.2.2.2.2.2.2.1, .int t.2.2.2.2.2.2.2]))] (is1 (some (.int (nI (kpt L ((t.2.2.2.2.1 + 999) / 1000))))) [(h 0, .inr (2, [.ref (h 1), .ref (h 2), .ref (h 7), .ref (h 8)])), (h 2, .inr (5, [.int (nI L), .ref (h 3), .ref (h 4), .ref (h 5), .ref (h 6)])), (h 7, .inr (6, [.int (nI t.1), .int t.2.1, .int t.2.2.1, .int t.2.2.2.1, .int t.2.2.2.2.1, .int t.2.2.2.2.2.1, .int t.2.2.2.2.2.2.1, .int t.2.2.2.2.2.2.2]))]) := by
  refine Ct.walk (by decide) (Nat.le_of_ble_eq_true rfl) ?_
  intro p0 e0 s0 m0 below meth c0 A0 ls Q hQ E hr hnm hw hl
  have hx := E.x
  have hb := E.b
  have hl : lv_has ls 1 [(0, .ref (h 0))] := hl
  refine lv_aload_n hx hb dX2_spanLast_0 rfl (lv_at hl 0 rfl) ?_
  refine lv_aload_n hx hb dX2_spanLast_1 rfl (lv_at hl 0 rfl) ?_
  refine x_get E hw kf_X2_27 0 rfl rfl dX2_spanLast_2 ?_
  refine x_getN E hw kf_X2_146 2 rfl rfl dX2_spanLast_5 ?_
  refine lv_sipush (v := 999) hx hb dX2_spanLast_8 (by decide) ?_
  refine lv_iadd hx hb dX2_spanLast_11 ?_
  refine lv_sipush (v := 1000) hx hb dX2_spanLast_12 (by decide) ?_
  refine lv_idiv hx hb dX2_spanLast_15 (by decide) ?_
  refine x_go (ws' := [(h 0, .inr (2, [.ref (h 1), .ref (h 2), .ref (h 7), .ref (h 8)])), (h 2, .inr (5, [.int (nI L), .ref (h 3), .ref (h 4), .ref (h 5), .ref (h 6)])), (h 7, .inr (6, [.int (nI t.1), .int t.2.1, .int t.2.2.1, .int t.2.2.2.1, .int t.2.2.2.2.1, .int t.2.2.2.2.2.1, .int t.2.2.2.2.2.2.1, .int t.2.2.2.2.2.2.2]))]) (st1 := [.int (nI (kpt L ((t.2.2.2.2.1 + 999) / 1000)))]) E hw [0, 1] rfl (x_runV (rest := []) E hw (c_X2_kept l g h L ((t.2.2.2.2.1 + 999) / 1000) (by omega) (by omega)) km_X2_143 kv_X2_kept [0, 1] rfl (by decide) 0 rfl hl.1 rfl rfl (Nat.le_of_ble_eq_true rfl) ⟨Nat.le_of_ble_eq_true rfl, Nat.le_of_ble_eq_true rfl⟩ ⟨Nat.zero_le _, Nat.zero_le _⟩ dX2_spanLast_16) rfl rfl rfl (fun H locs hw => ?_)
  exact xr_i hQ E hr hw dX2_spanLast_19 ⟨rfl, rfl⟩

set_option maxRecDepth 100000 in
set_option maxHeartbeats 4000000 in
theorem c_X2_seen (l : Launch) (g : xCfg) (h : Nat → Nat) (L : Nat) (t : TV) (sq : Nat → Int32) (hL1 : 1 ≤ L) (hL : L ≤ 200) : Ct l g yX2_seen cX2_seen 1 (some .int) (xR 3 55) [.ref (h 0)] [(h 0, .inr (2, [.ref (h 1), .ref (h 2), .ref (h 7), .ref (h 8)])), (h 2, .inr (5, [.int (nI L), .ref (h 3), .ref (h 4), .ref (h 5), .ref (h 6)])), (h 7, .inr (6, [.int (nI t.1), .int t.2.1, .int t.2.2.1, .int t.2.2.2.1, .int t.2.2.2.2.1, .int t.2.2.2.2.2.1, .int t.2.2.2.2.2.2.1, .int t.2.2.2.2.2.2.2])), (h 8, .inr (0, [.ref (h 9), .ref (h 10)])), (h 10, .inl (g.2.1, 200, .inl sq))] (is1 (some (.int (nI (seenN L t.2.2.2.1 t.2.2.2.2.1 sq)))) [(h 0, .inr (2, [.ref (h 1), .ref (h 2), .ref (h 7), .ref (h 8)])), (h 2, .inr (5, [.int (nI L), .ref (h 3), .ref (h 4), .ref (h 5), .ref (h 6)])), (h 7, .inr (6, [.int (nI t.1), .int t.2.1, .int t.2.2.1, .int t.2.2.2.1, .int t.2.2.2.2.1, .int t.2.2.2.2.2.1, .int t.2.2.2.2.2.2.1, .int t.2.2.2.2.2.2.2])), (h 8, .inr (0, [.ref (h 9), .ref (h 10)])), (h 10, .inl (g.2.1, 200, .inl sq))]) := by
  refine Ct.walk (by decide) (Nat.le_of_ble_eq_true rfl) ?_
  intro p0 e0 s0 m0 below meth c0 A0 ls Q hQ E hr hnm hw hl
  have hx := E.x
  have hb := E.b
  have hl : lv_has ls 1 [(0, .ref (h 0))] := hl
  refine lv_aload_n hx hb dX2_seen_0 rfl (lv_at hl 0 rfl) ?_
  refine x_get E hw kf_X2_31 0 rfl rfl dX2_seen_1 ?_
  refine lv_aload_n hx hb dX2_seen_4 rfl (lv_at hl 0 rfl) ?_
  refine x_go (ws' := [(h 0, .inr (2, [.ref (h 1), .ref (h 2), .ref (h 7), .ref (h 8)])), (h 2, .inr (5, [.int (nI L), .ref (h 3), .ref (h 4), .ref (h 5), .ref (h 6)])), (h 7, .inr (6, [.int (nI t.1), .int t.2.1, .int t.2.2.1, .int t.2.2.2.1, .int t.2.2.2.2.1, .int t.2.2.2.2.2.1, .int t.2.2.2.2.2.2.1, .int t.2.2.2.2.2.2.2])), (h 8, .inr (0, [.ref (h 9), .ref (h 10)])), (h 10, .inl (g.2.1, 200, .inl sq))]) (st1 := [.int (nI (kpt L (t.2.2.2.1 / 1000))), .ref (h 8)]) E hw [0, 1, 2] rfl (x_runV (rest := [.ref (h 8)]) E hw (c_X2_spanFirst l g h L t (by omega) (by omega)) km_X2_134 kv_X2_spanFirst [0, 1, 2] rfl (by decide) 0 rfl hl.1 rfl rfl (Nat.le_of_ble_eq_true rfl) ⟨Nat.le_of_ble_eq_true rfl, Nat.le_of_ble_eq_true rfl⟩ ⟨Nat.zero_le _, Nat.zero_le _⟩ dX2_seen_5) rfl rfl rfl (fun H locs hw => ?_)
  refine lv_aload_n hx hb dX2_seen_8 rfl (lv_at hl 0 rfl) ?_
  refine x_go (ws' := [(h 0, .inr (2, [.ref (h 1), .ref (h 2), .ref (h 7), .ref (h 8)])), (h 2, .inr (5, [.int (nI L), .ref (h 3), .ref (h 4), .ref (h 5), .ref (h 6)])), (h 7, .inr (6, [.int (nI t.1), .int t.2.1, .int t.2.2.1, .int t.2.2.2.1, .int t.2.2.2.2.1, .int t.2.2.2.2.2.1, .int t.2.2.2.2.2.2.1, .int t.2.2.2.2.2.2.2])), (h 8, .inr (0, [.ref (h 9), .ref (h 10)])), (h 10, .inl (g.2.1, 200, .inl sq))]) (st1 := [.int (nI (kpt L ((t.2.2.2.2.1 + 999) / 1000))), .int (nI (kpt L (t.2.2.2.1 / 1000))), .ref (h 8)]) E hw [0, 1, 2] rfl (x_runV (rest := [.int (nI (kpt L (t.2.2.2.1 / 1000))), .ref (h 8)]) E hw (c_X2_spanLast l g h L t (by omega) (by omega)) km_X2_126 kv_X2_spanLast [0, 1, 2] rfl (by decide) 0 rfl hl.1 rfl rfl (Nat.le_of_ble_eq_true rfl) ⟨Nat.le_of_ble_eq_true rfl, Nat.le_of_ble_eq_true rfl⟩ ⟨Nat.zero_le _, Nat.zero_le _⟩ dX2_seen_9) rfl rfl rfl (fun H locs hw => ?_)
  refine x_go (ws' := [(h 0, .inr (2, [.ref (h 1), .ref (h 2), .ref (h 7), .ref (h 8)])), (h 2, .inr (5, [.int (nI L), .ref (h 3), .ref (h 4), .ref (h 5), .ref (h 6)])), (h 7, .inr (6, [.int (nI t.1), .int t.2.1, .int t.2.2.1, .int t.2.2.2.1, .int t.2.2.2.2.1, .int t.2.2.2.2.2.1, .int t.2.2.2.2.2.2.1, .int t.2.2.2.2.2.2.2])), (h 8, .inr (0, [.ref (h 9), .ref (h 10)])), (h 10, .inl (g.2.1, 200, .inl sq))]) (st1 := [.int (lsq sq (kpt L (t.2.2.2.1 / 1000)) ((kpt L ((t.2.2.2.2.1 + 999) / 1000)) - (kpt L (t.2.2.2.1 / 1000))))]) E hw [3, 4] rfl (x_runVN (rest := []) E hw (c_X0_leastSquare l g h sq (kpt L (t.2.2.2.1 / 1000)) (kpt L ((t.2.2.2.2.1 + 999) / 1000)) (Nat.lt_of_lt_of_le (kpt_lt hL1 hL) hL) (Nat.lt_of_lt_of_le (kpt_lt hL1 hL) hL)) km_X2_137 kv_X0_leastSquare [3, 4] rfl (by decide) 3 rfl hl.1 rfl rfl (Nat.le_of_ble_eq_true rfl) ⟨Nat.le_of_ble_eq_true rfl, Nat.le_of_ble_eq_true rfl⟩ ⟨Nat.zero_le _, Nat.zero_le _⟩ dX2_seen_12) rfl rfl rfl (fun H locs hw => ?_)
  refine x_go (ws' := [(h 0, .inr (2, [.ref (h 1), .ref (h 2), .ref (h 7), .ref (h 8)])), (h 2, .inr (5, [.int (nI L), .ref (h 3), .ref (h 4), .ref (h 5), .ref (h 6)])), (h 7, .inr (6, [.int (nI t.1), .int t.2.1, .int t.2.2.1, .int t.2.2.2.1, .int t.2.2.2.2.1, .int t.2.2.2.2.2.1, .int t.2.2.2.2.2.2.1, .int t.2.2.2.2.2.2.2])), (h 8, .inr (0, [.ref (h 9), .ref (h 10)])), (h 10, .inl (g.2.1, 200, .inl sq))]) (st1 := [.int (nI (rtL 15 0 (lsq sq (kpt L (t.2.2.2.1 / 1000)) ((kpt L ((t.2.2.2.2.1 + 999) / 1000)) - (kpt L (t.2.2.2.1 / 1000))))))]) E hw [] rfl (x_runSN (rest := []) E hw (c_X7_root l g (lsq sq (kpt L (t.2.2.2.1 / 1000)) ((kpt L ((t.2.2.2.2.1 + 999) / 1000)) - (kpt L (t.2.2.2.1 / 1000)))) ) km_X2_81 ks_X7_root [] rfl (by decide) hl.1 rfl rfl (Nat.le_of_ble_eq_true rfl) ⟨Nat.le_of_ble_eq_true rfl, Nat.le_of_ble_eq_true rfl⟩ ⟨Nat.zero_le _, Nat.zero_le _⟩ dX2_seen_15) rfl rfl rfl (fun H locs hw => ?_)
  exact xr_i hQ E hr hw dX2_seen_18 ⟨rfl, rfl⟩

set_option maxRecDepth 100000 in
set_option maxHeartbeats 4000000 in
theorem c_X2_gain (l : Launch) (g : xCfg) (h : Nat → Nat) (L : Nat) (gr : Nat → Int32) (st : Nat → Int32) (t : TV) (mo : Int32) (hd : Int32) (hf : t.1 < 200) : Ct l g yX2_gain cX2_gain 5 (some .int) (xR 2 34) [.ref (h 0), .int mo, .int hd] [(h 0, .inr (2, [.ref (h 1), .ref (h 2), .ref (h 7), .ref (h 8)])), (h 2, .inr (5, [.int (nI L), .ref (h 3), .ref (h 4), .ref (h 5), .ref (h 6)])), (h 4, .inl (g.2.1, 200, .inl gr)), (h 6, .inl (g.2.1, 7, .inl st)), (h 7, .inr (6, [.int (nI t.1), .int t.2.1, .int t.2.2.1, .int t.2.2.2.1, .int t.2.2.2.2.1, .int t.2.2.2.2.2.1, .int t.2.2.2.2.2.2.1, .int t.2.2.2.2.2.2.2]))] (is1 (some (.int (gnF mo hd (st 0) (st 1) (gr t.1)))) [(h 0, .inr (2, [.ref (h 1), .ref (h 2), .ref (h 7), .ref (h 8)])), (h 2, .inr (5, [.int (nI L), .ref (h 3), .ref (h 4), .ref (h 5), .ref (h 6)])), (h 4, .inl (g.2.1, 200, .inl gr)), (h 6, .inl (g.2.1, 7, .inl st)), (h 7, .inr (6, [.int (nI t.1), .int t.2.1, .int t.2.2.1, .int t.2.2.2.1, .int t.2.2.2.2.1, .int t.2.2.2.2.2.1, .int t.2.2.2.2.2.2.1, .int t.2.2.2.2.2.2.2]))]) := by
  refine Ct.walk (by decide) (Nat.le_of_ble_eq_true rfl) ?_
  intro p0 e0 s0 m0 below meth c0 A0 ls Q hQ E hr hnm hw hl
  have hx := E.x
  have hb := E.b
  have hl : lv_has ls 5 [(0, .ref (h 0)), (1, .int mo), (2, .int hd)] := hl
  refine lv_aload_n hx hb dX2_gain_0 rfl (lv_at hl 0 rfl) ?_
  refine x_get E hw kf_X2_22 0 rfl rfl dX2_gain_1 ?_
  refine x_getN E hw kf_X2_117 1 rfl rfl dX2_gain_4 ?_
  refine lv_iconst (v := 0) hx hb dX2_gain_7 (by decide) ?_
  refine x_ld (v := st 0) E hw 3 rfl 0 rfl (by omega) (by decide) rfl dX2_gain_8 ?_
  refine lv_istore_n (lv' := [(3, .int (st 0)), (0, .ref (h 0)), (1, .int mo), (2, .int hd)]) hx hb dX2_gain_9 rfl hl (by decide) rfl (fun ls hl => ?_)
  refine lv_aload_n hx hb dX2_gain_10 rfl (lv_at hl 1 rfl) ?_
  refine x_get E hw kf_X2_22 0 rfl rfl dX2_gain_11 ?_
  refine x_getN E hw kf_X2_62 1 rfl rfl dX2_gain_14 ?_
  refine lv_aload_n hx hb dX2_gain_17 rfl (lv_at hl 1 rfl) ?_
  refine x_get E hw kf_X2_27 0 rfl rfl dX2_gain_18 ?_
  refine x_getN E hw kf_X2_108 4 rfl rfl dX2_gain_21 ?_
  refine x_ld (v := gr t.1) E hw 2 rfl t.1 rfl (by omega) (by decide) rfl dX2_gain_24 ?_
  refine lv_istore (lv' := [(4, .int (gr t.1)), (3, .int (st 0)), (0, .ref (h 0)), (1, .int mo), (2, .int hd)]) hx hb dX2_gain_25 hl (by decide) rfl (fun ls hl => ?_)
  refine lv_iload_n hx hb dX2_gain_27 rfl (lv_at hl 3 rfl) ?_
  refine lv_iconst (v := 3) hx hb dX2_gain_28 (by decide) ?_
  refine lv_icmp_ne (tgt := 48) hx hb dX2_gain_29 (by decide) (fun c_1 => ?_) (fun c_1 => ?_)
  · refine lv_iload_n hx hb dX2_gain_48 rfl (lv_at hl 3 rfl) ?_
    refine lv_iconst (v := 2) hx hb dX2_gain_49 (by decide) ?_
    refine lv_icmp_ne (tgt := 63) hx hb dX2_gain_50 (by decide) (fun c_2 => ?_) (fun c_2 => ?_)
    · refine lv_iload_n hx hb dX2_gain_63 rfl (lv_at hl 4 rfl) ?_
      refine lv_if_ge (tgt := 75) hx hb dX2_gain_64 (by decide) (fun c_3 => ?_) (fun c_3 => ?_)
      · refine lv_iload_n hx hb dX2_gain_75 rfl (lv_at hl 4 rfl) ?_
        refine lv_if_ne (tgt := 85) hx hb dX2_gain_76 (by decide) (fun c_4 => ?_) (fun c_4 => ?_)
        · refine lv_aload_n hx hb dX2_gain_85 rfl (lv_at hl 2 rfl) ?_
          refine x_get E hw kf_X2_22 0 rfl rfl dX2_gain_86 ?_
          refine x_getN E hw kf_X2_117 1 rfl rfl dX2_gain_89 ?_
          refine lv_iconst (v := 1) hx hb dX2_gain_92 (by decide) ?_
          refine x_ld (v := st 1) E hw 3 rfl 1 rfl (by omega) (by decide) rfl dX2_gain_93 ?_
          refine lv_iload hx hb dX2_gain_94 (lv_at hl 0 rfl) ?_
          refine lv_isub hx hb dX2_gain_96 ?_
          exact xr_i hQ E hr hw dX2_gain_97 ⟨congrArg (fun z => some (Value.int z)) (by simp only [gnF, if_neg c_1, if_neg c_2, if_pos c_3, if_neg c_4]), rfl⟩
        · refine lv_iload hx hb dX2_gain_79 (lv_at hl 0 rfl) ?_
          refine lv_ineg hx hb dX2_gain_81 ?_
          refine lv_goto (tgt := 97) hx hb dX2_gain_82 (by decide) ?_
          exact xr_i hQ E hr hw dX2_gain_97 ⟨congrArg (fun z => some (Value.int z)) (by simp only [gnF, if_neg c_1, if_neg c_2, if_pos c_3, if_pos c_4]), rfl⟩
      · refine lv_iload_n hx hb dX2_gain_67 rfl (lv_at hl 1 rfl) ?_
        refine lv_iconst (v := 2) hx hb dX2_gain_68 (by decide) ?_
        refine lv_idiv hx hb dX2_gain_69 (by decide) ?_
        refine lv_ineg hx hb dX2_gain_70 ?_
        refine lv_iload hx hb dX2_gain_71 (lv_at hl 0 rfl) ?_
        refine lv_isub hx hb dX2_gain_73 ?_
        exact xr_i hQ E hr hw dX2_gain_74 ⟨congrArg (fun z => some (Value.int z)) (by simp only [gnF, if_neg c_1, if_neg c_2, if_neg c_3]), rfl⟩
    · refine lv_iconst (v := 3) hx hb dX2_gain_53 (by decide) ?_
      refine lv_iload_n hx hb dX2_gain_54 rfl (lv_at hl 1 rfl) ?_
      refine lv_imul hx hb dX2_gain_55 ?_
      refine lv_iconst (v := 4) hx hb dX2_gain_56 (by decide) ?_
      refine lv_idiv hx hb dX2_gain_57 (by decide) ?_
      refine lv_ineg hx hb dX2_gain_58 ?_
      refine lv_iload hx hb dX2_gain_59 (lv_at hl 0 rfl) ?_
      refine lv_isub hx hb dX2_gain_61 ?_
      exact xr_i hQ E hr hw dX2_gain_62 ⟨congrArg (fun z => some (Value.int z)) (by simp only [gnF, if_neg c_1, if_pos c_2]), rfl⟩
  · refine lv_aload_n hx hb dX2_gain_32 rfl (lv_at hl 2 rfl) ?_
    refine x_get E hw kf_X2_22 0 rfl rfl dX2_gain_33 ?_
    refine lv_aload_n hx hb dX2_gain_36 rfl (lv_at hl 2 rfl) ?_
    refine x_get E hw kf_X2_27 0 rfl rfl dX2_gain_37 ?_
    refine x_getN E hw kf_X2_108 4 rfl rfl dX2_gain_40 ?_
    refine x_go (ws' := [(h 0, .inr (2, [.ref (h 1), .ref (h 2), .ref (h 7), .ref (h 8)])), (h 2, .inr (5, [.int (nI L), .ref (h 3), .ref (h 4), .ref (h 5), .ref (h 6)])), (h 4, .inl (g.2.1, 200, .inl gr)), (h 6, .inl (g.2.1, 7, .inl st)), (h 7, .inr (6, [.int (nI t.1), .int t.2.1, .int t.2.2.1, .int t.2.2.2.1, .int t.2.2.2.2.1, .int t.2.2.2.2.2.1, .int t.2.2.2.2.2.2.1, .int t.2.2.2.2.2.2.2]))]) (st1 := [.int (dcl (st 0) (gr t.1))]) E hw [1, 2, 3] rfl (x_runVN (rest := []) E hw (c_X5_decel l g h L gr st t.1 (by omega)) km_X2_68 kv_X5_decel [1, 2, 3] rfl (by decide) 1 rfl hl.1 rfl rfl (Nat.le_of_ble_eq_true rfl) ⟨Nat.le_of_ble_eq_true rfl, Nat.le_of_ble_eq_true rfl⟩ ⟨Nat.zero_le _, Nat.zero_le _⟩ dX2_gain_43) rfl rfl rfl (fun H locs hw => ?_)
    refine lv_ineg hx hb dX2_gain_46 ?_
    exact xr_i hQ E hr hw dX2_gain_47 ⟨congrArg (fun z => some (Value.int z)) (by simp only [gnF, if_pos c_1]), rfl⟩

set_option maxRecDepth 100000 in
set_option maxHeartbeats 4000000 in
theorem c_X2_supervises (l : Launch) (g : xCfg) (h : Nat → Nat) (L : Nat) (st : Nat → Int32) (t : TV) (sq : Nat → Int32) (hL1 : 1 ≤ L) (hL : L ≤ 200) : Ct l g yX2_supervises cX2_supervises 2 none (xR 4 75) [.ref (h 0)] [(h 0, .inr (2, [.ref (h 1), .ref (h 2), .ref (h 7), .ref (h 8)])), (h 2, .inr (5, [.int (nI L), .ref (h 3), .ref (h 4), .ref (h 5), .ref (h 6)])), (h 6, .inl (g.2.1, 7, .inl st)), (h 7, .inr (6, [.int (nI t.1), .int t.2.1, .int t.2.2.1, .int t.2.2.2.1, .int t.2.2.2.2.1, .int t.2.2.2.2.2.1, .int t.2.2.2.2.2.2.1, .int t.2.2.2.2.2.2.2])), (h 8, .inr (0, [.ref (h 9), .ref (h 10)])), (h 10, .inl (g.2.1, 200, .inl sq))] (is1 none [(h 0, .inr (2, [.ref (h 1), .ref (h 2), .ref (h 7), .ref (h 8)])), (h 2, .inr (5, [.int (nI L), .ref (h 3), .ref (h 4), .ref (h 5), .ref (h 6)])), (h 6, .inl (g.2.1, 7, .inl st)), (h 7, .inr (6, [.int (nI ((supT L st sq t).1)), .int ((supT L st sq t).2.1), .int ((supT L st sq t).2.2.1), .int ((supT L st sq t).2.2.2.1), .int ((supT L st sq t).2.2.2.2.1), .int ((supT L st sq t).2.2.2.2.2.1), .int ((supT L st sq t).2.2.2.2.2.2.1), .int ((supT L st sq t).2.2.2.2.2.2.2)])), (h 8, .inr (0, [.ref (h 9), .ref (h 10)])), (h 10, .inl (g.2.1, 200, .inl sq))]) := by
  refine Ct.walk (by decide) (Nat.le_of_ble_eq_true rfl) ?_
  intro p0 e0 s0 m0 below meth c0 A0 ls Q hQ E hr hnm hw hl
  have hx := E.x
  have hb := E.b
  have hl : lv_has ls 2 [(0, .ref (h 0))] := hl
  refine lv_aload_n hx hb dX2_supervises_0 rfl (lv_at hl 0 rfl) ?_
  refine x_get E hw kf_X2_27 0 rfl rfl dX2_supervises_1 ?_
  refine x_getN E hw kf_X2_91 3 rfl rfl dX2_supervises_4 ?_
  refine lv_iconst (v := 3) hx hb dX2_supervises_7 (by decide) ?_
  refine lv_icmp_ne (tgt := 12) hx hb dX2_supervises_8 (by decide) (fun c_1 => ?_) (fun c_1 => ?_)
  · refine lv_aload_n hx hb dX2_supervises_12 rfl (lv_at hl 0 rfl) ?_
    refine x_get E hw kf_X2_27 0 rfl rfl dX2_supervises_13 ?_
    refine x_getN E hw kf_X2_101 3 rfl rfl dX2_supervises_16 ?_
    refine x_go (ws' := [(h 0, .inr (2, [.ref (h 1), .ref (h 2), .ref (h 7), .ref (h 8)])), (h 2, .inr (5, [.int (nI L), .ref (h 3), .ref (h 4), .ref (h 5), .ref (h 6)])), (h 6, .inl (g.2.1, 7, .inl st)), (h 7, .inr (6, [.int (nI t.1), .int t.2.1, .int t.2.2.1, .int t.2.2.2.1, .int t.2.2.2.2.1, .int t.2.2.2.2.2.1, .int t.2.2.2.2.2.2.1, .int t.2.2.2.2.2.2.2])), (h 8, .inr (0, [.ref (h 9), .ref (h 10)])), (h 10, .inl (g.2.1, 200, .inl sq))]) (st1 := [.int (nI (rtL 15 0 t.2.1))]) E hw [] rfl (x_runSN (rest := []) E hw (c_X7_root l g t.2.1 ) km_X2_81 ks_X7_root [] rfl (by decide) hl.1 rfl rfl (Nat.le_of_ble_eq_true rfl) ⟨Nat.le_of_ble_eq_true rfl, Nat.le_of_ble_eq_true rfl⟩ ⟨Nat.zero_le _, Nat.zero_le _⟩ dX2_supervises_19) rfl rfl rfl (fun H locs hw => ?_)
    refine lv_aload_n hx hb dX2_supervises_22 rfl (lv_at hl 0 rfl) ?_
    refine x_go (ws' := [(h 0, .inr (2, [.ref (h 1), .ref (h 2), .ref (h 7), .ref (h 8)])), (h 2, .inr (5, [.int (nI L), .ref (h 3), .ref (h 4), .ref (h 5), .ref (h 6)])), (h 6, .inl (g.2.1, 7, .inl st)), (h 7, .inr (6, [.int (nI t.1), .int t.2.1, .int t.2.2.1, .int t.2.2.2.1, .int t.2.2.2.2.1, .int t.2.2.2.2.2.1, .int t.2.2.2.2.2.2.1, .int t.2.2.2.2.2.2.2])), (h 8, .inr (0, [.ref (h 9), .ref (h 10)])), (h 10, .inl (g.2.1, 200, .inl sq))]) (st1 := [.int (nI (seenN L t.2.2.2.1 t.2.2.2.2.1 sq)), .int (nI (rtL 15 0 t.2.1))]) E hw [0, 1, 3, 4, 5] rfl (x_runV (rest := [.int (nI (rtL 15 0 t.2.1))]) E hw (c_X2_seen l g h L t sq (by omega) (by omega)) km_X2_120 kv_X2_seen [0, 1, 3, 4, 5] rfl (by decide) 0 rfl hl.1 rfl rfl (Nat.le_of_ble_eq_true rfl) ⟨Nat.le_of_ble_eq_true rfl, Nat.le_of_ble_eq_true rfl⟩ ⟨Nat.zero_le _, Nat.zero_le _⟩ dX2_supervises_23) rfl rfl rfl (fun H locs hw => ?_)
    refine lv_isub hx hb dX2_supervises_26 ?_
    refine x_top (v' := .int (abv L sq t)) rfl ?_
    refine lv_istore_n (lv' := [(1, .int (abv L sq t)), (0, .ref (h 0))]) hx hb dX2_supervises_27 rfl hl (by decide) rfl (fun ls hl => ?_)
    refine lv_iload_n hx hb dX2_supervises_28 rfl (lv_at hl 0 rfl) ?_
    refine lv_aload_n hx hb dX2_supervises_29 rfl (lv_at hl 1 rfl) ?_
    refine x_get E hw kf_X2_22 0 rfl rfl dX2_supervises_30 ?_
    refine x_getN E hw kf_X2_117 1 rfl rfl dX2_supervises_33 ?_
    refine lv_bipush (v := 6) hx hb dX2_supervises_36 (by decide) ?_
    refine x_ld (v := st 6) E hw 2 rfl 6 rfl (by omega) (by decide) rfl dX2_supervises_38 ?_
    refine lv_icmp_le (tgt := 66) hx hb dX2_supervises_39 (by decide) (fun c_2 => ?_) (fun c_2 => ?_)
    · refine lv_iload_n hx hb dX2_supervises_66 rfl (lv_at hl 0 rfl) ?_
      refine lv_aload_n hx hb dX2_supervises_67 rfl (lv_at hl 1 rfl) ?_
      refine x_get E hw kf_X2_22 0 rfl rfl dX2_supervises_68 ?_
      refine x_getN E hw kf_X2_117 1 rfl rfl dX2_supervises_71 ?_
      refine lv_iconst (v := 5) hx hb dX2_supervises_74 (by decide) ?_
      refine x_ld (v := st 5) E hw 2 rfl 5 rfl (by omega) (by decide) rfl dX2_supervises_75 ?_
      refine lv_icmp_le (tgt := 90) hx hb dX2_supervises_76 (by decide) (fun c_3 => ?_) (fun c_3 => ?_)
      · refine lv_iload_n hx hb dX2_supervises_90 rfl (lv_at hl 0 rfl) ?_
        refine lv_aload_n hx hb dX2_supervises_91 rfl (lv_at hl 1 rfl) ?_
        refine x_get E hw kf_X2_22 0 rfl rfl dX2_supervises_92 ?_
        refine x_getN E hw kf_X2_117 1 rfl rfl dX2_supervises_95 ?_
        refine lv_iconst (v := 4) hx hb dX2_supervises_98 (by decide) ?_
        refine x_ld (v := st 4) E hw 2 rfl 4 rfl (by omega) (by decide) rfl dX2_supervises_99 ?_
        refine lv_icmp_le (tgt := 129) hx hb dX2_supervises_100 (by decide) (fun c_4 => ?_) (fun c_4 => ?_)
        · refine lv_aload_n hx hb dX2_supervises_129 rfl (lv_at hl 1 rfl) ?_
          refine x_get E hw kf_X2_27 0 rfl rfl dX2_supervises_130 ?_
          refine lv_iconst (v := 0) hx hb dX2_supervises_133 (by decide) ?_
          refine x_putN E hw kf_X2_91 kp_X6_2 3 rfl (ty := .int) (by decide +kernel) rfl rfl (by simp) (ws' := [(h 0, .inr (2, [.ref (h 1), .ref (h 2), .ref (h 7), .ref (h 8)])), (h 2, .inr (5, [.int (nI L), .ref (h 3), .ref (h 4), .ref (h 5), .ref (h 6)])), (h 6, .inl (g.2.1, 7, .inl st)), (h 7, .inr (6, [.int (nI t.1), .int t.2.1, .int 0, .int t.2.2.2.1, .int t.2.2.2.2.1, .int t.2.2.2.2.2.1, .int t.2.2.2.2.2.2.1, .int t.2.2.2.2.2.2.2])), (h 8, .inr (0, [.ref (h 9), .ref (h 10)])), (h 10, .inl (g.2.1, 200, .inl sq))]) rfl dX2_supervises_134 (fun H locs hw => ?_)
          exact xr_v hQ E hr hw dX2_supervises_137 ⟨rfl, (by simp only [supT, supM, supA, if_neg c_1, if_pos c_2, if_pos c_3, if_pos c_4])⟩
        · refine lv_aload_n hx hb dX2_supervises_103 rfl (lv_at hl 1 rfl) ?_
          refine x_get E hw kf_X2_27 0 rfl rfl dX2_supervises_104 ?_
          refine lv_aload_n hx hb dX2_supervises_107 rfl (lv_at hl 1 rfl) ?_
          refine x_get E hw kf_X2_27 0 rfl rfl dX2_supervises_108 ?_
          refine x_getN E hw kf_X2_91 3 rfl rfl dX2_supervises_111 ?_
          refine lv_iconst (v := 2) hx hb dX2_supervises_114 (by decide) ?_
          refine lv_icmp_ne (tgt := 122) hx hb dX2_supervises_115 (by decide) (fun c_5 => ?_) (fun c_5 => ?_)
          · refine lv_iconst (v := 1) hx hb dX2_supervises_122 (by decide) ?_
            refine x_putN E hw kf_X2_91 kp_X6_2 3 rfl (ty := .int) (by decide +kernel) rfl rfl (by simp) (ws' := [(h 0, .inr (2, [.ref (h 1), .ref (h 2), .ref (h 7), .ref (h 8)])), (h 2, .inr (5, [.int (nI L), .ref (h 3), .ref (h 4), .ref (h 5), .ref (h 6)])), (h 6, .inl (g.2.1, 7, .inl st)), (h 7, .inr (6, [.int (nI t.1), .int t.2.1, .int 1, .int t.2.2.2.1, .int t.2.2.2.2.1, .int t.2.2.2.2.2.1, .int t.2.2.2.2.2.2.1, .int t.2.2.2.2.2.2.2])), (h 8, .inr (0, [.ref (h 9), .ref (h 10)])), (h 10, .inl (g.2.1, 200, .inl sq))]) rfl dX2_supervises_123 (fun H locs hw => ?_)
            refine lv_goto (tgt := 137) hx hb dX2_supervises_126 (by decide) ?_
            exact xr_v hQ E hr hw dX2_supervises_137 ⟨rfl, (by simp only [supT, supM, supA, if_neg c_1, if_pos c_2, if_pos c_3, if_neg c_4, if_neg c_5])⟩
          · refine lv_iconst (v := 2) hx hb dX2_supervises_118 (by decide) ?_
            refine lv_goto (tgt := 123) hx hb dX2_supervises_119 (by decide) ?_
            refine x_putN E hw kf_X2_91 kp_X6_2 3 rfl (ty := .int) (by decide +kernel) rfl rfl (by simp) (ws' := [(h 0, .inr (2, [.ref (h 1), .ref (h 2), .ref (h 7), .ref (h 8)])), (h 2, .inr (5, [.int (nI L), .ref (h 3), .ref (h 4), .ref (h 5), .ref (h 6)])), (h 6, .inl (g.2.1, 7, .inl st)), (h 7, .inr (6, [.int (nI t.1), .int t.2.1, .int 2, .int t.2.2.2.1, .int t.2.2.2.2.1, .int t.2.2.2.2.2.1, .int t.2.2.2.2.2.2.1, .int t.2.2.2.2.2.2.2])), (h 8, .inr (0, [.ref (h 9), .ref (h 10)])), (h 10, .inl (g.2.1, 200, .inl sq))]) rfl dX2_supervises_123 (fun H locs hw => ?_)
            refine lv_goto (tgt := 137) hx hb dX2_supervises_126 (by decide) ?_
            exact xr_v hQ E hr hw dX2_supervises_137 ⟨rfl, (by simp only [supT, supM, supA, if_neg c_1, if_pos c_2, if_pos c_3, if_neg c_4, if_pos c_5])⟩
      · refine lv_aload_n hx hb dX2_supervises_79 rfl (lv_at hl 1 rfl) ?_
        refine x_get E hw kf_X2_27 0 rfl rfl dX2_supervises_80 ?_
        refine lv_iconst (v := 2) hx hb dX2_supervises_83 (by decide) ?_
        refine x_putN E hw kf_X2_91 kp_X6_2 3 rfl (ty := .int) (by decide +kernel) rfl rfl (by simp) (ws' := [(h 0, .inr (2, [.ref (h 1), .ref (h 2), .ref (h 7), .ref (h 8)])), (h 2, .inr (5, [.int (nI L), .ref (h 3), .ref (h 4), .ref (h 5), .ref (h 6)])), (h 6, .inl (g.2.1, 7, .inl st)), (h 7, .inr (6, [.int (nI t.1), .int t.2.1, .int 2, .int t.2.2.2.1, .int t.2.2.2.2.1, .int t.2.2.2.2.2.1, .int t.2.2.2.2.2.2.1, .int t.2.2.2.2.2.2.2])), (h 8, .inr (0, [.ref (h 9), .ref (h 10)])), (h 10, .inl (g.2.1, 200, .inl sq))]) rfl dX2_supervises_84 (fun H locs hw => ?_)
        refine lv_goto (tgt := 137) hx hb dX2_supervises_87 (by decide) ?_
        exact xr_v hQ E hr hw dX2_supervises_137 ⟨rfl, (by simp only [supT, supM, supA, if_neg c_1, if_pos c_2, if_neg c_3])⟩
    · refine lv_aload_n hx hb dX2_supervises_42 rfl (lv_at hl 1 rfl) ?_
      refine x_get E hw kf_X2_27 0 rfl rfl dX2_supervises_43 ?_
      refine lv_iconst (v := 3) hx hb dX2_supervises_46 (by decide) ?_
      refine x_putN E hw kf_X2_91 kp_X6_2 3 rfl (ty := .int) (by decide +kernel) rfl rfl (by simp) (ws' := [(h 0, .inr (2, [.ref (h 1), .ref (h 2), .ref (h 7), .ref (h 8)])), (h 2, .inr (5, [.int (nI L), .ref (h 3), .ref (h 4), .ref (h 5), .ref (h 6)])), (h 6, .inl (g.2.1, 7, .inl st)), (h 7, .inr (6, [.int (nI t.1), .int t.2.1, .int 3, .int t.2.2.2.1, .int t.2.2.2.2.1, .int t.2.2.2.2.2.1, .int t.2.2.2.2.2.2.1, .int t.2.2.2.2.2.2.2])), (h 8, .inr (0, [.ref (h 9), .ref (h 10)])), (h 10, .inl (g.2.1, 200, .inl sq))]) rfl dX2_supervises_47 (fun H locs hw => ?_)
      refine lv_aload_n hx hb dX2_supervises_50 rfl (lv_at hl 1 rfl) ?_
      refine x_get E hw kf_X2_27 0 rfl rfl dX2_supervises_51 ?_
      refine lv_dup hx hb dX2_supervises_54 rfl ?_
      refine x_getN E hw kf_X2_123 3 rfl rfl dX2_supervises_55 ?_
      refine lv_iconst (v := 1) hx hb dX2_supervises_58 (by decide) ?_
      refine lv_iadd hx hb dX2_supervises_59 ?_
      refine x_putN E hw kf_X2_123 kp_X6_5 3 rfl (ty := .int) (by decide +kernel) rfl rfl (by simp) (ws' := [(h 0, .inr (2, [.ref (h 1), .ref (h 2), .ref (h 7), .ref (h 8)])), (h 2, .inr (5, [.int (nI L), .ref (h 3), .ref (h 4), .ref (h 5), .ref (h 6)])), (h 6, .inl (g.2.1, 7, .inl st)), (h 7, .inr (6, [.int (nI t.1), .int t.2.1, .int 3, .int t.2.2.2.1, .int t.2.2.2.2.1, .int (t.2.2.2.2.2.1 + 1), .int t.2.2.2.2.2.2.1, .int t.2.2.2.2.2.2.2])), (h 8, .inr (0, [.ref (h 9), .ref (h 10)])), (h 10, .inl (g.2.1, 200, .inl sq))]) rfl dX2_supervises_60 (fun H locs hw => ?_)
      refine lv_goto (tgt := 137) hx hb dX2_supervises_63 (by decide) ?_
      exact xr_v hQ E hr hw dX2_supervises_137 ⟨rfl, (by simp only [supT, supM, supA, if_neg c_1, if_neg c_2])⟩
  · exact xr_v hQ E hr hw dX2_supervises_11 ⟨rfl, (by simp only [supT, supM, supA, if_pos c_1])⟩

set_option maxRecDepth 100000 in
set_option maxHeartbeats 4000000 in
theorem c_X2_goesOn (l : Launch) (g : xCfg) (h : Nat → Nat) (L : Nat) (gr : Nat → Int32) (be : Nat → Int32) (st : Nat → Int32) (t : TV) (sq : Nat → Int32) (hd : Int32) (hL : L ≤ 200) (hf : t.1 < L) : Ct l g yX2_goesOn cX2_goesOn 5 (some .boolean) (xR 5 96) [.ref (h 0), .int hd] [(h 0, .inr (2, [.ref (h 1), .ref (h 2), .ref (h 7), .ref (h 8)])), (h 2, .inr (5, [.int (nI L), .ref (h 3), .ref (h 4), .ref (h 5), .ref (h 6)])), (h 4, .inl (g.2.1, 200, .inl gr)), (h 5, .inl (g.2.1, 200, .inl be)), (h 6, .inl (g.2.1, 7, .inl st)), (h 7, .inr (6, [.int (nI t.1), .int t.2.1, .int t.2.2.1, .int t.2.2.2.1, .int t.2.2.2.2.1, .int t.2.2.2.2.2.1, .int t.2.2.2.2.2.2.1, .int t.2.2.2.2.2.2.2])), (h 8, .inr (0, [.ref (h 9), .ref (h 10)])), (h 10, .inl (g.2.1, 200, .inl sq))] (is1 (some (.int (bI (stpP L gr st hd t)))) [(h 0, .inr (2, [.ref (h 1), .ref (h 2), .ref (h 7), .ref (h 8)])), (h 2, .inr (5, [.int (nI L), .ref (h 3), .ref (h 4), .ref (h 5), .ref (h 6)])), (h 4, .inl (g.2.1, 200, .inl gr)), (h 5, .inl (g.2.1, 200, .inl be)), (h 6, .inl (g.2.1, 7, .inl st)), (h 7, .inr (6, [.int (nI ((stpT L gr be st sq hd t).1)), .int ((stpT L gr be st sq hd t).2.1), .int ((stpT L gr be st sq hd t).2.2.1), .int ((stpT L gr be st sq hd t).2.2.2.1), .int ((stpT L gr be st sq hd t).2.2.2.2.1), .int ((stpT L gr be st sq hd t).2.2.2.2.2.1), .int ((stpT L gr be st sq hd t).2.2.2.2.2.2.1), .int ((stpT L gr be st sq hd t).2.2.2.2.2.2.2)])), (h 8, .inr (0, [.ref (h 9), .ref (h 10)])), (h 10, .inl (g.2.1, 200, .inl sq))]) := by
  refine Ct.walk (by decide) (Nat.le_of_ble_eq_true rfl) ?_
  intro p0 e0 s0 m0 below meth c0 A0 ls Q hQ E hr hnm hw hl
  have hx := E.x
  have hb := E.b
  have hl : lv_has ls 5 [(0, .ref (h 0)), (1, .int hd)] := hl
  refine lv_aload_n hx hb dX2_goesOn_0 rfl (lv_at hl 0 rfl) ?_
  refine x_get E hw kf_X2_27 0 rfl rfl dX2_goesOn_1 ?_
  refine x_getN E hw kf_X2_101 5 rfl rfl dX2_goesOn_4 ?_
  refine lv_aload_n hx hb dX2_goesOn_7 rfl (lv_at hl 0 rfl) ?_
  refine lv_aload_n hx hb dX2_goesOn_8 rfl (lv_at hl 0 rfl) ?_
  refine x_get E hw kf_X2_27 0 rfl rfl dX2_goesOn_9 ?_
  refine x_getN E hw kf_X2_91 5 rfl rfl dX2_goesOn_12 ?_
  refine lv_iload_n hx hb dX2_goesOn_15 rfl (lv_at hl 1 rfl) ?_
  refine x_go (ws' := [(h 0, .inr (2, [.ref (h 1), .ref (h 2), .ref (h 7), .ref (h 8)])), (h 2, .inr (5, [.int (nI L), .ref (h 3), .ref (h 4), .ref (h 5), .ref (h 6)])), (h 4, .inl (g.2.1, 200, .inl gr)), (h 5, .inl (g.2.1, 200, .inl be)), (h 6, .inl (g.2.1, 7, .inl st)), (h 7, .inr (6, [.int (nI t.1), .int t.2.1, .int t.2.2.1, .int t.2.2.2.1, .int t.2.2.2.2.1, .int t.2.2.2.2.2.1, .int t.2.2.2.2.2.2.1, .int t.2.2.2.2.2.2.2])), (h 8, .inr (0, [.ref (h 9), .ref (h 10)])), (h 10, .inl (g.2.1, 200, .inl sq))]) (st1 := [.int (gnF t.2.2.1 hd (st 0) (st 1) (gr t.1)), .int t.2.1]) E hw [0, 1, 2, 4, 5] rfl (x_runV (rest := [.int t.2.1]) E hw (c_X2_gain l g h L gr st t t.2.2.1 hd (by omega)) km_X2_104 kv_X2_gain [0, 1, 2, 4, 5] rfl (by decide) 0 rfl hl.1 rfl rfl (Nat.le_of_ble_eq_true rfl) ⟨Nat.le_of_ble_eq_true rfl, Nat.le_of_ble_eq_true rfl⟩ ⟨Nat.zero_le _, Nat.zero_le _⟩ dX2_goesOn_16) rfl rfl rfl (fun H locs hw => ?_)
  refine lv_iadd hx hb dX2_goesOn_19 ?_
  refine x_top (v' := .int (nqF gr st hd t)) rfl ?_
  refine lv_istore_n (lv' := [(2, .int (nqF gr st hd t)), (0, .ref (h 0)), (1, .int hd)]) hx hb dX2_goesOn_20 rfl hl (by decide) rfl (fun ls hl => ?_)
  refine lv_aload_n hx hb dX2_goesOn_21 rfl (lv_at hl 1 rfl) ?_
  refine x_get E hw kf_X2_27 0 rfl rfl dX2_goesOn_22 ?_
  refine x_getN E hw kf_X2_108 5 rfl rfl dX2_goesOn_25 ?_
  refine lv_aload_n hx hb dX2_goesOn_28 rfl (lv_at hl 1 rfl) ?_
  refine x_get E hw kf_X2_22 0 rfl rfl dX2_goesOn_29 ?_
  refine x_getN E hw kf_X2_74 1 rfl rfl dX2_goesOn_32 ?_
  refine lv_iconst (v := 1) hx hb dX2_goesOn_35 (by decide) ?_
  refine xn_sub hx hb L 1 rfl rfl (by omega) dX2_goesOn_36 ?_
  refine xn_lt (tgt := 44) hx hb t.1 (L - 1) rfl rfl (by omega) (by omega) dX2_goesOn_37 (by decide) (fun cf => ?_) (fun cf => ?_)
  · refine lv_iconst (v := 0) hx hb dX2_goesOn_44 (by decide) ?_
    refine lv_istore_n (lv' := [(3, .int 0), (2, .int (nqF gr st hd t)), (0, .ref (h 0)), (1, .int hd)]) hx hb dX2_goesOn_45 rfl hl (by decide) rfl (fun ls hl => ?_)
    refine lv_iload_n hx hb dX2_goesOn_46 rfl (lv_at hl 1 rfl) ?_
    refine lv_if_le (tgt := 58) hx hb dX2_goesOn_47 (by decide) (fun cq => ?_) (fun cq => ?_)
    · refine lv_iconst (v := 0) hx hb dX2_goesOn_58 (by decide) ?_
      refine lv_istore (lv' := [(4, .int 0), (3, .int 0), (2, .int (nqF gr st hd t)), (0, .ref (h 0)), (1, .int hd)]) hx hb dX2_goesOn_59 hl (by decide) rfl (fun ls hl => ?_)
      refine lv_iload hx hb dX2_goesOn_61 (lv_at hl 0 rfl) ?_
      refine lv_if_eq (tgt := 81) hx hb dX2_goesOn_63 (by decide) (fun _ => ?_) (fun h => absurd h (by decide))
      refine lv_aload_n hx hb dX2_goesOn_81 rfl (lv_at hl 3 rfl) ?_
      refine x_get E hw kf_X2_27 0 rfl rfl dX2_goesOn_82 ?_
      refine lv_iconst (v := 0) hx hb dX2_goesOn_85 (by decide) ?_
      refine x_putN E hw kf_X2_101 kp_X6_1 5 rfl (ty := .int) (by decide +kernel) rfl rfl (by simp) (ws' := [(h 0, .inr (2, [.ref (h 1), .ref (h 2), .ref (h 7), .ref (h 8)])), (h 2, .inr (5, [.int (nI L), .ref (h 3), .ref (h 4), .ref (h 5), .ref (h 6)])), (h 4, .inl (g.2.1, 200, .inl gr)), (h 5, .inl (g.2.1, 200, .inl be)), (h 6, .inl (g.2.1, 7, .inl st)), (h 7, .inr (6, [.int (nI t.1), .int 0, .int t.2.2.1, .int t.2.2.2.1, .int t.2.2.2.2.1, .int t.2.2.2.2.2.1, .int t.2.2.2.2.2.2.1, .int t.2.2.2.2.2.2.2])), (h 8, .inr (0, [.ref (h 9), .ref (h 10)])), (h 10, .inl (g.2.1, 200, .inl sq))]) rfl dX2_goesOn_86 (fun H locs hw => ?_)
      refine lv_iload_n hx hb dX2_goesOn_89 rfl (lv_at hl 2 rfl) ?_
      refine lv_if_le (tgt := 106) hx hb dX2_goesOn_90 (by decide) (fun cr => ?_) (fun cr => ?_)
      · refine lv_aload_n hx hb dX2_goesOn_106 rfl (lv_at hl 3 rfl) ?_
        refine x_go (ws' := [(h 0, .inr (2, [.ref (h 1), .ref (h 2), .ref (h 7), .ref (h 8)])), (h 2, .inr (5, [.int (nI L), .ref (h 3), .ref (h 4), .ref (h 5), .ref (h 6)])), (h 4, .inl (g.2.1, 200, .inl gr)), (h 5, .inl (g.2.1, 200, .inl be)), (h 6, .inl (g.2.1, 7, .inl st)), (h 7, .inr (6, [.int (nI ((supT L st sq (t.1, 0, t.2.2.1, t.2.2.2.1, t.2.2.2.2.1, t.2.2.2.2.2.1, t.2.2.2.2.2.2.1, t.2.2.2.2.2.2.2)).1)), .int ((supT L st sq (t.1, 0, t.2.2.1, t.2.2.2.1, t.2.2.2.2.1, t.2.2.2.2.2.1, t.2.2.2.2.2.2.1, t.2.2.2.2.2.2.2)).2.1), .int ((supT L st sq (t.1, 0, t.2.2.1, t.2.2.2.1, t.2.2.2.2.1, t.2.2.2.2.2.1, t.2.2.2.2.2.2.1, t.2.2.2.2.2.2.2)).2.2.1), .int ((supT L st sq (t.1, 0, t.2.2.1, t.2.2.2.1, t.2.2.2.2.1, t.2.2.2.2.2.1, t.2.2.2.2.2.2.1, t.2.2.2.2.2.2.2)).2.2.2.1), .int ((supT L st sq (t.1, 0, t.2.2.1, t.2.2.2.1, t.2.2.2.2.1, t.2.2.2.2.2.1, t.2.2.2.2.2.2.1, t.2.2.2.2.2.2.2)).2.2.2.2.1), .int ((supT L st sq (t.1, 0, t.2.2.1, t.2.2.2.1, t.2.2.2.2.1, t.2.2.2.2.2.1, t.2.2.2.2.2.2.1, t.2.2.2.2.2.2.2)).2.2.2.2.2.1), .int ((supT L st sq (t.1, 0, t.2.2.1, t.2.2.2.1, t.2.2.2.2.1, t.2.2.2.2.2.1, t.2.2.2.2.2.2.1, t.2.2.2.2.2.2.2)).2.2.2.2.2.2.1), .int ((supT L st sq (t.1, 0, t.2.2.1, t.2.2.2.1, t.2.2.2.2.1, t.2.2.2.2.2.1, t.2.2.2.2.2.2.1, t.2.2.2.2.2.2.2)).2.2.2.2.2.2.2)])), (h 8, .inr (0, [.ref (h 9), .ref (h 10)])), (h 10, .inl (g.2.1, 200, .inl sq))]) (st1 := []) E hw [0, 1, 4, 5, 6, 7] rfl (x_runV (rest := []) E hw (c_X2_supervises l g h L st (t.1, 0, t.2.2.1, t.2.2.2.1, t.2.2.2.2.1, t.2.2.2.2.2.1, t.2.2.2.2.2.2.1, t.2.2.2.2.2.2.2) sq (by omega) (by omega)) km_X2_88 kv_X2_supervises [0, 1, 4, 5, 6, 7] rfl (by decide) 0 rfl hl.1 rfl rfl (Nat.le_of_ble_eq_true rfl) ⟨Nat.le_of_ble_eq_true rfl, Nat.le_of_ble_eq_true rfl⟩ ⟨Nat.zero_le _, Nat.zero_le _⟩ dX2_goesOn_107) rfl rfl rfl (fun H locs hw => ?_)
        refine lv_iload hx hb dX2_goesOn_110 (lv_at hl 0 rfl) ?_
        exact xr_z hQ E hr hw dX2_goesOn_112 (by decide) ⟨congrArg (fun z => some (Value.int z)) ((bI_f (fun z => z.1 cr)).symm), (by rw [stpT_0 cr] <;> rfl)⟩
      · exact absurd cq cr
    · refine lv_iload_n hx hb dX2_goesOn_50 rfl (lv_at hl 0 rfl) ?_
      refine lv_if_ne (tgt := 58) hx hb dX2_goesOn_51 (by decide) (fun h => absurd h (by decide)) (fun _ => ?_)
      refine lv_iconst (v := 1) hx hb dX2_goesOn_54 (by decide) ?_
      refine lv_goto (tgt := 59) hx hb dX2_goesOn_55 (by decide) ?_
      refine lv_istore (lv' := [(4, .int 1), (3, .int 0), (2, .int (nqF gr st hd t)), (0, .ref (h 0)), (1, .int hd)]) hx hb dX2_goesOn_59 hl (by decide) rfl (fun ls hl => ?_)
      refine lv_iload hx hb dX2_goesOn_61 (lv_at hl 0 rfl) ?_
      refine lv_if_eq (tgt := 81) hx hb dX2_goesOn_63 (by decide) (fun h => absurd h (by decide)) (fun _ => ?_)
      refine lv_aload_n hx hb dX2_goesOn_66 rfl (lv_at hl 3 rfl) ?_
      refine x_get E hw kf_X2_27 0 rfl rfl dX2_goesOn_67 ?_
      refine lv_iload_n hx hb dX2_goesOn_70 rfl (lv_at hl 2 rfl) ?_
      refine lv_aload_n hx hb dX2_goesOn_71 rfl (lv_at hl 3 rfl) ?_
      refine x_get E hw kf_X2_22 0 rfl rfl dX2_goesOn_72 ?_
      refine x_go (ws' := [(h 0, .inr (2, [.ref (h 1), .ref (h 2), .ref (h 7), .ref (h 8)])), (h 2, .inr (5, [.int (nI L), .ref (h 3), .ref (h 4), .ref (h 5), .ref (h 6)])), (h 4, .inl (g.2.1, 200, .inl gr)), (h 5, .inl (g.2.1, 200, .inl be)), (h 6, .inl (g.2.1, 7, .inl st)), (h 7, .inr (6, [.int (nI (t.1 + 1)), .int (nqF gr st hd t), .int t.2.2.1, .int (if be (t.1 + 1) = 1 then nI (1000 * (t.1 + 1)) else t.2.2.2.1 + (1000 - st 3)), .int (if be (t.1 + 1) = 1 then nI (1000 * (t.1 + 1)) else t.2.2.2.2.1 + (1000 + st 3)), .int t.2.2.2.2.2.1, .int t.2.2.2.2.2.2.1, .int (t.2.2.2.2.2.2.2 + 1)])), (h 8, .inr (0, [.ref (h 9), .ref (h 10)])), (h 10, .inl (g.2.1, 200, .inl sq))]) (st1 := []) E hw [5, 1, 3, 4] rfl (x_runVN (rest := []) E hw (c_X6_goesOn l g h t.1 t.2.1 t.2.2.1 t.2.2.2.1 t.2.2.2.2.1 t.2.2.2.2.2.1 t.2.2.2.2.2.2.1 t.2.2.2.2.2.2.2 (nqF gr st hd t) L be st (by omega)) km_X2_111 kv_X6_goesOn [5, 1, 3, 4] rfl (by decide) 5 rfl hl.1 rfl rfl (Nat.le_of_ble_eq_true rfl) ⟨Nat.le_of_ble_eq_true rfl, Nat.le_of_ble_eq_true rfl⟩ ⟨Nat.zero_le _, Nat.zero_le _⟩ dX2_goesOn_75) rfl rfl rfl (fun H locs hw => ?_)
      refine lv_goto (tgt := 106) hx hb dX2_goesOn_78 (by decide) ?_
      refine lv_aload_n hx hb dX2_goesOn_106 rfl (lv_at hl 3 rfl) ?_
      refine x_go (ws' := [(h 0, .inr (2, [.ref (h 1), .ref (h 2), .ref (h 7), .ref (h 8)])), (h 2, .inr (5, [.int (nI L), .ref (h 3), .ref (h 4), .ref (h 5), .ref (h 6)])), (h 4, .inl (g.2.1, 200, .inl gr)), (h 5, .inl (g.2.1, 200, .inl be)), (h 6, .inl (g.2.1, 7, .inl st)), (h 7, .inr (6, [.int (nI ((supT L st sq (t.1 + 1, nqF gr st hd t, t.2.2.1, if be (t.1 + 1) = 1 then nI (1000 * (t.1 + 1)) else t.2.2.2.1 + (1000 - st 3), if be (t.1 + 1) = 1 then nI (1000 * (t.1 + 1)) else t.2.2.2.2.1 + (1000 + st 3), t.2.2.2.2.2.1, t.2.2.2.2.2.2.1, t.2.2.2.2.2.2.2 + 1)).1)), .int ((supT L st sq (t.1 + 1, nqF gr st hd t, t.2.2.1, if be (t.1 + 1) = 1 then nI (1000 * (t.1 + 1)) else t.2.2.2.1 + (1000 - st 3), if be (t.1 + 1) = 1 then nI (1000 * (t.1 + 1)) else t.2.2.2.2.1 + (1000 + st 3), t.2.2.2.2.2.1, t.2.2.2.2.2.2.1, t.2.2.2.2.2.2.2 + 1)).2.1), .int ((supT L st sq (t.1 + 1, nqF gr st hd t, t.2.2.1, if be (t.1 + 1) = 1 then nI (1000 * (t.1 + 1)) else t.2.2.2.1 + (1000 - st 3), if be (t.1 + 1) = 1 then nI (1000 * (t.1 + 1)) else t.2.2.2.2.1 + (1000 + st 3), t.2.2.2.2.2.1, t.2.2.2.2.2.2.1, t.2.2.2.2.2.2.2 + 1)).2.2.1), .int ((supT L st sq (t.1 + 1, nqF gr st hd t, t.2.2.1, if be (t.1 + 1) = 1 then nI (1000 * (t.1 + 1)) else t.2.2.2.1 + (1000 - st 3), if be (t.1 + 1) = 1 then nI (1000 * (t.1 + 1)) else t.2.2.2.2.1 + (1000 + st 3), t.2.2.2.2.2.1, t.2.2.2.2.2.2.1, t.2.2.2.2.2.2.2 + 1)).2.2.2.1), .int ((supT L st sq (t.1 + 1, nqF gr st hd t, t.2.2.1, if be (t.1 + 1) = 1 then nI (1000 * (t.1 + 1)) else t.2.2.2.1 + (1000 - st 3), if be (t.1 + 1) = 1 then nI (1000 * (t.1 + 1)) else t.2.2.2.2.1 + (1000 + st 3), t.2.2.2.2.2.1, t.2.2.2.2.2.2.1, t.2.2.2.2.2.2.2 + 1)).2.2.2.2.1), .int ((supT L st sq (t.1 + 1, nqF gr st hd t, t.2.2.1, if be (t.1 + 1) = 1 then nI (1000 * (t.1 + 1)) else t.2.2.2.1 + (1000 - st 3), if be (t.1 + 1) = 1 then nI (1000 * (t.1 + 1)) else t.2.2.2.2.1 + (1000 + st 3), t.2.2.2.2.2.1, t.2.2.2.2.2.2.1, t.2.2.2.2.2.2.2 + 1)).2.2.2.2.2.1), .int ((supT L st sq (t.1 + 1, nqF gr st hd t, t.2.2.1, if be (t.1 + 1) = 1 then nI (1000 * (t.1 + 1)) else t.2.2.2.1 + (1000 - st 3), if be (t.1 + 1) = 1 then nI (1000 * (t.1 + 1)) else t.2.2.2.2.1 + (1000 + st 3), t.2.2.2.2.2.1, t.2.2.2.2.2.2.1, t.2.2.2.2.2.2.2 + 1)).2.2.2.2.2.2.1), .int ((supT L st sq (t.1 + 1, nqF gr st hd t, t.2.2.1, if be (t.1 + 1) = 1 then nI (1000 * (t.1 + 1)) else t.2.2.2.1 + (1000 - st 3), if be (t.1 + 1) = 1 then nI (1000 * (t.1 + 1)) else t.2.2.2.2.1 + (1000 + st 3), t.2.2.2.2.2.1, t.2.2.2.2.2.2.1, t.2.2.2.2.2.2.2 + 1)).2.2.2.2.2.2.2)])), (h 8, .inr (0, [.ref (h 9), .ref (h 10)])), (h 10, .inl (g.2.1, 200, .inl sq))]) (st1 := []) E hw [0, 1, 4, 5, 6, 7] rfl (x_runV (rest := []) E hw (c_X2_supervises l g h L st (t.1 + 1, nqF gr st hd t, t.2.2.1, if be (t.1 + 1) = 1 then nI (1000 * (t.1 + 1)) else t.2.2.2.1 + (1000 - st 3), if be (t.1 + 1) = 1 then nI (1000 * (t.1 + 1)) else t.2.2.2.2.1 + (1000 + st 3), t.2.2.2.2.2.1, t.2.2.2.2.2.2.1, t.2.2.2.2.2.2.2 + 1) sq (by omega) (by omega)) km_X2_88 kv_X2_supervises [0, 1, 4, 5, 6, 7] rfl (by decide) 0 rfl hl.1 rfl rfl (Nat.le_of_ble_eq_true rfl) ⟨Nat.le_of_ble_eq_true rfl, Nat.le_of_ble_eq_true rfl⟩ ⟨Nat.zero_le _, Nat.zero_le _⟩ dX2_goesOn_107) rfl rfl rfl (fun H locs hw => ?_)
      refine lv_iload hx hb dX2_goesOn_110 (lv_at hl 0 rfl) ?_
      exact xr_z hQ E hr hw dX2_goesOn_112 (by decide) ⟨congrArg (fun z => some (Value.int z)) ((bI_t ⟨cq, cf⟩).symm), (by rw [stpT_go ⟨cq, cf⟩] <;> rfl)⟩
  · refine lv_iconst (v := 1) hx hb dX2_goesOn_40 (by decide) ?_
    refine lv_goto (tgt := 45) hx hb dX2_goesOn_41 (by decide) ?_
    refine lv_istore_n (lv' := [(3, .int 1), (2, .int (nqF gr st hd t)), (0, .ref (h 0)), (1, .int hd)]) hx hb dX2_goesOn_45 rfl hl (by decide) rfl (fun ls hl => ?_)
    refine lv_iload_n hx hb dX2_goesOn_46 rfl (lv_at hl 1 rfl) ?_
    refine lv_if_le (tgt := 58) hx hb dX2_goesOn_47 (by decide) (fun cq => ?_) (fun cq => ?_)
    · refine lv_iconst (v := 0) hx hb dX2_goesOn_58 (by decide) ?_
      refine lv_istore (lv' := [(4, .int 0), (3, .int 1), (2, .int (nqF gr st hd t)), (0, .ref (h 0)), (1, .int hd)]) hx hb dX2_goesOn_59 hl (by decide) rfl (fun ls hl => ?_)
      refine lv_iload hx hb dX2_goesOn_61 (lv_at hl 0 rfl) ?_
      refine lv_if_eq (tgt := 81) hx hb dX2_goesOn_63 (by decide) (fun _ => ?_) (fun h => absurd h (by decide))
      refine lv_aload_n hx hb dX2_goesOn_81 rfl (lv_at hl 3 rfl) ?_
      refine x_get E hw kf_X2_27 0 rfl rfl dX2_goesOn_82 ?_
      refine lv_iconst (v := 0) hx hb dX2_goesOn_85 (by decide) ?_
      refine x_putN E hw kf_X2_101 kp_X6_1 5 rfl (ty := .int) (by decide +kernel) rfl rfl (by simp) (ws' := [(h 0, .inr (2, [.ref (h 1), .ref (h 2), .ref (h 7), .ref (h 8)])), (h 2, .inr (5, [.int (nI L), .ref (h 3), .ref (h 4), .ref (h 5), .ref (h 6)])), (h 4, .inl (g.2.1, 200, .inl gr)), (h 5, .inl (g.2.1, 200, .inl be)), (h 6, .inl (g.2.1, 7, .inl st)), (h 7, .inr (6, [.int (nI t.1), .int 0, .int t.2.2.1, .int t.2.2.2.1, .int t.2.2.2.2.1, .int t.2.2.2.2.2.1, .int t.2.2.2.2.2.2.1, .int t.2.2.2.2.2.2.2])), (h 8, .inr (0, [.ref (h 9), .ref (h 10)])), (h 10, .inl (g.2.1, 200, .inl sq))]) rfl dX2_goesOn_86 (fun H locs hw => ?_)
      refine lv_iload_n hx hb dX2_goesOn_89 rfl (lv_at hl 2 rfl) ?_
      refine lv_if_le (tgt := 106) hx hb dX2_goesOn_90 (by decide) (fun cr => ?_) (fun cr => ?_)
      · refine lv_aload_n hx hb dX2_goesOn_106 rfl (lv_at hl 3 rfl) ?_
        refine x_go (ws' := [(h 0, .inr (2, [.ref (h 1), .ref (h 2), .ref (h 7), .ref (h 8)])), (h 2, .inr (5, [.int (nI L), .ref (h 3), .ref (h 4), .ref (h 5), .ref (h 6)])), (h 4, .inl (g.2.1, 200, .inl gr)), (h 5, .inl (g.2.1, 200, .inl be)), (h 6, .inl (g.2.1, 7, .inl st)), (h 7, .inr (6, [.int (nI ((supT L st sq (t.1, 0, t.2.2.1, t.2.2.2.1, t.2.2.2.2.1, t.2.2.2.2.2.1, t.2.2.2.2.2.2.1, t.2.2.2.2.2.2.2)).1)), .int ((supT L st sq (t.1, 0, t.2.2.1, t.2.2.2.1, t.2.2.2.2.1, t.2.2.2.2.2.1, t.2.2.2.2.2.2.1, t.2.2.2.2.2.2.2)).2.1), .int ((supT L st sq (t.1, 0, t.2.2.1, t.2.2.2.1, t.2.2.2.2.1, t.2.2.2.2.2.1, t.2.2.2.2.2.2.1, t.2.2.2.2.2.2.2)).2.2.1), .int ((supT L st sq (t.1, 0, t.2.2.1, t.2.2.2.1, t.2.2.2.2.1, t.2.2.2.2.2.1, t.2.2.2.2.2.2.1, t.2.2.2.2.2.2.2)).2.2.2.1), .int ((supT L st sq (t.1, 0, t.2.2.1, t.2.2.2.1, t.2.2.2.2.1, t.2.2.2.2.2.1, t.2.2.2.2.2.2.1, t.2.2.2.2.2.2.2)).2.2.2.2.1), .int ((supT L st sq (t.1, 0, t.2.2.1, t.2.2.2.1, t.2.2.2.2.1, t.2.2.2.2.2.1, t.2.2.2.2.2.2.1, t.2.2.2.2.2.2.2)).2.2.2.2.2.1), .int ((supT L st sq (t.1, 0, t.2.2.1, t.2.2.2.1, t.2.2.2.2.1, t.2.2.2.2.2.1, t.2.2.2.2.2.2.1, t.2.2.2.2.2.2.2)).2.2.2.2.2.2.1), .int ((supT L st sq (t.1, 0, t.2.2.1, t.2.2.2.1, t.2.2.2.2.1, t.2.2.2.2.2.1, t.2.2.2.2.2.2.1, t.2.2.2.2.2.2.2)).2.2.2.2.2.2.2)])), (h 8, .inr (0, [.ref (h 9), .ref (h 10)])), (h 10, .inl (g.2.1, 200, .inl sq))]) (st1 := []) E hw [0, 1, 4, 5, 6, 7] rfl (x_runV (rest := []) E hw (c_X2_supervises l g h L st (t.1, 0, t.2.2.1, t.2.2.2.1, t.2.2.2.2.1, t.2.2.2.2.2.1, t.2.2.2.2.2.2.1, t.2.2.2.2.2.2.2) sq (by omega) (by omega)) km_X2_88 kv_X2_supervises [0, 1, 4, 5, 6, 7] rfl (by decide) 0 rfl hl.1 rfl rfl (Nat.le_of_ble_eq_true rfl) ⟨Nat.le_of_ble_eq_true rfl, Nat.le_of_ble_eq_true rfl⟩ ⟨Nat.zero_le _, Nat.zero_le _⟩ dX2_goesOn_107) rfl rfl rfl (fun H locs hw => ?_)
        refine lv_iload hx hb dX2_goesOn_110 (lv_at hl 0 rfl) ?_
        exact xr_z hQ E hr hw dX2_goesOn_112 (by decide) ⟨congrArg (fun z => some (Value.int z)) ((bI_f (fun z => z.1 cr)).symm), (by rw [stpT_0 cr] <;> rfl)⟩
      · exact absurd cq cr
    · refine lv_iload_n hx hb dX2_goesOn_50 rfl (lv_at hl 0 rfl) ?_
      refine lv_if_ne (tgt := 58) hx hb dX2_goesOn_51 (by decide) (fun _ => ?_) (fun h => absurd h (by decide))
      refine lv_iconst (v := 0) hx hb dX2_goesOn_58 (by decide) ?_
      refine lv_istore (lv' := [(4, .int 0), (3, .int 1), (2, .int (nqF gr st hd t)), (0, .ref (h 0)), (1, .int hd)]) hx hb dX2_goesOn_59 hl (by decide) rfl (fun ls hl => ?_)
      refine lv_iload hx hb dX2_goesOn_61 (lv_at hl 0 rfl) ?_
      refine lv_if_eq (tgt := 81) hx hb dX2_goesOn_63 (by decide) (fun _ => ?_) (fun h => absurd h (by decide))
      refine lv_aload_n hx hb dX2_goesOn_81 rfl (lv_at hl 3 rfl) ?_
      refine x_get E hw kf_X2_27 0 rfl rfl dX2_goesOn_82 ?_
      refine lv_iconst (v := 0) hx hb dX2_goesOn_85 (by decide) ?_
      refine x_putN E hw kf_X2_101 kp_X6_1 5 rfl (ty := .int) (by decide +kernel) rfl rfl (by simp) (ws' := [(h 0, .inr (2, [.ref (h 1), .ref (h 2), .ref (h 7), .ref (h 8)])), (h 2, .inr (5, [.int (nI L), .ref (h 3), .ref (h 4), .ref (h 5), .ref (h 6)])), (h 4, .inl (g.2.1, 200, .inl gr)), (h 5, .inl (g.2.1, 200, .inl be)), (h 6, .inl (g.2.1, 7, .inl st)), (h 7, .inr (6, [.int (nI t.1), .int 0, .int t.2.2.1, .int t.2.2.2.1, .int t.2.2.2.2.1, .int t.2.2.2.2.2.1, .int t.2.2.2.2.2.2.1, .int t.2.2.2.2.2.2.2])), (h 8, .inr (0, [.ref (h 9), .ref (h 10)])), (h 10, .inl (g.2.1, 200, .inl sq))]) rfl dX2_goesOn_86 (fun H locs hw => ?_)
      refine lv_iload_n hx hb dX2_goesOn_89 rfl (lv_at hl 2 rfl) ?_
      refine lv_if_le (tgt := 106) hx hb dX2_goesOn_90 (by decide) (fun cr => ?_) (fun cr => ?_)
      · exact absurd cr cq
      · refine lv_aload_n hx hb dX2_goesOn_93 rfl (lv_at hl 3 rfl) ?_
        refine x_get E hw kf_X2_27 0 rfl rfl dX2_goesOn_94 ?_
        refine lv_dup hx hb dX2_goesOn_97 rfl ?_
        refine x_getN E hw kf_X2_114 5 rfl rfl dX2_goesOn_98 ?_
        refine lv_iconst (v := 1) hx hb dX2_goesOn_101 (by decide) ?_
        refine lv_iadd hx hb dX2_goesOn_102 ?_
        refine x_putN E hw kf_X2_114 kp_X6_6 5 rfl (ty := .int) (by decide +kernel) rfl rfl (by simp) (ws' := [(h 0, .inr (2, [.ref (h 1), .ref (h 2), .ref (h 7), .ref (h 8)])), (h 2, .inr (5, [.int (nI L), .ref (h 3), .ref (h 4), .ref (h 5), .ref (h 6)])), (h 4, .inl (g.2.1, 200, .inl gr)), (h 5, .inl (g.2.1, 200, .inl be)), (h 6, .inl (g.2.1, 7, .inl st)), (h 7, .inr (6, [.int (nI t.1), .int 0, .int t.2.2.1, .int t.2.2.2.1, .int t.2.2.2.2.1, .int t.2.2.2.2.2.1, .int (t.2.2.2.2.2.2.1 + 1), .int t.2.2.2.2.2.2.2])), (h 8, .inr (0, [.ref (h 9), .ref (h 10)])), (h 10, .inl (g.2.1, 200, .inl sq))]) rfl dX2_goesOn_103 (fun H locs hw => ?_)
        refine lv_aload_n hx hb dX2_goesOn_106 rfl (lv_at hl 3 rfl) ?_
        refine x_go (ws' := [(h 0, .inr (2, [.ref (h 1), .ref (h 2), .ref (h 7), .ref (h 8)])), (h 2, .inr (5, [.int (nI L), .ref (h 3), .ref (h 4), .ref (h 5), .ref (h 6)])), (h 4, .inl (g.2.1, 200, .inl gr)), (h 5, .inl (g.2.1, 200, .inl be)), (h 6, .inl (g.2.1, 7, .inl st)), (h 7, .inr (6, [.int (nI ((supT L st sq (t.1, 0, t.2.2.1, t.2.2.2.1, t.2.2.2.2.1, t.2.2.2.2.2.1, t.2.2.2.2.2.2.1 + 1, t.2.2.2.2.2.2.2)).1)), .int ((supT L st sq (t.1, 0, t.2.2.1, t.2.2.2.1, t.2.2.2.2.1, t.2.2.2.2.2.1, t.2.2.2.2.2.2.1 + 1, t.2.2.2.2.2.2.2)).2.1), .int ((supT L st sq (t.1, 0, t.2.2.1, t.2.2.2.1, t.2.2.2.2.1, t.2.2.2.2.2.1, t.2.2.2.2.2.2.1 + 1, t.2.2.2.2.2.2.2)).2.2.1), .int ((supT L st sq (t.1, 0, t.2.2.1, t.2.2.2.1, t.2.2.2.2.1, t.2.2.2.2.2.1, t.2.2.2.2.2.2.1 + 1, t.2.2.2.2.2.2.2)).2.2.2.1), .int ((supT L st sq (t.1, 0, t.2.2.1, t.2.2.2.1, t.2.2.2.2.1, t.2.2.2.2.2.1, t.2.2.2.2.2.2.1 + 1, t.2.2.2.2.2.2.2)).2.2.2.2.1), .int ((supT L st sq (t.1, 0, t.2.2.1, t.2.2.2.1, t.2.2.2.2.1, t.2.2.2.2.2.1, t.2.2.2.2.2.2.1 + 1, t.2.2.2.2.2.2.2)).2.2.2.2.2.1), .int ((supT L st sq (t.1, 0, t.2.2.1, t.2.2.2.1, t.2.2.2.2.1, t.2.2.2.2.2.1, t.2.2.2.2.2.2.1 + 1, t.2.2.2.2.2.2.2)).2.2.2.2.2.2.1), .int ((supT L st sq (t.1, 0, t.2.2.1, t.2.2.2.1, t.2.2.2.2.1, t.2.2.2.2.2.1, t.2.2.2.2.2.2.1 + 1, t.2.2.2.2.2.2.2)).2.2.2.2.2.2.2)])), (h 8, .inr (0, [.ref (h 9), .ref (h 10)])), (h 10, .inl (g.2.1, 200, .inl sq))]) (st1 := []) E hw [0, 1, 4, 5, 6, 7] rfl (x_runV (rest := []) E hw (c_X2_supervises l g h L st (t.1, 0, t.2.2.1, t.2.2.2.1, t.2.2.2.2.1, t.2.2.2.2.2.1, t.2.2.2.2.2.2.1 + 1, t.2.2.2.2.2.2.2) sq (by omega) (by omega)) km_X2_88 kv_X2_supervises [0, 1, 4, 5, 6, 7] rfl (by decide) 0 rfl hl.1 rfl rfl (Nat.le_of_ble_eq_true rfl) ⟨Nat.le_of_ble_eq_true rfl, Nat.le_of_ble_eq_true rfl⟩ ⟨Nat.zero_le _, Nat.zero_le _⟩ dX2_goesOn_107) rfl rfl rfl (fun H locs hw => ?_)
        refine lv_iload hx hb dX2_goesOn_110 (lv_at hl 0 rfl) ?_
        exact xr_z hQ E hr hw dX2_goesOn_112 (by decide) ⟨congrArg (fun z => some (Value.int z)) ((bI_f (fun z => absurd z.2 (by omega))).symm), (by rw [stpT_end cr (by omega)] <;> rfl)⟩

set_option maxRecDepth 100000 in
set_option maxHeartbeats 4000000 in
theorem c_X2_driverHandle (l : Launch) (g : xCfg) (h : Nat → Nat) (L : Nat) (gr : Nat → Int32) (st : Nat → Int32) (t : TV) (sq : Nat → Int32) (hL1 : 1 ≤ L) (hL : L ≤ 200) (hf : t.1 < 200) : Ct l g yX2_driverHandle cX2_driverHandle 4 (some .int) (xR 3 58) [.ref (h 0)] [(h 0, .inr (2, [.ref (h 1), .ref (h 2), .ref (h 7), .ref (h 8)])), (h 2, .inr (5, [.int (nI L), .ref (h 3), .ref (h 4), .ref (h 5), .ref (h 6)])), (h 4, .inl (g.2.1, 200, .inl gr)), (h 6, .inl (g.2.1, 7, .inl st)), (h 7, .inr (6, [.int (nI t.1), .int t.2.1, .int t.2.2.1, .int t.2.2.2.1, .int t.2.2.2.2.1, .int t.2.2.2.2.2.1, .int t.2.2.2.2.2.2.1, .int t.2.2.2.2.2.2.2])), (h 8, .inr (0, [.ref (h 9), .ref (h 10)])), (h 10, .inl (g.2.1, 200, .inl sq))] (is1 (some (.int (drvH L gr st sq t))) [(h 0, .inr (2, [.ref (h 1), .ref (h 2), .ref (h 7), .ref (h 8)])), (h 2, .inr (5, [.int (nI L), .ref (h 3), .ref (h 4), .ref (h 5), .ref (h 6)])), (h 4, .inl (g.2.1, 200, .inl gr)), (h 6, .inl (g.2.1, 7, .inl st)), (h 7, .inr (6, [.int (nI t.1), .int t.2.1, .int t.2.2.1, .int t.2.2.2.1, .int t.2.2.2.2.1, .int t.2.2.2.2.2.1, .int t.2.2.2.2.2.2.1, .int t.2.2.2.2.2.2.2])), (h 8, .inr (0, [.ref (h 9), .ref (h 10)])), (h 10, .inl (g.2.1, 200, .inl sq))]) := by
  refine Ct.walk (by decide) (Nat.le_of_ble_eq_true rfl) ?_
  intro p0 e0 s0 m0 below meth c0 A0 ls Q hQ E hr hnm hw hl
  have hx := E.x
  have hb := E.b
  have hl : lv_has ls 4 [(0, .ref (h 0))] := hl
  refine lv_aload_n hx hb dX2_driverHandle_0 rfl (lv_at hl 0 rfl) ?_
  refine x_go (ws' := [(h 0, .inr (2, [.ref (h 1), .ref (h 2), .ref (h 7), .ref (h 8)])), (h 2, .inr (5, [.int (nI L), .ref (h 3), .ref (h 4), .ref (h 5), .ref (h 6)])), (h 4, .inl (g.2.1, 200, .inl gr)), (h 6, .inl (g.2.1, 7, .inl st)), (h 7, .inr (6, [.int (nI t.1), .int t.2.1, .int t.2.2.1, .int t.2.2.2.1, .int t.2.2.2.2.1, .int t.2.2.2.2.2.1, .int t.2.2.2.2.2.2.1, .int t.2.2.2.2.2.2.2])), (h 8, .inr (0, [.ref (h 9), .ref (h 10)])), (h 10, .inl (g.2.1, 200, .inl sq))]) (st1 := [.int (nI (kpt L ((t.2.2.2.2.1 + 999) / 1000)))]) E hw [0, 1, 4] rfl (x_runV (rest := []) E hw (c_X2_spanLast l g h L t (by omega) (by omega)) km_X2_126 kv_X2_spanLast [0, 1, 4] rfl (by decide) 0 rfl hl.1 rfl rfl (Nat.le_of_ble_eq_true rfl) ⟨Nat.le_of_ble_eq_true rfl, Nat.le_of_ble_eq_true rfl⟩ ⟨Nat.zero_le _, Nat.zero_le _⟩ dX2_driverHandle_1) rfl rfl rfl (fun H locs hw => ?_)
  refine lv_iconst (v := 1) hx hb dX2_driverHandle_4 (by decide) ?_
  refine xn_add hx hb (kpt L ((t.2.2.2.2.1 + 999) / 1000)) 1 rfl rfl dX2_driverHandle_5 ?_
  refine lv_aload_n hx hb dX2_driverHandle_6 rfl (lv_at hl 0 rfl) ?_
  refine x_get E hw kf_X2_22 0 rfl rfl dX2_driverHandle_7 ?_
  refine x_getN E hw kf_X2_74 1 rfl rfl dX2_driverHandle_10 ?_
  refine lv_iconst (v := 1) hx hb dX2_driverHandle_13 (by decide) ?_
  refine xn_sub hx hb L 1 rfl rfl (by omega) dX2_driverHandle_14 ?_
  refine x_min E km_X2_129 hl.1 (Nat.le_of_ble_eq_true rfl) (Nat.le_of_ble_eq_true rfl) ⟨Nat.zero_le _, Nat.zero_le _⟩ dX2_driverHandle_15 ?_
  refine x_top (v' := .int (nI (min (kpt L ((t.2.2.2.2.1 + 999) / 1000) + 1) (L - 1)))) (congrArg Value.int (minN (by have := kpt_lt (x := (t.2.2.2.2.1 + 999) / 1000) hL1 hL; omega) (by omega))) ?_
  refine lv_istore_n (lv' := [(1, .int (nI (min (kpt L ((t.2.2.2.2.1 + 999) / 1000) + 1) (L - 1)))), (0, .ref (h 0))]) hx hb dX2_driverHandle_18 rfl hl (by decide) rfl (fun ls hl => ?_)
  refine lv_aload_n hx hb dX2_driverHandle_19 rfl (lv_at hl 1 rfl) ?_
  refine x_get E hw kf_X2_31 0 rfl rfl dX2_driverHandle_20 ?_
  refine lv_aload_n hx hb dX2_driverHandle_23 rfl (lv_at hl 1 rfl) ?_
  refine x_go (ws' := [(h 0, .inr (2, [.ref (h 1), .ref (h 2), .ref (h 7), .ref (h 8)])), (h 2, .inr (5, [.int (nI L), .ref (h 3), .ref (h 4), .ref (h 5), .ref (h 6)])), (h 4, .inl (g.2.1, 200, .inl gr)), (h 6, .inl (g.2.1, 7, .inl st)), (h 7, .inr (6, [.int (nI t.1), .int t.2.1, .int t.2.2.1, .int t.2.2.2.1, .int t.2.2.2.2.1, .int t.2.2.2.2.2.1, .int t.2.2.2.2.2.2.1, .int t.2.2.2.2.2.2.2])), (h 8, .inr (0, [.ref (h 9), .ref (h 10)])), (h 10, .inl (g.2.1, 200, .inl sq))]) (st1 := [.int (nI (kpt L (t.2.2.2.1 / 1000))), .ref (h 8)]) E hw [0, 1, 4] rfl (x_runV (rest := [.ref (h 8)]) E hw (c_X2_spanFirst l g h L t (by omega) (by omega)) km_X2_134 kv_X2_spanFirst [0, 1, 4] rfl (by decide) 0 rfl hl.1 rfl rfl (Nat.le_of_ble_eq_true rfl) ⟨Nat.le_of_ble_eq_true rfl, Nat.le_of_ble_eq_true rfl⟩ ⟨Nat.zero_le _, Nat.zero_le _⟩ dX2_driverHandle_24) rfl rfl rfl (fun H locs hw => ?_)
  refine lv_iload_n hx hb dX2_driverHandle_27 rfl (lv_at hl 0 rfl) ?_
  refine x_go (ws' := [(h 0, .inr (2, [.ref (h 1), .ref (h 2), .ref (h 7), .ref (h 8)])), (h 2, .inr (5, [.int (nI L), .ref (h 3), .ref (h 4), .ref (h 5), .ref (h 6)])), (h 4, .inl (g.2.1, 200, .inl gr)), (h 6, .inl (g.2.1, 7, .inl st)), (h 7, .inr (6, [.int (nI t.1), .int t.2.1, .int t.2.2.1, .int t.2.2.2.1, .int t.2.2.2.2.1, .int t.2.2.2.2.2.1, .int t.2.2.2.2.2.2.1, .int t.2.2.2.2.2.2.2])), (h 8, .inr (0, [.ref (h 9), .ref (h 10)])), (h 10, .inl (g.2.1, 200, .inl sq))]) (st1 := [.int (lsq sq (kpt L (t.2.2.2.1 / 1000)) ((min (kpt L ((t.2.2.2.2.1 + 999) / 1000) + 1) (L - 1)) - (kpt L (t.2.2.2.1 / 1000))))]) E hw [5, 6] rfl (x_runVN (rest := []) E hw (c_X0_leastSquare l g h sq (kpt L (t.2.2.2.1 / 1000)) (min (kpt L ((t.2.2.2.2.1 + 999) / 1000) + 1) (L - 1)) (Nat.lt_of_lt_of_le (kpt_lt hL1 hL) hL) (by have := Nat.min_le_right (kpt L ((t.2.2.2.2.1 + 999) / 1000) + 1) (L - 1); omega)) km_X2_137 kv_X0_leastSquare [5, 6] rfl (by decide) 5 rfl hl.1 rfl rfl (Nat.le_of_ble_eq_true rfl) ⟨Nat.le_of_ble_eq_true rfl, Nat.le_of_ble_eq_true rfl⟩ ⟨Nat.zero_le _, Nat.zero_le _⟩ dX2_driverHandle_28) rfl rfl rfl (fun H locs hw => ?_)
  refine x_top (v' := .int (mostF L sq t)) rfl ?_
  refine lv_istore_n (lv' := [(2, .int (mostF L sq t)), (1, .int (nI (min (kpt L ((t.2.2.2.2.1 + 999) / 1000) + 1) (L - 1)))), (0, .ref (h 0))]) hx hb dX2_driverHandle_31 rfl hl (by decide) rfl (fun ls hl => ?_)
  refine lv_iconst (v := 1) hx hb dX2_driverHandle_32 (by decide) ?_
  refine lv_istore_n (lv' := [(3, .int 1), (2, .int (mostF L sq t)), (1, .int (nI (min (kpt L ((t.2.2.2.2.1 + 999) / 1000) + 1) (L - 1)))), (0, .ref (h 0))]) hx hb dX2_driverHandle_33 rfl hl (by decide) rfl (fun ls hl => ?_)
  refine lv_iload_n hx hb dX2_driverHandle_34 rfl (lv_at hl 0 rfl) ?_
  refine lv_if_lt (tgt := 64) hx hb dX2_driverHandle_35 (by decide) (fun h => absurd h (by decide)) (fun _ => ?_)
  refine lv_aload_n hx hb dX2_driverHandle_38 rfl (lv_at hl 3 rfl) ?_
  refine x_get E hw kf_X2_27 0 rfl rfl dX2_driverHandle_39 ?_
  refine x_getN E hw kf_X2_101 4 rfl rfl dX2_driverHandle_42 ?_
  refine lv_aload_n hx hb dX2_driverHandle_45 rfl (lv_at hl 3 rfl) ?_
  refine lv_iconst (v := 0) hx hb dX2_driverHandle_46 (by decide) ?_
  refine lv_iload_n hx hb dX2_driverHandle_47 rfl (lv_at hl 0 rfl) ?_
  refine x_go (ws' := [(h 0, .inr (2, [.ref (h 1), .ref (h 2), .ref (h 7), .ref (h 8)])), (h 2, .inr (5, [.int (nI L), .ref (h 3), .ref (h 4), .ref (h 5), .ref (h 6)])), (h 4, .inl (g.2.1, 200, .inl gr)), (h 6, .inl (g.2.1, 7, .inl st)), (h 7, .inr (6, [.int (nI t.1), .int t.2.1, .int t.2.2.1, .int t.2.2.2.1, .int t.2.2.2.2.1, .int t.2.2.2.2.2.1, .int t.2.2.2.2.2.2.1, .int t.2.2.2.2.2.2.2])), (h 8, .inr (0, [.ref (h 9), .ref (h 10)])), (h 10, .inl (g.2.1, 200, .inl sq))]) (st1 := [.int (gnF 0 1 (st 0) (st 1) (gr t.1)), .int t.2.1]) E hw [0, 1, 2, 3, 4] rfl (x_runV (rest := [.int t.2.1]) E hw (c_X2_gain l g h L gr st t 0 1 (by omega)) km_X2_104 kv_X2_gain [0, 1, 2, 3, 4] rfl (by decide) 0 rfl hl.1 rfl rfl (Nat.le_of_ble_eq_true rfl) ⟨Nat.le_of_ble_eq_true rfl, Nat.le_of_ble_eq_true rfl⟩ ⟨Nat.zero_le _, Nat.zero_le _⟩ dX2_driverHandle_48) rfl rfl rfl (fun H locs hw => ?_)
  refine lv_iadd hx hb dX2_driverHandle_51 ?_
  refine lv_iload_n hx hb dX2_driverHandle_52 rfl (lv_at hl 1 rfl) ?_
  refine lv_icmp_gt (tgt := 58) hx hb dX2_driverHandle_53 (by decide) (fun c_2 => ?_) (fun c_2 => ?_)
  · refine lv_iinc (v := 0) (lv' := [(3, .int 0), (2, .int (mostF L sq t)), (1, .int (nI (min (kpt L ((t.2.2.2.2.1 + 999) / 1000) + 1) (L - 1)))), (0, .ref (h 0))]) hx hb dX2_driverHandle_58 hl (k := 0) rfl (by decide) (by decide) rfl (fun ls hl => ?_)
    refine lv_goto (tgt := 34) hx hb dX2_driverHandle_61 (by decide) ?_
    refine lv_iload_n hx hb dX2_driverHandle_34 rfl (lv_at hl 0 rfl) ?_
    refine lv_if_lt (tgt := 64) hx hb dX2_driverHandle_35 (by decide) (fun h => absurd h (by decide)) (fun _ => ?_)
    refine lv_aload_n hx hb dX2_driverHandle_38 rfl (lv_at hl 3 rfl) ?_
    refine x_get E hw kf_X2_27 0 rfl rfl dX2_driverHandle_39 ?_
    refine x_getN E hw kf_X2_101 4 rfl rfl dX2_driverHandle_42 ?_
    refine lv_aload_n hx hb dX2_driverHandle_45 rfl (lv_at hl 3 rfl) ?_
    refine lv_iconst (v := 0) hx hb dX2_driverHandle_46 (by decide) ?_
    refine lv_iload_n hx hb dX2_driverHandle_47 rfl (lv_at hl 0 rfl) ?_
    refine x_go (ws' := [(h 0, .inr (2, [.ref (h 1), .ref (h 2), .ref (h 7), .ref (h 8)])), (h 2, .inr (5, [.int (nI L), .ref (h 3), .ref (h 4), .ref (h 5), .ref (h 6)])), (h 4, .inl (g.2.1, 200, .inl gr)), (h 6, .inl (g.2.1, 7, .inl st)), (h 7, .inr (6, [.int (nI t.1), .int t.2.1, .int t.2.2.1, .int t.2.2.2.1, .int t.2.2.2.2.1, .int t.2.2.2.2.2.1, .int t.2.2.2.2.2.2.1, .int t.2.2.2.2.2.2.2])), (h 8, .inr (0, [.ref (h 9), .ref (h 10)])), (h 10, .inl (g.2.1, 200, .inl sq))]) (st1 := [.int (gnF 0 0 (st 0) (st 1) (gr t.1)), .int t.2.1]) E hw [0, 1, 2, 3, 4] rfl (x_runV (rest := [.int t.2.1]) E hw (c_X2_gain l g h L gr st t 0 0 (by omega)) km_X2_104 kv_X2_gain [0, 1, 2, 3, 4] rfl (by decide) 0 rfl hl.1 rfl rfl (Nat.le_of_ble_eq_true rfl) ⟨Nat.le_of_ble_eq_true rfl, Nat.le_of_ble_eq_true rfl⟩ ⟨Nat.zero_le _, Nat.zero_le _⟩ dX2_driverHandle_48) rfl rfl rfl (fun H locs hw => ?_)
    refine lv_iadd hx hb dX2_driverHandle_51 ?_
    refine lv_iload_n hx hb dX2_driverHandle_52 rfl (lv_at hl 1 rfl) ?_
    refine lv_icmp_gt (tgt := 58) hx hb dX2_driverHandle_53 (by decide) (fun c_4 => ?_) (fun c_4 => ?_)
    · refine lv_iinc (v := -1) (lv' := [(3, .int (-1)), (2, .int (mostF L sq t)), (1, .int (nI (min (kpt L ((t.2.2.2.2.1 + 999) / 1000) + 1) (L - 1)))), (0, .ref (h 0))]) hx hb dX2_driverHandle_58 hl (k := 0) rfl (by decide) (by decide) rfl (fun ls hl => ?_)
      refine lv_goto (tgt := 34) hx hb dX2_driverHandle_61 (by decide) ?_
      refine lv_iload_n hx hb dX2_driverHandle_34 rfl (lv_at hl 0 rfl) ?_
      refine lv_if_lt (tgt := 64) hx hb dX2_driverHandle_35 (by decide) (fun _ => ?_) (fun h => absurd h (by decide))
      refine lv_iconst (v := -1) hx hb dX2_driverHandle_64 (by decide) ?_
      exact xr_i hQ E hr hw dX2_driverHandle_65 ⟨congrArg (fun z => some (Value.int z)) (by simp only [drvH, if_pos c_2, if_pos c_4]), rfl⟩
    · refine lv_iload_n hx hb dX2_driverHandle_56 rfl (lv_at hl 0 rfl) ?_
      exact xr_i hQ E hr hw dX2_driverHandle_57 ⟨congrArg (fun z => some (Value.int z)) (by simp only [drvH, if_pos c_2, if_neg c_4]), rfl⟩
  · refine lv_iload_n hx hb dX2_driverHandle_56 rfl (lv_at hl 0 rfl) ?_
    exact xr_i hQ E hr hw dX2_driverHandle_57 ⟨congrArg (fun z => some (Value.int z)) (by simp only [drvH, if_neg c_2]), rfl⟩

set_option maxRecDepth 100000 in
set_option maxHeartbeats 4000000 in
theorem c_X2_stepsOnce_ok (l : Launch) (g : xCfg) (h : Nat → Nat) (L : Nat) (gr : Nat → Int32) (be : Nat → Int32) (st : Nat → Int32) (t : TV) (sq : Nat → Int32) (hd : Int32) (hL : L ≤ 200) (hf : t.1 < L) (h1 : -1 ≤ hd) (h2 : hd ≤ 1) : Ct l g yX2_stepsOnce cX2_stepsOnce 2 (some .int) (xR 6 120) [.ref (h 0), .int hd] [(h 0, .inr (2, [.ref (h 1), .ref (h 2), .ref (h 7), .ref (h 8)])), (h 2, .inr (5, [.int (nI L), .ref (h 3), .ref (h 4), .ref (h 5), .ref (h 6)])), (h 4, .inl (g.2.1, 200, .inl gr)), (h 5, .inl (g.2.1, 200, .inl be)), (h 6, .inl (g.2.1, 7, .inl st)), (h 7, .inr (6, [.int (nI t.1), .int t.2.1, .int t.2.2.1, .int t.2.2.2.1, .int t.2.2.2.2.1, .int t.2.2.2.2.2.1, .int t.2.2.2.2.2.2.1, .int t.2.2.2.2.2.2.2])), (h 8, .inr (0, [.ref (h 9), .ref (h 10)])), (h 10, .inl (g.2.1, 200, .inl sq))] (is1 (some (.int (bI (stpP L gr st hd t)))) [(h 0, .inr (2, [.ref (h 1), .ref (h 2), .ref (h 7), .ref (h 8)])), (h 2, .inr (5, [.int (nI L), .ref (h 3), .ref (h 4), .ref (h 5), .ref (h 6)])), (h 4, .inl (g.2.1, 200, .inl gr)), (h 5, .inl (g.2.1, 200, .inl be)), (h 6, .inl (g.2.1, 7, .inl st)), (h 7, .inr (6, [.int (nI ((stpT L gr be st sq hd t).1)), .int ((stpT L gr be st sq hd t).2.1), .int ((stpT L gr be st sq hd t).2.2.1), .int ((stpT L gr be st sq hd t).2.2.2.1), .int ((stpT L gr be st sq hd t).2.2.2.2.1), .int ((stpT L gr be st sq hd t).2.2.2.2.2.1), .int ((stpT L gr be st sq hd t).2.2.2.2.2.2.1), .int ((stpT L gr be st sq hd t).2.2.2.2.2.2.2)])), (h 8, .inr (0, [.ref (h 9), .ref (h 10)])), (h 10, .inl (g.2.1, 200, .inl sq))]) := by
  refine Ct.walk (by decide) (Nat.le_of_ble_eq_true rfl) ?_
  intro p0 e0 s0 m0 below meth c0 A0 ls Q hQ E hr hnm hw hl
  have hx := E.x
  have hb := E.b
  have hl : lv_has ls 2 [(0, .ref (h 0)), (1, .int hd)] := hl
  refine lv_iload_n hx hb dX2_stepsOnce_0 rfl (lv_at hl 1 rfl) ?_
  refine lv_iconst (v := -1) hx hb dX2_stepsOnce_1 (by decide) ?_
  refine lv_iconst (v := 1) hx hb dX2_stepsOnce_2 (by decide) ?_
  refine x_go (ws' := [(h 0, .inr (2, [.ref (h 1), .ref (h 2), .ref (h 7), .ref (h 8)])), (h 2, .inr (5, [.int (nI L), .ref (h 3), .ref (h 4), .ref (h 5), .ref (h 6)])), (h 4, .inl (g.2.1, 200, .inl gr)), (h 5, .inl (g.2.1, 200, .inl be)), (h 6, .inl (g.2.1, 7, .inl st)), (h 7, .inr (6, [.int (nI t.1), .int t.2.1, .int t.2.2.1, .int t.2.2.2.1, .int t.2.2.2.2.1, .int t.2.2.2.2.2.1, .int t.2.2.2.2.2.2.1, .int t.2.2.2.2.2.2.2])), (h 8, .inr (0, [.ref (h 9), .ref (h 10)])), (h 10, .inl (g.2.1, 200, .inl sq))]) (st1 := [.int 1]) E hw [] rfl (x_runSN (rest := []) E hw (c_X7_within_ok l g hd (-1) 1 h1 h2) km_X2_84 ks_X7_within [] rfl (by decide) hl.1 rfl rfl (Nat.le_of_ble_eq_true rfl) ⟨Nat.le_of_ble_eq_true rfl, Nat.le_of_ble_eq_true rfl⟩ ⟨Nat.zero_le _, Nat.zero_le _⟩ dX2_stepsOnce_3) rfl rfl rfl (fun H locs hw => ?_)
  refine lv_if_ne (tgt := 12) hx hb dX2_stepsOnce_6 (by decide) (fun _ => ?_) (fun h => absurd h (by decide))
  refine lv_aload_n hx hb dX2_stepsOnce_12 rfl (lv_at hl 0 rfl) ?_
  refine lv_iload_n hx hb dX2_stepsOnce_13 rfl (lv_at hl 1 rfl) ?_
  refine x_go (ws' := [(h 0, .inr (2, [.ref (h 1), .ref (h 2), .ref (h 7), .ref (h 8)])), (h 2, .inr (5, [.int (nI L), .ref (h 3), .ref (h 4), .ref (h 5), .ref (h 6)])), (h 4, .inl (g.2.1, 200, .inl gr)), (h 5, .inl (g.2.1, 200, .inl be)), (h 6, .inl (g.2.1, 7, .inl st)), (h 7, .inr (6, [.int (nI ((stpT L gr be st sq hd t).1)), .int ((stpT L gr be st sq hd t).2.1), .int ((stpT L gr be st sq hd t).2.2.1), .int ((stpT L gr be st sq hd t).2.2.2.1), .int ((stpT L gr be st sq hd t).2.2.2.2.1), .int ((stpT L gr be st sq hd t).2.2.2.2.2.1), .int ((stpT L gr be st sq hd t).2.2.2.2.2.2.1), .int ((stpT L gr be st sq hd t).2.2.2.2.2.2.2)])), (h 8, .inr (0, [.ref (h 9), .ref (h 10)])), (h 10, .inl (g.2.1, 200, .inl sq))]) (st1 := [.int (bI (stpP L gr st hd t))]) E hw [0, 1, 2, 3, 4, 5, 6, 7] rfl (x_runV (rest := []) E hw (c_X2_goesOn l g h L gr be st t sq hd (by omega) (by omega)) km_X2_94 kv_X2_goesOn [0, 1, 2, 3, 4, 5, 6, 7] rfl (by decide) 0 rfl hl.1 rfl rfl (Nat.le_of_ble_eq_true rfl) ⟨Nat.le_of_ble_eq_true rfl, Nat.le_of_ble_eq_true rfl⟩ ⟨Nat.zero_le _, Nat.zero_le _⟩ dX2_stepsOnce_14) rfl rfl rfl (fun H locs hw => ?_)
  refine xb_eq (tgt := 24) hx hb dX2_stepsOnce_17 (by decide) (fun cb => ?_) (fun cb => ?_)
  · refine lv_iconst (v := 0) hx hb dX2_stepsOnce_24 (by decide) ?_
    exact xr_i hQ E hr hw dX2_stepsOnce_25 ⟨congrArg (fun z => some (Value.int z)) ((bI_f cb).symm), rfl⟩
  · refine lv_iconst (v := 1) hx hb dX2_stepsOnce_20 (by decide) ?_
    refine lv_goto (tgt := 25) hx hb dX2_stepsOnce_21 (by decide) ?_
    exact xr_i hQ E hr hw dX2_stepsOnce_25 ⟨congrArg (fun z => some (Value.int z)) ((bI_t cb).symm), rfl⟩

set_option maxRecDepth 100000 in
set_option maxHeartbeats 4000000 in
theorem c_X2_stepsByDriver_ok (l : Launch) (g : xCfg) (h : Nat → Nat) (L : Nat) (gr : Nat → Int32) (be : Nat → Int32) (st : Nat → Int32) (t : TV) (sq : Nat → Int32) (m : Nat) (hL : L ≤ 200) (hf : t.1 < L) (h1 : 1 ≤ m) (h2 : m ≤ 50) : Ct l g yX2_stepsByDriver cX2_stepsByDriver 3 (some .int) (xR 6 120) [.ref (h 0), .int (nI m)] [(h 0, .inr (2, [.ref (h 1), .ref (h 2), .ref (h 7), .ref (h 8)])), (h 2, .inr (5, [.int (nI L), .ref (h 3), .ref (h 4), .ref (h 5), .ref (h 6)])), (h 4, .inl (g.2.1, 200, .inl gr)), (h 5, .inl (g.2.1, 200, .inl be)), (h 6, .inl (g.2.1, 7, .inl st)), (h 7, .inr (6, [.int (nI t.1), .int t.2.1, .int t.2.2.1, .int t.2.2.2.1, .int t.2.2.2.2.1, .int t.2.2.2.2.2.1, .int t.2.2.2.2.2.2.1, .int t.2.2.2.2.2.2.2])), (h 8, .inr (0, [.ref (h 9), .ref (h 10)])), (h 10, .inl (g.2.1, 200, .inl sq))] (is1 (some (.int (nI ((drvT L gr be st sq m t).1)))) [(h 0, .inr (2, [.ref (h 1), .ref (h 2), .ref (h 7), .ref (h 8)])), (h 2, .inr (5, [.int (nI L), .ref (h 3), .ref (h 4), .ref (h 5), .ref (h 6)])), (h 4, .inl (g.2.1, 200, .inl gr)), (h 5, .inl (g.2.1, 200, .inl be)), (h 6, .inl (g.2.1, 7, .inl st)), (h 7, .inr (6, [.int (nI (((drvT L gr be st sq m t).2).1)), .int (((drvT L gr be st sq m t).2).2.1), .int (((drvT L gr be st sq m t).2).2.2.1), .int (((drvT L gr be st sq m t).2).2.2.2.1), .int (((drvT L gr be st sq m t).2).2.2.2.2.1), .int (((drvT L gr be st sq m t).2).2.2.2.2.2.1), .int (((drvT L gr be st sq m t).2).2.2.2.2.2.2.1), .int (((drvT L gr be st sq m t).2).2.2.2.2.2.2.2)])), (h 8, .inr (0, [.ref (h 9), .ref (h 10)])), (h 10, .inl (g.2.1, 200, .inl sq))]) := by
  refine Ct.walk (by decide) (Nat.le_of_ble_eq_true rfl) ?_
  intro p0 e0 s0 m0 below meth c0 A0 ls Q hQ E hr hnm hw hl
  have hx := E.x
  have hb := E.b
  have hl : lv_has ls 3 [(0, .ref (h 0)), (1, .int (nI m))] := hl
  refine lv_iload_n hx hb dX2_stepsByDriver_0 rfl (lv_at hl 1 rfl) ?_
  refine lv_iconst (v := 1) hx hb dX2_stepsByDriver_1 (by decide) ?_
  refine lv_bipush (v := 50) hx hb dX2_stepsByDriver_2 (by decide) ?_
  refine x_go (ws' := [(h 0, .inr (2, [.ref (h 1), .ref (h 2), .ref (h 7), .ref (h 8)])), (h 2, .inr (5, [.int (nI L), .ref (h 3), .ref (h 4), .ref (h 5), .ref (h 6)])), (h 4, .inl (g.2.1, 200, .inl gr)), (h 5, .inl (g.2.1, 200, .inl be)), (h 6, .inl (g.2.1, 7, .inl st)), (h 7, .inr (6, [.int (nI t.1), .int t.2.1, .int t.2.2.1, .int t.2.2.2.1, .int t.2.2.2.2.1, .int t.2.2.2.2.2.1, .int t.2.2.2.2.2.2.1, .int t.2.2.2.2.2.2.2])), (h 8, .inr (0, [.ref (h 9), .ref (h 10)])), (h 10, .inl (g.2.1, 200, .inl sq))]) (st1 := [.int 1]) E hw [] rfl (x_runSN (rest := []) E hw (c_X7_within_ok l g (nI m) 1 50 (nI_le (a := 1) h1 (by omega)) (nI_le (b := 50) h2 (by decide))) km_X2_84 ks_X7_within [] rfl (by decide) hl.1 rfl rfl (Nat.le_of_ble_eq_true rfl) ⟨Nat.le_of_ble_eq_true rfl, Nat.le_of_ble_eq_true rfl⟩ ⟨Nat.zero_le _, Nat.zero_le _⟩ dX2_stepsByDriver_4) rfl rfl rfl (fun H locs hw => ?_)
  refine lv_if_ne (tgt := 13) hx hb dX2_stepsByDriver_7 (by decide) (fun _ => ?_) (fun h => absurd h (by decide))
  refine lv_iconst (v := 0) hx hb dX2_stepsByDriver_13 (by decide) ?_
  refine lv_istore_n (lv' := [(2, .int 0), (0, .ref (h 0)), (1, .int (nI m))]) hx hb dX2_stepsByDriver_14 rfl hl (by decide) rfl (fun ls hl => ?_)
  have lp_15 : ∀ (fuel : Nat) (k : Nat) (u : TV), m - k < fuel → k ≤ m → u.1 < L → k + (drvT L gr be st sq (m - k) u).1 = (drvT L gr be st sq m t).1 ∧ (drvT L gr be st sq (m - k) u).2 = (drvT L gr be st sq m t).2 → ∀ (H : Heap) (locs : List Loc) (ls : Array Slot), xW g A0 s0 [(h 0, .inr (2, [.ref (h 1), .ref (h 2), .ref (h 7), .ref (h 8)])), (h 2, .inr (5, [.int (nI L), .ref (h 3), .ref (h 4), .ref (h 5), .ref (h 6)])), (h 4, .inl (g.2.1, 200, .inl gr)), (h 5, .inl (g.2.1, 200, .inl be)), (h 6, .inl (g.2.1, 7, .inl st)), (h 7, .inr (6, [.int (nI u.1), .int u.2.1, .int u.2.2.1, .int u.2.2.2.1, .int u.2.2.2.2.1, .int u.2.2.2.2.2.1, .int u.2.2.2.2.2.2.1, .int u.2.2.2.2.2.2.2])), (h 8, .inr (0, [.ref (h 9), .ref (h 10)])), (h 10, .inl (g.2.1, 200, .inl sq))] H locs → lv_has ls 3 [(2, .int (nI k)), (0, .ref (h 0)), (1, .int (nI m))] → W p0 l e0 (xR 6 120) s0 m0 [.ref (h 0), .int (nI m)].toArray below meth c0 H locs 0 0 Q (F0 m0 15 ls []) := by
    intro fuel
    induction fuel with
    | zero => intro k u hm; exact absurd hm (Nat.not_lt_zero _)
    | succ fuel ih =>
      intro k u hm hk hu hi H locs ls hw hl
      refine lv_iload_n hx hb dX2_stepsByDriver_15 rfl (lv_at hl 0 rfl) ?_
      refine lv_iload_n hx hb dX2_stepsByDriver_16 rfl (lv_at hl 2 rfl) ?_
      refine xn_ge (tgt := 37) hx hb k m rfl rfl (by omega) (by omega) dX2_stepsByDriver_17 (by decide) (fun cg => ?_) (fun cg => ?_)
      · refine lv_iload_n hx hb dX2_stepsByDriver_37 rfl (lv_at hl 0 rfl) ?_
        exact xr_i hQ E hr hw dX2_stepsByDriver_38 ⟨congrArg (fun z => some (Value.int z)) (congrArg nI (by have e := hi.1; rw [show m - k = 0 by omega] at e; exact e)), (by have e := hi.2; rw [show m - k = 0 by omega] at e; rw [← e] <;> rfl)⟩
      · refine lv_aload_n hx hb dX2_stepsByDriver_20 rfl (lv_at hl 1 rfl) ?_
        refine lv_aload_n hx hb dX2_stepsByDriver_21 rfl (lv_at hl 1 rfl) ?_
        refine x_go (ws' := [(h 0, .inr (2, [.ref (h 1), .ref (h 2), .ref (h 7), .ref (h 8)])), (h 2, .inr (5, [.int (nI L), .ref (h 3), .ref (h 4), .ref (h 5), .ref (h 6)])), (h 4, .inl (g.2.1, 200, .inl gr)), (h 5, .inl (g.2.1, 200, .inl be)), (h 6, .inl (g.2.1, 7, .inl st)), (h 7, .inr (6, [.int (nI u.1), .int u.2.1, .int u.2.2.1, .int u.2.2.2.1, .int u.2.2.2.2.1, .int u.2.2.2.2.2.1, .int u.2.2.2.2.2.2.1, .int u.2.2.2.2.2.2.2])), (h 8, .inr (0, [.ref (h 9), .ref (h 10)])), (h 10, .inl (g.2.1, 200, .inl sq))]) (st1 := [.int (drvH L gr st sq u), .ref (h 0)]) E hw [0, 1, 2, 4, 5, 6, 7] rfl (x_runV (rest := [.ref (h 0)]) E hw (c_X2_driverHandle l g h L gr st u sq (by omega) (by omega) (by omega)) km_X2_97 kv_X2_driverHandle [0, 1, 2, 4, 5, 6, 7] rfl (by decide) 0 rfl hl.1 rfl rfl (Nat.le_of_ble_eq_true rfl) ⟨Nat.le_of_ble_eq_true rfl, Nat.le_of_ble_eq_true rfl⟩ ⟨Nat.zero_le _, Nat.zero_le _⟩ dX2_stepsByDriver_22) rfl rfl rfl (fun H locs hw => ?_)
        refine x_go (ws' := [(h 0, .inr (2, [.ref (h 1), .ref (h 2), .ref (h 7), .ref (h 8)])), (h 2, .inr (5, [.int (nI L), .ref (h 3), .ref (h 4), .ref (h 5), .ref (h 6)])), (h 4, .inl (g.2.1, 200, .inl gr)), (h 5, .inl (g.2.1, 200, .inl be)), (h 6, .inl (g.2.1, 7, .inl st)), (h 7, .inr (6, [.int (nI ((stpT L gr be st sq (drvH L gr st sq u) u).1)), .int ((stpT L gr be st sq (drvH L gr st sq u) u).2.1), .int ((stpT L gr be st sq (drvH L gr st sq u) u).2.2.1), .int ((stpT L gr be st sq (drvH L gr st sq u) u).2.2.2.1), .int ((stpT L gr be st sq (drvH L gr st sq u) u).2.2.2.2.1), .int ((stpT L gr be st sq (drvH L gr st sq u) u).2.2.2.2.2.1), .int ((stpT L gr be st sq (drvH L gr st sq u) u).2.2.2.2.2.2.1), .int ((stpT L gr be st sq (drvH L gr st sq u) u).2.2.2.2.2.2.2)])), (h 8, .inr (0, [.ref (h 9), .ref (h 10)])), (h 10, .inl (g.2.1, 200, .inl sq))]) (st1 := [.int (bI (stpP L gr st (drvH L gr st sq u) u))]) E hw [0, 1, 2, 3, 4, 5, 6, 7] rfl (x_runV (rest := []) E hw (c_X2_goesOn l g h L gr be st u sq (drvH L gr st sq u) (by omega) (by omega)) km_X2_94 kv_X2_goesOn [0, 1, 2, 3, 4, 5, 6, 7] rfl (by decide) 0 rfl hl.1 rfl rfl (Nat.le_of_ble_eq_true rfl) ⟨Nat.le_of_ble_eq_true rfl, Nat.le_of_ble_eq_true rfl⟩ ⟨Nat.zero_le _, Nat.zero_le _⟩ dX2_stepsByDriver_25) rfl rfl rfl (fun H locs hw => ?_)
        refine xb_eq (tgt := 37) hx hb dX2_stepsByDriver_28 (by decide) (fun cb => ?_) (fun cb => ?_)
        · refine lv_iload_n hx hb dX2_stepsByDriver_37 rfl (lv_at hl 0 rfl) ?_
          exact xr_i hQ E hr hw dX2_stepsByDriver_38 ⟨congrArg (fun z => some (Value.int z)) (congrArg nI (by have e := hi.1; rw [show m - k = (m - (k + 1)) + 1 by omega, drvT_no cb] at e; exact e)), (by have e := hi.2; rw [show m - k = (m - (k + 1)) + 1 by omega, drvT_no cb] at e; rw [← e] <;> rfl)⟩
        · refine lv_iinc (v := nI (k + 1)) (lv' := [(2, .int (nI (k + 1))), (0, .ref (h 0)), (1, .int (nI m))]) hx hb dX2_stepsByDriver_31 hl (k := 0) rfl (nI_1 _) (by decide) rfl (fun ls hl => ?_)
          refine lv_goto (tgt := 15) hx hb dX2_stepsByDriver_34 (by decide) ?_
          have hl : lv_has ls 3 [(2, .int (nI (k + 1))), (0, .ref (h 0)), (1, .int (nI m))] := lv_sub hl [0, 1, 2] rfl
          have hl : lv_has ls 3 [(2, .int (nI (k + 1))), (0, .ref (h 0)), (1, .int (nI m))] := hl
          have hw : xW g A0 s0 [(h 0, .inr (2, [.ref (h 1), .ref (h 2), .ref (h 7), .ref (h 8)])), (h 2, .inr (5, [.int (nI L), .ref (h 3), .ref (h 4), .ref (h 5), .ref (h 6)])), (h 4, .inl (g.2.1, 200, .inl gr)), (h 5, .inl (g.2.1, 200, .inl be)), (h 6, .inl (g.2.1, 7, .inl st)), (h 7, .inr (6, [.int (nI ((stpT L gr be st sq (drvH L gr st sq u) u).1)), .int ((stpT L gr be st sq (drvH L gr st sq u) u).2.1), .int ((stpT L gr be st sq (drvH L gr st sq u) u).2.2.1), .int ((stpT L gr be st sq (drvH L gr st sq u) u).2.2.2.1), .int ((stpT L gr be st sq (drvH L gr st sq u) u).2.2.2.2.1), .int ((stpT L gr be st sq (drvH L gr st sq u) u).2.2.2.2.2.1), .int ((stpT L gr be st sq (drvH L gr st sq u) u).2.2.2.2.2.2.1), .int ((stpT L gr be st sq (drvH L gr st sq u) u).2.2.2.2.2.2.2)])), (h 8, .inr (0, [.ref (h 9), .ref (h 10)])), (h 10, .inl (g.2.1, 200, .inl sq))] _ _ := hw
          exact ih (k + 1) (stpT L gr be st sq (drvH L gr st sq u) u) (by omega) (by omega) (stpT_lt hu) (by have e := hi; rw [show m - k = (m - (k + 1)) + 1 by omega, drvT_go cb] at e; exact ⟨by rw [← e.1]; omega, e.2⟩) _ _ _ hw hl
  have hl : lv_has ls 3 [(2, .int 0), (0, .ref (h 0)), (1, .int (nI m))] := lv_sub hl [0, 1, 2] rfl
  have hl : lv_has ls 3 [(2, .int 0), (0, .ref (h 0)), (1, .int (nI m))] := hl
  have hw : xW g A0 s0 [(h 0, .inr (2, [.ref (h 1), .ref (h 2), .ref (h 7), .ref (h 8)])), (h 2, .inr (5, [.int (nI L), .ref (h 3), .ref (h 4), .ref (h 5), .ref (h 6)])), (h 4, .inl (g.2.1, 200, .inl gr)), (h 5, .inl (g.2.1, 200, .inl be)), (h 6, .inl (g.2.1, 7, .inl st)), (h 7, .inr (6, [.int (nI t.1), .int t.2.1, .int t.2.2.1, .int t.2.2.2.1, .int t.2.2.2.2.1, .int t.2.2.2.2.2.1, .int t.2.2.2.2.2.2.1, .int t.2.2.2.2.2.2.2])), (h 8, .inr (0, [.ref (h 9), .ref (h 10)])), (h 10, .inl (g.2.1, 200, .inl sq))] _ _ := hw
  exact lp_15 ((m - 0) + 1) 0 t (Nat.lt_succ_self _) (by omega) hf ⟨Nat.zero_add _, rfl⟩ _ _ _ hw hl

set_option maxRecDepth 100000 in
set_option maxHeartbeats 4000000 in
theorem c_X2_releases_ok (l : Launch) (g : xCfg) (h : Nat → Nat) (L : Nat) (st : Nat → Int32) (t : TV) (sq : Nat → Int32) (hL1 : 1 ≤ L) (hL : L ≤ 200) (hm : t.2.2.1 = 3) (hq : t.2.1 = 0) : Ct l g yX2_releases cX2_releases 1 (some .int) (xR 5 96) [.ref (h 0)] [(h 0, .inr (2, [.ref (h 1), .ref (h 2), .ref (h 7), .ref (h 8)])), (h 2, .inr (5, [.int (nI L), .ref (h 3), .ref (h 4), .ref (h 5), .ref (h 6)])), (h 6, .inl (g.2.1, 7, .inl st)), (h 7, .inr (6, [.int (nI t.1), .int t.2.1, .int t.2.2.1, .int t.2.2.2.1, .int t.2.2.2.2.1, .int t.2.2.2.2.2.1, .int t.2.2.2.2.2.2.1, .int t.2.2.2.2.2.2.2])), (h 8, .inr (0, [.ref (h 9), .ref (h 10)])), (h 10, .inl (g.2.1, 200, .inl sq))] (is1 (some (.int ((supT L st sq (relT t)).2.2.1))) [(h 0, .inr (2, [.ref (h 1), .ref (h 2), .ref (h 7), .ref (h 8)])), (h 2, .inr (5, [.int (nI L), .ref (h 3), .ref (h 4), .ref (h 5), .ref (h 6)])), (h 6, .inl (g.2.1, 7, .inl st)), (h 7, .inr (6, [.int (nI ((supT L st sq (relT t)).1)), .int ((supT L st sq (relT t)).2.1), .int ((supT L st sq (relT t)).2.2.1), .int ((supT L st sq (relT t)).2.2.2.1), .int ((supT L st sq (relT t)).2.2.2.2.1), .int ((supT L st sq (relT t)).2.2.2.2.2.1), .int ((supT L st sq (relT t)).2.2.2.2.2.2.1), .int ((supT L st sq (relT t)).2.2.2.2.2.2.2)])), (h 8, .inr (0, [.ref (h 9), .ref (h 10)])), (h 10, .inl (g.2.1, 200, .inl sq))]) := by
  refine Ct.walk (by decide) (Nat.le_of_ble_eq_true rfl) ?_
  intro p0 e0 s0 m0 below meth c0 A0 ls Q hQ E hr hnm hw hl
  have hx := E.x
  have hb := E.b
  have hl : lv_has ls 1 [(0, .ref (h 0))] := hl
  refine lv_aload_n hx hb dX2_releases_0 rfl (lv_at hl 0 rfl) ?_
  refine x_get E hw kf_X2_27 0 rfl rfl dX2_releases_1 ?_
  refine x_getN E hw kf_X2_91 3 rfl rfl dX2_releases_4 ?_
  refine lv_iconst (v := 3) hx hb dX2_releases_7 (by decide) ?_
  refine lv_icmp_ne (tgt := 21) hx hb dX2_releases_8 (by decide) (fun ca => ?_) (fun ca => ?_)
  · exact absurd hm ca
  · refine lv_aload_n hx hb dX2_releases_11 rfl (lv_at hl 0 rfl) ?_
    refine x_get E hw kf_X2_27 0 rfl rfl dX2_releases_12 ?_
    refine x_getN E hw kf_X2_101 3 rfl rfl dX2_releases_15 ?_
    refine lv_if_eq (tgt := 24) hx hb dX2_releases_18 (by decide) (fun cb => ?_) (fun cb => ?_)
    · refine lv_aload_n hx hb dX2_releases_24 rfl (lv_at hl 0 rfl) ?_
      refine x_get E hw kf_X2_27 0 rfl rfl dX2_releases_25 ?_
      refine lv_iconst (v := 0) hx hb dX2_releases_28 (by decide) ?_
      refine x_putN E hw kf_X2_91 kp_X6_2 3 rfl (ty := .int) (by decide +kernel) rfl rfl (by simp) (ws' := [(h 0, .inr (2, [.ref (h 1), .ref (h 2), .ref (h 7), .ref (h 8)])), (h 2, .inr (5, [.int (nI L), .ref (h 3), .ref (h 4), .ref (h 5), .ref (h 6)])), (h 6, .inl (g.2.1, 7, .inl st)), (h 7, .inr (6, [.int (nI t.1), .int t.2.1, .int 0, .int t.2.2.2.1, .int t.2.2.2.2.1, .int t.2.2.2.2.2.1, .int t.2.2.2.2.2.2.1, .int t.2.2.2.2.2.2.2])), (h 8, .inr (0, [.ref (h 9), .ref (h 10)])), (h 10, .inl (g.2.1, 200, .inl sq))]) rfl dX2_releases_29 (fun H locs hw => ?_)
      refine lv_aload_n hx hb dX2_releases_32 rfl (lv_at hl 0 rfl) ?_
      refine x_go (ws' := [(h 0, .inr (2, [.ref (h 1), .ref (h 2), .ref (h 7), .ref (h 8)])), (h 2, .inr (5, [.int (nI L), .ref (h 3), .ref (h 4), .ref (h 5), .ref (h 6)])), (h 6, .inl (g.2.1, 7, .inl st)), (h 7, .inr (6, [.int (nI ((supT L st sq (t.1, t.2.1, 0, t.2.2.2.1, t.2.2.2.2.1, t.2.2.2.2.2.1, t.2.2.2.2.2.2.1, t.2.2.2.2.2.2.2)).1)), .int ((supT L st sq (t.1, t.2.1, 0, t.2.2.2.1, t.2.2.2.2.1, t.2.2.2.2.2.1, t.2.2.2.2.2.2.1, t.2.2.2.2.2.2.2)).2.1), .int ((supT L st sq (t.1, t.2.1, 0, t.2.2.2.1, t.2.2.2.2.1, t.2.2.2.2.2.1, t.2.2.2.2.2.2.1, t.2.2.2.2.2.2.2)).2.2.1), .int ((supT L st sq (t.1, t.2.1, 0, t.2.2.2.1, t.2.2.2.2.1, t.2.2.2.2.2.1, t.2.2.2.2.2.2.1, t.2.2.2.2.2.2.2)).2.2.2.1), .int ((supT L st sq (t.1, t.2.1, 0, t.2.2.2.1, t.2.2.2.2.1, t.2.2.2.2.2.1, t.2.2.2.2.2.2.1, t.2.2.2.2.2.2.2)).2.2.2.2.1), .int ((supT L st sq (t.1, t.2.1, 0, t.2.2.2.1, t.2.2.2.2.1, t.2.2.2.2.2.1, t.2.2.2.2.2.2.1, t.2.2.2.2.2.2.2)).2.2.2.2.2.1), .int ((supT L st sq (t.1, t.2.1, 0, t.2.2.2.1, t.2.2.2.2.1, t.2.2.2.2.2.1, t.2.2.2.2.2.2.1, t.2.2.2.2.2.2.2)).2.2.2.2.2.2.1), .int ((supT L st sq (t.1, t.2.1, 0, t.2.2.2.1, t.2.2.2.2.1, t.2.2.2.2.2.1, t.2.2.2.2.2.2.1, t.2.2.2.2.2.2.2)).2.2.2.2.2.2.2)])), (h 8, .inr (0, [.ref (h 9), .ref (h 10)])), (h 10, .inl (g.2.1, 200, .inl sq))]) (st1 := []) E hw [0, 1, 2, 3, 4, 5] rfl (x_runV (rest := []) E hw (c_X2_supervises l g h L st (t.1, t.2.1, 0, t.2.2.2.1, t.2.2.2.2.1, t.2.2.2.2.2.1, t.2.2.2.2.2.2.1, t.2.2.2.2.2.2.2) sq (by omega) (by omega)) km_X2_88 kv_X2_supervises [0, 1, 2, 3, 4, 5] rfl (by decide) 0 rfl hl.1 rfl rfl (Nat.le_of_ble_eq_true rfl) ⟨Nat.le_of_ble_eq_true rfl, Nat.le_of_ble_eq_true rfl⟩ ⟨Nat.zero_le _, Nat.zero_le _⟩ dX2_releases_33) rfl rfl rfl (fun H locs hw => ?_)
      refine lv_aload_n hx hb dX2_releases_36 rfl (lv_at hl 0 rfl) ?_
      refine x_get E hw kf_X2_27 0 rfl rfl dX2_releases_37 ?_
      refine x_getN E hw kf_X2_91 3 rfl rfl dX2_releases_40 ?_
      exact xr_i hQ E hr hw dX2_releases_43 ⟨rfl, rfl⟩
    · exact absurd hq cb

set_option maxRecDepth 100000 in
set_option maxHeartbeats 4000000 in
theorem c_X2_releases_no (l : Launch) (g : xCfg) (h : Nat → Nat) (L : Nat) (st : Nat → Int32) (t : TV) (sq : Nat → Int32) (hn : ¬ (t.2.2.1 = 3 ∧ t.2.1 = 0)) : Ct l g yX2_releases cX2_releases 1 (some .int) (xR 0 0) [.ref (h 0)] [(h 0, .inr (2, [.ref (h 1), .ref (h 2), .ref (h 7), .ref (h 8)])), (h 2, .inr (5, [.int (nI L), .ref (h 3), .ref (h 4), .ref (h 5), .ref (h 6)])), (h 6, .inl (g.2.1, 7, .inl st)), (h 7, .inr (6, [.int (nI t.1), .int t.2.1, .int t.2.2.1, .int t.2.2.2.1, .int t.2.2.2.2.1, .int t.2.2.2.2.2.1, .int t.2.2.2.2.2.2.1, .int t.2.2.2.2.2.2.2])), (h 8, .inr (0, [.ref (h 9), .ref (h 10)])), (h 10, .inl (g.2.1, 200, .inl sq))] (is1 (some (.int (-3))) [(h 0, .inr (2, [.ref (h 1), .ref (h 2), .ref (h 7), .ref (h 8)])), (h 2, .inr (5, [.int (nI L), .ref (h 3), .ref (h 4), .ref (h 5), .ref (h 6)])), (h 6, .inl (g.2.1, 7, .inl st)), (h 7, .inr (6, [.int (nI t.1), .int t.2.1, .int t.2.2.1, .int t.2.2.2.1, .int t.2.2.2.2.1, .int t.2.2.2.2.2.1, .int t.2.2.2.2.2.2.1, .int t.2.2.2.2.2.2.2])), (h 8, .inr (0, [.ref (h 9), .ref (h 10)])), (h 10, .inl (g.2.1, 200, .inl sq))]) := by
  refine Ct.walk (by decide) (Nat.le_of_ble_eq_true rfl) ?_
  intro p0 e0 s0 m0 below meth c0 A0 ls Q hQ E hr hnm hw hl
  have hx := E.x
  have hb := E.b
  have hl : lv_has ls 1 [(0, .ref (h 0))] := hl
  refine lv_aload_n hx hb dX2_releases_0 rfl (lv_at hl 0 rfl) ?_
  refine x_get E hw kf_X2_27 0 rfl rfl dX2_releases_1 ?_
  refine x_getN E hw kf_X2_91 3 rfl rfl dX2_releases_4 ?_
  refine lv_iconst (v := 3) hx hb dX2_releases_7 (by decide) ?_
  refine lv_icmp_ne (tgt := 21) hx hb dX2_releases_8 (by decide) (fun ca => ?_) (fun ca => ?_)
  · refine lv_bipush (v := -3) hx hb dX2_releases_21 (by decide) ?_
    exact xr_i hQ E hr hw dX2_releases_23 ⟨rfl, rfl⟩
  · refine lv_aload_n hx hb dX2_releases_11 rfl (lv_at hl 0 rfl) ?_
    refine x_get E hw kf_X2_27 0 rfl rfl dX2_releases_12 ?_
    refine x_getN E hw kf_X2_101 3 rfl rfl dX2_releases_15 ?_
    refine lv_if_eq (tgt := 24) hx hb dX2_releases_18 (by decide) (fun cb => ?_) (fun cb => ?_)
    · exact absurd ⟨ca, cb⟩ hn
    · refine lv_bipush (v := -3) hx hb dX2_releases_21 (by decide) ?_
      exact xr_i hQ E hr hw dX2_releases_23 ⟨rfl, rfl⟩

set_option maxRecDepth 100000 in
set_option maxHeartbeats 4000000 in
theorem c_X2_putsTrain_ok (l : Launch) (g : xCfg) (h : Nat → Nat) (L : Nat) (st : Nat → Int32) (t : TV) (sq : Nat → Int32) (x : Nat) (v : Int32) (hL : L ≤ 200) (hx0 : x < L) (hv : 0 ≤ v) (hv2 : v ≤ 99) : Ct l g yX2_putsTrain cX2_putsTrain 3 (some .int) (xR 5 96) [.ref (h 0), .int (nI x), .int v] [(h 0, .inr (2, [.ref (h 1), .ref (h 2), .ref (h 7), .ref (h 8)])), (h 2, .inr (5, [.int (nI L), .ref (h 3), .ref (h 4), .ref (h 5), .ref (h 6)])), (h 6, .inl (g.2.1, 7, .inl st)), (h 7, .inr (6, [.int (nI t.1), .int t.2.1, .int t.2.2.1, .int t.2.2.2.1, .int t.2.2.2.2.1, .int t.2.2.2.2.2.1, .int t.2.2.2.2.2.2.1, .int t.2.2.2.2.2.2.2])), (h 8, .inr (0, [.ref (h 9), .ref (h 10)])), (h 10, .inl (g.2.1, 200, .inl sq))] (is1 (some (.int ((supT L st sq (plT x v t)).2.2.1))) [(h 0, .inr (2, [.ref (h 1), .ref (h 2), .ref (h 7), .ref (h 8)])), (h 2, .inr (5, [.int (nI L), .ref (h 3), .ref (h 4), .ref (h 5), .ref (h 6)])), (h 6, .inl (g.2.1, 7, .inl st)), (h 7, .inr (6, [.int (nI ((supT L st sq (plT x v t)).1)), .int ((supT L st sq (plT x v t)).2.1), .int ((supT L st sq (plT x v t)).2.2.1), .int ((supT L st sq (plT x v t)).2.2.2.1), .int ((supT L st sq (plT x v t)).2.2.2.2.1), .int ((supT L st sq (plT x v t)).2.2.2.2.2.1), .int ((supT L st sq (plT x v t)).2.2.2.2.2.2.1), .int ((supT L st sq (plT x v t)).2.2.2.2.2.2.2)])), (h 8, .inr (0, [.ref (h 9), .ref (h 10)])), (h 10, .inl (g.2.1, 200, .inl sq))]) := by
  refine Ct.walk (by decide) (Nat.le_of_ble_eq_true rfl) ?_
  intro p0 e0 s0 m0 below meth c0 A0 ls Q hQ E hr hnm hw hl
  have hx := E.x
  have hb := E.b
  have hl : lv_has ls 3 [(0, .ref (h 0)), (1, .int (nI x)), (2, .int v)] := hl
  refine lv_aload_n hx hb dX2_putsTrain_0 rfl (lv_at hl 0 rfl) ?_
  refine x_get E hw kf_X2_22 0 rfl rfl dX2_putsTrain_1 ?_
  refine lv_iload_n hx hb dX2_putsTrain_4 rfl (lv_at hl 1 rfl) ?_
  refine x_go (ws' := [(h 0, .inr (2, [.ref (h 1), .ref (h 2), .ref (h 7), .ref (h 8)])), (h 2, .inr (5, [.int (nI L), .ref (h 3), .ref (h 4), .ref (h 5), .ref (h 6)])), (h 6, .inl (g.2.1, 7, .inl st)), (h 7, .inr (6, [.int (nI t.1), .int t.2.1, .int t.2.2.1, .int t.2.2.2.1, .int t.2.2.2.2.1, .int t.2.2.2.2.2.1, .int t.2.2.2.2.2.2.1, .int t.2.2.2.2.2.2.2])), (h 8, .inr (0, [.ref (h 9), .ref (h 10)])), (h 10, .inl (g.2.1, 200, .inl sq))]) (st1 := [.int 1]) E hw [1] rfl (x_runVN (rest := []) E hw (c_X5_has_ok l g h L x (by omega) (by omega)) km_X2_54 kv_X5_has [1] rfl (by decide) 1 rfl hl.1 rfl rfl (Nat.le_of_ble_eq_true rfl) ⟨Nat.le_of_ble_eq_true rfl, Nat.le_of_ble_eq_true rfl⟩ ⟨Nat.zero_le _, Nat.zero_le _⟩ dX2_putsTrain_5) rfl rfl rfl (fun H locs hw => ?_)
  refine lv_if_eq (tgt := 21) hx hb dX2_putsTrain_8 (by decide) (fun h => absurd h (by decide)) (fun _ => ?_)
  refine lv_iload_n hx hb dX2_putsTrain_11 rfl (lv_at hl 2 rfl) ?_
  refine lv_iconst (v := 0) hx hb dX2_putsTrain_12 (by decide) ?_
  refine lv_bipush (v := 99) hx hb dX2_putsTrain_13 (by decide) ?_
  refine x_go (ws' := [(h 0, .inr (2, [.ref (h 1), .ref (h 2), .ref (h 7), .ref (h 8)])), (h 2, .inr (5, [.int (nI L), .ref (h 3), .ref (h 4), .ref (h 5), .ref (h 6)])), (h 6, .inl (g.2.1, 7, .inl st)), (h 7, .inr (6, [.int (nI t.1), .int t.2.1, .int t.2.2.1, .int t.2.2.2.1, .int t.2.2.2.2.1, .int t.2.2.2.2.2.1, .int t.2.2.2.2.2.2.1, .int t.2.2.2.2.2.2.2])), (h 8, .inr (0, [.ref (h 9), .ref (h 10)])), (h 10, .inl (g.2.1, 200, .inl sq))]) (st1 := [.int 1]) E hw [] rfl (x_runSN (rest := []) E hw (c_X7_within_ok l g v 0 99 hv hv2) km_X2_84 ks_X7_within [] rfl (by decide) hl.1 rfl rfl (Nat.le_of_ble_eq_true rfl) ⟨Nat.le_of_ble_eq_true rfl, Nat.le_of_ble_eq_true rfl⟩ ⟨Nat.zero_le _, Nat.zero_le _⟩ dX2_putsTrain_15) rfl rfl rfl (fun H locs hw => ?_)
  refine lv_if_ne (tgt := 24) hx hb dX2_putsTrain_18 (by decide) (fun _ => ?_) (fun h => absurd h (by decide))
  refine lv_aload_n hx hb dX2_putsTrain_24 rfl (lv_at hl 0 rfl) ?_
  refine x_get E hw kf_X2_27 0 rfl rfl dX2_putsTrain_25 ?_
  refine lv_iload_n hx hb dX2_putsTrain_28 rfl (lv_at hl 1 rfl) ?_
  refine lv_iload_n hx hb dX2_putsTrain_29 rfl (lv_at hl 2 rfl) ?_
  refine lv_iload_n hx hb dX2_putsTrain_30 rfl (lv_at hl 2 rfl) ?_
  refine lv_imul hx hb dX2_putsTrain_31 ?_
  refine x_go (ws' := [(h 0, .inr (2, [.ref (h 1), .ref (h 2), .ref (h 7), .ref (h 8)])), (h 2, .inr (5, [.int (nI L), .ref (h 3), .ref (h 4), .ref (h 5), .ref (h 6)])), (h 6, .inl (g.2.1, 7, .inl st)), (h 7, .inr (6, [.int (nI x), .int (v * v), .int 0, .int (nI (1000 * x)), .int (nI (1000 * x)), .int t.2.2.2.2.2.1, .int t.2.2.2.2.2.2.1, .int t.2.2.2.2.2.2.2])), (h 8, .inr (0, [.ref (h 9), .ref (h 10)])), (h 10, .inl (g.2.1, 200, .inl sq))]) (st1 := []) E hw [3] rfl (x_runVN (rest := []) E hw (c_X6_puts l g h t.1 t.2.1 t.2.2.1 t.2.2.2.1 t.2.2.2.2.1 t.2.2.2.2.2.1 t.2.2.2.2.2.2.1 t.2.2.2.2.2.2.2 x (v * v) ) km_X2_48 kv_X6_puts [3] rfl (by decide) 3 rfl hl.1 rfl rfl (Nat.le_of_ble_eq_true rfl) ⟨Nat.le_of_ble_eq_true rfl, Nat.le_of_ble_eq_true rfl⟩ ⟨Nat.zero_le _, Nat.zero_le _⟩ dX2_putsTrain_32) rfl rfl rfl (fun H locs hw => ?_)
  refine lv_aload_n hx hb dX2_putsTrain_35 rfl (lv_at hl 0 rfl) ?_
  refine x_go (ws' := [(h 0, .inr (2, [.ref (h 1), .ref (h 2), .ref (h 7), .ref (h 8)])), (h 2, .inr (5, [.int (nI L), .ref (h 3), .ref (h 4), .ref (h 5), .ref (h 6)])), (h 6, .inl (g.2.1, 7, .inl st)), (h 7, .inr (6, [.int (nI ((supT L st sq (x, v * v, 0, nI (1000 * x), nI (1000 * x), t.2.2.2.2.2.1, t.2.2.2.2.2.2.1, t.2.2.2.2.2.2.2)).1)), .int ((supT L st sq (x, v * v, 0, nI (1000 * x), nI (1000 * x), t.2.2.2.2.2.1, t.2.2.2.2.2.2.1, t.2.2.2.2.2.2.2)).2.1), .int ((supT L st sq (x, v * v, 0, nI (1000 * x), nI (1000 * x), t.2.2.2.2.2.1, t.2.2.2.2.2.2.1, t.2.2.2.2.2.2.2)).2.2.1), .int ((supT L st sq (x, v * v, 0, nI (1000 * x), nI (1000 * x), t.2.2.2.2.2.1, t.2.2.2.2.2.2.1, t.2.2.2.2.2.2.2)).2.2.2.1), .int ((supT L st sq (x, v * v, 0, nI (1000 * x), nI (1000 * x), t.2.2.2.2.2.1, t.2.2.2.2.2.2.1, t.2.2.2.2.2.2.2)).2.2.2.2.1), .int ((supT L st sq (x, v * v, 0, nI (1000 * x), nI (1000 * x), t.2.2.2.2.2.1, t.2.2.2.2.2.2.1, t.2.2.2.2.2.2.2)).2.2.2.2.2.1), .int ((supT L st sq (x, v * v, 0, nI (1000 * x), nI (1000 * x), t.2.2.2.2.2.1, t.2.2.2.2.2.2.1, t.2.2.2.2.2.2.2)).2.2.2.2.2.2.1), .int ((supT L st sq (x, v * v, 0, nI (1000 * x), nI (1000 * x), t.2.2.2.2.2.1, t.2.2.2.2.2.2.1, t.2.2.2.2.2.2.2)).2.2.2.2.2.2.2)])), (h 8, .inr (0, [.ref (h 9), .ref (h 10)])), (h 10, .inl (g.2.1, 200, .inl sq))]) (st1 := []) E hw [0, 1, 2, 3, 4, 5] rfl (x_runV (rest := []) E hw (c_X2_supervises l g h L st (x, v * v, 0, nI (1000 * x), nI (1000 * x), t.2.2.2.2.2.1, t.2.2.2.2.2.2.1, t.2.2.2.2.2.2.2) sq (by omega) (by omega)) km_X2_88 kv_X2_supervises [0, 1, 2, 3, 4, 5] rfl (by decide) 0 rfl hl.1 rfl rfl (Nat.le_of_ble_eq_true rfl) ⟨Nat.le_of_ble_eq_true rfl, Nat.le_of_ble_eq_true rfl⟩ ⟨Nat.zero_le _, Nat.zero_le _⟩ dX2_putsTrain_36) rfl rfl rfl (fun H locs hw => ?_)
  refine lv_aload_n hx hb dX2_putsTrain_39 rfl (lv_at hl 0 rfl) ?_
  refine x_get E hw kf_X2_27 0 rfl rfl dX2_putsTrain_40 ?_
  refine x_getN E hw kf_X2_91 3 rfl rfl dX2_putsTrain_43 ?_
  exact xr_i hQ E hr hw dX2_putsTrain_46 ⟨rfl, rfl⟩

set_option maxRecDepth 100000 in
set_option maxHeartbeats 4000000 in
theorem c_X2_resizes_ok (l : Launch) (g : xCfg) (h : Nat → Nat) (L : Nat) (ce : Nat → Int32) (gr : Nat → Int32) (be : Nat → Int32) (t : TV) (m : Nat) (hL : L ≤ 200) (hm : 5 ≤ m) (hm2 : m ≤ 200) : Ct l g yX2_resizes cX2_resizes 3 (some .int) (xR 2 45) [.ref (h 0), .int (nI m)] [(h 0, .inr (2, [.ref (h 1), .ref (h 2), .ref (h 7), .ref (h 8)])), (h 2, .inr (5, [.int (nI L), .ref (h 3), .ref (h 4), .ref (h 5), .ref (h 6)])), (h 3, .inl (g.2.1, 200, .inl ce)), (h 4, .inl (g.2.1, 200, .inl gr)), (h 5, .inl (g.2.1, 200, .inl be)), (h 7, .inr (6, [.int (nI t.1), .int t.2.1, .int t.2.2.1, .int t.2.2.2.1, .int t.2.2.2.2.1, .int t.2.2.2.2.2.1, .int t.2.2.2.2.2.2.1, .int t.2.2.2.2.2.2.2]))] (is1 (some (.int (nI L))) [(h 0, .inr (2, [.ref (h 1), .ref (h 2), .ref (h 7), .ref (h 8)])), (h 2, .inr (5, [.int (nI m), .ref (h 3), .ref (h 4), .ref (h 5), .ref (h 6)])), (h 3, .inl (g.2.1, 200, .inl (filF ce 40 L m))), (h 4, .inl (g.2.1, 200, .inl (filF gr 0 L m))), (h 5, .inl (g.2.1, 200, .inl (filF be 0 L m))), (h 7, .inr (6, [.int (nI ((rszT t).1)), .int ((rszT t).2.1), .int ((rszT t).2.2.1), .int ((rszT t).2.2.2.1), .int ((rszT t).2.2.2.2.1), .int ((rszT t).2.2.2.2.2.1), .int ((rszT t).2.2.2.2.2.2.1), .int ((rszT t).2.2.2.2.2.2.2)]))]) := by
  refine Ct.walk (by decide) (Nat.le_of_ble_eq_true rfl) ?_
  intro p0 e0 s0 m0 below meth c0 A0 ls Q hQ E hr hnm hw hl
  have hx := E.x
  have hb := E.b
  have hl : lv_has ls 3 [(0, .ref (h 0)), (1, .int (nI m))] := hl
  refine lv_aload_n hx hb dX2_resizes_0 rfl (lv_at hl 0 rfl) ?_
  refine x_get E hw kf_X2_22 0 rfl rfl dX2_resizes_1 ?_
  refine lv_iload_n hx hb dX2_resizes_4 rfl (lv_at hl 1 rfl) ?_
  refine x_go (ws' := [(h 0, .inr (2, [.ref (h 1), .ref (h 2), .ref (h 7), .ref (h 8)])), (h 2, .inr (5, [.int (nI m), .ref (h 3), .ref (h 4), .ref (h 5), .ref (h 6)])), (h 3, .inl (g.2.1, 200, .inl (filF ce 40 L m))), (h 4, .inl (g.2.1, 200, .inl (filF gr 0 L m))), (h 5, .inl (g.2.1, 200, .inl (filF be 0 L m))), (h 7, .inr (6, [.int (nI t.1), .int t.2.1, .int t.2.2.1, .int t.2.2.2.1, .int t.2.2.2.2.1, .int t.2.2.2.2.2.1, .int t.2.2.2.2.2.2.1, .int t.2.2.2.2.2.2.2]))]) (st1 := [.int (nI L)]) E hw [1, 2, 3, 4] rfl (x_runVN (rest := []) E hw (c_X5_resized_ok l g h L ce gr be m (by omega) (by omega) (by omega)) km_X2_42 kv_X5_resized [1, 2, 3, 4] rfl (by decide) 1 rfl hl.1 rfl rfl (Nat.le_of_ble_eq_true rfl) ⟨Nat.le_of_ble_eq_true rfl, Nat.le_of_ble_eq_true rfl⟩ ⟨Nat.zero_le _, Nat.zero_le _⟩ dX2_resizes_5) rfl rfl rfl (fun H locs hw => ?_)
  refine lv_istore_n (lv' := [(2, .int (nI L)), (0, .ref (h 0)), (1, .int (nI m))]) hx hb dX2_resizes_8 rfl hl (by decide) rfl (fun ls hl => ?_)
  refine lv_iload_n hx hb dX2_resizes_9 rfl (lv_at hl 0 rfl) ?_
  refine lv_bipush (v := -2) hx hb dX2_resizes_10 (by decide) ?_
  refine lv_icmp_eq (tgt := 24) hx hb dX2_resizes_12 (by decide) (fun ca => ?_) (fun ca => ?_)
  · exact absurd ca (nI_nn (by omega) (by decide))
  · refine lv_aload_n hx hb dX2_resizes_15 rfl (lv_at hl 1 rfl) ?_
    refine x_get E hw kf_X2_27 0 rfl rfl dX2_resizes_16 ?_
    refine lv_iconst (v := 0) hx hb dX2_resizes_19 (by decide) ?_
    refine lv_iconst (v := 0) hx hb dX2_resizes_20 (by decide) ?_
    refine x_go (ws' := [(h 0, .inr (2, [.ref (h 1), .ref (h 2), .ref (h 7), .ref (h 8)])), (h 2, .inr (5, [.int (nI m), .ref (h 3), .ref (h 4), .ref (h 5), .ref (h 6)])), (h 3, .inl (g.2.1, 200, .inl (filF ce 40 L m))), (h 4, .inl (g.2.1, 200, .inl (filF gr 0 L m))), (h 5, .inl (g.2.1, 200, .inl (filF be 0 L m))), (h 7, .inr (6, [.int 0, .int 0, .int 0, .int (nI (1000 * 0)), .int (nI (1000 * 0)), .int t.2.2.2.2.2.1, .int t.2.2.2.2.2.2.1, .int t.2.2.2.2.2.2.2]))]) (st1 := []) E hw [5] rfl (x_runVN (rest := []) E hw (c_X6_puts l g h t.1 t.2.1 t.2.2.1 t.2.2.2.1 t.2.2.2.2.1 t.2.2.2.2.2.1 t.2.2.2.2.2.2.1 t.2.2.2.2.2.2.2 0 0 ) km_X2_48 kv_X6_puts [5] rfl (by decide) 5 rfl hl.1 rfl rfl (Nat.le_of_ble_eq_true rfl) ⟨Nat.le_of_ble_eq_true rfl, Nat.le_of_ble_eq_true rfl⟩ ⟨Nat.zero_le _, Nat.zero_le _⟩ dX2_resizes_21) rfl rfl rfl (fun H locs hw => ?_)
    refine lv_iload_n hx hb dX2_resizes_24 rfl (lv_at hl 0 rfl) ?_
    exact xr_i hQ E hr hw dX2_resizes_25 ⟨rfl, rfl⟩

set_option maxRecDepth 100000 in
set_option maxHeartbeats 4000000 in
theorem c_X2_redraws (l : Launch) (g : xCfg) (h : Nat → Nat) (fo : Nat → Int32) (sq : Nat → Int32) (L : Nat) (ce : Nat → Int32) (gr : Nat → Int32) (st : Nat → Int32) (len : Nat) (hL : L ≤ 200) (hlen : st 2 = nI len) (hl1 : 1 ≤ len) (hl2 : len ≤ 30) : Ct l g yX2_redraws cX2_redraws 1 none (xR 3 71) [.ref (h 0)] [(h 0, .inr (2, [.ref (h 1), .ref (h 2), .ref (h 7), .ref (h 8)])), (h 8, .inr (0, [.ref (h 9), .ref (h 10)])), (h 9, .inl (g.2.1, 200, .inl fo)), (h 10, .inl (g.2.1, 200, .inl sq)), (h 2, .inr (5, [.int (nI L), .ref (h 3), .ref (h 4), .ref (h 5), .ref (h 6)])), (h 3, .inl (g.2.1, 200, .inl ce)), (h 4, .inl (g.2.1, 200, .inl gr)), (h 6, .inl (g.2.1, 7, .inl st))] (is1 none [(h 0, .inr (2, [.ref (h 1), .ref (h 2), .ref (h 7), .ref (h 8)])), (h 8, .inr (0, [.ref (h 9), .ref (h 10)])), (h 9, .inl (g.2.1, 200, .inl (dcF ce len L fo))), (h 10, .inl (g.2.1, 200, .inl (lwS (dcF ce len L fo) gr (st 0) L 0 sq))), (h 2, .inr (5, [.int (nI L), .ref (h 3), .ref (h 4), .ref (h 5), .ref (h 6)])), (h 3, .inl (g.2.1, 200, .inl ce)), (h 4, .inl (g.2.1, 200, .inl gr)), (h 6, .inl (g.2.1, 7, .inl st))]) := by
  refine Ct.walk (by decide) (Nat.le_of_ble_eq_true rfl) ?_
  intro p0 e0 s0 m0 below meth c0 A0 ls Q hQ E hr hnm hw hl
  have hx := E.x
  have hb := E.b
  have hl : lv_has ls 1 [(0, .ref (h 0))] := hl
  refine lv_aload_n hx hb dX2_redraws_0 rfl (lv_at hl 0 rfl) ?_
  refine x_get E hw kf_X2_31 0 rfl rfl dX2_redraws_1 ?_
  refine lv_aload_n hx hb dX2_redraws_4 rfl (lv_at hl 0 rfl) ?_
  refine x_get E hw kf_X2_22 0 rfl rfl dX2_redraws_5 ?_
  refine x_go (ws' := [(h 0, .inr (2, [.ref (h 1), .ref (h 2), .ref (h 7), .ref (h 8)])), (h 8, .inr (0, [.ref (h 9), .ref (h 10)])), (h 9, .inl (g.2.1, 200, .inl (dcF ce len L fo))), (h 10, .inl (g.2.1, 200, .inl (lwS (dcF ce len L fo) gr (st 0) L 0 sq))), (h 2, .inr (5, [.int (nI L), .ref (h 3), .ref (h 4), .ref (h 5), .ref (h 6)])), (h 3, .inl (g.2.1, 200, .inl ce)), (h 4, .inl (g.2.1, 200, .inl gr)), (h 6, .inl (g.2.1, 7, .inl st))]) (st1 := []) E hw [1, 2, 3, 4, 5, 6, 7] rfl (x_runVN (rest := []) E hw (c_X0_draws l g h fo sq L ce gr st len (by omega) hlen (by omega) (by omega)) km_X2_38 kv_X0_draws [1, 2, 3, 4, 5, 6, 7] rfl (by decide) 1 rfl hl.1 rfl rfl (Nat.le_of_ble_eq_true rfl) ⟨Nat.le_of_ble_eq_true rfl, Nat.le_of_ble_eq_true rfl⟩ ⟨Nat.zero_le _, Nat.zero_le _⟩ dX2_redraws_8) rfl rfl rfl (fun H locs hw => ?_)
  exact xr_v hQ E hr hw dX2_redraws_11 ⟨rfl, rfl⟩

set_option maxRecDepth 100000 in
set_option maxHeartbeats 4000000 in
theorem c_X2_countPermitted (l : Launch) (g : xCfg) (h : Nat → Nat) (L : Nat) (sq : Nat → Int32) (v : Int32) (hL : L ≤ 200) : Ct l g yX2_countPermitted cX2_countPermitted 4 (some .int) (xR 1 23) [.ref (h 0), .int v] [(h 0, .inr (2, [.ref (h 1), .ref (h 2), .ref (h 7), .ref (h 8)])), (h 2, .inr (5, [.int (nI L), .ref (h 3), .ref (h 4), .ref (h 5), .ref (h 6)])), (h 8, .inr (0, [.ref (h 9), .ref (h 10)])), (h 10, .inl (g.2.1, 200, .inl sq))] (is1 (some (.int (nI (cntP sq v L)))) [(h 0, .inr (2, [.ref (h 1), .ref (h 2), .ref (h 7), .ref (h 8)])), (h 2, .inr (5, [.int (nI L), .ref (h 3), .ref (h 4), .ref (h 5), .ref (h 6)])), (h 8, .inr (0, [.ref (h 9), .ref (h 10)])), (h 10, .inl (g.2.1, 200, .inl sq))]) := by
  refine Ct.walk (by decide) (Nat.le_of_ble_eq_true rfl) ?_
  intro p0 e0 s0 m0 below meth c0 A0 ls Q hQ E hr hnm hw hl
  have hx := E.x
  have hb := E.b
  have hl : lv_has ls 4 [(0, .ref (h 0)), (1, .int v)] := hl
  refine lv_iconst (v := 0) hx hb dX2_countPermitted_0 (by decide) ?_
  refine lv_istore_n (lv' := [(2, .int 0), (0, .ref (h 0)), (1, .int v)]) hx hb dX2_countPermitted_1 rfl hl (by decide) rfl (fun ls hl => ?_)
  refine lv_iconst (v := 0) hx hb dX2_countPermitted_2 (by decide) ?_
  refine lv_istore_n (lv' := [(3, .int 0), (2, .int 0), (0, .ref (h 0)), (1, .int v)]) hx hb dX2_countPermitted_3 rfl hl (by decide) rfl (fun ls hl => ?_)
  have lp_4 : ∀ (fuel : Nat) (x : Nat), L - x < fuel → x ≤ L → ∀ (H : Heap) (locs : List Loc) (ls : Array Slot), xW g A0 s0 [(h 0, .inr (2, [.ref (h 1), .ref (h 2), .ref (h 7), .ref (h 8)])), (h 2, .inr (5, [.int (nI L), .ref (h 3), .ref (h 4), .ref (h 5), .ref (h 6)])), (h 8, .inr (0, [.ref (h 9), .ref (h 10)])), (h 10, .inl (g.2.1, 200, .inl sq))] H locs → lv_has ls 4 [(3, .int (nI x)), (2, .int (nI (cntP sq v x))), (0, .ref (h 0)), (1, .int v)] → W p0 l e0 (xR 1 23) s0 m0 [.ref (h 0), .int v].toArray below meth c0 H locs 0 0 Q (F0 m0 4 ls []) := by
    intro fuel
    induction fuel with
    | zero => intro x hm; exact absurd hm (Nat.not_lt_zero _)
    | succ fuel ih =>
      intro x hm h1 H locs ls hw hl
      refine lv_iload_n hx hb dX2_countPermitted_4 rfl (lv_at hl 0 rfl) ?_
      refine lv_aload_n hx hb dX2_countPermitted_5 rfl (lv_at hl 2 rfl) ?_
      refine x_get E hw kf_X2_22 0 rfl rfl dX2_countPermitted_6 ?_
      refine x_getN E hw kf_X2_74 1 rfl rfl dX2_countPermitted_9 ?_
      refine xn_ge (tgt := 40) hx hb x L rfl rfl (by omega) (by omega) dX2_countPermitted_12 (by decide) (fun c_1 => ?_) (fun c_1 => ?_)
      · obtain rfl : x = L := by omega
        refine lv_iload_n hx hb dX2_countPermitted_40 rfl (lv_at hl 1 rfl) ?_
        exact xr_i hQ E hr hw dX2_countPermitted_41 ⟨rfl, rfl⟩
      · refine lv_aload_n hx hb dX2_countPermitted_15 rfl (lv_at hl 2 rfl) ?_
        refine x_get E hw kf_X2_31 0 rfl rfl dX2_countPermitted_16 ?_
        refine x_getN E hw kf_X2_78 2 rfl rfl dX2_countPermitted_19 ?_
        refine lv_iload_n hx hb dX2_countPermitted_22 rfl (lv_at hl 0 rfl) ?_
        refine x_ld (v := sq x) E hw 3 rfl x rfl (by omega) (by decide) rfl dX2_countPermitted_23 ?_
        refine x_go (ws' := [(h 0, .inr (2, [.ref (h 1), .ref (h 2), .ref (h 7), .ref (h 8)])), (h 2, .inr (5, [.int (nI L), .ref (h 3), .ref (h 4), .ref (h 5), .ref (h 6)])), (h 8, .inr (0, [.ref (h 9), .ref (h 10)])), (h 10, .inl (g.2.1, 200, .inl sq))]) (st1 := [.int (nI (rtL 15 0 (sq x)))]) E hw [] rfl (x_runSN (rest := []) E hw (c_X7_root l g (sq x) ) km_X2_81 ks_X7_root [] rfl (by decide) hl.1 rfl rfl (Nat.le_of_ble_eq_true rfl) ⟨Nat.le_of_ble_eq_true rfl, Nat.le_of_ble_eq_true rfl⟩ ⟨Nat.zero_le _, Nat.zero_le _⟩ dX2_countPermitted_24) rfl rfl rfl (fun H locs hw => ?_)
        refine lv_iload_n hx hb dX2_countPermitted_27 rfl (lv_at hl 3 rfl) ?_
        refine lv_icmp_ne (tgt := 34) hx hb dX2_countPermitted_28 (by decide) (fun ce => ?_) (fun ce => ?_)
        · refine lv_iinc (v := nI (x + 1)) (lv' := [(3, .int (nI (x + 1))), (2, .int (nI (cntP sq v x))), (0, .ref (h 0)), (1, .int v)]) hx hb dX2_countPermitted_34 hl (k := 0) rfl (nI_1 _) (by decide) rfl (fun ls hl => ?_)
          refine lv_goto (tgt := 4) hx hb dX2_countPermitted_37 (by decide) ?_
          have hl : lv_has ls 4 [(3, .int (nI (x + 1))), (2, .int (nI (cntP sq v x))), (0, .ref (h 0)), (1, .int v)] := lv_sub hl [0, 1, 2, 3] rfl
          have hl : lv_has ls 4 [(3, .int (nI (x + 1))), (2, .int (nI (cntP sq v (x + 1)))), (0, .ref (h 0)), (1, .int v)] := lv_re hl (by rw [show (nI (cntP sq v x) : Int32) = nI (cntP sq v (x + 1)) from congrArg nI ((cntP_n ce).symm)])
          have hw : xW g A0 s0 [(h 0, .inr (2, [.ref (h 1), .ref (h 2), .ref (h 7), .ref (h 8)])), (h 2, .inr (5, [.int (nI L), .ref (h 3), .ref (h 4), .ref (h 5), .ref (h 6)])), (h 8, .inr (0, [.ref (h 9), .ref (h 10)])), (h 10, .inl (g.2.1, 200, .inl sq))] _ _ := hw
          exact ih (x + 1) (by omega) (by omega) _ _ _ hw hl
        · refine lv_iinc (v := nI (cntP sq v x + 1)) (lv' := [(2, .int (nI (cntP sq v x + 1))), (3, .int (nI x)), (0, .ref (h 0)), (1, .int v)]) hx hb dX2_countPermitted_31 hl (k := 1) rfl (nI_1 _) (by decide) rfl (fun ls hl => ?_)
          refine lv_iinc (v := nI (x + 1)) (lv' := [(3, .int (nI (x + 1))), (2, .int (nI (cntP sq v x + 1))), (0, .ref (h 0)), (1, .int v)]) hx hb dX2_countPermitted_34 hl (k := 1) rfl (nI_1 _) (by decide) rfl (fun ls hl => ?_)
          refine lv_goto (tgt := 4) hx hb dX2_countPermitted_37 (by decide) ?_
          have hl : lv_has ls 4 [(3, .int (nI (x + 1))), (2, .int (nI (cntP sq v x + 1))), (0, .ref (h 0)), (1, .int v)] := lv_sub hl [0, 1, 2, 3] rfl
          have hl : lv_has ls 4 [(3, .int (nI (x + 1))), (2, .int (nI (cntP sq v (x + 1)))), (0, .ref (h 0)), (1, .int v)] := lv_re hl (by rw [show (nI (cntP sq v x + 1) : Int32) = nI (cntP sq v (x + 1)) from congrArg nI ((cntP_y ce).symm)])
          have hw : xW g A0 s0 [(h 0, .inr (2, [.ref (h 1), .ref (h 2), .ref (h 7), .ref (h 8)])), (h 2, .inr (5, [.int (nI L), .ref (h 3), .ref (h 4), .ref (h 5), .ref (h 6)])), (h 8, .inr (0, [.ref (h 9), .ref (h 10)])), (h 10, .inl (g.2.1, 200, .inl sq))] _ _ := hw
          exact ih (x + 1) (by omega) (by omega) _ _ _ hw hl
  have hl : lv_has ls 4 [(3, .int 0), (2, .int 0), (0, .ref (h 0)), (1, .int v)] := lv_sub hl [0, 1, 2, 3] rfl
  have hl : lv_has ls 4 [(3, .int 0), (2, .int (nI (cntP sq v 0))), (0, .ref (h 0)), (1, .int v)] := lv_re hl (by rw [show (0 : Int32) = nI (cntP sq v 0) from congrArg nI rfl])
  have hw : xW g A0 s0 [(h 0, .inr (2, [.ref (h 1), .ref (h 2), .ref (h 7), .ref (h 8)])), (h 2, .inr (5, [.int (nI L), .ref (h 3), .ref (h 4), .ref (h 5), .ref (h 6)])), (h 8, .inr (0, [.ref (h 9), .ref (h 10)])), (h 10, .inl (g.2.1, 200, .inl sq))] _ _ := hw
  exact lp_4 ((L - 0) + 1) 0 (Nat.lt_succ_self _) (by omega) _ _ _ hw hl

set_option maxRecDepth 100000 in
set_option maxHeartbeats 4000000 in
theorem c_X2_trainValue_0 (l : Launch) (g : xCfg) (h : Nat → Nat) (L : Nat) (gr : Nat → Int32) (st : Nat → Int32) (t : TV) (sq : Nat → Int32) (hL1 : 1 ≤ L) (hL : L ≤ 200) (hf : t.1 < 200) : Ct l g yX2_trainValue cX2_trainValue 2 (some .int) (xR 4 81) [.ref (h 0), .int 0] [(h 0, .inr (2, [.ref (h 1), .ref (h 2), .ref (h 7), .ref (h 8)])), (h 2, .inr (5, [.int (nI L), .ref (h 3), .ref (h 4), .ref (h 5), .ref (h 6)])), (h 4, .inl (g.2.1, 200, .inl gr)), (h 6, .inl (g.2.1, 7, .inl st)), (h 7, .inr (6, [.int (nI t.1), .int t.2.1, .int t.2.2.1, .int t.2.2.2.1, .int t.2.2.2.2.1, .int t.2.2.2.2.2.1, .int t.2.2.2.2.2.2.1, .int t.2.2.2.2.2.2.2])), (h 8, .inr (0, [.ref (h 9), .ref (h 10)])), (h 10, .inl (g.2.1, 200, .inl sq))] (is1 (some (.int (trvF L gr st sq t 0))) [(h 0, .inr (2, [.ref (h 1), .ref (h 2), .ref (h 7), .ref (h 8)])), (h 2, .inr (5, [.int (nI L), .ref (h 3), .ref (h 4), .ref (h 5), .ref (h 6)])), (h 4, .inl (g.2.1, 200, .inl gr)), (h 6, .inl (g.2.1, 7, .inl st)), (h 7, .inr (6, [.int (nI t.1), .int t.2.1, .int t.2.2.1, .int t.2.2.2.1, .int t.2.2.2.2.1, .int t.2.2.2.2.2.1, .int t.2.2.2.2.2.2.1, .int t.2.2.2.2.2.2.2])), (h 8, .inr (0, [.ref (h 9), .ref (h 10)])), (h 10, .inl (g.2.1, 200, .inl sq))]) := by
  refine Ct.walk (by decide) (Nat.le_of_ble_eq_true rfl) ?_
  intro p0 e0 s0 m0 below meth c0 A0 ls Q hQ E hr hnm hw hl
  have hx := E.x
  have hb := E.b
  have hl : lv_has ls 2 [(0, .ref (h 0)), (1, .int 0)] := hl
  refine lv_iload_n hx hb dX2_trainValue_0 rfl (lv_at hl 1 rfl) ?_
  refine x_sw (v := 0) (off := 67) (tgt := 68) hx hb dX2_trainValue_1 rfl (by decide) (by decide) (by decide) (by decide) ?_
  refine lv_aload_n hx hb dX2_trainValue_68 rfl (lv_at hl 0 rfl) ?_
  refine x_get E hw kf_X2_27 0 rfl rfl dX2_trainValue_69 ?_
  refine x_getN E hw kf_X2_108 4 rfl rfl dX2_trainValue_72 ?_
  exact xr_i hQ E hr hw dX2_trainValue_75 ⟨rfl, rfl⟩

set_option maxRecDepth 100000 in
set_option maxHeartbeats 4000000 in
theorem c_X2_trainValue_1 (l : Launch) (g : xCfg) (h : Nat → Nat) (L : Nat) (gr : Nat → Int32) (st : Nat → Int32) (t : TV) (sq : Nat → Int32) (hL1 : 1 ≤ L) (hL : L ≤ 200) (hf : t.1 < 200) : Ct l g yX2_trainValue cX2_trainValue 2 (some .int) (xR 4 81) [.ref (h 0), .int 1] [(h 0, .inr (2, [.ref (h 1), .ref (h 2), .ref (h 7), .ref (h 8)])), (h 2, .inr (5, [.int (nI L), .ref (h 3), .ref (h 4), .ref (h 5), .ref (h 6)])), (h 4, .inl (g.2.1, 200, .inl gr)), (h 6, .inl (g.2.1, 7, .inl st)), (h 7, .inr (6, [.int (nI t.1), .int t.2.1, .int t.2.2.1, .int t.2.2.2.1, .int t.2.2.2.2.1, .int t.2.2.2.2.2.1, .int t.2.2.2.2.2.2.1, .int t.2.2.2.2.2.2.2])), (h 8, .inr (0, [.ref (h 9), .ref (h 10)])), (h 10, .inl (g.2.1, 200, .inl sq))] (is1 (some (.int (trvF L gr st sq t 1))) [(h 0, .inr (2, [.ref (h 1), .ref (h 2), .ref (h 7), .ref (h 8)])), (h 2, .inr (5, [.int (nI L), .ref (h 3), .ref (h 4), .ref (h 5), .ref (h 6)])), (h 4, .inl (g.2.1, 200, .inl gr)), (h 6, .inl (g.2.1, 7, .inl st)), (h 7, .inr (6, [.int (nI t.1), .int t.2.1, .int t.2.2.1, .int t.2.2.2.1, .int t.2.2.2.2.1, .int t.2.2.2.2.2.1, .int t.2.2.2.2.2.2.1, .int t.2.2.2.2.2.2.2])), (h 8, .inr (0, [.ref (h 9), .ref (h 10)])), (h 10, .inl (g.2.1, 200, .inl sq))]) := by
  refine Ct.walk (by decide) (Nat.le_of_ble_eq_true rfl) ?_
  intro p0 e0 s0 m0 below meth c0 A0 ls Q hQ E hr hnm hw hl
  have hx := E.x
  have hb := E.b
  have hl : lv_has ls 2 [(0, .ref (h 0)), (1, .int 1)] := hl
  refine lv_iload_n hx hb dX2_trainValue_0 rfl (lv_at hl 1 rfl) ?_
  refine x_sw (v := 1) (off := 75) (tgt := 76) hx hb dX2_trainValue_1 rfl (by decide) (by decide) (by decide) (by decide) ?_
  refine lv_aload_n hx hb dX2_trainValue_76 rfl (lv_at hl 0 rfl) ?_
  refine x_get E hw kf_X2_27 0 rfl rfl dX2_trainValue_77 ?_
  refine x_getN E hw kf_X2_101 4 rfl rfl dX2_trainValue_80 ?_
  exact xr_i hQ E hr hw dX2_trainValue_83 ⟨rfl, rfl⟩

set_option maxRecDepth 100000 in
set_option maxHeartbeats 4000000 in
theorem c_X2_trainValue_2 (l : Launch) (g : xCfg) (h : Nat → Nat) (L : Nat) (gr : Nat → Int32) (st : Nat → Int32) (t : TV) (sq : Nat → Int32) (hL1 : 1 ≤ L) (hL : L ≤ 200) (hf : t.1 < 200) : Ct l g yX2_trainValue cX2_trainValue 2 (some .int) (xR 4 81) [.ref (h 0), .int 2] [(h 0, .inr (2, [.ref (h 1), .ref (h 2), .ref (h 7), .ref (h 8)])), (h 2, .inr (5, [.int (nI L), .ref (h 3), .ref (h 4), .ref (h 5), .ref (h 6)])), (h 4, .inl (g.2.1, 200, .inl gr)), (h 6, .inl (g.2.1, 7, .inl st)), (h 7, .inr (6, [.int (nI t.1), .int t.2.1, .int t.2.2.1, .int t.2.2.2.1, .int t.2.2.2.2.1, .int t.2.2.2.2.2.1, .int t.2.2.2.2.2.2.1, .int t.2.2.2.2.2.2.2])), (h 8, .inr (0, [.ref (h 9), .ref (h 10)])), (h 10, .inl (g.2.1, 200, .inl sq))] (is1 (some (.int (trvF L gr st sq t 2))) [(h 0, .inr (2, [.ref (h 1), .ref (h 2), .ref (h 7), .ref (h 8)])), (h 2, .inr (5, [.int (nI L), .ref (h 3), .ref (h 4), .ref (h 5), .ref (h 6)])), (h 4, .inl (g.2.1, 200, .inl gr)), (h 6, .inl (g.2.1, 7, .inl st)), (h 7, .inr (6, [.int (nI t.1), .int t.2.1, .int t.2.2.1, .int t.2.2.2.1, .int t.2.2.2.2.1, .int t.2.2.2.2.2.1, .int t.2.2.2.2.2.2.1, .int t.2.2.2.2.2.2.2])), (h 8, .inr (0, [.ref (h 9), .ref (h 10)])), (h 10, .inl (g.2.1, 200, .inl sq))]) := by
  refine Ct.walk (by decide) (Nat.le_of_ble_eq_true rfl) ?_
  intro p0 e0 s0 m0 below meth c0 A0 ls Q hQ E hr hnm hw hl
  have hx := E.x
  have hb := E.b
  have hl : lv_has ls 2 [(0, .ref (h 0)), (1, .int 2)] := hl
  refine lv_iload_n hx hb dX2_trainValue_0 rfl (lv_at hl 1 rfl) ?_
  refine x_sw (v := 2) (off := 83) (tgt := 84) hx hb dX2_trainValue_1 rfl (by decide) (by decide) (by decide) (by decide) ?_
  refine lv_aload_n hx hb dX2_trainValue_84 rfl (lv_at hl 0 rfl) ?_
  refine x_get E hw kf_X2_27 0 rfl rfl dX2_trainValue_85 ?_
  refine x_getN E hw kf_X2_101 4 rfl rfl dX2_trainValue_88 ?_
  refine x_go (ws' := [(h 0, .inr (2, [.ref (h 1), .ref (h 2), .ref (h 7), .ref (h 8)])), (h 2, .inr (5, [.int (nI L), .ref (h 3), .ref (h 4), .ref (h 5), .ref (h 6)])), (h 4, .inl (g.2.1, 200, .inl gr)), (h 6, .inl (g.2.1, 7, .inl st)), (h 7, .inr (6, [.int (nI t.1), .int t.2.1, .int t.2.2.1, .int t.2.2.2.1, .int t.2.2.2.2.1, .int t.2.2.2.2.2.1, .int t.2.2.2.2.2.2.1, .int t.2.2.2.2.2.2.2])), (h 8, .inr (0, [.ref (h 9), .ref (h 10)])), (h 10, .inl (g.2.1, 200, .inl sq))]) (st1 := [.int (nI (rtL 15 0 t.2.1))]) E hw [] rfl (x_runSN (rest := []) E hw (c_X7_root l g t.2.1 ) km_X2_81 ks_X7_root [] rfl (by decide) hl.1 rfl rfl (Nat.le_of_ble_eq_true rfl) ⟨Nat.le_of_ble_eq_true rfl, Nat.le_of_ble_eq_true rfl⟩ ⟨Nat.zero_le _, Nat.zero_le _⟩ dX2_trainValue_91) rfl rfl rfl (fun H locs hw => ?_)
  exact xr_i hQ E hr hw dX2_trainValue_94 ⟨rfl, rfl⟩

set_option maxRecDepth 100000 in
set_option maxHeartbeats 4000000 in
theorem c_X2_trainValue_3 (l : Launch) (g : xCfg) (h : Nat → Nat) (L : Nat) (gr : Nat → Int32) (st : Nat → Int32) (t : TV) (sq : Nat → Int32) (hL1 : 1 ≤ L) (hL : L ≤ 200) (hf : t.1 < 200) : Ct l g yX2_trainValue cX2_trainValue 2 (some .int) (xR 4 81) [.ref (h 0), .int 3] [(h 0, .inr (2, [.ref (h 1), .ref (h 2), .ref (h 7), .ref (h 8)])), (h 2, .inr (5, [.int (nI L), .ref (h 3), .ref (h 4), .ref (h 5), .ref (h 6)])), (h 4, .inl (g.2.1, 200, .inl gr)), (h 6, .inl (g.2.1, 7, .inl st)), (h 7, .inr (6, [.int (nI t.1), .int t.2.1, .int t.2.2.1, .int t.2.2.2.1, .int t.2.2.2.2.1, .int t.2.2.2.2.2.1, .int t.2.2.2.2.2.2.1, .int t.2.2.2.2.2.2.2])), (h 8, .inr (0, [.ref (h 9), .ref (h 10)])), (h 10, .inl (g.2.1, 200, .inl sq))] (is1 (some (.int (trvF L gr st sq t 3))) [(h 0, .inr (2, [.ref (h 1), .ref (h 2), .ref (h 7), .ref (h 8)])), (h 2, .inr (5, [.int (nI L), .ref (h 3), .ref (h 4), .ref (h 5), .ref (h 6)])), (h 4, .inl (g.2.1, 200, .inl gr)), (h 6, .inl (g.2.1, 7, .inl st)), (h 7, .inr (6, [.int (nI t.1), .int t.2.1, .int t.2.2.1, .int t.2.2.2.1, .int t.2.2.2.2.1, .int t.2.2.2.2.2.1, .int t.2.2.2.2.2.2.1, .int t.2.2.2.2.2.2.2])), (h 8, .inr (0, [.ref (h 9), .ref (h 10)])), (h 10, .inl (g.2.1, 200, .inl sq))]) := by
  refine Ct.walk (by decide) (Nat.le_of_ble_eq_true rfl) ?_
  intro p0 e0 s0 m0 below meth c0 A0 ls Q hQ E hr hnm hw hl
  have hx := E.x
  have hb := E.b
  have hl : lv_has ls 2 [(0, .ref (h 0)), (1, .int 3)] := hl
  refine lv_iload_n hx hb dX2_trainValue_0 rfl (lv_at hl 1 rfl) ?_
  refine x_sw (v := 3) (off := 94) (tgt := 95) hx hb dX2_trainValue_1 rfl (by decide) (by decide) (by decide) (by decide) ?_
  refine lv_aload_n hx hb dX2_trainValue_95 rfl (lv_at hl 0 rfl) ?_
  refine x_get E hw kf_X2_27 0 rfl rfl dX2_trainValue_96 ?_
  refine x_getN E hw kf_X2_91 4 rfl rfl dX2_trainValue_99 ?_
  exact xr_i hQ E hr hw dX2_trainValue_102 ⟨rfl, rfl⟩

set_option maxRecDepth 100000 in
set_option maxHeartbeats 4000000 in
theorem c_X2_trainValue_4 (l : Launch) (g : xCfg) (h : Nat → Nat) (L : Nat) (gr : Nat → Int32) (st : Nat → Int32) (t : TV) (sq : Nat → Int32) (hL1 : 1 ≤ L) (hL : L ≤ 200) (hf : t.1 < 200) : Ct l g yX2_trainValue cX2_trainValue 2 (some .int) (xR 4 81) [.ref (h 0), .int 4] [(h 0, .inr (2, [.ref (h 1), .ref (h 2), .ref (h 7), .ref (h 8)])), (h 2, .inr (5, [.int (nI L), .ref (h 3), .ref (h 4), .ref (h 5), .ref (h 6)])), (h 4, .inl (g.2.1, 200, .inl gr)), (h 6, .inl (g.2.1, 7, .inl st)), (h 7, .inr (6, [.int (nI t.1), .int t.2.1, .int t.2.2.1, .int t.2.2.2.1, .int t.2.2.2.2.1, .int t.2.2.2.2.2.1, .int t.2.2.2.2.2.2.1, .int t.2.2.2.2.2.2.2])), (h 8, .inr (0, [.ref (h 9), .ref (h 10)])), (h 10, .inl (g.2.1, 200, .inl sq))] (is1 (some (.int (trvF L gr st sq t 4))) [(h 0, .inr (2, [.ref (h 1), .ref (h 2), .ref (h 7), .ref (h 8)])), (h 2, .inr (5, [.int (nI L), .ref (h 3), .ref (h 4), .ref (h 5), .ref (h 6)])), (h 4, .inl (g.2.1, 200, .inl gr)), (h 6, .inl (g.2.1, 7, .inl st)), (h 7, .inr (6, [.int (nI t.1), .int t.2.1, .int t.2.2.1, .int t.2.2.2.1, .int t.2.2.2.2.1, .int t.2.2.2.2.2.1, .int t.2.2.2.2.2.2.1, .int t.2.2.2.2.2.2.2])), (h 8, .inr (0, [.ref (h 9), .ref (h 10)])), (h 10, .inl (g.2.1, 200, .inl sq))]) := by
  refine Ct.walk (by decide) (Nat.le_of_ble_eq_true rfl) ?_
  intro p0 e0 s0 m0 below meth c0 A0 ls Q hQ E hr hnm hw hl
  have hx := E.x
  have hb := E.b
  have hl : lv_has ls 2 [(0, .ref (h 0)), (1, .int 4)] := hl
  refine lv_iload_n hx hb dX2_trainValue_0 rfl (lv_at hl 1 rfl) ?_
  refine x_sw (v := 4) (off := 102) (tgt := 103) hx hb dX2_trainValue_1 rfl (by decide) (by decide) (by decide) (by decide) ?_
  refine lv_aload_n hx hb dX2_trainValue_103 rfl (lv_at hl 0 rfl) ?_
  refine x_get E hw kf_X2_27 0 rfl rfl dX2_trainValue_104 ?_
  refine x_getN E hw kf_X2_140 4 rfl rfl dX2_trainValue_107 ?_
  exact xr_i hQ E hr hw dX2_trainValue_110 ⟨rfl, rfl⟩

set_option maxRecDepth 100000 in
set_option maxHeartbeats 4000000 in
theorem c_X2_trainValue_5 (l : Launch) (g : xCfg) (h : Nat → Nat) (L : Nat) (gr : Nat → Int32) (st : Nat → Int32) (t : TV) (sq : Nat → Int32) (hL1 : 1 ≤ L) (hL : L ≤ 200) (hf : t.1 < 200) : Ct l g yX2_trainValue cX2_trainValue 2 (some .int) (xR 4 81) [.ref (h 0), .int 5] [(h 0, .inr (2, [.ref (h 1), .ref (h 2), .ref (h 7), .ref (h 8)])), (h 2, .inr (5, [.int (nI L), .ref (h 3), .ref (h 4), .ref (h 5), .ref (h 6)])), (h 4, .inl (g.2.1, 200, .inl gr)), (h 6, .inl (g.2.1, 7, .inl st)), (h 7, .inr (6, [.int (nI t.1), .int t.2.1, .int t.2.2.1, .int t.2.2.2.1, .int t.2.2.2.2.1, .int t.2.2.2.2.2.1, .int t.2.2.2.2.2.2.1, .int t.2.2.2.2.2.2.2])), (h 8, .inr (0, [.ref (h 9), .ref (h 10)])), (h 10, .inl (g.2.1, 200, .inl sq))] (is1 (some (.int (trvF L gr st sq t 5))) [(h 0, .inr (2, [.ref (h 1), .ref (h 2), .ref (h 7), .ref (h 8)])), (h 2, .inr (5, [.int (nI L), .ref (h 3), .ref (h 4), .ref (h 5), .ref (h 6)])), (h 4, .inl (g.2.1, 200, .inl gr)), (h 6, .inl (g.2.1, 7, .inl st)), (h 7, .inr (6, [.int (nI t.1), .int t.2.1, .int t.2.2.1, .int t.2.2.2.1, .int t.2.2.2.2.1, .int t.2.2.2.2.2.1, .int t.2.2.2.2.2.2.1, .int t.2.2.2.2.2.2.2])), (h 8, .inr (0, [.ref (h 9), .ref (h 10)])), (h 10, .inl (g.2.1, 200, .inl sq))]) := by
  refine Ct.walk (by decide) (Nat.le_of_ble_eq_true rfl) ?_
  intro p0 e0 s0 m0 below meth c0 A0 ls Q hQ E hr hnm hw hl
  have hx := E.x
  have hb := E.b
  have hl : lv_has ls 2 [(0, .ref (h 0)), (1, .int 5)] := hl
  refine lv_iload_n hx hb dX2_trainValue_0 rfl (lv_at hl 1 rfl) ?_
  refine x_sw (v := 5) (off := 110) (tgt := 111) hx hb dX2_trainValue_1 rfl (by decide) (by decide) (by decide) (by decide) ?_
  refine lv_aload_n hx hb dX2_trainValue_111 rfl (lv_at hl 0 rfl) ?_
  refine x_get E hw kf_X2_27 0 rfl rfl dX2_trainValue_112 ?_
  refine x_getN E hw kf_X2_146 4 rfl rfl dX2_trainValue_115 ?_
  exact xr_i hQ E hr hw dX2_trainValue_118 ⟨rfl, rfl⟩

set_option maxRecDepth 100000 in
set_option maxHeartbeats 4000000 in
theorem c_X2_trainValue_6 (l : Launch) (g : xCfg) (h : Nat → Nat) (L : Nat) (gr : Nat → Int32) (st : Nat → Int32) (t : TV) (sq : Nat → Int32) (hL1 : 1 ≤ L) (hL : L ≤ 200) (hf : t.1 < 200) : Ct l g yX2_trainValue cX2_trainValue 2 (some .int) (xR 4 81) [.ref (h 0), .int 6] [(h 0, .inr (2, [.ref (h 1), .ref (h 2), .ref (h 7), .ref (h 8)])), (h 2, .inr (5, [.int (nI L), .ref (h 3), .ref (h 4), .ref (h 5), .ref (h 6)])), (h 4, .inl (g.2.1, 200, .inl gr)), (h 6, .inl (g.2.1, 7, .inl st)), (h 7, .inr (6, [.int (nI t.1), .int t.2.1, .int t.2.2.1, .int t.2.2.2.1, .int t.2.2.2.2.1, .int t.2.2.2.2.2.1, .int t.2.2.2.2.2.2.1, .int t.2.2.2.2.2.2.2])), (h 8, .inr (0, [.ref (h 9), .ref (h 10)])), (h 10, .inl (g.2.1, 200, .inl sq))] (is1 (some (.int (trvF L gr st sq t 6))) [(h 0, .inr (2, [.ref (h 1), .ref (h 2), .ref (h 7), .ref (h 8)])), (h 2, .inr (5, [.int (nI L), .ref (h 3), .ref (h 4), .ref (h 5), .ref (h 6)])), (h 4, .inl (g.2.1, 200, .inl gr)), (h 6, .inl (g.2.1, 7, .inl st)), (h 7, .inr (6, [.int (nI t.1), .int t.2.1, .int t.2.2.1, .int t.2.2.2.1, .int t.2.2.2.2.1, .int t.2.2.2.2.2.1, .int t.2.2.2.2.2.2.1, .int t.2.2.2.2.2.2.2])), (h 8, .inr (0, [.ref (h 9), .ref (h 10)])), (h 10, .inl (g.2.1, 200, .inl sq))]) := by
  refine Ct.walk (by decide) (Nat.le_of_ble_eq_true rfl) ?_
  intro p0 e0 s0 m0 below meth c0 A0 ls Q hQ E hr hnm hw hl
  have hx := E.x
  have hb := E.b
  have hl : lv_has ls 2 [(0, .ref (h 0)), (1, .int 6)] := hl
  refine lv_iload_n hx hb dX2_trainValue_0 rfl (lv_at hl 1 rfl) ?_
  refine x_sw (v := 6) (off := 118) (tgt := 119) hx hb dX2_trainValue_1 rfl (by decide) (by decide) (by decide) (by decide) ?_
  refine lv_aload_n hx hb dX2_trainValue_119 rfl (lv_at hl 0 rfl) ?_
  refine x_go (ws' := [(h 0, .inr (2, [.ref (h 1), .ref (h 2), .ref (h 7), .ref (h 8)])), (h 2, .inr (5, [.int (nI L), .ref (h 3), .ref (h 4), .ref (h 5), .ref (h 6)])), (h 4, .inl (g.2.1, 200, .inl gr)), (h 6, .inl (g.2.1, 7, .inl st)), (h 7, .inr (6, [.int (nI t.1), .int t.2.1, .int t.2.2.1, .int t.2.2.2.1, .int t.2.2.2.2.1, .int t.2.2.2.2.2.1, .int t.2.2.2.2.2.2.1, .int t.2.2.2.2.2.2.2])), (h 8, .inr (0, [.ref (h 9), .ref (h 10)])), (h 10, .inl (g.2.1, 200, .inl sq))]) (st1 := [.int (nI (kpt L (t.2.2.2.1 / 1000)))]) E hw [0, 1, 4] rfl (x_runV (rest := []) E hw (c_X2_spanFirst l g h L t (by omega) (by omega)) km_X2_134 kv_X2_spanFirst [0, 1, 4] rfl (by decide) 0 rfl hl.1 rfl rfl (Nat.le_of_ble_eq_true rfl) ⟨Nat.le_of_ble_eq_true rfl, Nat.le_of_ble_eq_true rfl⟩ ⟨Nat.zero_le _, Nat.zero_le _⟩ dX2_trainValue_120) rfl rfl rfl (fun H locs hw => ?_)
  exact xr_i hQ E hr hw dX2_trainValue_123 ⟨rfl, rfl⟩

set_option maxRecDepth 100000 in
set_option maxHeartbeats 4000000 in
theorem c_X2_trainValue_7 (l : Launch) (g : xCfg) (h : Nat → Nat) (L : Nat) (gr : Nat → Int32) (st : Nat → Int32) (t : TV) (sq : Nat → Int32) (hL1 : 1 ≤ L) (hL : L ≤ 200) (hf : t.1 < 200) : Ct l g yX2_trainValue cX2_trainValue 2 (some .int) (xR 4 81) [.ref (h 0), .int 7] [(h 0, .inr (2, [.ref (h 1), .ref (h 2), .ref (h 7), .ref (h 8)])), (h 2, .inr (5, [.int (nI L), .ref (h 3), .ref (h 4), .ref (h 5), .ref (h 6)])), (h 4, .inl (g.2.1, 200, .inl gr)), (h 6, .inl (g.2.1, 7, .inl st)), (h 7, .inr (6, [.int (nI t.1), .int t.2.1, .int t.2.2.1, .int t.2.2.2.1, .int t.2.2.2.2.1, .int t.2.2.2.2.2.1, .int t.2.2.2.2.2.2.1, .int t.2.2.2.2.2.2.2])), (h 8, .inr (0, [.ref (h 9), .ref (h 10)])), (h 10, .inl (g.2.1, 200, .inl sq))] (is1 (some (.int (trvF L gr st sq t 7))) [(h 0, .inr (2, [.ref (h 1), .ref (h 2), .ref (h 7), .ref (h 8)])), (h 2, .inr (5, [.int (nI L), .ref (h 3), .ref (h 4), .ref (h 5), .ref (h 6)])), (h 4, .inl (g.2.1, 200, .inl gr)), (h 6, .inl (g.2.1, 7, .inl st)), (h 7, .inr (6, [.int (nI t.1), .int t.2.1, .int t.2.2.1, .int t.2.2.2.1, .int t.2.2.2.2.1, .int t.2.2.2.2.2.1, .int t.2.2.2.2.2.2.1, .int t.2.2.2.2.2.2.2])), (h 8, .inr (0, [.ref (h 9), .ref (h 10)])), (h 10, .inl (g.2.1, 200, .inl sq))]) := by
  refine Ct.walk (by decide) (Nat.le_of_ble_eq_true rfl) ?_
  intro p0 e0 s0 m0 below meth c0 A0 ls Q hQ E hr hnm hw hl
  have hx := E.x
  have hb := E.b
  have hl : lv_has ls 2 [(0, .ref (h 0)), (1, .int 7)] := hl
  refine lv_iload_n hx hb dX2_trainValue_0 rfl (lv_at hl 1 rfl) ?_
  refine x_sw (v := 7) (off := 123) (tgt := 124) hx hb dX2_trainValue_1 rfl (by decide) (by decide) (by decide) (by decide) ?_
  refine lv_aload_n hx hb dX2_trainValue_124 rfl (lv_at hl 0 rfl) ?_
  refine x_go (ws' := [(h 0, .inr (2, [.ref (h 1), .ref (h 2), .ref (h 7), .ref (h 8)])), (h 2, .inr (5, [.int (nI L), .ref (h 3), .ref (h 4), .ref (h 5), .ref (h 6)])), (h 4, .inl (g.2.1, 200, .inl gr)), (h 6, .inl (g.2.1, 7, .inl st)), (h 7, .inr (6, [.int (nI t.1), .int t.2.1, .int t.2.2.1, .int t.2.2.2.1, .int t.2.2.2.2.1, .int t.2.2.2.2.2.1, .int t.2.2.2.2.2.2.1, .int t.2.2.2.2.2.2.2])), (h 8, .inr (0, [.ref (h 9), .ref (h 10)])), (h 10, .inl (g.2.1, 200, .inl sq))]) (st1 := [.int (nI (kpt L ((t.2.2.2.2.1 + 999) / 1000)))]) E hw [0, 1, 4] rfl (x_runV (rest := []) E hw (c_X2_spanLast l g h L t (by omega) (by omega)) km_X2_126 kv_X2_spanLast [0, 1, 4] rfl (by decide) 0 rfl hl.1 rfl rfl (Nat.le_of_ble_eq_true rfl) ⟨Nat.le_of_ble_eq_true rfl, Nat.le_of_ble_eq_true rfl⟩ ⟨Nat.zero_le _, Nat.zero_le _⟩ dX2_trainValue_125) rfl rfl rfl (fun H locs hw => ?_)
  exact xr_i hQ E hr hw dX2_trainValue_128 ⟨rfl, rfl⟩

set_option maxRecDepth 100000 in
set_option maxHeartbeats 4000000 in
theorem c_X2_trainValue_8 (l : Launch) (g : xCfg) (h : Nat → Nat) (L : Nat) (gr : Nat → Int32) (st : Nat → Int32) (t : TV) (sq : Nat → Int32) (hL1 : 1 ≤ L) (hL : L ≤ 200) (hf : t.1 < 200) : Ct l g yX2_trainValue cX2_trainValue 2 (some .int) (xR 4 81) [.ref (h 0), .int 8] [(h 0, .inr (2, [.ref (h 1), .ref (h 2), .ref (h 7), .ref (h 8)])), (h 2, .inr (5, [.int (nI L), .ref (h 3), .ref (h 4), .ref (h 5), .ref (h 6)])), (h 4, .inl (g.2.1, 200, .inl gr)), (h 6, .inl (g.2.1, 7, .inl st)), (h 7, .inr (6, [.int (nI t.1), .int t.2.1, .int t.2.2.1, .int t.2.2.2.1, .int t.2.2.2.2.1, .int t.2.2.2.2.2.1, .int t.2.2.2.2.2.2.1, .int t.2.2.2.2.2.2.2])), (h 8, .inr (0, [.ref (h 9), .ref (h 10)])), (h 10, .inl (g.2.1, 200, .inl sq))] (is1 (some (.int (trvF L gr st sq t 8))) [(h 0, .inr (2, [.ref (h 1), .ref (h 2), .ref (h 7), .ref (h 8)])), (h 2, .inr (5, [.int (nI L), .ref (h 3), .ref (h 4), .ref (h 5), .ref (h 6)])), (h 4, .inl (g.2.1, 200, .inl gr)), (h 6, .inl (g.2.1, 7, .inl st)), (h 7, .inr (6, [.int (nI t.1), .int t.2.1, .int t.2.2.1, .int t.2.2.2.1, .int t.2.2.2.2.1, .int t.2.2.2.2.2.1, .int t.2.2.2.2.2.2.1, .int t.2.2.2.2.2.2.2])), (h 8, .inr (0, [.ref (h 9), .ref (h 10)])), (h 10, .inl (g.2.1, 200, .inl sq))]) := by
  refine Ct.walk (by decide) (Nat.le_of_ble_eq_true rfl) ?_
  intro p0 e0 s0 m0 below meth c0 A0 ls Q hQ E hr hnm hw hl
  have hx := E.x
  have hb := E.b
  have hl : lv_has ls 2 [(0, .ref (h 0)), (1, .int 8)] := hl
  refine lv_iload_n hx hb dX2_trainValue_0 rfl (lv_at hl 1 rfl) ?_
  refine x_sw (v := 8) (off := 128) (tgt := 129) hx hb dX2_trainValue_1 rfl (by decide) (by decide) (by decide) (by decide) ?_
  refine lv_aload_n hx hb dX2_trainValue_129 rfl (lv_at hl 0 rfl) ?_
  refine x_go (ws' := [(h 0, .inr (2, [.ref (h 1), .ref (h 2), .ref (h 7), .ref (h 8)])), (h 2, .inr (5, [.int (nI L), .ref (h 3), .ref (h 4), .ref (h 5), .ref (h 6)])), (h 4, .inl (g.2.1, 200, .inl gr)), (h 6, .inl (g.2.1, 7, .inl st)), (h 7, .inr (6, [.int (nI t.1), .int t.2.1, .int t.2.2.1, .int t.2.2.2.1, .int t.2.2.2.2.1, .int t.2.2.2.2.2.1, .int t.2.2.2.2.2.2.1, .int t.2.2.2.2.2.2.2])), (h 8, .inr (0, [.ref (h 9), .ref (h 10)])), (h 10, .inl (g.2.1, 200, .inl sq))]) (st1 := [.int (nI (seenN L t.2.2.2.1 t.2.2.2.2.1 sq))]) E hw [0, 1, 4, 5, 6] rfl (x_runV (rest := []) E hw (c_X2_seen l g h L t sq (by omega) (by omega)) km_X2_120 kv_X2_seen [0, 1, 4, 5, 6] rfl (by decide) 0 rfl hl.1 rfl rfl (Nat.le_of_ble_eq_true rfl) ⟨Nat.le_of_ble_eq_true rfl, Nat.le_of_ble_eq_true rfl⟩ ⟨Nat.zero_le _, Nat.zero_le _⟩ dX2_trainValue_130) rfl rfl rfl (fun H locs hw => ?_)
  exact xr_i hQ E hr hw dX2_trainValue_133 ⟨rfl, rfl⟩

set_option maxRecDepth 100000 in
set_option maxHeartbeats 4000000 in
theorem c_X2_trainValue_9 (l : Launch) (g : xCfg) (h : Nat → Nat) (L : Nat) (gr : Nat → Int32) (st : Nat → Int32) (t : TV) (sq : Nat → Int32) (hL1 : 1 ≤ L) (hL : L ≤ 200) (hf : t.1 < 200) : Ct l g yX2_trainValue cX2_trainValue 2 (some .int) (xR 4 81) [.ref (h 0), .int 9] [(h 0, .inr (2, [.ref (h 1), .ref (h 2), .ref (h 7), .ref (h 8)])), (h 2, .inr (5, [.int (nI L), .ref (h 3), .ref (h 4), .ref (h 5), .ref (h 6)])), (h 4, .inl (g.2.1, 200, .inl gr)), (h 6, .inl (g.2.1, 7, .inl st)), (h 7, .inr (6, [.int (nI t.1), .int t.2.1, .int t.2.2.1, .int t.2.2.2.1, .int t.2.2.2.2.1, .int t.2.2.2.2.2.1, .int t.2.2.2.2.2.2.1, .int t.2.2.2.2.2.2.2])), (h 8, .inr (0, [.ref (h 9), .ref (h 10)])), (h 10, .inl (g.2.1, 200, .inl sq))] (is1 (some (.int (trvF L gr st sq t 9))) [(h 0, .inr (2, [.ref (h 1), .ref (h 2), .ref (h 7), .ref (h 8)])), (h 2, .inr (5, [.int (nI L), .ref (h 3), .ref (h 4), .ref (h 5), .ref (h 6)])), (h 4, .inl (g.2.1, 200, .inl gr)), (h 6, .inl (g.2.1, 7, .inl st)), (h 7, .inr (6, [.int (nI t.1), .int t.2.1, .int t.2.2.1, .int t.2.2.2.1, .int t.2.2.2.2.1, .int t.2.2.2.2.2.1, .int t.2.2.2.2.2.2.1, .int t.2.2.2.2.2.2.2])), (h 8, .inr (0, [.ref (h 9), .ref (h 10)])), (h 10, .inl (g.2.1, 200, .inl sq))]) := by
  refine Ct.walk (by decide) (Nat.le_of_ble_eq_true rfl) ?_
  intro p0 e0 s0 m0 below meth c0 A0 ls Q hQ E hr hnm hw hl
  have hx := E.x
  have hb := E.b
  have hl : lv_has ls 2 [(0, .ref (h 0)), (1, .int 9)] := hl
  refine lv_iload_n hx hb dX2_trainValue_0 rfl (lv_at hl 1 rfl) ?_
  refine x_sw (v := 9) (off := 133) (tgt := 134) hx hb dX2_trainValue_1 rfl (by decide) (by decide) (by decide) (by decide) ?_
  refine lv_aload_n hx hb dX2_trainValue_134 rfl (lv_at hl 0 rfl) ?_
  refine x_get E hw kf_X2_27 0 rfl rfl dX2_trainValue_135 ?_
  refine x_getN E hw kf_X2_123 4 rfl rfl dX2_trainValue_138 ?_
  exact xr_i hQ E hr hw dX2_trainValue_141 ⟨rfl, rfl⟩

set_option maxRecDepth 100000 in
set_option maxHeartbeats 4000000 in
theorem c_X2_trainValue_10 (l : Launch) (g : xCfg) (h : Nat → Nat) (L : Nat) (gr : Nat → Int32) (st : Nat → Int32) (t : TV) (sq : Nat → Int32) (hL1 : 1 ≤ L) (hL : L ≤ 200) (hf : t.1 < 200) : Ct l g yX2_trainValue cX2_trainValue 2 (some .int) (xR 4 81) [.ref (h 0), .int 10] [(h 0, .inr (2, [.ref (h 1), .ref (h 2), .ref (h 7), .ref (h 8)])), (h 2, .inr (5, [.int (nI L), .ref (h 3), .ref (h 4), .ref (h 5), .ref (h 6)])), (h 4, .inl (g.2.1, 200, .inl gr)), (h 6, .inl (g.2.1, 7, .inl st)), (h 7, .inr (6, [.int (nI t.1), .int t.2.1, .int t.2.2.1, .int t.2.2.2.1, .int t.2.2.2.2.1, .int t.2.2.2.2.2.1, .int t.2.2.2.2.2.2.1, .int t.2.2.2.2.2.2.2])), (h 8, .inr (0, [.ref (h 9), .ref (h 10)])), (h 10, .inl (g.2.1, 200, .inl sq))] (is1 (some (.int (trvF L gr st sq t 10))) [(h 0, .inr (2, [.ref (h 1), .ref (h 2), .ref (h 7), .ref (h 8)])), (h 2, .inr (5, [.int (nI L), .ref (h 3), .ref (h 4), .ref (h 5), .ref (h 6)])), (h 4, .inl (g.2.1, 200, .inl gr)), (h 6, .inl (g.2.1, 7, .inl st)), (h 7, .inr (6, [.int (nI t.1), .int t.2.1, .int t.2.2.1, .int t.2.2.2.1, .int t.2.2.2.2.1, .int t.2.2.2.2.2.1, .int t.2.2.2.2.2.2.1, .int t.2.2.2.2.2.2.2])), (h 8, .inr (0, [.ref (h 9), .ref (h 10)])), (h 10, .inl (g.2.1, 200, .inl sq))]) := by
  refine Ct.walk (by decide) (Nat.le_of_ble_eq_true rfl) ?_
  intro p0 e0 s0 m0 below meth c0 A0 ls Q hQ E hr hnm hw hl
  have hx := E.x
  have hb := E.b
  have hl : lv_has ls 2 [(0, .ref (h 0)), (1, .int 10)] := hl
  refine lv_iload_n hx hb dX2_trainValue_0 rfl (lv_at hl 1 rfl) ?_
  refine x_sw (v := 10) (off := 141) (tgt := 142) hx hb dX2_trainValue_1 rfl (by decide) (by decide) (by decide) (by decide) ?_
  refine lv_aload_n hx hb dX2_trainValue_142 rfl (lv_at hl 0 rfl) ?_
  refine x_get E hw kf_X2_27 0 rfl rfl dX2_trainValue_143 ?_
  refine x_getN E hw kf_X2_114 4 rfl rfl dX2_trainValue_146 ?_
  exact xr_i hQ E hr hw dX2_trainValue_149 ⟨rfl, rfl⟩

set_option maxRecDepth 100000 in
set_option maxHeartbeats 4000000 in
theorem c_X2_trainValue_11 (l : Launch) (g : xCfg) (h : Nat → Nat) (L : Nat) (gr : Nat → Int32) (st : Nat → Int32) (t : TV) (sq : Nat → Int32) (hL1 : 1 ≤ L) (hL : L ≤ 200) (hf : t.1 < 200) : Ct l g yX2_trainValue cX2_trainValue 2 (some .int) (xR 4 81) [.ref (h 0), .int 11] [(h 0, .inr (2, [.ref (h 1), .ref (h 2), .ref (h 7), .ref (h 8)])), (h 2, .inr (5, [.int (nI L), .ref (h 3), .ref (h 4), .ref (h 5), .ref (h 6)])), (h 4, .inl (g.2.1, 200, .inl gr)), (h 6, .inl (g.2.1, 7, .inl st)), (h 7, .inr (6, [.int (nI t.1), .int t.2.1, .int t.2.2.1, .int t.2.2.2.1, .int t.2.2.2.2.1, .int t.2.2.2.2.2.1, .int t.2.2.2.2.2.2.1, .int t.2.2.2.2.2.2.2])), (h 8, .inr (0, [.ref (h 9), .ref (h 10)])), (h 10, .inl (g.2.1, 200, .inl sq))] (is1 (some (.int (trvF L gr st sq t 11))) [(h 0, .inr (2, [.ref (h 1), .ref (h 2), .ref (h 7), .ref (h 8)])), (h 2, .inr (5, [.int (nI L), .ref (h 3), .ref (h 4), .ref (h 5), .ref (h 6)])), (h 4, .inl (g.2.1, 200, .inl gr)), (h 6, .inl (g.2.1, 7, .inl st)), (h 7, .inr (6, [.int (nI t.1), .int t.2.1, .int t.2.2.1, .int t.2.2.2.1, .int t.2.2.2.2.1, .int t.2.2.2.2.2.1, .int t.2.2.2.2.2.2.1, .int t.2.2.2.2.2.2.2])), (h 8, .inr (0, [.ref (h 9), .ref (h 10)])), (h 10, .inl (g.2.1, 200, .inl sq))]) := by
  refine Ct.walk (by decide) (Nat.le_of_ble_eq_true rfl) ?_
  intro p0 e0 s0 m0 below meth c0 A0 ls Q hQ E hr hnm hw hl
  have hx := E.x
  have hb := E.b
  have hl : lv_has ls 2 [(0, .ref (h 0)), (1, .int 11)] := hl
  refine lv_iload_n hx hb dX2_trainValue_0 rfl (lv_at hl 1 rfl) ?_
  refine x_sw (v := 11) (off := 149) (tgt := 150) hx hb dX2_trainValue_1 rfl (by decide) (by decide) (by decide) (by decide) ?_
  refine lv_aload_n hx hb dX2_trainValue_150 rfl (lv_at hl 0 rfl) ?_
  refine x_go (ws' := [(h 0, .inr (2, [.ref (h 1), .ref (h 2), .ref (h 7), .ref (h 8)])), (h 2, .inr (5, [.int (nI L), .ref (h 3), .ref (h 4), .ref (h 5), .ref (h 6)])), (h 4, .inl (g.2.1, 200, .inl gr)), (h 6, .inl (g.2.1, 7, .inl st)), (h 7, .inr (6, [.int (nI t.1), .int t.2.1, .int t.2.2.1, .int t.2.2.2.1, .int t.2.2.2.2.1, .int t.2.2.2.2.2.1, .int t.2.2.2.2.2.2.1, .int t.2.2.2.2.2.2.2])), (h 8, .inr (0, [.ref (h 9), .ref (h 10)])), (h 10, .inl (g.2.1, 200, .inl sq))]) (st1 := [.int (drvH L gr st sq t)]) E hw [0, 1, 2, 3, 4, 5, 6] rfl (x_runV (rest := []) E hw (c_X2_driverHandle l g h L gr st t sq (by omega) (by omega) (by omega)) km_X2_97 kv_X2_driverHandle [0, 1, 2, 3, 4, 5, 6] rfl (by decide) 0 rfl hl.1 rfl rfl (Nat.le_of_ble_eq_true rfl) ⟨Nat.le_of_ble_eq_true rfl, Nat.le_of_ble_eq_true rfl⟩ ⟨Nat.zero_le _, Nat.zero_le _⟩ dX2_trainValue_151) rfl rfl rfl (fun H locs hw => ?_)
  refine lv_iconst (v := 1) hx hb dX2_trainValue_154 (by decide) ?_
  refine lv_iadd hx hb dX2_trainValue_155 ?_
  exact xr_i hQ E hr hw dX2_trainValue_156 ⟨rfl, rfl⟩

set_option maxRecDepth 100000 in
set_option maxHeartbeats 4000000 in
theorem c_X2_trainValue_12 (l : Launch) (g : xCfg) (h : Nat → Nat) (L : Nat) (gr : Nat → Int32) (st : Nat → Int32) (t : TV) (sq : Nat → Int32) (hL1 : 1 ≤ L) (hL : L ≤ 200) (hf : t.1 < 200) : Ct l g yX2_trainValue cX2_trainValue 2 (some .int) (xR 4 81) [.ref (h 0), .int 12] [(h 0, .inr (2, [.ref (h 1), .ref (h 2), .ref (h 7), .ref (h 8)])), (h 2, .inr (5, [.int (nI L), .ref (h 3), .ref (h 4), .ref (h 5), .ref (h 6)])), (h 4, .inl (g.2.1, 200, .inl gr)), (h 6, .inl (g.2.1, 7, .inl st)), (h 7, .inr (6, [.int (nI t.1), .int t.2.1, .int t.2.2.1, .int t.2.2.2.1, .int t.2.2.2.2.1, .int t.2.2.2.2.2.1, .int t.2.2.2.2.2.2.1, .int t.2.2.2.2.2.2.2])), (h 8, .inr (0, [.ref (h 9), .ref (h 10)])), (h 10, .inl (g.2.1, 200, .inl sq))] (is1 (some (.int (trvF L gr st sq t 12))) [(h 0, .inr (2, [.ref (h 1), .ref (h 2), .ref (h 7), .ref (h 8)])), (h 2, .inr (5, [.int (nI L), .ref (h 3), .ref (h 4), .ref (h 5), .ref (h 6)])), (h 4, .inl (g.2.1, 200, .inl gr)), (h 6, .inl (g.2.1, 7, .inl st)), (h 7, .inr (6, [.int (nI t.1), .int t.2.1, .int t.2.2.1, .int t.2.2.2.1, .int t.2.2.2.2.1, .int t.2.2.2.2.2.1, .int t.2.2.2.2.2.2.1, .int t.2.2.2.2.2.2.2])), (h 8, .inr (0, [.ref (h 9), .ref (h 10)])), (h 10, .inl (g.2.1, 200, .inl sq))]) := by
  refine Ct.walk (by decide) (Nat.le_of_ble_eq_true rfl) ?_
  intro p0 e0 s0 m0 below meth c0 A0 ls Q hQ E hr hnm hw hl
  have hx := E.x
  have hb := E.b
  have hl : lv_has ls 2 [(0, .ref (h 0)), (1, .int 12)] := hl
  refine lv_iload_n hx hb dX2_trainValue_0 rfl (lv_at hl 1 rfl) ?_
  refine x_sw (v := 12) (off := 156) (tgt := 157) hx hb dX2_trainValue_1 rfl (by decide) (by decide) (by decide) (by decide) ?_
  refine lv_aload_n hx hb dX2_trainValue_157 rfl (lv_at hl 0 rfl) ?_
  refine x_get E hw kf_X2_27 0 rfl rfl dX2_trainValue_158 ?_
  refine x_getN E hw kf_X2_152 4 rfl rfl dX2_trainValue_161 ?_
  exact xr_i hQ E hr hw dX2_trainValue_164 ⟨rfl, rfl⟩

theorem c_X2_trainValue (l : Launch) (g : xCfg) (h : Nat → Nat) (L : Nat) (gr : Nat → Int32) (st : Nat → Int32) (t : TV) (sq : Nat → Int32) (w : Nat) (hL1 : 1 ≤ L) (hL : L ≤ 200) (hf : t.1 < 200) (hw0 : w < 13) : Ct l g yX2_trainValue cX2_trainValue 2 (some .int) (xR 4 81) [.ref (h 0), .int (nI w)] [(h 0, .inr (2, [.ref (h 1), .ref (h 2), .ref (h 7), .ref (h 8)])), (h 2, .inr (5, [.int (nI L), .ref (h 3), .ref (h 4), .ref (h 5), .ref (h 6)])), (h 4, .inl (g.2.1, 200, .inl gr)), (h 6, .inl (g.2.1, 7, .inl st)), (h 7, .inr (6, [.int (nI t.1), .int t.2.1, .int t.2.2.1, .int t.2.2.2.1, .int t.2.2.2.2.1, .int t.2.2.2.2.2.1, .int t.2.2.2.2.2.2.1, .int t.2.2.2.2.2.2.2])), (h 8, .inr (0, [.ref (h 9), .ref (h 10)])), (h 10, .inl (g.2.1, 200, .inl sq))] (is1 (some (.int (trvF L gr st sq t w))) [(h 0, .inr (2, [.ref (h 1), .ref (h 2), .ref (h 7), .ref (h 8)])), (h 2, .inr (5, [.int (nI L), .ref (h 3), .ref (h 4), .ref (h 5), .ref (h 6)])), (h 4, .inl (g.2.1, 200, .inl gr)), (h 6, .inl (g.2.1, 7, .inl st)), (h 7, .inr (6, [.int (nI t.1), .int t.2.1, .int t.2.2.1, .int t.2.2.2.1, .int t.2.2.2.2.1, .int t.2.2.2.2.2.1, .int t.2.2.2.2.2.2.1, .int t.2.2.2.2.2.2.2])), (h 8, .inr (0, [.ref (h 9), .ref (h 10)])), (h 10, .inl (g.2.1, 200, .inl sq))]) := by
  match w, hw0 with
  | 0, _ => exact c_X2_trainValue_0 l g h L gr st t sq hL1 hL hf
  | 1, _ => exact c_X2_trainValue_1 l g h L gr st t sq hL1 hL hf
  | 2, _ => exact c_X2_trainValue_2 l g h L gr st t sq hL1 hL hf
  | 3, _ => exact c_X2_trainValue_3 l g h L gr st t sq hL1 hL hf
  | 4, _ => exact c_X2_trainValue_4 l g h L gr st t sq hL1 hL hf
  | 5, _ => exact c_X2_trainValue_5 l g h L gr st t sq hL1 hL hf
  | 6, _ => exact c_X2_trainValue_6 l g h L gr st t sq hL1 hL hf
  | 7, _ => exact c_X2_trainValue_7 l g h L gr st t sq hL1 hL hf
  | 8, _ => exact c_X2_trainValue_8 l g h L gr st t sq hL1 hL hf
  | 9, _ => exact c_X2_trainValue_9 l g h L gr st t sq hL1 hL hf
  | 10, _ => exact c_X2_trainValue_10 l g h L gr st t sq hL1 hL hf
  | 11, _ => exact c_X2_trainValue_11 l g h L gr st t sq hL1 hL hf
  | 12, _ => exact c_X2_trainValue_12 l g h L gr st t sq hL1 hL hf
  | w + 13, h => exact absurd h (by omega)

set_option maxRecDepth 100000 in
set_option maxHeartbeats 4000000 in
theorem c_X2_trainValue_bad (l : Launch) (g : xCfg) (h : Nat → Nat) (L : Nat) (gr : Nat → Int32) (st : Nat → Int32) (t : TV) (sq : Nat → Int32) (x : Int32) (hb0 : ∀ k, k < 13 → x ≠ nI k) : Ct l g yX2_trainValue cX2_trainValue 2 (some .int) (xR 0 0) [.ref (h 0), .int x] [(h 0, .inr (2, [.ref (h 1), .ref (h 2), .ref (h 7), .ref (h 8)])), (h 2, .inr (5, [.int (nI L), .ref (h 3), .ref (h 4), .ref (h 5), .ref (h 6)])), (h 4, .inl (g.2.1, 200, .inl gr)), (h 6, .inl (g.2.1, 7, .inl st)), (h 7, .inr (6, [.int (nI t.1), .int t.2.1, .int t.2.2.1, .int t.2.2.2.1, .int t.2.2.2.2.1, .int t.2.2.2.2.2.1, .int t.2.2.2.2.2.2.1, .int t.2.2.2.2.2.2.2])), (h 8, .inr (0, [.ref (h 9), .ref (h 10)])), (h 10, .inl (g.2.1, 200, .inl sq))] (is1 (some (.int (-2))) [(h 0, .inr (2, [.ref (h 1), .ref (h 2), .ref (h 7), .ref (h 8)])), (h 2, .inr (5, [.int (nI L), .ref (h 3), .ref (h 4), .ref (h 5), .ref (h 6)])), (h 4, .inl (g.2.1, 200, .inl gr)), (h 6, .inl (g.2.1, 7, .inl st)), (h 7, .inr (6, [.int (nI t.1), .int t.2.1, .int t.2.2.1, .int t.2.2.2.1, .int t.2.2.2.2.1, .int t.2.2.2.2.2.1, .int t.2.2.2.2.2.2.1, .int t.2.2.2.2.2.2.2])), (h 8, .inr (0, [.ref (h 9), .ref (h 10)])), (h 10, .inl (g.2.1, 200, .inl sq))]) := by
  refine Ct.walk (by decide) (Nat.le_of_ble_eq_true rfl) ?_
  intro p0 e0 s0 m0 below meth c0 A0 ls Q hQ E hr hnm hw hl
  have hx := E.x
  have hb := E.b
  have hl : lv_has ls 2 [(0, .ref (h 0)), (1, .int x)] := hl
  refine lv_iload_n hx hb dX2_trainValue_0 rfl (lv_at hl 1 rfl) ?_
  refine lv_tableOut (tgt := 165) hx hb dX2_trainValue_1 (x_out 13 (by decide) (by decide) hb0) (by decide) ?_
  refine lv_bipush (v := -2) hx hb dX2_trainValue_165 (by decide) ?_
  exact xr_i hQ E hr hw dX2_trainValue_167 ⟨rfl, rfl⟩

set_option maxRecDepth 100000 in
set_option maxHeartbeats 4000000 in
theorem c_X2_cellValue_0 (l : Launch) (g : xCfg) (h : Nat → Nat) (L : Nat) (ce : Nat → Int32) (gr : Nat → Int32) (be : Nat → Int32) (st : Nat → Int32) (fo : Nat → Int32) (x : Nat) (hL : L ≤ 200) (hx0 : x < L) : Ct l g yX2_cellValue cX2_cellValue 3 (some .int) (xR 2 43) [.ref (h 0), .int (nI x), .int 0] [(h 0, .inr (2, [.ref (h 1), .ref (h 2), .ref (h 7), .ref (h 8)])), (h 2, .inr (5, [.int (nI L), .ref (h 3), .ref (h 4), .ref (h 5), .ref (h 6)])), (h 3, .inl (g.2.1, 200, .inl ce)), (h 4, .inl (g.2.1, 200, .inl gr)), (h 5, .inl (g.2.1, 200, .inl be)), (h 6, .inl (g.2.1, 7, .inl st)), (h 8, .inr (0, [.ref (h 9), .ref (h 10)])), (h 9, .inl (g.2.1, 200, .inl fo))] (is1 (some (.int (cevF ce gr be fo (st 0) x 0))) [(h 0, .inr (2, [.ref (h 1), .ref (h 2), .ref (h 7), .ref (h 8)])), (h 2, .inr (5, [.int (nI L), .ref (h 3), .ref (h 4), .ref (h 5), .ref (h 6)])), (h 3, .inl (g.2.1, 200, .inl ce)), (h 4, .inl (g.2.1, 200, .inl gr)), (h 5, .inl (g.2.1, 200, .inl be)), (h 6, .inl (g.2.1, 7, .inl st)), (h 8, .inr (0, [.ref (h 9), .ref (h 10)])), (h 9, .inl (g.2.1, 200, .inl fo))]) := by
  refine Ct.walk (by decide) (Nat.le_of_ble_eq_true rfl) ?_
  intro p0 e0 s0 m0 below meth c0 A0 ls Q hQ E hr hnm hw hl
  have hx := E.x
  have hb := E.b
  have hl : lv_has ls 3 [(0, .ref (h 0)), (1, .int (nI x)), (2, .int 0)] := hl
  refine lv_aload_n hx hb dX2_cellValue_0 rfl (lv_at hl 0 rfl) ?_
  refine x_get E hw kf_X2_22 0 rfl rfl dX2_cellValue_1 ?_
  refine lv_iload_n hx hb dX2_cellValue_4 rfl (lv_at hl 1 rfl) ?_
  refine x_go (ws' := [(h 0, .inr (2, [.ref (h 1), .ref (h 2), .ref (h 7), .ref (h 8)])), (h 2, .inr (5, [.int (nI L), .ref (h 3), .ref (h 4), .ref (h 5), .ref (h 6)])), (h 3, .inl (g.2.1, 200, .inl ce)), (h 4, .inl (g.2.1, 200, .inl gr)), (h 5, .inl (g.2.1, 200, .inl be)), (h 6, .inl (g.2.1, 7, .inl st)), (h 8, .inr (0, [.ref (h 9), .ref (h 10)])), (h 9, .inl (g.2.1, 200, .inl fo))]) (st1 := [.int 1]) E hw [1] rfl (x_runVN (rest := []) E hw (c_X5_has_ok l g h L x (by omega) (by omega)) km_X2_54 kv_X5_has [1] rfl (by decide) 1 rfl hl.1 rfl rfl (Nat.le_of_ble_eq_true rfl) ⟨Nat.le_of_ble_eq_true rfl, Nat.le_of_ble_eq_true rfl⟩ ⟨Nat.zero_le _, Nat.zero_le _⟩ dX2_cellValue_5) rfl rfl rfl (fun H locs hw => ?_)
  refine lv_if_ne (tgt := 14) hx hb dX2_cellValue_8 (by decide) (fun _ => ?_) (fun h => absurd h (by decide))
  refine lv_iload_n hx hb dX2_cellValue_14 rfl (lv_at hl 2 rfl) ?_
  refine x_sw (v := 0) (off := 33) (tgt := 48) hx hb dX2_cellValue_15 rfl (by decide) (by decide) (by decide) (by decide) ?_
  refine lv_aload_n hx hb dX2_cellValue_48 rfl (lv_at hl 0 rfl) ?_
  refine x_get E hw kf_X2_22 0 rfl rfl dX2_cellValue_49 ?_
  refine x_getN E hw kf_X2_58 1 rfl rfl dX2_cellValue_52 ?_
  refine lv_iload_n hx hb dX2_cellValue_55 rfl (lv_at hl 1 rfl) ?_
  refine x_ld (v := ce x) E hw 2 rfl x rfl (by omega) (by decide) rfl dX2_cellValue_56 ?_
  exact xr_i hQ E hr hw dX2_cellValue_57 ⟨rfl, rfl⟩

set_option maxRecDepth 100000 in
set_option maxHeartbeats 4000000 in
theorem c_X2_cellValue_1 (l : Launch) (g : xCfg) (h : Nat → Nat) (L : Nat) (ce : Nat → Int32) (gr : Nat → Int32) (be : Nat → Int32) (st : Nat → Int32) (fo : Nat → Int32) (x : Nat) (hL : L ≤ 200) (hx0 : x < L) : Ct l g yX2_cellValue cX2_cellValue 3 (some .int) (xR 2 43) [.ref (h 0), .int (nI x), .int 1] [(h 0, .inr (2, [.ref (h 1), .ref (h 2), .ref (h 7), .ref (h 8)])), (h 2, .inr (5, [.int (nI L), .ref (h 3), .ref (h 4), .ref (h 5), .ref (h 6)])), (h 3, .inl (g.2.1, 200, .inl ce)), (h 4, .inl (g.2.1, 200, .inl gr)), (h 5, .inl (g.2.1, 200, .inl be)), (h 6, .inl (g.2.1, 7, .inl st)), (h 8, .inr (0, [.ref (h 9), .ref (h 10)])), (h 9, .inl (g.2.1, 200, .inl fo))] (is1 (some (.int (cevF ce gr be fo (st 0) x 1))) [(h 0, .inr (2, [.ref (h 1), .ref (h 2), .ref (h 7), .ref (h 8)])), (h 2, .inr (5, [.int (nI L), .ref (h 3), .ref (h 4), .ref (h 5), .ref (h 6)])), (h 3, .inl (g.2.1, 200, .inl ce)), (h 4, .inl (g.2.1, 200, .inl gr)), (h 5, .inl (g.2.1, 200, .inl be)), (h 6, .inl (g.2.1, 7, .inl st)), (h 8, .inr (0, [.ref (h 9), .ref (h 10)])), (h 9, .inl (g.2.1, 200, .inl fo))]) := by
  refine Ct.walk (by decide) (Nat.le_of_ble_eq_true rfl) ?_
  intro p0 e0 s0 m0 below meth c0 A0 ls Q hQ E hr hnm hw hl
  have hx := E.x
  have hb := E.b
  have hl : lv_has ls 3 [(0, .ref (h 0)), (1, .int (nI x)), (2, .int 1)] := hl
  refine lv_aload_n hx hb dX2_cellValue_0 rfl (lv_at hl 0 rfl) ?_
  refine x_get E hw kf_X2_22 0 rfl rfl dX2_cellValue_1 ?_
  refine lv_iload_n hx hb dX2_cellValue_4 rfl (lv_at hl 1 rfl) ?_
  refine x_go (ws' := [(h 0, .inr (2, [.ref (h 1), .ref (h 2), .ref (h 7), .ref (h 8)])), (h 2, .inr (5, [.int (nI L), .ref (h 3), .ref (h 4), .ref (h 5), .ref (h 6)])), (h 3, .inl (g.2.1, 200, .inl ce)), (h 4, .inl (g.2.1, 200, .inl gr)), (h 5, .inl (g.2.1, 200, .inl be)), (h 6, .inl (g.2.1, 7, .inl st)), (h 8, .inr (0, [.ref (h 9), .ref (h 10)])), (h 9, .inl (g.2.1, 200, .inl fo))]) (st1 := [.int 1]) E hw [1] rfl (x_runVN (rest := []) E hw (c_X5_has_ok l g h L x (by omega) (by omega)) km_X2_54 kv_X5_has [1] rfl (by decide) 1 rfl hl.1 rfl rfl (Nat.le_of_ble_eq_true rfl) ⟨Nat.le_of_ble_eq_true rfl, Nat.le_of_ble_eq_true rfl⟩ ⟨Nat.zero_le _, Nat.zero_le _⟩ dX2_cellValue_5) rfl rfl rfl (fun H locs hw => ?_)
  refine lv_if_ne (tgt := 14) hx hb dX2_cellValue_8 (by decide) (fun _ => ?_) (fun h => absurd h (by decide))
  refine lv_iload_n hx hb dX2_cellValue_14 rfl (lv_at hl 2 rfl) ?_
  refine x_sw (v := 1) (off := 43) (tgt := 58) hx hb dX2_cellValue_15 rfl (by decide) (by decide) (by decide) (by decide) ?_
  refine lv_aload_n hx hb dX2_cellValue_58 rfl (lv_at hl 0 rfl) ?_
  refine x_get E hw kf_X2_22 0 rfl rfl dX2_cellValue_59 ?_
  refine x_getN E hw kf_X2_62 1 rfl rfl dX2_cellValue_62 ?_
  refine lv_iload_n hx hb dX2_cellValue_65 rfl (lv_at hl 1 rfl) ?_
  refine x_ld (v := gr x) E hw 3 rfl x rfl (by omega) (by decide) rfl dX2_cellValue_66 ?_
  refine lv_bipush (v := 20) hx hb dX2_cellValue_67 (by decide) ?_
  refine lv_iadd hx hb dX2_cellValue_69 ?_
  exact xr_i hQ E hr hw dX2_cellValue_70 ⟨rfl, rfl⟩

set_option maxRecDepth 100000 in
set_option maxHeartbeats 4000000 in
theorem c_X2_cellValue_2 (l : Launch) (g : xCfg) (h : Nat → Nat) (L : Nat) (ce : Nat → Int32) (gr : Nat → Int32) (be : Nat → Int32) (st : Nat → Int32) (fo : Nat → Int32) (x : Nat) (hL : L ≤ 200) (hx0 : x < L) : Ct l g yX2_cellValue cX2_cellValue 3 (some .int) (xR 2 43) [.ref (h 0), .int (nI x), .int 2] [(h 0, .inr (2, [.ref (h 1), .ref (h 2), .ref (h 7), .ref (h 8)])), (h 2, .inr (5, [.int (nI L), .ref (h 3), .ref (h 4), .ref (h 5), .ref (h 6)])), (h 3, .inl (g.2.1, 200, .inl ce)), (h 4, .inl (g.2.1, 200, .inl gr)), (h 5, .inl (g.2.1, 200, .inl be)), (h 6, .inl (g.2.1, 7, .inl st)), (h 8, .inr (0, [.ref (h 9), .ref (h 10)])), (h 9, .inl (g.2.1, 200, .inl fo))] (is1 (some (.int (cevF ce gr be fo (st 0) x 2))) [(h 0, .inr (2, [.ref (h 1), .ref (h 2), .ref (h 7), .ref (h 8)])), (h 2, .inr (5, [.int (nI L), .ref (h 3), .ref (h 4), .ref (h 5), .ref (h 6)])), (h 3, .inl (g.2.1, 200, .inl ce)), (h 4, .inl (g.2.1, 200, .inl gr)), (h 5, .inl (g.2.1, 200, .inl be)), (h 6, .inl (g.2.1, 7, .inl st)), (h 8, .inr (0, [.ref (h 9), .ref (h 10)])), (h 9, .inl (g.2.1, 200, .inl fo))]) := by
  refine Ct.walk (by decide) (Nat.le_of_ble_eq_true rfl) ?_
  intro p0 e0 s0 m0 below meth c0 A0 ls Q hQ E hr hnm hw hl
  have hx := E.x
  have hb := E.b
  have hl : lv_has ls 3 [(0, .ref (h 0)), (1, .int (nI x)), (2, .int 2)] := hl
  refine lv_aload_n hx hb dX2_cellValue_0 rfl (lv_at hl 0 rfl) ?_
  refine x_get E hw kf_X2_22 0 rfl rfl dX2_cellValue_1 ?_
  refine lv_iload_n hx hb dX2_cellValue_4 rfl (lv_at hl 1 rfl) ?_
  refine x_go (ws' := [(h 0, .inr (2, [.ref (h 1), .ref (h 2), .ref (h 7), .ref (h 8)])), (h 2, .inr (5, [.int (nI L), .ref (h 3), .ref (h 4), .ref (h 5), .ref (h 6)])), (h 3, .inl (g.2.1, 200, .inl ce)), (h 4, .inl (g.2.1, 200, .inl gr)), (h 5, .inl (g.2.1, 200, .inl be)), (h 6, .inl (g.2.1, 7, .inl st)), (h 8, .inr (0, [.ref (h 9), .ref (h 10)])), (h 9, .inl (g.2.1, 200, .inl fo))]) (st1 := [.int 1]) E hw [1] rfl (x_runVN (rest := []) E hw (c_X5_has_ok l g h L x (by omega) (by omega)) km_X2_54 kv_X5_has [1] rfl (by decide) 1 rfl hl.1 rfl rfl (Nat.le_of_ble_eq_true rfl) ⟨Nat.le_of_ble_eq_true rfl, Nat.le_of_ble_eq_true rfl⟩ ⟨Nat.zero_le _, Nat.zero_le _⟩ dX2_cellValue_5) rfl rfl rfl (fun H locs hw => ?_)
  refine lv_if_ne (tgt := 14) hx hb dX2_cellValue_8 (by decide) (fun _ => ?_) (fun h => absurd h (by decide))
  refine lv_iload_n hx hb dX2_cellValue_14 rfl (lv_at hl 2 rfl) ?_
  refine x_sw (v := 2) (off := 56) (tgt := 71) hx hb dX2_cellValue_15 rfl (by decide) (by decide) (by decide) (by decide) ?_
  refine lv_aload_n hx hb dX2_cellValue_71 rfl (lv_at hl 0 rfl) ?_
  refine x_get E hw kf_X2_22 0 rfl rfl dX2_cellValue_72 ?_
  refine x_getN E hw kf_X2_65 1 rfl rfl dX2_cellValue_75 ?_
  refine lv_iload_n hx hb dX2_cellValue_78 rfl (lv_at hl 1 rfl) ?_
  refine x_ld (v := be x) E hw 4 rfl x rfl (by omega) (by decide) rfl dX2_cellValue_79 ?_
  exact xr_i hQ E hr hw dX2_cellValue_80 ⟨rfl, rfl⟩

set_option maxRecDepth 100000 in
set_option maxHeartbeats 4000000 in
theorem c_X2_cellValue_3 (l : Launch) (g : xCfg) (h : Nat → Nat) (L : Nat) (ce : Nat → Int32) (gr : Nat → Int32) (be : Nat → Int32) (st : Nat → Int32) (fo : Nat → Int32) (x : Nat) (hL : L ≤ 200) (hx0 : x < L) : Ct l g yX2_cellValue cX2_cellValue 3 (some .int) (xR 2 43) [.ref (h 0), .int (nI x), .int 3] [(h 0, .inr (2, [.ref (h 1), .ref (h 2), .ref (h 7), .ref (h 8)])), (h 2, .inr (5, [.int (nI L), .ref (h 3), .ref (h 4), .ref (h 5), .ref (h 6)])), (h 3, .inl (g.2.1, 200, .inl ce)), (h 4, .inl (g.2.1, 200, .inl gr)), (h 5, .inl (g.2.1, 200, .inl be)), (h 6, .inl (g.2.1, 7, .inl st)), (h 8, .inr (0, [.ref (h 9), .ref (h 10)])), (h 9, .inl (g.2.1, 200, .inl fo))] (is1 (some (.int (cevF ce gr be fo (st 0) x 3))) [(h 0, .inr (2, [.ref (h 1), .ref (h 2), .ref (h 7), .ref (h 8)])), (h 2, .inr (5, [.int (nI L), .ref (h 3), .ref (h 4), .ref (h 5), .ref (h 6)])), (h 3, .inl (g.2.1, 200, .inl ce)), (h 4, .inl (g.2.1, 200, .inl gr)), (h 5, .inl (g.2.1, 200, .inl be)), (h 6, .inl (g.2.1, 7, .inl st)), (h 8, .inr (0, [.ref (h 9), .ref (h 10)])), (h 9, .inl (g.2.1, 200, .inl fo))]) := by
  refine Ct.walk (by decide) (Nat.le_of_ble_eq_true rfl) ?_
  intro p0 e0 s0 m0 below meth c0 A0 ls Q hQ E hr hnm hw hl
  have hx := E.x
  have hb := E.b
  have hl : lv_has ls 3 [(0, .ref (h 0)), (1, .int (nI x)), (2, .int 3)] := hl
  refine lv_aload_n hx hb dX2_cellValue_0 rfl (lv_at hl 0 rfl) ?_
  refine x_get E hw kf_X2_22 0 rfl rfl dX2_cellValue_1 ?_
  refine lv_iload_n hx hb dX2_cellValue_4 rfl (lv_at hl 1 rfl) ?_
  refine x_go (ws' := [(h 0, .inr (2, [.ref (h 1), .ref (h 2), .ref (h 7), .ref (h 8)])), (h 2, .inr (5, [.int (nI L), .ref (h 3), .ref (h 4), .ref (h 5), .ref (h 6)])), (h 3, .inl (g.2.1, 200, .inl ce)), (h 4, .inl (g.2.1, 200, .inl gr)), (h 5, .inl (g.2.1, 200, .inl be)), (h 6, .inl (g.2.1, 7, .inl st)), (h 8, .inr (0, [.ref (h 9), .ref (h 10)])), (h 9, .inl (g.2.1, 200, .inl fo))]) (st1 := [.int 1]) E hw [1] rfl (x_runVN (rest := []) E hw (c_X5_has_ok l g h L x (by omega) (by omega)) km_X2_54 kv_X5_has [1] rfl (by decide) 1 rfl hl.1 rfl rfl (Nat.le_of_ble_eq_true rfl) ⟨Nat.le_of_ble_eq_true rfl, Nat.le_of_ble_eq_true rfl⟩ ⟨Nat.zero_le _, Nat.zero_le _⟩ dX2_cellValue_5) rfl rfl rfl (fun H locs hw => ?_)
  refine lv_if_ne (tgt := 14) hx hb dX2_cellValue_8 (by decide) (fun _ => ?_) (fun h => absurd h (by decide))
  refine lv_iload_n hx hb dX2_cellValue_14 rfl (lv_at hl 2 rfl) ?_
  refine x_sw (v := 3) (off := 66) (tgt := 81) hx hb dX2_cellValue_15 rfl (by decide) (by decide) (by decide) (by decide) ?_
  refine lv_aload_n hx hb dX2_cellValue_81 rfl (lv_at hl 0 rfl) ?_
  refine x_get E hw kf_X2_22 0 rfl rfl dX2_cellValue_82 ?_
  refine lv_iload_n hx hb dX2_cellValue_85 rfl (lv_at hl 1 rfl) ?_
  refine x_go (ws' := [(h 0, .inr (2, [.ref (h 1), .ref (h 2), .ref (h 7), .ref (h 8)])), (h 2, .inr (5, [.int (nI L), .ref (h 3), .ref (h 4), .ref (h 5), .ref (h 6)])), (h 3, .inl (g.2.1, 200, .inl ce)), (h 4, .inl (g.2.1, 200, .inl gr)), (h 5, .inl (g.2.1, 200, .inl be)), (h 6, .inl (g.2.1, 7, .inl st)), (h 8, .inr (0, [.ref (h 9), .ref (h 10)])), (h 9, .inl (g.2.1, 200, .inl fo))]) (st1 := [.int (dcl (st 0) (gr x))]) E hw [1, 3, 5] rfl (x_runVN (rest := []) E hw (c_X5_decel l g h L gr st x (by omega)) km_X2_68 kv_X5_decel [1, 3, 5] rfl (by decide) 1 rfl hl.1 rfl rfl (Nat.le_of_ble_eq_true rfl) ⟨Nat.le_of_ble_eq_true rfl, Nat.le_of_ble_eq_true rfl⟩ ⟨Nat.zero_le _, Nat.zero_le _⟩ dX2_cellValue_86) rfl rfl rfl (fun H locs hw => ?_)
  exact xr_i hQ E hr hw dX2_cellValue_89 ⟨rfl, rfl⟩

set_option maxRecDepth 100000 in
set_option maxHeartbeats 4000000 in
theorem c_X2_cellValue_4 (l : Launch) (g : xCfg) (h : Nat → Nat) (L : Nat) (ce : Nat → Int32) (gr : Nat → Int32) (be : Nat → Int32) (st : Nat → Int32) (fo : Nat → Int32) (x : Nat) (hL : L ≤ 200) (hx0 : x < L) : Ct l g yX2_cellValue cX2_cellValue 3 (some .int) (xR 2 43) [.ref (h 0), .int (nI x), .int 4] [(h 0, .inr (2, [.ref (h 1), .ref (h 2), .ref (h 7), .ref (h 8)])), (h 2, .inr (5, [.int (nI L), .ref (h 3), .ref (h 4), .ref (h 5), .ref (h 6)])), (h 3, .inl (g.2.1, 200, .inl ce)), (h 4, .inl (g.2.1, 200, .inl gr)), (h 5, .inl (g.2.1, 200, .inl be)), (h 6, .inl (g.2.1, 7, .inl st)), (h 8, .inr (0, [.ref (h 9), .ref (h 10)])), (h 9, .inl (g.2.1, 200, .inl fo))] (is1 (some (.int (cevF ce gr be fo (st 0) x 4))) [(h 0, .inr (2, [.ref (h 1), .ref (h 2), .ref (h 7), .ref (h 8)])), (h 2, .inr (5, [.int (nI L), .ref (h 3), .ref (h 4), .ref (h 5), .ref (h 6)])), (h 3, .inl (g.2.1, 200, .inl ce)), (h 4, .inl (g.2.1, 200, .inl gr)), (h 5, .inl (g.2.1, 200, .inl be)), (h 6, .inl (g.2.1, 7, .inl st)), (h 8, .inr (0, [.ref (h 9), .ref (h 10)])), (h 9, .inl (g.2.1, 200, .inl fo))]) := by
  refine Ct.walk (by decide) (Nat.le_of_ble_eq_true rfl) ?_
  intro p0 e0 s0 m0 below meth c0 A0 ls Q hQ E hr hnm hw hl
  have hx := E.x
  have hb := E.b
  have hl : lv_has ls 3 [(0, .ref (h 0)), (1, .int (nI x)), (2, .int 4)] := hl
  refine lv_aload_n hx hb dX2_cellValue_0 rfl (lv_at hl 0 rfl) ?_
  refine x_get E hw kf_X2_22 0 rfl rfl dX2_cellValue_1 ?_
  refine lv_iload_n hx hb dX2_cellValue_4 rfl (lv_at hl 1 rfl) ?_
  refine x_go (ws' := [(h 0, .inr (2, [.ref (h 1), .ref (h 2), .ref (h 7), .ref (h 8)])), (h 2, .inr (5, [.int (nI L), .ref (h 3), .ref (h 4), .ref (h 5), .ref (h 6)])), (h 3, .inl (g.2.1, 200, .inl ce)), (h 4, .inl (g.2.1, 200, .inl gr)), (h 5, .inl (g.2.1, 200, .inl be)), (h 6, .inl (g.2.1, 7, .inl st)), (h 8, .inr (0, [.ref (h 9), .ref (h 10)])), (h 9, .inl (g.2.1, 200, .inl fo))]) (st1 := [.int 1]) E hw [1] rfl (x_runVN (rest := []) E hw (c_X5_has_ok l g h L x (by omega) (by omega)) km_X2_54 kv_X5_has [1] rfl (by decide) 1 rfl hl.1 rfl rfl (Nat.le_of_ble_eq_true rfl) ⟨Nat.le_of_ble_eq_true rfl, Nat.le_of_ble_eq_true rfl⟩ ⟨Nat.zero_le _, Nat.zero_le _⟩ dX2_cellValue_5) rfl rfl rfl (fun H locs hw => ?_)
  refine lv_if_ne (tgt := 14) hx hb dX2_cellValue_8 (by decide) (fun _ => ?_) (fun h => absurd h (by decide))
  refine lv_iload_n hx hb dX2_cellValue_14 rfl (lv_at hl 2 rfl) ?_
  refine x_sw (v := 4) (off := 75) (tgt := 90) hx hb dX2_cellValue_15 rfl (by decide) (by decide) (by decide) (by decide) ?_
  refine lv_aload_n hx hb dX2_cellValue_90 rfl (lv_at hl 0 rfl) ?_
  refine x_get E hw kf_X2_31 0 rfl rfl dX2_cellValue_91 ?_
  refine x_getN E hw kf_X2_71 6 rfl rfl dX2_cellValue_94 ?_
  refine lv_iload_n hx hb dX2_cellValue_97 rfl (lv_at hl 1 rfl) ?_
  refine x_ld (v := fo x) E hw 7 rfl x rfl (by omega) (by decide) rfl dX2_cellValue_98 ?_
  exact xr_i hQ E hr hw dX2_cellValue_99 ⟨rfl, rfl⟩

theorem c_X2_cellValue (l : Launch) (g : xCfg) (h : Nat → Nat) (L : Nat) (ce : Nat → Int32) (gr : Nat → Int32) (be : Nat → Int32) (st : Nat → Int32) (fo : Nat → Int32) (x : Nat) (w : Nat) (hL : L ≤ 200) (hx0 : x < L) (hw0 : w < 5) : Ct l g yX2_cellValue cX2_cellValue 3 (some .int) (xR 2 43) [.ref (h 0), .int (nI x), .int (nI w)] [(h 0, .inr (2, [.ref (h 1), .ref (h 2), .ref (h 7), .ref (h 8)])), (h 2, .inr (5, [.int (nI L), .ref (h 3), .ref (h 4), .ref (h 5), .ref (h 6)])), (h 3, .inl (g.2.1, 200, .inl ce)), (h 4, .inl (g.2.1, 200, .inl gr)), (h 5, .inl (g.2.1, 200, .inl be)), (h 6, .inl (g.2.1, 7, .inl st)), (h 8, .inr (0, [.ref (h 9), .ref (h 10)])), (h 9, .inl (g.2.1, 200, .inl fo))] (is1 (some (.int (cevF ce gr be fo (st 0) x w))) [(h 0, .inr (2, [.ref (h 1), .ref (h 2), .ref (h 7), .ref (h 8)])), (h 2, .inr (5, [.int (nI L), .ref (h 3), .ref (h 4), .ref (h 5), .ref (h 6)])), (h 3, .inl (g.2.1, 200, .inl ce)), (h 4, .inl (g.2.1, 200, .inl gr)), (h 5, .inl (g.2.1, 200, .inl be)), (h 6, .inl (g.2.1, 7, .inl st)), (h 8, .inr (0, [.ref (h 9), .ref (h 10)])), (h 9, .inl (g.2.1, 200, .inl fo))]) := by
  match w, hw0 with
  | 0, _ => exact c_X2_cellValue_0 l g h L ce gr be st fo x hL hx0
  | 1, _ => exact c_X2_cellValue_1 l g h L ce gr be st fo x hL hx0
  | 2, _ => exact c_X2_cellValue_2 l g h L ce gr be st fo x hL hx0
  | 3, _ => exact c_X2_cellValue_3 l g h L ce gr be st fo x hL hx0
  | 4, _ => exact c_X2_cellValue_4 l g h L ce gr be st fo x hL hx0
  | w + 5, h => exact absurd h (by omega)

set_option maxRecDepth 100000 in
set_option maxHeartbeats 4000000 in
theorem c_X2_cellValue_bw (l : Launch) (g : xCfg) (h : Nat → Nat) (L : Nat) (ce : Nat → Int32) (gr : Nat → Int32) (be : Nat → Int32) (st : Nat → Int32) (fo : Nat → Int32) (x : Nat) (y : Int32) (hL : L ≤ 200) (hx0 : x < L) (hb0 : ∀ k, k < 5 → y ≠ nI k) : Ct l g yX2_cellValue cX2_cellValue 3 (some .int) (xR 2 43) [.ref (h 0), .int (nI x), .int y] [(h 0, .inr (2, [.ref (h 1), .ref (h 2), .ref (h 7), .ref (h 8)])), (h 2, .inr (5, [.int (nI L), .ref (h 3), .ref (h 4), .ref (h 5), .ref (h 6)])), (h 3, .inl (g.2.1, 200, .inl ce)), (h 4, .inl (g.2.1, 200, .inl gr)), (h 5, .inl (g.2.1, 200, .inl be)), (h 6, .inl (g.2.1, 7, .inl st)), (h 8, .inr (0, [.ref (h 9), .ref (h 10)])), (h 9, .inl (g.2.1, 200, .inl fo))] (is1 (some (.int (-2))) [(h 0, .inr (2, [.ref (h 1), .ref (h 2), .ref (h 7), .ref (h 8)])), (h 2, .inr (5, [.int (nI L), .ref (h 3), .ref (h 4), .ref (h 5), .ref (h 6)])), (h 3, .inl (g.2.1, 200, .inl ce)), (h 4, .inl (g.2.1, 200, .inl gr)), (h 5, .inl (g.2.1, 200, .inl be)), (h 6, .inl (g.2.1, 7, .inl st)), (h 8, .inr (0, [.ref (h 9), .ref (h 10)])), (h 9, .inl (g.2.1, 200, .inl fo))]) := by
  refine Ct.walk (by decide) (Nat.le_of_ble_eq_true rfl) ?_
  intro p0 e0 s0 m0 below meth c0 A0 ls Q hQ E hr hnm hw hl
  have hx := E.x
  have hb := E.b
  have hl : lv_has ls 3 [(0, .ref (h 0)), (1, .int (nI x)), (2, .int y)] := hl
  refine lv_aload_n hx hb dX2_cellValue_0 rfl (lv_at hl 0 rfl) ?_
  refine x_get E hw kf_X2_22 0 rfl rfl dX2_cellValue_1 ?_
  refine lv_iload_n hx hb dX2_cellValue_4 rfl (lv_at hl 1 rfl) ?_
  refine x_go (ws' := [(h 0, .inr (2, [.ref (h 1), .ref (h 2), .ref (h 7), .ref (h 8)])), (h 2, .inr (5, [.int (nI L), .ref (h 3), .ref (h 4), .ref (h 5), .ref (h 6)])), (h 3, .inl (g.2.1, 200, .inl ce)), (h 4, .inl (g.2.1, 200, .inl gr)), (h 5, .inl (g.2.1, 200, .inl be)), (h 6, .inl (g.2.1, 7, .inl st)), (h 8, .inr (0, [.ref (h 9), .ref (h 10)])), (h 9, .inl (g.2.1, 200, .inl fo))]) (st1 := [.int 1]) E hw [1] rfl (x_runVN (rest := []) E hw (c_X5_has_ok l g h L x (by omega) (by omega)) km_X2_54 kv_X5_has [1] rfl (by decide) 1 rfl hl.1 rfl rfl (Nat.le_of_ble_eq_true rfl) ⟨Nat.le_of_ble_eq_true rfl, Nat.le_of_ble_eq_true rfl⟩ ⟨Nat.zero_le _, Nat.zero_le _⟩ dX2_cellValue_5) rfl rfl rfl (fun H locs hw => ?_)
  refine lv_if_ne (tgt := 14) hx hb dX2_cellValue_8 (by decide) (fun _ => ?_) (fun h => absurd h (by decide))
  refine lv_iload_n hx hb dX2_cellValue_14 rfl (lv_at hl 2 rfl) ?_
  refine lv_tableOut (tgt := 100) hx hb dX2_cellValue_15 (x_out 5 (by decide) (by decide) hb0) (by decide) ?_
  refine lv_bipush (v := -2) hx hb dX2_cellValue_100 (by decide) ?_
  exact xr_i hQ E hr hw dX2_cellValue_102 ⟨rfl, rfl⟩

set_option maxRecDepth 100000 in
set_option maxHeartbeats 4000000 in
theorem c_X2_cellValue_bx (l : Launch) (g : xCfg) (h : Nat → Nat) (L : Nat) (ce : Nat → Int32) (gr : Nat → Int32) (be : Nat → Int32) (st : Nat → Int32) (fo : Nat → Int32) (x : Int32) (y : Int32) (hL1 : 1 ≤ L) (hb0 : ¬ (0 ≤ x ∧ x ≤ nI (L - 1))) : Ct l g yX2_cellValue cX2_cellValue 3 (some .int) (xR 2 43) [.ref (h 0), .int x, .int y] [(h 0, .inr (2, [.ref (h 1), .ref (h 2), .ref (h 7), .ref (h 8)])), (h 2, .inr (5, [.int (nI L), .ref (h 3), .ref (h 4), .ref (h 5), .ref (h 6)])), (h 3, .inl (g.2.1, 200, .inl ce)), (h 4, .inl (g.2.1, 200, .inl gr)), (h 5, .inl (g.2.1, 200, .inl be)), (h 6, .inl (g.2.1, 7, .inl st)), (h 8, .inr (0, [.ref (h 9), .ref (h 10)])), (h 9, .inl (g.2.1, 200, .inl fo))] (is1 (some (.int (-2))) [(h 0, .inr (2, [.ref (h 1), .ref (h 2), .ref (h 7), .ref (h 8)])), (h 2, .inr (5, [.int (nI L), .ref (h 3), .ref (h 4), .ref (h 5), .ref (h 6)])), (h 3, .inl (g.2.1, 200, .inl ce)), (h 4, .inl (g.2.1, 200, .inl gr)), (h 5, .inl (g.2.1, 200, .inl be)), (h 6, .inl (g.2.1, 7, .inl st)), (h 8, .inr (0, [.ref (h 9), .ref (h 10)])), (h 9, .inl (g.2.1, 200, .inl fo))]) := by
  refine Ct.walk (by decide) (Nat.le_of_ble_eq_true rfl) ?_
  intro p0 e0 s0 m0 below meth c0 A0 ls Q hQ E hr hnm hw hl
  have hx := E.x
  have hb := E.b
  have hl : lv_has ls 3 [(0, .ref (h 0)), (1, .int x), (2, .int y)] := hl
  refine lv_aload_n hx hb dX2_cellValue_0 rfl (lv_at hl 0 rfl) ?_
  refine x_get E hw kf_X2_22 0 rfl rfl dX2_cellValue_1 ?_
  refine lv_iload_n hx hb dX2_cellValue_4 rfl (lv_at hl 1 rfl) ?_
  refine x_go (ws' := [(h 0, .inr (2, [.ref (h 1), .ref (h 2), .ref (h 7), .ref (h 8)])), (h 2, .inr (5, [.int (nI L), .ref (h 3), .ref (h 4), .ref (h 5), .ref (h 6)])), (h 3, .inl (g.2.1, 200, .inl ce)), (h 4, .inl (g.2.1, 200, .inl gr)), (h 5, .inl (g.2.1, 200, .inl be)), (h 6, .inl (g.2.1, 7, .inl st)), (h 8, .inr (0, [.ref (h 9), .ref (h 10)])), (h 9, .inl (g.2.1, 200, .inl fo))]) (st1 := [.int (bI (0 ≤ x ∧ x ≤ nI (L - 1)))]) E hw [1] rfl (x_runVN (rest := []) E hw (c_X5_has l g h L x (by omega)) km_X2_54 kv_X5_has [1] rfl (by decide) 1 rfl hl.1 rfl rfl (Nat.le_of_ble_eq_true rfl) ⟨Nat.le_of_ble_eq_true rfl, Nat.le_of_ble_eq_true rfl⟩ ⟨Nat.zero_le _, Nat.zero_le _⟩ dX2_cellValue_5) rfl rfl rfl (fun H locs hw => ?_)
  refine xb_ne (tgt := 14) hx hb dX2_cellValue_8 (by decide) (fun ca => ?_) (fun ca => ?_)
  · exact absurd ca hb0
  · refine lv_bipush (v := -2) hx hb dX2_cellValue_11 (by decide) ?_
    exact xr_i hQ E hr hw dX2_cellValue_13 ⟨rfl, rfl⟩
