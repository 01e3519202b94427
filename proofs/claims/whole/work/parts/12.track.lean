
/-- the root, bit by bit from the top -/
def rtL : Nat → Nat → Int32 → Nat
  | 0, f, _ => f
  | j + 1, f, q => rtL j (if nI ((f + 2 ^ j) * (f + 2 ^ j)) ≤ q then f + 2 ^ j else f) q
theorem rtL_no {j f : Nat} {q : Int32} (h : q < nI ((f + 2 ^ j) * (f + 2 ^ j))) : rtL (j + 1) f q = rtL j f q := by rw [rtL, if_neg (Int32.not_le.mpr h)]
theorem rtL_yes {j f : Nat} {q : Int32} (h : ¬ q < nI ((f + 2 ^ j) * (f + 2 ^ j))) : rtL (j + 1) f q = rtL j (f + 2 ^ j) q := by rw [rtL, if_pos (Int32.not_lt.mp h)]
theorem pw_lt {j : Nat} (h : j ≤ 15) : 2 ^ j / 2 < 2 ^ 31 := by
  have h1 : 2 ^ j ≤ 2 ^ 15 := Nat.pow_le_pow_right (by decide) h
  omega
theorem pw_0 {j : Nat} (h : 2 ^ j / 2 = 0) : j = 0 := by
  cases j with
  | zero => rfl
  | succ k =>
    rw [Nat.pow_succ, Nat.mul_div_cancel _ (by decide)] at h
    exact absurd h (Nat.ne_of_gt (Nat.pow_pos (by decide)))
theorem pw_s {j : Nat} (h : 0 < 2 ^ j / 2) : ∃ k, j = k + 1 := by
  cases j with
  | zero => exact absurd h (by decide)
  | succ k => exact ⟨k, rfl⟩
theorem pw_h (k : Nat) : 2 ^ (k + 1) / 2 = 2 ^ k := by rw [Nat.pow_succ, Nat.mul_div_cancel _ (by decide)]
theorem pw_shr {k : Nat} (h : k + 1 ≤ 15) : nI (2 ^ k) >>> ((1 : Int32) &&& 31) = nI (2 ^ k / 2) := by
  have h1 : 2 ^ k ≤ 2 ^ 15 := Nat.pow_le_pow_right (by decide) (by omega)
  exact pk_shrN (n := 2 ^ k) (by omega) ((1 : Int32) &&& 31) 1 (by decide)
theorem filF_end (f : Nat → Int32) (v : Int32) (a x m : Nat) (h : m ≤ x) (h2 : x = a ∨ x ≤ m) (j : Nat) : filF f v a x j = filF f v a m j := by
  rcases h2 with rfl | h2
  · unfold filF
    rw [if_neg (by omega), if_neg (by omega)]
  · rw [show x = m by omega]
/-- how far it is to stand -/
def stL (gr : Nat → Int32) (b : Int32) : Nat → Nat → Nat → Int32 → Int32
  | 0, _, _, _ => -1
  | d + 1, y, x, q => if q - dcl b (gr y) ≤ 0 then nI (y - x) else stL gr b d (y + 1) x (q - dcl b (gr y))
theorem stL_at {gr : Nat → Int32} {b q : Int32} {L y x : Nat} (h : y < L) (hc : ¬ 0 < q - dcl b (gr y)) : stL gr b (L - y) y x q = nI (y - x) := by
  rw [show L - y = (L - (y + 1)) + 1 by omega, stL, if_pos (Int32.not_lt.mp hc)]
theorem stL_go {gr : Nat → Int32} {b q : Int32} {L y x : Nat} (h : y < L) (hc : 0 < q - dcl b (gr y)) : stL gr b (L - y) y x q = stL gr b (L - (y + 1)) (y + 1) x (q - dcl b (gr y)) := by
  rw [show L - y = (L - (y + 1)) + 1 by omega, stL, if_neg (Int32.not_le.mpr hc)]
/-- all DECELS of k cells from x on -/
def smD (gr : Nat → Int32) (b : Int32) (x : Nat) : Nat → Int32
  | 0 => 0
  | k + 1 => smD gr b x k + dcl b (gr (x + k))
/-- where the least of a row's part is, the last one of several -/
def lmi (ce : Nat → Int32) (a : Nat) : Nat → Nat
  | 0 => a
  | d + 1 => if ce (lmi ce a d) < ce (a + d + 1) then lmi ce a d else a + d + 1
theorem lmi_le (ce : Nat → Int32) (a : Nat) : ∀ d, lmi ce a d ≤ a + d
  | 0 => Nat.le_refl a
  | d + 1 => by
    rw [lmi]
    have := lmi_le ce a d
    split <;> omega
theorem lmi_no {ce : Nat → Int32} {a d : Nat} (h : ce (lmi ce a d) < ce (a + d + 1)) : lmi ce a (d + 1) = lmi ce a d := by rw [lmi, if_pos h]
theorem lmi_yes {ce : Nat → Int32} {a d : Nat} (h : ¬ ce (lmi ce a d) < ce (a + d + 1)) : lmi ce a (d + 1) = a + d + 1 := by rw [lmi, if_neg h]
/-- the least CEILING's cell as the sweep keeps it ahead of cell x; the row of CEILINGS IN FORCE -/
def dcI (ce : Nat → Int32) (len : Nat) : Nat → Nat
  | 0 => 0
  | x + 1 => if dcI ce len x < x + 1 - len then lmi ce (x + 1 - len) (x - (x + 1 - len)) else if ce (dcI ce len x) < ce x then dcI ce len x else x
def dcF (ce : Nat → Int32) (len x : Nat) (fo : Nat → Int32) : Nat → Int32 := fun j => if j < x then ce (dcI ce len (j + 1)) else fo j
theorem dcI_a {ce : Nat → Int32} {len x : Nat} (h : dcI ce len x < x + 1 - len) : dcI ce len (x + 1) = lmi ce (x + 1 - len) (x - (x + 1 - len)) := by rw [dcI, if_pos h]
theorem dcI_b {ce : Nat → Int32} {len x : Nat} (h : x + 1 - len ≤ dcI ce len x) (h2 : ce (dcI ce len x) < ce x) : dcI ce len (x + 1) = dcI ce len x := by rw [dcI, if_neg (by omega), if_pos h2]
theorem dcI_c {ce : Nat → Int32} {len x : Nat} (h : x + 1 - len ≤ dcI ce len x) (h2 : ¬ ce (dcI ce len x) < ce x) : dcI ce len (x + 1) = x := by rw [dcI, if_neg (by omega), if_neg h2]
theorem dcI_le {ce : Nat → Int32} {len : Nat} (hl : 1 ≤ len) : ∀ x, dcI ce len x ≤ x
  | 0 => Nat.le_refl 0
  | x + 1 => by
    rw [dcI]
    have h1 := lmi_le ce (x + 1 - len) (x - (x + 1 - len))
    have h2 := dcI_le (ce := ce) hl x
    split
    · omega
    · split <;> omega
theorem dcF_nil (ce : Nat → Int32) (len : Nat) (fo : Nat → Int32) (j : Nat) : dcF ce len 0 fo j = fo j := if_neg (by omega)
theorem dcF_st (ce : Nat → Int32) (len x : Nat) (fo : Nat → Int32) (k : Nat) (hk : dcI ce len (x + 1) = k) (j : Nat) : upd (dcF ce len x fo) x (ce k) j = dcF ce len (x + 1) fo j := by
  unfold upd dcF
  by_cases h : j = x
  · subst h
    rw [if_pos rfl, if_pos (by omega), hk]
  · rw [if_neg h]
    by_cases h2 : j < x
    · rw [if_pos h2, if_pos (by omega)]
    · rw [if_neg h2, if_neg (by omega)]
theorem tailN {x len : Nat} (hx : x < 2 ^ 30) (hl : len < 2 ^ 30) : (if (0 : Int32) < nI x - nI len + 1 then nI x - nI len + 1 else 0) = nI (x + 1 - len) := by
  by_cases h : len ≤ x
  · rw [pk_sub h, nI_1, if_pos, show x + 1 - len = x - len + 1 by omega]
    exact (n_lt (a := 0) (by decide) (by omega)).mpr (by omega)
  · have h0 : ¬ (0 : Int32) < nI x - nI len + 1 := by
      intro h1
      have e : (nI x - nI len).toInt = (x : Int) - len := pk_sub_toInt hx hl
      have e2 : (nI x - nI len + 1).toInt = (x : Int) - len + 1 := by
        rw [Int32.toInt_add, e, show (1 : Int32).toInt = 1 from rfl]
        exact Int.bmod_eq_of_le (by omega) (by omega)
      have h2 := Int32.lt_iff_toInt_lt.mp h1
      rw [e2, show (0 : Int32).toInt = 0 from rfl] at h2
      omega
    rw [if_neg h0, show x + 1 - len = 0 by omega]
    rfl
/-- LAWFUL, by the distance to the end -/
def lwD (fo gr : Nat → Int32) (b : Int32) (L : Nat) : Nat → Int32
  | 0 => 0
  | d + 1 => if lwD fo gr b L d + dcl b (gr (L - 1 - d)) < fo (L - 1 - d) * fo (L - 1 - d) then lwD fo gr b L d + dcl b (gr (L - 1 - d)) else fo (L - 1 - d) * fo (L - 1 - d)
def lwS (fo gr : Nat → Int32) (b : Int32) (L k : Nat) (sq : Nat → Int32) : Nat → Int32 := fun j => if k ≤ j ∧ j < L then lwD fo gr b L (L - j) else sq j
theorem lwD_st (fo gr : Nat → Int32) (b : Int32) (L j : Nat) (h : j < L) : lwD fo gr b L (L - j) = if lwD fo gr b L (L - (j + 1)) + dcl b (gr j) < fo j * fo j then lwD fo gr b L (L - (j + 1)) + dcl b (gr j) else fo j * fo j := by
  rw [show L - j = (L - (j + 1)) + 1 by omega, lwD, show L - 1 - (L - (j + 1)) = j by omega]
theorem lwS_nil (fo gr : Nat → Int32) (b : Int32) (L : Nat) (sq : Nat → Int32) (j : Nat) : lwS fo gr b L L sq j = sq j := if_neg (by omega)
theorem lwS_st (fo gr : Nat → Int32) (b : Int32) (L k : Nat) (sq : Nat → Int32) (h : k < L) (j : Nat) : upd (lwS fo gr b L (k + 1) sq) k (lwD fo gr b L (L - k)) j = lwS fo gr b L k sq j := by
  unfold upd lwS
  by_cases hj : j = k
  · subst hj
    rw [if_pos rfl, if_pos (by omega)]
  · rw [if_neg hj]
    by_cases h2 : k ≤ j ∧ j < L
    · rw [if_pos h2, if_pos (by omega)]
    · rw [if_neg h2, if_neg (by omega)]
/-- BOUND by which cell -/
def bndL (v : Int32) (fo gr : Nat → Int32) (b : Int32) : Nat → Nat → Int32 → Nat
  | 0, y, _ => y
  | d + 1, y, br => if v = fo y * fo y + br then y else bndL v fo gr b d (y + 1) (br + dcl b (gr y))
theorem bndL_at {v : Int32} {fo gr : Nat → Int32} {b br : Int32} {L y : Nat} (h : y < L) (hc : v = fo y * fo y + br) : bndL v fo gr b (L - y) y br = y := by
  rw [show L - y = (L - (y + 1)) + 1 by omega, bndL, if_pos hc]
theorem bndL_go {v : Int32} {fo gr : Nat → Int32} {b br : Int32} {L y : Nat} (h : y < L) (hc : ¬ v = fo y * fo y + br) : bndL v fo gr b (L - y) y br = bndL v fo gr b (L - (y + 1)) (y + 1) (br + dcl b (gr y)) := by
  rw [show L - y = (L - (y + 1)) + 1 by omega, bndL, if_neg hc]
/-- the least of a row's part -/
def lsq (sq : Nat → Int32) (a : Nat) : Nat → Int32
  | 0 => sq a
  | d + 1 => if sq (a + d + 1) < lsq sq a d then sq (a + d + 1) else lsq sq a d

set_option maxRecDepth 100000 in
set_option maxHeartbeats 4000000 in
/-- the greatest number whose square is no more -/
theorem c_X7_root (l : Launch) (g : xCfg) (q : Int32)  : Ct l g yX7_root cX7_root 4 (some .int) (xR 0 0) [.int q] [] (is1 (some (.int (nI (rtL 15 0 q)))) []) := by
  refine Ct.walk (by decide) (Nat.le_of_ble_eq_true rfl) ?_
  intro p0 e0 s0 m0 below meth c0 A0 ls Q hQ E hr hnm hw hl
  have hx := E.x
  have hb := E.b
  have hl : lv_has ls 4 [(0, .int q)] := hl
  refine lv_iconst (v := 0) hx hb dX7_root_0 (by decide) ?_
  refine lv_istore_n (lv' := [(1, .int 0), (0, .int q)]) hx hb dX7_root_1 rfl hl (by decide) rfl (fun ls hl => ?_)
  refine lv_sipush (v := 16384) hx hb dX7_root_2 (by decide) ?_
  refine lv_istore_n (lv' := [(2, .int 16384), (1, .int 0), (0, .int q)]) hx hb dX7_root_5 rfl hl (by decide) rfl (fun ls hl => ?_)
  have lp_6 : ∀ (fuel : Nat) (j : Nat) (f : Nat), j < fuel → j ≤ 15 → rtL j f q = rtL 15 0 q → ∀ (H : Heap) (locs : List Loc) (ls : Array Slot), xW g A0 s0 [] H locs → lv_has ls 4 [(2, .int (nI (2 ^ j / 2))), (1, .int (nI f)), (0, .int q)] → W p0 l e0 (xR 0 0) s0 m0 [.int q].toArray below meth c0 H locs 0 0 Q (F0 m0 6 ls []) := by
    intro fuel
    induction fuel with
    | zero => intro j f hm; exact absurd hm (Nat.not_lt_zero _)
    | succ fuel ih =>
      intro j f hm hj hi H locs ls hw hl
      refine lv_iload_n hx hb dX7_root_6 rfl (lv_at hl 0 rfl) ?_
      refine xz_le (tgt := 30) hx hb (2 ^ j / 2) rfl (pw_lt hj) dX7_root_7 (by decide) (fun c_1 => ?_) (fun c_1 => ?_)
      · obtain rfl := pw_0 c_1
        refine lv_iload_n hx hb dX7_root_30 rfl (lv_at hl 1 rfl) ?_
        exact xr_i hQ E hr hw dX7_root_31 ⟨congrArg (fun z => some (Value.int z)) (congrArg nI hi), rfl⟩
      · obtain ⟨k, rfl⟩ := pw_s c_1
        have hl : lv_has ls 4 [(2, .int (nI (2 ^ k))), (1, .int (nI f)), (0, .int q)] := lv_re hl (by rw [show (nI (2 ^ (k + 1) / 2) : Int32) = nI (2 ^ k) from congrArg nI (pw_h k)])
        refine lv_iload_n hx hb dX7_root_10 rfl (lv_at hl 1 rfl) ?_
        refine lv_iload_n hx hb dX7_root_11 rfl (lv_at hl 0 rfl) ?_
        refine xn_add hx hb f (2 ^ k) rfl rfl dX7_root_12 ?_
        refine lv_istore_n (lv' := [(3, .int (nI (f + (2 ^ k)))), (2, .int (nI (2 ^ k))), (1, .int (nI f)), (0, .int q)]) hx hb dX7_root_13 rfl hl (by decide) rfl (fun ls hl => ?_)
        refine lv_iload_n hx hb dX7_root_14 rfl (lv_at hl 0 rfl) ?_
        refine lv_iload_n hx hb dX7_root_15 rfl (lv_at hl 0 rfl) ?_
        refine xn_mul hx hb (f + (2 ^ k)) (f + (2 ^ k)) rfl rfl dX7_root_16 ?_
        refine lv_iload_n hx hb dX7_root_17 rfl (lv_at hl 3 rfl) ?_
        refine lv_icmp_gt (tgt := 23) hx hb dX7_root_18 (by decide) (fun ce => ?_) (fun ce => ?_)
        · refine lv_iload_n hx hb dX7_root_23 rfl (lv_at hl 1 rfl) ?_
          refine lv_iconst (v := 1) hx hb dX7_root_24 (by decide) ?_
          refine lv_ishr hx hb dX7_root_25 ?_
          refine x_top (v' := .int (nI (2 ^ k / 2))) (congrArg Value.int (pw_shr hj)) ?_
          refine lv_istore_n (lv' := [(2, .int (nI (2 ^ k / 2))), (3, .int (nI (f + (2 ^ k)))), (1, .int (nI f)), (0, .int q)]) hx hb dX7_root_26 rfl hl (by decide) rfl (fun ls hl => ?_)
          refine lv_goto (tgt := 6) hx hb dX7_root_27 (by decide) ?_
          have hl : lv_has ls 4 [(2, .int (nI (2 ^ k / 2))), (1, .int (nI f)), (0, .int q)] := lv_sub hl [0, 2, 3] rfl
          have hl : lv_has ls 4 [(2, .int (nI (2 ^ k / 2))), (1, .int (nI f)), (0, .int q)] := hl
          have hw : xW g A0 s0 [] _ _ := hw
          exact ih k f (by omega) (by omega) ((rtL_no ce).symm.trans hi) _ _ _ hw hl
        · refine lv_iload_n hx hb dX7_root_21 rfl (lv_at hl 0 rfl) ?_
          refine lv_istore_n (lv' := [(1, .int (nI (f + (2 ^ k)))), (3, .int (nI (f + (2 ^ k)))), (2, .int (nI (2 ^ k))), (0, .int q)]) hx hb dX7_root_22 rfl hl (by decide) rfl (fun ls hl => ?_)
          refine lv_iload_n hx hb dX7_root_23 rfl (lv_at hl 2 rfl) ?_
          refine lv_iconst (v := 1) hx hb dX7_root_24 (by decide) ?_
          refine lv_ishr hx hb dX7_root_25 ?_
          refine x_top (v' := .int (nI (2 ^ k / 2))) (congrArg Value.int (pw_shr hj)) ?_
          refine lv_istore_n (lv' := [(2, .int (nI (2 ^ k / 2))), (1, .int (nI (f + (2 ^ k)))), (3, .int (nI (f + (2 ^ k)))), (0, .int q)]) hx hb dX7_root_26 rfl hl (by decide) rfl (fun ls hl => ?_)
          refine lv_goto (tgt := 6) hx hb dX7_root_27 (by decide) ?_
          have hl : lv_has ls 4 [(2, .int (nI (2 ^ k / 2))), (1, .int (nI (f + (2 ^ k)))), (0, .int q)] := lv_sub hl [0, 1, 3] rfl
          have hl : lv_has ls 4 [(2, .int (nI (2 ^ k / 2))), (1, .int (nI (f + (2 ^ k)))), (0, .int q)] := hl
          have hw : xW g A0 s0 [] _ _ := hw
          exact ih k (f + (2 ^ k)) (by omega) (by omega) ((rtL_yes ce).symm.trans hi) _ _ _ hw hl
  have hl : lv_has ls 4 [(2, .int 16384), (1, .int 0), (0, .int q)] := lv_sub hl [0, 1, 2] rfl
  have hl : lv_has ls 4 [(2, .int (nI (2 ^ 15 / 2))), (1, .int 0), (0, .int q)] := lv_re hl (by rw [show (16384 : Int32) = nI (2 ^ 15 / 2) from congrArg nI (by decide)])
  have hw : xW g A0 s0 [] _ _ := hw
  exact lp_6 (15 + 1) 15 0 (Nat.lt_succ_self _) (by omega) rfl _ _ _ hw hl

set_option maxRecDepth 100000 in
set_option maxHeartbeats 4000000 in
theorem c_X5_resized_ok (l : Launch) (g : xCfg) (h : Nat → Nat) (L : Nat) (ce : Nat → Int32) (gr : Nat → Int32) (be : Nat → Int32) (m : Nat) (hL : L ≤ 200) (hm : 5 ≤ m) (hm2 : m ≤ 200) : Ct l g yX5_resized cX5_resized 4 (some .int) (xR 1 22) [.ref (h 2), .int (nI m)] [(h 2, .inr (5, [.int (nI L), .ref (h 3), .ref (h 4), .ref (h 5), .ref (h 6)])), (h 3, .inl (g.2.1, 200, .inl ce)), (h 4, .inl (g.2.1, 200, .inl gr)), (h 5, .inl (g.2.1, 200, .inl be))] (is1 (some (.int (nI L))) [(h 2, .inr (5, [.int (nI m), .ref (h 3), .ref (h 4), .ref (h 5), .ref (h 6)])), (h 3, .inl (g.2.1, 200, .inl (filF ce 40 L m))), (h 4, .inl (g.2.1, 200, .inl (filF gr 0 L m))), (h 5, .inl (g.2.1, 200, .inl (filF be 0 L m)))]) := by
  refine Ct.walk (by decide) (Nat.le_of_ble_eq_true rfl) ?_
  intro p0 e0 s0 m0 below meth c0 A0 ls Q hQ E hr hnm hw hl
  have hx := E.x
  have hb := E.b
  have hl : lv_has ls 4 [(0, .ref (h 2)), (1, .int (nI m))] := hl
  refine lv_iload_n hx hb dX5_resized_0 rfl (lv_at hl 1 rfl) ?_
  refine lv_iconst (v := 5) hx hb dX5_resized_1 (by decide) ?_
  refine lv_sipush (v := 200) hx hb dX5_resized_2 (by decide) ?_
  refine x_go (ws' := [(h 2, .inr (5, [.int (nI L), .ref (h 3), .ref (h 4), .ref (h 5), .ref (h 6)])), (h 3, .inl (g.2.1, 200, .inl ce)), (h 4, .inl (g.2.1, 200, .inl gr)), (h 5, .inl (g.2.1, 200, .inl be))]) (st1 := [.int 1]) E hw [] rfl (x_runSN (rest := []) E hw (c_X7_within_ok l g (nI m) 5 200 (nI_le (a := 5) hm (by omega)) (nI_le (b := 200) hm2 (by decide))) km_X5_37 ks_X7_within [] rfl (by decide) hl.1 rfl rfl (Nat.le_of_ble_eq_true rfl) ⟨Nat.le_of_ble_eq_true rfl, Nat.le_of_ble_eq_true rfl⟩ ⟨Nat.zero_le _, Nat.zero_le _⟩ dX5_resized_5) rfl rfl rfl (fun H locs hw => ?_)
  refine lv_if_ne (tgt := 14) hx hb dX5_resized_8 (by decide) (fun _ => ?_) (fun h => absurd h (by decide))
  refine lv_aload_n hx hb dX5_resized_14 rfl (lv_at hl 0 rfl) ?_
  refine x_get E hw kf_X5_27 0 rfl rfl dX5_resized_15 ?_
  refine lv_istore_n (lv' := [(2, .int (nI L)), (0, .ref (h 2)), (1, .int (nI m))]) hx hb dX5_resized_18 rfl hl (by decide) rfl (fun ls hl => ?_)
  refine lv_iload_n hx hb dX5_resized_19 rfl (lv_at hl 0 rfl) ?_
  refine lv_istore_n (lv' := [(3, .int (nI L)), (2, .int (nI L)), (0, .ref (h 2)), (1, .int (nI m))]) hx hb dX5_resized_20 rfl hl (by decide) rfl (fun ls hl => ?_)
  have lp_21 : ∀ (fuel : Nat) (x : Nat), m - x < fuel → L ≤ x → x = L ∨ x ≤ m → ∀ (H : Heap) (locs : List Loc) (ls : Array Slot), xW g A0 s0 [(h 2, .inr (5, [.int (nI L), .ref (h 3), .ref (h 4), .ref (h 5), .ref (h 6)])), (h 3, .inl (g.2.1, 200, .inl (filF ce 40 L x))), (h 4, .inl (g.2.1, 200, .inl (filF gr 0 L x))), (h 5, .inl (g.2.1, 200, .inl (filF be 0 L x)))] H locs → lv_has ls 4 [(3, .int (nI x)), (2, .int (nI L)), (0, .ref (h 2)), (1, .int (nI m))] → W p0 l e0 (xR 1 22) s0 m0 [.ref (h 2), .int (nI m)].toArray below meth c0 H locs 0 0 Q (F0 m0 21 ls []) := by
    intro fuel
    induction fuel with
    | zero => intro x hm; exact absurd hm (Nat.not_lt_zero _)
    | succ fuel ih =>
      intro x hm h1 h2 H locs ls hw hl
      refine lv_iload_n hx hb dX5_resized_21 rfl (lv_at hl 0 rfl) ?_
      refine lv_iload_n hx hb dX5_resized_22 rfl (lv_at hl 3 rfl) ?_
      refine xn_ge (tgt := 54) hx hb x m rfl rfl (by omega) (by omega) dX5_resized_23 (by decide) (fun c_1 => ?_) (fun c_1 => ?_)
      · refine lv_aload_n hx hb dX5_resized_54 rfl (lv_at hl 2 rfl) ?_
        refine lv_iload_n hx hb dX5_resized_55 rfl (lv_at hl 3 rfl) ?_
        refine x_put E hw kf_X5_27 kp_X5_0 0 rfl (ty := .int) (by decide +kernel) rfl rfl (by simp) (ws' := [(h 2, .inr (5, [.int (nI m), .ref (h 3), .ref (h 4), .ref (h 5), .ref (h 6)])), (h 3, .inl (g.2.1, 200, .inl (filF ce 40 L x))), (h 4, .inl (g.2.1, 200, .inl (filF gr 0 L x))), (h 5, .inl (g.2.1, 200, .inl (filF be 0 L x)))]) rfl dX5_resized_56 (fun H locs hw => ?_)
        refine lv_iload_n hx hb dX5_resized_59 rfl (lv_at hl 1 rfl) ?_
        have hw := hw.arr (f' := (filF ce 40 L m)) (ws' := [(h 2, .inr (5, [.int (nI m), .ref (h 3), .ref (h 4), .ref (h 5), .ref (h 6)])), (h 3, .inl (g.2.1, 200, .inl (filF ce 40 L m))), (h 4, .inl (g.2.1, 200, .inl (filF gr 0 L x))), (h 5, .inl (g.2.1, 200, .inl (filF be 0 L x)))]) 1 rfl (fun j _ => filF_end ce 40 L x m c_1 h2 j) rfl
        have hw := hw.arr (f' := (filF gr 0 L m)) (ws' := [(h 2, .inr (5, [.int (nI m), .ref (h 3), .ref (h 4), .ref (h 5), .ref (h 6)])), (h 3, .inl (g.2.1, 200, .inl (filF ce 40 L m))), (h 4, .inl (g.2.1, 200, .inl (filF gr 0 L m))), (h 5, .inl (g.2.1, 200, .inl (filF be 0 L x)))]) 2 rfl (fun j _ => filF_end gr 0 L x m c_1 h2 j) rfl
        have hw := hw.arr (f' := (filF be 0 L m)) (ws' := [(h 2, .inr (5, [.int (nI m), .ref (h 3), .ref (h 4), .ref (h 5), .ref (h 6)])), (h 3, .inl (g.2.1, 200, .inl (filF ce 40 L m))), (h 4, .inl (g.2.1, 200, .inl (filF gr 0 L m))), (h 5, .inl (g.2.1, 200, .inl (filF be 0 L m)))]) 3 rfl (fun j _ => filF_end be 0 L x m c_1 h2 j) rfl
        exact xr_i hQ E hr hw dX5_resized_60 ⟨rfl, rfl⟩
      · refine lv_aload_n hx hb dX5_resized_26 rfl (lv_at hl 2 rfl) ?_
        refine x_get E hw kf_X5_11 0 rfl rfl dX5_resized_27 ?_
        refine lv_iload_n hx hb dX5_resized_30 rfl (lv_at hl 0 rfl) ?_
        refine lv_bipush (v := 40) hx hb dX5_resized_31 (by decide) ?_
        refine x_ist E hw 1 rfl x rfl (by omega) (by decide) (ws' := [(h 2, .inr (5, [.int (nI L), .ref (h 3), .ref (h 4), .ref (h 5), .ref (h 6)])), (h 3, .inl (g.2.1, 200, .inl (upd (filF ce 40 L x) x 40))), (h 4, .inl (g.2.1, 200, .inl (filF gr 0 L x))), (h 5, .inl (g.2.1, 200, .inl (filF be 0 L x)))]) rfl dX5_resized_33 (fun H locs hw => ?_)
        refine lv_aload_n hx hb dX5_resized_34 rfl (lv_at hl 2 rfl) ?_
        refine x_get E hw kf_X5_15 0 rfl rfl dX5_resized_35 ?_
        refine lv_iload_n hx hb dX5_resized_38 rfl (lv_at hl 0 rfl) ?_
        refine lv_iconst (v := 0) hx hb dX5_resized_39 (by decide) ?_
        refine x_ist E hw 2 rfl x rfl (by omega) (by decide) (ws' := [(h 2, .inr (5, [.int (nI L), .ref (h 3), .ref (h 4), .ref (h 5), .ref (h 6)])), (h 3, .inl (g.2.1, 200, .inl (upd (filF ce 40 L x) x 40))), (h 4, .inl (g.2.1, 200, .inl (upd (filF gr 0 L x) x 0))), (h 5, .inl (g.2.1, 200, .inl (filF be 0 L x)))]) rfl dX5_resized_40 (fun H locs hw => ?_)
        refine lv_aload_n hx hb dX5_resized_41 rfl (lv_at hl 2 rfl) ?_
        refine x_get E hw kf_X5_18 0 rfl rfl dX5_resized_42 ?_
        refine lv_iload_n hx hb dX5_resized_45 rfl (lv_at hl 0 rfl) ?_
        refine lv_iconst (v := 0) hx hb dX5_resized_46 (by decide) ?_
        refine x_ist E hw 3 rfl x rfl (by omega) (by decide) (ws' := [(h 2, .inr (5, [.int (nI L), .ref (h 3), .ref (h 4), .ref (h 5), .ref (h 6)])), (h 3, .inl (g.2.1, 200, .inl (upd (filF ce 40 L x) x 40))), (h 4, .inl (g.2.1, 200, .inl (upd (filF gr 0 L x) x 0))), (h 5, .inl (g.2.1, 200, .inl (upd (filF be 0 L x) x 0)))]) rfl dX5_resized_47 (fun H locs hw => ?_)
        refine lv_iinc (v := nI (x + 1)) (lv' := [(3, .int (nI (x + 1))), (2, .int (nI L)), (0, .ref (h 2)), (1, .int (nI m))]) hx hb dX5_resized_48 hl (k := 0) rfl (nI_1 _) (by decide) rfl (fun ls hl => ?_)
        refine lv_goto (tgt := 21) hx hb dX5_resized_51 (by decide) ?_
        have hw := hw.arr (f' := (filF ce 40 L (x + 1))) (ws' := [(h 2, .inr (5, [.int (nI L), .ref (h 3), .ref (h 4), .ref (h 5), .ref (h 6)])), (h 3, .inl (g.2.1, 200, .inl (filF ce 40 L (x + 1)))), (h 4, .inl (g.2.1, 200, .inl (upd (filF gr 0 L x) x 0))), (h 5, .inl (g.2.1, 200, .inl (upd (filF be 0 L x) x 0)))]) 1 rfl (fun j _ => filF_st ce 40 L x h1 j) rfl
        have hw := hw.arr (f' := (filF gr 0 L (x + 1))) (ws' := [(h 2, .inr (5, [.int (nI L), .ref (h 3), .ref (h 4), .ref (h 5), .ref (h 6)])), (h 3, .inl (g.2.1, 200, .inl (filF ce 40 L (x + 1)))), (h 4, .inl (g.2.1, 200, .inl (filF gr 0 L (x + 1)))), (h 5, .inl (g.2.1, 200, .inl (upd (filF be 0 L x) x 0)))]) 2 rfl (fun j _ => filF_st gr 0 L x h1 j) rfl
        have hw := hw.arr (f' := (filF be 0 L (x + 1))) (ws' := [(h 2, .inr (5, [.int (nI L), .ref (h 3), .ref (h 4), .ref (h 5), .ref (h 6)])), (h 3, .inl (g.2.1, 200, .inl (filF ce 40 L (x + 1)))), (h 4, .inl (g.2.1, 200, .inl (filF gr 0 L (x + 1)))), (h 5, .inl (g.2.1, 200, .inl (filF be 0 L (x + 1))))]) 3 rfl (fun j _ => filF_st be 0 L x h1 j) rfl
        have hl : lv_has ls 4 [(3, .int (nI (x + 1))), (2, .int (nI L)), (0, .ref (h 2)), (1, .int (nI m))] := lv_sub hl [0, 1, 2, 3] rfl
        have hl : lv_has ls 4 [(3, .int (nI (x + 1))), (2, .int (nI L)), (0, .ref (h 2)), (1, .int (nI m))] := hl
        have hw : xW g A0 s0 [(h 2, .inr (5, [.int (nI L), .ref (h 3), .ref (h 4), .ref (h 5), .ref (h 6)])), (h 3, .inl (g.2.1, 200, .inl (filF ce 40 L (x + 1)))), (h 4, .inl (g.2.1, 200, .inl (filF gr 0 L (x + 1)))), (h 5, .inl (g.2.1, 200, .inl (filF be 0 L (x + 1))))] _ _ := hw
        exact ih (x + 1) (by omega) (by omega) (by omega) _ _ _ hw hl
  have hw := hw.arr (f' := (filF ce 40 L L)) (ws' := [(h 2, .inr (5, [.int (nI L), .ref (h 3), .ref (h 4), .ref (h 5), .ref (h 6)])), (h 3, .inl (g.2.1, 200, .inl (filF ce 40 L L))), (h 4, .inl (g.2.1, 200, .inl gr)), (h 5, .inl (g.2.1, 200, .inl be))]) 1 rfl (fun j _ => (filF_nil ce 40 L j).symm) rfl
  have hw := hw.arr (f' := (filF gr 0 L L)) (ws' := [(h 2, .inr (5, [.int (nI L), .ref (h 3), .ref (h 4), .ref (h 5), .ref (h 6)])), (h 3, .inl (g.2.1, 200, .inl (filF ce 40 L L))), (h 4, .inl (g.2.1, 200, .inl (filF gr 0 L L))), (h 5, .inl (g.2.1, 200, .inl be))]) 2 rfl (fun j _ => (filF_nil gr 0 L j).symm) rfl
  have hw := hw.arr (f' := (filF be 0 L L)) (ws' := [(h 2, .inr (5, [.int (nI L), .ref (h 3), .ref (h 4), .ref (h 5), .ref (h 6)])), (h 3, .inl (g.2.1, 200, .inl (filF ce 40 L L))), (h 4, .inl (g.2.1, 200, .inl (filF gr 0 L L))), (h 5, .inl (g.2.1, 200, .inl (filF be 0 L L)))]) 3 rfl (fun j _ => (filF_nil be 0 L j).symm) rfl
  have hl : lv_has ls 4 [(3, .int (nI L)), (2, .int (nI L)), (0, .ref (h 2)), (1, .int (nI m))] := lv_sub hl [0, 1, 2, 3] rfl
  have hl : lv_has ls 4 [(3, .int (nI L)), (2, .int (nI L)), (0, .ref (h 2)), (1, .int (nI m))] := hl
  have hw : xW g A0 s0 [(h 2, .inr (5, [.int (nI L), .ref (h 3), .ref (h 4), .ref (h 5), .ref (h 6)])), (h 3, .inl (g.2.1, 200, .inl (filF ce 40 L L))), (h 4, .inl (g.2.1, 200, .inl (filF gr 0 L L))), (h 5, .inl (g.2.1, 200, .inl (filF be 0 L L)))] _ _ := hw
  exact lp_21 ((m - L) + 1) L (Nat.lt_succ_self _) (by omega) (by omega) _ _ _ hw hl

set_option maxRecDepth 100000 in
set_option maxHeartbeats 4000000 in
theorem c_X5_relaid_c (l : Launch) (g : xCfg) (h : Nat → Nat) (L : Nat) (ce : Nat → Int32) (a : Nat) (z : Nat) (v : Int32) (hL : L ≤ 200) (hz : z < L) (ha : a ≤ z) (hv : (0 : Int32) ≤ v) (hv2 : v ≤ 60) : Ct l g yX5_relaid cX5_relaid 5 (some .int) (xR 2 43) [.ref (h 2), .int 0, .int (nI a), .int (nI z), .int v] [(h 2, .inr (5, [.int (nI L), .ref (h 3), .ref (h 4), .ref (h 5), .ref (h 6)])), (h 3, .inl (g.2.1, 200, .inl ce))] (is1 (some (.int (nI (cntNe ce v a (z + 1))))) [(h 2, .inr (5, [.int (nI L), .ref (h 3), .ref (h 4), .ref (h 5), .ref (h 6)])), (h 3, .inl (g.2.1, 200, .inl (filF ce v a (z + 1))))]) := by
  refine Ct.walk (by decide) (Nat.le_of_ble_eq_true rfl) ?_
  intro p0 e0 s0 m0 below meth c0 A0 ls Q hQ E hr hnm hw hl
  have hx := E.x
  have hb := E.b
  have hl : lv_has ls 5 [(0, .ref (h 2)), (1, .int 0), (2, .int (nI a)), (3, .int (nI z)), (4, .int v)] := hl
  refine lv_aload_n hx hb dX5_relaid_0 rfl (lv_at hl 0 rfl) ?_
  refine lv_iload_n hx hb dX5_relaid_1 rfl (lv_at hl 2 rfl) ?_
  refine x_go (ws' := [(h 2, .inr (5, [.int (nI L), .ref (h 3), .ref (h 4), .ref (h 5), .ref (h 6)])), (h 3, .inl (g.2.1, 200, .inl ce))]) (st1 := [.int 1]) E hw [0] rfl (x_runV (rest := []) E hw (c_X5_has_ok l g h L a (by omega) (by omega)) km_X5_47 kv_X5_has [0] rfl (by decide) 0 rfl hl.1 rfl rfl (Nat.le_of_ble_eq_true rfl) ⟨Nat.le_of_ble_eq_true rfl, Nat.le_of_ble_eq_true rfl⟩ ⟨Nat.zero_le _, Nat.zero_le _⟩ dX5_relaid_2) rfl rfl rfl (fun H locs hw => ?_)
  refine lv_if_eq (tgt := 21) hx hb dX5_relaid_5 (by decide) (fun h => absurd h (by decide)) (fun _ => ?_)
  refine lv_aload_n hx hb dX5_relaid_8 rfl (lv_at hl 0 rfl) ?_
  refine lv_iload_n hx hb dX5_relaid_9 rfl (lv_at hl 3 rfl) ?_
  refine x_go (ws' := [(h 2, .inr (5, [.int (nI L), .ref (h 3), .ref (h 4), .ref (h 5), .ref (h 6)])), (h 3, .inl (g.2.1, 200, .inl ce))]) (st1 := [.int 1]) E hw [0] rfl (x_runV (rest := []) E hw (c_X5_has_ok l g h L z (by omega) (by omega)) km_X5_47 kv_X5_has [0] rfl (by decide) 0 rfl hl.1 rfl rfl (Nat.le_of_ble_eq_true rfl) ⟨Nat.le_of_ble_eq_true rfl, Nat.le_of_ble_eq_true rfl⟩ ⟨Nat.zero_le _, Nat.zero_le _⟩ dX5_relaid_10) rfl rfl rfl (fun H locs hw => ?_)
  refine lv_if_eq (tgt := 21) hx hb dX5_relaid_13 (by decide) (fun h => absurd h (by decide)) (fun _ => ?_)
  refine lv_iload_n hx hb dX5_relaid_16 rfl (lv_at hl 2 rfl) ?_
  refine lv_iload_n hx hb dX5_relaid_17 rfl (lv_at hl 3 rfl) ?_
  refine xn_le (tgt := 24) hx hb a z rfl rfl (by omega) (by omega) dX5_relaid_18 (by decide) (fun c_3 => ?_) (fun c_3 => ?_)
  · refine lv_iload_n hx hb dX5_relaid_24 rfl (lv_at hl 1 rfl) ?_
    refine lv_if_ne (tgt := 51) hx hb dX5_relaid_25 (by decide) (fun h => absurd h (by decide)) (fun _ => ?_)
    refine lv_iload hx hb dX5_relaid_28 (lv_at hl 4 rfl) ?_
    refine lv_iconst (v := 0) hx hb dX5_relaid_30 (by decide) ?_
    refine lv_bipush (v := 60) hx hb dX5_relaid_31 (by decide) ?_
    refine x_go (ws' := [(h 2, .inr (5, [.int (nI L), .ref (h 3), .ref (h 4), .ref (h 5), .ref (h 6)])), (h 3, .inl (g.2.1, 200, .inl ce))]) (st1 := [.int 1]) E hw [] rfl (x_runSN (rest := []) E hw (c_X7_within_ok l g v 0 60 hv hv2) km_X5_37 ks_X7_within [] rfl (by decide) hl.1 rfl rfl (Nat.le_of_ble_eq_true rfl) ⟨Nat.le_of_ble_eq_true rfl, Nat.le_of_ble_eq_true rfl⟩ ⟨Nat.zero_le _, Nat.zero_le _⟩ dX5_relaid_33) rfl rfl rfl (fun H locs hw => ?_)
    refine lv_if_eq (tgt := 51) hx hb dX5_relaid_36 (by decide) (fun h => absurd h (by decide)) (fun _ => ?_)
    refine lv_aload_n hx hb dX5_relaid_39 rfl (lv_at hl 0 rfl) ?_
    refine x_get E hw kf_X5_11 0 rfl rfl dX5_relaid_40 ?_
    refine lv_iload_n hx hb dX5_relaid_43 rfl (lv_at hl 2 rfl) ?_
    refine lv_iload_n hx hb dX5_relaid_44 rfl (lv_at hl 3 rfl) ?_
    refine lv_iload hx hb dX5_relaid_45 (lv_at hl 4 rfl) ?_
    refine x_go (ws' := [(h 2, .inr (5, [.int (nI L), .ref (h 3), .ref (h 4), .ref (h 5), .ref (h 6)])), (h 3, .inl (g.2.1, 200, .inl (filF ce v a (z + 1))))]) (st1 := [.int (nI (cntNe ce v a (z + 1)))]) E hw [1] rfl (x_runS (rest := []) E hw (c_X5_filled l g (h 3) ce a z v (by omega) (by omega)) km_X5_51 ks_X5_filled [1] rfl (by decide) hl.1 rfl rfl (Nat.le_of_ble_eq_true rfl) ⟨Nat.le_of_ble_eq_true rfl, Nat.le_of_ble_eq_true rfl⟩ ⟨Nat.zero_le _, Nat.zero_le _⟩ dX5_relaid_47) rfl rfl rfl (fun H locs hw => ?_)
    exact xr_i hQ E hr hw dX5_relaid_50 ⟨rfl, rfl⟩
  · exact absurd c_3 (by omega)

set_option maxRecDepth 100000 in
set_option maxHeartbeats 4000000 in
theorem c_X5_relaid_g (l : Launch) (g : xCfg) (h : Nat → Nat) (L : Nat) (gr : Nat → Int32) (a : Nat) (z : Nat) (v : Int32) (hL : L ≤ 200) (hz : z < L) (ha : a ≤ z) (hv : (-20 : Int32) ≤ v) (hv2 : v ≤ 20) : Ct l g yX5_relaid cX5_relaid 5 (some .int) (xR 2 43) [.ref (h 2), .int 1, .int (nI a), .int (nI z), .int v] [(h 2, .inr (5, [.int (nI L), .ref (h 3), .ref (h 4), .ref (h 5), .ref (h 6)])), (h 4, .inl (g.2.1, 200, .inl gr))] (is1 (some (.int (nI (cntNe gr v a (z + 1))))) [(h 2, .inr (5, [.int (nI L), .ref (h 3), .ref (h 4), .ref (h 5), .ref (h 6)])), (h 4, .inl (g.2.1, 200, .inl (filF gr v a (z + 1))))]) := by
  refine Ct.walk (by decide) (Nat.le_of_ble_eq_true rfl) ?_
  intro p0 e0 s0 m0 below meth c0 A0 ls Q hQ E hr hnm hw hl
  have hx := E.x
  have hb := E.b
  have hl : lv_has ls 5 [(0, .ref (h 2)), (1, .int 1), (2, .int (nI a)), (3, .int (nI z)), (4, .int v)] := hl
  refine lv_aload_n hx hb dX5_relaid_0 rfl (lv_at hl 0 rfl) ?_
  refine lv_iload_n hx hb dX5_relaid_1 rfl (lv_at hl 2 rfl) ?_
  refine x_go (ws' := [(h 2, .inr (5, [.int (nI L), .ref (h 3), .ref (h 4), .ref (h 5), .ref (h 6)])), (h 4, .inl (g.2.1, 200, .inl gr))]) (st1 := [.int 1]) E hw [0] rfl (x_runV (rest := []) E hw (c_X5_has_ok l g h L a (by omega) (by omega)) km_X5_47 kv_X5_has [0] rfl (by decide) 0 rfl hl.1 rfl rfl (Nat.le_of_ble_eq_true rfl) ⟨Nat.le_of_ble_eq_true rfl, Nat.le_of_ble_eq_true rfl⟩ ⟨Nat.zero_le _, Nat.zero_le _⟩ dX5_relaid_2) rfl rfl rfl (fun H locs hw => ?_)
  refine lv_if_eq (tgt := 21) hx hb dX5_relaid_5 (by decide) (fun h => absurd h (by decide)) (fun _ => ?_)
  refine lv_aload_n hx hb dX5_relaid_8 rfl (lv_at hl 0 rfl) ?_
  refine lv_iload_n hx hb dX5_relaid_9 rfl (lv_at hl 3 rfl) ?_
  refine x_go (ws' := [(h 2, .inr (5, [.int (nI L), .ref (h 3), .ref (h 4), .ref (h 5), .ref (h 6)])), (h 4, .inl (g.2.1, 200, .inl gr))]) (st1 := [.int 1]) E hw [0] rfl (x_runV (rest := []) E hw (c_X5_has_ok l g h L z (by omega) (by omega)) km_X5_47 kv_X5_has [0] rfl (by decide) 0 rfl hl.1 rfl rfl (Nat.le_of_ble_eq_true rfl) ⟨Nat.le_of_ble_eq_true rfl, Nat.le_of_ble_eq_true rfl⟩ ⟨Nat.zero_le _, Nat.zero_le _⟩ dX5_relaid_10) rfl rfl rfl (fun H locs hw => ?_)
  refine lv_if_eq (tgt := 21) hx hb dX5_relaid_13 (by decide) (fun h => absurd h (by decide)) (fun _ => ?_)
  refine lv_iload_n hx hb dX5_relaid_16 rfl (lv_at hl 2 rfl) ?_
  refine lv_iload_n hx hb dX5_relaid_17 rfl (lv_at hl 3 rfl) ?_
  refine xn_le (tgt := 24) hx hb a z rfl rfl (by omega) (by omega) dX5_relaid_18 (by decide) (fun c_3 => ?_) (fun c_3 => ?_)
  · refine lv_iload_n hx hb dX5_relaid_24 rfl (lv_at hl 1 rfl) ?_
    refine lv_if_ne (tgt := 51) hx hb dX5_relaid_25 (by decide) (fun _ => ?_) (fun h => absurd h (by decide))
    refine lv_iload_n hx hb dX5_relaid_51 rfl (lv_at hl 1 rfl) ?_
    refine lv_iconst (v := 1) hx hb dX5_relaid_52 (by decide) ?_
    refine lv_icmp_ne (tgt := 80) hx hb dX5_relaid_53 (by decide) (fun h => absurd h (by decide)) (fun _ => ?_)
    refine lv_iload hx hb dX5_relaid_56 (lv_at hl 4 rfl) ?_
    refine lv_bipush (v := -20) hx hb dX5_relaid_58 (by decide) ?_
    refine lv_bipush (v := 20) hx hb dX5_relaid_60 (by decide) ?_
    refine x_go (ws' := [(h 2, .inr (5, [.int (nI L), .ref (h 3), .ref (h 4), .ref (h 5), .ref (h 6)])), (h 4, .inl (g.2.1, 200, .inl gr))]) (st1 := [.int 1]) E hw [] rfl (x_runSN (rest := []) E hw (c_X7_within_ok l g v (-20) 20 hv hv2) km_X5_37 ks_X7_within [] rfl (by decide) hl.1 rfl rfl (Nat.le_of_ble_eq_true rfl) ⟨Nat.le_of_ble_eq_true rfl, Nat.le_of_ble_eq_true rfl⟩ ⟨Nat.zero_le _, Nat.zero_le _⟩ dX5_relaid_62) rfl rfl rfl (fun H locs hw => ?_)
    refine lv_if_eq (tgt := 80) hx hb dX5_relaid_65 (by decide) (fun h => absurd h (by decide)) (fun _ => ?_)
    refine lv_aload_n hx hb dX5_relaid_68 rfl (lv_at hl 0 rfl) ?_
    refine x_get E hw kf_X5_15 0 rfl rfl dX5_relaid_69 ?_
    refine lv_iload_n hx hb dX5_relaid_72 rfl (lv_at hl 2 rfl) ?_
    refine lv_iload_n hx hb dX5_relaid_73 rfl (lv_at hl 3 rfl) ?_
    refine lv_iload hx hb dX5_relaid_74 (lv_at hl 4 rfl) ?_
    refine x_go (ws' := [(h 2, .inr (5, [.int (nI L), .ref (h 3), .ref (h 4), .ref (h 5), .ref (h 6)])), (h 4, .inl (g.2.1, 200, .inl (filF gr v a (z + 1))))]) (st1 := [.int (nI (cntNe gr v a (z + 1)))]) E hw [1] rfl (x_runS (rest := []) E hw (c_X5_filled l g (h 4) gr a z v (by omega) (by omega)) km_X5_51 ks_X5_filled [1] rfl (by decide) hl.1 rfl rfl (Nat.le_of_ble_eq_true rfl) ⟨Nat.le_of_ble_eq_true rfl, Nat.le_of_ble_eq_true rfl⟩ ⟨Nat.zero_le _, Nat.zero_le _⟩ dX5_relaid_76) rfl rfl rfl (fun H locs hw => ?_)
    exact xr_i hQ E hr hw dX5_relaid_79 ⟨rfl, rfl⟩
  · exact absurd c_3 (by omega)

set_option maxRecDepth 100000 in
set_option maxHeartbeats 4000000 in
theorem c_X5_adjusted_ok (l : Launch) (g : xCfg) (h : Nat → Nat) (L : Nat) (st : Nat → Int32) (w : Nat) (v : Int32) (hw0 : w < 7) (hv : tLeast w ≤ v) (hv2 : v ≤ tMost w) : Ct l g yX5_adjusted cX5_adjusted 4 (some .int) (xR 1 22) [.ref (h 2), .int (nI w), .int v] [(h 2, .inr (5, [.int (nI L), .ref (h 3), .ref (h 4), .ref (h 5), .ref (h 6)])), (h 6, .inl (g.2.1, 7, .inl st))] (is1 (some (.int (st w))) [(h 2, .inr (5, [.int (nI L), .ref (h 3), .ref (h 4), .ref (h 5), .ref (h 6)])), (h 6, .inl (g.2.1, 7, .inl (upd st w v)))]) := by
  refine Ct.walk (by decide) (Nat.le_of_ble_eq_true rfl) ?_
  intro p0 e0 s0 m0 below meth c0 A0 ls Q hQ E hr hnm hw hl
  have hx := E.x
  have hb := E.b
  have hl : lv_has ls 4 [(0, .ref (h 2)), (1, .int (nI w)), (2, .int v)] := hl
  refine lv_iload_n hx hb dX5_adjusted_0 rfl (lv_at hl 1 rfl) ?_
  refine lv_iconst (v := 0) hx hb dX5_adjusted_1 (by decide) ?_
  refine lv_bipush (v := 6) hx hb dX5_adjusted_2 (by decide) ?_
  refine x_go (ws' := [(h 2, .inr (5, [.int (nI L), .ref (h 3), .ref (h 4), .ref (h 5), .ref (h 6)])), (h 6, .inl (g.2.1, 7, .inl st))]) (st1 := [.int 1]) E hw [] rfl (x_runSN (rest := []) E hw (c_X7_within_ok l g (nI w) 0 6 (nI_pos' (by omega)) (nI_le (b := 6) (by omega) (by decide))) km_X5_37 ks_X7_within [] rfl (by decide) hl.1 rfl rfl (Nat.le_of_ble_eq_true rfl) ⟨Nat.le_of_ble_eq_true rfl, Nat.le_of_ble_eq_true rfl⟩ ⟨Nat.zero_le _, Nat.zero_le _⟩ dX5_adjusted_4) rfl rfl rfl (fun H locs hw => ?_)
  refine lv_if_eq (tgt := 27) hx hb dX5_adjusted_7 (by decide) (fun h => absurd h (by decide)) (fun _ => ?_)
  refine lv_iload_n hx hb dX5_adjusted_10 rfl (lv_at hl 2 rfl) ?_
  refine va_gets hx hb E.2.2.2.2.2.2.1.1 hw.2.2 E.ow (E.ts (.fieldLink RX5 55 RX5 "LEAST" "[I") (wB 451 rfl rfl)) (fun _ h => h) dX5_adjusted_11 ?_
  refine lv_iload_n hx hb dX5_adjusted_14 rfl (lv_at hl 1 rfl) ?_
  refine x_tld E hw E.2.2.2.2.2.2.1.2 w rfl (by omega) (by decide) rfl dX5_adjusted_15 ?_
  refine va_gets hx hb E.2.2.2.2.2.2.2.1.1 hw.2.2 E.ow (E.ts (.fieldLink RX5 58 RX5 "MOST" "[I") (wB 453 rfl rfl)) (fun _ h => h) dX5_adjusted_16 ?_
  refine lv_iload_n hx hb dX5_adjusted_19 rfl (lv_at hl 1 rfl) ?_
  refine x_tld E hw E.2.2.2.2.2.2.2.1.2 w rfl (by omega) (by decide) rfl dX5_adjusted_20 ?_
  refine x_go (ws' := [(h 2, .inr (5, [.int (nI L), .ref (h 3), .ref (h 4), .ref (h 5), .ref (h 6)])), (h 6, .inl (g.2.1, 7, .inl st))]) (st1 := [.int 1]) E hw [] rfl (x_runSN (rest := []) E hw (c_X7_within_ok l g v (tLeast w) (tMost w) hv hv2) km_X5_37 ks_X7_within [] rfl (by decide) hl.1 rfl rfl (Nat.le_of_ble_eq_true rfl) ⟨Nat.le_of_ble_eq_true rfl, Nat.le_of_ble_eq_true rfl⟩ ⟨Nat.zero_le _, Nat.zero_le _⟩ dX5_adjusted_21) rfl rfl rfl (fun H locs hw => ?_)
  refine lv_if_ne (tgt := 30) hx hb dX5_adjusted_24 (by decide) (fun _ => ?_) (fun h => absurd h (by decide))
  refine lv_aload_n hx hb dX5_adjusted_30 rfl (lv_at hl 0 rfl) ?_
  refine x_get E hw kf_X5_24 0 rfl rfl dX5_adjusted_31 ?_
  refine lv_iload_n hx hb dX5_adjusted_34 rfl (lv_at hl 1 rfl) ?_
  refine x_ld (v := st w) E hw 1 rfl w rfl (by omega) (by decide) rfl dX5_adjusted_35 ?_
  refine lv_istore_n (lv' := [(3, .int (st w)), (0, .ref (h 2)), (1, .int (nI w)), (2, .int v)]) hx hb dX5_adjusted_36 rfl hl (by decide) rfl (fun ls hl => ?_)
  refine lv_aload_n hx hb dX5_adjusted_37 rfl (lv_at hl 1 rfl) ?_
  refine x_get E hw kf_X5_24 0 rfl rfl dX5_adjusted_38 ?_
  refine lv_iload_n hx hb dX5_adjusted_41 rfl (lv_at hl 2 rfl) ?_
  refine lv_iload_n hx hb dX5_adjusted_42 rfl (lv_at hl 3 rfl) ?_
  refine x_ist E hw 1 rfl w rfl (by omega) (by decide) (ws' := [(h 2, .inr (5, [.int (nI L), .ref (h 3), .ref (h 4), .ref (h 5), .ref (h 6)])), (h 6, .inl (g.2.1, 7, .inl (upd st w v)))]) rfl dX5_adjusted_43 (fun H locs hw => ?_)
  refine lv_iload_n hx hb dX5_adjusted_44 rfl (lv_at hl 0 rfl) ?_
  exact xr_i hQ E hr hw dX5_adjusted_45 ⟨rfl, rfl⟩

set_option maxRecDepth 100000 in
set_option maxHeartbeats 4000000 in
theorem c_X5_cellsToStand (l : Launch) (g : xCfg) (h : Nat → Nat) (L : Nat) (gr : Nat → Int32) (st : Nat → Int32) (x : Nat) (v : Int32) (hL : L ≤ 200) (hx0 : x < L) : Ct l g yX5_cellsToStand cX5_cellsToStand 5 (some .int) (xR 2 34) [.ref (h 2), .int (nI x), .int v] [(h 2, .inr (5, [.int (nI L), .ref (h 3), .ref (h 4), .ref (h 5), .ref (h 6)])), (h 4, .inl (g.2.1, 200, .inl gr)), (h 6, .inl (g.2.1, 7, .inl st))] (is1 (some (.int (stL gr (st 0) (L - x) x x (v * v)))) [(h 2, .inr (5, [.int (nI L), .ref (h 3), .ref (h 4), .ref (h 5), .ref (h 6)])), (h 4, .inl (g.2.1, 200, .inl gr)), (h 6, .inl (g.2.1, 7, .inl st))]) := by
  refine Ct.walk (by decide) (Nat.le_of_ble_eq_true rfl) ?_
  intro p0 e0 s0 m0 below meth c0 A0 ls Q hQ E hr hnm hw hl
  have hx := E.x
  have hb := E.b
  have hl : lv_has ls 5 [(0, .ref (h 2)), (1, .int (nI x)), (2, .int v)] := hl
  refine lv_iload_n hx hb dX5_cellsToStand_0 rfl (lv_at hl 2 rfl) ?_
  refine lv_iload_n hx hb dX5_cellsToStand_1 rfl (lv_at hl 2 rfl) ?_
  refine lv_imul hx hb dX5_cellsToStand_2 ?_
  refine lv_istore_n (lv' := [(3, .int (v * v)), (0, .ref (h 2)), (1, .int (nI x)), (2, .int v)]) hx hb dX5_cellsToStand_3 rfl hl (by decide) rfl (fun ls hl => ?_)
  refine lv_iload_n hx hb dX5_cellsToStand_4 rfl (lv_at hl 2 rfl) ?_
  refine lv_istore (lv' := [(4, .int (nI x)), (3, .int (v * v)), (0, .ref (h 2)), (1, .int (nI x)), (2, .int v)]) hx hb dX5_cellsToStand_5 hl (by decide) rfl (fun ls hl => ?_)
  have lp_7 : ∀ (fuel : Nat) (y : Nat) (q : Int32), L - y < fuel → x ≤ y → y ≤ L → stL gr (st 0) (L - y) y x q = stL gr (st 0) (L - x) x x (v * v) → ∀ (H : Heap) (locs : List Loc) (ls : Array Slot), xW g A0 s0 [(h 2, .inr (5, [.int (nI L), .ref (h 3), .ref (h 4), .ref (h 5), .ref (h 6)])), (h 4, .inl (g.2.1, 200, .inl gr)), (h 6, .inl (g.2.1, 7, .inl st))] H locs → lv_has ls 5 [(4, .int (nI y)), (3, .int q), (0, .ref (h 2)), (1, .int (nI x)), (2, .int v)] → W p0 l e0 (xR 2 34) s0 m0 [.ref (h 2), .int (nI x), .int v].toArray below meth c0 H locs 0 0 Q (F0 m0 7 ls []) := by
    intro fuel
    induction fuel with
    | zero => intro y q hm; exact absurd hm (Nat.not_lt_zero _)
    | succ fuel ih =>
      intro y q hm h1 h2 hi H locs ls hw hl
      refine lv_iload hx hb dX5_cellsToStand_7 (lv_at hl 0 rfl) ?_
      refine lv_aload_n hx hb dX5_cellsToStand_9 rfl (lv_at hl 2 rfl) ?_
      refine x_get E hw kf_X5_27 0 rfl rfl dX5_cellsToStand_10 ?_
      refine xn_ge (tgt := 40) hx hb y L rfl rfl (by omega) (by omega) dX5_cellsToStand_13 (by decide) (fun c_1 => ?_) (fun c_1 => ?_)
      · obtain rfl : y = L := by omega
        refine lv_iconst (v := -1) hx hb dX5_cellsToStand_40 (by decide) ?_
        exact xr_i hQ E hr hw dX5_cellsToStand_41 ⟨congrArg (fun z => some (Value.int z)) (by rw [← hi, Nat.sub_self]; rfl), rfl⟩
      · refine lv_iload_n hx hb dX5_cellsToStand_16 rfl (lv_at hl 1 rfl) ?_
        refine lv_aload_n hx hb dX5_cellsToStand_17 rfl (lv_at hl 2 rfl) ?_
        refine lv_iload hx hb dX5_cellsToStand_18 (lv_at hl 0 rfl) ?_
        refine x_go (ws' := [(h 2, .inr (5, [.int (nI L), .ref (h 3), .ref (h 4), .ref (h 5), .ref (h 6)])), (h 4, .inl (g.2.1, 200, .inl gr)), (h 6, .inl (g.2.1, 7, .inl st))]) (st1 := [.int (dcl (st 0) (gr y)), .int q]) E hw [0, 1, 2] rfl (x_runV (rest := [.int q]) E hw (c_X5_decel l g h L gr st y (by omega)) km_X5_61 kv_X5_decel [0, 1, 2] rfl (by decide) 0 rfl hl.1 rfl rfl (Nat.le_of_ble_eq_true rfl) ⟨Nat.le_of_ble_eq_true rfl, Nat.le_of_ble_eq_true rfl⟩ ⟨Nat.zero_le _, Nat.zero_le _⟩ dX5_cellsToStand_20) rfl rfl rfl (fun H locs hw => ?_)
        refine lv_isub hx hb dX5_cellsToStand_23 ?_
        refine lv_istore_n (lv' := [(3, .int (q - dcl (st 0) (gr y))), (4, .int (nI y)), (0, .ref (h 2)), (1, .int (nI x)), (2, .int v)]) hx hb dX5_cellsToStand_24 rfl hl (by decide) rfl (fun ls hl => ?_)
        refine lv_iload_n hx hb dX5_cellsToStand_25 rfl (lv_at hl 0 rfl) ?_
        refine lv_if_gt (tgt := 34) hx hb dX5_cellsToStand_26 (by decide) (fun ce => ?_) (fun ce => ?_)
        · refine lv_iinc (v := nI (y + 1)) (lv' := [(4, .int (nI (y + 1))), (3, .int (q - dcl (st 0) (gr y))), (0, .ref (h 2)), (1, .int (nI x)), (2, .int v)]) hx hb dX5_cellsToStand_34 hl (k := 1) rfl (nI_1 _) (by decide) rfl (fun ls hl => ?_)
          refine lv_goto (tgt := 7) hx hb dX5_cellsToStand_37 (by decide) ?_
          have hl : lv_has ls 5 [(4, .int (nI (y + 1))), (3, .int (q - dcl (st 0) (gr y))), (0, .ref (h 2)), (1, .int (nI x)), (2, .int v)] := lv_sub hl [0, 1, 2, 3, 4] rfl
          have hl : lv_has ls 5 [(4, .int (nI (y + 1))), (3, .int (q - dcl (st 0) (gr y))), (0, .ref (h 2)), (1, .int (nI x)), (2, .int v)] := hl
          have hw : xW g A0 s0 [(h 2, .inr (5, [.int (nI L), .ref (h 3), .ref (h 4), .ref (h 5), .ref (h 6)])), (h 4, .inl (g.2.1, 200, .inl gr)), (h 6, .inl (g.2.1, 7, .inl st))] _ _ := hw
          exact ih (y + 1) (q - dcl (st 0) (gr y)) (by omega) (by omega) (by omega) ((stL_go (by omega) ce).symm.trans hi) _ _ _ hw hl
        · refine lv_iload hx hb dX5_cellsToStand_29 (lv_at hl 1 rfl) ?_
          refine lv_iload_n hx hb dX5_cellsToStand_31 rfl (lv_at hl 3 rfl) ?_
          refine xn_sub hx hb y x rfl rfl (by omega) dX5_cellsToStand_32 ?_
          exact xr_i hQ E hr hw dX5_cellsToStand_33 ⟨congrArg (fun z => some (Value.int z)) ((stL_at (by omega) ce).symm.trans hi), rfl⟩
  have hl : lv_has ls 5 [(4, .int (nI x)), (3, .int (v * v)), (0, .ref (h 2)), (1, .int (nI x)), (2, .int v)] := lv_sub hl [0, 1, 2, 3, 4] rfl
  have hl : lv_has ls 5 [(4, .int (nI x)), (3, .int (v * v)), (0, .ref (h 2)), (1, .int (nI x)), (2, .int v)] := hl
  have hw : xW g A0 s0 [(h 2, .inr (5, [.int (nI L), .ref (h 3), .ref (h 4), .ref (h 5), .ref (h 6)])), (h 4, .inl (g.2.1, 200, .inl gr)), (h 6, .inl (g.2.1, 7, .inl st))] _ _ := hw
  exact lp_7 ((L - x) + 1) x (v * v) (Nat.lt_succ_self _) (by omega) (by omega) rfl _ _ _ hw hl

set_option maxRecDepth 100000 in
set_option maxHeartbeats 4000000 in
theorem c_X5_fastestToStand (l : Launch) (g : xCfg) (h : Nat → Nat) (L : Nat) (gr : Nat → Int32) (st : Nat → Int32) (x : Nat) (m : Nat) (hL : L ≤ 200) (hx0 : x < L) (hm : m ≤ 200) : Ct l g yX5_fastestToStand cX5_fastestToStand 5 (some .int) (xR 2 34) [.ref (h 2), .int (nI x), .int (nI m)] [(h 2, .inr (5, [.int (nI L), .ref (h 3), .ref (h 4), .ref (h 5), .ref (h 6)])), (h 4, .inl (g.2.1, 200, .inl gr)), (h 6, .inl (g.2.1, 7, .inl st))] (is1 (some (.int (if nI (rtL 15 0 (smD gr (st 0) x (min (L - x) (m + 1)))) < 99 then nI (rtL 15 0 (smD gr (st 0) x (min (L - x) (m + 1)))) else 99))) [(h 2, .inr (5, [.int (nI L), .ref (h 3), .ref (h 4), .ref (h 5), .ref (h 6)])), (h 4, .inl (g.2.1, 200, .inl gr)), (h 6, .inl (g.2.1, 7, .inl st))]) := by
  refine Ct.walk (by decide) (Nat.le_of_ble_eq_true rfl) ?_
  intro p0 e0 s0 m0 below meth c0 A0 ls Q hQ E hr hnm hw hl
  have hx := E.x
  have hb := E.b
  have hl : lv_has ls 5 [(0, .ref (h 2)), (1, .int (nI x)), (2, .int (nI m))] := hl
  refine lv_iconst (v := 0) hx hb dX5_fastestToStand_0 (by decide) ?_
  refine lv_istore_n (lv' := [(3, .int 0), (0, .ref (h 2)), (1, .int (nI x)), (2, .int (nI m))]) hx hb dX5_fastestToStand_1 rfl hl (by decide) rfl (fun ls hl => ?_)
  refine lv_iload_n hx hb dX5_fastestToStand_2 rfl (lv_at hl 2 rfl) ?_
  refine lv_istore (lv' := [(4, .int (nI x)), (3, .int 0), (0, .ref (h 2)), (1, .int (nI x)), (2, .int (nI m))]) hx hb dX5_fastestToStand_3 hl (by decide) rfl (fun ls hl => ?_)
  have lp_5 : ∀ (fuel : Nat) (k : Nat), L - (x + k) < fuel → k ≤ m + 1 → x + k ≤ L → ∀ (H : Heap) (locs : List Loc) (ls : Array Slot), xW g A0 s0 [(h 2, .inr (5, [.int (nI L), .ref (h 3), .ref (h 4), .ref (h 5), .ref (h 6)])), (h 4, .inl (g.2.1, 200, .inl gr)), (h 6, .inl (g.2.1, 7, .inl st))] H locs → lv_has ls 5 [(4, .int (nI (x + k))), (3, .int (smD gr (st 0) x k)), (0, .ref (h 2)), (1, .int (nI x)), (2, .int (nI m))] → W p0 l e0 (xR 2 34) s0 m0 [.ref (h 2), .int (nI x), .int (nI m)].toArray below meth c0 H locs 0 0 Q (F0 m0 5 ls []) := by
    intro fuel
    induction fuel with
    | zero => intro k hm; exact absurd hm (Nat.not_lt_zero _)
    | succ fuel ih =>
      intro k hm h1 h2 H locs ls hw hl
      refine lv_iload hx hb dX5_fastestToStand_5 (lv_at hl 0 rfl) ?_
      refine lv_aload_n hx hb dX5_fastestToStand_7 rfl (lv_at hl 2 rfl) ?_
      refine x_get E hw kf_X5_27 0 rfl rfl dX5_fastestToStand_8 ?_
      refine xn_ge (tgt := 37) hx hb (x + k) L rfl rfl (by omega) (by omega) dX5_fastestToStand_11 (by decide) (fun c_1 => ?_) (fun c_1 => ?_)
      · obtain rfl : k = min (L - x) (m + 1) := by rw [Nat.min_def]; split <;> omega
        refine lv_bipush (v := 99) hx hb dX5_fastestToStand_37 (by decide) ?_
        refine lv_iload_n hx hb dX5_fastestToStand_39 rfl (lv_at hl 1 rfl) ?_
        refine x_go (ws' := [(h 2, .inr (5, [.int (nI L), .ref (h 3), .ref (h 4), .ref (h 5), .ref (h 6)])), (h 4, .inl (g.2.1, 200, .inl gr)), (h 6, .inl (g.2.1, 7, .inl st))]) (st1 := [.int (nI (rtL 15 0 (smD gr (st 0) x (min (L - x) (m + 1))))), .int 99]) E hw [] rfl (x_runSN (rest := [.int 99]) E hw (c_X7_root l g (smD gr (st 0) x (min (L - x) (m + 1))) ) km_X5_65 ks_X7_root [] rfl (by decide) hl.1 rfl rfl (Nat.le_of_ble_eq_true rfl) ⟨Nat.le_of_ble_eq_true rfl, Nat.le_of_ble_eq_true rfl⟩ ⟨Nat.zero_le _, Nat.zero_le _⟩ dX5_fastestToStand_40) rfl rfl rfl (fun H locs hw => ?_)
        refine x_min E km_X5_68 hl.1 (Nat.le_of_ble_eq_true rfl) (Nat.le_of_ble_eq_true rfl) ⟨Nat.zero_le _, Nat.zero_le _⟩ dX5_fastestToStand_43 ?_
        exact xr_i hQ E hr hw dX5_fastestToStand_46 ⟨rfl, rfl⟩
      · refine lv_iload hx hb dX5_fastestToStand_14 (lv_at hl 0 rfl) ?_
        refine lv_iload_n hx hb dX5_fastestToStand_16 rfl (lv_at hl 3 rfl) ?_
        refine xn_sub hx hb (x + k) x rfl rfl (by omega) dX5_fastestToStand_17 ?_
        refine x_top (v' := .int (nI k)) (congrArg Value.int (congrArg nI (by omega))) ?_
        refine lv_iload_n hx hb dX5_fastestToStand_18 rfl (lv_at hl 4 rfl) ?_
        refine xn_gt (tgt := 37) hx hb k m rfl rfl (by omega) (by omega) dX5_fastestToStand_19 (by decide) (fun c_2 => ?_) (fun c_2 => ?_)
        · obtain rfl : k = min (L - x) (m + 1) := by rw [Nat.min_def]; split <;> omega
          refine lv_bipush (v := 99) hx hb dX5_fastestToStand_37 (by decide) ?_
          refine lv_iload_n hx hb dX5_fastestToStand_39 rfl (lv_at hl 1 rfl) ?_
          refine x_go (ws' := [(h 2, .inr (5, [.int (nI L), .ref (h 3), .ref (h 4), .ref (h 5), .ref (h 6)])), (h 4, .inl (g.2.1, 200, .inl gr)), (h 6, .inl (g.2.1, 7, .inl st))]) (st1 := [.int (nI (rtL 15 0 (smD gr (st 0) x (min (L - x) (m + 1))))), .int 99]) E hw [] rfl (x_runSN (rest := [.int 99]) E hw (c_X7_root l g (smD gr (st 0) x (min (L - x) (m + 1))) ) km_X5_65 ks_X7_root [] rfl (by decide) hl.1 rfl rfl (Nat.le_of_ble_eq_true rfl) ⟨Nat.le_of_ble_eq_true rfl, Nat.le_of_ble_eq_true rfl⟩ ⟨Nat.zero_le _, Nat.zero_le _⟩ dX5_fastestToStand_40) rfl rfl rfl (fun H locs hw => ?_)
          refine x_min E km_X5_68 hl.1 (Nat.le_of_ble_eq_true rfl) (Nat.le_of_ble_eq_true rfl) ⟨Nat.zero_le _, Nat.zero_le _⟩ dX5_fastestToStand_43 ?_
          exact xr_i hQ E hr hw dX5_fastestToStand_46 ⟨rfl, rfl⟩
        · refine lv_iload_n hx hb dX5_fastestToStand_22 rfl (lv_at hl 1 rfl) ?_
          refine lv_aload_n hx hb dX5_fastestToStand_23 rfl (lv_at hl 2 rfl) ?_
          refine lv_iload hx hb dX5_fastestToStand_24 (lv_at hl 0 rfl) ?_
          refine x_go (ws' := [(h 2, .inr (5, [.int (nI L), .ref (h 3), .ref (h 4), .ref (h 5), .ref (h 6)])), (h 4, .inl (g.2.1, 200, .inl gr)), (h 6, .inl (g.2.1, 7, .inl st))]) (st1 := [.int (dcl (st 0) (gr (x + k))), .int (smD gr (st 0) x k)]) E hw [0, 1, 2] rfl (x_runV (rest := [.int (smD gr (st 0) x k)]) E hw (c_X5_decel l g h L gr st (x + k) (by omega)) km_X5_61 kv_X5_decel [0, 1, 2] rfl (by decide) 0 rfl hl.1 rfl rfl (Nat.le_of_ble_eq_true rfl) ⟨Nat.le_of_ble_eq_true rfl, Nat.le_of_ble_eq_true rfl⟩ ⟨Nat.zero_le _, Nat.zero_le _⟩ dX5_fastestToStand_26) rfl rfl rfl (fun H locs hw => ?_)
          refine lv_iadd hx hb dX5_fastestToStand_29 ?_
          refine x_top (v' := .int (smD gr (st 0) x (k + 1))) rfl ?_
          refine lv_istore_n (lv' := [(3, .int (smD gr (st 0) x (k + 1))), (4, .int (nI (x + k))), (0, .ref (h 2)), (1, .int (nI x)), (2, .int (nI m))]) hx hb dX5_fastestToStand_30 rfl hl (by decide) rfl (fun ls hl => ?_)
          refine lv_iinc (v := nI (x + k + 1)) (lv' := [(4, .int (nI (x + k + 1))), (3, .int (smD gr (st 0) x (k + 1))), (0, .ref (h 2)), (1, .int (nI x)), (2, .int (nI m))]) hx hb dX5_fastestToStand_31 hl (k := 1) rfl (nI_1 _) (by decide) rfl (fun ls hl => ?_)
          refine lv_goto (tgt := 5) hx hb dX5_fastestToStand_34 (by decide) ?_
          have hl : lv_has ls 5 [(4, .int (nI (x + k + 1))), (3, .int (smD gr (st 0) x (k + 1))), (0, .ref (h 2)), (1, .int (nI x)), (2, .int (nI m))] := lv_sub hl [0, 1, 2, 3, 4] rfl
          have hl : lv_has ls 5 [(4, .int (nI (x + (k + 1)))), (3, .int (smD gr (st 0) x (k + 1))), (0, .ref (h 2)), (1, .int (nI x)), (2, .int (nI m))] := lv_re hl (by rw [show (nI (x + k + 1) : Int32) = nI (x + (k + 1)) from congrArg nI (by omega)])
          have hw : xW g A0 s0 [(h 2, .inr (5, [.int (nI L), .ref (h 3), .ref (h 4), .ref (h 5), .ref (h 6)])), (h 4, .inl (g.2.1, 200, .inl gr)), (h 6, .inl (g.2.1, 7, .inl st))] _ _ := hw
          exact ih (k + 1) (by omega) (by omega) (by omega) _ _ _ hw hl
  have hl : lv_has ls 5 [(4, .int (nI x)), (3, .int 0), (0, .ref (h 2)), (1, .int (nI x)), (2, .int (nI m))] := lv_sub hl [0, 1, 2, 3, 4] rfl
  have hl : lv_has ls 5 [(4, .int (nI (x + 0))), (3, .int (smD gr (st 0) x 0)), (0, .ref (h 2)), (1, .int (nI x)), (2, .int (nI m))] := lv_re hl (by rw [show (0 : Int32) = smD gr (st 0) x 0 from rfl, show (nI x : Int32) = nI (x + 0) from congrArg nI rfl])
  have hw : xW g A0 s0 [(h 2, .inr (5, [.int (nI L), .ref (h 3), .ref (h 4), .ref (h 5), .ref (h 6)])), (h 4, .inl (g.2.1, 200, .inl gr)), (h 6, .inl (g.2.1, 7, .inl st))] _ _ := hw
  exact lp_5 ((L - (x + 0)) + 1) 0 (Nat.lt_succ_self _) (by omega) (by omega) _ _ _ hw hl

set_option maxRecDepth 100000 in
set_option maxHeartbeats 4000000 in
theorem c_X5_copies (l : Launch) (g : xCfg) (h : Nat → Nat) (k : Nat → Nat) (L : Nat) (ce : Nat → Int32) (gr : Nat → Int32) (be : Nat → Int32) (st : Nat → Int32) (L2 : Nat) (ce2 : Nat → Int32) (gr2 : Nat → Int32) (be2 : Nat → Int32) (st2 : Nat → Int32)  : Ct l g yX5_copies cX5_copies 2 none (xR 1 18) [.ref (h 2), .ref (k 2)] [(h 2, .inr (5, [.int (nI L), .ref (h 3), .ref (h 4), .ref (h 5), .ref (h 6)])), (h 3, .inl (g.2.1, 200, .inl ce)), (h 4, .inl (g.2.1, 200, .inl gr)), (h 5, .inl (g.2.1, 200, .inl be)), (h 6, .inl (g.2.1, 7, .inl st)), (k 2, .inr (5, [.int (nI L2), .ref (k 3), .ref (k 4), .ref (k 5), .ref (k 6)])), (k 3, .inl (g.2.1, 200, .inl ce2)), (k 4, .inl (g.2.1, 200, .inl gr2)), (k 5, .inl (g.2.1, 200, .inl be2)), (k 6, .inl (g.2.1, 7, .inl st2))] (is1 none [(h 2, .inr (5, [.int (nI L2), .ref (h 3), .ref (h 4), .ref (h 5), .ref (h 6)])), (h 3, .inl (g.2.1, 200, .inl ce2)), (h 4, .inl (g.2.1, 200, .inl gr2)), (h 5, .inl (g.2.1, 200, .inl be2)), (h 6, .inl (g.2.1, 7, .inl st2)), (k 2, .inr (5, [.int (nI L2), .ref (k 3), .ref (k 4), .ref (k 5), .ref (k 6)])), (k 3, .inl (g.2.1, 200, .inl ce2)), (k 4, .inl (g.2.1, 200, .inl gr2)), (k 5, .inl (g.2.1, 200, .inl be2)), (k 6, .inl (g.2.1, 7, .inl st2))]) := by
  refine Ct.walk (by decide) (Nat.le_of_ble_eq_true rfl) ?_
  intro p0 e0 s0 m0 below meth c0 A0 ls Q hQ E hr hnm hw hl
  have hx := E.x
  have hb := E.b
  have hl : lv_has ls 2 [(0, .ref (h 2)), (1, .ref (k 2))] := hl
  refine lv_aload_n hx hb dX5_copies_0 rfl (lv_at hl 0 rfl) ?_
  refine lv_aload_n hx hb dX5_copies_1 rfl (lv_at hl 1 rfl) ?_
  refine x_get E hw kf_X5_27 5 rfl rfl dX5_copies_2 ?_
  refine x_put E hw kf_X5_27 kp_X5_0 0 rfl (ty := .int) (by decide +kernel) rfl rfl (by simp) (ws' := [(h 2, .inr (5, [.int (nI L2), .ref (h 3), .ref (h 4), .ref (h 5), .ref (h 6)])), (h 3, .inl (g.2.1, 200, .inl ce)), (h 4, .inl (g.2.1, 200, .inl gr)), (h 5, .inl (g.2.1, 200, .inl be)), (h 6, .inl (g.2.1, 7, .inl st)), (k 2, .inr (5, [.int (nI L2), .ref (k 3), .ref (k 4), .ref (k 5), .ref (k 6)])), (k 3, .inl (g.2.1, 200, .inl ce2)), (k 4, .inl (g.2.1, 200, .inl gr2)), (k 5, .inl (g.2.1, 200, .inl be2)), (k 6, .inl (g.2.1, 7, .inl st2))]) rfl dX5_copies_5 (fun H locs hw => ?_)
  refine lv_aload_n hx hb dX5_copies_8 rfl (lv_at hl 1 rfl) ?_
  refine x_get E hw kf_X5_11 5 rfl rfl dX5_copies_9 ?_
  refine lv_iconst (v := 0) hx hb dX5_copies_12 (by decide) ?_
  refine lv_aload_n hx hb dX5_copies_13 rfl (lv_at hl 0 rfl) ?_
  refine x_get E hw kf_X5_11 0 rfl rfl dX5_copies_14 ?_
  refine lv_iconst (v := 0) hx hb dX5_copies_17 (by decide) ?_
  refine lv_sipush (v := 200) hx hb dX5_copies_18 (by decide) ?_
  refine x_copy (ws' := [(h 2, .inr (5, [.int (nI L2), .ref (h 3), .ref (h 4), .ref (h 5), .ref (h 6)])), (h 3, .inl (g.2.1, 200, .inl ce2)), (h 4, .inl (g.2.1, 200, .inl gr)), (h 5, .inl (g.2.1, 200, .inl be)), (h 6, .inl (g.2.1, 7, .inl st)), (k 2, .inr (5, [.int (nI L2), .ref (k 3), .ref (k 4), .ref (k 5), .ref (k 6)])), (k 3, .inl (g.2.1, 200, .inl ce2)), (k 4, .inl (g.2.1, 200, .inl gr2)), (k 5, .inl (g.2.1, 200, .inl be2)), (k 6, .inl (g.2.1, 7, .inl st2))]) (q0 := 6) (q1 := 1) E hw kcopy_X5_31 rfl rfl (by decide) hl.1 rfl rfl rfl (Nat.le_of_ble_eq_true rfl) (by decide) rfl dX5_copies_21 (fun H locs hw => ?_)
  refine lv_aload_n hx hb dX5_copies_24 rfl (lv_at hl 1 rfl) ?_
  refine x_get E hw kf_X5_15 5 rfl rfl dX5_copies_25 ?_
  refine lv_iconst (v := 0) hx hb dX5_copies_28 (by decide) ?_
  refine lv_aload_n hx hb dX5_copies_29 rfl (lv_at hl 0 rfl) ?_
  refine x_get E hw kf_X5_15 0 rfl rfl dX5_copies_30 ?_
  refine lv_iconst (v := 0) hx hb dX5_copies_33 (by decide) ?_
  refine lv_sipush (v := 200) hx hb dX5_copies_34 (by decide) ?_
  refine x_copy (ws' := [(h 2, .inr (5, [.int (nI L2), .ref (h 3), .ref (h 4), .ref (h 5), .ref (h 6)])), (h 3, .inl (g.2.1, 200, .inl ce2)), (h 4, .inl (g.2.1, 200, .inl gr2)), (h 5, .inl (g.2.1, 200, .inl be)), (h 6, .inl (g.2.1, 7, .inl st)), (k 2, .inr (5, [.int (nI L2), .ref (k 3), .ref (k 4), .ref (k 5), .ref (k 6)])), (k 3, .inl (g.2.1, 200, .inl ce2)), (k 4, .inl (g.2.1, 200, .inl gr2)), (k 5, .inl (g.2.1, 200, .inl be2)), (k 6, .inl (g.2.1, 7, .inl st2))]) (q0 := 7) (q1 := 2) E hw kcopy_X5_31 rfl rfl (by decide) hl.1 rfl rfl rfl (Nat.le_of_ble_eq_true rfl) (by decide) rfl dX5_copies_37 (fun H locs hw => ?_)
  refine lv_aload_n hx hb dX5_copies_40 rfl (lv_at hl 1 rfl) ?_
  refine x_get E hw kf_X5_18 5 rfl rfl dX5_copies_41 ?_
  refine lv_iconst (v := 0) hx hb dX5_copies_44 (by decide) ?_
  refine lv_aload_n hx hb dX5_copies_45 rfl (lv_at hl 0 rfl) ?_
  refine x_get E hw kf_X5_18 0 rfl rfl dX5_copies_46 ?_
  refine lv_iconst (v := 0) hx hb dX5_copies_49 (by decide) ?_
  refine lv_sipush (v := 200) hx hb dX5_copies_50 (by decide) ?_
  refine x_copy (ws' := [(h 2, .inr (5, [.int (nI L2), .ref (h 3), .ref (h 4), .ref (h 5), .ref (h 6)])), (h 3, .inl (g.2.1, 200, .inl ce2)), (h 4, .inl (g.2.1, 200, .inl gr2)), (h 5, .inl (g.2.1, 200, .inl be2)), (h 6, .inl (g.2.1, 7, .inl st)), (k 2, .inr (5, [.int (nI L2), .ref (k 3), .ref (k 4), .ref (k 5), .ref (k 6)])), (k 3, .inl (g.2.1, 200, .inl ce2)), (k 4, .inl (g.2.1, 200, .inl gr2)), (k 5, .inl (g.2.1, 200, .inl be2)), (k 6, .inl (g.2.1, 7, .inl st2))]) (q0 := 8) (q1 := 3) E hw kcopy_X5_31 rfl rfl (by decide) hl.1 rfl rfl rfl (Nat.le_of_ble_eq_true rfl) (by decide) rfl dX5_copies_53 (fun H locs hw => ?_)
  refine lv_aload_n hx hb dX5_copies_56 rfl (lv_at hl 1 rfl) ?_
  refine x_get E hw kf_X5_24 5 rfl rfl dX5_copies_57 ?_
  refine lv_iconst (v := 0) hx hb dX5_copies_60 (by decide) ?_
  refine lv_aload_n hx hb dX5_copies_61 rfl (lv_at hl 0 rfl) ?_
  refine x_get E hw kf_X5_24 0 rfl rfl dX5_copies_62 ?_
  refine lv_iconst (v := 0) hx hb dX5_copies_65 (by decide) ?_
  refine va_gets hx hb E.2.2.2.2.2.1.1 hw.2.2 E.ow (E.ts (.fieldLink RX5 21 RX5 "FIRST" "[I") (wB 142 rfl rfl)) (fun _ h => h) dX5_copies_66 ?_
  refine va_tlen (v := 7) hx hb E.2.2.2.2.2.1.2 hw.2.2 rfl dX5_copies_69 ?_
  refine x_copy (ws' := [(h 2, .inr (5, [.int (nI L2), .ref (h 3), .ref (h 4), .ref (h 5), .ref (h 6)])), (h 3, .inl (g.2.1, 200, .inl ce2)), (h 4, .inl (g.2.1, 200, .inl gr2)), (h 5, .inl (g.2.1, 200, .inl be2)), (h 6, .inl (g.2.1, 7, .inl st2)), (k 2, .inr (5, [.int (nI L2), .ref (k 3), .ref (k 4), .ref (k 5), .ref (k 6)])), (k 3, .inl (g.2.1, 200, .inl ce2)), (k 4, .inl (g.2.1, 200, .inl gr2)), (k 5, .inl (g.2.1, 200, .inl be2)), (k 6, .inl (g.2.1, 7, .inl st2))]) (q0 := 9) (q1 := 4) E hw kcopy_X5_31 rfl rfl (by decide) hl.1 rfl rfl rfl (Nat.le_of_ble_eq_true rfl) (by decide) rfl dX5_copies_70 (fun H locs hw => ?_)
  exact xr_v hQ E hr hw dX5_copies_73 ⟨rfl, rfl⟩

set_option maxRecDepth 100000 in
set_option maxHeartbeats 4000000 in
theorem c_X6_copies (l : Launch) (g : xCfg) (h : Nat → Nat) (k : Nat → Nat) (fr : Nat) (q : Int32) (md : Int32) (lo : Int32) (hi : Int32) (al : Int32) (ov : Int32) (wo : Int32) (fr2 : Nat) (q2 : Int32) (md2 : Int32) (lo2 : Int32) (hi2 : Int32) (al2 : Int32) (ov2 : Int32) (wo2 : Int32)  : Ct l g yX6_copies cX6_copies 2 none (xR 0 0) [.ref (h 7), .ref (k 7)] [(h 7, .inr (6, [.int (nI fr), .int q, .int md, .int lo, .int hi, .int al, .int ov, .int wo])), (k 7, .inr (6, [.int (nI fr2), .int q2, .int md2, .int lo2, .int hi2, .int al2, .int ov2, .int wo2]))] (is1 none [(h 7, .inr (6, [.int (nI fr2), .int q2, .int md2, .int lo2, .int hi2, .int al2, .int ov2, .int wo2])), (k 7, .inr (6, [.int (nI fr2), .int q2, .int md2, .int lo2, .int hi2, .int al2, .int ov2, .int wo2]))]) := by
  refine Ct.walk (by decide) (Nat.le_of_ble_eq_true rfl) ?_
  intro p0 e0 s0 m0 below meth c0 A0 ls Q hQ E hr hnm hw hl
  have hx := E.x
  have hb := E.b
  have hl : lv_has ls 2 [(0, .ref (h 7)), (1, .ref (k 7))] := hl
  refine lv_aload_n hx hb dX6_copies_0 rfl (lv_at hl 0 rfl) ?_
  refine lv_aload_n hx hb dX6_copies_1 rfl (lv_at hl 1 rfl) ?_
  refine x_get E hw kf_X6_9 1 rfl rfl dX6_copies_2 ?_
  refine x_put E hw kf_X6_9 kp_X6_0 0 rfl (ty := .int) (by decide +kernel) rfl rfl (by simp) (ws' := [(h 7, .inr (6, [.int (nI fr2), .int q, .int md, .int lo, .int hi, .int al, .int ov, .int wo])), (k 7, .inr (6, [.int (nI fr2), .int q2, .int md2, .int lo2, .int hi2, .int al2, .int ov2, .int wo2]))]) rfl dX6_copies_5 (fun H locs hw => ?_)
  refine lv_aload_n hx hb dX6_copies_8 rfl (lv_at hl 0 rfl) ?_
  refine lv_aload_n hx hb dX6_copies_9 rfl (lv_at hl 1 rfl) ?_
  refine x_get E hw kf_X6_15 1 rfl rfl dX6_copies_10 ?_
  refine x_put E hw kf_X6_15 kp_X6_1 0 rfl (ty := .int) (by decide +kernel) rfl rfl (by simp) (ws' := [(h 7, .inr (6, [.int (nI fr2), .int q2, .int md, .int lo, .int hi, .int al, .int ov, .int wo])), (k 7, .inr (6, [.int (nI fr2), .int q2, .int md2, .int lo2, .int hi2, .int al2, .int ov2, .int wo2]))]) rfl dX6_copies_13 (fun H locs hw => ?_)
  refine lv_aload_n hx hb dX6_copies_16 rfl (lv_at hl 0 rfl) ?_
  refine lv_aload_n hx hb dX6_copies_17 rfl (lv_at hl 1 rfl) ?_
  refine x_get E hw kf_X6_18 1 rfl rfl dX6_copies_18 ?_
  refine x_put E hw kf_X6_18 kp_X6_2 0 rfl (ty := .int) (by decide +kernel) rfl rfl (by simp) (ws' := [(h 7, .inr (6, [.int (nI fr2), .int q2, .int md2, .int lo, .int hi, .int al, .int ov, .int wo])), (k 7, .inr (6, [.int (nI fr2), .int q2, .int md2, .int lo2, .int hi2, .int al2, .int ov2, .int wo2]))]) rfl dX6_copies_21 (fun H locs hw => ?_)
  refine lv_aload_n hx hb dX6_copies_24 rfl (lv_at hl 0 rfl) ?_
  refine lv_aload_n hx hb dX6_copies_25 rfl (lv_at hl 1 rfl) ?_
  refine x_get E hw kf_X6_21 1 rfl rfl dX6_copies_26 ?_
  refine x_put E hw kf_X6_21 kp_X6_3 0 rfl (ty := .int) (by decide +kernel) rfl rfl (by simp) (ws' := [(h 7, .inr (6, [.int (nI fr2), .int q2, .int md2, .int lo2, .int hi, .int al, .int ov, .int wo])), (k 7, .inr (6, [.int (nI fr2), .int q2, .int md2, .int lo2, .int hi2, .int al2, .int ov2, .int wo2]))]) rfl dX6_copies_29 (fun H locs hw => ?_)
  refine lv_aload_n hx hb dX6_copies_32 rfl (lv_at hl 0 rfl) ?_
  refine lv_aload_n hx hb dX6_copies_33 rfl (lv_at hl 1 rfl) ?_
  refine x_get E hw kf_X6_24 1 rfl rfl dX6_copies_34 ?_
  refine x_put E hw kf_X6_24 kp_X6_4 0 rfl (ty := .int) (by decide +kernel) rfl rfl (by simp) (ws' := [(h 7, .inr (6, [.int (nI fr2), .int q2, .int md2, .int lo2, .int hi2, .int al, .int ov, .int wo])), (k 7, .inr (6, [.int (nI fr2), .int q2, .int md2, .int lo2, .int hi2, .int al2, .int ov2, .int wo2]))]) rfl dX6_copies_37 (fun H locs hw => ?_)
  refine lv_aload_n hx hb dX6_copies_40 rfl (lv_at hl 0 rfl) ?_
  refine lv_aload_n hx hb dX6_copies_41 rfl (lv_at hl 1 rfl) ?_
  refine x_get E hw kf_X6_27 1 rfl rfl dX6_copies_42 ?_
  refine x_put E hw kf_X6_27 kp_X6_5 0 rfl (ty := .int) (by decide +kernel) rfl rfl (by simp) (ws' := [(h 7, .inr (6, [.int (nI fr2), .int q2, .int md2, .int lo2, .int hi2, .int al2, .int ov, .int wo])), (k 7, .inr (6, [.int (nI fr2), .int q2, .int md2, .int lo2, .int hi2, .int al2, .int ov2, .int wo2]))]) rfl dX6_copies_45 (fun H locs hw => ?_)
  refine lv_aload_n hx hb dX6_copies_48 rfl (lv_at hl 0 rfl) ?_
  refine lv_aload_n hx hb dX6_copies_49 rfl (lv_at hl 1 rfl) ?_
  refine x_get E hw kf_X6_30 1 rfl rfl dX6_copies_50 ?_
  refine x_put E hw kf_X6_30 kp_X6_6 0 rfl (ty := .int) (by decide +kernel) rfl rfl (by simp) (ws' := [(h 7, .inr (6, [.int (nI fr2), .int q2, .int md2, .int lo2, .int hi2, .int al2, .int ov2, .int wo])), (k 7, .inr (6, [.int (nI fr2), .int q2, .int md2, .int lo2, .int hi2, .int al2, .int ov2, .int wo2]))]) rfl dX6_copies_53 (fun H locs hw => ?_)
  refine lv_aload_n hx hb dX6_copies_56 rfl (lv_at hl 0 rfl) ?_
  refine lv_aload_n hx hb dX6_copies_57 rfl (lv_at hl 1 rfl) ?_
  refine x_get E hw kf_X6_33 1 rfl rfl dX6_copies_58 ?_
  refine x_put E hw kf_X6_33 kp_X6_7 0 rfl (ty := .int) (by decide +kernel) rfl rfl (by simp) (ws' := [(h 7, .inr (6, [.int (nI fr2), .int q2, .int md2, .int lo2, .int hi2, .int al2, .int ov2, .int wo2])), (k 7, .inr (6, [.int (nI fr2), .int q2, .int md2, .int lo2, .int hi2, .int al2, .int ov2, .int wo2]))]) rfl dX6_copies_61 (fun H locs hw => ?_)
  exact xr_v hQ E hr hw dX6_copies_64 ⟨rfl, rfl⟩

set_option maxRecDepth 100000 in
set_option maxHeartbeats 4000000 in
theorem c_X6_knowsPlace (l : Launch) (g : xCfg) (h : Nat → Nat) (fr : Nat) (q : Int32) (md : Int32) (lo : Int32) (hi : Int32) (al : Int32) (ov : Int32) (wo : Int32)  : Ct l g yX6_knowsPlace cX6_knowsPlace 1 none (xR 0 0) [.ref (h 7)] [(h 7, .inr (6, [.int (nI fr), .int q, .int md, .int lo, .int hi, .int al, .int ov, .int wo]))] (is1 none [(h 7, .inr (6, [.int (nI fr), .int q, .int md, .int (nI (1000 * fr)), .int (nI (1000 * fr)), .int al, .int ov, .int wo]))]) := by
  refine Ct.walk (by decide) (Nat.le_of_ble_eq_true rfl) ?_
  intro p0 e0 s0 m0 below meth c0 A0 ls Q hQ E hr hnm hw hl
  have hx := E.x
  have hb := E.b
  have hl : lv_has ls 1 [(0, .ref (h 7))] := hl
  refine lv_aload_n hx hb dX6_knowsPlace_0 rfl (lv_at hl 0 rfl) ?_
  refine lv_sipush (v := 1000) hx hb dX6_knowsPlace_1 (by decide) ?_
  refine lv_aload_n hx hb dX6_knowsPlace_4 rfl (lv_at hl 0 rfl) ?_
  refine x_get E hw kf_X6_9 0 rfl rfl dX6_knowsPlace_5 ?_
  refine xn_mul hx hb 1000 fr rfl rfl dX6_knowsPlace_8 ?_
  refine x_put E hw kf_X6_21 kp_X6_3 0 rfl (ty := .int) (by decide +kernel) rfl rfl (by simp) (ws' := [(h 7, .inr (6, [.int (nI fr), .int q, .int md, .int (nI (1000 * fr)), .int hi, .int al, .int ov, .int wo]))]) rfl dX6_knowsPlace_9 (fun H locs hw => ?_)
  refine lv_aload_n hx hb dX6_knowsPlace_12 rfl (lv_at hl 0 rfl) ?_
  refine lv_sipush (v := 1000) hx hb dX6_knowsPlace_13 (by decide) ?_
  refine lv_aload_n hx hb dX6_knowsPlace_16 rfl (lv_at hl 0 rfl) ?_
  refine x_get E hw kf_X6_9 0 rfl rfl dX6_knowsPlace_17 ?_
  refine xn_mul hx hb 1000 fr rfl rfl dX6_knowsPlace_20 ?_
  refine x_put E hw kf_X6_24 kp_X6_4 0 rfl (ty := .int) (by decide +kernel) rfl rfl (by simp) (ws' := [(h 7, .inr (6, [.int (nI fr), .int q, .int md, .int (nI (1000 * fr)), .int (nI (1000 * fr)), .int al, .int ov, .int wo]))]) rfl dX6_knowsPlace_21 (fun H locs hw => ?_)
  exact xr_v hQ E hr hw dX6_knowsPlace_24 ⟨rfl, rfl⟩

set_option maxRecDepth 100000 in
set_option maxHeartbeats 4000000 in
theorem c_X6_puts (l : Launch) (g : xCfg) (h : Nat → Nat) (fr : Nat) (q : Int32) (md : Int32) (lo : Int32) (hi : Int32) (al : Int32) (ov : Int32) (wo : Int32) (x : Nat) (v : Int32)  : Ct l g yX6_puts cX6_puts 3 none (xR 1 20) [.ref (h 7), .int (nI x), .int v] [(h 7, .inr (6, [.int (nI fr), .int q, .int md, .int lo, .int hi, .int al, .int ov, .int wo]))] (is1 none [(h 7, .inr (6, [.int (nI x), .int v, .int 0, .int (nI (1000 * x)), .int (nI (1000 * x)), .int al, .int ov, .int wo]))]) := by
  refine Ct.walk (by decide) (Nat.le_of_ble_eq_true rfl) ?_
  intro p0 e0 s0 m0 below meth c0 A0 ls Q hQ E hr hnm hw hl
  have hx := E.x
  have hb := E.b
  have hl : lv_has ls 3 [(0, .ref (h 7)), (1, .int (nI x)), (2, .int v)] := hl
  refine lv_aload_n hx hb dX6_puts_0 rfl (lv_at hl 0 rfl) ?_
  refine lv_iload_n hx hb dX6_puts_1 rfl (lv_at hl 1 rfl) ?_
  refine x_put E hw kf_X6_9 kp_X6_0 0 rfl (ty := .int) (by decide +kernel) rfl rfl (by simp) (ws' := [(h 7, .inr (6, [.int (nI x), .int q, .int md, .int lo, .int hi, .int al, .int ov, .int wo]))]) rfl dX6_puts_2 (fun H locs hw => ?_)
  refine lv_aload_n hx hb dX6_puts_5 rfl (lv_at hl 0 rfl) ?_
  refine lv_iload_n hx hb dX6_puts_6 rfl (lv_at hl 2 rfl) ?_
  refine x_put E hw kf_X6_15 kp_X6_1 0 rfl (ty := .int) (by decide +kernel) rfl rfl (by simp) (ws' := [(h 7, .inr (6, [.int (nI x), .int v, .int md, .int lo, .int hi, .int al, .int ov, .int wo]))]) rfl dX6_puts_7 (fun H locs hw => ?_)
  refine lv_aload_n hx hb dX6_puts_10 rfl (lv_at hl 0 rfl) ?_
  refine lv_iconst (v := 0) hx hb dX6_puts_11 (by decide) ?_
  refine x_put E hw kf_X6_18 kp_X6_2 0 rfl (ty := .int) (by decide +kernel) rfl rfl (by simp) (ws' := [(h 7, .inr (6, [.int (nI x), .int v, .int 0, .int lo, .int hi, .int al, .int ov, .int wo]))]) rfl dX6_puts_12 (fun H locs hw => ?_)
  refine lv_aload_n hx hb dX6_puts_15 rfl (lv_at hl 0 rfl) ?_
  refine x_go (ws' := [(h 7, .inr (6, [.int (nI x), .int v, .int 0, .int (nI (1000 * x)), .int (nI (1000 * x)), .int al, .int ov, .int wo]))]) (st1 := []) E hw [0] rfl (x_runV (rest := []) E hw (c_X6_knowsPlace l g h x v 0 lo hi al ov wo ) km_X6_36 kv_X6_knowsPlace [0] rfl (by decide) 0 rfl hl.1 rfl rfl (Nat.le_of_ble_eq_true rfl) ⟨Nat.le_of_ble_eq_true rfl, Nat.le_of_ble_eq_true rfl⟩ ⟨Nat.zero_le _, Nat.zero_le _⟩ dX6_puts_16) rfl rfl rfl (fun H locs hw => ?_)
  exact xr_v hQ E hr hw dX6_puts_19 ⟨rfl, rfl⟩

set_option maxRecDepth 100000 in
set_option maxHeartbeats 4000000 in
theorem c_X6_goesOn (l : Launch) (g : xCfg) (h : Nat → Nat) (fr : Nat) (q : Int32) (md : Int32) (lo : Int32) (hi : Int32) (al : Int32) (ov : Int32) (wo : Int32) (v : Int32) (L : Nat) (be : Nat → Int32) (st : Nat → Int32) (hf : fr + 1 < 200) : Ct l g yX6_goesOn cX6_goesOn 3 none (xR 1 20) [.ref (h 7), .int v, .ref (h 2)] [(h 7, .inr (6, [.int (nI fr), .int q, .int md, .int lo, .int hi, .int al, .int ov, .int wo])), (h 2, .inr (5, [.int (nI L), .ref (h 3), .ref (h 4), .ref (h 5), .ref (h 6)])), (h 5, .inl (g.2.1, 200, .inl be)), (h 6, .inl (g.2.1, 7, .inl st))] (is1 none [(h 7, .inr (6, [.int (nI (fr + 1)), .int v, .int md, .int (if be (fr + 1) = 1 then nI (1000 * (fr + 1)) else lo + (1000 - st 3)), .int (if be (fr + 1) = 1 then nI (1000 * (fr + 1)) else hi + (1000 + st 3)), .int al, .int ov, .int (wo + 1)])), (h 2, .inr (5, [.int (nI L), .ref (h 3), .ref (h 4), .ref (h 5), .ref (h 6)])), (h 5, .inl (g.2.1, 200, .inl be)), (h 6, .inl (g.2.1, 7, .inl st))]) := by
  refine Ct.walk (by decide) (Nat.le_of_ble_eq_true rfl) ?_
  intro p0 e0 s0 m0 below meth c0 A0 ls Q hQ E hr hnm hw hl
  have hx := E.x
  have hb := E.b
  have hl : lv_has ls 3 [(0, .ref (h 7)), (1, .int v), (2, .ref (h 2))] := hl
  refine lv_aload_n hx hb dX6_goesOn_0 rfl (lv_at hl 0 rfl) ?_
  refine lv_iload_n hx hb dX6_goesOn_1 rfl (lv_at hl 1 rfl) ?_
  refine x_put E hw kf_X6_15 kp_X6_1 0 rfl (ty := .int) (by decide +kernel) rfl rfl (by simp) (ws' := [(h 7, .inr (6, [.int (nI fr), .int v, .int md, .int lo, .int hi, .int al, .int ov, .int wo])), (h 2, .inr (5, [.int (nI L), .ref (h 3), .ref (h 4), .ref (h 5), .ref (h 6)])), (h 5, .inl (g.2.1, 200, .inl be)), (h 6, .inl (g.2.1, 7, .inl st))]) rfl dX6_goesOn_2 (fun H locs hw => ?_)
  refine lv_aload_n hx hb dX6_goesOn_5 rfl (lv_at hl 0 rfl) ?_
  refine lv_dup hx hb dX6_goesOn_6 rfl ?_
  refine x_get E hw kf_X6_9 0 rfl rfl dX6_goesOn_7 ?_
  refine lv_iconst (v := 1) hx hb dX6_goesOn_10 (by decide) ?_
  refine xn_add hx hb fr 1 rfl rfl dX6_goesOn_11 ?_
  refine x_put E hw kf_X6_9 kp_X6_0 0 rfl (ty := .int) (by decide +kernel) rfl rfl (by simp) (ws' := [(h 7, .inr (6, [.int (nI (fr + 1)), .int v, .int md, .int lo, .int hi, .int al, .int ov, .int wo])), (h 2, .inr (5, [.int (nI L), .ref (h 3), .ref (h 4), .ref (h 5), .ref (h 6)])), (h 5, .inl (g.2.1, 200, .inl be)), (h 6, .inl (g.2.1, 7, .inl st))]) rfl dX6_goesOn_12 (fun H locs hw => ?_)
  refine lv_aload_n hx hb dX6_goesOn_15 rfl (lv_at hl 0 rfl) ?_
  refine lv_dup hx hb dX6_goesOn_16 rfl ?_
  refine x_get E hw kf_X6_33 0 rfl rfl dX6_goesOn_17 ?_
  refine lv_iconst (v := 1) hx hb dX6_goesOn_20 (by decide) ?_
  refine lv_iadd hx hb dX6_goesOn_21 ?_
  refine x_put E hw kf_X6_33 kp_X6_7 0 rfl (ty := .int) (by decide +kernel) rfl rfl (by simp) (ws' := [(h 7, .inr (6, [.int (nI (fr + 1)), .int v, .int md, .int lo, .int hi, .int al, .int ov, .int (wo + 1)])), (h 2, .inr (5, [.int (nI L), .ref (h 3), .ref (h 4), .ref (h 5), .ref (h 6)])), (h 5, .inl (g.2.1, 200, .inl be)), (h 6, .inl (g.2.1, 7, .inl st))]) rfl dX6_goesOn_22 (fun H locs hw => ?_)
  refine lv_aload_n hx hb dX6_goesOn_25 rfl (lv_at hl 0 rfl) ?_
  refine lv_dup hx hb dX6_goesOn_26 rfl ?_
  refine x_get E hw kf_X6_21 0 rfl rfl dX6_goesOn_27 ?_
  refine lv_sipush (v := 1000) hx hb dX6_goesOn_30 (by decide) ?_
  refine lv_aload_n hx hb dX6_goesOn_33 rfl (lv_at hl 2 rfl) ?_
  refine x_getN E hw kf_X6_39 1 rfl rfl dX6_goesOn_34 ?_
  refine lv_iconst (v := 3) hx hb dX6_goesOn_37 (by decide) ?_
  refine x_ld (v := st 3) E hw 3 rfl 3 rfl (by omega) (by decide) rfl dX6_goesOn_38 ?_
  refine lv_isub hx hb dX6_goesOn_39 ?_
  refine lv_iadd hx hb dX6_goesOn_40 ?_
  refine x_put E hw kf_X6_21 kp_X6_3 0 rfl (ty := .int) (by decide +kernel) rfl rfl (by simp) (ws' := [(h 7, .inr (6, [.int (nI (fr + 1)), .int v, .int md, .int (lo + (1000 - st 3)), .int hi, .int al, .int ov, .int (wo + 1)])), (h 2, .inr (5, [.int (nI L), .ref (h 3), .ref (h 4), .ref (h 5), .ref (h 6)])), (h 5, .inl (g.2.1, 200, .inl be)), (h 6, .inl (g.2.1, 7, .inl st))]) rfl dX6_goesOn_41 (fun H locs hw => ?_)
  refine lv_aload_n hx hb dX6_goesOn_44 rfl (lv_at hl 0 rfl) ?_
  refine lv_dup hx hb dX6_goesOn_45 rfl ?_
  refine x_get E hw kf_X6_24 0 rfl rfl dX6_goesOn_46 ?_
  refine lv_sipush (v := 1000) hx hb dX6_goesOn_49 (by decide) ?_
  refine lv_aload_n hx hb dX6_goesOn_52 rfl (lv_at hl 2 rfl) ?_
  refine x_getN E hw kf_X6_39 1 rfl rfl dX6_goesOn_53 ?_
  refine lv_iconst (v := 3) hx hb dX6_goesOn_56 (by decide) ?_
  refine x_ld (v := st 3) E hw 3 rfl 3 rfl (by omega) (by decide) rfl dX6_goesOn_57 ?_
  refine lv_iadd hx hb dX6_goesOn_58 ?_
  refine lv_iadd hx hb dX6_goesOn_59 ?_
  refine x_put E hw kf_X6_24 kp_X6_4 0 rfl (ty := .int) (by decide +kernel) rfl rfl (by simp) (ws' := [(h 7, .inr (6, [.int (nI (fr + 1)), .int v, .int md, .int (lo + (1000 - st 3)), .int (hi + (1000 + st 3)), .int al, .int ov, .int (wo + 1)])), (h 2, .inr (5, [.int (nI L), .ref (h 3), .ref (h 4), .ref (h 5), .ref (h 6)])), (h 5, .inl (g.2.1, 200, .inl be)), (h 6, .inl (g.2.1, 7, .inl st))]) rfl dX6_goesOn_60 (fun H locs hw => ?_)
  refine lv_aload_n hx hb dX6_goesOn_63 rfl (lv_at hl 2 rfl) ?_
  refine x_getN E hw kf_X6_45 1 rfl rfl dX6_goesOn_64 ?_
  refine lv_aload_n hx hb dX6_goesOn_67 rfl (lv_at hl 0 rfl) ?_
  refine x_get E hw kf_X6_9 0 rfl rfl dX6_goesOn_68 ?_
  refine x_ld (v := be (fr + 1)) E hw 2 rfl (fr + 1) rfl (by omega) (by decide) rfl dX6_goesOn_71 ?_
  refine lv_iconst (v := 1) hx hb dX6_goesOn_72 (by decide) ?_
  refine lv_icmp_ne (tgt := 80) hx hb dX6_goesOn_73 (by decide) (fun ce => ?_) (fun ce => ?_)
  · exact xr_v hQ E hr hw dX6_goesOn_80 ⟨rfl, (by rw [if_neg ce, if_neg ce])⟩
  · refine lv_aload_n hx hb dX6_goesOn_76 rfl (lv_at hl 0 rfl) ?_
    refine x_go (ws' := [(h 7, .inr (6, [.int (nI (fr + 1)), .int v, .int md, .int (nI (1000 * (fr + 1))), .int (nI (1000 * (fr + 1))), .int al, .int ov, .int (wo + 1)])), (h 2, .inr (5, [.int (nI L), .ref (h 3), .ref (h 4), .ref (h 5), .ref (h 6)])), (h 5, .inl (g.2.1, 200, .inl be)), (h 6, .inl (g.2.1, 7, .inl st))]) (st1 := []) E hw [0] rfl (x_runV (rest := []) E hw (c_X6_knowsPlace l g h (fr + 1) v md (lo + (1000 - st 3)) (hi + (1000 + st 3)) al ov (wo + 1) ) km_X6_36 kv_X6_knowsPlace [0] rfl (by decide) 0 rfl hl.1 rfl rfl (Nat.le_of_ble_eq_true rfl) ⟨Nat.le_of_ble_eq_true rfl, Nat.le_of_ble_eq_true rfl⟩ ⟨Nat.zero_le _, Nat.zero_le _⟩ dX6_goesOn_77) rfl rfl rfl (fun H locs hw => ?_)
    exact xr_v hQ E hr hw dX6_goesOn_80 ⟨rfl, (by rw [if_pos ce, if_pos ce])⟩

set_option maxRecDepth 100000 in
set_option maxHeartbeats 4000000 in
theorem c_X4_copies (l : Launch) (g : xCfg) (h : Nat → Nat) (k : Nat → Nat) (L : Nat) (ce : Nat → Int32) (gr : Nat → Int32) (be : Nat → Int32) (st : Nat → Int32) (fr : Nat) (q : Int32) (md : Int32) (lo : Int32) (hi : Int32) (al : Int32) (ov : Int32) (wo : Int32) (L2 : Nat) (ce2 : Nat → Int32) (gr2 : Nat → Int32) (be2 : Nat → Int32) (st2 : Nat → Int32) (fr2 : Nat) (q2 : Int32) (md2 : Int32) (lo2 : Int32) (hi2 : Int32) (al2 : Int32) (ov2 : Int32) (wo2 : Int32)  : Ct l g yX4_copies cX4_copies 2 none (xR 2 39) [.ref (h 1), .ref (k 1)] [(h 1, .inr (4, [.ref (h 2), .ref (h 7)])), (h 2, .inr (5, [.int (nI L), .ref (h 3), .ref (h 4), .ref (h 5), .ref (h 6)])), (h 3, .inl (g.2.1, 200, .inl ce)), (h 4, .inl (g.2.1, 200, .inl gr)), (h 5, .inl (g.2.1, 200, .inl be)), (h 6, .inl (g.2.1, 7, .inl st)), (h 7, .inr (6, [.int (nI fr), .int q, .int md, .int lo, .int hi, .int al, .int ov, .int wo])), (k 1, .inr (4, [.ref (k 2), .ref (k 7)])), (k 2, .inr (5, [.int (nI L2), .ref (k 3), .ref (k 4), .ref (k 5), .ref (k 6)])), (k 3, .inl (g.2.1, 200, .inl ce2)), (k 4, .inl (g.2.1, 200, .inl gr2)), (k 5, .inl (g.2.1, 200, .inl be2)), (k 6, .inl (g.2.1, 7, .inl st2)), (k 7, .inr (6, [.int (nI fr2), .int q2, .int md2, .int lo2, .int hi2, .int al2, .int ov2, .int wo2]))] (is1 none [(h 1, .inr (4, [.ref (h 2), .ref (h 7)])), (h 2, .inr (5, [.int (nI L2), .ref (h 3), .ref (h 4), .ref (h 5), .ref (h 6)])), (h 3, .inl (g.2.1, 200, .inl ce2)), (h 4, .inl (g.2.1, 200, .inl gr2)), (h 5, .inl (g.2.1, 200, .inl be2)), (h 6, .inl (g.2.1, 7, .inl st2)), (h 7, .inr (6, [.int (nI fr2), .int q2, .int md2, .int lo2, .int hi2, .int al2, .int ov2, .int wo2])), (k 1, .inr (4, [.ref (k 2), .ref (k 7)])), (k 2, .inr (5, [.int (nI L2), .ref (k 3), .ref (k 4), .ref (k 5), .ref (k 6)])), (k 3, .inl (g.2.1, 200, .inl ce2)), (k 4, .inl (g.2.1, 200, .inl gr2)), (k 5, .inl (g.2.1, 200, .inl be2)), (k 6, .inl (g.2.1, 7, .inl st2)), (k 7, .inr (6, [.int (nI fr2), .int q2, .int md2, .int lo2, .int hi2, .int al2, .int ov2, .int wo2]))]) := by
  refine Ct.walk (by decide) (Nat.le_of_ble_eq_true rfl) ?_
  intro p0 e0 s0 m0 below meth c0 A0 ls Q hQ E hr hnm hw hl
  have hx := E.x
  have hb := E.b
  have hl : lv_has ls 2 [(0, .ref (h 1)), (1, .ref (k 1))] := hl
  refine lv_aload_n hx hb dX4_copies_0 rfl (lv_at hl 0 rfl) ?_
  refine x_get E hw kf_X4_10 0 rfl rfl dX4_copies_1 ?_
  refine lv_aload_n hx hb dX4_copies_4 rfl (lv_at hl 1 rfl) ?_
  refine x_get E hw kf_X4_10 7 rfl rfl dX4_copies_5 ?_
  refine x_go (ws' := [(h 1, .inr (4, [.ref (h 2), .ref (h 7)])), (h 2, .inr (5, [.int (nI L2), .ref (h 3), .ref (h 4), .ref (h 5), .ref (h 6)])), (h 3, .inl (g.2.1, 200, .inl ce2)), (h 4, .inl (g.2.1, 200, .inl gr2)), (h 5, .inl (g.2.1, 200, .inl be2)), (h 6, .inl (g.2.1, 7, .inl st2)), (h 7, .inr (6, [.int (nI fr), .int q, .int md, .int lo, .int hi, .int al, .int ov, .int wo])), (k 1, .inr (4, [.ref (k 2), .ref (k 7)])), (k 2, .inr (5, [.int (nI L2), .ref (k 3), .ref (k 4), .ref (k 5), .ref (k 6)])), (k 3, .inl (g.2.1, 200, .inl ce2)), (k 4, .inl (g.2.1, 200, .inl gr2)), (k 5, .inl (g.2.1, 200, .inl be2)), (k 6, .inl (g.2.1, 7, .inl st2)), (k 7, .inr (6, [.int (nI fr2), .int q2, .int md2, .int lo2, .int hi2, .int al2, .int ov2, .int wo2]))]) (st1 := []) E hw [1, 2, 3, 4, 5, 8, 9, 10, 11, 12] rfl (x_runVN (rest := []) E hw (c_X5_copies l g h k L ce gr be st L2 ce2 gr2 be2 st2 ) km_X4_23 kv_X5_copies [1, 2, 3, 4, 5, 8, 9, 10, 11, 12] rfl (by decide) 1 rfl hl.1 rfl rfl (Nat.le_of_ble_eq_true rfl) ⟨Nat.le_of_ble_eq_true rfl, Nat.le_of_ble_eq_true rfl⟩ ⟨Nat.zero_le _, Nat.zero_le _⟩ dX4_copies_8) rfl rfl rfl (fun H locs hw => ?_)
  refine lv_aload_n hx hb dX4_copies_11 rfl (lv_at hl 0 rfl) ?_
  refine x_get E hw kf_X4_19 0 rfl rfl dX4_copies_12 ?_
  refine lv_aload_n hx hb dX4_copies_15 rfl (lv_at hl 1 rfl) ?_
  refine x_get E hw kf_X4_19 7 rfl rfl dX4_copies_16 ?_
  refine x_go (ws' := [(h 1, .inr (4, [.ref (h 2), .ref (h 7)])), (h 2, .inr (5, [.int (nI L2), .ref (h 3), .ref (h 4), .ref (h 5), .ref (h 6)])), (h 3, .inl (g.2.1, 200, .inl ce2)), (h 4, .inl (g.2.1, 200, .inl gr2)), (h 5, .inl (g.2.1, 200, .inl be2)), (h 6, .inl (g.2.1, 7, .inl st2)), (h 7, .inr (6, [.int (nI fr2), .int q2, .int md2, .int lo2, .int hi2, .int al2, .int ov2, .int wo2])), (k 1, .inr (4, [.ref (k 2), .ref (k 7)])), (k 2, .inr (5, [.int (nI L2), .ref (k 3), .ref (k 4), .ref (k 5), .ref (k 6)])), (k 3, .inl (g.2.1, 200, .inl ce2)), (k 4, .inl (g.2.1, 200, .inl gr2)), (k 5, .inl (g.2.1, 200, .inl be2)), (k 6, .inl (g.2.1, 7, .inl st2)), (k 7, .inr (6, [.int (nI fr2), .int q2, .int md2, .int lo2, .int hi2, .int al2, .int ov2, .int wo2]))]) (st1 := []) E hw [6, 13] rfl (x_runVN (rest := []) E hw (c_X6_copies l g h k fr q md lo hi al ov wo fr2 q2 md2 lo2 hi2 al2 ov2 wo2 ) km_X4_27 kv_X6_copies [6, 13] rfl (by decide) 6 rfl hl.1 rfl rfl (Nat.le_of_ble_eq_true rfl) ⟨Nat.le_of_ble_eq_true rfl, Nat.le_of_ble_eq_true rfl⟩ ⟨Nat.zero_le _, Nat.zero_le _⟩ dX4_copies_19) rfl rfl rfl (fun H locs hw => ?_)
  exact xr_v hQ E hr hw dX4_copies_22 ⟨rfl, rfl⟩

set_option maxRecDepth 100000 in
set_option maxHeartbeats 4000000 in
theorem c_X0_leastCeiling (l : Launch) (g : xCfg) (u : Nat) (ce : Nat → Int32) (a : Nat) (z : Nat) (ha : a ≤ z) (hz : z < 200) : Ct l g yX0_leastCeiling cX0_leastCeiling 5 (some .int) (xR 0 0) [.ref u, .int (nI a), .int (nI z)] [(u, .inl (g.2.1, 200, .inl ce))] (is1 (some (.int (nI (lmi ce a (z - a))))) [(u, .inl (g.2.1, 200, .inl ce))]) := by
  refine Ct.walk (by decide) (Nat.le_of_ble_eq_true rfl) ?_
  intro p0 e0 s0 m0 below meth c0 A0 ls Q hQ E hr hnm hw hl
  have hx := E.x
  have hb := E.b
  have hl : lv_has ls 5 [(0, .ref u), (1, .int (nI a)), (2, .int (nI z))] := hl
  refine lv_iload_n hx hb dX0_leastCeiling_0 rfl (lv_at hl 1 rfl) ?_
  refine lv_istore_n (lv' := [(3, .int (nI a)), (0, .ref u), (1, .int (nI a)), (2, .int (nI z))]) hx hb dX0_leastCeiling_1 rfl hl (by decide) rfl (fun ls hl => ?_)
  refine lv_iload_n hx hb dX0_leastCeiling_2 rfl (lv_at hl 2 rfl) ?_
  refine lv_iconst (v := 1) hx hb dX0_leastCeiling_3 (by decide) ?_
  refine xn_add hx hb a 1 rfl rfl dX0_leastCeiling_4 ?_
  refine lv_istore (lv' := [(4, .int (nI (a + 1))), (3, .int (nI a)), (0, .ref u), (1, .int (nI a)), (2, .int (nI z))]) hx hb dX0_leastCeiling_5 hl (by decide) rfl (fun ls hl => ?_)
  have lp_7 : ∀ (fuel : Nat) (d : Nat), z - (a + d) < fuel → a + d ≤ z → ∀ (H : Heap) (locs : List Loc) (ls : Array Slot), xW g A0 s0 [(u, .inl (g.2.1, 200, .inl ce))] H locs → lv_has ls 5 [(4, .int (nI (a + d + 1))), (3, .int (nI (lmi ce a d))), (0, .ref u), (2, .int (nI z))] → W p0 l e0 (xR 0 0) s0 m0 [.ref u, .int (nI a), .int (nI z)].toArray below meth c0 H locs 0 0 Q (F0 m0 7 ls []) := by
    intro fuel
    induction fuel with
    | zero => intro d hm; exact absurd hm (Nat.not_lt_zero _)
    | succ fuel ih =>
      intro d hm h1 H locs ls hw hl
      refine lv_iload hx hb dX0_leastCeiling_7 (lv_at hl 0 rfl) ?_
      refine lv_iload_n hx hb dX0_leastCeiling_9 rfl (lv_at hl 3 rfl) ?_
      refine xn_gt (tgt := 32) hx hb (a + d + 1) z rfl rfl (by omega) (by omega) dX0_leastCeiling_10 (by decide) (fun c_1 => ?_) (fun c_1 => ?_)
      · obtain rfl : d = z - a := by omega
        refine lv_iload_n hx hb dX0_leastCeiling_32 rfl (lv_at hl 1 rfl) ?_
        exact xr_i hQ E hr hw dX0_leastCeiling_33 ⟨rfl, rfl⟩
      · refine lv_aload_n hx hb dX0_leastCeiling_13 rfl (lv_at hl 2 rfl) ?_
        refine lv_iload hx hb dX0_leastCeiling_14 (lv_at hl 0 rfl) ?_
        refine x_ld (v := ce (a + d + 1)) E hw 0 rfl (a + d + 1) rfl (by omega) (by decide) rfl dX0_leastCeiling_16 ?_
        refine lv_aload_n hx hb dX0_leastCeiling_17 rfl (lv_at hl 2 rfl) ?_
        refine lv_iload_n hx hb dX0_leastCeiling_18 rfl (lv_at hl 1 rfl) ?_
        refine x_ld (v := ce (lmi ce a d)) E hw 0 rfl (lmi ce a d) rfl (by have := lmi_le ce a d; omega) (by decide) rfl dX0_leastCeiling_19 ?_
        refine lv_icmp_gt (tgt := 26) hx hb dX0_leastCeiling_20 (by decide) (fun cn => ?_) (fun cn => ?_)
        · refine lv_iinc (v := nI (a + d + 2)) (lv' := [(4, .int (nI (a + d + 2))), (3, .int (nI (lmi ce a d))), (0, .ref u), (2, .int (nI z))]) hx hb dX0_leastCeiling_26 hl (k := 0) rfl (nI_1 _) (by decide) rfl (fun ls hl => ?_)
          refine lv_goto (tgt := 7) hx hb dX0_leastCeiling_29 (by decide) ?_
          have hl : lv_has ls 5 [(4, .int (nI (a + d + 2))), (3, .int (nI (lmi ce a d))), (0, .ref u), (2, .int (nI z))] := lv_sub hl [0, 1, 2, 3] rfl
          have hl : lv_has ls 5 [(4, .int (nI (a + (d + 1) + 1))), (3, .int (nI (lmi ce a (d + 1)))), (0, .ref u), (2, .int (nI z))] := lv_re hl (by rw [show (nI (a + d + 2) : Int32) = nI (a + (d + 1) + 1) from congrArg nI (by omega), show (nI (lmi ce a d) : Int32) = nI (lmi ce a (d + 1)) from congrArg nI ((lmi_no cn).symm)])
          have hw : xW g A0 s0 [(u, .inl (g.2.1, 200, .inl ce))] _ _ := hw
          exact ih (d + 1) (by omega) (by omega) _ _ _ hw hl
        · refine lv_iload hx hb dX0_leastCeiling_23 (lv_at hl 0 rfl) ?_
          refine lv_istore_n (lv' := [(3, .int (nI (a + d + 1))), (4, .int (nI (a + d + 1))), (0, .ref u), (2, .int (nI z))]) hx hb dX0_leastCeiling_25 rfl hl (by decide) rfl (fun ls hl => ?_)
          refine lv_iinc (v := nI (a + d + 2)) (lv' := [(4, .int (nI (a + d + 2))), (3, .int (nI (a + d + 1))), (0, .ref u), (2, .int (nI z))]) hx hb dX0_leastCeiling_26 hl (k := 1) rfl (nI_1 _) (by decide) rfl (fun ls hl => ?_)
          refine lv_goto (tgt := 7) hx hb dX0_leastCeiling_29 (by decide) ?_
          have hl : lv_has ls 5 [(4, .int (nI (a + d + 2))), (3, .int (nI (a + d + 1))), (0, .ref u), (2, .int (nI z))] := lv_sub hl [0, 1, 2, 3] rfl
          have hl : lv_has ls 5 [(4, .int (nI (a + (d + 1) + 1))), (3, .int (nI (lmi ce a (d + 1)))), (0, .ref u), (2, .int (nI z))] := lv_re hl (by rw [show (nI (a + d + 2) : Int32) = nI (a + (d + 1) + 1) from congrArg nI (by omega), show (nI (a + d + 1) : Int32) = nI (lmi ce a (d + 1)) from congrArg nI ((lmi_yes cn).symm)])
          have hw : xW g A0 s0 [(u, .inl (g.2.1, 200, .inl ce))] _ _ := hw
          exact ih (d + 1) (by omega) (by omega) _ _ _ hw hl
  have hl : lv_has ls 5 [(4, .int (nI (a + 1))), (3, .int (nI a)), (0, .ref u), (2, .int (nI z))] := lv_sub hl [0, 1, 2, 4] rfl
  have hl : lv_has ls 5 [(4, .int (nI (a + 0 + 1))), (3, .int (nI (lmi ce a 0))), (0, .ref u), (2, .int (nI z))] := lv_re hl (by rw [show (nI a : Int32) = nI (lmi ce a 0) from congrArg nI rfl, show (nI (a + 1) : Int32) = nI (a + 0 + 1) from congrArg nI rfl])
  have hw : xW g A0 s0 [(u, .inl (g.2.1, 200, .inl ce))] _ _ := hw
  exact lp_7 ((z - (a + 0)) + 1) 0 (Nat.lt_succ_self _) (by omega) _ _ _ hw hl

set_option maxRecDepth 100000 in
set_option maxHeartbeats 4000000 in
theorem c_X0_drawsCeilings (l : Launch) (g : xCfg) (h : Nat → Nat) (fo : Nat → Int32) (L : Nat) (ce : Nat → Int32) (st : Nat → Int32) (len : Nat) (hL : L ≤ 200) (hlen : st 2 = nI len) (hl1 : 1 ≤ len) (hl2 : len ≤ 30) : Ct l g yX0_drawsCeilings cX0_drawsCeilings 5 none (xR 1 24) [.ref (h 8), .ref (h 2)] [(h 8, .inr (0, [.ref (h 9), .ref (h 10)])), (h 9, .inl (g.2.1, 200, .inl fo)), (h 2, .inr (5, [.int (nI L), .ref (h 3), .ref (h 4), .ref (h 5), .ref (h 6)])), (h 3, .inl (g.2.1, 200, .inl ce)), (h 6, .inl (g.2.1, 7, .inl st))] (is1 none [(h 8, .inr (0, [.ref (h 9), .ref (h 10)])), (h 9, .inl (g.2.1, 200, .inl (dcF ce len L fo))), (h 2, .inr (5, [.int (nI L), .ref (h 3), .ref (h 4), .ref (h 5), .ref (h 6)])), (h 3, .inl (g.2.1, 200, .inl ce)), (h 6, .inl (g.2.1, 7, .inl st))]) := by
  refine Ct.walk (by decide) (Nat.le_of_ble_eq_true rfl) ?_
  intro p0 e0 s0 m0 below meth c0 A0 ls Q hQ E hr hnm hw hl
  have hx := E.x
  have hb := E.b
  have hl : lv_has ls 5 [(0, .ref (h 8)), (1, .ref (h 2))] := hl
  refine lv_iconst (v := 0) hx hb dX0_drawsCeilings_0 (by decide) ?_
  refine lv_istore_n (lv' := [(2, .int 0), (0, .ref (h 8)), (1, .ref (h 2))]) hx hb dX0_drawsCeilings_1 rfl hl (by decide) rfl (fun ls hl => ?_)
  refine lv_iconst (v := 0) hx hb dX0_drawsCeilings_2 (by decide) ?_
  refine lv_istore_n (lv' := [(3, .int 0), (2, .int 0), (0, .ref (h 8)), (1, .ref (h 2))]) hx hb dX0_drawsCeilings_3 rfl hl (by decide) rfl (fun ls hl => ?_)
  have lp_4 : ∀ (fuel : Nat) (x : Nat), L - x < fuel → x ≤ L → ∀ (H : Heap) (locs : List Loc) (ls : Array Slot), xW g A0 s0 [(h 8, .inr (0, [.ref (h 9), .ref (h 10)])), (h 9, .inl (g.2.1, 200, .inl (dcF ce len x fo))), (h 2, .inr (5, [.int (nI L), .ref (h 3), .ref (h 4), .ref (h 5), .ref (h 6)])), (h 3, .inl (g.2.1, 200, .inl ce)), (h 6, .inl (g.2.1, 7, .inl st))] H locs → lv_has ls 5 [(3, .int (nI x)), (2, .int (nI (dcI ce len x))), (0, .ref (h 8)), (1, .ref (h 2))] → W p0 l e0 (xR 1 24) s0 m0 [.ref (h 8), .ref (h 2)].toArray below meth c0 H locs 0 0 Q (F0 m0 4 ls []) := by
    intro fuel
    induction fuel with
    | zero => intro x hm; exact absurd hm (Nat.not_lt_zero _)
    | succ fuel ih =>
      intro x hm h1 H locs ls hw hl
      refine lv_iload_n hx hb dX0_drawsCeilings_4 rfl (lv_at hl 0 rfl) ?_
      refine lv_aload_n hx hb dX0_drawsCeilings_5 rfl (lv_at hl 3 rfl) ?_
      refine x_getN E hw kf_X0_24 2 rfl rfl dX0_drawsCeilings_6 ?_
      refine xn_ge (tgt := 83) hx hb x L rfl rfl (by omega) (by omega) dX0_drawsCeilings_9 (by decide) (fun c_1 => ?_) (fun c_1 => ?_)
      · obtain rfl : x = L := by omega
        exact xr_v hQ E hr hw dX0_drawsCeilings_83 ⟨rfl, rfl⟩
      · refine lv_iconst (v := 0) hx hb dX0_drawsCeilings_12 (by decide) ?_
        refine lv_iload_n hx hb dX0_drawsCeilings_13 rfl (lv_at hl 0 rfl) ?_
        refine lv_aload_n hx hb dX0_drawsCeilings_14 rfl (lv_at hl 3 rfl) ?_
        refine x_getN E hw kf_X0_38 2 rfl rfl dX0_drawsCeilings_15 ?_
        refine lv_iconst (v := 2) hx hb dX0_drawsCeilings_18 (by decide) ?_
        refine x_ld (v := nI len) E hw 4 rfl 2 rfl (by omega) (by decide) hlen dX0_drawsCeilings_19 ?_
        refine lv_isub hx hb dX0_drawsCeilings_20 ?_
        refine lv_iconst (v := 1) hx hb dX0_drawsCeilings_21 (by decide) ?_
        refine lv_iadd hx hb dX0_drawsCeilings_22 ?_
        refine x_max E km_X0_41 hl.1 (Nat.le_of_ble_eq_true rfl) (Nat.le_of_ble_eq_true rfl) ⟨Nat.zero_le _, Nat.zero_le _⟩ dX0_drawsCeilings_23 ?_
        refine x_top (v' := .int (nI (x + 1 - len))) (congrArg Value.int (tailN (by omega) (by omega))) ?_
        refine lv_istore (lv' := [(4, .int (nI (x + 1 - len))), (3, .int (nI x)), (2, .int (nI (dcI ce len x))), (0, .ref (h 8)), (1, .ref (h 2))]) hx hb dX0_drawsCeilings_26 hl (by decide) rfl (fun ls hl => ?_)
        refine lv_iload_n hx hb dX0_drawsCeilings_28 rfl (lv_at hl 2 rfl) ?_
        refine lv_iload hx hb dX0_drawsCeilings_29 (lv_at hl 0 rfl) ?_
        refine xn_ge (tgt := 48) hx hb (dcI ce len x) (x + 1 - len) rfl rfl (by have := dcI_le (ce := ce) hl1 x; omega) (by omega) dX0_drawsCeilings_31 (by decide) (fun ct => ?_) (fun ct => ?_)
        · refine lv_aload_n hx hb dX0_drawsCeilings_48 rfl (lv_at hl 4 rfl) ?_
          refine x_getN E hw kf_X0_44 2 rfl rfl dX0_drawsCeilings_49 ?_
          refine lv_iload_n hx hb dX0_drawsCeilings_52 rfl (lv_at hl 1 rfl) ?_
          refine x_ld (v := ce x) E hw 3 rfl x rfl (by omega) (by decide) rfl dX0_drawsCeilings_53 ?_
          refine lv_aload_n hx hb dX0_drawsCeilings_54 rfl (lv_at hl 4 rfl) ?_
          refine x_getN E hw kf_X0_44 2 rfl rfl dX0_drawsCeilings_55 ?_
          refine lv_iload_n hx hb dX0_drawsCeilings_58 rfl (lv_at hl 2 rfl) ?_
          refine x_ld (v := ce (dcI ce len x)) E hw 3 rfl (dcI ce len x) rfl (by have := dcI_le (ce := ce) hl1 x; omega) (by decide) rfl dX0_drawsCeilings_59 ?_
          refine lv_icmp_gt (tgt := 65) hx hb dX0_drawsCeilings_60 (by decide) (fun cn => ?_) (fun cn => ?_)
          · refine lv_aload_n hx hb dX0_drawsCeilings_65 rfl (lv_at hl 3 rfl) ?_
            refine x_get E hw kf_X0_11 0 rfl rfl dX0_drawsCeilings_66 ?_
            refine lv_iload_n hx hb dX0_drawsCeilings_69 rfl (lv_at hl 1 rfl) ?_
            refine lv_aload_n hx hb dX0_drawsCeilings_70 rfl (lv_at hl 4 rfl) ?_
            refine x_getN E hw kf_X0_44 2 rfl rfl dX0_drawsCeilings_71 ?_
            refine lv_iload_n hx hb dX0_drawsCeilings_74 rfl (lv_at hl 2 rfl) ?_
            refine x_ld (v := ce (dcI ce len x)) E hw 3 rfl (dcI ce len x) rfl (by have := dcI_le (ce := ce) hl1 x; have := lmi_le ce (x + 1 - len) (x - (x + 1 - len)); omega) (by decide) rfl dX0_drawsCeilings_75 ?_
            refine x_ist E hw 1 rfl x rfl (by omega) (by decide) (ws' := [(h 8, .inr (0, [.ref (h 9), .ref (h 10)])), (h 9, .inl (g.2.1, 200, .inl (upd (dcF ce len x fo) x (ce (dcI ce len x))))), (h 2, .inr (5, [.int (nI L), .ref (h 3), .ref (h 4), .ref (h 5), .ref (h 6)])), (h 3, .inl (g.2.1, 200, .inl ce)), (h 6, .inl (g.2.1, 7, .inl st))]) rfl dX0_drawsCeilings_76 (fun H locs hw => ?_)
            refine lv_iinc (v := nI (x + 1)) (lv' := [(3, .int (nI (x + 1))), (4, .int (nI (x + 1 - len))), (2, .int (nI (dcI ce len x))), (0, .ref (h 8)), (1, .ref (h 2))]) hx hb dX0_drawsCeilings_77 hl (k := 1) rfl (nI_1 _) (by decide) rfl (fun ls hl => ?_)
            refine lv_goto (tgt := 4) hx hb dX0_drawsCeilings_80 (by decide) ?_
            have hw := hw.arr (f' := (dcF ce len (x + 1) fo)) (ws' := [(h 8, .inr (0, [.ref (h 9), .ref (h 10)])), (h 9, .inl (g.2.1, 200, .inl (dcF ce len (x + 1) fo))), (h 2, .inr (5, [.int (nI L), .ref (h 3), .ref (h 4), .ref (h 5), .ref (h 6)])), (h 3, .inl (g.2.1, 200, .inl ce)), (h 6, .inl (g.2.1, 7, .inl st))]) 1 rfl (fun j _ => dcF_st ce len x fo _ (dcI_b ct cn) j) rfl
            have hl : lv_has ls 5 [(3, .int (nI (x + 1))), (2, .int (nI (dcI ce len x))), (0, .ref (h 8)), (1, .ref (h 2))] := lv_sub hl [0, 2, 3, 4] rfl
            have hl : lv_has ls 5 [(3, .int (nI (x + 1))), (2, .int (nI (dcI ce len (x + 1)))), (0, .ref (h 8)), (1, .ref (h 2))] := lv_re hl (by rw [show (nI (dcI ce len x) : Int32) = nI (dcI ce len (x + 1)) from congrArg nI ((dcI_b ct cn).symm)])
            have hw : xW g A0 s0 [(h 8, .inr (0, [.ref (h 9), .ref (h 10)])), (h 9, .inl (g.2.1, 200, .inl (dcF ce len (x + 1) fo))), (h 2, .inr (5, [.int (nI L), .ref (h 3), .ref (h 4), .ref (h 5), .ref (h 6)])), (h 3, .inl (g.2.1, 200, .inl ce)), (h 6, .inl (g.2.1, 7, .inl st))] _ _ := hw
            exact ih (x + 1) (by omega) (by omega) _ _ _ hw hl
          · refine lv_iload_n hx hb dX0_drawsCeilings_63 rfl (lv_at hl 1 rfl) ?_
            refine lv_istore_n (lv' := [(2, .int (nI x)), (4, .int (nI (x + 1 - len))), (3, .int (nI x)), (0, .ref (h 8)), (1, .ref (h 2))]) hx hb dX0_drawsCeilings_64 rfl hl (by decide) rfl (fun ls hl => ?_)
            refine lv_aload_n hx hb dX0_drawsCeilings_65 rfl (lv_at hl 3 rfl) ?_
            refine x_get E hw kf_X0_11 0 rfl rfl dX0_drawsCeilings_66 ?_
            refine lv_iload_n hx hb dX0_drawsCeilings_69 rfl (lv_at hl 2 rfl) ?_
            refine lv_aload_n hx hb dX0_drawsCeilings_70 rfl (lv_at hl 4 rfl) ?_
            refine x_getN E hw kf_X0_44 2 rfl rfl dX0_drawsCeilings_71 ?_
            refine lv_iload_n hx hb dX0_drawsCeilings_74 rfl (lv_at hl 0 rfl) ?_
            refine x_ld (v := ce x) E hw 3 rfl x rfl (by have := dcI_le (ce := ce) hl1 x; have := lmi_le ce (x + 1 - len) (x - (x + 1 - len)); omega) (by decide) rfl dX0_drawsCeilings_75 ?_
            refine x_ist E hw 1 rfl x rfl (by omega) (by decide) (ws' := [(h 8, .inr (0, [.ref (h 9), .ref (h 10)])), (h 9, .inl (g.2.1, 200, .inl (upd (dcF ce len x fo) x (ce x)))), (h 2, .inr (5, [.int (nI L), .ref (h 3), .ref (h 4), .ref (h 5), .ref (h 6)])), (h 3, .inl (g.2.1, 200, .inl ce)), (h 6, .inl (g.2.1, 7, .inl st))]) rfl dX0_drawsCeilings_76 (fun H locs hw => ?_)
            refine lv_iinc (v := nI (x + 1)) (lv' := [(3, .int (nI (x + 1))), (2, .int (nI x)), (4, .int (nI (x + 1 - len))), (0, .ref (h 8)), (1, .ref (h 2))]) hx hb dX0_drawsCeilings_77 hl (k := 2) rfl (nI_1 _) (by decide) rfl (fun ls hl => ?_)
            refine lv_goto (tgt := 4) hx hb dX0_drawsCeilings_80 (by decide) ?_
            have hw := hw.arr (f' := (dcF ce len (x + 1) fo)) (ws' := [(h 8, .inr (0, [.ref (h 9), .ref (h 10)])), (h 9, .inl (g.2.1, 200, .inl (dcF ce len (x + 1) fo))), (h 2, .inr (5, [.int (nI L), .ref (h 3), .ref (h 4), .ref (h 5), .ref (h 6)])), (h 3, .inl (g.2.1, 200, .inl ce)), (h 6, .inl (g.2.1, 7, .inl st))]) 1 rfl (fun j _ => dcF_st ce len x fo _ (dcI_c ct cn) j) rfl
            have hl : lv_has ls 5 [(3, .int (nI (x + 1))), (2, .int (nI x)), (0, .ref (h 8)), (1, .ref (h 2))] := lv_sub hl [0, 1, 3, 4] rfl
            have hl : lv_has ls 5 [(3, .int (nI (x + 1))), (2, .int (nI (dcI ce len (x + 1)))), (0, .ref (h 8)), (1, .ref (h 2))] := lv_re hl (by rw [show (nI x : Int32) = nI (dcI ce len (x + 1)) from congrArg nI ((dcI_c ct cn).symm)])
            have hw : xW g A0 s0 [(h 8, .inr (0, [.ref (h 9), .ref (h 10)])), (h 9, .inl (g.2.1, 200, .inl (dcF ce len (x + 1) fo))), (h 2, .inr (5, [.int (nI L), .ref (h 3), .ref (h 4), .ref (h 5), .ref (h 6)])), (h 3, .inl (g.2.1, 200, .inl ce)), (h 6, .inl (g.2.1, 7, .inl st))] _ _ := hw
            exact ih (x + 1) (by omega) (by omega) _ _ _ hw hl
        · refine lv_aload_n hx hb dX0_drawsCeilings_34 rfl (lv_at hl 4 rfl) ?_
          refine x_getN E hw kf_X0_44 2 rfl rfl dX0_drawsCeilings_35 ?_
          refine lv_iload hx hb dX0_drawsCeilings_38 (lv_at hl 0 rfl) ?_
          refine lv_iload_n hx hb dX0_drawsCeilings_40 rfl (lv_at hl 1 rfl) ?_
          refine x_go (ws' := [(h 8, .inr (0, [.ref (h 9), .ref (h 10)])), (h 9, .inl (g.2.1, 200, .inl (dcF ce len x fo))), (h 2, .inr (5, [.int (nI L), .ref (h 3), .ref (h 4), .ref (h 5), .ref (h 6)])), (h 3, .inl (g.2.1, 200, .inl ce)), (h 6, .inl (g.2.1, 7, .inl st))]) (st1 := [.int (nI (lmi ce (x + 1 - len) (x - (x + 1 - len))))]) E hw [3] rfl (x_runS (rest := []) E hw (c_X0_leastCeiling l g (h 3) ce (x + 1 - len) x (by omega) (by omega)) km_X0_47 ks_X0_leastCeiling [3] rfl (by decide) hl.1 rfl rfl (Nat.le_of_ble_eq_true rfl) ⟨Nat.le_of_ble_eq_true rfl, Nat.le_of_ble_eq_true rfl⟩ ⟨Nat.zero_le _, Nat.zero_le _⟩ dX0_drawsCeilings_41) rfl rfl rfl (fun H locs hw => ?_)
          refine lv_istore_n (lv' := [(2, .int (nI (lmi ce (x + 1 - len) (x - (x + 1 - len))))), (4, .int (nI (x + 1 - len))), (3, .int (nI x)), (0, .ref (h 8)), (1, .ref (h 2))]) hx hb dX0_drawsCeilings_44 rfl hl (by decide) rfl (fun ls hl => ?_)
          refine lv_goto (tgt := 65) hx hb dX0_drawsCeilings_45 (by decide) ?_
          refine lv_aload_n hx hb dX0_drawsCeilings_65 rfl (lv_at hl 3 rfl) ?_
          refine x_get E hw kf_X0_11 0 rfl rfl dX0_drawsCeilings_66 ?_
          refine lv_iload_n hx hb dX0_drawsCeilings_69 rfl (lv_at hl 2 rfl) ?_
          refine lv_aload_n hx hb dX0_drawsCeilings_70 rfl (lv_at hl 4 rfl) ?_
          refine x_getN E hw kf_X0_44 2 rfl rfl dX0_drawsCeilings_71 ?_
          refine lv_iload_n hx hb dX0_drawsCeilings_74 rfl (lv_at hl 0 rfl) ?_
          refine x_ld (v := ce (lmi ce (x + 1 - len) (x - (x + 1 - len)))) E hw 3 rfl (lmi ce (x + 1 - len) (x - (x + 1 - len))) rfl (by have := dcI_le (ce := ce) hl1 x; have := lmi_le ce (x + 1 - len) (x - (x + 1 - len)); omega) (by decide) rfl dX0_drawsCeilings_75 ?_
          refine x_ist E hw 1 rfl x rfl (by omega) (by decide) (ws' := [(h 8, .inr (0, [.ref (h 9), .ref (h 10)])), (h 9, .inl (g.2.1, 200, .inl (upd (dcF ce len x fo) x (ce (lmi ce (x + 1 - len) (x - (x + 1 - len))))))), (h 2, .inr (5, [.int (nI L), .ref (h 3), .ref (h 4), .ref (h 5), .ref (h 6)])), (h 3, .inl (g.2.1, 200, .inl ce)), (h 6, .inl (g.2.1, 7, .inl st))]) rfl dX0_drawsCeilings_76 (fun H locs hw => ?_)
          refine lv_iinc (v := nI (x + 1)) (lv' := [(3, .int (nI (x + 1))), (2, .int (nI (lmi ce (x + 1 - len) (x - (x + 1 - len))))), (4, .int (nI (x + 1 - len))), (0, .ref (h 8)), (1, .ref (h 2))]) hx hb dX0_drawsCeilings_77 hl (k := 2) rfl (nI_1 _) (by decide) rfl (fun ls hl => ?_)
          refine lv_goto (tgt := 4) hx hb dX0_drawsCeilings_80 (by decide) ?_
          have hw := hw.arr (f' := (dcF ce len (x + 1) fo)) (ws' := [(h 8, .inr (0, [.ref (h 9), .ref (h 10)])), (h 9, .inl (g.2.1, 200, .inl (dcF ce len (x + 1) fo))), (h 2, .inr (5, [.int (nI L), .ref (h 3), .ref (h 4), .ref (h 5), .ref (h 6)])), (h 3, .inl (g.2.1, 200, .inl ce)), (h 6, .inl (g.2.1, 7, .inl st))]) 1 rfl (fun j _ => dcF_st ce len x fo _ (dcI_a ct) j) rfl
          have hl : lv_has ls 5 [(3, .int (nI (x + 1))), (2, .int (nI (lmi ce (x + 1 - len) (x - (x + 1 - len))))), (0, .ref (h 8)), (1, .ref (h 2))] := lv_sub hl [0, 1, 3, 4] rfl
          have hl : lv_has ls 5 [(3, .int (nI (x + 1))), (2, .int (nI (dcI ce len (x + 1)))), (0, .ref (h 8)), (1, .ref (h 2))] := lv_re hl (by rw [show (nI (lmi ce (x + 1 - len) (x - (x + 1 - len))) : Int32) = nI (dcI ce len (x + 1)) from congrArg nI ((dcI_a ct).symm)])
          have hw : xW g A0 s0 [(h 8, .inr (0, [.ref (h 9), .ref (h 10)])), (h 9, .inl (g.2.1, 200, .inl (dcF ce len (x + 1) fo))), (h 2, .inr (5, [.int (nI L), .ref (h 3), .ref (h 4), .ref (h 5), .ref (h 6)])), (h 3, .inl (g.2.1, 200, .inl ce)), (h 6, .inl (g.2.1, 7, .inl st))] _ _ := hw
          exact ih (x + 1) (by omega) (by omega) _ _ _ hw hl
  have hw := hw.arr (f' := (dcF ce len 0 fo)) (ws' := [(h 8, .inr (0, [.ref (h 9), .ref (h 10)])), (h 9, .inl (g.2.1, 200, .inl (dcF ce len 0 fo))), (h 2, .inr (5, [.int (nI L), .ref (h 3), .ref (h 4), .ref (h 5), .ref (h 6)])), (h 3, .inl (g.2.1, 200, .inl ce)), (h 6, .inl (g.2.1, 7, .inl st))]) 1 rfl (fun j _ => (dcF_nil ce len fo j).symm) rfl
  have hl : lv_has ls 5 [(3, .int 0), (2, .int 0), (0, .ref (h 8)), (1, .ref (h 2))] := lv_sub hl [0, 1, 2, 3] rfl
  have hl : lv_has ls 5 [(3, .int 0), (2, .int (nI (dcI ce len 0))), (0, .ref (h 8)), (1, .ref (h 2))] := lv_re hl (by rw [show (0 : Int32) = nI (dcI ce len 0) from congrArg nI rfl])
  have hw : xW g A0 s0 [(h 8, .inr (0, [.ref (h 9), .ref (h 10)])), (h 9, .inl (g.2.1, 200, .inl (dcF ce len 0 fo))), (h 2, .inr (5, [.int (nI L), .ref (h 3), .ref (h 4), .ref (h 5), .ref (h 6)])), (h 3, .inl (g.2.1, 200, .inl ce)), (h 6, .inl (g.2.1, 7, .inl st))] _ _ := hw
  exact lp_4 ((L - 0) + 1) 0 (Nat.lt_succ_self _) (by omega) _ _ _ hw hl

set_option maxRecDepth 100000 in
set_option maxHeartbeats 4000000 in
theorem c_X0_draws (l : Launch) (g : xCfg) (h : Nat → Nat) (fo : Nat → Int32) (sq : Nat → Int32) (L : Nat) (ce : Nat → Int32) (gr : Nat → Int32) (st : Nat → Int32) (len : Nat) (hL : L ≤ 200) (hlen : st 2 = nI len) (hl1 : 1 ≤ len) (hl2 : len ≤ 30) : Ct l g yX0_draws cX0_draws 4 none (xR 2 48) [.ref (h 8), .ref (h 2)] [(h 8, .inr (0, [.ref (h 9), .ref (h 10)])), (h 9, .inl (g.2.1, 200, .inl fo)), (h 10, .inl (g.2.1, 200, .inl sq)), (h 2, .inr (5, [.int (nI L), .ref (h 3), .ref (h 4), .ref (h 5), .ref (h 6)])), (h 3, .inl (g.2.1, 200, .inl ce)), (h 4, .inl (g.2.1, 200, .inl gr)), (h 6, .inl (g.2.1, 7, .inl st))] (is1 none [(h 8, .inr (0, [.ref (h 9), .ref (h 10)])), (h 9, .inl (g.2.1, 200, .inl (dcF ce len L fo))), (h 10, .inl (g.2.1, 200, .inl (lwS (dcF ce len L fo) gr (st 0) L 0 sq))), (h 2, .inr (5, [.int (nI L), .ref (h 3), .ref (h 4), .ref (h 5), .ref (h 6)])), (h 3, .inl (g.2.1, 200, .inl ce)), (h 4, .inl (g.2.1, 200, .inl gr)), (h 6, .inl (g.2.1, 7, .inl st))]) := by
  refine Ct.walk (by decide) (Nat.le_of_ble_eq_true rfl) ?_
  intro p0 e0 s0 m0 below meth c0 A0 ls Q hQ E hr hnm hw hl
  have hx := E.x
  have hb := E.b
  have hl : lv_has ls 4 [(0, .ref (h 8)), (1, .ref (h 2))] := hl
  refine lv_aload_n hx hb dX0_draws_0 rfl (lv_at hl 0 rfl) ?_
  refine lv_aload_n hx hb dX0_draws_1 rfl (lv_at hl 1 rfl) ?_
  refine x_go (ws' := [(h 8, .inr (0, [.ref (h 9), .ref (h 10)])), (h 9, .inl (g.2.1, 200, .inl (dcF ce len L fo))), (h 10, .inl (g.2.1, 200, .inl sq)), (h 2, .inr (5, [.int (nI L), .ref (h 3), .ref (h 4), .ref (h 5), .ref (h 6)])), (h 3, .inl (g.2.1, 200, .inl ce)), (h 4, .inl (g.2.1, 200, .inl gr)), (h 6, .inl (g.2.1, 7, .inl st))]) (st1 := []) E hw [0, 1, 3, 4, 6] rfl (x_runV (rest := []) E hw (c_X0_drawsCeilings l g h fo L ce st len (by omega) hlen (by omega) (by omega)) km_X0_20 kv_X0_drawsCeilings [0, 1, 3, 4, 6] rfl (by decide) 0 rfl hl.1 rfl rfl (Nat.le_of_ble_eq_true rfl) ⟨Nat.le_of_ble_eq_true rfl, Nat.le_of_ble_eq_true rfl⟩ ⟨Nat.zero_le _, Nat.zero_le _⟩ dX0_draws_2) rfl rfl rfl (fun H locs hw => ?_)
  refine lv_iconst (v := 0) hx hb dX0_draws_5 (by decide) ?_
  refine lv_istore_n (lv' := [(2, .int 0), (0, .ref (h 8)), (1, .ref (h 2))]) hx hb dX0_draws_6 rfl hl (by decide) rfl (fun ls hl => ?_)
  refine lv_aload_n hx hb dX0_draws_7 rfl (lv_at hl 2 rfl) ?_
  refine x_getN E hw kf_X0_24 3 rfl rfl dX0_draws_8 ?_
  refine lv_iconst (v := 1) hx hb dX0_draws_11 (by decide) ?_
  refine lv_isub hx hb dX0_draws_12 ?_
  refine lv_istore_n (lv' := [(3, .int (nI L - 1)), (2, .int 0), (0, .ref (h 8)), (1, .ref (h 2))]) hx hb dX0_draws_13 rfl hl (by decide) rfl (fun ls hl => ?_)
  have lp_14 : ∀ (fuel : Nat) (k : Nat), k < fuel → k ≤ L → ∀ (H : Heap) (locs : List Loc) (ls : Array Slot), xW g A0 s0 [(h 8, .inr (0, [.ref (h 9), .ref (h 10)])), (h 9, .inl (g.2.1, 200, .inl (dcF ce len L fo))), (h 10, .inl (g.2.1, 200, .inl (lwS (dcF ce len L fo) gr (st 0) L k sq))), (h 2, .inr (5, [.int (nI L), .ref (h 3), .ref (h 4), .ref (h 5), .ref (h 6)])), (h 3, .inl (g.2.1, 200, .inl ce)), (h 4, .inl (g.2.1, 200, .inl gr)), (h 6, .inl (g.2.1, 7, .inl st))] H locs → lv_has ls 4 [(3, .int (nI k - 1)), (2, .int (lwD (dcF ce len L fo) gr (st 0) L (L - k))), (0, .ref (h 8)), (1, .ref (h 2))] → W p0 l e0 (xR 2 48) s0 m0 [.ref (h 8), .ref (h 2)].toArray below meth c0 H locs 0 0 Q (F0 m0 14 ls []) := by
    intro fuel
    induction fuel with
    | zero => intro k hm; exact absurd hm (Nat.not_lt_zero _)
    | succ fuel ih =>
      intro k hm h1 H locs ls hw hl
      refine lv_iload_n hx hb dX0_draws_14 rfl (lv_at hl 0 rfl) ?_
      refine xp_lt (tgt := 55) hx hb k (by omega) dX0_draws_15 (by decide) (fun c_1 => ?_) (fun c_1 => ?_)
      · obtain rfl : k = 0 := by omega
        exact xr_v hQ E hr hw dX0_draws_55 ⟨rfl, rfl⟩
      · obtain ⟨j, rfl⟩ : ∃ j, k = j + 1 := ⟨k - 1, by omega⟩
        have hl : lv_has ls 4 [(3, .int (nI j)), (2, .int (lwD (dcF ce len L fo) gr (st 0) L (L - (j + 1)))), (0, .ref (h 8)), (1, .ref (h 2))] := lv_re hl (by rw [show (nI (j + 1) - 1 : Int32) = nI j from nI_pred j])
        refine lv_aload_n hx hb dX0_draws_18 rfl (lv_at hl 2 rfl) ?_
        refine x_get E hw kf_X0_11 0 rfl rfl dX0_draws_19 ?_
        refine lv_iload_n hx hb dX0_draws_22 rfl (lv_at hl 0 rfl) ?_
        refine x_ld (v := (dcF ce len L fo) j) E hw 1 rfl j rfl (by omega) (by decide) rfl dX0_draws_23 ?_
        refine lv_aload_n hx hb dX0_draws_24 rfl (lv_at hl 2 rfl) ?_
        refine x_get E hw kf_X0_11 0 rfl rfl dX0_draws_25 ?_
        refine lv_iload_n hx hb dX0_draws_28 rfl (lv_at hl 0 rfl) ?_
        refine x_ld (v := (dcF ce len L fo) j) E hw 1 rfl j rfl (by omega) (by decide) rfl dX0_draws_29 ?_
        refine lv_imul hx hb dX0_draws_30 ?_
        refine lv_iload_n hx hb dX0_draws_31 rfl (lv_at hl 1 rfl) ?_
        refine lv_aload_n hx hb dX0_draws_32 rfl (lv_at hl 3 rfl) ?_
        refine lv_iload_n hx hb dX0_draws_33 rfl (lv_at hl 0 rfl) ?_
        refine x_go (ws' := [(h 8, .inr (0, [.ref (h 9), .ref (h 10)])), (h 9, .inl (g.2.1, 200, .inl (dcF ce len L fo))), (h 10, .inl (g.2.1, 200, .inl (lwS (dcF ce len L fo) gr (st 0) L (j + 1) sq))), (h 2, .inr (5, [.int (nI L), .ref (h 3), .ref (h 4), .ref (h 5), .ref (h 6)])), (h 3, .inl (g.2.1, 200, .inl ce)), (h 4, .inl (g.2.1, 200, .inl gr)), (h 6, .inl (g.2.1, 7, .inl st))]) (st1 := [.int (dcl (st 0) (gr j)), .int (lwD (dcF ce len L fo) gr (st 0) L (L - (j + 1))), .int ((dcF ce len L fo) j * (dcF ce len L fo) j)]) E hw [3, 5, 6] rfl (x_runVN (rest := [.int (lwD (dcF ce len L fo) gr (st 0) L (L - (j + 1))), .int ((dcF ce len L fo) j * (dcF ce len L fo) j)]) E hw (c_X5_decel l g h L gr st j (by omega)) km_X0_28 kv_X5_decel [3, 5, 6] rfl (by decide) 3 rfl hl.1 rfl rfl (Nat.le_of_ble_eq_true rfl) ⟨Nat.le_of_ble_eq_true rfl, Nat.le_of_ble_eq_true rfl⟩ ⟨Nat.zero_le _, Nat.zero_le _⟩ dX0_draws_34) rfl rfl rfl (fun H locs hw => ?_)
        refine lv_iadd hx hb dX0_draws_37 ?_
        refine x_min E km_X0_32 hl.1 (Nat.le_of_ble_eq_true rfl) (Nat.le_of_ble_eq_true rfl) ⟨Nat.zero_le _, Nat.zero_le _⟩ dX0_draws_38 ?_
        refine x_top (v' := .int (lwD (dcF ce len L fo) gr (st 0) L (L - j))) (congrArg Value.int (lwD_st (dcF ce len L fo) gr (st 0) L j (by omega)).symm) ?_
        refine lv_istore_n (lv' := [(2, .int (lwD (dcF ce len L fo) gr (st 0) L (L - j))), (3, .int (nI j)), (0, .ref (h 8)), (1, .ref (h 2))]) hx hb dX0_draws_41 rfl hl (by decide) rfl (fun ls hl => ?_)
        refine lv_aload_n hx hb dX0_draws_42 rfl (lv_at hl 2 rfl) ?_
        refine x_get E hw kf_X0_17 0 rfl rfl dX0_draws_43 ?_
        refine lv_iload_n hx hb dX0_draws_46 rfl (lv_at hl 1 rfl) ?_
        refine lv_iload_n hx hb dX0_draws_47 rfl (lv_at hl 0 rfl) ?_
        refine x_ist E hw 2 rfl j rfl (by omega) (by decide) (ws' := [(h 8, .inr (0, [.ref (h 9), .ref (h 10)])), (h 9, .inl (g.2.1, 200, .inl (dcF ce len L fo))), (h 10, .inl (g.2.1, 200, .inl (upd (lwS (dcF ce len L fo) gr (st 0) L (j + 1) sq) j (lwD (dcF ce len L fo) gr (st 0) L (L - j))))), (h 2, .inr (5, [.int (nI L), .ref (h 3), .ref (h 4), .ref (h 5), .ref (h 6)])), (h 3, .inl (g.2.1, 200, .inl ce)), (h 4, .inl (g.2.1, 200, .inl gr)), (h 6, .inl (g.2.1, 7, .inl st))]) rfl dX0_draws_48 (fun H locs hw => ?_)
        refine lv_iinc (v := nI j - 1) (lv' := [(3, .int (nI j - 1)), (2, .int (lwD (dcF ce len L fo) gr (st 0) L (L - j))), (0, .ref (h 8)), (1, .ref (h 2))]) hx hb dX0_draws_49 hl (k := 1) rfl (nI_dec j) (by decide) rfl (fun ls hl => ?_)
        refine lv_goto (tgt := 14) hx hb dX0_draws_52 (by decide) ?_
        have hw := hw.arr (f' := (lwS (dcF ce len L fo) gr (st 0) L j sq)) (ws' := [(h 8, .inr (0, [.ref (h 9), .ref (h 10)])), (h 9, .inl (g.2.1, 200, .inl (dcF ce len L fo))), (h 10, .inl (g.2.1, 200, .inl (lwS (dcF ce len L fo) gr (st 0) L j sq))), (h 2, .inr (5, [.int (nI L), .ref (h 3), .ref (h 4), .ref (h 5), .ref (h 6)])), (h 3, .inl (g.2.1, 200, .inl ce)), (h 4, .inl (g.2.1, 200, .inl gr)), (h 6, .inl (g.2.1, 7, .inl st))]) 2 rfl (fun i _ => lwS_st (dcF ce len L fo) gr (st 0) L j sq (by omega) i) rfl
        have hl : lv_has ls 4 [(3, .int (nI j - 1)), (2, .int (lwD (dcF ce len L fo) gr (st 0) L (L - j))), (0, .ref (h 8)), (1, .ref (h 2))] := lv_sub hl [0, 1, 2, 3] rfl
        have hl : lv_has ls 4 [(3, .int (nI j - 1)), (2, .int (lwD (dcF ce len L fo) gr (st 0) L (L - j))), (0, .ref (h 8)), (1, .ref (h 2))] := hl
        have hw : xW g A0 s0 [(h 8, .inr (0, [.ref (h 9), .ref (h 10)])), (h 9, .inl (g.2.1, 200, .inl (dcF ce len L fo))), (h 10, .inl (g.2.1, 200, .inl (lwS (dcF ce len L fo) gr (st 0) L j sq))), (h 2, .inr (5, [.int (nI L), .ref (h 3), .ref (h 4), .ref (h 5), .ref (h 6)])), (h 3, .inl (g.2.1, 200, .inl ce)), (h 4, .inl (g.2.1, 200, .inl gr)), (h 6, .inl (g.2.1, 7, .inl st))] _ _ := hw
        exact ih j (by omega) (by omega) _ _ _ hw hl
  have hw := hw.arr (f' := (lwS (dcF ce len L fo) gr (st 0) L L sq)) (ws' := [(h 8, .inr (0, [.ref (h 9), .ref (h 10)])), (h 9, .inl (g.2.1, 200, .inl (dcF ce len L fo))), (h 10, .inl (g.2.1, 200, .inl (lwS (dcF ce len L fo) gr (st 0) L L sq))), (h 2, .inr (5, [.int (nI L), .ref (h 3), .ref (h 4), .ref (h 5), .ref (h 6)])), (h 3, .inl (g.2.1, 200, .inl ce)), (h 4, .inl (g.2.1, 200, .inl gr)), (h 6, .inl (g.2.1, 7, .inl st))]) 2 rfl (fun j _ => (lwS_nil (dcF ce len L fo) gr (st 0) L sq j).symm) rfl
  have hl : lv_has ls 4 [(3, .int (nI L - 1)), (2, .int 0), (0, .ref (h 8)), (1, .ref (h 2))] := lv_sub hl [0, 1, 2, 3] rfl
  have hl : lv_has ls 4 [(3, .int (nI L - 1)), (2, .int (lwD (dcF ce len L fo) gr (st 0) L (L - L))), (0, .ref (h 8)), (1, .ref (h 2))] := lv_re hl (by rw [show (0 : Int32) = lwD (dcF ce len L fo) gr (st 0) L (L - L) from (by rw [Nat.sub_self]; rfl)])
  have hw : xW g A0 s0 [(h 8, .inr (0, [.ref (h 9), .ref (h 10)])), (h 9, .inl (g.2.1, 200, .inl (dcF ce len L fo))), (h 10, .inl (g.2.1, 200, .inl (lwS (dcF ce len L fo) gr (st 0) L L sq))), (h 2, .inr (5, [.int (nI L), .ref (h 3), .ref (h 4), .ref (h 5), .ref (h 6)])), (h 3, .inl (g.2.1, 200, .inl ce)), (h 4, .inl (g.2.1, 200, .inl gr)), (h 6, .inl (g.2.1, 7, .inl st))] _ _ := hw
  exact lp_14 (L + 1) L (Nat.lt_succ_self _) (by omega) _ _ _ hw hl

set_option maxRecDepth 100000 in
set_option maxHeartbeats 4000000 in
theorem c_X0_boundOf (l : Launch) (g : xCfg) (h : Nat → Nat) (fo : Nat → Int32) (sq : Nat → Int32) (L : Nat) (gr : Nat → Int32) (st : Nat → Int32) (x : Nat) (hL : L ≤ 200) (hx0 : x < L) : Ct l g yX0_boundOf cX0_boundOf 5 (some .int) (xR 2 34) [.ref (h 8), .ref (h 2), .int (nI x)] [(h 8, .inr (0, [.ref (h 9), .ref (h 10)])), (h 9, .inl (g.2.1, 200, .inl fo)), (h 10, .inl (g.2.1, 200, .inl sq)), (h 2, .inr (5, [.int (nI L), .ref (h 3), .ref (h 4), .ref (h 5), .ref (h 6)])), (h 4, .inl (g.2.1, 200, .inl gr)), (h 6, .inl (g.2.1, 7, .inl st))] (is1 (some (.int (nI (bndL (sq x) fo gr (st 0) (L - x) x 0)))) [(h 8, .inr (0, [.ref (h 9), .ref (h 10)])), (h 9, .inl (g.2.1, 200, .inl fo)), (h 10, .inl (g.2.1, 200, .inl sq)), (h 2, .inr (5, [.int (nI L), .ref (h 3), .ref (h 4), .ref (h 5), .ref (h 6)])), (h 4, .inl (g.2.1, 200, .inl gr)), (h 6, .inl (g.2.1, 7, .inl st))]) := by
  refine Ct.walk (by decide) (Nat.le_of_ble_eq_true rfl) ?_
  intro p0 e0 s0 m0 below meth c0 A0 ls Q hQ E hr hnm hw hl
  have hx := E.x
  have hb := E.b
  have hl : lv_has ls 5 [(0, .ref (h 8)), (1, .ref (h 2)), (2, .int (nI x))] := hl
  refine lv_iconst (v := 0) hx hb dX0_boundOf_0 (by decide) ?_
  refine lv_istore_n (lv' := [(3, .int 0), (0, .ref (h 8)), (1, .ref (h 2)), (2, .int (nI x))]) hx hb dX0_boundOf_1 rfl hl (by decide) rfl (fun ls hl => ?_)
  refine lv_iload_n hx hb dX0_boundOf_2 rfl (lv_at hl 3 rfl) ?_
  refine lv_istore (lv' := [(4, .int (nI x)), (3, .int 0), (0, .ref (h 8)), (1, .ref (h 2)), (2, .int (nI x))]) hx hb dX0_boundOf_3 hl (by decide) rfl (fun ls hl => ?_)
  have lp_5 : ∀ (fuel : Nat) (y : Nat) (br : Int32), L - y < fuel → x ≤ y → y ≤ L → bndL (sq x) fo gr (st 0) (L - y) y br = bndL (sq x) fo gr (st 0) (L - x) x 0 → ∀ (H : Heap) (locs : List Loc) (ls : Array Slot), xW g A0 s0 [(h 8, .inr (0, [.ref (h 9), .ref (h 10)])), (h 9, .inl (g.2.1, 200, .inl fo)), (h 10, .inl (g.2.1, 200, .inl sq)), (h 2, .inr (5, [.int (nI L), .ref (h 3), .ref (h 4), .ref (h 5), .ref (h 6)])), (h 4, .inl (g.2.1, 200, .inl gr)), (h 6, .inl (g.2.1, 7, .inl st))] H locs → lv_has ls 5 [(4, .int (nI y)), (3, .int br), (0, .ref (h 8)), (1, .ref (h 2)), (2, .int (nI x))] → W p0 l e0 (xR 2 34) s0 m0 [.ref (h 8), .ref (h 2), .int (nI x)].toArray below meth c0 H locs 0 0 Q (F0 m0 5 ls []) := by
    intro fuel
    induction fuel with
    | zero => intro y br hm; exact absurd hm (Nat.not_lt_zero _)
    | succ fuel ih =>
      intro y br hm h1 h2 hi H locs ls hw hl
      refine lv_iload hx hb dX0_boundOf_5 (lv_at hl 0 rfl) ?_
      refine lv_aload_n hx hb dX0_boundOf_7 rfl (lv_at hl 3 rfl) ?_
      refine x_getN E hw kf_X0_24 3 rfl rfl dX0_boundOf_8 ?_
      refine xn_ge (tgt := 58) hx hb y L rfl rfl (by omega) (by omega) dX0_boundOf_11 (by decide) (fun c_1 => ?_) (fun c_1 => ?_)
      · obtain rfl : y = L := by omega
        refine lv_aload_n hx hb dX0_boundOf_58 rfl (lv_at hl 3 rfl) ?_
        refine x_getN E hw kf_X0_24 3 rfl rfl dX0_boundOf_59 ?_
        exact xr_i hQ E hr hw dX0_boundOf_62 ⟨congrArg (fun z => some (Value.int z)) (congrArg nI (by rw [← hi, Nat.sub_self]; rfl)), rfl⟩
      · refine lv_aload_n hx hb dX0_boundOf_14 rfl (lv_at hl 2 rfl) ?_
        refine x_get E hw kf_X0_17 0 rfl rfl dX0_boundOf_15 ?_
        refine lv_iload_n hx hb dX0_boundOf_18 rfl (lv_at hl 4 rfl) ?_
        refine x_ld (v := sq x) E hw 2 rfl x rfl (by omega) (by decide) rfl dX0_boundOf_19 ?_
        refine lv_aload_n hx hb dX0_boundOf_20 rfl (lv_at hl 2 rfl) ?_
        refine x_get E hw kf_X0_11 0 rfl rfl dX0_boundOf_21 ?_
        refine lv_iload hx hb dX0_boundOf_24 (lv_at hl 0 rfl) ?_
        refine x_ld (v := fo y) E hw 1 rfl y rfl (by omega) (by decide) rfl dX0_boundOf_26 ?_
        refine lv_aload_n hx hb dX0_boundOf_27 rfl (lv_at hl 2 rfl) ?_
        refine x_get E hw kf_X0_11 0 rfl rfl dX0_boundOf_28 ?_
        refine lv_iload hx hb dX0_boundOf_31 (lv_at hl 0 rfl) ?_
        refine x_ld (v := fo y) E hw 1 rfl y rfl (by omega) (by decide) rfl dX0_boundOf_33 ?_
        refine lv_imul hx hb dX0_boundOf_34 ?_
        refine lv_iload_n hx hb dX0_boundOf_35 rfl (lv_at hl 1 rfl) ?_
        refine lv_iadd hx hb dX0_boundOf_36 ?_
        refine lv_icmp_ne (tgt := 43) hx hb dX0_boundOf_37 (by decide) (fun ce => ?_) (fun ce => ?_)
        · refine lv_iload_n hx hb dX0_boundOf_43 rfl (lv_at hl 1 rfl) ?_
          refine lv_aload_n hx hb dX0_boundOf_44 rfl (lv_at hl 3 rfl) ?_
          refine lv_iload hx hb dX0_boundOf_45 (lv_at hl 0 rfl) ?_
          refine x_go (ws' := [(h 8, .inr (0, [.ref (h 9), .ref (h 10)])), (h 9, .inl (g.2.1, 200, .inl fo)), (h 10, .inl (g.2.1, 200, .inl sq)), (h 2, .inr (5, [.int (nI L), .ref (h 3), .ref (h 4), .ref (h 5), .ref (h 6)])), (h 4, .inl (g.2.1, 200, .inl gr)), (h 6, .inl (g.2.1, 7, .inl st))]) (st1 := [.int (dcl (st 0) (gr y)), .int br]) E hw [3, 4, 5] rfl (x_runVN (rest := [.int br]) E hw (c_X5_decel l g h L gr st y (by omega)) km_X0_28 kv_X5_decel [3, 4, 5] rfl (by decide) 3 rfl hl.1 rfl rfl (Nat.le_of_ble_eq_true rfl) ⟨Nat.le_of_ble_eq_true rfl, Nat.le_of_ble_eq_true rfl⟩ ⟨Nat.zero_le _, Nat.zero_le _⟩ dX0_boundOf_47) rfl rfl rfl (fun H locs hw => ?_)
          refine lv_iadd hx hb dX0_boundOf_50 ?_
          refine lv_istore_n (lv' := [(3, .int (br + dcl (st 0) (gr y))), (4, .int (nI y)), (0, .ref (h 8)), (1, .ref (h 2)), (2, .int (nI x))]) hx hb dX0_boundOf_51 rfl hl (by decide) rfl (fun ls hl => ?_)
          refine lv_iinc (v := nI (y + 1)) (lv' := [(4, .int (nI (y + 1))), (3, .int (br + dcl (st 0) (gr y))), (0, .ref (h 8)), (1, .ref (h 2)), (2, .int (nI x))]) hx hb dX0_boundOf_52 hl (k := 1) rfl (nI_1 _) (by decide) rfl (fun ls hl => ?_)
          refine lv_goto (tgt := 5) hx hb dX0_boundOf_55 (by decide) ?_
          have hl : lv_has ls 5 [(4, .int (nI (y + 1))), (3, .int (br + dcl (st 0) (gr y))), (0, .ref (h 8)), (1, .ref (h 2)), (2, .int (nI x))] := lv_sub hl [0, 1, 2, 3, 4] rfl
          have hl : lv_has ls 5 [(4, .int (nI (y + 1))), (3, .int (br + dcl (st 0) (gr y))), (0, .ref (h 8)), (1, .ref (h 2)), (2, .int (nI x))] := hl
          have hw : xW g A0 s0 [(h 8, .inr (0, [.ref (h 9), .ref (h 10)])), (h 9, .inl (g.2.1, 200, .inl fo)), (h 10, .inl (g.2.1, 200, .inl sq)), (h 2, .inr (5, [.int (nI L), .ref (h 3), .ref (h 4), .ref (h 5), .ref (h 6)])), (h 4, .inl (g.2.1, 200, .inl gr)), (h 6, .inl (g.2.1, 7, .inl st))] _ _ := hw
          exact ih (y + 1) (br + dcl (st 0) (gr y)) (by omega) (by omega) (by omega) ((bndL_go (by omega) ce).symm.trans hi) _ _ _ hw hl
        · refine lv_iload hx hb dX0_boundOf_40 (lv_at hl 0 rfl) ?_
          exact xr_i hQ E hr hw dX0_boundOf_42 ⟨congrArg (fun z => some (Value.int z)) (congrArg nI ((bndL_at (by omega) ce).symm.trans hi)), rfl⟩
  have hl : lv_has ls 5 [(4, .int (nI x)), (3, .int 0), (0, .ref (h 8)), (1, .ref (h 2)), (2, .int (nI x))] := lv_sub hl [0, 1, 2, 3, 4] rfl
  have hl : lv_has ls 5 [(4, .int (nI x)), (3, .int 0), (0, .ref (h 8)), (1, .ref (h 2)), (2, .int (nI x))] := hl
  have hw : xW g A0 s0 [(h 8, .inr (0, [.ref (h 9), .ref (h 10)])), (h 9, .inl (g.2.1, 200, .inl fo)), (h 10, .inl (g.2.1, 200, .inl sq)), (h 2, .inr (5, [.int (nI L), .ref (h 3), .ref (h 4), .ref (h 5), .ref (h 6)])), (h 4, .inl (g.2.1, 200, .inl gr)), (h 6, .inl (g.2.1, 7, .inl st))] _ _ := hw
  exact lp_5 ((L - x) + 1) x 0 (Nat.lt_succ_self _) (by omega) (by omega) rfl _ _ _ hw hl

set_option maxRecDepth 100000 in
set_option maxHeartbeats 4000000 in
theorem c_X0_leastSquare (l : Launch) (g : xCfg) (h : Nat → Nat) (sq : Nat → Int32) (a : Nat) (z : Nat) (ha : a < 200) (hz : z < 200) : Ct l g yX0_leastSquare cX0_leastSquare 5 (some .int) (xR 1 13) [.ref (h 8), .int (nI a), .int (nI z)] [(h 8, .inr (0, [.ref (h 9), .ref (h 10)])), (h 10, .inl (g.2.1, 200, .inl sq))] (is1 (some (.int (lsq sq a (z - a)))) [(h 8, .inr (0, [.ref (h 9), .ref (h 10)])), (h 10, .inl (g.2.1, 200, .inl sq))]) := by
  refine Ct.walk (by decide) (Nat.le_of_ble_eq_true rfl) ?_
  intro p0 e0 s0 m0 below meth c0 A0 ls Q hQ E hr hnm hw hl
  have hx := E.x
  have hb := E.b
  have hl : lv_has ls 5 [(0, .ref (h 8)), (1, .int (nI a)), (2, .int (nI z))] := hl
  refine lv_aload_n hx hb dX0_leastSquare_0 rfl (lv_at hl 0 rfl) ?_
  refine x_get E hw kf_X0_17 0 rfl rfl dX0_leastSquare_1 ?_
  refine lv_iload_n hx hb dX0_leastSquare_4 rfl (lv_at hl 1 rfl) ?_
  refine x_ld (v := sq a) E hw 1 rfl a rfl (by omega) (by decide) rfl dX0_leastSquare_5 ?_
  refine lv_istore_n (lv' := [(3, .int (sq a)), (0, .ref (h 8)), (1, .int (nI a)), (2, .int (nI z))]) hx hb dX0_leastSquare_6 rfl hl (by decide) rfl (fun ls hl => ?_)
  refine lv_iload_n hx hb dX0_leastSquare_7 rfl (lv_at hl 2 rfl) ?_
  refine lv_iconst (v := 1) hx hb dX0_leastSquare_8 (by decide) ?_
  refine xn_add hx hb a 1 rfl rfl dX0_leastSquare_9 ?_
  refine lv_istore (lv' := [(4, .int (nI (a + 1))), (3, .int (sq a)), (0, .ref (h 8)), (1, .int (nI a)), (2, .int (nI z))]) hx hb dX0_leastSquare_10 hl (by decide) rfl (fun ls hl => ?_)
  have lp_12 : ∀ (fuel : Nat) (d : Nat), z - a - d < fuel → d ≤ z - a → ∀ (H : Heap) (locs : List Loc) (ls : Array Slot), xW g A0 s0 [(h 8, .inr (0, [.ref (h 9), .ref (h 10)])), (h 10, .inl (g.2.1, 200, .inl sq))] H locs → lv_has ls 5 [(4, .int (nI (a + d + 1))), (3, .int (lsq sq a d)), (0, .ref (h 8)), (2, .int (nI z))] → W p0 l e0 (xR 1 13) s0 m0 [.ref (h 8), .int (nI a), .int (nI z)].toArray below meth c0 H locs 0 0 Q (F0 m0 12 ls []) := by
    intro fuel
    induction fuel with
    | zero => intro d hm; exact absurd hm (Nat.not_lt_zero _)
    | succ fuel ih =>
      intro d hm h1 H locs ls hw hl
      refine lv_iload hx hb dX0_leastSquare_12 (lv_at hl 0 rfl) ?_
      refine lv_iload_n hx hb dX0_leastSquare_14 rfl (lv_at hl 3 rfl) ?_
      refine xn_gt (tgt := 36) hx hb (a + d + 1) z rfl rfl (by omega) (by omega) dX0_leastSquare_15 (by decide) (fun c_1 => ?_) (fun c_1 => ?_)
      · obtain rfl : d = z - a := by omega
        refine lv_iload_n hx hb dX0_leastSquare_36 rfl (lv_at hl 1 rfl) ?_
        exact xr_i hQ E hr hw dX0_leastSquare_37 ⟨rfl, rfl⟩
      · refine lv_iload_n hx hb dX0_leastSquare_18 rfl (lv_at hl 1 rfl) ?_
        refine lv_aload_n hx hb dX0_leastSquare_19 rfl (lv_at hl 2 rfl) ?_
        refine x_get E hw kf_X0_17 0 rfl rfl dX0_leastSquare_20 ?_
        refine lv_iload hx hb dX0_leastSquare_23 (lv_at hl 0 rfl) ?_
        refine x_ld (v := sq (a + d + 1)) E hw 1 rfl (a + d + 1) rfl (by omega) (by decide) rfl dX0_leastSquare_25 ?_
        refine x_min E km_X0_32 hl.1 (Nat.le_of_ble_eq_true rfl) (Nat.le_of_ble_eq_true rfl) ⟨Nat.zero_le _, Nat.zero_le _⟩ dX0_leastSquare_26 ?_
        refine x_top (v' := .int (lsq sq a (d + 1))) rfl ?_
        refine lv_istore_n (lv' := [(3, .int (lsq sq a (d + 1))), (4, .int (nI (a + d + 1))), (0, .ref (h 8)), (2, .int (nI z))]) hx hb dX0_leastSquare_29 rfl hl (by decide) rfl (fun ls hl => ?_)
        refine lv_iinc (v := nI (a + d + 2)) (lv' := [(4, .int (nI (a + d + 2))), (3, .int (lsq sq a (d + 1))), (0, .ref (h 8)), (2, .int (nI z))]) hx hb dX0_leastSquare_30 hl (k := 1) rfl (nI_1 _) (by decide) rfl (fun ls hl => ?_)
        refine lv_goto (tgt := 12) hx hb dX0_leastSquare_33 (by decide) ?_
        have hl : lv_has ls 5 [(4, .int (nI (a + d + 2))), (3, .int (lsq sq a (d + 1))), (0, .ref (h 8)), (2, .int (nI z))] := lv_sub hl [0, 1, 2, 3] rfl
        have hl : lv_has ls 5 [(4, .int (nI (a + (d + 1) + 1))), (3, .int (lsq sq a (d + 1))), (0, .ref (h 8)), (2, .int (nI z))] := lv_re hl (by rw [show (nI (a + d + 2) : Int32) = nI (a + (d + 1) + 1) from congrArg nI (by omega)])
        have hw : xW g A0 s0 [(h 8, .inr (0, [.ref (h 9), .ref (h 10)])), (h 10, .inl (g.2.1, 200, .inl sq))] _ _ := hw
        exact ih (d + 1) (by omega) (by omega) _ _ _ hw hl
  have hl : lv_has ls 5 [(4, .int (nI (a + 1))), (3, .int (sq a)), (0, .ref (h 8)), (2, .int (nI z))] := lv_sub hl [0, 1, 2, 4] rfl
  have hl : lv_has ls 5 [(4, .int (nI (a + 0 + 1))), (3, .int (lsq sq a 0)), (0, .ref (h 8)), (2, .int (nI z))] := lv_re hl (by rw [show (sq a : Int32) = lsq sq a 0 from rfl, show (nI (a + 1) : Int32) = nI (a + 0 + 1) from congrArg nI rfl])
  have hw : xW g A0 s0 [(h 8, .inr (0, [.ref (h 9), .ref (h 10)])), (h 10, .inl (g.2.1, 200, .inl sq))] _ _ := hw
  exact lp_12 ((z - a - 0) + 1) 0 (Nat.lt_succ_self _) (by omega) _ _ _ hw hl
