
/-- blanks passed over, letters passed over -/
def skB (tx : Nat → Int32) : Nat → Nat → Nat
  | 0, p => p
  | d + 1, p => if tx p = 32 then skB tx d (p + 1) else p
theorem skB_st {tx : Nat → Int32} {cnt p : Nat} (h : p < cnt) (hc : tx p = 32) : skB tx (cnt - p) p = skB tx (cnt - (p + 1)) (p + 1) := by
  rw [show cnt - p = (cnt - (p + 1)) + 1 by omega, skB, if_pos hc]
theorem skB_at {tx : Nat → Int32} {cnt p : Nat} (h : p < cnt) (hc : ¬ tx p = 32) : skB tx (cnt - p) p = p := by
  rw [show cnt - p = (cnt - (p + 1)) + 1 by omega, skB, if_neg hc]
theorem skB_ge (tx : Nat → Int32) : ∀ d p, p ≤ skB tx d p ∧ skB tx d p ≤ p + d
  | 0, p => ⟨Nat.le_refl p, Nat.le_refl p⟩
  | d + 1, p => by
    rw [skB]
    have := skB_ge tx d (p + 1)
    split <;> omega
theorem skB_le {tx : Nat → Int32} {cnt p : Nat} (h : p ≤ cnt) : skB tx (cnt - p) p ≤ cnt := by
  have := skB_ge tx (cnt - p) p
  omega
abbrev letP (tx : Nat → Int32) (p : Nat) : Prop := 97 ≤ tx p ∧ tx p ≤ 122
def skL (tx : Nat → Int32) : Nat → Nat → Nat
  | 0, p => p
  | d + 1, p => if letP tx p then skL tx d (p + 1) else p
theorem skL_st {tx : Nat → Int32} {cnt p : Nat} (h : p < cnt) (hc : letP tx p) : skL tx (cnt - p) p = skL tx (cnt - (p + 1)) (p + 1) := by
  rw [show cnt - p = (cnt - (p + 1)) + 1 by omega, skL, if_pos hc]
theorem skL_at {tx : Nat → Int32} {cnt p : Nat} (h : p < cnt) (hc : ¬ letP tx p) : skL tx (cnt - p) p = p := by
  rw [show cnt - p = (cnt - (p + 1)) + 1 by omega, skL, if_neg hc]
theorem skL_ge (tx : Nat → Int32) : ∀ d p, p ≤ skL tx d p ∧ skL tx d p ≤ p + d
  | 0, p => ⟨Nat.le_refl p, Nat.le_refl p⟩
  | d + 1, p => by
    rw [skL]
    have := skL_ge tx d (p + 1)
    split <;> omega
theorem skL_le {tx : Nat → Int32} {cnt p : Nat} (h : p ≤ cnt) : skL tx (cnt - p) p ≤ cnt := by
  have := skL_ge tx (cnt - p) p
  omega
abbrev atC (tx : Nat → Int32) (cnt p : Nat) (c : Int32) : Prop := p < cnt ∧ tx p = c
abbrev figP (tx : Nat → Int32) (cnt p : Nat) : Prop := p < cnt ∧ (48 ≤ tx p ∧ tx p ≤ 57)
/-- a word's letters -/
def spB (tx : Nat → Int32) (a i : Nat) : Nat → Nat → Bool
  | 0, _ => true
  | d + 1, j => if tx (a + j) = chr i j then spB tx a i d (j + 1) else false
theorem spB_st {tx : Nat → Int32} {a i j z : Nat} (h : j < z) (hc : tx (a + j) = chr i j) : spB tx a i (z - j) j = spB tx a i (z - (j + 1)) (j + 1) := by
  rw [show z - j = (z - (j + 1)) + 1 by omega, spB, if_pos hc]
theorem spB_no {tx : Nat → Int32} {a i j z : Nat} (h : j < z) (hc : ¬ tx (a + j) = chr i j) : spB tx a i (z - j) j = false := by
  rw [show z - j = (z - (j + 1)) + 1 by omega, spB, if_neg hc]
abbrev splP (tx : Nat → Int32) (a e i : Nat) : Prop := e - a = xLen.getD i 0 ∧ spB tx a i (xLen.getD i 0) 0 = true
def wrd (tx : Nat → Int32) (a e : Nat) : Int32 := if splP tx a e 0 then 0 else if splP tx a e 1 then 1 else if splP tx a e 2 then 2 else if splP tx a e 3 then 3 else if splP tx a e 4 then 4 else if splP tx a e 5 then 5 else if splP tx a e 6 then 6 else if splP tx a e 7 then 7 else -1
/-- a number -/
def dgs (tx : Nat → Int32) (cnt : Nat) : Nat → Int32 → Nat → Int32 × Nat
  | 0, v, p => (v, p)
  | k + 1, v, p => if figP tx cnt p then dgs tx cnt k (10 * v + tx p - 48) (p + 1) else (v, p)
theorem dgs_no {tx : Nat → Int32} {cnt k p : Nat} {v : Int32} (h : ¬ figP tx cnt p) : dgs tx cnt k v p = (v, p) := by
  cases k with
  | zero => rfl
  | succ k => rw [dgs, if_neg h]
theorem dgs_st {tx : Nat → Int32} {cnt k p : Nat} {v : Int32} (hk : k < 3) (h : figP tx cnt p) : dgs tx cnt (3 - k) v p = dgs tx cnt (3 - (k + 1)) (10 * v + tx p - 48) (p + 1) := by
  rw [show 3 - k = (3 - (k + 1)) + 1 by omega, dgs, if_pos h]
theorem dgs_ge (tx : Nat → Int32) (cnt : Nat) : ∀ k v p, p ≤ cnt → p ≤ (dgs tx cnt k v p).2 ∧ (dgs tx cnt k v p).2 ≤ cnt
  | 0, _, p, h => ⟨Nat.le_refl p, h⟩
  | k + 1, v, p, h => by
    rw [dgs]
    split
    · rename_i h1
      have := dgs_ge tx cnt k (10 * v + tx p - 48) (p + 1) h1.1
      omega
    · exact ⟨Nat.le_refl p, h⟩
abbrev nmN (sg : Bool) (tx : Nat → Int32) (cnt p : Nat) : Prop := sg = true ∧ atC tx cnt (skB tx (cnt - p) p) 45
def nmS (sg : Bool) (tx : Nat → Int32) (cnt p : Nat) : Nat := if nmN sg tx cnt p then skB tx (cnt - p) p + 1 else skB tx (cnt - p) p
def nmD (sg : Bool) (tx : Nat → Int32) (cnt p : Nat) : Int32 × Nat := dgs tx cnt 3 0 (nmS sg tx cnt p)
abbrev nmOk (sg : Bool) (tx : Nat → Int32) (cnt p : Nat) : Prop := nmS sg tx cnt p < (nmD sg tx cnt p).2 ∧ ¬ figP tx cnt (nmD sg tx cnt p).2
def nmV (sg : Bool) (tx : Nat → Int32) (cnt p : Nat) : Int32 := if nmN sg tx cnt p then -(nmD sg tx cnt p).1 else (nmD sg tx cnt p).1
theorem nm_f0 {sg : Bool} {tx : Nat → Int32} {cnt p S x : Nat} {v : Int32} (hS : nmS sg tx cnt p = S) (hD : nmD sg tx cnt p = (v, x)) (h : x ≤ S) : ¬ nmOk sg tx cnt p := by
  rintro ⟨h1, -⟩
  rw [hS, hD] at h1
  exact absurd h1 (by show ¬ S < x; omega)
theorem nm_f1 {sg : Bool} {tx : Nat → Int32} {cnt p x : Nat} {v : Int32} (hD : nmD sg tx cnt p = (v, x)) (h : figP tx cnt x) : ¬ nmOk sg tx cnt p := fun z => z.2 (by rw [hD]; exact h)
theorem nm_t {sg : Bool} {tx : Nat → Int32} {cnt p S x : Nat} {v : Int32} (hS : nmS sg tx cnt p = S) (hD : nmD sg tx cnt p = (v, x)) (h : S < x) (h2 : ¬ figP tx cnt x) : nmOk sg tx cnt p := ⟨by rw [hS, hD]; exact h, by rw [hD]; exact h2⟩
theorem nmS_le {sg : Bool} {tx : Nat → Int32} {cnt p : Nat} (h : p ≤ cnt) : p ≤ nmS sg tx cnt p ∧ nmS sg tx cnt p ≤ cnt := by
  unfold nmS
  have h1 := skB_ge tx (cnt - p) p
  split
  · rename_i h2
    have := h2.2.1
    omega
  · omega
theorem nmD_le {sg : Bool} {tx : Nat → Int32} {cnt p : Nat} (h : p ≤ cnt) : p ≤ (nmD sg tx cnt p).2 ∧ (nmD sg tx cnt p).2 ≤ cnt := by
  have h1 := nmS_le (sg := sg) (tx := tx) h
  have h2 := dgs_ge tx cnt 3 0 (nmS sg tx cnt p) h1.2
  unfold nmD
  omega
/-- an order: whether it is well, the place behind it, words, numbers, cause, fault -/
abbrev OD : Type := Bool × Nat × (Nat → Int32) × (Nat → Int32) × Int32 × Int32
def odE (tx : Nat → Int32) (cnt q : Nat) (wo nu : Nat → Int32) (ca fa : Int32) : OD := if atC tx cnt (skB tx (cnt - q) q) 59 then (true, skB tx (cnt - q) q + 1, wo, nu, ca, fa) else (false, skB tx (cnt - q) q, wo, nu, 2, nI (skB tx (cnt - q) q))
def od1 (tx : Nat → Int32) (cnt k q : Nat) (wo nu : Nat → Int32) (ca fa : Int32) : OD := if nmOk false tx cnt q then odE tx cnt (nmD false tx cnt q).2 wo (upd nu (k * 3 + 0) (nmV false tx cnt q)) ca fa else (false, (nmD false tx cnt q).2, wo, nu, 2, nI (nmD false tx cnt q).2)
def od3c (sg : Bool) (tx : Nat → Int32) (cnt k q : Nat) (wo nu : Nat → Int32) (ca fa : Int32) : OD := if nmOk sg tx cnt q then odE tx cnt (nmD sg tx cnt q).2 wo (upd nu (k * 3 + 2) (nmV sg tx cnt q)) ca fa else (false, (nmD sg tx cnt q).2, wo, nu, 2, nI (nmD sg tx cnt q).2)
def od3b (sg : Bool) (tx : Nat → Int32) (cnt k q : Nat) (wo nu : Nat → Int32) (ca fa : Int32) : OD := if nmOk false tx cnt q then od3c sg tx cnt k (nmD false tx cnt q).2 wo (upd nu (k * 3 + 1) (nmV false tx cnt q)) ca fa else (false, (nmD false tx cnt q).2, wo, nu, 2, nI (nmD false tx cnt q).2)
def od3 (sg : Bool) (tx : Nat → Int32) (cnt k q : Nat) (wo nu : Nat → Int32) (ca fa : Int32) : OD := if nmOk false tx cnt q then od3b sg tx cnt k (nmD false tx cnt q).2 wo (upd nu (k * 3 + 0) (nmV false tx cnt q)) ca fa else (false, (nmD false tx cnt q).2, wo, nu, 2, nI (nmD false tx cnt q).2)
def od2 (tx : Nat → Int32) (cnt p : Nat) : Nat := skL tx (cnt - skB tx (cnt - p) p) (skB tx (cnt - p) p)
def odW (tx : Nat → Int32) (cnt p : Nat) : Int32 := wrd tx (skB tx (cnt - p) p) (od2 tx cnt p)
def odR (tx : Nat → Int32) (cnt k p : Nat) (wo nu : Nat → Int32) (ca fa : Int32) : OD :=
  if od2 tx cnt p = skB tx (cnt - p) p then (false, od2 tx cnt p, wo, nu, 2, nI (od2 tx cnt p))
  else if odW tx cnt p = -1 then (false, od2 tx cnt p, wo, nu, 1, nI (skB tx (cnt - p) p))
  else if odW tx cnt p = 1 then od3 false tx cnt k (od2 tx cnt p) (upd wo k (odW tx cnt p)) nu ca fa
  else if odW tx cnt p = 2 then od3 true tx cnt k (od2 tx cnt p) (upd wo k (odW tx cnt p)) nu ca fa
  else od1 tx cnt k (od2 tx cnt p) (upd wo k (odW tx cnt p)) nu ca fa
theorem odE_le {tx : Nat → Int32} {cnt q : Nat} {wo nu : Nat → Int32} {ca fa : Int32} (h : q ≤ cnt) : (odE tx cnt q wo nu ca fa).2.1 ≤ cnt := by
  unfold odE
  split
  · rename_i h1
    exact h1.1
  · exact skB_le h
theorem od1_le {tx : Nat → Int32} {cnt k q : Nat} {wo nu : Nat → Int32} {ca fa : Int32} (h : q ≤ cnt) : (od1 tx cnt k q wo nu ca fa).2.1 ≤ cnt := by
  unfold od1
  split
  · exact odE_le (nmD_le h).2
  · exact (nmD_le h).2
theorem od3c_le {sg : Bool} {tx : Nat → Int32} {cnt k q : Nat} {wo nu : Nat → Int32} {ca fa : Int32} (h : q ≤ cnt) : (od3c sg tx cnt k q wo nu ca fa).2.1 ≤ cnt := by
  unfold od3c
  split
  · exact odE_le (nmD_le h).2
  · exact (nmD_le h).2
theorem od3b_le {sg : Bool} {tx : Nat → Int32} {cnt k q : Nat} {wo nu : Nat → Int32} {ca fa : Int32} (h : q ≤ cnt) : (od3b sg tx cnt k q wo nu ca fa).2.1 ≤ cnt := by
  unfold od3b
  split
  · exact od3c_le (nmD_le h).2
  · exact (nmD_le h).2
theorem od3_le {sg : Bool} {tx : Nat → Int32} {cnt k q : Nat} {wo nu : Nat → Int32} {ca fa : Int32} (h : q ≤ cnt) : (od3 sg tx cnt k q wo nu ca fa).2.1 ≤ cnt := by
  unfold od3
  split
  · exact od3b_le (nmD_le h).2
  · exact (nmD_le h).2
theorem od2_le {tx : Nat → Int32} {cnt p : Nat} (h : p ≤ cnt) : od2 tx cnt p ≤ cnt := skL_le (skB_le h)
theorem odR_le {tx : Nat → Int32} {cnt k p : Nat} {wo nu : Nat → Int32} {ca fa : Int32} (h : p ≤ cnt) : (odR tx cnt k p wo nu ca fa).2.1 ≤ cnt := by
  have h2 := od2_le (tx := tx) h
  unfold odR
  split
  · exact h2
  · split
    · exact h2
    · split
      · exact od3_le h2
      · split
        · exact od3_le h2
        · exact od1_le h2
/-- the whole text -/
abbrev RD : Type := Bool × Nat × (Nat → Int32) × (Nat → Int32) × Int32 × Int32 × Int32
def rdR (tx : Nat → Int32) (cnt : Nat) : Nat → Nat → Nat → (Nat → Int32) → (Nat → Int32) → Int32 → Int32 → Int32 → RD
  | 0, _, p, wo, nu, _, _, od => (false, p, wo, nu, 2, nI p, od)
  | d + 1, k, p, wo, nu, ca, fa, od =>
    if (odR tx cnt k p wo nu ca fa).1 = true then
      (if skB tx (cnt - (odR tx cnt k p wo nu ca fa).2.1) (odR tx cnt k p wo nu ca fa).2.1 < cnt then rdR tx cnt d (k + 1) (skB tx (cnt - (odR tx cnt k p wo nu ca fa).2.1) (odR tx cnt k p wo nu ca fa).2.1) (odR tx cnt k p wo nu ca fa).2.2.1 (odR tx cnt k p wo nu ca fa).2.2.2.1 (odR tx cnt k p wo nu ca fa).2.2.2.2.1 (odR tx cnt k p wo nu ca fa).2.2.2.2.2 (nI (k + 1))
       else (true, skB tx (cnt - (odR tx cnt k p wo nu ca fa).2.1) (odR tx cnt k p wo nu ca fa).2.1, (odR tx cnt k p wo nu ca fa).2.2.1, (odR tx cnt k p wo nu ca fa).2.2.2.1, (odR tx cnt k p wo nu ca fa).2.2.2.2.1, (odR tx cnt k p wo nu ca fa).2.2.2.2.2, nI (k + 1)))
    else (false, (odR tx cnt k p wo nu ca fa).2.1, (odR tx cnt k p wo nu ca fa).2.2.1, (odR tx cnt k p wo nu ca fa).2.2.2.1, (odR tx cnt k p wo nu ca fa).2.2.2.2.1, (odR tx cnt k p wo nu ca fa).2.2.2.2.2, od)
theorem rdR_s (tx : Nat → Int32) (cnt : Nat) {k : Nat} (hk : k < 24) (p : Nat) (wo nu : Nat → Int32) (ca fa od : Int32) : rdR tx cnt (24 - k) k p wo nu ca fa od = rdR tx cnt ((24 - (k + 1)) + 1) k p wo nu ca fa od := by rw [show 24 - k = (24 - (k + 1)) + 1 by omega]

set_option maxRecDepth 100000 in
set_option maxHeartbeats 4000000 in
theorem c_X3_faulty (l : Launch) (g : xCfg) (h : Nat → Nat) (cnt : Nat) (p : Nat) (ca : Int32) (fa : Int32) (od : Int32) (c : Int32) (w : Int32)  : Ct l g yX3_faulty cX3_faulty 3 (some .boolean) (xR 0 0) [.ref (h 11), .int c, .int w] [(h 11, .inr (3, [.ref (h 12), .int (nI cnt), .int (nI p), .int ca, .int fa, .int od, .ref (h 13), .ref (h 14)]))] (is1 (some (.int 0)) [(h 11, .inr (3, [.ref (h 12), .int (nI cnt), .int (nI p), .int c, .int w, .int od, .ref (h 13), .ref (h 14)]))]) := by
  refine Ct.walk (by decide) (Nat.le_of_ble_eq_true rfl) ?_
  intro p0 e0 s0 m0 below meth c0 A0 ls Q hQ E hr hnm hw hl
  have hx := E.x
  have hb := E.b
  have hl : lv_has ls 3 [(0, .ref (h 11)), (1, .int c), (2, .int w)] := hl
  refine lv_aload_n hx hb dX3_faulty_0 rfl (lv_at hl 0 rfl) ?_
  refine lv_iload_n hx hb dX3_faulty_1 rfl (lv_at hl 1 rfl) ?_
  refine x_put E hw kf_X3_64 kp_X3_3 0 rfl (ty := .int) (by decide +kernel) rfl rfl (by simp) (ws' := [(h 11, .inr (3, [.ref (h 12), .int (nI cnt), .int (nI p), .int c, .int fa, .int od, .ref (h 13), .ref (h 14)]))]) rfl dX3_faulty_2 (fun H locs hw => ?_)
  refine lv_aload_n hx hb dX3_faulty_5 rfl (lv_at hl 0 rfl) ?_
  refine lv_iload_n hx hb dX3_faulty_6 rfl (lv_at hl 2 rfl) ?_
  refine x_put E hw kf_X3_67 kp_X3_4 0 rfl (ty := .int) (by decide +kernel) rfl rfl (by simp) (ws' := [(h 11, .inr (3, [.ref (h 12), .int (nI cnt), .int (nI p), .int c, .int w, .int od, .ref (h 13), .ref (h 14)]))]) rfl dX3_faulty_7 (fun H locs hw => ?_)
  refine lv_iconst (v := 0) hx hb dX3_faulty_10 (by decide) ?_
  exact xr_z hQ E hr hw dX3_faulty_11 (by decide) ⟨rfl, rfl⟩

set_option maxRecDepth 100000 in
set_option maxHeartbeats 4000000 in
theorem c_X3_adds_ok (l : Launch) (g : xCfg) (h : Nat → Nat) (cnt : Nat) (p : Nat) (ca : Int32) (fa : Int32) (od : Int32) (tx : Nat → Int32) (c : Int32) (hc : cnt < 120) (h1 : 0 ≤ c) (h2 : c ≤ 127) : Ct l g yX3_adds cX3_adds 2 (some .int) (xR 1 22) [.ref (h 11), .int c] [(h 11, .inr (3, [.ref (h 12), .int (nI cnt), .int (nI p), .int ca, .int fa, .int od, .ref (h 13), .ref (h 14)])), (h 12, .inl (g.2.1, 120, .inl tx))] (is1 (some (.int (nI (cnt + 1)))) [(h 11, .inr (3, [.ref (h 12), .int (nI (cnt + 1)), .int (nI p), .int ca, .int fa, .int od, .ref (h 13), .ref (h 14)])), (h 12, .inl (g.2.1, 120, .inl (upd tx cnt c)))]) := by
  refine Ct.walk (by decide) (Nat.le_of_ble_eq_true rfl) ?_
  intro p0 e0 s0 m0 below meth c0 A0 ls Q hQ E hr hnm hw hl
  have hx := E.x
  have hb := E.b
  have hl : lv_has ls 2 [(0, .ref (h 11)), (1, .int c)] := hl
  refine lv_iload_n hx hb dX3_adds_0 rfl (lv_at hl 1 rfl) ?_
  refine lv_iconst (v := 0) hx hb dX3_adds_1 (by decide) ?_
  refine lv_bipush (v := 127) hx hb dX3_adds_2 (by decide) ?_
  refine x_go (ws' := [(h 11, .inr (3, [.ref (h 12), .int (nI cnt), .int (nI p), .int ca, .int fa, .int od, .ref (h 13), .ref (h 14)])), (h 12, .inl (g.2.1, 120, .inl tx))]) (st1 := [.int 1]) E hw [] rfl (x_runSN (rest := []) E hw (c_X7_within_ok l g c 0 127 h1 h2) km_X3_21 ks_X7_within [] rfl (by decide) hl.1 rfl rfl (Nat.le_of_ble_eq_true rfl) ⟨Nat.le_of_ble_eq_true rfl, Nat.le_of_ble_eq_true rfl⟩ ⟨Nat.zero_le _, Nat.zero_le _⟩ dX3_adds_4) rfl rfl rfl (fun H locs hw => ?_)
  refine lv_if_ne (tgt := 13) hx hb dX3_adds_7 (by decide) (fun _ => ?_) (fun h => absurd h (by decide))
  refine lv_aload_n hx hb dX3_adds_13 rfl (lv_at hl 0 rfl) ?_
  refine x_get E hw kf_X3_25 0 rfl rfl dX3_adds_14 ?_
  refine lv_bipush (v := 120) hx hb dX3_adds_17 (by decide) ?_
  refine xn_lt (tgt := 25) hx hb cnt 120 rfl rfl (by omega) (by omega) dX3_adds_19 (by decide) (fun c_2 => ?_) (fun c_2 => ?_)
  · refine lv_aload_n hx hb dX3_adds_25 rfl (lv_at hl 0 rfl) ?_
    refine x_get E hw kf_X3_11 0 rfl rfl dX3_adds_26 ?_
    refine lv_aload_n hx hb dX3_adds_29 rfl (lv_at hl 0 rfl) ?_
    refine x_get E hw kf_X3_25 0 rfl rfl dX3_adds_30 ?_
    refine lv_iload_n hx hb dX3_adds_33 rfl (lv_at hl 1 rfl) ?_
    refine x_ist E hw 1 rfl cnt rfl (by omega) (by decide) (ws' := [(h 11, .inr (3, [.ref (h 12), .int (nI cnt), .int (nI p), .int ca, .int fa, .int od, .ref (h 13), .ref (h 14)])), (h 12, .inl (g.2.1, 120, .inl (upd tx cnt c)))]) rfl dX3_adds_34 (fun H locs hw => ?_)
    refine lv_aload_n hx hb dX3_adds_35 rfl (lv_at hl 0 rfl) ?_
    refine lv_dup hx hb dX3_adds_36 rfl ?_
    refine x_get E hw kf_X3_25 0 rfl rfl dX3_adds_37 ?_
    refine lv_iconst (v := 1) hx hb dX3_adds_40 (by decide) ?_
    refine xn_add hx hb cnt 1 rfl rfl dX3_adds_41 ?_
    refine x_put E hw kf_X3_25 kp_X3_1 0 rfl (ty := .int) (by decide +kernel) rfl rfl (by simp) (ws' := [(h 11, .inr (3, [.ref (h 12), .int (nI (cnt + 1)), .int (nI p), .int ca, .int fa, .int od, .ref (h 13), .ref (h 14)])), (h 12, .inl (g.2.1, 120, .inl (upd tx cnt c)))]) rfl dX3_adds_42 (fun H locs hw => ?_)
    refine lv_aload_n hx hb dX3_adds_45 rfl (lv_at hl 0 rfl) ?_
    refine x_get E hw kf_X3_25 0 rfl rfl dX3_adds_46 ?_
    exact xr_i hQ E hr hw dX3_adds_49 ⟨rfl, rfl⟩
  · exact absurd c_2 (by omega)

set_option maxRecDepth 100000 in
set_option maxHeartbeats 4000000 in
theorem c_X3_adds_full (l : Launch) (g : xCfg) (h : Nat → Nat) (cnt : Nat) (p : Nat) (ca : Int32) (fa : Int32) (od : Int32) (tx : Nat → Int32) (c : Int32) (hc : cnt = 120) (h1 : 0 ≤ c) (h2 : c ≤ 127) : Ct l g yX3_adds cX3_adds 2 (some .int) (xR 1 22) [.ref (h 11), .int c] [(h 11, .inr (3, [.ref (h 12), .int (nI cnt), .int (nI p), .int ca, .int fa, .int od, .ref (h 13), .ref (h 14)])), (h 12, .inl (g.2.1, 120, .inl tx))] (is1 (some (.int (-4))) [(h 11, .inr (3, [.ref (h 12), .int (nI cnt), .int (nI p), .int ca, .int fa, .int od, .ref (h 13), .ref (h 14)])), (h 12, .inl (g.2.1, 120, .inl tx))]) := by
  refine Ct.walk (by decide) (Nat.le_of_ble_eq_true rfl) ?_
  intro p0 e0 s0 m0 below meth c0 A0 ls Q hQ E hr hnm hw hl
  have hx := E.x
  have hb := E.b
  have hl : lv_has ls 2 [(0, .ref (h 11)), (1, .int c)] := hl
  refine lv_iload_n hx hb dX3_adds_0 rfl (lv_at hl 1 rfl) ?_
  refine lv_iconst (v := 0) hx hb dX3_adds_1 (by decide) ?_
  refine lv_bipush (v := 127) hx hb dX3_adds_2 (by decide) ?_
  refine x_go (ws' := [(h 11, .inr (3, [.ref (h 12), .int (nI cnt), .int (nI p), .int ca, .int fa, .int od, .ref (h 13), .ref (h 14)])), (h 12, .inl (g.2.1, 120, .inl tx))]) (st1 := [.int 1]) E hw [] rfl (x_runSN (rest := []) E hw (c_X7_within_ok l g c 0 127 h1 h2) km_X3_21 ks_X7_within [] rfl (by decide) hl.1 rfl rfl (Nat.le_of_ble_eq_true rfl) ⟨Nat.le_of_ble_eq_true rfl, Nat.le_of_ble_eq_true rfl⟩ ⟨Nat.zero_le _, Nat.zero_le _⟩ dX3_adds_4) rfl rfl rfl (fun H locs hw => ?_)
  refine lv_if_ne (tgt := 13) hx hb dX3_adds_7 (by decide) (fun _ => ?_) (fun h => absurd h (by decide))
  refine lv_aload_n hx hb dX3_adds_13 rfl (lv_at hl 0 rfl) ?_
  refine x_get E hw kf_X3_25 0 rfl rfl dX3_adds_14 ?_
  refine lv_bipush (v := 120) hx hb dX3_adds_17 (by decide) ?_
  refine xn_lt (tgt := 25) hx hb cnt 120 rfl rfl (by omega) (by omega) dX3_adds_19 (by decide) (fun c_2 => ?_) (fun c_2 => ?_)
  · exact absurd c_2 (by omega)
  · refine lv_bipush (v := -4) hx hb dX3_adds_22 (by decide) ?_
    exact xr_i hQ E hr hw dX3_adds_24 ⟨rfl, rfl⟩

set_option maxRecDepth 100000 in
set_option maxHeartbeats 4000000 in
theorem c_X3_adds_bad (l : Launch) (g : xCfg) (h : Nat → Nat) (cnt : Nat) (p : Nat) (ca : Int32) (fa : Int32) (od : Int32) (tx : Nat → Int32) (c : Int32) (hb0 : ¬ (0 ≤ c ∧ c ≤ 127)) : Ct l g yX3_adds cX3_adds 2 (some .int) (xR 1 22) [.ref (h 11), .int c] [(h 11, .inr (3, [.ref (h 12), .int (nI cnt), .int (nI p), .int ca, .int fa, .int od, .ref (h 13), .ref (h 14)])), (h 12, .inl (g.2.1, 120, .inl tx))] (is1 (some (.int (-2))) [(h 11, .inr (3, [.ref (h 12), .int (nI cnt), .int (nI p), .int ca, .int fa, .int od, .ref (h 13), .ref (h 14)])), (h 12, .inl (g.2.1, 120, .inl tx))]) := by
  refine Ct.walk (by decide) (Nat.le_of_ble_eq_true rfl) ?_
  intro p0 e0 s0 m0 below meth c0 A0 ls Q hQ E hr hnm hw hl
  have hx := E.x
  have hb := E.b
  have hl : lv_has ls 2 [(0, .ref (h 11)), (1, .int c)] := hl
  refine lv_iload_n hx hb dX3_adds_0 rfl (lv_at hl 1 rfl) ?_
  refine lv_iconst (v := 0) hx hb dX3_adds_1 (by decide) ?_
  refine lv_bipush (v := 127) hx hb dX3_adds_2 (by decide) ?_
  refine x_go (ws' := [(h 11, .inr (3, [.ref (h 12), .int (nI cnt), .int (nI p), .int ca, .int fa, .int od, .ref (h 13), .ref (h 14)])), (h 12, .inl (g.2.1, 120, .inl tx))]) (st1 := [.int (bI (0 ≤ c ∧ c ≤ 127))]) E hw [] rfl (x_runSN (rest := []) E hw (c_X7_within l g c 0 127 ) km_X3_21 ks_X7_within [] rfl (by decide) hl.1 rfl rfl (Nat.le_of_ble_eq_true rfl) ⟨Nat.le_of_ble_eq_true rfl, Nat.le_of_ble_eq_true rfl⟩ ⟨Nat.zero_le _, Nat.zero_le _⟩ dX3_adds_4) rfl rfl rfl (fun H locs hw => ?_)
  refine xb_ne (tgt := 13) hx hb dX3_adds_7 (by decide) (fun ca => ?_) (fun ca => ?_)
  · exact absurd ca hb0
  · refine lv_bipush (v := -2) hx hb dX3_adds_10 (by decide) ?_
    exact xr_i hQ E hr hw dX3_adds_12 ⟨rfl, rfl⟩

set_option maxRecDepth 100000 in
set_option maxHeartbeats 4000000 in
theorem c_X3_empties (l : Launch) (g : xCfg) (h : Nat → Nat) (cnt : Nat) (p : Nat) (ca : Int32) (fa : Int32) (od : Int32)  : Ct l g yX3_empties cX3_empties 2 (some .int) (xR 0 0) [.ref (h 11)] [(h 11, .inr (3, [.ref (h 12), .int (nI cnt), .int (nI p), .int ca, .int fa, .int od, .ref (h 13), .ref (h 14)]))] (is1 (some (.int (nI cnt))) [(h 11, .inr (3, [.ref (h 12), .int 0, .int (nI p), .int ca, .int fa, .int od, .ref (h 13), .ref (h 14)]))]) := by
  refine Ct.walk (by decide) (Nat.le_of_ble_eq_true rfl) ?_
  intro p0 e0 s0 m0 below meth c0 A0 ls Q hQ E hr hnm hw hl
  have hx := E.x
  have hb := E.b
  have hl : lv_has ls 2 [(0, .ref (h 11))] := hl
  refine lv_aload_n hx hb dX3_empties_0 rfl (lv_at hl 0 rfl) ?_
  refine x_get E hw kf_X3_25 0 rfl rfl dX3_empties_1 ?_
  refine lv_istore_n (lv' := [(1, .int (nI cnt)), (0, .ref (h 11))]) hx hb dX3_empties_4 rfl hl (by decide) rfl (fun ls hl => ?_)
  refine lv_aload_n hx hb dX3_empties_5 rfl (lv_at hl 1 rfl) ?_
  refine lv_iconst (v := 0) hx hb dX3_empties_6 (by decide) ?_
  refine x_put E hw kf_X3_25 kp_X3_1 0 rfl (ty := .int) (by decide +kernel) rfl rfl (by simp) (ws' := [(h 11, .inr (3, [.ref (h 12), .int 0, .int (nI p), .int ca, .int fa, .int od, .ref (h 13), .ref (h 14)]))]) rfl dX3_empties_7 (fun H locs hw => ?_)
  refine lv_iload_n hx hb dX3_empties_10 rfl (lv_at hl 0 rfl) ?_
  exact xr_i hQ E hr hw dX3_empties_11 ⟨rfl, rfl⟩

set_option maxRecDepth 100000 in
set_option maxHeartbeats 4000000 in
theorem c_X3_number (l : Launch) (g : xCfg) (h : Nat → Nat) (cnt : Nat) (p : Nat) (ca : Int32) (fa : Int32) (od : Int32) (nu : Nat → Int32) (k : Nat) (j : Nat) (hk : k * 3 + j < 72) : Ct l g yX3_number cX3_number 3 (some .int) (xR 0 0) [.ref (h 11), .int (nI k), .int (nI j)] [(h 11, .inr (3, [.ref (h 12), .int (nI cnt), .int (nI p), .int ca, .int fa, .int od, .ref (h 13), .ref (h 14)])), (h 14, .inl (g.2.1, 72, .inl nu))] (is1 (some (.int (nu (k * 3 + j)))) [(h 11, .inr (3, [.ref (h 12), .int (nI cnt), .int (nI p), .int ca, .int fa, .int od, .ref (h 13), .ref (h 14)])), (h 14, .inl (g.2.1, 72, .inl nu))]) := by
  refine Ct.walk (by decide) (Nat.le_of_ble_eq_true rfl) ?_
  intro p0 e0 s0 m0 below meth c0 A0 ls Q hQ E hr hnm hw hl
  have hx := E.x
  have hb := E.b
  have hl : lv_has ls 3 [(0, .ref (h 11)), (1, .int (nI k)), (2, .int (nI j))] := hl
  refine lv_aload_n hx hb dX3_number_0 rfl (lv_at hl 0 rfl) ?_
  refine x_get E hw kf_X3_18 0 rfl rfl dX3_number_1 ?_
  refine lv_iload_n hx hb dX3_number_4 rfl (lv_at hl 1 rfl) ?_
  refine lv_iconst (v := 3) hx hb dX3_number_5 (by decide) ?_
  refine xn_mul hx hb k 3 rfl rfl dX3_number_6 ?_
  refine lv_iload_n hx hb dX3_number_7 rfl (lv_at hl 2 rfl) ?_
  refine xn_add hx hb (k * 3) j rfl rfl dX3_number_8 ?_
  refine x_ld (v := nu (k * 3 + j)) E hw 1 rfl (k * 3 + j) rfl (by omega) (by decide) rfl dX3_number_9 ?_
  exact xr_i hQ E hr hw dX3_number_10 ⟨rfl, rfl⟩

set_option maxRecDepth 100000 in
set_option maxHeartbeats 4000000 in
theorem c_X3_skipsBlanks (l : Launch) (g : xCfg) (h : Nat → Nat) (cnt : Nat) (p : Nat) (ca : Int32) (fa : Int32) (od : Int32) (tx : Nat → Int32) (hc : cnt ≤ 120) (hp : p ≤ cnt) : Ct l g yX3_skipsBlanks cX3_skipsBlanks 1 none (xR 0 0) [.ref (h 11)] [(h 11, .inr (3, [.ref (h 12), .int (nI cnt), .int (nI p), .int ca, .int fa, .int od, .ref (h 13), .ref (h 14)])), (h 12, .inl (g.2.1, 120, .inl tx))] (is1 none [(h 11, .inr (3, [.ref (h 12), .int (nI cnt), .int (nI (skB tx (cnt - p) p)), .int ca, .int fa, .int od, .ref (h 13), .ref (h 14)])), (h 12, .inl (g.2.1, 120, .inl tx))]) := by
  refine Ct.walk (by decide) (Nat.le_of_ble_eq_true rfl) ?_
  intro p0 e0 s0 m0 below meth c0 A0 ls Q hQ E hr hnm hw hl
  have hx := E.x
  have hb := E.b
  have hl : lv_has ls 1 [(0, .ref (h 11))] := hl
  have lp_0 : ∀ (fuel : Nat) (x : Nat), cnt - x < fuel → x ≤ cnt → skB tx (cnt - x) x = skB tx (cnt - p) p → ∀ (H : Heap) (locs : List Loc) (ls : Array Slot), xW g A0 s0 [(h 11, .inr (3, [.ref (h 12), .int (nI cnt), .int (nI x), .int ca, .int fa, .int od, .ref (h 13), .ref (h 14)])), (h 12, .inl (g.2.1, 120, .inl tx))] H locs → lv_has ls 1 [(0, .ref (h 11))] → W p0 l e0 (xR 0 0) s0 m0 [.ref (h 11)].toArray below meth c0 H locs 0 0 Q (F0 m0 0 ls []) := by
    intro fuel
    induction fuel with
    | zero => intro x hm; exact absurd hm (Nat.not_lt_zero _)
    | succ fuel ih =>
      intro x hm hx0 hv H locs ls hw hl
      refine lv_aload_n hx hb dX3_skipsBlanks_0 rfl (lv_at hl 0 rfl) ?_
      refine x_get E hw kf_X3_29 0 rfl rfl dX3_skipsBlanks_1 ?_
      refine lv_aload_n hx hb dX3_skipsBlanks_4 rfl (lv_at hl 0 rfl) ?_
      refine x_get E hw kf_X3_25 0 rfl rfl dX3_skipsBlanks_5 ?_
      refine xn_ge (tgt := 38) hx hb x cnt rfl rfl (by omega) (by omega) dX3_skipsBlanks_8 (by decide) (fun cl => ?_) (fun cl => ?_)
      · exact xr_v hQ E hr hw dX3_skipsBlanks_38 ⟨rfl, (by rw [← hv, show cnt - x = 0 by omega] <;> rfl)⟩
      · refine lv_aload_n hx hb dX3_skipsBlanks_11 rfl (lv_at hl 0 rfl) ?_
        refine x_get E hw kf_X3_11 0 rfl rfl dX3_skipsBlanks_12 ?_
        refine lv_aload_n hx hb dX3_skipsBlanks_15 rfl (lv_at hl 0 rfl) ?_
        refine x_get E hw kf_X3_29 0 rfl rfl dX3_skipsBlanks_16 ?_
        refine x_ld (v := tx x) E hw 1 rfl x rfl (by omega) (by decide) rfl dX3_skipsBlanks_19 ?_
        refine lv_bipush (v := 32) hx hb dX3_skipsBlanks_20 (by decide) ?_
        refine lv_icmp_ne (tgt := 38) hx hb dX3_skipsBlanks_22 (by decide) (fun cb => ?_) (fun cb => ?_)
        · exact xr_v hQ E hr hw dX3_skipsBlanks_38 ⟨rfl, (by rw [← hv, skB_at cl cb])⟩
        · refine lv_aload_n hx hb dX3_skipsBlanks_25 rfl (lv_at hl 0 rfl) ?_
          refine lv_dup hx hb dX3_skipsBlanks_26 rfl ?_
          refine x_get E hw kf_X3_29 0 rfl rfl dX3_skipsBlanks_27 ?_
          refine lv_iconst (v := 1) hx hb dX3_skipsBlanks_30 (by decide) ?_
          refine xn_add hx hb x 1 rfl rfl dX3_skipsBlanks_31 ?_
          refine x_put E hw kf_X3_29 kp_X3_2 0 rfl (ty := .int) (by decide +kernel) rfl rfl (by simp) (ws' := [(h 11, .inr (3, [.ref (h 12), .int (nI cnt), .int (nI (x + 1)), .int ca, .int fa, .int od, .ref (h 13), .ref (h 14)])), (h 12, .inl (g.2.1, 120, .inl tx))]) rfl dX3_skipsBlanks_32 (fun H locs hw => ?_)
          refine lv_goto (tgt := 0) hx hb dX3_skipsBlanks_35 (by decide) ?_
          have hl : lv_has ls 1 [(0, .ref (h 11))] := lv_sub hl [0] rfl
          have hl : lv_has ls 1 [(0, .ref (h 11))] := hl
          have hw : xW g A0 s0 [(h 11, .inr (3, [.ref (h 12), .int (nI cnt), .int (nI (x + 1)), .int ca, .int fa, .int od, .ref (h 13), .ref (h 14)])), (h 12, .inl (g.2.1, 120, .inl tx))] _ _ := hw
          exact ih (x + 1) (by omega) (by omega) ((skB_st cl cb).symm.trans hv) _ _ _ hw hl
  have hl : lv_has ls 1 [(0, .ref (h 11))] := lv_sub hl [0] rfl
  have hl : lv_has ls 1 [(0, .ref (h 11))] := hl
  have hw : xW g A0 s0 [(h 11, .inr (3, [.ref (h 12), .int (nI cnt), .int (nI p), .int ca, .int fa, .int od, .ref (h 13), .ref (h 14)])), (h 12, .inl (g.2.1, 120, .inl tx))] _ _ := hw
  exact lp_0 ((cnt - p) + 1) p (Nat.lt_succ_self _) (by omega) rfl _ _ _ hw hl

set_option maxRecDepth 100000 in
set_option maxHeartbeats 4000000 in
theorem c_X3_skipsLetters (l : Launch) (g : xCfg) (h : Nat → Nat) (cnt : Nat) (p : Nat) (ca : Int32) (fa : Int32) (od : Int32) (tx : Nat → Int32) (hc : cnt ≤ 120) (hp : p ≤ cnt) : Ct l g yX3_skipsLetters cX3_skipsLetters 1 none (xR 1 22) [.ref (h 11)] [(h 11, .inr (3, [.ref (h 12), .int (nI cnt), .int (nI p), .int ca, .int fa, .int od, .ref (h 13), .ref (h 14)])), (h 12, .inl (g.2.1, 120, .inl tx))] (is1 none [(h 11, .inr (3, [.ref (h 12), .int (nI cnt), .int (nI (skL tx (cnt - p) p)), .int ca, .int fa, .int od, .ref (h 13), .ref (h 14)])), (h 12, .inl (g.2.1, 120, .inl tx))]) := by
  refine Ct.walk (by decide) (Nat.le_of_ble_eq_true rfl) ?_
  intro p0 e0 s0 m0 below meth c0 A0 ls Q hQ E hr hnm hw hl
  have hx := E.x
  have hb := E.b
  have hl : lv_has ls 1 [(0, .ref (h 11))] := hl
  have lp_0 : ∀ (fuel : Nat) (x : Nat), cnt - x < fuel → x ≤ cnt → skL tx (cnt - x) x = skL tx (cnt - p) p → ∀ (H : Heap) (locs : List Loc) (ls : Array Slot), xW g A0 s0 [(h 11, .inr (3, [.ref (h 12), .int (nI cnt), .int (nI x), .int ca, .int fa, .int od, .ref (h 13), .ref (h 14)])), (h 12, .inl (g.2.1, 120, .inl tx))] H locs → lv_has ls 1 [(0, .ref (h 11))] → W p0 l e0 (xR 1 22) s0 m0 [.ref (h 11)].toArray below meth c0 H locs 0 0 Q (F0 m0 0 ls []) := by
    intro fuel
    induction fuel with
    | zero => intro x hm; exact absurd hm (Nat.not_lt_zero _)
    | succ fuel ih =>
      intro x hm hx0 hv H locs ls hw hl
      refine lv_aload_n hx hb dX3_skipsLetters_0 rfl (lv_at hl 0 rfl) ?_
      refine x_get E hw kf_X3_29 0 rfl rfl dX3_skipsLetters_1 ?_
      refine lv_aload_n hx hb dX3_skipsLetters_4 rfl (lv_at hl 0 rfl) ?_
      refine x_get E hw kf_X3_25 0 rfl rfl dX3_skipsLetters_5 ?_
      refine xn_ge (tgt := 43) hx hb x cnt rfl rfl (by omega) (by omega) dX3_skipsLetters_8 (by decide) (fun cl => ?_) (fun cl => ?_)
      · exact xr_v hQ E hr hw dX3_skipsLetters_43 ⟨rfl, (by rw [← hv, show cnt - x = 0 by omega] <;> rfl)⟩
      · refine lv_aload_n hx hb dX3_skipsLetters_11 rfl (lv_at hl 0 rfl) ?_
        refine x_get E hw kf_X3_11 0 rfl rfl dX3_skipsLetters_12 ?_
        refine lv_aload_n hx hb dX3_skipsLetters_15 rfl (lv_at hl 0 rfl) ?_
        refine x_get E hw kf_X3_29 0 rfl rfl dX3_skipsLetters_16 ?_
        refine x_ld (v := tx x) E hw 1 rfl x rfl (by omega) (by decide) rfl dX3_skipsLetters_19 ?_
        refine lv_bipush (v := 97) hx hb dX3_skipsLetters_20 (by decide) ?_
        refine lv_bipush (v := 122) hx hb dX3_skipsLetters_22 (by decide) ?_
        refine x_go (ws' := [(h 11, .inr (3, [.ref (h 12), .int (nI cnt), .int (nI x), .int ca, .int fa, .int od, .ref (h 13), .ref (h 14)])), (h 12, .inl (g.2.1, 120, .inl tx))]) (st1 := [.int (bI (97 ≤ (tx x) ∧ (tx x) ≤ 122))]) E hw [] rfl (x_runSN (rest := []) E hw (c_X7_within l g (tx x) 97 122 ) km_X3_21 ks_X7_within [] rfl (by decide) hl.1 rfl rfl (Nat.le_of_ble_eq_true rfl) ⟨Nat.le_of_ble_eq_true rfl, Nat.le_of_ble_eq_true rfl⟩ ⟨Nat.zero_le _, Nat.zero_le _⟩ dX3_skipsLetters_24) rfl rfl rfl (fun H locs hw => ?_)
        refine xb_eq (tgt := 43) hx hb dX3_skipsLetters_27 (by decide) (fun cb => ?_) (fun cb => ?_)
        · exact xr_v hQ E hr hw dX3_skipsLetters_43 ⟨rfl, (by rw [← hv, skL_at cl cb])⟩
        · refine lv_aload_n hx hb dX3_skipsLetters_30 rfl (lv_at hl 0 rfl) ?_
          refine lv_dup hx hb dX3_skipsLetters_31 rfl ?_
          refine x_get E hw kf_X3_29 0 rfl rfl dX3_skipsLetters_32 ?_
          refine lv_iconst (v := 1) hx hb dX3_skipsLetters_35 (by decide) ?_
          refine xn_add hx hb x 1 rfl rfl dX3_skipsLetters_36 ?_
          refine x_put E hw kf_X3_29 kp_X3_2 0 rfl (ty := .int) (by decide +kernel) rfl rfl (by simp) (ws' := [(h 11, .inr (3, [.ref (h 12), .int (nI cnt), .int (nI (x + 1)), .int ca, .int fa, .int od, .ref (h 13), .ref (h 14)])), (h 12, .inl (g.2.1, 120, .inl tx))]) rfl dX3_skipsLetters_37 (fun H locs hw => ?_)
          refine lv_goto (tgt := 0) hx hb dX3_skipsLetters_40 (by decide) ?_
          have hl : lv_has ls 1 [(0, .ref (h 11))] := lv_sub hl [0] rfl
          have hl : lv_has ls 1 [(0, .ref (h 11))] := hl
          have hw : xW g A0 s0 [(h 11, .inr (3, [.ref (h 12), .int (nI cnt), .int (nI (x + 1)), .int ca, .int fa, .int od, .ref (h 13), .ref (h 14)])), (h 12, .inl (g.2.1, 120, .inl tx))] _ _ := hw
          exact ih (x + 1) (by omega) (by omega) ((skL_st cl cb).symm.trans hv) _ _ _ hw hl
  have hl : lv_has ls 1 [(0, .ref (h 11))] := lv_sub hl [0] rfl
  have hl : lv_has ls 1 [(0, .ref (h 11))] := hl
  have hw : xW g A0 s0 [(h 11, .inr (3, [.ref (h 12), .int (nI cnt), .int (nI p), .int ca, .int fa, .int od, .ref (h 13), .ref (h 14)])), (h 12, .inl (g.2.1, 120, .inl tx))] _ _ := hw
  exact lp_0 ((cnt - p) + 1) p (Nat.lt_succ_self _) (by omega) rfl _ _ _ hw hl

set_option maxRecDepth 100000 in
set_option maxHeartbeats 4000000 in
theorem c_X3_isAt (l : Launch) (g : xCfg) (h : Nat → Nat) (cnt : Nat) (p : Nat) (ca : Int32) (fa : Int32) (od : Int32) (tx : Nat → Int32) (c : Int32) (hc : cnt ≤ 120) (hp : p ≤ cnt) : Ct l g yX3_isAt cX3_isAt 2 (some .boolean) (xR 0 0) [.ref (h 11), .int c] [(h 11, .inr (3, [.ref (h 12), .int (nI cnt), .int (nI p), .int ca, .int fa, .int od, .ref (h 13), .ref (h 14)])), (h 12, .inl (g.2.1, 120, .inl tx))] (is1 (some (.int (bI (p < cnt ∧ tx p = c)))) [(h 11, .inr (3, [.ref (h 12), .int (nI cnt), .int (nI p), .int ca, .int fa, .int od, .ref (h 13), .ref (h 14)])), (h 12, .inl (g.2.1, 120, .inl tx))]) := by
  refine Ct.walk (by decide) (Nat.le_of_ble_eq_true rfl) ?_
  intro p0 e0 s0 m0 below meth c0 A0 ls Q hQ E hr hnm hw hl
  have hx := E.x
  have hb := E.b
  have hl : lv_has ls 2 [(0, .ref (h 11)), (1, .int c)] := hl
  refine lv_aload_n hx hb dX3_isAt_0 rfl (lv_at hl 0 rfl) ?_
  refine x_get E hw kf_X3_29 0 rfl rfl dX3_isAt_1 ?_
  refine lv_aload_n hx hb dX3_isAt_4 rfl (lv_at hl 0 rfl) ?_
  refine x_get E hw kf_X3_25 0 rfl rfl dX3_isAt_5 ?_
  refine xn_ge (tgt := 28) hx hb p cnt rfl rfl (by omega) (by omega) dX3_isAt_8 (by decide) (fun cl => ?_) (fun cl => ?_)
  · refine lv_iconst (v := 0) hx hb dX3_isAt_28 (by decide) ?_
    exact xr_z hQ E hr hw dX3_isAt_29 (by decide) ⟨congrArg (fun z => some (Value.int z)) ((bI_f (fun z => absurd z.1 (by omega))).symm), rfl⟩
  · refine lv_aload_n hx hb dX3_isAt_11 rfl (lv_at hl 0 rfl) ?_
    refine x_get E hw kf_X3_11 0 rfl rfl dX3_isAt_12 ?_
    refine lv_aload_n hx hb dX3_isAt_15 rfl (lv_at hl 0 rfl) ?_
    refine x_get E hw kf_X3_29 0 rfl rfl dX3_isAt_16 ?_
    refine x_ld (v := tx p) E hw 1 rfl p rfl (by omega) (by decide) rfl dX3_isAt_19 ?_
    refine lv_iload_n hx hb dX3_isAt_20 rfl (lv_at hl 1 rfl) ?_
    refine lv_icmp_ne (tgt := 28) hx hb dX3_isAt_21 (by decide) (fun cb => ?_) (fun cb => ?_)
    · refine lv_iconst (v := 0) hx hb dX3_isAt_28 (by decide) ?_
      exact xr_z hQ E hr hw dX3_isAt_29 (by decide) ⟨congrArg (fun z => some (Value.int z)) ((bI_f (fun z => cb z.2)).symm), rfl⟩
    · refine lv_iconst (v := 1) hx hb dX3_isAt_24 (by decide) ?_
      refine lv_goto (tgt := 29) hx hb dX3_isAt_25 (by decide) ?_
      exact xr_z hQ E hr hw dX3_isAt_29 (by decide) ⟨congrArg (fun z => some (Value.int z)) ((bI_t ⟨cl, cb⟩).symm), rfl⟩

set_option maxRecDepth 100000 in
set_option maxHeartbeats 4000000 in
theorem c_X3_isAtFigure (l : Launch) (g : xCfg) (h : Nat → Nat) (cnt : Nat) (p : Nat) (ca : Int32) (fa : Int32) (od : Int32) (tx : Nat → Int32) (hc : cnt ≤ 120) (hp : p ≤ cnt) : Ct l g yX3_isAtFigure cX3_isAtFigure 1 (some .boolean) (xR 1 22) [.ref (h 11)] [(h 11, .inr (3, [.ref (h 12), .int (nI cnt), .int (nI p), .int ca, .int fa, .int od, .ref (h 13), .ref (h 14)])), (h 12, .inl (g.2.1, 120, .inl tx))] (is1 (some (.int (bI (p < cnt ∧ (48 ≤ tx p ∧ tx p ≤ 57))))) [(h 11, .inr (3, [.ref (h 12), .int (nI cnt), .int (nI p), .int ca, .int fa, .int od, .ref (h 13), .ref (h 14)])), (h 12, .inl (g.2.1, 120, .inl tx))]) := by
  refine Ct.walk (by decide) (Nat.le_of_ble_eq_true rfl) ?_
  intro p0 e0 s0 m0 below meth c0 A0 ls Q hQ E hr hnm hw hl
  have hx := E.x
  have hb := E.b
  have hl : lv_has ls 1 [(0, .ref (h 11))] := hl
  refine lv_aload_n hx hb dX3_isAtFigure_0 rfl (lv_at hl 0 rfl) ?_
  refine x_get E hw kf_X3_29 0 rfl rfl dX3_isAtFigure_1 ?_
  refine lv_aload_n hx hb dX3_isAtFigure_4 rfl (lv_at hl 0 rfl) ?_
  refine x_get E hw kf_X3_25 0 rfl rfl dX3_isAtFigure_5 ?_
  refine xn_ge (tgt := 34) hx hb p cnt rfl rfl (by omega) (by omega) dX3_isAtFigure_8 (by decide) (fun cl => ?_) (fun cl => ?_)
  · refine lv_iconst (v := 0) hx hb dX3_isAtFigure_34 (by decide) ?_
    exact xr_z hQ E hr hw dX3_isAtFigure_35 (by decide) ⟨congrArg (fun z => some (Value.int z)) ((bI_f (fun z => absurd z.1 (by omega))).symm), rfl⟩
  · refine lv_aload_n hx hb dX3_isAtFigure_11 rfl (lv_at hl 0 rfl) ?_
    refine x_get E hw kf_X3_11 0 rfl rfl dX3_isAtFigure_12 ?_
    refine lv_aload_n hx hb dX3_isAtFigure_15 rfl (lv_at hl 0 rfl) ?_
    refine x_get E hw kf_X3_29 0 rfl rfl dX3_isAtFigure_16 ?_
    refine x_ld (v := tx p) E hw 1 rfl p rfl (by omega) (by decide) rfl dX3_isAtFigure_19 ?_
    refine lv_bipush (v := 48) hx hb dX3_isAtFigure_20 (by decide) ?_
    refine lv_bipush (v := 57) hx hb dX3_isAtFigure_22 (by decide) ?_
    refine x_go (ws' := [(h 11, .inr (3, [.ref (h 12), .int (nI cnt), .int (nI p), .int ca, .int fa, .int od, .ref (h 13), .ref (h 14)])), (h 12, .inl (g.2.1, 120, .inl tx))]) (st1 := [.int (bI (48 ≤ (tx p) ∧ (tx p) ≤ 57))]) E hw [] rfl (x_runSN (rest := []) E hw (c_X7_within l g (tx p) 48 57 ) km_X3_21 ks_X7_within [] rfl (by decide) hl.1 rfl rfl (Nat.le_of_ble_eq_true rfl) ⟨Nat.le_of_ble_eq_true rfl, Nat.le_of_ble_eq_true rfl⟩ ⟨Nat.zero_le _, Nat.zero_le _⟩ dX3_isAtFigure_24) rfl rfl rfl (fun H locs hw => ?_)
    refine xb_eq (tgt := 34) hx hb dX3_isAtFigure_27 (by decide) (fun cb => ?_) (fun cb => ?_)
    · refine lv_iconst (v := 0) hx hb dX3_isAtFigure_34 (by decide) ?_
      exact xr_z hQ E hr hw dX3_isAtFigure_35 (by decide) ⟨congrArg (fun z => some (Value.int z)) ((bI_f (fun z => cb z.2)).symm), rfl⟩
    · refine lv_iconst (v := 1) hx hb dX3_isAtFigure_30 (by decide) ?_
      refine lv_goto (tgt := 35) hx hb dX3_isAtFigure_31 (by decide) ?_
      exact xr_z hQ E hr hw dX3_isAtFigure_35 (by decide) ⟨congrArg (fun z => some (Value.int z)) ((bI_t ⟨cl, cb⟩).symm), rfl⟩

set_option maxRecDepth 100000 in
set_option maxHeartbeats 4000000 in
theorem c_X3_spells (l : Launch) (g : xCfg) (h : Nat → Nat) (cnt : Nat) (p : Nat) (ca : Int32) (fa : Int32) (od : Int32) (tx : Nat → Int32) (a : Nat) (e : Nat) (i : Nat) (hi : i < 9) (ha : a ≤ e) (he : e ≤ 120) : Ct l g yX3_spells cX3_spells 5 (some .boolean) (xR 4 85) [.ref (h 11), .int (nI a), .int (nI e), .ref (g.2.2.2.2.1 i)] [(h 11, .inr (3, [.ref (h 12), .int (nI cnt), .int (nI p), .int ca, .int fa, .int od, .ref (h 13), .ref (h 14)])), (h 12, .inl (g.2.1, 120, .inl tx))] (is1 (some (.int (bI (splP tx a e i)))) [(h 11, .inr (3, [.ref (h 12), .int (nI cnt), .int (nI p), .int ca, .int fa, .int od, .ref (h 13), .ref (h 14)])), (h 12, .inl (g.2.1, 120, .inl tx))]) := by
  refine Ct.walk (by decide) (Nat.le_of_ble_eq_true rfl) ?_
  intro p0 e0 s0 m0 below meth c0 A0 ls Q hQ E hr hnm hw hl
  have hx := E.x
  have hb := E.b
  have hl : lv_has ls 5 [(0, .ref (h 11)), (1, .int (nI a)), (2, .int (nI e)), (3, .ref (g.2.2.2.2.1 i))] := hl
  refine lv_iload_n hx hb dX3_spells_0 rfl (lv_at hl 2 rfl) ?_
  refine lv_iload_n hx hb dX3_spells_1 rfl (lv_at hl 1 rfl) ?_
  refine xn_sub hx hb e a rfl rfl (by omega) dX3_spells_2 ?_
  refine lv_aload_n hx hb dX3_spells_3 rfl (lv_at hl 3 rfl) ?_
  refine x_go (ws' := [(h 11, .inr (3, [.ref (h 12), .int (nI cnt), .int (nI p), .int ca, .int fa, .int od, .ref (h 13), .ref (h 14)])), (h 12, .inl (g.2.1, 120, .inl tx))]) (st1 := [.int (nI (xLen.getD i 0)), .int (nI (e - a))]) E hw [] rfl (x_runK (i := i) (rest := [.int (nI (e - a))]) E hw (c_J0_length_8abf5 l g i (by omega)) km_X3_78 ki_J0_length_8abf5 (wB 660 rfl rfl) hi [] rfl (by decide) hl.1 rfl rfl (Nat.le_of_ble_eq_true rfl) ⟨Nat.le_of_ble_eq_true rfl, Nat.le_of_ble_eq_true rfl⟩ ⟨Nat.zero_le _, Nat.zero_le _⟩ dX3_spells_4) rfl rfl rfl (fun H locs hw => ?_)
  refine xn_eq (tgt := 12) hx hb (e - a) (xLen.getD i 0) rfl rfl (by omega) (by have := xLen_le i hi; omega) dX3_spells_7 (by decide) (fun cl => ?_) (fun cl => ?_)
  · refine lv_iconst (v := 0) hx hb dX3_spells_12 (by decide) ?_
    refine lv_istore (lv' := [(4, .int 0), (0, .ref (h 11)), (1, .int (nI a)), (2, .int (nI e)), (3, .ref (g.2.2.2.2.1 i))]) hx hb dX3_spells_13 hl (by decide) rfl (fun ls hl => ?_)
    have lp_15 : ∀ (fuel : Nat) (j : Nat), xLen.getD i 0 - j < fuel → j ≤ xLen.getD i 0 → spB tx a i (xLen.getD i 0 - j) j = spB tx a i (xLen.getD i 0) 0 → ∀ (H : Heap) (locs : List Loc) (ls : Array Slot), xW g A0 s0 [(h 11, .inr (3, [.ref (h 12), .int (nI cnt), .int (nI p), .int ca, .int fa, .int od, .ref (h 13), .ref (h 14)])), (h 12, .inl (g.2.1, 120, .inl tx))] H locs → lv_has ls 5 [(4, .int (nI j)), (0, .ref (h 11)), (1, .int (nI a)), (2, .int (nI e)), (3, .ref (g.2.2.2.2.1 i))] → W p0 l e0 (xR 4 85) s0 m0 [.ref (h 11), .int (nI a), .int (nI e), .ref (g.2.2.2.2.1 i)].toArray below meth c0 H locs 0 0 Q (F0 m0 15 ls []) := by
      intro fuel
      induction fuel with
      | zero => intro j hm; exact absurd hm (Nat.not_lt_zero _)
      | succ fuel ih =>
        intro j hm hj hv H locs ls hw hl
        refine lv_iload hx hb dX3_spells_15 (lv_at hl 0 rfl) ?_
        refine lv_aload_n hx hb dX3_spells_17 rfl (lv_at hl 4 rfl) ?_
        refine x_go (ws' := [(h 11, .inr (3, [.ref (h 12), .int (nI cnt), .int (nI p), .int ca, .int fa, .int od, .ref (h 13), .ref (h 14)])), (h 12, .inl (g.2.1, 120, .inl tx))]) (st1 := [.int (nI (xLen.getD i 0)), .int (nI j)]) E hw [] rfl (x_runK (i := i) (rest := [.int (nI j)]) E hw (c_J0_length_8abf5 l g i (by omega)) km_X3_78 ki_J0_length_8abf5 (wB 660 rfl rfl) hi [] rfl (by decide) hl.1 rfl rfl (Nat.le_of_ble_eq_true rfl) ⟨Nat.le_of_ble_eq_true rfl, Nat.le_of_ble_eq_true rfl⟩ ⟨Nat.zero_le _, Nat.zero_le _⟩ dX3_spells_18) rfl rfl rfl (fun H locs hw => ?_)
        refine xn_ge (tgt := 50) hx hb j (xLen.getD i 0) rfl rfl (by have := xLen_le i hi; omega) (by have := xLen_le i hi; omega) dX3_spells_21 (by decide) (fun cj => ?_) (fun cj => ?_)
        · refine lv_iconst (v := 1) hx hb dX3_spells_50 (by decide) ?_
          exact xr_z hQ E hr hw dX3_spells_51 (by decide) ⟨congrArg (fun z => some (Value.int z)) ((bI_t ⟨cl, by rw [← hv, show xLen.getD i 0 - j = 0 by omega]; rfl⟩).symm), rfl⟩
        · refine lv_aload_n hx hb dX3_spells_24 rfl (lv_at hl 1 rfl) ?_
          refine x_get E hw kf_X3_11 0 rfl rfl dX3_spells_25 ?_
          refine lv_iload_n hx hb dX3_spells_28 rfl (lv_at hl 2 rfl) ?_
          refine lv_iload hx hb dX3_spells_29 (lv_at hl 0 rfl) ?_
          refine xn_add hx hb a j rfl rfl dX3_spells_31 ?_
          refine x_ld (v := tx (a + j)) E hw 1 rfl (a + j) rfl (by omega) (by decide) rfl dX3_spells_32 ?_
          refine lv_aload_n hx hb dX3_spells_33 rfl (lv_at hl 4 rfl) ?_
          refine lv_iload hx hb dX3_spells_34 (lv_at hl 0 rfl) ?_
          refine x_go (ws' := [(h 11, .inr (3, [.ref (h 12), .int (nI cnt), .int (nI p), .int ca, .int fa, .int od, .ref (h 13), .ref (h 14)])), (h 12, .inl (g.2.1, 120, .inl tx))]) (st1 := [.int (chr i j), .int (tx (a + j))]) E hw [] rfl (x_runK (i := i) (rest := [.int (tx (a + j))]) E hw (c_J0_charAt_5068e l g i j (by omega) (by omega)) km_X3_84 ki_J0_charAt_5068e (wB 670 rfl rfl) hi [] rfl (by decide) hl.1 rfl rfl (Nat.le_of_ble_eq_true rfl) ⟨Nat.le_of_ble_eq_true rfl, Nat.le_of_ble_eq_true rfl⟩ ⟨Nat.zero_le _, Nat.zero_le _⟩ dX3_spells_36) rfl rfl rfl (fun H locs hw => ?_)
          refine lv_icmp_eq (tgt := 44) hx hb dX3_spells_39 (by decide) (fun ce => ?_) (fun ce => ?_)
          · refine lv_iinc (v := nI (j + 1)) (lv' := [(4, .int (nI (j + 1))), (0, .ref (h 11)), (1, .int (nI a)), (2, .int (nI e)), (3, .ref (g.2.2.2.2.1 i))]) hx hb dX3_spells_44 hl (k := 0) rfl (nI_1 _) (by decide) rfl (fun ls hl => ?_)
            refine lv_goto (tgt := 15) hx hb dX3_spells_47 (by decide) ?_
            have hl : lv_has ls 5 [(4, .int (nI (j + 1))), (0, .ref (h 11)), (1, .int (nI a)), (2, .int (nI e)), (3, .ref (g.2.2.2.2.1 i))] := lv_sub hl [0, 1, 2, 3, 4] rfl
            have hl : lv_has ls 5 [(4, .int (nI (j + 1))), (0, .ref (h 11)), (1, .int (nI a)), (2, .int (nI e)), (3, .ref (g.2.2.2.2.1 i))] := hl
            have hw : xW g A0 s0 [(h 11, .inr (3, [.ref (h 12), .int (nI cnt), .int (nI p), .int ca, .int fa, .int od, .ref (h 13), .ref (h 14)])), (h 12, .inl (g.2.1, 120, .inl tx))] _ _ := hw
            exact ih (j + 1) (by omega) (by omega) ((spB_st cj ce).symm.trans hv) _ _ _ hw hl
          · refine lv_iconst (v := 0) hx hb dX3_spells_42 (by decide) ?_
            exact xr_z hQ E hr hw dX3_spells_43 (by decide) ⟨congrArg (fun z => some (Value.int z)) ((bI_f (fun z => by have q := z.2; rw [← hv, spB_no cj ce] at q; exact absurd q (by decide))).symm), rfl⟩
    have hl : lv_has ls 5 [(4, .int 0), (0, .ref (h 11)), (1, .int (nI a)), (2, .int (nI e)), (3, .ref (g.2.2.2.2.1 i))] := lv_sub hl [0, 1, 2, 3, 4] rfl
    have hl : lv_has ls 5 [(4, .int 0), (0, .ref (h 11)), (1, .int (nI a)), (2, .int (nI e)), (3, .ref (g.2.2.2.2.1 i))] := hl
    have hw : xW g A0 s0 [(h 11, .inr (3, [.ref (h 12), .int (nI cnt), .int (nI p), .int ca, .int fa, .int od, .ref (h 13), .ref (h 14)])), (h 12, .inl (g.2.1, 120, .inl tx))] _ _ := hw
    exact lp_15 ((xLen.getD i 0 - 0) + 1) 0 (Nat.lt_succ_self _) (by omega) rfl _ _ _ hw hl
  · refine lv_iconst (v := 0) hx hb dX3_spells_10 (by decide) ?_
    exact xr_z hQ E hr hw dX3_spells_11 (by decide) ⟨congrArg (fun z => some (Value.int z)) ((bI_f (fun z => cl z.1)).symm), rfl⟩

set_option maxRecDepth 100000 in
set_option maxHeartbeats 4000000 in
theorem c_X3_spelling_0 (l : Launch) (g : xCfg)   : Ct l g yX3_spelling cX3_spelling 1 (some ((.object "java/lang/String"))) (xR 0 0) [.int 0] [] (is1 (some (.ref (g.2.2.2.2.1 0))) []) := by
  refine Ct.walk (by decide) (Nat.le_of_ble_eq_true rfl) ?_
  intro p0 e0 s0 m0 below meth c0 A0 ls Q hQ E hr hnm hw hl
  have hx := E.x
  have hb := E.b
  have hl : lv_has ls 1 [(0, .int 0)] := hl
  refine lv_iload_n hx hb dX3_spelling_0 rfl (lv_at hl 0 rfl) ?_
  refine x_sw (v := 0) (off := 47) (tgt := 48) hx hb dX3_spelling_1 rfl (by decide) (by decide) (by decide) (by decide) ?_
  refine va_ldcS hx hb E.ow (E.lit 0 (by decide)) dX3_spelling_48 ?_
  exact xr_a hQ E hr hw dX3_spelling_50 ⟨rfl, rfl⟩

set_option maxRecDepth 100000 in
set_option maxHeartbeats 4000000 in
theorem c_X3_spelling_1 (l : Launch) (g : xCfg)   : Ct l g yX3_spelling cX3_spelling 1 (some ((.object "java/lang/String"))) (xR 0 0) [.int 1] [] (is1 (some (.ref (g.2.2.2.2.1 1))) []) := by
  refine Ct.walk (by decide) (Nat.le_of_ble_eq_true rfl) ?_
  intro p0 e0 s0 m0 below meth c0 A0 ls Q hQ E hr hnm hw hl
  have hx := E.x
  have hb := E.b
  have hl : lv_has ls 1 [(0, .int 1)] := hl
  refine lv_iload_n hx hb dX3_spelling_0 rfl (lv_at hl 0 rfl) ?_
  refine x_sw (v := 1) (off := 50) (tgt := 51) hx hb dX3_spelling_1 rfl (by decide) (by decide) (by decide) (by decide) ?_
  refine va_ldcS hx hb E.ow (E.lit 1 (by decide)) dX3_spelling_51 ?_
  exact xr_a hQ E hr hw dX3_spelling_53 ⟨rfl, rfl⟩

set_option maxRecDepth 100000 in
set_option maxHeartbeats 4000000 in
theorem c_X3_spelling_2 (l : Launch) (g : xCfg)   : Ct l g yX3_spelling cX3_spelling 1 (some ((.object "java/lang/String"))) (xR 0 0) [.int 2] [] (is1 (some (.ref (g.2.2.2.2.1 2))) []) := by
  refine Ct.walk (by decide) (Nat.le_of_ble_eq_true rfl) ?_
  intro p0 e0 s0 m0 below meth c0 A0 ls Q hQ E hr hnm hw hl
  have hx := E.x
  have hb := E.b
  have hl : lv_has ls 1 [(0, .int 2)] := hl
  refine lv_iload_n hx hb dX3_spelling_0 rfl (lv_at hl 0 rfl) ?_
  refine x_sw (v := 2) (off := 53) (tgt := 54) hx hb dX3_spelling_1 rfl (by decide) (by decide) (by decide) (by decide) ?_
  refine va_ldcS hx hb E.ow (E.lit 2 (by decide)) dX3_spelling_54 ?_
  exact xr_a hQ E hr hw dX3_spelling_56 ⟨rfl, rfl⟩

set_option maxRecDepth 100000 in
set_option maxHeartbeats 4000000 in
theorem c_X3_spelling_3 (l : Launch) (g : xCfg)   : Ct l g yX3_spelling cX3_spelling 1 (some ((.object "java/lang/String"))) (xR 0 0) [.int 3] [] (is1 (some (.ref (g.2.2.2.2.1 3))) []) := by
  refine Ct.walk (by decide) (Nat.le_of_ble_eq_true rfl) ?_
  intro p0 e0 s0 m0 below meth c0 A0 ls Q hQ E hr hnm hw hl
  have hx := E.x
  have hb := E.b
  have hl : lv_has ls 1 [(0, .int 3)] := hl
  refine lv_iload_n hx hb dX3_spelling_0 rfl (lv_at hl 0 rfl) ?_
  refine x_sw (v := 3) (off := 56) (tgt := 57) hx hb dX3_spelling_1 rfl (by decide) (by decide) (by decide) (by decide) ?_
  refine va_ldcS hx hb E.ow (E.lit 3 (by decide)) dX3_spelling_57 ?_
  exact xr_a hQ E hr hw dX3_spelling_59 ⟨rfl, rfl⟩

set_option maxRecDepth 100000 in
set_option maxHeartbeats 4000000 in
theorem c_X3_spelling_4 (l : Launch) (g : xCfg)   : Ct l g yX3_spelling cX3_spelling 1 (some ((.object "java/lang/String"))) (xR 0 0) [.int 4] [] (is1 (some (.ref (g.2.2.2.2.1 4))) []) := by
  refine Ct.walk (by decide) (Nat.le_of_ble_eq_true rfl) ?_
  intro p0 e0 s0 m0 below meth c0 A0 ls Q hQ E hr hnm hw hl
  have hx := E.x
  have hb := E.b
  have hl : lv_has ls 1 [(0, .int 4)] := hl
  refine lv_iload_n hx hb dX3_spelling_0 rfl (lv_at hl 0 rfl) ?_
  refine x_sw (v := 4) (off := 59) (tgt := 60) hx hb dX3_spelling_1 rfl (by decide) (by decide) (by decide) (by decide) ?_
  refine va_ldcS hx hb E.ow (E.lit 4 (by decide)) dX3_spelling_60 ?_
  exact xr_a hQ E hr hw dX3_spelling_62 ⟨rfl, rfl⟩

set_option maxRecDepth 100000 in
set_option maxHeartbeats 4000000 in
theorem c_X3_spelling_5 (l : Launch) (g : xCfg)   : Ct l g yX3_spelling cX3_spelling 1 (some ((.object "java/lang/String"))) (xR 0 0) [.int 5] [] (is1 (some (.ref (g.2.2.2.2.1 5))) []) := by
  refine Ct.walk (by decide) (Nat.le_of_ble_eq_true rfl) ?_
  intro p0 e0 s0 m0 below meth c0 A0 ls Q hQ E hr hnm hw hl
  have hx := E.x
  have hb := E.b
  have hl : lv_has ls 1 [(0, .int 5)] := hl
  refine lv_iload_n hx hb dX3_spelling_0 rfl (lv_at hl 0 rfl) ?_
  refine x_sw (v := 5) (off := 62) (tgt := 63) hx hb dX3_spelling_1 rfl (by decide) (by decide) (by decide) (by decide) ?_
  refine va_ldcS hx hb E.ow (E.lit 5 (by decide)) dX3_spelling_63 ?_
  exact xr_a hQ E hr hw dX3_spelling_65 ⟨rfl, rfl⟩

set_option maxRecDepth 100000 in
set_option maxHeartbeats 4000000 in
theorem c_X3_spelling_6 (l : Launch) (g : xCfg)   : Ct l g yX3_spelling cX3_spelling 1 (some ((.object "java/lang/String"))) (xR 0 0) [.int 6] [] (is1 (some (.ref (g.2.2.2.2.1 6))) []) := by
  refine Ct.walk (by decide) (Nat.le_of_ble_eq_true rfl) ?_
  intro p0 e0 s0 m0 below meth c0 A0 ls Q hQ E hr hnm hw hl
  have hx := E.x
  have hb := E.b
  have hl : lv_has ls 1 [(0, .int 6)] := hl
  refine lv_iload_n hx hb dX3_spelling_0 rfl (lv_at hl 0 rfl) ?_
  refine x_sw (v := 6) (off := 65) (tgt := 66) hx hb dX3_spelling_1 rfl (by decide) (by decide) (by decide) (by decide) ?_
  refine va_ldcS hx hb E.ow (E.lit 6 (by decide)) dX3_spelling_66 ?_
  exact xr_a hQ E hr hw dX3_spelling_68 ⟨rfl, rfl⟩

set_option maxRecDepth 100000 in
set_option maxHeartbeats 4000000 in
theorem c_X3_spelling_7 (l : Launch) (g : xCfg)   : Ct l g yX3_spelling cX3_spelling 1 (some ((.object "java/lang/String"))) (xR 0 0) [.int 7] [] (is1 (some (.ref (g.2.2.2.2.1 7))) []) := by
  refine Ct.walk (by decide) (Nat.le_of_ble_eq_true rfl) ?_
  intro p0 e0 s0 m0 below meth c0 A0 ls Q hQ E hr hnm hw hl
  have hx := E.x
  have hb := E.b
  have hl : lv_has ls 1 [(0, .int 7)] := hl
  refine lv_iload_n hx hb dX3_spelling_0 rfl (lv_at hl 0 rfl) ?_
  refine x_sw (v := 7) (off := 68) (tgt := 69) hx hb dX3_spelling_1 rfl (by decide) (by decide) (by decide) (by decide) ?_
  refine va_ldcS hx hb E.ow (E.lit 7 (by decide)) dX3_spelling_69 ?_
  exact xr_a hQ E hr hw dX3_spelling_71 ⟨rfl, rfl⟩

set_option maxRecDepth 100000 in
set_option maxHeartbeats 4000000 in
theorem c_X3_wordBetween (l : Launch) (g : xCfg) (h : Nat → Nat) (cnt : Nat) (p : Nat) (ca : Int32) (fa : Int32) (od : Int32) (tx : Nat → Int32) (a : Nat) (e : Nat) (ha : a ≤ e) (he : e ≤ 120) : Ct l g yX3_wordBetween cX3_wordBetween 4 (some .int) (xR 5 109) [.ref (h 11), .int (nI a), .int (nI e)] [(h 11, .inr (3, [.ref (h 12), .int (nI cnt), .int (nI p), .int ca, .int fa, .int od, .ref (h 13), .ref (h 14)])), (h 12, .inl (g.2.1, 120, .inl tx))] (is1 (some (.int (wrd tx a e))) [(h 11, .inr (3, [.ref (h 12), .int (nI cnt), .int (nI p), .int ca, .int fa, .int od, .ref (h 13), .ref (h 14)])), (h 12, .inl (g.2.1, 120, .inl tx))]) := by
  refine Ct.walk (by decide) (Nat.le_of_ble_eq_true rfl) ?_
  intro p0 e0 s0 m0 below meth c0 A0 ls Q hQ E hr hnm hw hl
  have hx := E.x
  have hb := E.b
  have hl : lv_has ls 4 [(0, .ref (h 11)), (1, .int (nI a)), (2, .int (nI e))] := hl
  refine lv_iconst (v := 0) hx hb dX3_wordBetween_0 (by decide) ?_
  refine lv_istore_n (lv' := [(3, .int 0), (0, .ref (h 11)), (1, .int (nI a)), (2, .int (nI e))]) hx hb dX3_wordBetween_1 rfl hl (by decide) rfl (fun ls hl => ?_)
  refine lv_iload_n hx hb dX3_wordBetween_2 rfl (lv_at hl 0 rfl) ?_
  refine lv_bipush (v := 8) hx hb dX3_wordBetween_3 (by decide) ?_
  refine lv_icmp_ge (tgt := 29) hx hb dX3_wordBetween_5 (by decide) (fun h => absurd h (by decide)) (fun _ => ?_)
  refine lv_aload_n hx hb dX3_wordBetween_8 rfl (lv_at hl 1 rfl) ?_
  refine lv_iload_n hx hb dX3_wordBetween_9 rfl (lv_at hl 2 rfl) ?_
  refine lv_iload_n hx hb dX3_wordBetween_10 rfl (lv_at hl 3 rfl) ?_
  refine lv_iload_n hx hb dX3_wordBetween_11 rfl (lv_at hl 0 rfl) ?_
  refine x_go (ws' := [(h 11, .inr (3, [.ref (h 12), .int (nI cnt), .int (nI p), .int ca, .int fa, .int od, .ref (h 13), .ref (h 14)])), (h 12, .inl (g.2.1, 120, .inl tx))]) (st1 := [.ref (g.2.2.2.2.1 0), .int (nI e), .int (nI a), .ref (h 11)]) E hw [] rfl (x_runS (rest := [.int (nI e), .int (nI a), .ref (h 11)]) E hw (c_X3_spelling_0 l g  ) km_X3_70 ks_X3_spelling [] rfl (by decide) hl.1 rfl rfl (Nat.le_of_ble_eq_true rfl) ⟨Nat.le_of_ble_eq_true rfl, Nat.le_of_ble_eq_true rfl⟩ ⟨Nat.zero_le _, Nat.zero_le _⟩ dX3_wordBetween_12) rfl rfl rfl (fun H locs hw => ?_)
  refine x_go (ws' := [(h 11, .inr (3, [.ref (h 12), .int (nI cnt), .int (nI p), .int ca, .int fa, .int od, .ref (h 13), .ref (h 14)])), (h 12, .inl (g.2.1, 120, .inl tx))]) (st1 := [.int (bI (splP tx a e 0))]) E hw [0, 1] rfl (x_runV (rest := []) E hw (c_X3_spells l g h cnt p ca fa od tx a e 0 (by decide) (by omega) (by omega)) km_X3_74 kv_X3_spells [0, 1] rfl (by decide) 0 rfl hl.1 rfl rfl (Nat.le_of_ble_eq_true rfl) ⟨Nat.le_of_ble_eq_true rfl, Nat.le_of_ble_eq_true rfl⟩ ⟨Nat.zero_le _, Nat.zero_le _⟩ dX3_wordBetween_15) rfl rfl rfl (fun H locs hw => ?_)
  refine xb_eq (tgt := 23) hx hb dX3_wordBetween_18 (by decide) (fun c_2 => ?_) (fun c_2 => ?_)
  · refine lv_iinc (v := 1) (lv' := [(3, .int 1), (0, .ref (h 11)), (1, .int (nI a)), (2, .int (nI e))]) hx hb dX3_wordBetween_23 hl (k := 0) rfl (by decide) (by decide) rfl (fun ls hl => ?_)
    refine lv_goto (tgt := 2) hx hb dX3_wordBetween_26 (by decide) ?_
    refine lv_iload_n hx hb dX3_wordBetween_2 rfl (lv_at hl 0 rfl) ?_
    refine lv_bipush (v := 8) hx hb dX3_wordBetween_3 (by decide) ?_
    refine lv_icmp_ge (tgt := 29) hx hb dX3_wordBetween_5 (by decide) (fun h => absurd h (by decide)) (fun _ => ?_)
    refine lv_aload_n hx hb dX3_wordBetween_8 rfl (lv_at hl 1 rfl) ?_
    refine lv_iload_n hx hb dX3_wordBetween_9 rfl (lv_at hl 2 rfl) ?_
    refine lv_iload_n hx hb dX3_wordBetween_10 rfl (lv_at hl 3 rfl) ?_
    refine lv_iload_n hx hb dX3_wordBetween_11 rfl (lv_at hl 0 rfl) ?_
    refine x_go (ws' := [(h 11, .inr (3, [.ref (h 12), .int (nI cnt), .int (nI p), .int ca, .int fa, .int od, .ref (h 13), .ref (h 14)])), (h 12, .inl (g.2.1, 120, .inl tx))]) (st1 := [.ref (g.2.2.2.2.1 1), .int (nI e), .int (nI a), .ref (h 11)]) E hw [] rfl (x_runS (rest := [.int (nI e), .int (nI a), .ref (h 11)]) E hw (c_X3_spelling_1 l g  ) km_X3_70 ks_X3_spelling [] rfl (by decide) hl.1 rfl rfl (Nat.le_of_ble_eq_true rfl) ⟨Nat.le_of_ble_eq_true rfl, Nat.le_of_ble_eq_true rfl⟩ ⟨Nat.zero_le _, Nat.zero_le _⟩ dX3_wordBetween_12) rfl rfl rfl (fun H locs hw => ?_)
    refine x_go (ws' := [(h 11, .inr (3, [.ref (h 12), .int (nI cnt), .int (nI p), .int ca, .int fa, .int od, .ref (h 13), .ref (h 14)])), (h 12, .inl (g.2.1, 120, .inl tx))]) (st1 := [.int (bI (splP tx a e 1))]) E hw [0, 1] rfl (x_runV (rest := []) E hw (c_X3_spells l g h cnt p ca fa od tx a e 1 (by decide) (by omega) (by omega)) km_X3_74 kv_X3_spells [0, 1] rfl (by decide) 0 rfl hl.1 rfl rfl (Nat.le_of_ble_eq_true rfl) ⟨Nat.le_of_ble_eq_true rfl, Nat.le_of_ble_eq_true rfl⟩ ⟨Nat.zero_le _, Nat.zero_le _⟩ dX3_wordBetween_15) rfl rfl rfl (fun H locs hw => ?_)
    refine xb_eq (tgt := 23) hx hb dX3_wordBetween_18 (by decide) (fun c_4 => ?_) (fun c_4 => ?_)
    · refine lv_iinc (v := 2) (lv' := [(3, .int 2), (0, .ref (h 11)), (1, .int (nI a)), (2, .int (nI e))]) hx hb dX3_wordBetween_23 hl (k := 0) rfl (by decide) (by decide) rfl (fun ls hl => ?_)
      refine lv_goto (tgt := 2) hx hb dX3_wordBetween_26 (by decide) ?_
      refine lv_iload_n hx hb dX3_wordBetween_2 rfl (lv_at hl 0 rfl) ?_
      refine lv_bipush (v := 8) hx hb dX3_wordBetween_3 (by decide) ?_
      refine lv_icmp_ge (tgt := 29) hx hb dX3_wordBetween_5 (by decide) (fun h => absurd h (by decide)) (fun _ => ?_)
      refine lv_aload_n hx hb dX3_wordBetween_8 rfl (lv_at hl 1 rfl) ?_
      refine lv_iload_n hx hb dX3_wordBetween_9 rfl (lv_at hl 2 rfl) ?_
      refine lv_iload_n hx hb dX3_wordBetween_10 rfl (lv_at hl 3 rfl) ?_
      refine lv_iload_n hx hb dX3_wordBetween_11 rfl (lv_at hl 0 rfl) ?_
      refine x_go (ws' := [(h 11, .inr (3, [.ref (h 12), .int (nI cnt), .int (nI p), .int ca, .int fa, .int od, .ref (h 13), .ref (h 14)])), (h 12, .inl (g.2.1, 120, .inl tx))]) (st1 := [.ref (g.2.2.2.2.1 2), .int (nI e), .int (nI a), .ref (h 11)]) E hw [] rfl (x_runS (rest := [.int (nI e), .int (nI a), .ref (h 11)]) E hw (c_X3_spelling_2 l g  ) km_X3_70 ks_X3_spelling [] rfl (by decide) hl.1 rfl rfl (Nat.le_of_ble_eq_true rfl) ⟨Nat.le_of_ble_eq_true rfl, Nat.le_of_ble_eq_true rfl⟩ ⟨Nat.zero_le _, Nat.zero_le _⟩ dX3_wordBetween_12) rfl rfl rfl (fun H locs hw => ?_)
      refine x_go (ws' := [(h 11, .inr (3, [.ref (h 12), .int (nI cnt), .int (nI p), .int ca, .int fa, .int od, .ref (h 13), .ref (h 14)])), (h 12, .inl (g.2.1, 120, .inl tx))]) (st1 := [.int (bI (splP tx a e 2))]) E hw [0, 1] rfl (x_runV (rest := []) E hw (c_X3_spells l g h cnt p ca fa od tx a e 2 (by decide) (by omega) (by omega)) km_X3_74 kv_X3_spells [0, 1] rfl (by decide) 0 rfl hl.1 rfl rfl (Nat.le_of_ble_eq_true rfl) ⟨Nat.le_of_ble_eq_true rfl, Nat.le_of_ble_eq_true rfl⟩ ⟨Nat.zero_le _, Nat.zero_le _⟩ dX3_wordBetween_15) rfl rfl rfl (fun H locs hw => ?_)
      refine xb_eq (tgt := 23) hx hb dX3_wordBetween_18 (by decide) (fun c_6 => ?_) (fun c_6 => ?_)
      · refine lv_iinc (v := 3) (lv' := [(3, .int 3), (0, .ref (h 11)), (1, .int (nI a)), (2, .int (nI e))]) hx hb dX3_wordBetween_23 hl (k := 0) rfl (by decide) (by decide) rfl (fun ls hl => ?_)
        refine lv_goto (tgt := 2) hx hb dX3_wordBetween_26 (by decide) ?_
        refine lv_iload_n hx hb dX3_wordBetween_2 rfl (lv_at hl 0 rfl) ?_
        refine lv_bipush (v := 8) hx hb dX3_wordBetween_3 (by decide) ?_
        refine lv_icmp_ge (tgt := 29) hx hb dX3_wordBetween_5 (by decide) (fun h => absurd h (by decide)) (fun _ => ?_)
        refine lv_aload_n hx hb dX3_wordBetween_8 rfl (lv_at hl 1 rfl) ?_
        refine lv_iload_n hx hb dX3_wordBetween_9 rfl (lv_at hl 2 rfl) ?_
        refine lv_iload_n hx hb dX3_wordBetween_10 rfl (lv_at hl 3 rfl) ?_
        refine lv_iload_n hx hb dX3_wordBetween_11 rfl (lv_at hl 0 rfl) ?_
        refine x_go (ws' := [(h 11, .inr (3, [.ref (h 12), .int (nI cnt), .int (nI p), .int ca, .int fa, .int od, .ref (h 13), .ref (h 14)])), (h 12, .inl (g.2.1, 120, .inl tx))]) (st1 := [.ref (g.2.2.2.2.1 3), .int (nI e), .int (nI a), .ref (h 11)]) E hw [] rfl (x_runS (rest := [.int (nI e), .int (nI a), .ref (h 11)]) E hw (c_X3_spelling_3 l g  ) km_X3_70 ks_X3_spelling [] rfl (by decide) hl.1 rfl rfl (Nat.le_of_ble_eq_true rfl) ⟨Nat.le_of_ble_eq_true rfl, Nat.le_of_ble_eq_true rfl⟩ ⟨Nat.zero_le _, Nat.zero_le _⟩ dX3_wordBetween_12) rfl rfl rfl (fun H locs hw => ?_)
        refine x_go (ws' := [(h 11, .inr (3, [.ref (h 12), .int (nI cnt), .int (nI p), .int ca, .int fa, .int od, .ref (h 13), .ref (h 14)])), (h 12, .inl (g.2.1, 120, .inl tx))]) (st1 := [.int (bI (splP tx a e 3))]) E hw [0, 1] rfl (x_runV (rest := []) E hw (c_X3_spells l g h cnt p ca fa od tx a e 3 (by decide) (by omega) (by omega)) km_X3_74 kv_X3_spells [0, 1] rfl (by decide) 0 rfl hl.1 rfl rfl (Nat.le_of_ble_eq_true rfl) ⟨Nat.le_of_ble_eq_true rfl, Nat.le_of_ble_eq_true rfl⟩ ⟨Nat.zero_le _, Nat.zero_le _⟩ dX3_wordBetween_15) rfl rfl rfl (fun H locs hw => ?_)
        refine xb_eq (tgt := 23) hx hb dX3_wordBetween_18 (by decide) (fun c_8 => ?_) (fun c_8 => ?_)
        · refine lv_iinc (v := 4) (lv' := [(3, .int 4), (0, .ref (h 11)), (1, .int (nI a)), (2, .int (nI e))]) hx hb dX3_wordBetween_23 hl (k := 0) rfl (by decide) (by decide) rfl (fun ls hl => ?_)
          refine lv_goto (tgt := 2) hx hb dX3_wordBetween_26 (by decide) ?_
          refine lv_iload_n hx hb dX3_wordBetween_2 rfl (lv_at hl 0 rfl) ?_
          refine lv_bipush (v := 8) hx hb dX3_wordBetween_3 (by decide) ?_
          refine lv_icmp_ge (tgt := 29) hx hb dX3_wordBetween_5 (by decide) (fun h => absurd h (by decide)) (fun _ => ?_)
          refine lv_aload_n hx hb dX3_wordBetween_8 rfl (lv_at hl 1 rfl) ?_
          refine lv_iload_n hx hb dX3_wordBetween_9 rfl (lv_at hl 2 rfl) ?_
          refine lv_iload_n hx hb dX3_wordBetween_10 rfl (lv_at hl 3 rfl) ?_
          refine lv_iload_n hx hb dX3_wordBetween_11 rfl (lv_at hl 0 rfl) ?_
          refine x_go (ws' := [(h 11, .inr (3, [.ref (h 12), .int (nI cnt), .int (nI p), .int ca, .int fa, .int od, .ref (h 13), .ref (h 14)])), (h 12, .inl (g.2.1, 120, .inl tx))]) (st1 := [.ref (g.2.2.2.2.1 4), .int (nI e), .int (nI a), .ref (h 11)]) E hw [] rfl (x_runS (rest := [.int (nI e), .int (nI a), .ref (h 11)]) E hw (c_X3_spelling_4 l g  ) km_X3_70 ks_X3_spelling [] rfl (by decide) hl.1 rfl rfl (Nat.le_of_ble_eq_true rfl) ⟨Nat.le_of_ble_eq_true rfl, Nat.le_of_ble_eq_true rfl⟩ ⟨Nat.zero_le _, Nat.zero_le _⟩ dX3_wordBetween_12) rfl rfl rfl (fun H locs hw => ?_)
          refine x_go (ws' := [(h 11, .inr (3, [.ref (h 12), .int (nI cnt), .int (nI p), .int ca, .int fa, .int od, .ref (h 13), .ref (h 14)])), (h 12, .inl (g.2.1, 120, .inl tx))]) (st1 := [.int (bI (splP tx a e 4))]) E hw [0, 1] rfl (x_runV (rest := []) E hw (c_X3_spells l g h cnt p ca fa od tx a e 4 (by decide) (by omega) (by omega)) km_X3_74 kv_X3_spells [0, 1] rfl (by decide) 0 rfl hl.1 rfl rfl (Nat.le_of_ble_eq_true rfl) ⟨Nat.le_of_ble_eq_true rfl, Nat.le_of_ble_eq_true rfl⟩ ⟨Nat.zero_le _, Nat.zero_le _⟩ dX3_wordBetween_15) rfl rfl rfl (fun H locs hw => ?_)
          refine xb_eq (tgt := 23) hx hb dX3_wordBetween_18 (by decide) (fun c_10 => ?_) (fun c_10 => ?_)
          · refine lv_iinc (v := 5) (lv' := [(3, .int 5), (0, .ref (h 11)), (1, .int (nI a)), (2, .int (nI e))]) hx hb dX3_wordBetween_23 hl (k := 0) rfl (by decide) (by decide) rfl (fun ls hl => ?_)
            refine lv_goto (tgt := 2) hx hb dX3_wordBetween_26 (by decide) ?_
            refine lv_iload_n hx hb dX3_wordBetween_2 rfl (lv_at hl 0 rfl) ?_
            refine lv_bipush (v := 8) hx hb dX3_wordBetween_3 (by decide) ?_
            refine lv_icmp_ge (tgt := 29) hx hb dX3_wordBetween_5 (by decide) (fun h => absurd h (by decide)) (fun _ => ?_)
            refine lv_aload_n hx hb dX3_wordBetween_8 rfl (lv_at hl 1 rfl) ?_
            refine lv_iload_n hx hb dX3_wordBetween_9 rfl (lv_at hl 2 rfl) ?_
            refine lv_iload_n hx hb dX3_wordBetween_10 rfl (lv_at hl 3 rfl) ?_
            refine lv_iload_n hx hb dX3_wordBetween_11 rfl (lv_at hl 0 rfl) ?_
            refine x_go (ws' := [(h 11, .inr (3, [.ref (h 12), .int (nI cnt), .int (nI p), .int ca, .int fa, .int od, .ref (h 13), .ref (h 14)])), (h 12, .inl (g.2.1, 120, .inl tx))]) (st1 := [.ref (g.2.2.2.2.1 5), .int (nI e), .int (nI a), .ref (h 11)]) E hw [] rfl (x_runS (rest := [.int (nI e), .int (nI a), .ref (h 11)]) E hw (c_X3_spelling_5 l g  ) km_X3_70 ks_X3_spelling [] rfl (by decide) hl.1 rfl rfl (Nat.le_of_ble_eq_true rfl) ⟨Nat.le_of_ble_eq_true rfl, Nat.le_of_ble_eq_true rfl⟩ ⟨Nat.zero_le _, Nat.zero_le _⟩ dX3_wordBetween_12) rfl rfl rfl (fun H locs hw => ?_)
            refine x_go (ws' := [(h 11, .inr (3, [.ref (h 12), .int (nI cnt), .int (nI p), .int ca, .int fa, .int od, .ref (h 13), .ref (h 14)])), (h 12, .inl (g.2.1, 120, .inl tx))]) (st1 := [.int (bI (splP tx a e 5))]) E hw [0, 1] rfl (x_runV (rest := []) E hw (c_X3_spells l g h cnt p ca fa od tx a e 5 (by decide) (by omega) (by omega)) km_X3_74 kv_X3_spells [0, 1] rfl (by decide) 0 rfl hl.1 rfl rfl (Nat.le_of_ble_eq_true rfl) ⟨Nat.le_of_ble_eq_true rfl, Nat.le_of_ble_eq_true rfl⟩ ⟨Nat.zero_le _, Nat.zero_le _⟩ dX3_wordBetween_15) rfl rfl rfl (fun H locs hw => ?_)
            refine xb_eq (tgt := 23) hx hb dX3_wordBetween_18 (by decide) (fun c_12 => ?_) (fun c_12 => ?_)
            · refine lv_iinc (v := 6) (lv' := [(3, .int 6), (0, .ref (h 11)), (1, .int (nI a)), (2, .int (nI e))]) hx hb dX3_wordBetween_23 hl (k := 0) rfl (by decide) (by decide) rfl (fun ls hl => ?_)
              refine lv_goto (tgt := 2) hx hb dX3_wordBetween_26 (by decide) ?_
              refine lv_iload_n hx hb dX3_wordBetween_2 rfl (lv_at hl 0 rfl) ?_
              refine lv_bipush (v := 8) hx hb dX3_wordBetween_3 (by decide) ?_
              refine lv_icmp_ge (tgt := 29) hx hb dX3_wordBetween_5 (by decide) (fun h => absurd h (by decide)) (fun _ => ?_)
              refine lv_aload_n hx hb dX3_wordBetween_8 rfl (lv_at hl 1 rfl) ?_
              refine lv_iload_n hx hb dX3_wordBetween_9 rfl (lv_at hl 2 rfl) ?_
              refine lv_iload_n hx hb dX3_wordBetween_10 rfl (lv_at hl 3 rfl) ?_
              refine lv_iload_n hx hb dX3_wordBetween_11 rfl (lv_at hl 0 rfl) ?_
              refine x_go (ws' := [(h 11, .inr (3, [.ref (h 12), .int (nI cnt), .int (nI p), .int ca, .int fa, .int od, .ref (h 13), .ref (h 14)])), (h 12, .inl (g.2.1, 120, .inl tx))]) (st1 := [.ref (g.2.2.2.2.1 6), .int (nI e), .int (nI a), .ref (h 11)]) E hw [] rfl (x_runS (rest := [.int (nI e), .int (nI a), .ref (h 11)]) E hw (c_X3_spelling_6 l g  ) km_X3_70 ks_X3_spelling [] rfl (by decide) hl.1 rfl rfl (Nat.le_of_ble_eq_true rfl) ⟨Nat.le_of_ble_eq_true rfl, Nat.le_of_ble_eq_true rfl⟩ ⟨Nat.zero_le _, Nat.zero_le _⟩ dX3_wordBetween_12) rfl rfl rfl (fun H locs hw => ?_)
              refine x_go (ws' := [(h 11, .inr (3, [.ref (h 12), .int (nI cnt), .int (nI p), .int ca, .int fa, .int od, .ref (h 13), .ref (h 14)])), (h 12, .inl (g.2.1, 120, .inl tx))]) (st1 := [.int (bI (splP tx a e 6))]) E hw [0, 1] rfl (x_runV (rest := []) E hw (c_X3_spells l g h cnt p ca fa od tx a e 6 (by decide) (by omega) (by omega)) km_X3_74 kv_X3_spells [0, 1] rfl (by decide) 0 rfl hl.1 rfl rfl (Nat.le_of_ble_eq_true rfl) ⟨Nat.le_of_ble_eq_true rfl, Nat.le_of_ble_eq_true rfl⟩ ⟨Nat.zero_le _, Nat.zero_le _⟩ dX3_wordBetween_15) rfl rfl rfl (fun H locs hw => ?_)
              refine xb_eq (tgt := 23) hx hb dX3_wordBetween_18 (by decide) (fun c_14 => ?_) (fun c_14 => ?_)
              · refine lv_iinc (v := 7) (lv' := [(3, .int 7), (0, .ref (h 11)), (1, .int (nI a)), (2, .int (nI e))]) hx hb dX3_wordBetween_23 hl (k := 0) rfl (by decide) (by decide) rfl (fun ls hl => ?_)
                refine lv_goto (tgt := 2) hx hb dX3_wordBetween_26 (by decide) ?_
                refine lv_iload_n hx hb dX3_wordBetween_2 rfl (lv_at hl 0 rfl) ?_
                refine lv_bipush (v := 8) hx hb dX3_wordBetween_3 (by decide) ?_
                refine lv_icmp_ge (tgt := 29) hx hb dX3_wordBetween_5 (by decide) (fun h => absurd h (by decide)) (fun _ => ?_)
                refine lv_aload_n hx hb dX3_wordBetween_8 rfl (lv_at hl 1 rfl) ?_
                refine lv_iload_n hx hb dX3_wordBetween_9 rfl (lv_at hl 2 rfl) ?_
                refine lv_iload_n hx hb dX3_wordBetween_10 rfl (lv_at hl 3 rfl) ?_
                refine lv_iload_n hx hb dX3_wordBetween_11 rfl (lv_at hl 0 rfl) ?_
                refine x_go (ws' := [(h 11, .inr (3, [.ref (h 12), .int (nI cnt), .int (nI p), .int ca, .int fa, .int od, .ref (h 13), .ref (h 14)])), (h 12, .inl (g.2.1, 120, .inl tx))]) (st1 := [.ref (g.2.2.2.2.1 7), .int (nI e), .int (nI a), .ref (h 11)]) E hw [] rfl (x_runS (rest := [.int (nI e), .int (nI a), .ref (h 11)]) E hw (c_X3_spelling_7 l g  ) km_X3_70 ks_X3_spelling [] rfl (by decide) hl.1 rfl rfl (Nat.le_of_ble_eq_true rfl) ⟨Nat.le_of_ble_eq_true rfl, Nat.le_of_ble_eq_true rfl⟩ ⟨Nat.zero_le _, Nat.zero_le _⟩ dX3_wordBetween_12) rfl rfl rfl (fun H locs hw => ?_)
                refine x_go (ws' := [(h 11, .inr (3, [.ref (h 12), .int (nI cnt), .int (nI p), .int ca, .int fa, .int od, .ref (h 13), .ref (h 14)])), (h 12, .inl (g.2.1, 120, .inl tx))]) (st1 := [.int (bI (splP tx a e 7))]) E hw [0, 1] rfl (x_runV (rest := []) E hw (c_X3_spells l g h cnt p ca fa od tx a e 7 (by decide) (by omega) (by omega)) km_X3_74 kv_X3_spells [0, 1] rfl (by decide) 0 rfl hl.1 rfl rfl (Nat.le_of_ble_eq_true rfl) ⟨Nat.le_of_ble_eq_true rfl, Nat.le_of_ble_eq_true rfl⟩ ⟨Nat.zero_le _, Nat.zero_le _⟩ dX3_wordBetween_15) rfl rfl rfl (fun H locs hw => ?_)
                refine xb_eq (tgt := 23) hx hb dX3_wordBetween_18 (by decide) (fun c_16 => ?_) (fun c_16 => ?_)
                · refine lv_iinc (v := 8) (lv' := [(3, .int 8), (0, .ref (h 11)), (1, .int (nI a)), (2, .int (nI e))]) hx hb dX3_wordBetween_23 hl (k := 0) rfl (by decide) (by decide) rfl (fun ls hl => ?_)
                  refine lv_goto (tgt := 2) hx hb dX3_wordBetween_26 (by decide) ?_
                  refine lv_iload_n hx hb dX3_wordBetween_2 rfl (lv_at hl 0 rfl) ?_
                  refine lv_bipush (v := 8) hx hb dX3_wordBetween_3 (by decide) ?_
                  refine lv_icmp_ge (tgt := 29) hx hb dX3_wordBetween_5 (by decide) (fun _ => ?_) (fun h => absurd h (by decide))
                  refine lv_iconst (v := -1) hx hb dX3_wordBetween_29 (by decide) ?_
                  exact xr_i hQ E hr hw dX3_wordBetween_30 ⟨congrArg (fun z => some (Value.int z)) (by simp only [wrd, if_neg c_2, if_neg c_4, if_neg c_6, if_neg c_8, if_neg c_10, if_neg c_12, if_neg c_14, if_neg c_16]), rfl⟩
                · refine lv_iload_n hx hb dX3_wordBetween_21 rfl (lv_at hl 0 rfl) ?_
                  exact xr_i hQ E hr hw dX3_wordBetween_22 ⟨congrArg (fun z => some (Value.int z)) (by simp only [wrd, if_neg c_2, if_neg c_4, if_neg c_6, if_neg c_8, if_neg c_10, if_neg c_12, if_neg c_14, if_pos c_16]), rfl⟩
              · refine lv_iload_n hx hb dX3_wordBetween_21 rfl (lv_at hl 0 rfl) ?_
                exact xr_i hQ E hr hw dX3_wordBetween_22 ⟨congrArg (fun z => some (Value.int z)) (by simp only [wrd, if_neg c_2, if_neg c_4, if_neg c_6, if_neg c_8, if_neg c_10, if_neg c_12, if_pos c_14]), rfl⟩
            · refine lv_iload_n hx hb dX3_wordBetween_21 rfl (lv_at hl 0 rfl) ?_
              exact xr_i hQ E hr hw dX3_wordBetween_22 ⟨congrArg (fun z => some (Value.int z)) (by simp only [wrd, if_neg c_2, if_neg c_4, if_neg c_6, if_neg c_8, if_neg c_10, if_pos c_12]), rfl⟩
          · refine lv_iload_n hx hb dX3_wordBetween_21 rfl (lv_at hl 0 rfl) ?_
            exact xr_i hQ E hr hw dX3_wordBetween_22 ⟨congrArg (fun z => some (Value.int z)) (by simp only [wrd, if_neg c_2, if_neg c_4, if_neg c_6, if_neg c_8, if_pos c_10]), rfl⟩
        · refine lv_iload_n hx hb dX3_wordBetween_21 rfl (lv_at hl 0 rfl) ?_
          exact xr_i hQ E hr hw dX3_wordBetween_22 ⟨congrArg (fun z => some (Value.int z)) (by simp only [wrd, if_neg c_2, if_neg c_4, if_neg c_6, if_pos c_8]), rfl⟩
      · refine lv_iload_n hx hb dX3_wordBetween_21 rfl (lv_at hl 0 rfl) ?_
        exact xr_i hQ E hr hw dX3_wordBetween_22 ⟨congrArg (fun z => some (Value.int z)) (by simp only [wrd, if_neg c_2, if_neg c_4, if_pos c_6]), rfl⟩
    · refine lv_iload_n hx hb dX3_wordBetween_21 rfl (lv_at hl 0 rfl) ?_
      exact xr_i hQ E hr hw dX3_wordBetween_22 ⟨congrArg (fun z => some (Value.int z)) (by simp only [wrd, if_neg c_2, if_pos c_4]), rfl⟩
  · refine lv_iload_n hx hb dX3_wordBetween_21 rfl (lv_at hl 0 rfl) ?_
    exact xr_i hQ E hr hw dX3_wordBetween_22 ⟨congrArg (fun z => some (Value.int z)) (by simp only [wrd, if_pos c_2]), rfl⟩

set_option maxRecDepth 100000 in
set_option maxHeartbeats 4000000 in
theorem c_X3_readsNumber_0 (l : Launch) (g : xCfg) (h : Nat → Nat) (cnt : Nat) (p : Nat) (ca : Int32) (fa : Int32) (od : Int32) (tx : Nat → Int32) (nu : Nat → Int32) (u : Nat) (hc : cnt ≤ 120) (hp : p ≤ cnt) (hu : u < 72) : Ct l g yX3_readsNumber cX3_readsNumber 6 (some .boolean) (xR 2 42) [.ref (h 11), .int (nI u), .int 0] [(h 11, .inr (3, [.ref (h 12), .int (nI cnt), .int (nI p), .int ca, .int fa, .int od, .ref (h 13), .ref (h 14)])), (h 12, .inl (g.2.1, 120, .inl tx)), (h 14, .inl (g.2.1, 72, .inl nu))] (is1 (some (.int (bI (nmOk false tx cnt p)))) [(h 11, .inr (3, [.ref (h 12), .int (nI cnt), .int (nI ((nmD false tx cnt p).2)), .int (if nmOk false tx cnt p then ca else 2), .int (if nmOk false tx cnt p then fa else nI (nmD false tx cnt p).2), .int od, .ref (h 13), .ref (h 14)])), (h 12, .inl (g.2.1, 120, .inl tx)), (h 14, .inl (g.2.1, 72, .inl (if nmOk false tx cnt p then upd nu u (nmV false tx cnt p) else nu)))]) := by
  refine Ct.walk (by decide) (Nat.le_of_ble_eq_true rfl) ?_
  intro p0 e0 s0 m0 below meth c0 A0 ls Q hQ E hr hnm hw hl
  have hx := E.x
  have hb := E.b
  have hl : lv_has ls 6 [(0, .ref (h 11)), (1, .int (nI u)), (2, .int 0)] := hl
  refine lv_aload_n hx hb dX3_readsNumber_0 rfl (lv_at hl 0 rfl) ?_
  refine x_go (ws' := [(h 11, .inr (3, [.ref (h 12), .int (nI cnt), .int (nI (skB tx (cnt - p) p)), .int ca, .int fa, .int od, .ref (h 13), .ref (h 14)])), (h 12, .inl (g.2.1, 120, .inl tx)), (h 14, .inl (g.2.1, 72, .inl nu))]) (st1 := []) E hw [0, 1] rfl (x_runV (rest := []) E hw (c_X3_skipsBlanks l g h cnt p ca fa od tx (by omega) hp) km_X3_39 kv_X3_skipsBlanks [0, 1] rfl (by decide) 0 rfl hl.1 rfl rfl (Nat.le_of_ble_eq_true rfl) ⟨Nat.le_of_ble_eq_true rfl, Nat.le_of_ble_eq_true rfl⟩ ⟨Nat.zero_le _, Nat.zero_le _⟩ dX3_readsNumber_1) rfl rfl rfl (fun H locs hw => ?_)
  refine lv_iload_n hx hb dX3_readsNumber_4 rfl (lv_at hl 2 rfl) ?_
  refine lv_if_eq (tgt := 21) hx hb dX3_readsNumber_5 (by decide) (fun _ => ?_) (fun h => absurd h (by decide))
  refine lv_iconst (v := 0) hx hb dX3_readsNumber_21 (by decide) ?_
  refine lv_istore_n (lv' := [(3, .int 0), (0, .ref (h 11)), (1, .int (nI u)), (2, .int 0)]) hx hb dX3_readsNumber_22 rfl hl (by decide) rfl (fun ls hl => ?_)
  refine lv_iload_n hx hb dX3_readsNumber_23 rfl (lv_at hl 0 rfl) ?_
  refine lv_if_eq (tgt := 37) hx hb dX3_readsNumber_24 (by decide) (fun _ => ?_) (fun h => absurd h (by decide))
  have hS : nmS false tx cnt p = skB tx (cnt - p) p := if_neg (fun z => absurd z.1 (by decide))
  have hN : nmV false tx cnt p = (nmD false tx cnt p).1 := if_neg (fun z => absurd z.1 (by decide))
  refine lv_iconst (v := 0) hx hb dX3_readsNumber_37 (by decide) ?_
  refine lv_istore (lv' := [(4, .int 0), (3, .int 0), (0, .ref (h 11)), (1, .int (nI u)), (2, .int 0)]) hx hb dX3_readsNumber_38 hl (by decide) rfl (fun ls hl => ?_)
  refine lv_iconst (v := 0) hx hb dX3_readsNumber_40 (by decide) ?_
  refine lv_istore (lv' := [(5, .int 0), (4, .int 0), (3, .int 0), (0, .ref (h 11)), (1, .int (nI u)), (2, .int 0)]) hx hb dX3_readsNumber_41 hl (by decide) rfl (fun ls hl => ?_)
  have lp_43 : ∀ (fuel : Nat) (k : Nat) (v : Int32) (x : Nat), 3 - k < fuel → k ≤ 3 → x = skB tx (cnt - p) p + k → x ≤ cnt → dgs tx cnt (3 - k) v x = dgs tx cnt 3 0 (skB tx (cnt - p) p) → ∀ (H : Heap) (locs : List Loc) (ls : Array Slot), xW g A0 s0 [(h 11, .inr (3, [.ref (h 12), .int (nI cnt), .int (nI x), .int ca, .int fa, .int od, .ref (h 13), .ref (h 14)])), (h 12, .inl (g.2.1, 120, .inl tx)), (h 14, .inl (g.2.1, 72, .inl nu))] H locs → lv_has ls 6 [(5, .int (nI k)), (4, .int v), (0, .ref (h 11)), (1, .int (nI u)), (3, .int 0)] → W p0 l e0 (xR 2 42) s0 m0 [.ref (h 11), .int (nI u), .int 0].toArray below meth c0 H locs 0 0 Q (F0 m0 43 ls []) := by
    intro fuel
    induction fuel with
    | zero => intro k v x hm; exact absurd hm (Nat.not_lt_zero _)
    | succ fuel ih =>
      intro k v x hm hk hxk hxc hv H locs ls hw hl
      refine lv_iload hx hb dX3_readsNumber_43 (lv_at hl 0 rfl) ?_
      refine lv_iconst (v := 3) hx hb dX3_readsNumber_45 (by decide) ?_
      refine xn_ge (tgt := 92) hx hb k 3 rfl rfl (by omega) (by omega) dX3_readsNumber_46 (by decide) (fun ck => ?_) (fun ck => ?_)
      · have hD : nmD false tx cnt p = (v, x) := by rw [nmD, hS, ← hv, show 3 - k = 0 by omega]; rfl
        refine lv_iload hx hb dX3_readsNumber_92 (lv_at hl 0 rfl) ?_
        refine xz_eq (tgt := 104) hx hb k rfl (by omega) dX3_readsNumber_94 (by decide) (fun cz => ?_) (fun cz => ?_)
        · refine lv_aload_n hx hb dX3_readsNumber_104 rfl (lv_at hl 2 rfl) ?_
          refine lv_iconst (v := 2) hx hb dX3_readsNumber_105 (by decide) ?_
          refine lv_aload_n hx hb dX3_readsNumber_106 rfl (lv_at hl 2 rfl) ?_
          refine x_get E hw kf_X3_29 0 rfl rfl dX3_readsNumber_107 ?_
          refine x_go (ws' := [(h 11, .inr (3, [.ref (h 12), .int (nI cnt), .int (nI x), .int 2, .int (nI x), .int od, .ref (h 13), .ref (h 14)])), (h 12, .inl (g.2.1, 120, .inl tx)), (h 14, .inl (g.2.1, 72, .inl nu))]) (st1 := [.int 0]) E hw [0] rfl (x_runV (rest := []) E hw (c_X3_faulty l g h cnt x ca fa od 2 (nI x) ) km_X3_42 kv_X3_faulty [0] rfl (by decide) 0 rfl hl.1 rfl rfl (Nat.le_of_ble_eq_true rfl) ⟨Nat.le_of_ble_eq_true rfl, Nat.le_of_ble_eq_true rfl⟩ ⟨Nat.zero_le _, Nat.zero_le _⟩ dX3_readsNumber_110) rfl rfl rfl (fun H locs hw => ?_)
          have hno : ¬ nmOk false tx cnt p := nm_f0 hS hD (by omega)
          exact xr_z hQ E hr hw dX3_readsNumber_113 (by decide) ⟨congrArg (fun z => some (Value.int z)) ((bI_f hno).symm), (by simp only [if_neg hno, hD])⟩
        · refine lv_aload_n hx hb dX3_readsNumber_97 rfl (lv_at hl 2 rfl) ?_
          refine x_go (ws' := [(h 11, .inr (3, [.ref (h 12), .int (nI cnt), .int (nI x), .int ca, .int fa, .int od, .ref (h 13), .ref (h 14)])), (h 12, .inl (g.2.1, 120, .inl tx)), (h 14, .inl (g.2.1, 72, .inl nu))]) (st1 := [.int (bI (x < cnt ∧ (48 ≤ tx x ∧ tx x ≤ 57)))]) E hw [0, 1] rfl (x_runV (rest := []) E hw (c_X3_isAtFigure l g h cnt x ca fa od tx (by omega) hxc) km_X3_60 kv_X3_isAtFigure [0, 1] rfl (by decide) 0 rfl hl.1 rfl rfl (Nat.le_of_ble_eq_true rfl) ⟨Nat.le_of_ble_eq_true rfl, Nat.le_of_ble_eq_true rfl⟩ ⟨Nat.zero_le _, Nat.zero_le _⟩ dX3_readsNumber_98) rfl rfl rfl (fun H locs hw => ?_)
          refine xb_eq (tgt := 114) hx hb dX3_readsNumber_101 (by decide) (fun cf => ?_) (fun cf => ?_)
          · refine lv_aload_n hx hb dX3_readsNumber_114 rfl (lv_at hl 2 rfl) ?_
            refine x_get E hw kf_X3_18 0 rfl rfl dX3_readsNumber_115 ?_
            refine lv_iload_n hx hb dX3_readsNumber_118 rfl (lv_at hl 3 rfl) ?_
            refine lv_iload_n hx hb dX3_readsNumber_119 rfl (lv_at hl 4 rfl) ?_
            refine lv_if_eq (tgt := 129) hx hb dX3_readsNumber_120 (by decide) (fun _ => ?_) (fun h => absurd h (by decide))
            refine lv_iload hx hb dX3_readsNumber_129 (lv_at hl 1 rfl) ?_
            refine x_ist E hw 2 rfl u rfl (by omega) (by decide) (ws' := [(h 11, .inr (3, [.ref (h 12), .int (nI cnt), .int (nI x), .int ca, .int fa, .int od, .ref (h 13), .ref (h 14)])), (h 12, .inl (g.2.1, 120, .inl tx)), (h 14, .inl (g.2.1, 72, .inl (upd nu u v)))]) rfl dX3_readsNumber_131 (fun H locs hw => ?_)
            refine lv_iconst (v := 1) hx hb dX3_readsNumber_132 (by decide) ?_
            have hok : nmOk false tx cnt p := nm_t hS hD (by omega) cf
            exact xr_z hQ E hr hw dX3_readsNumber_133 (by decide) ⟨congrArg (fun z => some (Value.int z)) ((bI_t hok).symm), (by simp only [if_pos hok, hD, hN])⟩
          · refine lv_aload_n hx hb dX3_readsNumber_104 rfl (lv_at hl 2 rfl) ?_
            refine lv_iconst (v := 2) hx hb dX3_readsNumber_105 (by decide) ?_
            refine lv_aload_n hx hb dX3_readsNumber_106 rfl (lv_at hl 2 rfl) ?_
            refine x_get E hw kf_X3_29 0 rfl rfl dX3_readsNumber_107 ?_
            refine x_go (ws' := [(h 11, .inr (3, [.ref (h 12), .int (nI cnt), .int (nI x), .int 2, .int (nI x), .int od, .ref (h 13), .ref (h 14)])), (h 12, .inl (g.2.1, 120, .inl tx)), (h 14, .inl (g.2.1, 72, .inl nu))]) (st1 := [.int 0]) E hw [0] rfl (x_runV (rest := []) E hw (c_X3_faulty l g h cnt x ca fa od 2 (nI x) ) km_X3_42 kv_X3_faulty [0] rfl (by decide) 0 rfl hl.1 rfl rfl (Nat.le_of_ble_eq_true rfl) ⟨Nat.le_of_ble_eq_true rfl, Nat.le_of_ble_eq_true rfl⟩ ⟨Nat.zero_le _, Nat.zero_le _⟩ dX3_readsNumber_110) rfl rfl rfl (fun H locs hw => ?_)
            have hno : ¬ nmOk false tx cnt p := nm_f1 hD cf
            exact xr_z hQ E hr hw dX3_readsNumber_113 (by decide) ⟨congrArg (fun z => some (Value.int z)) ((bI_f hno).symm), (by simp only [if_neg hno, hD])⟩
      · refine lv_aload_n hx hb dX3_readsNumber_49 rfl (lv_at hl 2 rfl) ?_
        refine x_go (ws' := [(h 11, .inr (3, [.ref (h 12), .int (nI cnt), .int (nI x), .int ca, .int fa, .int od, .ref (h 13), .ref (h 14)])), (h 12, .inl (g.2.1, 120, .inl tx)), (h 14, .inl (g.2.1, 72, .inl nu))]) (st1 := [.int (bI (x < cnt ∧ (48 ≤ tx x ∧ tx x ≤ 57)))]) E hw [0, 1] rfl (x_runV (rest := []) E hw (c_X3_isAtFigure l g h cnt x ca fa od tx (by omega) hxc) km_X3_60 kv_X3_isAtFigure [0, 1] rfl (by decide) 0 rfl hl.1 rfl rfl (Nat.le_of_ble_eq_true rfl) ⟨Nat.le_of_ble_eq_true rfl, Nat.le_of_ble_eq_true rfl⟩ ⟨Nat.zero_le _, Nat.zero_le _⟩ dX3_readsNumber_50) rfl rfl rfl (fun H locs hw => ?_)
        refine xb_eq (tgt := 92) hx hb dX3_readsNumber_53 (by decide) (fun cg => ?_) (fun cg => ?_)
        · have hD : nmD false tx cnt p = (v, x) := by rw [nmD, hS, ← hv]; exact dgs_no cg
          refine lv_iload hx hb dX3_readsNumber_92 (lv_at hl 0 rfl) ?_
          refine xz_eq (tgt := 104) hx hb k rfl (by omega) dX3_readsNumber_94 (by decide) (fun cz => ?_) (fun cz => ?_)
          · refine lv_aload_n hx hb dX3_readsNumber_104 rfl (lv_at hl 2 rfl) ?_
            refine lv_iconst (v := 2) hx hb dX3_readsNumber_105 (by decide) ?_
            refine lv_aload_n hx hb dX3_readsNumber_106 rfl (lv_at hl 2 rfl) ?_
            refine x_get E hw kf_X3_29 0 rfl rfl dX3_readsNumber_107 ?_
            refine x_go (ws' := [(h 11, .inr (3, [.ref (h 12), .int (nI cnt), .int (nI x), .int 2, .int (nI x), .int od, .ref (h 13), .ref (h 14)])), (h 12, .inl (g.2.1, 120, .inl tx)), (h 14, .inl (g.2.1, 72, .inl nu))]) (st1 := [.int 0]) E hw [0] rfl (x_runV (rest := []) E hw (c_X3_faulty l g h cnt x ca fa od 2 (nI x) ) km_X3_42 kv_X3_faulty [0] rfl (by decide) 0 rfl hl.1 rfl rfl (Nat.le_of_ble_eq_true rfl) ⟨Nat.le_of_ble_eq_true rfl, Nat.le_of_ble_eq_true rfl⟩ ⟨Nat.zero_le _, Nat.zero_le _⟩ dX3_readsNumber_110) rfl rfl rfl (fun H locs hw => ?_)
            have hno : ¬ nmOk false tx cnt p := nm_f0 hS hD (by omega)
            exact xr_z hQ E hr hw dX3_readsNumber_113 (by decide) ⟨congrArg (fun z => some (Value.int z)) ((bI_f hno).symm), (by simp only [if_neg hno, hD])⟩
          · refine lv_aload_n hx hb dX3_readsNumber_97 rfl (lv_at hl 2 rfl) ?_
            refine x_go (ws' := [(h 11, .inr (3, [.ref (h 12), .int (nI cnt), .int (nI x), .int ca, .int fa, .int od, .ref (h 13), .ref (h 14)])), (h 12, .inl (g.2.1, 120, .inl tx)), (h 14, .inl (g.2.1, 72, .inl nu))]) (st1 := [.int (bI (x < cnt ∧ (48 ≤ tx x ∧ tx x ≤ 57)))]) E hw [0, 1] rfl (x_runV (rest := []) E hw (c_X3_isAtFigure l g h cnt x ca fa od tx (by omega) hxc) km_X3_60 kv_X3_isAtFigure [0, 1] rfl (by decide) 0 rfl hl.1 rfl rfl (Nat.le_of_ble_eq_true rfl) ⟨Nat.le_of_ble_eq_true rfl, Nat.le_of_ble_eq_true rfl⟩ ⟨Nat.zero_le _, Nat.zero_le _⟩ dX3_readsNumber_98) rfl rfl rfl (fun H locs hw => ?_)
            refine xb_eq (tgt := 114) hx hb dX3_readsNumber_101 (by decide) (fun cf => ?_) (fun cf => ?_)
            · refine lv_aload_n hx hb dX3_readsNumber_114 rfl (lv_at hl 2 rfl) ?_
              refine x_get E hw kf_X3_18 0 rfl rfl dX3_readsNumber_115 ?_
              refine lv_iload_n hx hb dX3_readsNumber_118 rfl (lv_at hl 3 rfl) ?_
              refine lv_iload_n hx hb dX3_readsNumber_119 rfl (lv_at hl 4 rfl) ?_
              refine lv_if_eq (tgt := 129) hx hb dX3_readsNumber_120 (by decide) (fun _ => ?_) (fun h => absurd h (by decide))
              refine lv_iload hx hb dX3_readsNumber_129 (lv_at hl 1 rfl) ?_
              refine x_ist E hw 2 rfl u rfl (by omega) (by decide) (ws' := [(h 11, .inr (3, [.ref (h 12), .int (nI cnt), .int (nI x), .int ca, .int fa, .int od, .ref (h 13), .ref (h 14)])), (h 12, .inl (g.2.1, 120, .inl tx)), (h 14, .inl (g.2.1, 72, .inl (upd nu u v)))]) rfl dX3_readsNumber_131 (fun H locs hw => ?_)
              refine lv_iconst (v := 1) hx hb dX3_readsNumber_132 (by decide) ?_
              have hok : nmOk false tx cnt p := nm_t hS hD (by omega) cf
              exact xr_z hQ E hr hw dX3_readsNumber_133 (by decide) ⟨congrArg (fun z => some (Value.int z)) ((bI_t hok).symm), (by simp only [if_pos hok, hD, hN])⟩
            · refine lv_aload_n hx hb dX3_readsNumber_104 rfl (lv_at hl 2 rfl) ?_
              refine lv_iconst (v := 2) hx hb dX3_readsNumber_105 (by decide) ?_
              refine lv_aload_n hx hb dX3_readsNumber_106 rfl (lv_at hl 2 rfl) ?_
              refine x_get E hw kf_X3_29 0 rfl rfl dX3_readsNumber_107 ?_
              refine x_go (ws' := [(h 11, .inr (3, [.ref (h 12), .int (nI cnt), .int (nI x), .int 2, .int (nI x), .int od, .ref (h 13), .ref (h 14)])), (h 12, .inl (g.2.1, 120, .inl tx)), (h 14, .inl (g.2.1, 72, .inl nu))]) (st1 := [.int 0]) E hw [0] rfl (x_runV (rest := []) E hw (c_X3_faulty l g h cnt x ca fa od 2 (nI x) ) km_X3_42 kv_X3_faulty [0] rfl (by decide) 0 rfl hl.1 rfl rfl (Nat.le_of_ble_eq_true rfl) ⟨Nat.le_of_ble_eq_true rfl, Nat.le_of_ble_eq_true rfl⟩ ⟨Nat.zero_le _, Nat.zero_le _⟩ dX3_readsNumber_110) rfl rfl rfl (fun H locs hw => ?_)
              have hno : ¬ nmOk false tx cnt p := nm_f1 hD cf
              exact xr_z hQ E hr hw dX3_readsNumber_113 (by decide) ⟨congrArg (fun z => some (Value.int z)) ((bI_f hno).symm), (by simp only [if_neg hno, hD])⟩
        · refine lv_bipush (v := 10) hx hb dX3_readsNumber_56 (by decide) ?_
          refine lv_iload hx hb dX3_readsNumber_58 (lv_at hl 1 rfl) ?_
          refine lv_imul hx hb dX3_readsNumber_60 ?_
          refine lv_aload_n hx hb dX3_readsNumber_61 rfl (lv_at hl 2 rfl) ?_
          refine x_get E hw kf_X3_11 0 rfl rfl dX3_readsNumber_62 ?_
          refine lv_aload_n hx hb dX3_readsNumber_65 rfl (lv_at hl 2 rfl) ?_
          refine x_get E hw kf_X3_29 0 rfl rfl dX3_readsNumber_66 ?_
          refine x_ld (v := tx x) E hw 1 rfl x rfl (by have := cg.1; omega) (by decide) rfl dX3_readsNumber_69 ?_
          refine lv_iadd hx hb dX3_readsNumber_70 ?_
          refine lv_bipush (v := 48) hx hb dX3_readsNumber_71 (by decide) ?_
          refine lv_isub hx hb dX3_readsNumber_73 ?_
          refine lv_istore (lv' := [(4, .int (((10 * v) + tx x) - 48)), (5, .int (nI k)), (0, .ref (h 11)), (1, .int (nI u)), (3, .int 0)]) hx hb dX3_readsNumber_74 hl (by decide) rfl (fun ls hl => ?_)
          refine lv_aload_n hx hb dX3_readsNumber_76 rfl (lv_at hl 2 rfl) ?_
          refine lv_dup hx hb dX3_readsNumber_77 rfl ?_
          refine x_get E hw kf_X3_29 0 rfl rfl dX3_readsNumber_78 ?_
          refine lv_iconst (v := 1) hx hb dX3_readsNumber_81 (by decide) ?_
          refine xn_add hx hb x 1 rfl rfl dX3_readsNumber_82 ?_
          refine x_put E hw kf_X3_29 kp_X3_2 0 rfl (ty := .int) (by decide +kernel) rfl rfl (by simp) (ws' := [(h 11, .inr (3, [.ref (h 12), .int (nI cnt), .int (nI (x + 1)), .int ca, .int fa, .int od, .ref (h 13), .ref (h 14)])), (h 12, .inl (g.2.1, 120, .inl tx)), (h 14, .inl (g.2.1, 72, .inl nu))]) rfl dX3_readsNumber_83 (fun H locs hw => ?_)
          refine lv_iinc (v := nI (k + 1)) (lv' := [(5, .int (nI (k + 1))), (4, .int (((10 * v) + tx x) - 48)), (0, .ref (h 11)), (1, .int (nI u)), (3, .int 0)]) hx hb dX3_readsNumber_86 hl (k := 1) rfl (nI_1 _) (by decide) rfl (fun ls hl => ?_)
          refine lv_goto (tgt := 43) hx hb dX3_readsNumber_89 (by decide) ?_
          have hl : lv_has ls 6 [(5, .int (nI (k + 1))), (4, .int (((10 * v) + tx x) - 48)), (0, .ref (h 11)), (1, .int (nI u)), (3, .int 0)] := lv_sub hl [0, 1, 2, 3, 4] rfl
          have hl : lv_has ls 6 [(5, .int (nI (k + 1))), (4, .int (((10 * v) + tx x) - 48)), (0, .ref (h 11)), (1, .int (nI u)), (3, .int 0)] := hl
          have hw : xW g A0 s0 [(h 11, .inr (3, [.ref (h 12), .int (nI cnt), .int (nI (x + 1)), .int ca, .int fa, .int od, .ref (h 13), .ref (h 14)])), (h 12, .inl (g.2.1, 120, .inl tx)), (h 14, .inl (g.2.1, 72, .inl nu))] _ _ := hw
          exact ih (k + 1) (((10 * v) + tx x) - 48) (x + 1) (by omega) (by omega) (by omega) cg.1 ((dgs_st (by omega) cg).symm.trans hv) _ _ _ hw hl
  have hl : lv_has ls 6 [(5, .int 0), (4, .int 0), (0, .ref (h 11)), (1, .int (nI u)), (3, .int 0)] := lv_sub hl [0, 1, 3, 4, 2] rfl
  have hl : lv_has ls 6 [(5, .int 0), (4, .int 0), (0, .ref (h 11)), (1, .int (nI u)), (3, .int 0)] := hl
  have hw : xW g A0 s0 [(h 11, .inr (3, [.ref (h 12), .int (nI cnt), .int (nI (skB tx (cnt - p) p)), .int ca, .int fa, .int od, .ref (h 13), .ref (h 14)])), (h 12, .inl (g.2.1, 120, .inl tx)), (h 14, .inl (g.2.1, 72, .inl nu))] _ _ := hw
  exact lp_43 ((3 - 0) + 1) 0 0 (skB tx (cnt - p) p) (Nat.lt_succ_self _) (by omega) rfl (skB_le hp) rfl _ _ _ hw hl

set_option maxRecDepth 100000 in
set_option maxHeartbeats 4000000 in
theorem c_X3_readsNumber_1 (l : Launch) (g : xCfg) (h : Nat → Nat) (cnt : Nat) (p : Nat) (ca : Int32) (fa : Int32) (od : Int32) (tx : Nat → Int32) (nu : Nat → Int32) (u : Nat) (hc : cnt ≤ 120) (hp : p ≤ cnt) (hu : u < 72) : Ct l g yX3_readsNumber cX3_readsNumber 6 (some .boolean) (xR 2 42) [.ref (h 11), .int (nI u), .int 1] [(h 11, .inr (3, [.ref (h 12), .int (nI cnt), .int (nI p), .int ca, .int fa, .int od, .ref (h 13), .ref (h 14)])), (h 12, .inl (g.2.1, 120, .inl tx)), (h 14, .inl (g.2.1, 72, .inl nu))] (is1 (some (.int (bI (nmOk true tx cnt p)))) [(h 11, .inr (3, [.ref (h 12), .int (nI cnt), .int (nI ((nmD true tx cnt p).2)), .int (if nmOk true tx cnt p then ca else 2), .int (if nmOk true tx cnt p then fa else nI (nmD true tx cnt p).2), .int od, .ref (h 13), .ref (h 14)])), (h 12, .inl (g.2.1, 120, .inl tx)), (h 14, .inl (g.2.1, 72, .inl (if nmOk true tx cnt p then upd nu u (nmV true tx cnt p) else nu)))]) := by
  refine Ct.walk (by decide) (Nat.le_of_ble_eq_true rfl) ?_
  intro p0 e0 s0 m0 below meth c0 A0 ls Q hQ E hr hnm hw hl
  have hx := E.x
  have hb := E.b
  have hl : lv_has ls 6 [(0, .ref (h 11)), (1, .int (nI u)), (2, .int 1)] := hl
  refine lv_aload_n hx hb dX3_readsNumber_0 rfl (lv_at hl 0 rfl) ?_
  refine x_go (ws' := [(h 11, .inr (3, [.ref (h 12), .int (nI cnt), .int (nI (skB tx (cnt - p) p)), .int ca, .int fa, .int od, .ref (h 13), .ref (h 14)])), (h 12, .inl (g.2.1, 120, .inl tx)), (h 14, .inl (g.2.1, 72, .inl nu))]) (st1 := []) E hw [0, 1] rfl (x_runV (rest := []) E hw (c_X3_skipsBlanks l g h cnt p ca fa od tx (by omega) hp) km_X3_39 kv_X3_skipsBlanks [0, 1] rfl (by decide) 0 rfl hl.1 rfl rfl (Nat.le_of_ble_eq_true rfl) ⟨Nat.le_of_ble_eq_true rfl, Nat.le_of_ble_eq_true rfl⟩ ⟨Nat.zero_le _, Nat.zero_le _⟩ dX3_readsNumber_1) rfl rfl rfl (fun H locs hw => ?_)
  refine lv_iload_n hx hb dX3_readsNumber_4 rfl (lv_at hl 2 rfl) ?_
  refine lv_if_eq (tgt := 21) hx hb dX3_readsNumber_5 (by decide) (fun h => absurd h (by decide)) (fun _ => ?_)
  refine lv_aload_n hx hb dX3_readsNumber_8 rfl (lv_at hl 0 rfl) ?_
  refine lv_bipush (v := 45) hx hb dX3_readsNumber_9 (by decide) ?_
  refine x_go (ws' := [(h 11, .inr (3, [.ref (h 12), .int (nI cnt), .int (nI (skB tx (cnt - p) p)), .int ca, .int fa, .int od, .ref (h 13), .ref (h 14)])), (h 12, .inl (g.2.1, 120, .inl tx)), (h 14, .inl (g.2.1, 72, .inl nu))]) (st1 := [.int (bI ((skB tx (cnt - p) p) < cnt ∧ tx (skB tx (cnt - p) p) = 45))]) E hw [0, 1] rfl (x_runV (rest := []) E hw (c_X3_isAt l g h cnt (skB tx (cnt - p) p) ca fa od tx 45 (by omega) (skB_le hp)) km_X3_57 kv_X3_isAt [0, 1] rfl (by decide) 0 rfl hl.1 rfl rfl (Nat.le_of_ble_eq_true rfl) ⟨Nat.le_of_ble_eq_true rfl, Nat.le_of_ble_eq_true rfl⟩ ⟨Nat.zero_le _, Nat.zero_le _⟩ dX3_readsNumber_11) rfl rfl rfl (fun H locs hw => ?_)
  refine xb_eq (tgt := 21) hx hb dX3_readsNumber_14 (by decide) (fun cm => ?_) (fun cm => ?_)
  · refine lv_iconst (v := 0) hx hb dX3_readsNumber_21 (by decide) ?_
    refine lv_istore_n (lv' := [(3, .int 0), (0, .ref (h 11)), (1, .int (nI u)), (2, .int 1)]) hx hb dX3_readsNumber_22 rfl hl (by decide) rfl (fun ls hl => ?_)
    refine lv_iload_n hx hb dX3_readsNumber_23 rfl (lv_at hl 0 rfl) ?_
    refine lv_if_eq (tgt := 37) hx hb dX3_readsNumber_24 (by decide) (fun _ => ?_) (fun h => absurd h (by decide))
    have hS : nmS true tx cnt p = skB tx (cnt - p) p := if_neg (fun z => cm z.2)
    have hN : nmV true tx cnt p = (nmD true tx cnt p).1 := if_neg (fun z => cm z.2)
    refine lv_iconst (v := 0) hx hb dX3_readsNumber_37 (by decide) ?_
    refine lv_istore (lv' := [(4, .int 0), (3, .int 0), (0, .ref (h 11)), (1, .int (nI u)), (2, .int 1)]) hx hb dX3_readsNumber_38 hl (by decide) rfl (fun ls hl => ?_)
    refine lv_iconst (v := 0) hx hb dX3_readsNumber_40 (by decide) ?_
    refine lv_istore (lv' := [(5, .int 0), (4, .int 0), (3, .int 0), (0, .ref (h 11)), (1, .int (nI u)), (2, .int 1)]) hx hb dX3_readsNumber_41 hl (by decide) rfl (fun ls hl => ?_)
    have lp_43 : ∀ (fuel : Nat) (k : Nat) (v : Int32) (x : Nat), 3 - k < fuel → k ≤ 3 → x = skB tx (cnt - p) p + k → x ≤ cnt → dgs tx cnt (3 - k) v x = dgs tx cnt 3 0 (skB tx (cnt - p) p) → ∀ (H : Heap) (locs : List Loc) (ls : Array Slot), xW g A0 s0 [(h 11, .inr (3, [.ref (h 12), .int (nI cnt), .int (nI x), .int ca, .int fa, .int od, .ref (h 13), .ref (h 14)])), (h 12, .inl (g.2.1, 120, .inl tx)), (h 14, .inl (g.2.1, 72, .inl nu))] H locs → lv_has ls 6 [(5, .int (nI k)), (4, .int v), (0, .ref (h 11)), (1, .int (nI u)), (3, .int 0)] → W p0 l e0 (xR 2 42) s0 m0 [.ref (h 11), .int (nI u), .int 1].toArray below meth c0 H locs 0 0 Q (F0 m0 43 ls []) := by
      intro fuel
      induction fuel with
      | zero => intro k v x hm; exact absurd hm (Nat.not_lt_zero _)
      | succ fuel ih =>
        intro k v x hm hk hxk hxc hv H locs ls hw hl
        refine lv_iload hx hb dX3_readsNumber_43 (lv_at hl 0 rfl) ?_
        refine lv_iconst (v := 3) hx hb dX3_readsNumber_45 (by decide) ?_
        refine xn_ge (tgt := 92) hx hb k 3 rfl rfl (by omega) (by omega) dX3_readsNumber_46 (by decide) (fun ck => ?_) (fun ck => ?_)
        · have hD : nmD true tx cnt p = (v, x) := by rw [nmD, hS, ← hv, show 3 - k = 0 by omega]; rfl
          refine lv_iload hx hb dX3_readsNumber_92 (lv_at hl 0 rfl) ?_
          refine xz_eq (tgt := 104) hx hb k rfl (by omega) dX3_readsNumber_94 (by decide) (fun cz => ?_) (fun cz => ?_)
          · refine lv_aload_n hx hb dX3_readsNumber_104 rfl (lv_at hl 2 rfl) ?_
            refine lv_iconst (v := 2) hx hb dX3_readsNumber_105 (by decide) ?_
            refine lv_aload_n hx hb dX3_readsNumber_106 rfl (lv_at hl 2 rfl) ?_
            refine x_get E hw kf_X3_29 0 rfl rfl dX3_readsNumber_107 ?_
            refine x_go (ws' := [(h 11, .inr (3, [.ref (h 12), .int (nI cnt), .int (nI x), .int 2, .int (nI x), .int od, .ref (h 13), .ref (h 14)])), (h 12, .inl (g.2.1, 120, .inl tx)), (h 14, .inl (g.2.1, 72, .inl nu))]) (st1 := [.int 0]) E hw [0] rfl (x_runV (rest := []) E hw (c_X3_faulty l g h cnt x ca fa od 2 (nI x) ) km_X3_42 kv_X3_faulty [0] rfl (by decide) 0 rfl hl.1 rfl rfl (Nat.le_of_ble_eq_true rfl) ⟨Nat.le_of_ble_eq_true rfl, Nat.le_of_ble_eq_true rfl⟩ ⟨Nat.zero_le _, Nat.zero_le _⟩ dX3_readsNumber_110) rfl rfl rfl (fun H locs hw => ?_)
            have hno : ¬ nmOk true tx cnt p := nm_f0 hS hD (by omega)
            exact xr_z hQ E hr hw dX3_readsNumber_113 (by decide) ⟨congrArg (fun z => some (Value.int z)) ((bI_f hno).symm), (by simp only [if_neg hno, hD])⟩
          · refine lv_aload_n hx hb dX3_readsNumber_97 rfl (lv_at hl 2 rfl) ?_
            refine x_go (ws' := [(h 11, .inr (3, [.ref (h 12), .int (nI cnt), .int (nI x), .int ca, .int fa, .int od, .ref (h 13), .ref (h 14)])), (h 12, .inl (g.2.1, 120, .inl tx)), (h 14, .inl (g.2.1, 72, .inl nu))]) (st1 := [.int (bI (x < cnt ∧ (48 ≤ tx x ∧ tx x ≤ 57)))]) E hw [0, 1] rfl (x_runV (rest := []) E hw (c_X3_isAtFigure l g h cnt x ca fa od tx (by omega) hxc) km_X3_60 kv_X3_isAtFigure [0, 1] rfl (by decide) 0 rfl hl.1 rfl rfl (Nat.le_of_ble_eq_true rfl) ⟨Nat.le_of_ble_eq_true rfl, Nat.le_of_ble_eq_true rfl⟩ ⟨Nat.zero_le _, Nat.zero_le _⟩ dX3_readsNumber_98) rfl rfl rfl (fun H locs hw => ?_)
            refine xb_eq (tgt := 114) hx hb dX3_readsNumber_101 (by decide) (fun cf => ?_) (fun cf => ?_)
            · refine lv_aload_n hx hb dX3_readsNumber_114 rfl (lv_at hl 2 rfl) ?_
              refine x_get E hw kf_X3_18 0 rfl rfl dX3_readsNumber_115 ?_
              refine lv_iload_n hx hb dX3_readsNumber_118 rfl (lv_at hl 3 rfl) ?_
              refine lv_iload_n hx hb dX3_readsNumber_119 rfl (lv_at hl 4 rfl) ?_
              refine lv_if_eq (tgt := 129) hx hb dX3_readsNumber_120 (by decide) (fun _ => ?_) (fun h => absurd h (by decide))
              refine lv_iload hx hb dX3_readsNumber_129 (lv_at hl 1 rfl) ?_
              refine x_ist E hw 2 rfl u rfl (by omega) (by decide) (ws' := [(h 11, .inr (3, [.ref (h 12), .int (nI cnt), .int (nI x), .int ca, .int fa, .int od, .ref (h 13), .ref (h 14)])), (h 12, .inl (g.2.1, 120, .inl tx)), (h 14, .inl (g.2.1, 72, .inl (upd nu u v)))]) rfl dX3_readsNumber_131 (fun H locs hw => ?_)
              refine lv_iconst (v := 1) hx hb dX3_readsNumber_132 (by decide) ?_
              have hok : nmOk true tx cnt p := nm_t hS hD (by omega) cf
              exact xr_z hQ E hr hw dX3_readsNumber_133 (by decide) ⟨congrArg (fun z => some (Value.int z)) ((bI_t hok).symm), (by simp only [if_pos hok, hD, hN])⟩
            · refine lv_aload_n hx hb dX3_readsNumber_104 rfl (lv_at hl 2 rfl) ?_
              refine lv_iconst (v := 2) hx hb dX3_readsNumber_105 (by decide) ?_
              refine lv_aload_n hx hb dX3_readsNumber_106 rfl (lv_at hl 2 rfl) ?_
              refine x_get E hw kf_X3_29 0 rfl rfl dX3_readsNumber_107 ?_
              refine x_go (ws' := [(h 11, .inr (3, [.ref (h 12), .int (nI cnt), .int (nI x), .int 2, .int (nI x), .int od, .ref (h 13), .ref (h 14)])), (h 12, .inl (g.2.1, 120, .inl tx)), (h 14, .inl (g.2.1, 72, .inl nu))]) (st1 := [.int 0]) E hw [0] rfl (x_runV (rest := []) E hw (c_X3_faulty l g h cnt x ca fa od 2 (nI x) ) km_X3_42 kv_X3_faulty [0] rfl (by decide) 0 rfl hl.1 rfl rfl (Nat.le_of_ble_eq_true rfl) ⟨Nat.le_of_ble_eq_true rfl, Nat.le_of_ble_eq_true rfl⟩ ⟨Nat.zero_le _, Nat.zero_le _⟩ dX3_readsNumber_110) rfl rfl rfl (fun H locs hw => ?_)
              have hno : ¬ nmOk true tx cnt p := nm_f1 hD cf
              exact xr_z hQ E hr hw dX3_readsNumber_113 (by decide) ⟨congrArg (fun z => some (Value.int z)) ((bI_f hno).symm), (by simp only [if_neg hno, hD])⟩
        · refine lv_aload_n hx hb dX3_readsNumber_49 rfl (lv_at hl 2 rfl) ?_
          refine x_go (ws' := [(h 11, .inr (3, [.ref (h 12), .int (nI cnt), .int (nI x), .int ca, .int fa, .int od, .ref (h 13), .ref (h 14)])), (h 12, .inl (g.2.1, 120, .inl tx)), (h 14, .inl (g.2.1, 72, .inl nu))]) (st1 := [.int (bI (x < cnt ∧ (48 ≤ tx x ∧ tx x ≤ 57)))]) E hw [0, 1] rfl (x_runV (rest := []) E hw (c_X3_isAtFigure l g h cnt x ca fa od tx (by omega) hxc) km_X3_60 kv_X3_isAtFigure [0, 1] rfl (by decide) 0 rfl hl.1 rfl rfl (Nat.le_of_ble_eq_true rfl) ⟨Nat.le_of_ble_eq_true rfl, Nat.le_of_ble_eq_true rfl⟩ ⟨Nat.zero_le _, Nat.zero_le _⟩ dX3_readsNumber_50) rfl rfl rfl (fun H locs hw => ?_)
          refine xb_eq (tgt := 92) hx hb dX3_readsNumber_53 (by decide) (fun cg => ?_) (fun cg => ?_)
          · have hD : nmD true tx cnt p = (v, x) := by rw [nmD, hS, ← hv]; exact dgs_no cg
            refine lv_iload hx hb dX3_readsNumber_92 (lv_at hl 0 rfl) ?_
            refine xz_eq (tgt := 104) hx hb k rfl (by omega) dX3_readsNumber_94 (by decide) (fun cz => ?_) (fun cz => ?_)
            · refine lv_aload_n hx hb dX3_readsNumber_104 rfl (lv_at hl 2 rfl) ?_
              refine lv_iconst (v := 2) hx hb dX3_readsNumber_105 (by decide) ?_
              refine lv_aload_n hx hb dX3_readsNumber_106 rfl (lv_at hl 2 rfl) ?_
              refine x_get E hw kf_X3_29 0 rfl rfl dX3_readsNumber_107 ?_
              refine x_go (ws' := [(h 11, .inr (3, [.ref (h 12), .int (nI cnt), .int (nI x), .int 2, .int (nI x), .int od, .ref (h 13), .ref (h 14)])), (h 12, .inl (g.2.1, 120, .inl tx)), (h 14, .inl (g.2.1, 72, .inl nu))]) (st1 := [.int 0]) E hw [0] rfl (x_runV (rest := []) E hw (c_X3_faulty l g h cnt x ca fa od 2 (nI x) ) km_X3_42 kv_X3_faulty [0] rfl (by decide) 0 rfl hl.1 rfl rfl (Nat.le_of_ble_eq_true rfl) ⟨Nat.le_of_ble_eq_true rfl, Nat.le_of_ble_eq_true rfl⟩ ⟨Nat.zero_le _, Nat.zero_le _⟩ dX3_readsNumber_110) rfl rfl rfl (fun H locs hw => ?_)
              have hno : ¬ nmOk true tx cnt p := nm_f0 hS hD (by omega)
              exact xr_z hQ E hr hw dX3_readsNumber_113 (by decide) ⟨congrArg (fun z => some (Value.int z)) ((bI_f hno).symm), (by simp only [if_neg hno, hD])⟩
            · refine lv_aload_n hx hb dX3_readsNumber_97 rfl (lv_at hl 2 rfl) ?_
              refine x_go (ws' := [(h 11, .inr (3, [.ref (h 12), .int (nI cnt), .int (nI x), .int ca, .int fa, .int od, .ref (h 13), .ref (h 14)])), (h 12, .inl (g.2.1, 120, .inl tx)), (h 14, .inl (g.2.1, 72, .inl nu))]) (st1 := [.int (bI (x < cnt ∧ (48 ≤ tx x ∧ tx x ≤ 57)))]) E hw [0, 1] rfl (x_runV (rest := []) E hw (c_X3_isAtFigure l g h cnt x ca fa od tx (by omega) hxc) km_X3_60 kv_X3_isAtFigure [0, 1] rfl (by decide) 0 rfl hl.1 rfl rfl (Nat.le_of_ble_eq_true rfl) ⟨Nat.le_of_ble_eq_true rfl, Nat.le_of_ble_eq_true rfl⟩ ⟨Nat.zero_le _, Nat.zero_le _⟩ dX3_readsNumber_98) rfl rfl rfl (fun H locs hw => ?_)
              refine xb_eq (tgt := 114) hx hb dX3_readsNumber_101 (by decide) (fun cf => ?_) (fun cf => ?_)
              · refine lv_aload_n hx hb dX3_readsNumber_114 rfl (lv_at hl 2 rfl) ?_
                refine x_get E hw kf_X3_18 0 rfl rfl dX3_readsNumber_115 ?_
                refine lv_iload_n hx hb dX3_readsNumber_118 rfl (lv_at hl 3 rfl) ?_
                refine lv_iload_n hx hb dX3_readsNumber_119 rfl (lv_at hl 4 rfl) ?_
                refine lv_if_eq (tgt := 129) hx hb dX3_readsNumber_120 (by decide) (fun _ => ?_) (fun h => absurd h (by decide))
                refine lv_iload hx hb dX3_readsNumber_129 (lv_at hl 1 rfl) ?_
                refine x_ist E hw 2 rfl u rfl (by omega) (by decide) (ws' := [(h 11, .inr (3, [.ref (h 12), .int (nI cnt), .int (nI x), .int ca, .int fa, .int od, .ref (h 13), .ref (h 14)])), (h 12, .inl (g.2.1, 120, .inl tx)), (h 14, .inl (g.2.1, 72, .inl (upd nu u v)))]) rfl dX3_readsNumber_131 (fun H locs hw => ?_)
                refine lv_iconst (v := 1) hx hb dX3_readsNumber_132 (by decide) ?_
                have hok : nmOk true tx cnt p := nm_t hS hD (by omega) cf
                exact xr_z hQ E hr hw dX3_readsNumber_133 (by decide) ⟨congrArg (fun z => some (Value.int z)) ((bI_t hok).symm), (by simp only [if_pos hok, hD, hN])⟩
              · refine lv_aload_n hx hb dX3_readsNumber_104 rfl (lv_at hl 2 rfl) ?_
                refine lv_iconst (v := 2) hx hb dX3_readsNumber_105 (by decide) ?_
                refine lv_aload_n hx hb dX3_readsNumber_106 rfl (lv_at hl 2 rfl) ?_
                refine x_get E hw kf_X3_29 0 rfl rfl dX3_readsNumber_107 ?_
                refine x_go (ws' := [(h 11, .inr (3, [.ref (h 12), .int (nI cnt), .int (nI x), .int 2, .int (nI x), .int od, .ref (h 13), .ref (h 14)])), (h 12, .inl (g.2.1, 120, .inl tx)), (h 14, .inl (g.2.1, 72, .inl nu))]) (st1 := [.int 0]) E hw [0] rfl (x_runV (rest := []) E hw (c_X3_faulty l g h cnt x ca fa od 2 (nI x) ) km_X3_42 kv_X3_faulty [0] rfl (by decide) 0 rfl hl.1 rfl rfl (Nat.le_of_ble_eq_true rfl) ⟨Nat.le_of_ble_eq_true rfl, Nat.le_of_ble_eq_true rfl⟩ ⟨Nat.zero_le _, Nat.zero_le _⟩ dX3_readsNumber_110) rfl rfl rfl (fun H locs hw => ?_)
                have hno : ¬ nmOk true tx cnt p := nm_f1 hD cf
                exact xr_z hQ E hr hw dX3_readsNumber_113 (by decide) ⟨congrArg (fun z => some (Value.int z)) ((bI_f hno).symm), (by simp only [if_neg hno, hD])⟩
          · refine lv_bipush (v := 10) hx hb dX3_readsNumber_56 (by decide) ?_
            refine lv_iload hx hb dX3_readsNumber_58 (lv_at hl 1 rfl) ?_
            refine lv_imul hx hb dX3_readsNumber_60 ?_
            refine lv_aload_n hx hb dX3_readsNumber_61 rfl (lv_at hl 2 rfl) ?_
            refine x_get E hw kf_X3_11 0 rfl rfl dX3_readsNumber_62 ?_
            refine lv_aload_n hx hb dX3_readsNumber_65 rfl (lv_at hl 2 rfl) ?_
            refine x_get E hw kf_X3_29 0 rfl rfl dX3_readsNumber_66 ?_
            refine x_ld (v := tx x) E hw 1 rfl x rfl (by have := cg.1; omega) (by decide) rfl dX3_readsNumber_69 ?_
            refine lv_iadd hx hb dX3_readsNumber_70 ?_
            refine lv_bipush (v := 48) hx hb dX3_readsNumber_71 (by decide) ?_
            refine lv_isub hx hb dX3_readsNumber_73 ?_
            refine lv_istore (lv' := [(4, .int (((10 * v) + tx x) - 48)), (5, .int (nI k)), (0, .ref (h 11)), (1, .int (nI u)), (3, .int 0)]) hx hb dX3_readsNumber_74 hl (by decide) rfl (fun ls hl => ?_)
            refine lv_aload_n hx hb dX3_readsNumber_76 rfl (lv_at hl 2 rfl) ?_
            refine lv_dup hx hb dX3_readsNumber_77 rfl ?_
            refine x_get E hw kf_X3_29 0 rfl rfl dX3_readsNumber_78 ?_
            refine lv_iconst (v := 1) hx hb dX3_readsNumber_81 (by decide) ?_
            refine xn_add hx hb x 1 rfl rfl dX3_readsNumber_82 ?_
            refine x_put E hw kf_X3_29 kp_X3_2 0 rfl (ty := .int) (by decide +kernel) rfl rfl (by simp) (ws' := [(h 11, .inr (3, [.ref (h 12), .int (nI cnt), .int (nI (x + 1)), .int ca, .int fa, .int od, .ref (h 13), .ref (h 14)])), (h 12, .inl (g.2.1, 120, .inl tx)), (h 14, .inl (g.2.1, 72, .inl nu))]) rfl dX3_readsNumber_83 (fun H locs hw => ?_)
            refine lv_iinc (v := nI (k + 1)) (lv' := [(5, .int (nI (k + 1))), (4, .int (((10 * v) + tx x) - 48)), (0, .ref (h 11)), (1, .int (nI u)), (3, .int 0)]) hx hb dX3_readsNumber_86 hl (k := 1) rfl (nI_1 _) (by decide) rfl (fun ls hl => ?_)
            refine lv_goto (tgt := 43) hx hb dX3_readsNumber_89 (by decide) ?_
            have hl : lv_has ls 6 [(5, .int (nI (k + 1))), (4, .int (((10 * v) + tx x) - 48)), (0, .ref (h 11)), (1, .int (nI u)), (3, .int 0)] := lv_sub hl [0, 1, 2, 3, 4] rfl
            have hl : lv_has ls 6 [(5, .int (nI (k + 1))), (4, .int (((10 * v) + tx x) - 48)), (0, .ref (h 11)), (1, .int (nI u)), (3, .int 0)] := hl
            have hw : xW g A0 s0 [(h 11, .inr (3, [.ref (h 12), .int (nI cnt), .int (nI (x + 1)), .int ca, .int fa, .int od, .ref (h 13), .ref (h 14)])), (h 12, .inl (g.2.1, 120, .inl tx)), (h 14, .inl (g.2.1, 72, .inl nu))] _ _ := hw
            exact ih (k + 1) (((10 * v) + tx x) - 48) (x + 1) (by omega) (by omega) (by omega) cg.1 ((dgs_st (by omega) cg).symm.trans hv) _ _ _ hw hl
    have hl : lv_has ls 6 [(5, .int 0), (4, .int 0), (0, .ref (h 11)), (1, .int (nI u)), (3, .int 0)] := lv_sub hl [0, 1, 3, 4, 2] rfl
    have hl : lv_has ls 6 [(5, .int 0), (4, .int 0), (0, .ref (h 11)), (1, .int (nI u)), (3, .int 0)] := hl
    have hw : xW g A0 s0 [(h 11, .inr (3, [.ref (h 12), .int (nI cnt), .int (nI (skB tx (cnt - p) p)), .int ca, .int fa, .int od, .ref (h 13), .ref (h 14)])), (h 12, .inl (g.2.1, 120, .inl tx)), (h 14, .inl (g.2.1, 72, .inl nu))] _ _ := hw
    exact lp_43 ((3 - 0) + 1) 0 0 (skB tx (cnt - p) p) (Nat.lt_succ_self _) (by omega) rfl (skB_le hp) rfl _ _ _ hw hl
  · refine lv_iconst (v := 1) hx hb dX3_readsNumber_17 (by decide) ?_
    refine lv_goto (tgt := 22) hx hb dX3_readsNumber_18 (by decide) ?_
    refine lv_istore_n (lv' := [(3, .int 1), (0, .ref (h 11)), (1, .int (nI u)), (2, .int 1)]) hx hb dX3_readsNumber_22 rfl hl (by decide) rfl (fun ls hl => ?_)
    refine lv_iload_n hx hb dX3_readsNumber_23 rfl (lv_at hl 0 rfl) ?_
    refine lv_if_eq (tgt := 37) hx hb dX3_readsNumber_24 (by decide) (fun h => absurd h (by decide)) (fun _ => ?_)
    refine lv_aload_n hx hb dX3_readsNumber_27 rfl (lv_at hl 1 rfl) ?_
    refine lv_dup hx hb dX3_readsNumber_28 rfl ?_
    refine x_get E hw kf_X3_29 0 rfl rfl dX3_readsNumber_29 ?_
    refine lv_iconst (v := 1) hx hb dX3_readsNumber_32 (by decide) ?_
    refine xn_add hx hb (skB tx (cnt - p) p) 1 rfl rfl dX3_readsNumber_33 ?_
    refine x_put E hw kf_X3_29 kp_X3_2 0 rfl (ty := .int) (by decide +kernel) rfl rfl (by simp) (ws' := [(h 11, .inr (3, [.ref (h 12), .int (nI cnt), .int (nI (skB tx (cnt - p) p + 1)), .int ca, .int fa, .int od, .ref (h 13), .ref (h 14)])), (h 12, .inl (g.2.1, 120, .inl tx)), (h 14, .inl (g.2.1, 72, .inl nu))]) rfl dX3_readsNumber_34 (fun H locs hw => ?_)
    have hS : nmS true tx cnt p = skB tx (cnt - p) p + 1 := if_pos ⟨rfl, cm⟩
    have hN : nmV true tx cnt p = -(nmD true tx cnt p).1 := if_pos ⟨rfl, cm⟩
    refine lv_iconst (v := 0) hx hb dX3_readsNumber_37 (by decide) ?_
    refine lv_istore (lv' := [(4, .int 0), (3, .int 1), (0, .ref (h 11)), (1, .int (nI u)), (2, .int 1)]) hx hb dX3_readsNumber_38 hl (by decide) rfl (fun ls hl => ?_)
    refine lv_iconst (v := 0) hx hb dX3_readsNumber_40 (by decide) ?_
    refine lv_istore (lv' := [(5, .int 0), (4, .int 0), (3, .int 1), (0, .ref (h 11)), (1, .int (nI u)), (2, .int 1)]) hx hb dX3_readsNumber_41 hl (by decide) rfl (fun ls hl => ?_)
    have lp_43 : ∀ (fuel : Nat) (k : Nat) (v : Int32) (x : Nat), 3 - k < fuel → k ≤ 3 → x = skB tx (cnt - p) p + 1 + k → x ≤ cnt → dgs tx cnt (3 - k) v x = dgs tx cnt 3 0 (skB tx (cnt - p) p + 1) → ∀ (H : Heap) (locs : List Loc) (ls : Array Slot), xW g A0 s0 [(h 11, .inr (3, [.ref (h 12), .int (nI cnt), .int (nI x), .int ca, .int fa, .int od, .ref (h 13), .ref (h 14)])), (h 12, .inl (g.2.1, 120, .inl tx)), (h 14, .inl (g.2.1, 72, .inl nu))] H locs → lv_has ls 6 [(5, .int (nI k)), (4, .int v), (0, .ref (h 11)), (1, .int (nI u)), (3, .int 1)] → W p0 l e0 (xR 2 42) s0 m0 [.ref (h 11), .int (nI u), .int 1].toArray below meth c0 H locs 0 0 Q (F0 m0 43 ls []) := by
      intro fuel
      induction fuel with
      | zero => intro k v x hm; exact absurd hm (Nat.not_lt_zero _)
      | succ fuel ih =>
        intro k v x hm hk hxk hxc hv H locs ls hw hl
        refine lv_iload hx hb dX3_readsNumber_43 (lv_at hl 0 rfl) ?_
        refine lv_iconst (v := 3) hx hb dX3_readsNumber_45 (by decide) ?_
        refine xn_ge (tgt := 92) hx hb k 3 rfl rfl (by omega) (by omega) dX3_readsNumber_46 (by decide) (fun ck => ?_) (fun ck => ?_)
        · have hD : nmD true tx cnt p = (v, x) := by rw [nmD, hS, ← hv, show 3 - k = 0 by omega]; rfl
          refine lv_iload hx hb dX3_readsNumber_92 (lv_at hl 0 rfl) ?_
          refine xz_eq (tgt := 104) hx hb k rfl (by omega) dX3_readsNumber_94 (by decide) (fun cz => ?_) (fun cz => ?_)
          · refine lv_aload_n hx hb dX3_readsNumber_104 rfl (lv_at hl 2 rfl) ?_
            refine lv_iconst (v := 2) hx hb dX3_readsNumber_105 (by decide) ?_
            refine lv_aload_n hx hb dX3_readsNumber_106 rfl (lv_at hl 2 rfl) ?_
            refine x_get E hw kf_X3_29 0 rfl rfl dX3_readsNumber_107 ?_
            refine x_go (ws' := [(h 11, .inr (3, [.ref (h 12), .int (nI cnt), .int (nI x), .int 2, .int (nI x), .int od, .ref (h 13), .ref (h 14)])), (h 12, .inl (g.2.1, 120, .inl tx)), (h 14, .inl (g.2.1, 72, .inl nu))]) (st1 := [.int 0]) E hw [0] rfl (x_runV (rest := []) E hw (c_X3_faulty l g h cnt x ca fa od 2 (nI x) ) km_X3_42 kv_X3_faulty [0] rfl (by decide) 0 rfl hl.1 rfl rfl (Nat.le_of_ble_eq_true rfl) ⟨Nat.le_of_ble_eq_true rfl, Nat.le_of_ble_eq_true rfl⟩ ⟨Nat.zero_le _, Nat.zero_le _⟩ dX3_readsNumber_110) rfl rfl rfl (fun H locs hw => ?_)
            have hno : ¬ nmOk true tx cnt p := nm_f0 hS hD (by omega)
            exact xr_z hQ E hr hw dX3_readsNumber_113 (by decide) ⟨congrArg (fun z => some (Value.int z)) ((bI_f hno).symm), (by simp only [if_neg hno, hD])⟩
          · refine lv_aload_n hx hb dX3_readsNumber_97 rfl (lv_at hl 2 rfl) ?_
            refine x_go (ws' := [(h 11, .inr (3, [.ref (h 12), .int (nI cnt), .int (nI x), .int ca, .int fa, .int od, .ref (h 13), .ref (h 14)])), (h 12, .inl (g.2.1, 120, .inl tx)), (h 14, .inl (g.2.1, 72, .inl nu))]) (st1 := [.int (bI (x < cnt ∧ (48 ≤ tx x ∧ tx x ≤ 57)))]) E hw [0, 1] rfl (x_runV (rest := []) E hw (c_X3_isAtFigure l g h cnt x ca fa od tx (by omega) hxc) km_X3_60 kv_X3_isAtFigure [0, 1] rfl (by decide) 0 rfl hl.1 rfl rfl (Nat.le_of_ble_eq_true rfl) ⟨Nat.le_of_ble_eq_true rfl, Nat.le_of_ble_eq_true rfl⟩ ⟨Nat.zero_le _, Nat.zero_le _⟩ dX3_readsNumber_98) rfl rfl rfl (fun H locs hw => ?_)
            refine xb_eq (tgt := 114) hx hb dX3_readsNumber_101 (by decide) (fun cf => ?_) (fun cf => ?_)
            · refine lv_aload_n hx hb dX3_readsNumber_114 rfl (lv_at hl 2 rfl) ?_
              refine x_get E hw kf_X3_18 0 rfl rfl dX3_readsNumber_115 ?_
              refine lv_iload_n hx hb dX3_readsNumber_118 rfl (lv_at hl 3 rfl) ?_
              refine lv_iload_n hx hb dX3_readsNumber_119 rfl (lv_at hl 4 rfl) ?_
              refine lv_if_eq (tgt := 129) hx hb dX3_readsNumber_120 (by decide) (fun h => absurd h (by decide)) (fun _ => ?_)
              refine lv_iload hx hb dX3_readsNumber_123 (lv_at hl 1 rfl) ?_
              refine lv_ineg hx hb dX3_readsNumber_125 ?_
              refine lv_goto (tgt := 131) hx hb dX3_readsNumber_126 (by decide) ?_
              refine x_ist E hw 2 rfl u rfl (by omega) (by decide) (ws' := [(h 11, .inr (3, [.ref (h 12), .int (nI cnt), .int (nI x), .int ca, .int fa, .int od, .ref (h 13), .ref (h 14)])), (h 12, .inl (g.2.1, 120, .inl tx)), (h 14, .inl (g.2.1, 72, .inl (upd nu u (-v))))]) rfl dX3_readsNumber_131 (fun H locs hw => ?_)
              refine lv_iconst (v := 1) hx hb dX3_readsNumber_132 (by decide) ?_
              have hok : nmOk true tx cnt p := nm_t hS hD (by omega) cf
              exact xr_z hQ E hr hw dX3_readsNumber_133 (by decide) ⟨congrArg (fun z => some (Value.int z)) ((bI_t hok).symm), (by simp only [if_pos hok, hD, hN])⟩
            · refine lv_aload_n hx hb dX3_readsNumber_104 rfl (lv_at hl 2 rfl) ?_
              refine lv_iconst (v := 2) hx hb dX3_readsNumber_105 (by decide) ?_
              refine lv_aload_n hx hb dX3_readsNumber_106 rfl (lv_at hl 2 rfl) ?_
              refine x_get E hw kf_X3_29 0 rfl rfl dX3_readsNumber_107 ?_
              refine x_go (ws' := [(h 11, .inr (3, [.ref (h 12), .int (nI cnt), .int (nI x), .int 2, .int (nI x), .int od, .ref (h 13), .ref (h 14)])), (h 12, .inl (g.2.1, 120, .inl tx)), (h 14, .inl (g.2.1, 72, .inl nu))]) (st1 := [.int 0]) E hw [0] rfl (x_runV (rest := []) E hw (c_X3_faulty l g h cnt x ca fa od 2 (nI x) ) km_X3_42 kv_X3_faulty [0] rfl (by decide) 0 rfl hl.1 rfl rfl (Nat.le_of_ble_eq_true rfl) ⟨Nat.le_of_ble_eq_true rfl, Nat.le_of_ble_eq_true rfl⟩ ⟨Nat.zero_le _, Nat.zero_le _⟩ dX3_readsNumber_110) rfl rfl rfl (fun H locs hw => ?_)
              have hno : ¬ nmOk true tx cnt p := nm_f1 hD cf
              exact xr_z hQ E hr hw dX3_readsNumber_113 (by decide) ⟨congrArg (fun z => some (Value.int z)) ((bI_f hno).symm), (by simp only [if_neg hno, hD])⟩
        · refine lv_aload_n hx hb dX3_readsNumber_49 rfl (lv_at hl 2 rfl) ?_
          refine x_go (ws' := [(h 11, .inr (3, [.ref (h 12), .int (nI cnt), .int (nI x), .int ca, .int fa, .int od, .ref (h 13), .ref (h 14)])), (h 12, .inl (g.2.1, 120, .inl tx)), (h 14, .inl (g.2.1, 72, .inl nu))]) (st1 := [.int (bI (x < cnt ∧ (48 ≤ tx x ∧ tx x ≤ 57)))]) E hw [0, 1] rfl (x_runV (rest := []) E hw (c_X3_isAtFigure l g h cnt x ca fa od tx (by omega) hxc) km_X3_60 kv_X3_isAtFigure [0, 1] rfl (by decide) 0 rfl hl.1 rfl rfl (Nat.le_of_ble_eq_true rfl) ⟨Nat.le_of_ble_eq_true rfl, Nat.le_of_ble_eq_true rfl⟩ ⟨Nat.zero_le _, Nat.zero_le _⟩ dX3_readsNumber_50) rfl rfl rfl (fun H locs hw => ?_)
          refine xb_eq (tgt := 92) hx hb dX3_readsNumber_53 (by decide) (fun cg => ?_) (fun cg => ?_)
          · have hD : nmD true tx cnt p = (v, x) := by rw [nmD, hS, ← hv]; exact dgs_no cg
            refine lv_iload hx hb dX3_readsNumber_92 (lv_at hl 0 rfl) ?_
            refine xz_eq (tgt := 104) hx hb k rfl (by omega) dX3_readsNumber_94 (by decide) (fun cz => ?_) (fun cz => ?_)
            · refine lv_aload_n hx hb dX3_readsNumber_104 rfl (lv_at hl 2 rfl) ?_
              refine lv_iconst (v := 2) hx hb dX3_readsNumber_105 (by decide) ?_
              refine lv_aload_n hx hb dX3_readsNumber_106 rfl (lv_at hl 2 rfl) ?_
              refine x_get E hw kf_X3_29 0 rfl rfl dX3_readsNumber_107 ?_
              refine x_go (ws' := [(h 11, .inr (3, [.ref (h 12), .int (nI cnt), .int (nI x), .int 2, .int (nI x), .int od, .ref (h 13), .ref (h 14)])), (h 12, .inl (g.2.1, 120, .inl tx)), (h 14, .inl (g.2.1, 72, .inl nu))]) (st1 := [.int 0]) E hw [0] rfl (x_runV (rest := []) E hw (c_X3_faulty l g h cnt x ca fa od 2 (nI x) ) km_X3_42 kv_X3_faulty [0] rfl (by decide) 0 rfl hl.1 rfl rfl (Nat.le_of_ble_eq_true rfl) ⟨Nat.le_of_ble_eq_true rfl, Nat.le_of_ble_eq_true rfl⟩ ⟨Nat.zero_le _, Nat.zero_le _⟩ dX3_readsNumber_110) rfl rfl rfl (fun H locs hw => ?_)
              have hno : ¬ nmOk true tx cnt p := nm_f0 hS hD (by omega)
              exact xr_z hQ E hr hw dX3_readsNumber_113 (by decide) ⟨congrArg (fun z => some (Value.int z)) ((bI_f hno).symm), (by simp only [if_neg hno, hD])⟩
            · refine lv_aload_n hx hb dX3_readsNumber_97 rfl (lv_at hl 2 rfl) ?_
              refine x_go (ws' := [(h 11, .inr (3, [.ref (h 12), .int (nI cnt), .int (nI x), .int ca, .int fa, .int od, .ref (h 13), .ref (h 14)])), (h 12, .inl (g.2.1, 120, .inl tx)), (h 14, .inl (g.2.1, 72, .inl nu))]) (st1 := [.int (bI (x < cnt ∧ (48 ≤ tx x ∧ tx x ≤ 57)))]) E hw [0, 1] rfl (x_runV (rest := []) E hw (c_X3_isAtFigure l g h cnt x ca fa od tx (by omega) hxc) km_X3_60 kv_X3_isAtFigure [0, 1] rfl (by decide) 0 rfl hl.1 rfl rfl (Nat.le_of_ble_eq_true rfl) ⟨Nat.le_of_ble_eq_true rfl, Nat.le_of_ble_eq_true rfl⟩ ⟨Nat.zero_le _, Nat.zero_le _⟩ dX3_readsNumber_98) rfl rfl rfl (fun H locs hw => ?_)
              refine xb_eq (tgt := 114) hx hb dX3_readsNumber_101 (by decide) (fun cf => ?_) (fun cf => ?_)
              · refine lv_aload_n hx hb dX3_readsNumber_114 rfl (lv_at hl 2 rfl) ?_
                refine x_get E hw kf_X3_18 0 rfl rfl dX3_readsNumber_115 ?_
                refine lv_iload_n hx hb dX3_readsNumber_118 rfl (lv_at hl 3 rfl) ?_
                refine lv_iload_n hx hb dX3_readsNumber_119 rfl (lv_at hl 4 rfl) ?_
                refine lv_if_eq (tgt := 129) hx hb dX3_readsNumber_120 (by decide) (fun h => absurd h (by decide)) (fun _ => ?_)
                refine lv_iload hx hb dX3_readsNumber_123 (lv_at hl 1 rfl) ?_
                refine lv_ineg hx hb dX3_readsNumber_125 ?_
                refine lv_goto (tgt := 131) hx hb dX3_readsNumber_126 (by decide) ?_
                refine x_ist E hw 2 rfl u rfl (by omega) (by decide) (ws' := [(h 11, .inr (3, [.ref (h 12), .int (nI cnt), .int (nI x), .int ca, .int fa, .int od, .ref (h 13), .ref (h 14)])), (h 12, .inl (g.2.1, 120, .inl tx)), (h 14, .inl (g.2.1, 72, .inl (upd nu u (-v))))]) rfl dX3_readsNumber_131 (fun H locs hw => ?_)
                refine lv_iconst (v := 1) hx hb dX3_readsNumber_132 (by decide) ?_
                have hok : nmOk true tx cnt p := nm_t hS hD (by omega) cf
                exact xr_z hQ E hr hw dX3_readsNumber_133 (by decide) ⟨congrArg (fun z => some (Value.int z)) ((bI_t hok).symm), (by simp only [if_pos hok, hD, hN])⟩
              · refine lv_aload_n hx hb dX3_readsNumber_104 rfl (lv_at hl 2 rfl) ?_
                refine lv_iconst (v := 2) hx hb dX3_readsNumber_105 (by decide) ?_
                refine lv_aload_n hx hb dX3_readsNumber_106 rfl (lv_at hl 2 rfl) ?_
                refine x_get E hw kf_X3_29 0 rfl rfl dX3_readsNumber_107 ?_
                refine x_go (ws' := [(h 11, .inr (3, [.ref (h 12), .int (nI cnt), .int (nI x), .int 2, .int (nI x), .int od, .ref (h 13), .ref (h 14)])), (h 12, .inl (g.2.1, 120, .inl tx)), (h 14, .inl (g.2.1, 72, .inl nu))]) (st1 := [.int 0]) E hw [0] rfl (x_runV (rest := []) E hw (c_X3_faulty l g h cnt x ca fa od 2 (nI x) ) km_X3_42 kv_X3_faulty [0] rfl (by decide) 0 rfl hl.1 rfl rfl (Nat.le_of_ble_eq_true rfl) ⟨Nat.le_of_ble_eq_true rfl, Nat.le_of_ble_eq_true rfl⟩ ⟨Nat.zero_le _, Nat.zero_le _⟩ dX3_readsNumber_110) rfl rfl rfl (fun H locs hw => ?_)
                have hno : ¬ nmOk true tx cnt p := nm_f1 hD cf
                exact xr_z hQ E hr hw dX3_readsNumber_113 (by decide) ⟨congrArg (fun z => some (Value.int z)) ((bI_f hno).symm), (by simp only [if_neg hno, hD])⟩
          · refine lv_bipush (v := 10) hx hb dX3_readsNumber_56 (by decide) ?_
            refine lv_iload hx hb dX3_readsNumber_58 (lv_at hl 1 rfl) ?_
            refine lv_imul hx hb dX3_readsNumber_60 ?_
            refine lv_aload_n hx hb dX3_readsNumber_61 rfl (lv_at hl 2 rfl) ?_
            refine x_get E hw kf_X3_11 0 rfl rfl dX3_readsNumber_62 ?_
            refine lv_aload_n hx hb dX3_readsNumber_65 rfl (lv_at hl 2 rfl) ?_
            refine x_get E hw kf_X3_29 0 rfl rfl dX3_readsNumber_66 ?_
            refine x_ld (v := tx x) E hw 1 rfl x rfl (by have := cg.1; omega) (by decide) rfl dX3_readsNumber_69 ?_
            refine lv_iadd hx hb dX3_readsNumber_70 ?_
            refine lv_bipush (v := 48) hx hb dX3_readsNumber_71 (by decide) ?_
            refine lv_isub hx hb dX3_readsNumber_73 ?_
            refine lv_istore (lv' := [(4, .int (((10 * v) + tx x) - 48)), (5, .int (nI k)), (0, .ref (h 11)), (1, .int (nI u)), (3, .int 1)]) hx hb dX3_readsNumber_74 hl (by decide) rfl (fun ls hl => ?_)
            refine lv_aload_n hx hb dX3_readsNumber_76 rfl (lv_at hl 2 rfl) ?_
            refine lv_dup hx hb dX3_readsNumber_77 rfl ?_
            refine x_get E hw kf_X3_29 0 rfl rfl dX3_readsNumber_78 ?_
            refine lv_iconst (v := 1) hx hb dX3_readsNumber_81 (by decide) ?_
            refine xn_add hx hb x 1 rfl rfl dX3_readsNumber_82 ?_
            refine x_put E hw kf_X3_29 kp_X3_2 0 rfl (ty := .int) (by decide +kernel) rfl rfl (by simp) (ws' := [(h 11, .inr (3, [.ref (h 12), .int (nI cnt), .int (nI (x + 1)), .int ca, .int fa, .int od, .ref (h 13), .ref (h 14)])), (h 12, .inl (g.2.1, 120, .inl tx)), (h 14, .inl (g.2.1, 72, .inl nu))]) rfl dX3_readsNumber_83 (fun H locs hw => ?_)
            refine lv_iinc (v := nI (k + 1)) (lv' := [(5, .int (nI (k + 1))), (4, .int (((10 * v) + tx x) - 48)), (0, .ref (h 11)), (1, .int (nI u)), (3, .int 1)]) hx hb dX3_readsNumber_86 hl (k := 1) rfl (nI_1 _) (by decide) rfl (fun ls hl => ?_)
            refine lv_goto (tgt := 43) hx hb dX3_readsNumber_89 (by decide) ?_
            have hl : lv_has ls 6 [(5, .int (nI (k + 1))), (4, .int (((10 * v) + tx x) - 48)), (0, .ref (h 11)), (1, .int (nI u)), (3, .int 1)] := lv_sub hl [0, 1, 2, 3, 4] rfl
            have hl : lv_has ls 6 [(5, .int (nI (k + 1))), (4, .int (((10 * v) + tx x) - 48)), (0, .ref (h 11)), (1, .int (nI u)), (3, .int 1)] := hl
            have hw : xW g A0 s0 [(h 11, .inr (3, [.ref (h 12), .int (nI cnt), .int (nI (x + 1)), .int ca, .int fa, .int od, .ref (h 13), .ref (h 14)])), (h 12, .inl (g.2.1, 120, .inl tx)), (h 14, .inl (g.2.1, 72, .inl nu))] _ _ := hw
            exact ih (k + 1) (((10 * v) + tx x) - 48) (x + 1) (by omega) (by omega) (by omega) cg.1 ((dgs_st (by omega) cg).symm.trans hv) _ _ _ hw hl
    have hl : lv_has ls 6 [(5, .int 0), (4, .int 0), (0, .ref (h 11)), (1, .int (nI u)), (3, .int 1)] := lv_sub hl [0, 1, 3, 4, 2] rfl
    have hl : lv_has ls 6 [(5, .int 0), (4, .int 0), (0, .ref (h 11)), (1, .int (nI u)), (3, .int 1)] := hl
    have hw : xW g A0 s0 [(h 11, .inr (3, [.ref (h 12), .int (nI cnt), .int (nI (skB tx (cnt - p) p + 1)), .int ca, .int fa, .int od, .ref (h 13), .ref (h 14)])), (h 12, .inl (g.2.1, 120, .inl tx)), (h 14, .inl (g.2.1, 72, .inl nu))] _ _ := hw
    exact lp_43 ((3 - 0) + 1) 0 0 (skB tx (cnt - p) p + 1) (Nat.lt_succ_self _) (by omega) rfl (cm.1) rfl _ _ _ hw hl

theorem c_X3_readsNumber_0ok (l : Launch) (g : xCfg) (h : Nat → Nat) (cnt : Nat) (p : Nat) (ca : Int32) (fa : Int32) (od : Int32) (tx : Nat → Int32) (nu : Nat → Int32) (u : Nat) (hc : cnt ≤ 120) (hp : p ≤ cnt) (hu : u < 72) (hk : nmOk false tx cnt p) : Ct l g yX3_readsNumber cX3_readsNumber 6 (some .boolean) (xR 2 42) [.ref (h 11), .int (nI u), .int 0] [(h 11, .inr (3, [.ref (h 12), .int (nI cnt), .int (nI p), .int ca, .int fa, .int od, .ref (h 13), .ref (h 14)])), (h 12, .inl (g.2.1, 120, .inl tx)), (h 14, .inl (g.2.1, 72, .inl nu))] (is1 (some (.int 1)) [(h 11, .inr (3, [.ref (h 12), .int (nI cnt), .int (nI ((nmD false tx cnt p).2)), .int ca, .int fa, .int od, .ref (h 13), .ref (h 14)])), (h 12, .inl (g.2.1, 120, .inl tx)), (h 14, .inl (g.2.1, 72, .inl (upd nu u (nmV false tx cnt p))))]) := by
  have h1 := c_X3_readsNumber_0 l g h cnt p ca fa od tx nu u hc hp hu
  simp only [if_pos hk, bI_t hk] at h1
  exact h1

theorem c_X3_readsNumber_0no (l : Launch) (g : xCfg) (h : Nat → Nat) (cnt : Nat) (p : Nat) (ca : Int32) (fa : Int32) (od : Int32) (tx : Nat → Int32) (nu : Nat → Int32) (u : Nat) (hc : cnt ≤ 120) (hp : p ≤ cnt) (hu : u < 72) (hk : ¬ nmOk false tx cnt p) : Ct l g yX3_readsNumber cX3_readsNumber 6 (some .boolean) (xR 2 42) [.ref (h 11), .int (nI u), .int 0] [(h 11, .inr (3, [.ref (h 12), .int (nI cnt), .int (nI p), .int ca, .int fa, .int od, .ref (h 13), .ref (h 14)])), (h 12, .inl (g.2.1, 120, .inl tx)), (h 14, .inl (g.2.1, 72, .inl nu))] (is1 (some (.int 0)) [(h 11, .inr (3, [.ref (h 12), .int (nI cnt), .int (nI ((nmD false tx cnt p).2)), .int 2, .int (nI (nmD false tx cnt p).2), .int od, .ref (h 13), .ref (h 14)])), (h 12, .inl (g.2.1, 120, .inl tx)), (h 14, .inl (g.2.1, 72, .inl nu))]) := by
  have h1 := c_X3_readsNumber_0 l g h cnt p ca fa od tx nu u hc hp hu
  simp only [if_neg hk, bI_f hk] at h1
  exact h1

theorem c_X3_readsNumber_1ok (l : Launch) (g : xCfg) (h : Nat → Nat) (cnt : Nat) (p : Nat) (ca : Int32) (fa : Int32) (od : Int32) (tx : Nat → Int32) (nu : Nat → Int32) (u : Nat) (hc : cnt ≤ 120) (hp : p ≤ cnt) (hu : u < 72) (hk : nmOk true tx cnt p) : Ct l g yX3_readsNumber cX3_readsNumber 6 (some .boolean) (xR 2 42) [.ref (h 11), .int (nI u), .int 1] [(h 11, .inr (3, [.ref (h 12), .int (nI cnt), .int (nI p), .int ca, .int fa, .int od, .ref (h 13), .ref (h 14)])), (h 12, .inl (g.2.1, 120, .inl tx)), (h 14, .inl (g.2.1, 72, .inl nu))] (is1 (some (.int 1)) [(h 11, .inr (3, [.ref (h 12), .int (nI cnt), .int (nI ((nmD true tx cnt p).2)), .int ca, .int fa, .int od, .ref (h 13), .ref (h 14)])), (h 12, .inl (g.2.1, 120, .inl tx)), (h 14, .inl (g.2.1, 72, .inl (upd nu u (nmV true tx cnt p))))]) := by
  have h1 := c_X3_readsNumber_1 l g h cnt p ca fa od tx nu u hc hp hu
  simp only [if_pos hk, bI_t hk] at h1
  exact h1

theorem c_X3_readsNumber_1no (l : Launch) (g : xCfg) (h : Nat → Nat) (cnt : Nat) (p : Nat) (ca : Int32) (fa : Int32) (od : Int32) (tx : Nat → Int32) (nu : Nat → Int32) (u : Nat) (hc : cnt ≤ 120) (hp : p ≤ cnt) (hu : u < 72) (hk : ¬ nmOk true tx cnt p) : Ct l g yX3_readsNumber cX3_readsNumber 6 (some .boolean) (xR 2 42) [.ref (h 11), .int (nI u), .int 1] [(h 11, .inr (3, [.ref (h 12), .int (nI cnt), .int (nI p), .int ca, .int fa, .int od, .ref (h 13), .ref (h 14)])), (h 12, .inl (g.2.1, 120, .inl tx)), (h 14, .inl (g.2.1, 72, .inl nu))] (is1 (some (.int 0)) [(h 11, .inr (3, [.ref (h 12), .int (nI cnt), .int (nI ((nmD true tx cnt p).2)), .int 2, .int (nI (nmD true tx cnt p).2), .int od, .ref (h 13), .ref (h 14)])), (h 12, .inl (g.2.1, 120, .inl tx)), (h 14, .inl (g.2.1, 72, .inl nu))]) := by
  have h1 := c_X3_readsNumber_1 l g h cnt p ca fa od tx nu u hc hp hu
  simp only [if_neg hk, bI_f hk] at h1
  exact h1

set_option maxRecDepth 100000 in
set_option maxHeartbeats 4000000 in
theorem c_X3_readsOrder (l : Launch) (g : xCfg) (h : Nat → Nat) (cnt : Nat) (p : Nat) (ca : Int32) (fa : Int32) (od : Int32) (tx : Nat → Int32) (wo : Nat → Int32) (nu : Nat → Int32) (k : Nat) (hc : cnt ≤ 120) (hp : p ≤ cnt) (hk : k < 24) : Ct l g yX3_readsOrder cX3_readsOrder 7 (some .boolean) (xR 6 132) [.ref (h 11), .int (nI k)] [(h 11, .inr (3, [.ref (h 12), .int (nI cnt), .int (nI p), .int ca, .int fa, .int od, .ref (h 13), .ref (h 14)])), (h 12, .inl (g.2.1, 120, .inl tx)), (h 13, .inl (g.2.1, 24, .inl wo)), (h 14, .inl (g.2.1, 72, .inl nu))] (is1 (some (.int (bI ((odR tx cnt k p wo nu ca fa).1 = true)))) [(h 11, .inr (3, [.ref (h 12), .int (nI cnt), .int (nI ((odR tx cnt k p wo nu ca fa).2.1)), .int ((odR tx cnt k p wo nu ca fa).2.2.2.2.1), .int ((odR tx cnt k p wo nu ca fa).2.2.2.2.2), .int od, .ref (h 13), .ref (h 14)])), (h 12, .inl (g.2.1, 120, .inl tx)), (h 13, .inl (g.2.1, 24, .inl ((odR tx cnt k p wo nu ca fa).2.2.1))), (h 14, .inl (g.2.1, 72, .inl ((odR tx cnt k p wo nu ca fa).2.2.2.1)))]) := by
  refine Ct.walk (by decide) (Nat.le_of_ble_eq_true rfl) ?_
  intro p0 e0 s0 m0 below meth c0 A0 ls Q hQ E hr hnm hw hl
  have hx := E.x
  have hb := E.b
  have hl : lv_has ls 7 [(0, .ref (h 11)), (1, .int (nI k))] := hl
  refine lv_aload_n hx hb dX3_readsOrder_0 rfl (lv_at hl 0 rfl) ?_
  refine x_go (ws' := [(h 11, .inr (3, [.ref (h 12), .int (nI cnt), .int (nI (skB tx (cnt - p) p)), .int ca, .int fa, .int od, .ref (h 13), .ref (h 14)])), (h 12, .inl (g.2.1, 120, .inl tx)), (h 13, .inl (g.2.1, 24, .inl wo)), (h 14, .inl (g.2.1, 72, .inl nu))]) (st1 := []) E hw [0, 1] rfl (x_runV (rest := []) E hw (c_X3_skipsBlanks l g h cnt p ca fa od tx (by omega) hp) km_X3_39 kv_X3_skipsBlanks [0, 1] rfl (by decide) 0 rfl hl.1 rfl rfl (Nat.le_of_ble_eq_true rfl) ⟨Nat.le_of_ble_eq_true rfl, Nat.le_of_ble_eq_true rfl⟩ ⟨Nat.zero_le _, Nat.zero_le _⟩ dX3_readsOrder_1) rfl rfl rfl (fun H locs hw => ?_)
  refine lv_aload_n hx hb dX3_readsOrder_4 rfl (lv_at hl 0 rfl) ?_
  refine x_get E hw kf_X3_29 0 rfl rfl dX3_readsOrder_5 ?_
  refine lv_istore_n (lv' := [(2, .int (nI (skB tx (cnt - p) p))), (0, .ref (h 11)), (1, .int (nI k))]) hx hb dX3_readsOrder_8 rfl hl (by decide) rfl (fun ls hl => ?_)
  refine lv_aload_n hx hb dX3_readsOrder_9 rfl (lv_at hl 1 rfl) ?_
  refine x_go (ws' := [(h 11, .inr (3, [.ref (h 12), .int (nI cnt), .int (nI (skL tx (cnt - (skB tx (cnt - p) p)) (skB tx (cnt - p) p))), .int ca, .int fa, .int od, .ref (h 13), .ref (h 14)])), (h 12, .inl (g.2.1, 120, .inl tx)), (h 13, .inl (g.2.1, 24, .inl wo)), (h 14, .inl (g.2.1, 72, .inl nu))]) (st1 := []) E hw [0, 1] rfl (x_runV (rest := []) E hw (c_X3_skipsLetters l g h cnt (skB tx (cnt - p) p) ca fa od tx (by omega) (skB_le hp)) km_X3_46 kv_X3_skipsLetters [0, 1] rfl (by decide) 0 rfl hl.1 rfl rfl (Nat.le_of_ble_eq_true rfl) ⟨Nat.le_of_ble_eq_true rfl, Nat.le_of_ble_eq_true rfl⟩ ⟨Nat.zero_le _, Nat.zero_le _⟩ dX3_readsOrder_10) rfl rfl rfl (fun H locs hw => ?_)
  have hw : xW g A0 s0 [(h 11, .inr (3, [.ref (h 12), .int (nI cnt), .int (nI (od2 tx cnt p)), .int ca, .int fa, .int od, .ref (h 13), .ref (h 14)])), (h 12, .inl (g.2.1, 120, .inl tx)), (h 13, .inl (g.2.1, 24, .inl wo)), (h 14, .inl (g.2.1, 72, .inl nu))] _ _ := hw
  refine lv_aload_n hx hb dX3_readsOrder_13 rfl (lv_at hl 1 rfl) ?_
  refine x_get E hw kf_X3_29 0 rfl rfl dX3_readsOrder_14 ?_
  refine lv_iload_n hx hb dX3_readsOrder_17 rfl (lv_at hl 0 rfl) ?_
  refine xn_ne (tgt := 31) hx hb (od2 tx cnt p) (skB tx (cnt - p) p) rfl rfl (by have := od2_le (tx := tx) hp; omega) (by have := skB_le (tx := tx) hp; omega) dX3_readsOrder_18 (by decide) (fun c0 => ?_) (fun c0 => ?_)
  · refine lv_aload_n hx hb dX3_readsOrder_31 rfl (lv_at hl 1 rfl) ?_
    refine lv_iload_n hx hb dX3_readsOrder_32 rfl (lv_at hl 0 rfl) ?_
    refine lv_aload_n hx hb dX3_readsOrder_33 rfl (lv_at hl 1 rfl) ?_
    refine x_get E hw kf_X3_29 0 rfl rfl dX3_readsOrder_34 ?_
    refine x_go (ws' := [(h 11, .inr (3, [.ref (h 12), .int (nI cnt), .int (nI (od2 tx cnt p)), .int ca, .int fa, .int od, .ref (h 13), .ref (h 14)])), (h 12, .inl (g.2.1, 120, .inl tx)), (h 13, .inl (g.2.1, 24, .inl wo)), (h 14, .inl (g.2.1, 72, .inl nu))]) (st1 := [.int (wrd tx (skB tx (cnt - p) p) (od2 tx cnt p))]) E hw [0, 1] rfl (x_runV (rest := []) E hw (c_X3_wordBetween l g h cnt (od2 tx cnt p) ca fa od tx (skB tx (cnt - p) p) (od2 tx cnt p) ((skL_ge tx _ _).1) (Nat.le_trans (od2_le (tx := tx) hp) hc)) km_X3_49 kv_X3_wordBetween [0, 1] rfl (by decide) 0 rfl hl.1 rfl rfl (Nat.le_of_ble_eq_true rfl) ⟨Nat.le_of_ble_eq_true rfl, Nat.le_of_ble_eq_true rfl⟩ ⟨Nat.zero_le _, Nat.zero_le _⟩ dX3_readsOrder_37) rfl rfl rfl (fun H locs hw => ?_)
    refine x_top (v' := .int (odW tx cnt p)) rfl ?_
    refine lv_istore_n (lv' := [(3, .int (odW tx cnt p)), (2, .int (nI (skB tx (cnt - p) p))), (0, .ref (h 11)), (1, .int (nI k))]) hx hb dX3_readsOrder_40 rfl hl (by decide) rfl (fun ls hl => ?_)
    refine lv_iload_n hx hb dX3_readsOrder_41 rfl (lv_at hl 0 rfl) ?_
    refine lv_iconst (v := -1) hx hb dX3_readsOrder_42 (by decide) ?_
    refine lv_icmp_ne (tgt := 53) hx hb dX3_readsOrder_43 (by decide) (fun c1 => ?_) (fun c1 => ?_)
    · refine lv_aload_n hx hb dX3_readsOrder_53 rfl (lv_at hl 2 rfl) ?_
      refine x_get E hw kf_X3_15 0 rfl rfl dX3_readsOrder_54 ?_
      refine lv_iload_n hx hb dX3_readsOrder_57 rfl (lv_at hl 3 rfl) ?_
      refine lv_iload_n hx hb dX3_readsOrder_58 rfl (lv_at hl 0 rfl) ?_
      refine x_ist E hw 2 rfl k rfl (by omega) (by decide) (ws' := [(h 11, .inr (3, [.ref (h 12), .int (nI cnt), .int (nI (od2 tx cnt p)), .int ca, .int fa, .int od, .ref (h 13), .ref (h 14)])), (h 12, .inl (g.2.1, 120, .inl tx)), (h 13, .inl (g.2.1, 24, .inl (upd wo k (odW tx cnt p)))), (h 14, .inl (g.2.1, 72, .inl nu))]) rfl dX3_readsOrder_59 (fun H locs hw => ?_)
      refine lv_iload_n hx hb dX3_readsOrder_60 rfl (lv_at hl 0 rfl) ?_
      refine lv_iconst (v := 1) hx hb dX3_readsOrder_61 (by decide) ?_
      refine lv_icmp_eq (tgt := 70) hx hb dX3_readsOrder_62 (by decide) (fun c2 => ?_) (fun c2 => ?_)
      · have hl : lv_has ls 7 [(3, .int 1), (2, .int (nI (skB tx (cnt - p) p))), (0, .ref (h 11)), (1, .int (nI k))] := lv_re hl (by rw [show (odW tx cnt p : Int32) = 1 from c2])
        refine lv_iconst (v := 3) hx hb dX3_readsOrder_70 (by decide) ?_
        refine lv_goto (tgt := 75) hx hb dX3_readsOrder_71 (by decide) ?_
        refine lv_istore (lv' := [(4, .int 3), (3, .int 1), (2, .int (nI (skB tx (cnt - p) p))), (0, .ref (h 11)), (1, .int (nI k))]) hx hb dX3_readsOrder_75 hl (by decide) rfl (fun ls hl => ?_)
        refine lv_iconst (v := 0) hx hb dX3_readsOrder_77 (by decide) ?_
        refine lv_istore (lv' := [(5, .int 0), (4, .int 3), (3, .int 1), (2, .int (nI (skB tx (cnt - p) p))), (0, .ref (h 11)), (1, .int (nI k))]) hx hb dX3_readsOrder_78 hl (by decide) rfl (fun ls hl => ?_)
        refine lv_iload hx hb dX3_readsOrder_80 (lv_at hl 0 rfl) ?_
        refine lv_iload hx hb dX3_readsOrder_82 (lv_at hl 1 rfl) ?_
        refine lv_icmp_ge (tgt := 128) hx hb dX3_readsOrder_84 (by decide) (fun h => absurd h (by decide)) (fun _ => ?_)
        refine lv_iload_n hx hb dX3_readsOrder_87 rfl (lv_at hl 2 rfl) ?_
        refine lv_iconst (v := 2) hx hb dX3_readsOrder_88 (by decide) ?_
        refine lv_icmp_ne (tgt := 102) hx hb dX3_readsOrder_89 (by decide) (fun _ => ?_) (fun h => absurd h (by decide))
        refine lv_iconst (v := 0) hx hb dX3_readsOrder_102 (by decide) ?_
        refine lv_istore (lv' := [(6, .int 0), (5, .int 0), (4, .int 3), (3, .int 1), (2, .int (nI (skB tx (cnt - p) p))), (0, .ref (h 11)), (1, .int (nI k))]) hx hb dX3_readsOrder_103 hl (by decide) rfl (fun ls hl => ?_)
        refine lv_aload_n hx hb dX3_readsOrder_105 rfl (lv_at hl 5 rfl) ?_
        refine lv_iload_n hx hb dX3_readsOrder_106 rfl (lv_at hl 6 rfl) ?_
        refine lv_iconst (v := 3) hx hb dX3_readsOrder_107 (by decide) ?_
        refine xn_mul hx hb k 3 rfl rfl dX3_readsOrder_108 ?_
        refine lv_iload hx hb dX3_readsOrder_109 (lv_at hl 1 rfl) ?_
        refine xn_add hx hb (k * 3) 0 rfl rfl dX3_readsOrder_111 ?_
        refine lv_iload hx hb dX3_readsOrder_112 (lv_at hl 0 rfl) ?_
        by_cases hn_2 : nmOk false tx cnt (od2 tx cnt p)
        · refine x_go (ws' := [(h 11, .inr (3, [.ref (h 12), .int (nI cnt), .int (nI ((nmD false tx cnt (od2 tx cnt p)).2)), .int ca, .int fa, .int od, .ref (h 13), .ref (h 14)])), (h 12, .inl (g.2.1, 120, .inl tx)), (h 13, .inl (g.2.1, 24, .inl (upd wo k (odW tx cnt p)))), (h 14, .inl (g.2.1, 72, .inl (upd nu (k * 3 + 0) (nmV false tx cnt (od2 tx cnt p)))))]) (st1 := [.int 1]) E hw [0, 1, 3] rfl (x_runV (rest := []) E hw (c_X3_readsNumber_0ok l g h cnt (od2 tx cnt p) ca fa od tx nu (k * 3 + 0) (by omega) (od2_le hp) (by omega) hn_2) km_X3_53 kv_X3_readsNumber [0, 1, 3] rfl (by decide) 0 rfl hl.1 rfl rfl (Nat.le_of_ble_eq_true rfl) ⟨Nat.le_of_ble_eq_true rfl, Nat.le_of_ble_eq_true rfl⟩ ⟨Nat.zero_le _, Nat.zero_le _⟩ dX3_readsOrder_114) rfl rfl rfl (fun H locs hw => ?_)
          refine lv_if_ne (tgt := 122) hx hb dX3_readsOrder_117 (by decide) (fun _ => ?_) (fun h => absurd h (by decide))
          refine lv_iinc (v := 1) (lv' := [(5, .int 1), (6, .int 0), (4, .int 3), (3, .int 1), (2, .int (nI (skB tx (cnt - p) p))), (0, .ref (h 11)), (1, .int (nI k))]) hx hb dX3_readsOrder_122 hl (k := 1) rfl (by decide) (by decide) rfl (fun ls hl => ?_)
          refine lv_goto (tgt := 80) hx hb dX3_readsOrder_125 (by decide) ?_
          refine lv_iload hx hb dX3_readsOrder_80 (lv_at hl 0 rfl) ?_
          refine lv_iload hx hb dX3_readsOrder_82 (lv_at hl 2 rfl) ?_
          refine lv_icmp_ge (tgt := 128) hx hb dX3_readsOrder_84 (by decide) (fun h => absurd h (by decide)) (fun _ => ?_)
          refine lv_iload_n hx hb dX3_readsOrder_87 rfl (lv_at hl 3 rfl) ?_
          refine lv_iconst (v := 2) hx hb dX3_readsOrder_88 (by decide) ?_
          refine lv_icmp_ne (tgt := 102) hx hb dX3_readsOrder_89 (by decide) (fun _ => ?_) (fun h => absurd h (by decide))
          refine lv_iconst (v := 0) hx hb dX3_readsOrder_102 (by decide) ?_
          refine lv_istore (lv' := [(6, .int 0), (5, .int 1), (4, .int 3), (3, .int 1), (2, .int (nI (skB tx (cnt - p) p))), (0, .ref (h 11)), (1, .int (nI k))]) hx hb dX3_readsOrder_103 hl (by decide) rfl (fun ls hl => ?_)
          refine lv_aload_n hx hb dX3_readsOrder_105 rfl (lv_at hl 5 rfl) ?_
          refine lv_iload_n hx hb dX3_readsOrder_106 rfl (lv_at hl 6 rfl) ?_
          refine lv_iconst (v := 3) hx hb dX3_readsOrder_107 (by decide) ?_
          refine xn_mul hx hb k 3 rfl rfl dX3_readsOrder_108 ?_
          refine lv_iload hx hb dX3_readsOrder_109 (lv_at hl 1 rfl) ?_
          refine xn_add hx hb (k * 3) 1 rfl rfl dX3_readsOrder_111 ?_
          refine lv_iload hx hb dX3_readsOrder_112 (lv_at hl 0 rfl) ?_
          by_cases hn_5 : nmOk false tx cnt ((nmD false tx cnt (od2 tx cnt p)).2)
          · refine x_go (ws' := [(h 11, .inr (3, [.ref (h 12), .int (nI cnt), .int (nI ((nmD false tx cnt ((nmD false tx cnt (od2 tx cnt p)).2)).2)), .int ca, .int fa, .int od, .ref (h 13), .ref (h 14)])), (h 12, .inl (g.2.1, 120, .inl tx)), (h 13, .inl (g.2.1, 24, .inl (upd wo k (odW tx cnt p)))), (h 14, .inl (g.2.1, 72, .inl (upd (upd nu (k * 3 + 0) (nmV false tx cnt (od2 tx cnt p))) (k * 3 + 1) (nmV false tx cnt ((nmD false tx cnt (od2 tx cnt p)).2)))))]) (st1 := [.int 1]) E hw [0, 1, 3] rfl (x_runV (rest := []) E hw (c_X3_readsNumber_0ok l g h cnt ((nmD false tx cnt (od2 tx cnt p)).2) ca fa od tx (upd nu (k * 3 + 0) (nmV false tx cnt (od2 tx cnt p))) (k * 3 + 1) (by omega) (nmD_le (od2_le hp)).2 (by omega) hn_5) km_X3_53 kv_X3_readsNumber [0, 1, 3] rfl (by decide) 0 rfl hl.1 rfl rfl (Nat.le_of_ble_eq_true rfl) ⟨Nat.le_of_ble_eq_true rfl, Nat.le_of_ble_eq_true rfl⟩ ⟨Nat.zero_le _, Nat.zero_le _⟩ dX3_readsOrder_114) rfl rfl rfl (fun H locs hw => ?_)
            refine lv_if_ne (tgt := 122) hx hb dX3_readsOrder_117 (by decide) (fun _ => ?_) (fun h => absurd h (by decide))
            refine lv_iinc (v := 2) (lv' := [(5, .int 2), (6, .int 0), (4, .int 3), (3, .int 1), (2, .int (nI (skB tx (cnt - p) p))), (0, .ref (h 11)), (1, .int (nI k))]) hx hb dX3_readsOrder_122 hl (k := 1) rfl (by decide) (by decide) rfl (fun ls hl => ?_)
            refine lv_goto (tgt := 80) hx hb dX3_readsOrder_125 (by decide) ?_
            refine lv_iload hx hb dX3_readsOrder_80 (lv_at hl 0 rfl) ?_
            refine lv_iload hx hb dX3_readsOrder_82 (lv_at hl 2 rfl) ?_
            refine lv_icmp_ge (tgt := 128) hx hb dX3_readsOrder_84 (by decide) (fun h => absurd h (by decide)) (fun _ => ?_)
            refine lv_iload_n hx hb dX3_readsOrder_87 rfl (lv_at hl 3 rfl) ?_
            refine lv_iconst (v := 2) hx hb dX3_readsOrder_88 (by decide) ?_
            refine lv_icmp_ne (tgt := 102) hx hb dX3_readsOrder_89 (by decide) (fun _ => ?_) (fun h => absurd h (by decide))
            refine lv_iconst (v := 0) hx hb dX3_readsOrder_102 (by decide) ?_
            refine lv_istore (lv' := [(6, .int 0), (5, .int 2), (4, .int 3), (3, .int 1), (2, .int (nI (skB tx (cnt - p) p))), (0, .ref (h 11)), (1, .int (nI k))]) hx hb dX3_readsOrder_103 hl (by decide) rfl (fun ls hl => ?_)
            refine lv_aload_n hx hb dX3_readsOrder_105 rfl (lv_at hl 5 rfl) ?_
            refine lv_iload_n hx hb dX3_readsOrder_106 rfl (lv_at hl 6 rfl) ?_
            refine lv_iconst (v := 3) hx hb dX3_readsOrder_107 (by decide) ?_
            refine xn_mul hx hb k 3 rfl rfl dX3_readsOrder_108 ?_
            refine lv_iload hx hb dX3_readsOrder_109 (lv_at hl 1 rfl) ?_
            refine xn_add hx hb (k * 3) 2 rfl rfl dX3_readsOrder_111 ?_
            refine lv_iload hx hb dX3_readsOrder_112 (lv_at hl 0 rfl) ?_
            by_cases hn_8 : nmOk false tx cnt ((nmD false tx cnt ((nmD false tx cnt (od2 tx cnt p)).2)).2)
            · refine x_go (ws' := [(h 11, .inr (3, [.ref (h 12), .int (nI cnt), .int (nI ((nmD false tx cnt ((nmD false tx cnt ((nmD false tx cnt (od2 tx cnt p)).2)).2)).2)), .int ca, .int fa, .int od, .ref (h 13), .ref (h 14)])), (h 12, .inl (g.2.1, 120, .inl tx)), (h 13, .inl (g.2.1, 24, .inl (upd wo k (odW tx cnt p)))), (h 14, .inl (g.2.1, 72, .inl (upd (upd (upd nu (k * 3 + 0) (nmV false tx cnt (od2 tx cnt p))) (k * 3 + 1) (nmV false tx cnt ((nmD false tx cnt (od2 tx cnt p)).2))) (k * 3 + 2) (nmV false tx cnt ((nmD false tx cnt ((nmD false tx cnt (od2 tx cnt p)).2)).2)))))]) (st1 := [.int 1]) E hw [0, 1, 3] rfl (x_runV (rest := []) E hw (c_X3_readsNumber_0ok l g h cnt ((nmD false tx cnt ((nmD false tx cnt (od2 tx cnt p)).2)).2) ca fa od tx (upd (upd nu (k * 3 + 0) (nmV false tx cnt (od2 tx cnt p))) (k * 3 + 1) (nmV false tx cnt ((nmD false tx cnt (od2 tx cnt p)).2))) (k * 3 + 2) (by omega) (nmD_le (nmD_le (od2_le hp)).2).2 (by omega) hn_8) km_X3_53 kv_X3_readsNumber [0, 1, 3] rfl (by decide) 0 rfl hl.1 rfl rfl (Nat.le_of_ble_eq_true rfl) ⟨Nat.le_of_ble_eq_true rfl, Nat.le_of_ble_eq_true rfl⟩ ⟨Nat.zero_le _, Nat.zero_le _⟩ dX3_readsOrder_114) rfl rfl rfl (fun H locs hw => ?_)
              refine lv_if_ne (tgt := 122) hx hb dX3_readsOrder_117 (by decide) (fun _ => ?_) (fun h => absurd h (by decide))
              refine lv_iinc (v := 3) (lv' := [(5, .int 3), (6, .int 0), (4, .int 3), (3, .int 1), (2, .int (nI (skB tx (cnt - p) p))), (0, .ref (h 11)), (1, .int (nI k))]) hx hb dX3_readsOrder_122 hl (k := 1) rfl (by decide) (by decide) rfl (fun ls hl => ?_)
              refine lv_goto (tgt := 80) hx hb dX3_readsOrder_125 (by decide) ?_
              refine lv_iload hx hb dX3_readsOrder_80 (lv_at hl 0 rfl) ?_
              refine lv_iload hx hb dX3_readsOrder_82 (lv_at hl 2 rfl) ?_
              refine lv_icmp_ge (tgt := 128) hx hb dX3_readsOrder_84 (by decide) (fun _ => ?_) (fun h => absurd h (by decide))
              refine lv_aload_n hx hb dX3_readsOrder_128 rfl (lv_at hl 5 rfl) ?_
              refine x_go (ws' := [(h 11, .inr (3, [.ref (h 12), .int (nI cnt), .int (nI (skB tx (cnt - ((nmD false tx cnt ((nmD false tx cnt ((nmD false tx cnt (od2 tx cnt p)).2)).2)).2)) ((nmD false tx cnt ((nmD false tx cnt ((nmD false tx cnt (od2 tx cnt p)).2)).2)).2))), .int ca, .int fa, .int od, .ref (h 13), .ref (h 14)])), (h 12, .inl (g.2.1, 120, .inl tx)), (h 13, .inl (g.2.1, 24, .inl (upd wo k (odW tx cnt p)))), (h 14, .inl (g.2.1, 72, .inl (upd (upd (upd nu (k * 3 + 0) (nmV false tx cnt (od2 tx cnt p))) (k * 3 + 1) (nmV false tx cnt ((nmD false tx cnt (od2 tx cnt p)).2))) (k * 3 + 2) (nmV false tx cnt ((nmD false tx cnt ((nmD false tx cnt (od2 tx cnt p)).2)).2)))))]) (st1 := []) E hw [0, 1] rfl (x_runV (rest := []) E hw (c_X3_skipsBlanks l g h cnt ((nmD false tx cnt ((nmD false tx cnt ((nmD false tx cnt (od2 tx cnt p)).2)).2)).2) ca fa od tx (by omega) (nmD_le (nmD_le (nmD_le (od2_le hp)).2).2).2) km_X3_39 kv_X3_skipsBlanks [0, 1] rfl (by decide) 0 rfl hl.1 rfl rfl (Nat.le_of_ble_eq_true rfl) ⟨Nat.le_of_ble_eq_true rfl, Nat.le_of_ble_eq_true rfl⟩ ⟨Nat.zero_le _, Nat.zero_le _⟩ dX3_readsOrder_129) rfl rfl rfl (fun H locs hw => ?_)
              refine lv_aload_n hx hb dX3_readsOrder_132 rfl (lv_at hl 5 rfl) ?_
              refine lv_bipush (v := 59) hx hb dX3_readsOrder_133 (by decide) ?_
              refine x_go (ws' := [(h 11, .inr (3, [.ref (h 12), .int (nI cnt), .int (nI (skB tx (cnt - ((nmD false tx cnt ((nmD false tx cnt ((nmD false tx cnt (od2 tx cnt p)).2)).2)).2)) ((nmD false tx cnt ((nmD false tx cnt ((nmD false tx cnt (od2 tx cnt p)).2)).2)).2))), .int ca, .int fa, .int od, .ref (h 13), .ref (h 14)])), (h 12, .inl (g.2.1, 120, .inl tx)), (h 13, .inl (g.2.1, 24, .inl (upd wo k (odW tx cnt p)))), (h 14, .inl (g.2.1, 72, .inl (upd (upd (upd nu (k * 3 + 0) (nmV false tx cnt (od2 tx cnt p))) (k * 3 + 1) (nmV false tx cnt ((nmD false tx cnt (od2 tx cnt p)).2))) (k * 3 + 2) (nmV false tx cnt ((nmD false tx cnt ((nmD false tx cnt (od2 tx cnt p)).2)).2)))))]) (st1 := [.int (bI ((skB tx (cnt - ((nmD false tx cnt ((nmD false tx cnt ((nmD false tx cnt (od2 tx cnt p)).2)).2)).2)) ((nmD false tx cnt ((nmD false tx cnt ((nmD false tx cnt (od2 tx cnt p)).2)).2)).2)) < cnt ∧ tx (skB tx (cnt - ((nmD false tx cnt ((nmD false tx cnt ((nmD false tx cnt (od2 tx cnt p)).2)).2)).2)) ((nmD false tx cnt ((nmD false tx cnt ((nmD false tx cnt (od2 tx cnt p)).2)).2)).2)) = 59))]) E hw [0, 1] rfl (x_runV (rest := []) E hw (c_X3_isAt l g h cnt (skB tx (cnt - ((nmD false tx cnt ((nmD false tx cnt ((nmD false tx cnt (od2 tx cnt p)).2)).2)).2)) ((nmD false tx cnt ((nmD false tx cnt ((nmD false tx cnt (od2 tx cnt p)).2)).2)).2)) ca fa od tx 59 (by omega) (skB_le (nmD_le (nmD_le (nmD_le (od2_le hp)).2).2).2)) km_X3_57 kv_X3_isAt [0, 1] rfl (by decide) 0 rfl hl.1 rfl rfl (Nat.le_of_ble_eq_true rfl) ⟨Nat.le_of_ble_eq_true rfl, Nat.le_of_ble_eq_true rfl⟩ ⟨Nat.zero_le _, Nat.zero_le _⟩ dX3_readsOrder_135) rfl rfl rfl (fun H locs hw => ?_)
              refine xb_ne (tgt := 151) hx hb dX3_readsOrder_138 (by decide) (fun c6 => ?_) (fun c6 => ?_)
              · refine lv_aload_n hx hb dX3_readsOrder_151 rfl (lv_at hl 5 rfl) ?_
                refine lv_dup hx hb dX3_readsOrder_152 rfl ?_
                refine x_get E hw kf_X3_29 0 rfl rfl dX3_readsOrder_153 ?_
                refine lv_iconst (v := 1) hx hb dX3_readsOrder_156 (by decide) ?_
                refine xn_add hx hb (skB tx (cnt - ((nmD false tx cnt ((nmD false tx cnt ((nmD false tx cnt (od2 tx cnt p)).2)).2)).2)) ((nmD false tx cnt ((nmD false tx cnt ((nmD false tx cnt (od2 tx cnt p)).2)).2)).2)) 1 rfl rfl dX3_readsOrder_157 ?_
                refine x_put E hw kf_X3_29 kp_X3_2 0 rfl (ty := .int) (by decide +kernel) rfl rfl (by simp) (ws' := [(h 11, .inr (3, [.ref (h 12), .int (nI cnt), .int (nI (skB tx (cnt - ((nmD false tx cnt ((nmD false tx cnt ((nmD false tx cnt (od2 tx cnt p)).2)).2)).2)) ((nmD false tx cnt ((nmD false tx cnt ((nmD false tx cnt (od2 tx cnt p)).2)).2)).2) + 1)), .int ca, .int fa, .int od, .ref (h 13), .ref (h 14)])), (h 12, .inl (g.2.1, 120, .inl tx)), (h 13, .inl (g.2.1, 24, .inl (upd wo k (odW tx cnt p)))), (h 14, .inl (g.2.1, 72, .inl (upd (upd (upd nu (k * 3 + 0) (nmV false tx cnt (od2 tx cnt p))) (k * 3 + 1) (nmV false tx cnt ((nmD false tx cnt (od2 tx cnt p)).2))) (k * 3 + 2) (nmV false tx cnt ((nmD false tx cnt ((nmD false tx cnt (od2 tx cnt p)).2)).2)))))]) rfl dX3_readsOrder_158 (fun H locs hw => ?_)
                refine lv_iconst (v := 1) hx hb dX3_readsOrder_161 (by decide) ?_
                have ho : odR tx cnt k p wo nu ca fa = (true, skB tx (cnt - ((nmD false tx cnt ((nmD false tx cnt ((nmD false tx cnt (od2 tx cnt p)).2)).2)).2)) ((nmD false tx cnt ((nmD false tx cnt ((nmD false tx cnt (od2 tx cnt p)).2)).2)).2) + 1, upd wo k (odW tx cnt p), upd (upd (upd nu (k * 3 + 0) (nmV false tx cnt (od2 tx cnt p))) (k * 3 + 1) (nmV false tx cnt ((nmD false tx cnt (od2 tx cnt p)).2))) (k * 3 + 2) (nmV false tx cnt ((nmD false tx cnt ((nmD false tx cnt (od2 tx cnt p)).2)).2)), ca, fa) := by simp only [odR, od3, od3b, od3c, od1, odE, if_neg c0, if_neg c1, if_pos c2, if_pos hn_2, if_pos hn_5, if_pos hn_8, if_pos c6]
                exact xr_z hQ E hr hw dX3_readsOrder_162 (by decide) ⟨congrArg (fun z => some (Value.int z)) ((by rw [ho]; rfl)), (by rw [ho] <;> rfl)⟩
              · refine lv_aload_n hx hb dX3_readsOrder_141 rfl (lv_at hl 5 rfl) ?_
                refine lv_iconst (v := 2) hx hb dX3_readsOrder_142 (by decide) ?_
                refine lv_aload_n hx hb dX3_readsOrder_143 rfl (lv_at hl 5 rfl) ?_
                refine x_get E hw kf_X3_29 0 rfl rfl dX3_readsOrder_144 ?_
                refine x_go (ws' := [(h 11, .inr (3, [.ref (h 12), .int (nI cnt), .int (nI (skB tx (cnt - ((nmD false tx cnt ((nmD false tx cnt ((nmD false tx cnt (od2 tx cnt p)).2)).2)).2)) ((nmD false tx cnt ((nmD false tx cnt ((nmD false tx cnt (od2 tx cnt p)).2)).2)).2))), .int 2, .int (nI (skB tx (cnt - ((nmD false tx cnt ((nmD false tx cnt ((nmD false tx cnt (od2 tx cnt p)).2)).2)).2)) ((nmD false tx cnt ((nmD false tx cnt ((nmD false tx cnt (od2 tx cnt p)).2)).2)).2))), .int od, .ref (h 13), .ref (h 14)])), (h 12, .inl (g.2.1, 120, .inl tx)), (h 13, .inl (g.2.1, 24, .inl (upd wo k (odW tx cnt p)))), (h 14, .inl (g.2.1, 72, .inl (upd (upd (upd nu (k * 3 + 0) (nmV false tx cnt (od2 tx cnt p))) (k * 3 + 1) (nmV false tx cnt ((nmD false tx cnt (od2 tx cnt p)).2))) (k * 3 + 2) (nmV false tx cnt ((nmD false tx cnt ((nmD false tx cnt (od2 tx cnt p)).2)).2)))))]) (st1 := [.int 0]) E hw [0] rfl (x_runV (rest := []) E hw (c_X3_faulty l g h cnt (skB tx (cnt - ((nmD false tx cnt ((nmD false tx cnt ((nmD false tx cnt (od2 tx cnt p)).2)).2)).2)) ((nmD false tx cnt ((nmD false tx cnt ((nmD false tx cnt (od2 tx cnt p)).2)).2)).2)) ca fa od 2 (nI (skB tx (cnt - ((nmD false tx cnt ((nmD false tx cnt ((nmD false tx cnt (od2 tx cnt p)).2)).2)).2)) ((nmD false tx cnt ((nmD false tx cnt ((nmD false tx cnt (od2 tx cnt p)).2)).2)).2))) ) km_X3_42 kv_X3_faulty [0] rfl (by decide) 0 rfl hl.1 rfl rfl (Nat.le_of_ble_eq_true rfl) ⟨Nat.le_of_ble_eq_true rfl, Nat.le_of_ble_eq_true rfl⟩ ⟨Nat.zero_le _, Nat.zero_le _⟩ dX3_readsOrder_147) rfl rfl rfl (fun H locs hw => ?_)
                have ho : odR tx cnt k p wo nu ca fa = (false, skB tx (cnt - ((nmD false tx cnt ((nmD false tx cnt ((nmD false tx cnt (od2 tx cnt p)).2)).2)).2)) ((nmD false tx cnt ((nmD false tx cnt ((nmD false tx cnt (od2 tx cnt p)).2)).2)).2), upd wo k (odW tx cnt p), upd (upd (upd nu (k * 3 + 0) (nmV false tx cnt (od2 tx cnt p))) (k * 3 + 1) (nmV false tx cnt ((nmD false tx cnt (od2 tx cnt p)).2))) (k * 3 + 2) (nmV false tx cnt ((nmD false tx cnt ((nmD false tx cnt (od2 tx cnt p)).2)).2)), 2, nI (skB tx (cnt - ((nmD false tx cnt ((nmD false tx cnt ((nmD false tx cnt (od2 tx cnt p)).2)).2)).2)) ((nmD false tx cnt ((nmD false tx cnt ((nmD false tx cnt (od2 tx cnt p)).2)).2)).2))) := by simp only [odR, od3, od3b, od3c, od1, odE, if_neg c0, if_neg c1, if_pos c2, if_pos hn_2, if_pos hn_5, if_pos hn_8, if_neg c6]
                exact xr_z hQ E hr hw dX3_readsOrder_150 (by decide) ⟨congrArg (fun z => some (Value.int z)) ((by rw [ho]; rfl)), (by rw [ho] <;> rfl)⟩
            · refine x_go (ws' := [(h 11, .inr (3, [.ref (h 12), .int (nI cnt), .int (nI ((nmD false tx cnt ((nmD false tx cnt ((nmD false tx cnt (od2 tx cnt p)).2)).2)).2)), .int 2, .int (nI (nmD false tx cnt ((nmD false tx cnt ((nmD false tx cnt (od2 tx cnt p)).2)).2)).2), .int od, .ref (h 13), .ref (h 14)])), (h 12, .inl (g.2.1, 120, .inl tx)), (h 13, .inl (g.2.1, 24, .inl (upd wo k (odW tx cnt p)))), (h 14, .inl (g.2.1, 72, .inl (upd (upd nu (k * 3 + 0) (nmV false tx cnt (od2 tx cnt p))) (k * 3 + 1) (nmV false tx cnt ((nmD false tx cnt (od2 tx cnt p)).2)))))]) (st1 := [.int 0]) E hw [0, 1, 3] rfl (x_runV (rest := []) E hw (c_X3_readsNumber_0no l g h cnt ((nmD false tx cnt ((nmD false tx cnt (od2 tx cnt p)).2)).2) ca fa od tx (upd (upd nu (k * 3 + 0) (nmV false tx cnt (od2 tx cnt p))) (k * 3 + 1) (nmV false tx cnt ((nmD false tx cnt (od2 tx cnt p)).2))) (k * 3 + 2) (by omega) (nmD_le (nmD_le (od2_le hp)).2).2 (by omega) hn_8) km_X3_53 kv_X3_readsNumber [0, 1, 3] rfl (by decide) 0 rfl hl.1 rfl rfl (Nat.le_of_ble_eq_true rfl) ⟨Nat.le_of_ble_eq_true rfl, Nat.le_of_ble_eq_true rfl⟩ ⟨Nat.zero_le _, Nat.zero_le _⟩ dX3_readsOrder_114) rfl rfl rfl (fun H locs hw => ?_)
              refine lv_if_ne (tgt := 122) hx hb dX3_readsOrder_117 (by decide) (fun h => absurd h (by decide)) (fun _ => ?_)
              refine lv_iconst (v := 0) hx hb dX3_readsOrder_120 (by decide) ?_
              have ho : odR tx cnt k p wo nu ca fa = (false, (nmD false tx cnt ((nmD false tx cnt ((nmD false tx cnt (od2 tx cnt p)).2)).2)).2, upd wo k (odW tx cnt p), upd (upd nu (k * 3 + 0) (nmV false tx cnt (od2 tx cnt p))) (k * 3 + 1) (nmV false tx cnt ((nmD false tx cnt (od2 tx cnt p)).2)), 2, nI (nmD false tx cnt ((nmD false tx cnt ((nmD false tx cnt (od2 tx cnt p)).2)).2)).2) := by simp only [odR, od3, od3b, od3c, od1, odE, if_neg c0, if_neg c1, if_pos c2, if_pos hn_2, if_pos hn_5, if_neg hn_8]
              exact xr_z hQ E hr hw dX3_readsOrder_121 (by decide) ⟨congrArg (fun z => some (Value.int z)) ((by rw [ho]; rfl)), (by rw [ho] <;> rfl)⟩
          · refine x_go (ws' := [(h 11, .inr (3, [.ref (h 12), .int (nI cnt), .int (nI ((nmD false tx cnt ((nmD false tx cnt (od2 tx cnt p)).2)).2)), .int 2, .int (nI (nmD false tx cnt ((nmD false tx cnt (od2 tx cnt p)).2)).2), .int od, .ref (h 13), .ref (h 14)])), (h 12, .inl (g.2.1, 120, .inl tx)), (h 13, .inl (g.2.1, 24, .inl (upd wo k (odW tx cnt p)))), (h 14, .inl (g.2.1, 72, .inl (upd nu (k * 3 + 0) (nmV false tx cnt (od2 tx cnt p)))))]) (st1 := [.int 0]) E hw [0, 1, 3] rfl (x_runV (rest := []) E hw (c_X3_readsNumber_0no l g h cnt ((nmD false tx cnt (od2 tx cnt p)).2) ca fa od tx (upd nu (k * 3 + 0) (nmV false tx cnt (od2 tx cnt p))) (k * 3 + 1) (by omega) (nmD_le (od2_le hp)).2 (by omega) hn_5) km_X3_53 kv_X3_readsNumber [0, 1, 3] rfl (by decide) 0 rfl hl.1 rfl rfl (Nat.le_of_ble_eq_true rfl) ⟨Nat.le_of_ble_eq_true rfl, Nat.le_of_ble_eq_true rfl⟩ ⟨Nat.zero_le _, Nat.zero_le _⟩ dX3_readsOrder_114) rfl rfl rfl (fun H locs hw => ?_)
            refine lv_if_ne (tgt := 122) hx hb dX3_readsOrder_117 (by decide) (fun h => absurd h (by decide)) (fun _ => ?_)
            refine lv_iconst (v := 0) hx hb dX3_readsOrder_120 (by decide) ?_
            have ho : odR tx cnt k p wo nu ca fa = (false, (nmD false tx cnt ((nmD false tx cnt (od2 tx cnt p)).2)).2, upd wo k (odW tx cnt p), upd nu (k * 3 + 0) (nmV false tx cnt (od2 tx cnt p)), 2, nI (nmD false tx cnt ((nmD false tx cnt (od2 tx cnt p)).2)).2) := by simp only [odR, od3, od3b, od3c, od1, odE, if_neg c0, if_neg c1, if_pos c2, if_pos hn_2, if_neg hn_5]
            exact xr_z hQ E hr hw dX3_readsOrder_121 (by decide) ⟨congrArg (fun z => some (Value.int z)) ((by rw [ho]; rfl)), (by rw [ho] <;> rfl)⟩
        · refine x_go (ws' := [(h 11, .inr (3, [.ref (h 12), .int (nI cnt), .int (nI ((nmD false tx cnt (od2 tx cnt p)).2)), .int 2, .int (nI (nmD false tx cnt (od2 tx cnt p)).2), .int od, .ref (h 13), .ref (h 14)])), (h 12, .inl (g.2.1, 120, .inl tx)), (h 13, .inl (g.2.1, 24, .inl (upd wo k (odW tx cnt p)))), (h 14, .inl (g.2.1, 72, .inl nu))]) (st1 := [.int 0]) E hw [0, 1, 3] rfl (x_runV (rest := []) E hw (c_X3_readsNumber_0no l g h cnt (od2 tx cnt p) ca fa od tx nu (k * 3 + 0) (by omega) (od2_le hp) (by omega) hn_2) km_X3_53 kv_X3_readsNumber [0, 1, 3] rfl (by decide) 0 rfl hl.1 rfl rfl (Nat.le_of_ble_eq_true rfl) ⟨Nat.le_of_ble_eq_true rfl, Nat.le_of_ble_eq_true rfl⟩ ⟨Nat.zero_le _, Nat.zero_le _⟩ dX3_readsOrder_114) rfl rfl rfl (fun H locs hw => ?_)
          refine lv_if_ne (tgt := 122) hx hb dX3_readsOrder_117 (by decide) (fun h => absurd h (by decide)) (fun _ => ?_)
          refine lv_iconst (v := 0) hx hb dX3_readsOrder_120 (by decide) ?_
          have ho : odR tx cnt k p wo nu ca fa = (false, (nmD false tx cnt (od2 tx cnt p)).2, upd wo k (odW tx cnt p), nu, 2, nI (nmD false tx cnt (od2 tx cnt p)).2) := by simp only [odR, od3, od3b, od3c, od1, odE, if_neg c0, if_neg c1, if_pos c2, if_neg hn_2]
          exact xr_z hQ E hr hw dX3_readsOrder_121 (by decide) ⟨congrArg (fun z => some (Value.int z)) ((by rw [ho]; rfl)), (by rw [ho] <;> rfl)⟩
      · refine lv_iload_n hx hb dX3_readsOrder_65 rfl (lv_at hl 0 rfl) ?_
        refine lv_iconst (v := 2) hx hb dX3_readsOrder_66 (by decide) ?_
        refine lv_icmp_ne (tgt := 74) hx hb dX3_readsOrder_67 (by decide) (fun c3 => ?_) (fun c3 => ?_)
        · refine lv_iconst (v := 1) hx hb dX3_readsOrder_74 (by decide) ?_
          refine lv_istore (lv' := [(4, .int 1), (3, .int (odW tx cnt p)), (2, .int (nI (skB tx (cnt - p) p))), (0, .ref (h 11)), (1, .int (nI k))]) hx hb dX3_readsOrder_75 hl (by decide) rfl (fun ls hl => ?_)
          refine lv_iconst (v := 0) hx hb dX3_readsOrder_77 (by decide) ?_
          refine lv_istore (lv' := [(5, .int 0), (4, .int 1), (3, .int (odW tx cnt p)), (2, .int (nI (skB tx (cnt - p) p))), (0, .ref (h 11)), (1, .int (nI k))]) hx hb dX3_readsOrder_78 hl (by decide) rfl (fun ls hl => ?_)
          refine lv_iload hx hb dX3_readsOrder_80 (lv_at hl 0 rfl) ?_
          refine lv_iload hx hb dX3_readsOrder_82 (lv_at hl 1 rfl) ?_
          refine lv_icmp_ge (tgt := 128) hx hb dX3_readsOrder_84 (by decide) (fun h => absurd h (by decide)) (fun _ => ?_)
          refine lv_iload_n hx hb dX3_readsOrder_87 rfl (lv_at hl 2 rfl) ?_
          refine lv_iconst (v := 2) hx hb dX3_readsOrder_88 (by decide) ?_
          refine lv_icmp_ne (tgt := 102) hx hb dX3_readsOrder_89 (by decide) (fun c4 => ?_) (fun c4 => ?_)
          · refine lv_iconst (v := 0) hx hb dX3_readsOrder_102 (by decide) ?_
            refine lv_istore (lv' := [(6, .int 0), (5, .int 0), (4, .int 1), (3, .int (odW tx cnt p)), (2, .int (nI (skB tx (cnt - p) p))), (0, .ref (h 11)), (1, .int (nI k))]) hx hb dX3_readsOrder_103 hl (by decide) rfl (fun ls hl => ?_)
            refine lv_aload_n hx hb dX3_readsOrder_105 rfl (lv_at hl 5 rfl) ?_
            refine lv_iload_n hx hb dX3_readsOrder_106 rfl (lv_at hl 6 rfl) ?_
            refine lv_iconst (v := 3) hx hb dX3_readsOrder_107 (by decide) ?_
            refine xn_mul hx hb k 3 rfl rfl dX3_readsOrder_108 ?_
            refine lv_iload hx hb dX3_readsOrder_109 (lv_at hl 1 rfl) ?_
            refine xn_add hx hb (k * 3) 0 rfl rfl dX3_readsOrder_111 ?_
            refine lv_iload hx hb dX3_readsOrder_112 (lv_at hl 0 rfl) ?_
            by_cases hn_15 : nmOk false tx cnt (od2 tx cnt p)
            · refine x_go (ws' := [(h 11, .inr (3, [.ref (h 12), .int (nI cnt), .int (nI ((nmD false tx cnt (od2 tx cnt p)).2)), .int ca, .int fa, .int od, .ref (h 13), .ref (h 14)])), (h 12, .inl (g.2.1, 120, .inl tx)), (h 13, .inl (g.2.1, 24, .inl (upd wo k (odW tx cnt p)))), (h 14, .inl (g.2.1, 72, .inl (upd nu (k * 3 + 0) (nmV false tx cnt (od2 tx cnt p)))))]) (st1 := [.int 1]) E hw [0, 1, 3] rfl (x_runV (rest := []) E hw (c_X3_readsNumber_0ok l g h cnt (od2 tx cnt p) ca fa od tx nu (k * 3 + 0) (by omega) (od2_le hp) (by omega) hn_15) km_X3_53 kv_X3_readsNumber [0, 1, 3] rfl (by decide) 0 rfl hl.1 rfl rfl (Nat.le_of_ble_eq_true rfl) ⟨Nat.le_of_ble_eq_true rfl, Nat.le_of_ble_eq_true rfl⟩ ⟨Nat.zero_le _, Nat.zero_le _⟩ dX3_readsOrder_114) rfl rfl rfl (fun H locs hw => ?_)
              refine lv_if_ne (tgt := 122) hx hb dX3_readsOrder_117 (by decide) (fun _ => ?_) (fun h => absurd h (by decide))
              refine lv_iinc (v := 1) (lv' := [(5, .int 1), (6, .int 0), (4, .int 1), (3, .int (odW tx cnt p)), (2, .int (nI (skB tx (cnt - p) p))), (0, .ref (h 11)), (1, .int (nI k))]) hx hb dX3_readsOrder_122 hl (k := 1) rfl (by decide) (by decide) rfl (fun ls hl => ?_)
              refine lv_goto (tgt := 80) hx hb dX3_readsOrder_125 (by decide) ?_
              refine lv_iload hx hb dX3_readsOrder_80 (lv_at hl 0 rfl) ?_
              refine lv_iload hx hb dX3_readsOrder_82 (lv_at hl 2 rfl) ?_
              refine lv_icmp_ge (tgt := 128) hx hb dX3_readsOrder_84 (by decide) (fun _ => ?_) (fun h => absurd h (by decide))
              refine lv_aload_n hx hb dX3_readsOrder_128 rfl (lv_at hl 5 rfl) ?_
              refine x_go (ws' := [(h 11, .inr (3, [.ref (h 12), .int (nI cnt), .int (nI (skB tx (cnt - ((nmD false tx cnt (od2 tx cnt p)).2)) ((nmD false tx cnt (od2 tx cnt p)).2))), .int ca, .int fa, .int od, .ref (h 13), .ref (h 14)])), (h 12, .inl (g.2.1, 120, .inl tx)), (h 13, .inl (g.2.1, 24, .inl (upd wo k (odW tx cnt p)))), (h 14, .inl (g.2.1, 72, .inl (upd nu (k * 3 + 0) (nmV false tx cnt (od2 tx cnt p)))))]) (st1 := []) E hw [0, 1] rfl (x_runV (rest := []) E hw (c_X3_skipsBlanks l g h cnt ((nmD false tx cnt (od2 tx cnt p)).2) ca fa od tx (by omega) (nmD_le (od2_le hp)).2) km_X3_39 kv_X3_skipsBlanks [0, 1] rfl (by decide) 0 rfl hl.1 rfl rfl (Nat.le_of_ble_eq_true rfl) ⟨Nat.le_of_ble_eq_true rfl, Nat.le_of_ble_eq_true rfl⟩ ⟨Nat.zero_le _, Nat.zero_le _⟩ dX3_readsOrder_129) rfl rfl rfl (fun H locs hw => ?_)
              refine lv_aload_n hx hb dX3_readsOrder_132 rfl (lv_at hl 5 rfl) ?_
              refine lv_bipush (v := 59) hx hb dX3_readsOrder_133 (by decide) ?_
              refine x_go (ws' := [(h 11, .inr (3, [.ref (h 12), .int (nI cnt), .int (nI (skB tx (cnt - ((nmD false tx cnt (od2 tx cnt p)).2)) ((nmD false tx cnt (od2 tx cnt p)).2))), .int ca, .int fa, .int od, .ref (h 13), .ref (h 14)])), (h 12, .inl (g.2.1, 120, .inl tx)), (h 13, .inl (g.2.1, 24, .inl (upd wo k (odW tx cnt p)))), (h 14, .inl (g.2.1, 72, .inl (upd nu (k * 3 + 0) (nmV false tx cnt (od2 tx cnt p)))))]) (st1 := [.int (bI ((skB tx (cnt - ((nmD false tx cnt (od2 tx cnt p)).2)) ((nmD false tx cnt (od2 tx cnt p)).2)) < cnt ∧ tx (skB tx (cnt - ((nmD false tx cnt (od2 tx cnt p)).2)) ((nmD false tx cnt (od2 tx cnt p)).2)) = 59))]) E hw [0, 1] rfl (x_runV (rest := []) E hw (c_X3_isAt l g h cnt (skB tx (cnt - ((nmD false tx cnt (od2 tx cnt p)).2)) ((nmD false tx cnt (od2 tx cnt p)).2)) ca fa od tx 59 (by omega) (skB_le (nmD_le (od2_le hp)).2)) km_X3_57 kv_X3_isAt [0, 1] rfl (by decide) 0 rfl hl.1 rfl rfl (Nat.le_of_ble_eq_true rfl) ⟨Nat.le_of_ble_eq_true rfl, Nat.le_of_ble_eq_true rfl⟩ ⟨Nat.zero_le _, Nat.zero_le _⟩ dX3_readsOrder_135) rfl rfl rfl (fun H locs hw => ?_)
              refine xb_ne (tgt := 151) hx hb dX3_readsOrder_138 (by decide) (fun c6 => ?_) (fun c6 => ?_)
              · refine lv_aload_n hx hb dX3_readsOrder_151 rfl (lv_at hl 5 rfl) ?_
                refine lv_dup hx hb dX3_readsOrder_152 rfl ?_
                refine x_get E hw kf_X3_29 0 rfl rfl dX3_readsOrder_153 ?_
                refine lv_iconst (v := 1) hx hb dX3_readsOrder_156 (by decide) ?_
                refine xn_add hx hb (skB tx (cnt - ((nmD false tx cnt (od2 tx cnt p)).2)) ((nmD false tx cnt (od2 tx cnt p)).2)) 1 rfl rfl dX3_readsOrder_157 ?_
                refine x_put E hw kf_X3_29 kp_X3_2 0 rfl (ty := .int) (by decide +kernel) rfl rfl (by simp) (ws' := [(h 11, .inr (3, [.ref (h 12), .int (nI cnt), .int (nI (skB tx (cnt - ((nmD false tx cnt (od2 tx cnt p)).2)) ((nmD false tx cnt (od2 tx cnt p)).2) + 1)), .int ca, .int fa, .int od, .ref (h 13), .ref (h 14)])), (h 12, .inl (g.2.1, 120, .inl tx)), (h 13, .inl (g.2.1, 24, .inl (upd wo k (odW tx cnt p)))), (h 14, .inl (g.2.1, 72, .inl (upd nu (k * 3 + 0) (nmV false tx cnt (od2 tx cnt p)))))]) rfl dX3_readsOrder_158 (fun H locs hw => ?_)
                refine lv_iconst (v := 1) hx hb dX3_readsOrder_161 (by decide) ?_
                have ho : odR tx cnt k p wo nu ca fa = (true, skB tx (cnt - ((nmD false tx cnt (od2 tx cnt p)).2)) ((nmD false tx cnt (od2 tx cnt p)).2) + 1, upd wo k (odW tx cnt p), upd nu (k * 3 + 0) (nmV false tx cnt (od2 tx cnt p)), ca, fa) := by simp only [odR, od3, od3b, od3c, od1, odE, if_neg c0, if_neg c1, if_neg c2, if_neg c3, if_neg c4, if_pos hn_15, if_pos c6]
                exact xr_z hQ E hr hw dX3_readsOrder_162 (by decide) ⟨congrArg (fun z => some (Value.int z)) ((by rw [ho]; rfl)), (by rw [ho] <;> rfl)⟩
              · refine lv_aload_n hx hb dX3_readsOrder_141 rfl (lv_at hl 5 rfl) ?_
                refine lv_iconst (v := 2) hx hb dX3_readsOrder_142 (by decide) ?_
                refine lv_aload_n hx hb dX3_readsOrder_143 rfl (lv_at hl 5 rfl) ?_
                refine x_get E hw kf_X3_29 0 rfl rfl dX3_readsOrder_144 ?_
                refine x_go (ws' := [(h 11, .inr (3, [.ref (h 12), .int (nI cnt), .int (nI (skB tx (cnt - ((nmD false tx cnt (od2 tx cnt p)).2)) ((nmD false tx cnt (od2 tx cnt p)).2))), .int 2, .int (nI (skB tx (cnt - ((nmD false tx cnt (od2 tx cnt p)).2)) ((nmD false tx cnt (od2 tx cnt p)).2))), .int od, .ref (h 13), .ref (h 14)])), (h 12, .inl (g.2.1, 120, .inl tx)), (h 13, .inl (g.2.1, 24, .inl (upd wo k (odW tx cnt p)))), (h 14, .inl (g.2.1, 72, .inl (upd nu (k * 3 + 0) (nmV false tx cnt (od2 tx cnt p)))))]) (st1 := [.int 0]) E hw [0] rfl (x_runV (rest := []) E hw (c_X3_faulty l g h cnt (skB tx (cnt - ((nmD false tx cnt (od2 tx cnt p)).2)) ((nmD false tx cnt (od2 tx cnt p)).2)) ca fa od 2 (nI (skB tx (cnt - ((nmD false tx cnt (od2 tx cnt p)).2)) ((nmD false tx cnt (od2 tx cnt p)).2))) ) km_X3_42 kv_X3_faulty [0] rfl (by decide) 0 rfl hl.1 rfl rfl (Nat.le_of_ble_eq_true rfl) ⟨Nat.le_of_ble_eq_true rfl, Nat.le_of_ble_eq_true rfl⟩ ⟨Nat.zero_le _, Nat.zero_le _⟩ dX3_readsOrder_147) rfl rfl rfl (fun H locs hw => ?_)
                have ho : odR tx cnt k p wo nu ca fa = (false, skB tx (cnt - ((nmD false tx cnt (od2 tx cnt p)).2)) ((nmD false tx cnt (od2 tx cnt p)).2), upd wo k (odW tx cnt p), upd nu (k * 3 + 0) (nmV false tx cnt (od2 tx cnt p)), 2, nI (skB tx (cnt - ((nmD false tx cnt (od2 tx cnt p)).2)) ((nmD false tx cnt (od2 tx cnt p)).2))) := by simp only [odR, od3, od3b, od3c, od1, odE, if_neg c0, if_neg c1, if_neg c2, if_neg c3, if_neg c4, if_pos hn_15, if_neg c6]
                exact xr_z hQ E hr hw dX3_readsOrder_150 (by decide) ⟨congrArg (fun z => some (Value.int z)) ((by rw [ho]; rfl)), (by rw [ho] <;> rfl)⟩
            · refine x_go (ws' := [(h 11, .inr (3, [.ref (h 12), .int (nI cnt), .int (nI ((nmD false tx cnt (od2 tx cnt p)).2)), .int 2, .int (nI (nmD false tx cnt (od2 tx cnt p)).2), .int od, .ref (h 13), .ref (h 14)])), (h 12, .inl (g.2.1, 120, .inl tx)), (h 13, .inl (g.2.1, 24, .inl (upd wo k (odW tx cnt p)))), (h 14, .inl (g.2.1, 72, .inl nu))]) (st1 := [.int 0]) E hw [0, 1, 3] rfl (x_runV (rest := []) E hw (c_X3_readsNumber_0no l g h cnt (od2 tx cnt p) ca fa od tx nu (k * 3 + 0) (by omega) (od2_le hp) (by omega) hn_15) km_X3_53 kv_X3_readsNumber [0, 1, 3] rfl (by decide) 0 rfl hl.1 rfl rfl (Nat.le_of_ble_eq_true rfl) ⟨Nat.le_of_ble_eq_true rfl, Nat.le_of_ble_eq_true rfl⟩ ⟨Nat.zero_le _, Nat.zero_le _⟩ dX3_readsOrder_114) rfl rfl rfl (fun H locs hw => ?_)
              refine lv_if_ne (tgt := 122) hx hb dX3_readsOrder_117 (by decide) (fun h => absurd h (by decide)) (fun _ => ?_)
              refine lv_iconst (v := 0) hx hb dX3_readsOrder_120 (by decide) ?_
              have ho : odR tx cnt k p wo nu ca fa = (false, (nmD false tx cnt (od2 tx cnt p)).2, upd wo k (odW tx cnt p), nu, 2, nI (nmD false tx cnt (od2 tx cnt p)).2) := by simp only [odR, od3, od3b, od3c, od1, odE, if_neg c0, if_neg c1, if_neg c2, if_neg c3, if_neg c4, if_neg hn_15]
              exact xr_z hQ E hr hw dX3_readsOrder_121 (by decide) ⟨congrArg (fun z => some (Value.int z)) ((by rw [ho]; rfl)), (by rw [ho] <;> rfl)⟩
          · exact absurd c4 c3
        · have hl : lv_has ls 7 [(3, .int 2), (2, .int (nI (skB tx (cnt - p) p))), (0, .ref (h 11)), (1, .int (nI k))] := lv_re hl (by rw [show (odW tx cnt p : Int32) = 2 from c3])
          refine lv_iconst (v := 3) hx hb dX3_readsOrder_70 (by decide) ?_
          refine lv_goto (tgt := 75) hx hb dX3_readsOrder_71 (by decide) ?_
          refine lv_istore (lv' := [(4, .int 3), (3, .int 2), (2, .int (nI (skB tx (cnt - p) p))), (0, .ref (h 11)), (1, .int (nI k))]) hx hb dX3_readsOrder_75 hl (by decide) rfl (fun ls hl => ?_)
          refine lv_iconst (v := 0) hx hb dX3_readsOrder_77 (by decide) ?_
          refine lv_istore (lv' := [(5, .int 0), (4, .int 3), (3, .int 2), (2, .int (nI (skB tx (cnt - p) p))), (0, .ref (h 11)), (1, .int (nI k))]) hx hb dX3_readsOrder_78 hl (by decide) rfl (fun ls hl => ?_)
          refine lv_iload hx hb dX3_readsOrder_80 (lv_at hl 0 rfl) ?_
          refine lv_iload hx hb dX3_readsOrder_82 (lv_at hl 1 rfl) ?_
          refine lv_icmp_ge (tgt := 128) hx hb dX3_readsOrder_84 (by decide) (fun h => absurd h (by decide)) (fun _ => ?_)
          refine lv_iload_n hx hb dX3_readsOrder_87 rfl (lv_at hl 2 rfl) ?_
          refine lv_iconst (v := 2) hx hb dX3_readsOrder_88 (by decide) ?_
          refine lv_icmp_ne (tgt := 102) hx hb dX3_readsOrder_89 (by decide) (fun h => absurd h (by decide)) (fun _ => ?_)
          refine lv_iload hx hb dX3_readsOrder_92 (lv_at hl 0 rfl) ?_
          refine lv_iconst (v := 2) hx hb dX3_readsOrder_94 (by decide) ?_
          refine lv_icmp_ne (tgt := 102) hx hb dX3_readsOrder_95 (by decide) (fun _ => ?_) (fun h => absurd h (by decide))
          refine lv_iconst (v := 0) hx hb dX3_readsOrder_102 (by decide) ?_
          refine lv_istore (lv' := [(6, .int 0), (5, .int 0), (4, .int 3), (3, .int 2), (2, .int (nI (skB tx (cnt - p) p))), (0, .ref (h 11)), (1, .int (nI k))]) hx hb dX3_readsOrder_103 hl (by decide) rfl (fun ls hl => ?_)
          refine lv_aload_n hx hb dX3_readsOrder_105 rfl (lv_at hl 5 rfl) ?_
          refine lv_iload_n hx hb dX3_readsOrder_106 rfl (lv_at hl 6 rfl) ?_
          refine lv_iconst (v := 3) hx hb dX3_readsOrder_107 (by decide) ?_
          refine xn_mul hx hb k 3 rfl rfl dX3_readsOrder_108 ?_
          refine lv_iload hx hb dX3_readsOrder_109 (lv_at hl 1 rfl) ?_
          refine xn_add hx hb (k * 3) 0 rfl rfl dX3_readsOrder_111 ?_
          refine lv_iload hx hb dX3_readsOrder_112 (lv_at hl 0 rfl) ?_
          by_cases hn_21 : nmOk false tx cnt (od2 tx cnt p)
          · refine x_go (ws' := [(h 11, .inr (3, [.ref (h 12), .int (nI cnt), .int (nI ((nmD false tx cnt (od2 tx cnt p)).2)), .int ca, .int fa, .int od, .ref (h 13), .ref (h 14)])), (h 12, .inl (g.2.1, 120, .inl tx)), (h 13, .inl (g.2.1, 24, .inl (upd wo k (odW tx cnt p)))), (h 14, .inl (g.2.1, 72, .inl (upd nu (k * 3 + 0) (nmV false tx cnt (od2 tx cnt p)))))]) (st1 := [.int 1]) E hw [0, 1, 3] rfl (x_runV (rest := []) E hw (c_X3_readsNumber_0ok l g h cnt (od2 tx cnt p) ca fa od tx nu (k * 3 + 0) (by omega) (od2_le hp) (by omega) hn_21) km_X3_53 kv_X3_readsNumber [0, 1, 3] rfl (by decide) 0 rfl hl.1 rfl rfl (Nat.le_of_ble_eq_true rfl) ⟨Nat.le_of_ble_eq_true rfl, Nat.le_of_ble_eq_true rfl⟩ ⟨Nat.zero_le _, Nat.zero_le _⟩ dX3_readsOrder_114) rfl rfl rfl (fun H locs hw => ?_)
            refine lv_if_ne (tgt := 122) hx hb dX3_readsOrder_117 (by decide) (fun _ => ?_) (fun h => absurd h (by decide))
            refine lv_iinc (v := 1) (lv' := [(5, .int 1), (6, .int 0), (4, .int 3), (3, .int 2), (2, .int (nI (skB tx (cnt - p) p))), (0, .ref (h 11)), (1, .int (nI k))]) hx hb dX3_readsOrder_122 hl (k := 1) rfl (by decide) (by decide) rfl (fun ls hl => ?_)
            refine lv_goto (tgt := 80) hx hb dX3_readsOrder_125 (by decide) ?_
            refine lv_iload hx hb dX3_readsOrder_80 (lv_at hl 0 rfl) ?_
            refine lv_iload hx hb dX3_readsOrder_82 (lv_at hl 2 rfl) ?_
            refine lv_icmp_ge (tgt := 128) hx hb dX3_readsOrder_84 (by decide) (fun h => absurd h (by decide)) (fun _ => ?_)
            refine lv_iload_n hx hb dX3_readsOrder_87 rfl (lv_at hl 3 rfl) ?_
            refine lv_iconst (v := 2) hx hb dX3_readsOrder_88 (by decide) ?_
            refine lv_icmp_ne (tgt := 102) hx hb dX3_readsOrder_89 (by decide) (fun h => absurd h (by decide)) (fun _ => ?_)
            refine lv_iload hx hb dX3_readsOrder_92 (lv_at hl 0 rfl) ?_
            refine lv_iconst (v := 2) hx hb dX3_readsOrder_94 (by decide) ?_
            refine lv_icmp_ne (tgt := 102) hx hb dX3_readsOrder_95 (by decide) (fun _ => ?_) (fun h => absurd h (by decide))
            refine lv_iconst (v := 0) hx hb dX3_readsOrder_102 (by decide) ?_
            refine lv_istore (lv' := [(6, .int 0), (5, .int 1), (4, .int 3), (3, .int 2), (2, .int (nI (skB tx (cnt - p) p))), (0, .ref (h 11)), (1, .int (nI k))]) hx hb dX3_readsOrder_103 hl (by decide) rfl (fun ls hl => ?_)
            refine lv_aload_n hx hb dX3_readsOrder_105 rfl (lv_at hl 5 rfl) ?_
            refine lv_iload_n hx hb dX3_readsOrder_106 rfl (lv_at hl 6 rfl) ?_
            refine lv_iconst (v := 3) hx hb dX3_readsOrder_107 (by decide) ?_
            refine xn_mul hx hb k 3 rfl rfl dX3_readsOrder_108 ?_
            refine lv_iload hx hb dX3_readsOrder_109 (lv_at hl 1 rfl) ?_
            refine xn_add hx hb (k * 3) 1 rfl rfl dX3_readsOrder_111 ?_
            refine lv_iload hx hb dX3_readsOrder_112 (lv_at hl 0 rfl) ?_
            by_cases hn_25 : nmOk false tx cnt ((nmD false tx cnt (od2 tx cnt p)).2)
            · refine x_go (ws' := [(h 11, .inr (3, [.ref (h 12), .int (nI cnt), .int (nI ((nmD false tx cnt ((nmD false tx cnt (od2 tx cnt p)).2)).2)), .int ca, .int fa, .int od, .ref (h 13), .ref (h 14)])), (h 12, .inl (g.2.1, 120, .inl tx)), (h 13, .inl (g.2.1, 24, .inl (upd wo k (odW tx cnt p)))), (h 14, .inl (g.2.1, 72, .inl (upd (upd nu (k * 3 + 0) (nmV false tx cnt (od2 tx cnt p))) (k * 3 + 1) (nmV false tx cnt ((nmD false tx cnt (od2 tx cnt p)).2)))))]) (st1 := [.int 1]) E hw [0, 1, 3] rfl (x_runV (rest := []) E hw (c_X3_readsNumber_0ok l g h cnt ((nmD false tx cnt (od2 tx cnt p)).2) ca fa od tx (upd nu (k * 3 + 0) (nmV false tx cnt (od2 tx cnt p))) (k * 3 + 1) (by omega) (nmD_le (od2_le hp)).2 (by omega) hn_25) km_X3_53 kv_X3_readsNumber [0, 1, 3] rfl (by decide) 0 rfl hl.1 rfl rfl (Nat.le_of_ble_eq_true rfl) ⟨Nat.le_of_ble_eq_true rfl, Nat.le_of_ble_eq_true rfl⟩ ⟨Nat.zero_le _, Nat.zero_le _⟩ dX3_readsOrder_114) rfl rfl rfl (fun H locs hw => ?_)
              refine lv_if_ne (tgt := 122) hx hb dX3_readsOrder_117 (by decide) (fun _ => ?_) (fun h => absurd h (by decide))
              refine lv_iinc (v := 2) (lv' := [(5, .int 2), (6, .int 0), (4, .int 3), (3, .int 2), (2, .int (nI (skB tx (cnt - p) p))), (0, .ref (h 11)), (1, .int (nI k))]) hx hb dX3_readsOrder_122 hl (k := 1) rfl (by decide) (by decide) rfl (fun ls hl => ?_)
              refine lv_goto (tgt := 80) hx hb dX3_readsOrder_125 (by decide) ?_
              refine lv_iload hx hb dX3_readsOrder_80 (lv_at hl 0 rfl) ?_
              refine lv_iload hx hb dX3_readsOrder_82 (lv_at hl 2 rfl) ?_
              refine lv_icmp_ge (tgt := 128) hx hb dX3_readsOrder_84 (by decide) (fun h => absurd h (by decide)) (fun _ => ?_)
              refine lv_iload_n hx hb dX3_readsOrder_87 rfl (lv_at hl 3 rfl) ?_
              refine lv_iconst (v := 2) hx hb dX3_readsOrder_88 (by decide) ?_
              refine lv_icmp_ne (tgt := 102) hx hb dX3_readsOrder_89 (by decide) (fun h => absurd h (by decide)) (fun _ => ?_)
              refine lv_iload hx hb dX3_readsOrder_92 (lv_at hl 0 rfl) ?_
              refine lv_iconst (v := 2) hx hb dX3_readsOrder_94 (by decide) ?_
              refine lv_icmp_ne (tgt := 102) hx hb dX3_readsOrder_95 (by decide) (fun h => absurd h (by decide)) (fun _ => ?_)
              refine lv_iconst (v := 1) hx hb dX3_readsOrder_98 (by decide) ?_
              refine lv_goto (tgt := 103) hx hb dX3_readsOrder_99 (by decide) ?_
              refine lv_istore (lv' := [(6, .int 1), (5, .int 2), (4, .int 3), (3, .int 2), (2, .int (nI (skB tx (cnt - p) p))), (0, .ref (h 11)), (1, .int (nI k))]) hx hb dX3_readsOrder_103 hl (by decide) rfl (fun ls hl => ?_)
              refine lv_aload_n hx hb dX3_readsOrder_105 rfl (lv_at hl 5 rfl) ?_
              refine lv_iload_n hx hb dX3_readsOrder_106 rfl (lv_at hl 6 rfl) ?_
              refine lv_iconst (v := 3) hx hb dX3_readsOrder_107 (by decide) ?_
              refine xn_mul hx hb k 3 rfl rfl dX3_readsOrder_108 ?_
              refine lv_iload hx hb dX3_readsOrder_109 (lv_at hl 1 rfl) ?_
              refine xn_add hx hb (k * 3) 2 rfl rfl dX3_readsOrder_111 ?_
              refine lv_iload hx hb dX3_readsOrder_112 (lv_at hl 0 rfl) ?_
              by_cases hn_29 : nmOk true tx cnt ((nmD false tx cnt ((nmD false tx cnt (od2 tx cnt p)).2)).2)
              · refine x_go (ws' := [(h 11, .inr (3, [.ref (h 12), .int (nI cnt), .int (nI ((nmD true tx cnt ((nmD false tx cnt ((nmD false tx cnt (od2 tx cnt p)).2)).2)).2)), .int ca, .int fa, .int od, .ref (h 13), .ref (h 14)])), (h 12, .inl (g.2.1, 120, .inl tx)), (h 13, .inl (g.2.1, 24, .inl (upd wo k (odW tx cnt p)))), (h 14, .inl (g.2.1, 72, .inl (upd (upd (upd nu (k * 3 + 0) (nmV false tx cnt (od2 tx cnt p))) (k * 3 + 1) (nmV false tx cnt ((nmD false tx cnt (od2 tx cnt p)).2))) (k * 3 + 2) (nmV true tx cnt ((nmD false tx cnt ((nmD false tx cnt (od2 tx cnt p)).2)).2)))))]) (st1 := [.int 1]) E hw [0, 1, 3] rfl (x_runV (rest := []) E hw (c_X3_readsNumber_1ok l g h cnt ((nmD false tx cnt ((nmD false tx cnt (od2 tx cnt p)).2)).2) ca fa od tx (upd (upd nu (k * 3 + 0) (nmV false tx cnt (od2 tx cnt p))) (k * 3 + 1) (nmV false tx cnt ((nmD false tx cnt (od2 tx cnt p)).2))) (k * 3 + 2) (by omega) (nmD_le (nmD_le (od2_le hp)).2).2 (by omega) hn_29) km_X3_53 kv_X3_readsNumber [0, 1, 3] rfl (by decide) 0 rfl hl.1 rfl rfl (Nat.le_of_ble_eq_true rfl) ⟨Nat.le_of_ble_eq_true rfl, Nat.le_of_ble_eq_true rfl⟩ ⟨Nat.zero_le _, Nat.zero_le _⟩ dX3_readsOrder_114) rfl rfl rfl (fun H locs hw => ?_)
                refine lv_if_ne (tgt := 122) hx hb dX3_readsOrder_117 (by decide) (fun _ => ?_) (fun h => absurd h (by decide))
                refine lv_iinc (v := 3) (lv' := [(5, .int 3), (6, .int 1), (4, .int 3), (3, .int 2), (2, .int (nI (skB tx (cnt - p) p))), (0, .ref (h 11)), (1, .int (nI k))]) hx hb dX3_readsOrder_122 hl (k := 1) rfl (by decide) (by decide) rfl (fun ls hl => ?_)
                refine lv_goto (tgt := 80) hx hb dX3_readsOrder_125 (by decide) ?_
                refine lv_iload hx hb dX3_readsOrder_80 (lv_at hl 0 rfl) ?_
                refine lv_iload hx hb dX3_readsOrder_82 (lv_at hl 2 rfl) ?_
                refine lv_icmp_ge (tgt := 128) hx hb dX3_readsOrder_84 (by decide) (fun _ => ?_) (fun h => absurd h (by decide))
                refine lv_aload_n hx hb dX3_readsOrder_128 rfl (lv_at hl 5 rfl) ?_
                refine x_go (ws' := [(h 11, .inr (3, [.ref (h 12), .int (nI cnt), .int (nI (skB tx (cnt - ((nmD true tx cnt ((nmD false tx cnt ((nmD false tx cnt (od2 tx cnt p)).2)).2)).2)) ((nmD true tx cnt ((nmD false tx cnt ((nmD false tx cnt (od2 tx cnt p)).2)).2)).2))), .int ca, .int fa, .int od, .ref (h 13), .ref (h 14)])), (h 12, .inl (g.2.1, 120, .inl tx)), (h 13, .inl (g.2.1, 24, .inl (upd wo k (odW tx cnt p)))), (h 14, .inl (g.2.1, 72, .inl (upd (upd (upd nu (k * 3 + 0) (nmV false tx cnt (od2 tx cnt p))) (k * 3 + 1) (nmV false tx cnt ((nmD false tx cnt (od2 tx cnt p)).2))) (k * 3 + 2) (nmV true tx cnt ((nmD false tx cnt ((nmD false tx cnt (od2 tx cnt p)).2)).2)))))]) (st1 := []) E hw [0, 1] rfl (x_runV (rest := []) E hw (c_X3_skipsBlanks l g h cnt ((nmD true tx cnt ((nmD false tx cnt ((nmD false tx cnt (od2 tx cnt p)).2)).2)).2) ca fa od tx (by omega) (nmD_le (nmD_le (nmD_le (od2_le hp)).2).2).2) km_X3_39 kv_X3_skipsBlanks [0, 1] rfl (by decide) 0 rfl hl.1 rfl rfl (Nat.le_of_ble_eq_true rfl) ⟨Nat.le_of_ble_eq_true rfl, Nat.le_of_ble_eq_true rfl⟩ ⟨Nat.zero_le _, Nat.zero_le _⟩ dX3_readsOrder_129) rfl rfl rfl (fun H locs hw => ?_)
                refine lv_aload_n hx hb dX3_readsOrder_132 rfl (lv_at hl 5 rfl) ?_
                refine lv_bipush (v := 59) hx hb dX3_readsOrder_133 (by decide) ?_
                refine x_go (ws' := [(h 11, .inr (3, [.ref (h 12), .int (nI cnt), .int (nI (skB tx (cnt - ((nmD true tx cnt ((nmD false tx cnt ((nmD false tx cnt (od2 tx cnt p)).2)).2)).2)) ((nmD true tx cnt ((nmD false tx cnt ((nmD false tx cnt (od2 tx cnt p)).2)).2)).2))), .int ca, .int fa, .int od, .ref (h 13), .ref (h 14)])), (h 12, .inl (g.2.1, 120, .inl tx)), (h 13, .inl (g.2.1, 24, .inl (upd wo k (odW tx cnt p)))), (h 14, .inl (g.2.1, 72, .inl (upd (upd (upd nu (k * 3 + 0) (nmV false tx cnt (od2 tx cnt p))) (k * 3 + 1) (nmV false tx cnt ((nmD false tx cnt (od2 tx cnt p)).2))) (k * 3 + 2) (nmV true tx cnt ((nmD false tx cnt ((nmD false tx cnt (od2 tx cnt p)).2)).2)))))]) (st1 := [.int (bI ((skB tx (cnt - ((nmD true tx cnt ((nmD false tx cnt ((nmD false tx cnt (od2 tx cnt p)).2)).2)).2)) ((nmD true tx cnt ((nmD false tx cnt ((nmD false tx cnt (od2 tx cnt p)).2)).2)).2)) < cnt ∧ tx (skB tx (cnt - ((nmD true tx cnt ((nmD false tx cnt ((nmD false tx cnt (od2 tx cnt p)).2)).2)).2)) ((nmD true tx cnt ((nmD false tx cnt ((nmD false tx cnt (od2 tx cnt p)).2)).2)).2)) = 59))]) E hw [0, 1] rfl (x_runV (rest := []) E hw (c_X3_isAt l g h cnt (skB tx (cnt - ((nmD true tx cnt ((nmD false tx cnt ((nmD false tx cnt (od2 tx cnt p)).2)).2)).2)) ((nmD true tx cnt ((nmD false tx cnt ((nmD false tx cnt (od2 tx cnt p)).2)).2)).2)) ca fa od tx 59 (by omega) (skB_le (nmD_le (nmD_le (nmD_le (od2_le hp)).2).2).2)) km_X3_57 kv_X3_isAt [0, 1] rfl (by decide) 0 rfl hl.1 rfl rfl (Nat.le_of_ble_eq_true rfl) ⟨Nat.le_of_ble_eq_true rfl, Nat.le_of_ble_eq_true rfl⟩ ⟨Nat.zero_le _, Nat.zero_le _⟩ dX3_readsOrder_135) rfl rfl rfl (fun H locs hw => ?_)
                refine xb_ne (tgt := 151) hx hb dX3_readsOrder_138 (by decide) (fun c6 => ?_) (fun c6 => ?_)
                · refine lv_aload_n hx hb dX3_readsOrder_151 rfl (lv_at hl 5 rfl) ?_
                  refine lv_dup hx hb dX3_readsOrder_152 rfl ?_
                  refine x_get E hw kf_X3_29 0 rfl rfl dX3_readsOrder_153 ?_
                  refine lv_iconst (v := 1) hx hb dX3_readsOrder_156 (by decide) ?_
                  refine xn_add hx hb (skB tx (cnt - ((nmD true tx cnt ((nmD false tx cnt ((nmD false tx cnt (od2 tx cnt p)).2)).2)).2)) ((nmD true tx cnt ((nmD false tx cnt ((nmD false tx cnt (od2 tx cnt p)).2)).2)).2)) 1 rfl rfl dX3_readsOrder_157 ?_
                  refine x_put E hw kf_X3_29 kp_X3_2 0 rfl (ty := .int) (by decide +kernel) rfl rfl (by simp) (ws' := [(h 11, .inr (3, [.ref (h 12), .int (nI cnt), .int (nI (skB tx (cnt - ((nmD true tx cnt ((nmD false tx cnt ((nmD false tx cnt (od2 tx cnt p)).2)).2)).2)) ((nmD true tx cnt ((nmD false tx cnt ((nmD false tx cnt (od2 tx cnt p)).2)).2)).2) + 1)), .int ca, .int fa, .int od, .ref (h 13), .ref (h 14)])), (h 12, .inl (g.2.1, 120, .inl tx)), (h 13, .inl (g.2.1, 24, .inl (upd wo k (odW tx cnt p)))), (h 14, .inl (g.2.1, 72, .inl (upd (upd (upd nu (k * 3 + 0) (nmV false tx cnt (od2 tx cnt p))) (k * 3 + 1) (nmV false tx cnt ((nmD false tx cnt (od2 tx cnt p)).2))) (k * 3 + 2) (nmV true tx cnt ((nmD false tx cnt ((nmD false tx cnt (od2 tx cnt p)).2)).2)))))]) rfl dX3_readsOrder_158 (fun H locs hw => ?_)
                  refine lv_iconst (v := 1) hx hb dX3_readsOrder_161 (by decide) ?_
                  have ho : odR tx cnt k p wo nu ca fa = (true, skB tx (cnt - ((nmD true tx cnt ((nmD false tx cnt ((nmD false tx cnt (od2 tx cnt p)).2)).2)).2)) ((nmD true tx cnt ((nmD false tx cnt ((nmD false tx cnt (od2 tx cnt p)).2)).2)).2) + 1, upd wo k (odW tx cnt p), upd (upd (upd nu (k * 3 + 0) (nmV false tx cnt (od2 tx cnt p))) (k * 3 + 1) (nmV false tx cnt ((nmD false tx cnt (od2 tx cnt p)).2))) (k * 3 + 2) (nmV true tx cnt ((nmD false tx cnt ((nmD false tx cnt (od2 tx cnt p)).2)).2)), ca, fa) := by simp only [odR, od3, od3b, od3c, od1, odE, if_neg c0, if_neg c1, if_neg c2, if_pos c3, if_pos hn_21, if_pos hn_25, if_pos hn_29, if_pos c6]
                  exact xr_z hQ E hr hw dX3_readsOrder_162 (by decide) ⟨congrArg (fun z => some (Value.int z)) ((by rw [ho]; rfl)), (by rw [ho] <;> rfl)⟩
                · refine lv_aload_n hx hb dX3_readsOrder_141 rfl (lv_at hl 5 rfl) ?_
                  refine lv_iconst (v := 2) hx hb dX3_readsOrder_142 (by decide) ?_
                  refine lv_aload_n hx hb dX3_readsOrder_143 rfl (lv_at hl 5 rfl) ?_
                  refine x_get E hw kf_X3_29 0 rfl rfl dX3_readsOrder_144 ?_
                  refine x_go (ws' := [(h 11, .inr (3, [.ref (h 12), .int (nI cnt), .int (nI (skB tx (cnt - ((nmD true tx cnt ((nmD false tx cnt ((nmD false tx cnt (od2 tx cnt p)).2)).2)).2)) ((nmD true tx cnt ((nmD false tx cnt ((nmD false tx cnt (od2 tx cnt p)).2)).2)).2))), .int 2, .int (nI (skB tx (cnt - ((nmD true tx cnt ((nmD false tx cnt ((nmD false tx cnt (od2 tx cnt p)).2)).2)).2)) ((nmD true tx cnt ((nmD false tx cnt ((nmD false tx cnt (od2 tx cnt p)).2)).2)).2))), .int od, .ref (h 13), .ref (h 14)])), (h 12, .inl (g.2.1, 120, .inl tx)), (h 13, .inl (g.2.1, 24, .inl (upd wo k (odW tx cnt p)))), (h 14, .inl (g.2.1, 72, .inl (upd (upd (upd nu (k * 3 + 0) (nmV false tx cnt (od2 tx cnt p))) (k * 3 + 1) (nmV false tx cnt ((nmD false tx cnt (od2 tx cnt p)).2))) (k * 3 + 2) (nmV true tx cnt ((nmD false tx cnt ((nmD false tx cnt (od2 tx cnt p)).2)).2)))))]) (st1 := [.int 0]) E hw [0] rfl (x_runV (rest := []) E hw (c_X3_faulty l g h cnt (skB tx (cnt - ((nmD true tx cnt ((nmD false tx cnt ((nmD false tx cnt (od2 tx cnt p)).2)).2)).2)) ((nmD true tx cnt ((nmD false tx cnt ((nmD false tx cnt (od2 tx cnt p)).2)).2)).2)) ca fa od 2 (nI (skB tx (cnt - ((nmD true tx cnt ((nmD false tx cnt ((nmD false tx cnt (od2 tx cnt p)).2)).2)).2)) ((nmD true tx cnt ((nmD false tx cnt ((nmD false tx cnt (od2 tx cnt p)).2)).2)).2))) ) km_X3_42 kv_X3_faulty [0] rfl (by decide) 0 rfl hl.1 rfl rfl (Nat.le_of_ble_eq_true rfl) ⟨Nat.le_of_ble_eq_true rfl, Nat.le_of_ble_eq_true rfl⟩ ⟨Nat.zero_le _, Nat.zero_le _⟩ dX3_readsOrder_147) rfl rfl rfl (fun H locs hw => ?_)
                  have ho : odR tx cnt k p wo nu ca fa = (false, skB tx (cnt - ((nmD true tx cnt ((nmD false tx cnt ((nmD false tx cnt (od2 tx cnt p)).2)).2)).2)) ((nmD true tx cnt ((nmD false tx cnt ((nmD false tx cnt (od2 tx cnt p)).2)).2)).2), upd wo k (odW tx cnt p), upd (upd (upd nu (k * 3 + 0) (nmV false tx cnt (od2 tx cnt p))) (k * 3 + 1) (nmV false tx cnt ((nmD false tx cnt (od2 tx cnt p)).2))) (k * 3 + 2) (nmV true tx cnt ((nmD false tx cnt ((nmD false tx cnt (od2 tx cnt p)).2)).2)), 2, nI (skB tx (cnt - ((nmD true tx cnt ((nmD false tx cnt ((nmD false tx cnt (od2 tx cnt p)).2)).2)).2)) ((nmD true tx cnt ((nmD false tx cnt ((nmD false tx cnt (od2 tx cnt p)).2)).2)).2))) := by simp only [odR, od3, od3b, od3c, od1, odE, if_neg c0, if_neg c1, if_neg c2, if_pos c3, if_pos hn_21, if_pos hn_25, if_pos hn_29, if_neg c6]
                  exact xr_z hQ E hr hw dX3_readsOrder_150 (by decide) ⟨congrArg (fun z => some (Value.int z)) ((by rw [ho]; rfl)), (by rw [ho] <;> rfl)⟩
              · refine x_go (ws' := [(h 11, .inr (3, [.ref (h 12), .int (nI cnt), .int (nI ((nmD true tx cnt ((nmD false tx cnt ((nmD false tx cnt (od2 tx cnt p)).2)).2)).2)), .int 2, .int (nI (nmD true tx cnt ((nmD false tx cnt ((nmD false tx cnt (od2 tx cnt p)).2)).2)).2), .int od, .ref (h 13), .ref (h 14)])), (h 12, .inl (g.2.1, 120, .inl tx)), (h 13, .inl (g.2.1, 24, .inl (upd wo k (odW tx cnt p)))), (h 14, .inl (g.2.1, 72, .inl (upd (upd nu (k * 3 + 0) (nmV false tx cnt (od2 tx cnt p))) (k * 3 + 1) (nmV false tx cnt ((nmD false tx cnt (od2 tx cnt p)).2)))))]) (st1 := [.int 0]) E hw [0, 1, 3] rfl (x_runV (rest := []) E hw (c_X3_readsNumber_1no l g h cnt ((nmD false tx cnt ((nmD false tx cnt (od2 tx cnt p)).2)).2) ca fa od tx (upd (upd nu (k * 3 + 0) (nmV false tx cnt (od2 tx cnt p))) (k * 3 + 1) (nmV false tx cnt ((nmD false tx cnt (od2 tx cnt p)).2))) (k * 3 + 2) (by omega) (nmD_le (nmD_le (od2_le hp)).2).2 (by omega) hn_29) km_X3_53 kv_X3_readsNumber [0, 1, 3] rfl (by decide) 0 rfl hl.1 rfl rfl (Nat.le_of_ble_eq_true rfl) ⟨Nat.le_of_ble_eq_true rfl, Nat.le_of_ble_eq_true rfl⟩ ⟨Nat.zero_le _, Nat.zero_le _⟩ dX3_readsOrder_114) rfl rfl rfl (fun H locs hw => ?_)
                refine lv_if_ne (tgt := 122) hx hb dX3_readsOrder_117 (by decide) (fun h => absurd h (by decide)) (fun _ => ?_)
                refine lv_iconst (v := 0) hx hb dX3_readsOrder_120 (by decide) ?_
                have ho : odR tx cnt k p wo nu ca fa = (false, (nmD true tx cnt ((nmD false tx cnt ((nmD false tx cnt (od2 tx cnt p)).2)).2)).2, upd wo k (odW tx cnt p), upd (upd nu (k * 3 + 0) (nmV false tx cnt (od2 tx cnt p))) (k * 3 + 1) (nmV false tx cnt ((nmD false tx cnt (od2 tx cnt p)).2)), 2, nI (nmD true tx cnt ((nmD false tx cnt ((nmD false tx cnt (od2 tx cnt p)).2)).2)).2) := by simp only [odR, od3, od3b, od3c, od1, odE, if_neg c0, if_neg c1, if_neg c2, if_pos c3, if_pos hn_21, if_pos hn_25, if_neg hn_29]
                exact xr_z hQ E hr hw dX3_readsOrder_121 (by decide) ⟨congrArg (fun z => some (Value.int z)) ((by rw [ho]; rfl)), (by rw [ho] <;> rfl)⟩
            · refine x_go (ws' := [(h 11, .inr (3, [.ref (h 12), .int (nI cnt), .int (nI ((nmD false tx cnt ((nmD false tx cnt (od2 tx cnt p)).2)).2)), .int 2, .int (nI (nmD false tx cnt ((nmD false tx cnt (od2 tx cnt p)).2)).2), .int od, .ref (h 13), .ref (h 14)])), (h 12, .inl (g.2.1, 120, .inl tx)), (h 13, .inl (g.2.1, 24, .inl (upd wo k (odW tx cnt p)))), (h 14, .inl (g.2.1, 72, .inl (upd nu (k * 3 + 0) (nmV false tx cnt (od2 tx cnt p)))))]) (st1 := [.int 0]) E hw [0, 1, 3] rfl (x_runV (rest := []) E hw (c_X3_readsNumber_0no l g h cnt ((nmD false tx cnt (od2 tx cnt p)).2) ca fa od tx (upd nu (k * 3 + 0) (nmV false tx cnt (od2 tx cnt p))) (k * 3 + 1) (by omega) (nmD_le (od2_le hp)).2 (by omega) hn_25) km_X3_53 kv_X3_readsNumber [0, 1, 3] rfl (by decide) 0 rfl hl.1 rfl rfl (Nat.le_of_ble_eq_true rfl) ⟨Nat.le_of_ble_eq_true rfl, Nat.le_of_ble_eq_true rfl⟩ ⟨Nat.zero_le _, Nat.zero_le _⟩ dX3_readsOrder_114) rfl rfl rfl (fun H locs hw => ?_)
              refine lv_if_ne (tgt := 122) hx hb dX3_readsOrder_117 (by decide) (fun h => absurd h (by decide)) (fun _ => ?_)
              refine lv_iconst (v := 0) hx hb dX3_readsOrder_120 (by decide) ?_
              have ho : odR tx cnt k p wo nu ca fa = (false, (nmD false tx cnt ((nmD false tx cnt (od2 tx cnt p)).2)).2, upd wo k (odW tx cnt p), upd nu (k * 3 + 0) (nmV false tx cnt (od2 tx cnt p)), 2, nI (nmD false tx cnt ((nmD false tx cnt (od2 tx cnt p)).2)).2) := by simp only [odR, od3, od3b, od3c, od1, odE, if_neg c0, if_neg c1, if_neg c2, if_pos c3, if_pos hn_21, if_neg hn_25]
              exact xr_z hQ E hr hw dX3_readsOrder_121 (by decide) ⟨congrArg (fun z => some (Value.int z)) ((by rw [ho]; rfl)), (by rw [ho] <;> rfl)⟩
          · refine x_go (ws' := [(h 11, .inr (3, [.ref (h 12), .int (nI cnt), .int (nI ((nmD false tx cnt (od2 tx cnt p)).2)), .int 2, .int (nI (nmD false tx cnt (od2 tx cnt p)).2), .int od, .ref (h 13), .ref (h 14)])), (h 12, .inl (g.2.1, 120, .inl tx)), (h 13, .inl (g.2.1, 24, .inl (upd wo k (odW tx cnt p)))), (h 14, .inl (g.2.1, 72, .inl nu))]) (st1 := [.int 0]) E hw [0, 1, 3] rfl (x_runV (rest := []) E hw (c_X3_readsNumber_0no l g h cnt (od2 tx cnt p) ca fa od tx nu (k * 3 + 0) (by omega) (od2_le hp) (by omega) hn_21) km_X3_53 kv_X3_readsNumber [0, 1, 3] rfl (by decide) 0 rfl hl.1 rfl rfl (Nat.le_of_ble_eq_true rfl) ⟨Nat.le_of_ble_eq_true rfl, Nat.le_of_ble_eq_true rfl⟩ ⟨Nat.zero_le _, Nat.zero_le _⟩ dX3_readsOrder_114) rfl rfl rfl (fun H locs hw => ?_)
            refine lv_if_ne (tgt := 122) hx hb dX3_readsOrder_117 (by decide) (fun h => absurd h (by decide)) (fun _ => ?_)
            refine lv_iconst (v := 0) hx hb dX3_readsOrder_120 (by decide) ?_
            have ho : odR tx cnt k p wo nu ca fa = (false, (nmD false tx cnt (od2 tx cnt p)).2, upd wo k (odW tx cnt p), nu, 2, nI (nmD false tx cnt (od2 tx cnt p)).2) := by simp only [odR, od3, od3b, od3c, od1, odE, if_neg c0, if_neg c1, if_neg c2, if_pos c3, if_neg hn_21]
            exact xr_z hQ E hr hw dX3_readsOrder_121 (by decide) ⟨congrArg (fun z => some (Value.int z)) ((by rw [ho]; rfl)), (by rw [ho] <;> rfl)⟩
    · refine lv_aload_n hx hb dX3_readsOrder_46 rfl (lv_at hl 2 rfl) ?_
      refine lv_iconst (v := 1) hx hb dX3_readsOrder_47 (by decide) ?_
      refine lv_iload_n hx hb dX3_readsOrder_48 rfl (lv_at hl 1 rfl) ?_
      refine x_go (ws' := [(h 11, .inr (3, [.ref (h 12), .int (nI cnt), .int (nI (od2 tx cnt p)), .int 1, .int (nI (skB tx (cnt - p) p)), .int od, .ref (h 13), .ref (h 14)])), (h 12, .inl (g.2.1, 120, .inl tx)), (h 13, .inl (g.2.1, 24, .inl wo)), (h 14, .inl (g.2.1, 72, .inl nu))]) (st1 := [.int 0]) E hw [0] rfl (x_runV (rest := []) E hw (c_X3_faulty l g h cnt (od2 tx cnt p) ca fa od 1 (nI (skB tx (cnt - p) p)) ) km_X3_42 kv_X3_faulty [0] rfl (by decide) 0 rfl hl.1 rfl rfl (Nat.le_of_ble_eq_true rfl) ⟨Nat.le_of_ble_eq_true rfl, Nat.le_of_ble_eq_true rfl⟩ ⟨Nat.zero_le _, Nat.zero_le _⟩ dX3_readsOrder_49) rfl rfl rfl (fun H locs hw => ?_)
      have ho : odR tx cnt k p wo nu ca fa = (false, od2 tx cnt p, wo, nu, 1, nI (skB tx (cnt - p) p)) := by simp only [odR, od3, od3b, od3c, od1, odE, if_neg c0, if_pos c1]
      exact xr_z hQ E hr hw dX3_readsOrder_52 (by decide) ⟨congrArg (fun z => some (Value.int z)) ((by rw [ho]; rfl)), (by rw [ho] <;> rfl)⟩
  · refine lv_aload_n hx hb dX3_readsOrder_21 rfl (lv_at hl 1 rfl) ?_
    refine lv_iconst (v := 2) hx hb dX3_readsOrder_22 (by decide) ?_
    refine lv_aload_n hx hb dX3_readsOrder_23 rfl (lv_at hl 1 rfl) ?_
    refine x_get E hw kf_X3_29 0 rfl rfl dX3_readsOrder_24 ?_
    refine x_go (ws' := [(h 11, .inr (3, [.ref (h 12), .int (nI cnt), .int (nI (od2 tx cnt p)), .int 2, .int (nI (od2 tx cnt p)), .int od, .ref (h 13), .ref (h 14)])), (h 12, .inl (g.2.1, 120, .inl tx)), (h 13, .inl (g.2.1, 24, .inl wo)), (h 14, .inl (g.2.1, 72, .inl nu))]) (st1 := [.int 0]) E hw [0] rfl (x_runV (rest := []) E hw (c_X3_faulty l g h cnt (od2 tx cnt p) ca fa od 2 (nI (od2 tx cnt p)) ) km_X3_42 kv_X3_faulty [0] rfl (by decide) 0 rfl hl.1 rfl rfl (Nat.le_of_ble_eq_true rfl) ⟨Nat.le_of_ble_eq_true rfl, Nat.le_of_ble_eq_true rfl⟩ ⟨Nat.zero_le _, Nat.zero_le _⟩ dX3_readsOrder_27) rfl rfl rfl (fun H locs hw => ?_)
    have ho : odR tx cnt k p wo nu ca fa = (false, od2 tx cnt p, wo, nu, 2, nI (od2 tx cnt p)) := by simp only [odR, od3, od3b, od3c, od1, odE, if_pos c0]
    exact xr_z hQ E hr hw dX3_readsOrder_30 (by decide) ⟨congrArg (fun z => some (Value.int z)) ((by rw [ho]; rfl)), (by rw [ho] <;> rfl)⟩

set_option maxRecDepth 100000 in
set_option maxHeartbeats 4000000 in
theorem c_X3_isReadable (l : Launch) (g : xCfg) (h : Nat → Nat) (cnt : Nat) (p : Nat) (ca : Int32) (fa : Int32) (od : Int32) (tx : Nat → Int32) (wo : Nat → Int32) (nu : Nat → Int32) (hc : cnt ≤ 120) : Ct l g yX3_isReadable cX3_isReadable 2 (some .boolean) (xR 7 158) [.ref (h 11)] [(h 11, .inr (3, [.ref (h 12), .int (nI cnt), .int (nI p), .int ca, .int fa, .int od, .ref (h 13), .ref (h 14)])), (h 12, .inl (g.2.1, 120, .inl tx)), (h 13, .inl (g.2.1, 24, .inl wo)), (h 14, .inl (g.2.1, 72, .inl nu))] (is1 (some (.int (bI ((rdR tx cnt 24 0 0 wo nu ca fa od).1 = true)))) [(h 11, .inr (3, [.ref (h 12), .int (nI cnt), .int (nI ((rdR tx cnt 24 0 0 wo nu ca fa od).2.1)), .int ((rdR tx cnt 24 0 0 wo nu ca fa od).2.2.2.2.1), .int ((rdR tx cnt 24 0 0 wo nu ca fa od).2.2.2.2.2.1), .int ((rdR tx cnt 24 0 0 wo nu ca fa od).2.2.2.2.2.2), .ref (h 13), .ref (h 14)])), (h 12, .inl (g.2.1, 120, .inl tx)), (h 13, .inl (g.2.1, 24, .inl ((rdR tx cnt 24 0 0 wo nu ca fa od).2.2.1))), (h 14, .inl (g.2.1, 72, .inl ((rdR tx cnt 24 0 0 wo nu ca fa od).2.2.2.1)))]) := by
  refine Ct.walk (by decide) (Nat.le_of_ble_eq_true rfl) ?_
  intro p0 e0 s0 m0 below meth c0 A0 ls Q hQ E hr hnm hw hl
  have hx := E.x
  have hb := E.b
  have hl : lv_has ls 2 [(0, .ref (h 11))] := hl
  refine lv_aload_n hx hb dX3_isReadable_0 rfl (lv_at hl 0 rfl) ?_
  refine lv_iconst (v := 0) hx hb dX3_isReadable_1 (by decide) ?_
  refine x_put E hw kf_X3_29 kp_X3_2 0 rfl (ty := .int) (by decide +kernel) rfl rfl (by simp) (ws' := [(h 11, .inr (3, [.ref (h 12), .int (nI cnt), .int 0, .int ca, .int fa, .int od, .ref (h 13), .ref (h 14)])), (h 12, .inl (g.2.1, 120, .inl tx)), (h 13, .inl (g.2.1, 24, .inl wo)), (h 14, .inl (g.2.1, 72, .inl nu))]) rfl dX3_isReadable_2 (fun H locs hw => ?_)
  refine lv_iconst (v := 0) hx hb dX3_isReadable_5 (by decide) ?_
  refine lv_istore_n (lv' := [(1, .int 0), (0, .ref (h 11))]) hx hb dX3_isReadable_6 rfl hl (by decide) rfl (fun ls hl => ?_)
  have lp_7 : ∀ (fuel : Nat) (k : Nat) (x : Nat) (wx : Nat → Int32) (nx : Nat → Int32) (cx : Int32) (fx : Int32) (ox : Int32), 24 - k < fuel → k ≤ 24 → x ≤ cnt → rdR tx cnt (24 - k) k x wx nx cx fx ox = rdR tx cnt 24 0 0 wo nu ca fa od → ∀ (H : Heap) (locs : List Loc) (ls : Array Slot), xW g A0 s0 [(h 11, .inr (3, [.ref (h 12), .int (nI cnt), .int (nI x), .int cx, .int fx, .int ox, .ref (h 13), .ref (h 14)])), (h 12, .inl (g.2.1, 120, .inl tx)), (h 13, .inl (g.2.1, 24, .inl wx)), (h 14, .inl (g.2.1, 72, .inl nx))] H locs → lv_has ls 2 [(1, .int (nI k)), (0, .ref (h 11))] → W p0 l e0 (xR 7 158) s0 m0 [.ref (h 11)].toArray below meth c0 H locs 0 0 Q (F0 m0 7 ls []) := by
    intro fuel
    induction fuel with
    | zero => intro k x wx nx cx fx ox hm; exact absurd hm (Nat.not_lt_zero _)
    | succ fuel ih =>
      intro k x wx nx cx fx ox hm hk hxc hv H locs ls hw hl
      refine lv_iload_n hx hb dX3_isReadable_7 rfl (lv_at hl 0 rfl) ?_
      refine lv_bipush (v := 24) hx hb dX3_isReadable_8 (by decide) ?_
      refine xn_ge (tgt := 53) hx hb k 24 rfl rfl (by omega) (by omega) dX3_isReadable_10 (by decide) (fun ck => ?_) (fun ck => ?_)
      · refine lv_aload_n hx hb dX3_isReadable_53 rfl (lv_at hl 1 rfl) ?_
        refine lv_iconst (v := 2) hx hb dX3_isReadable_54 (by decide) ?_
        refine lv_aload_n hx hb dX3_isReadable_55 rfl (lv_at hl 1 rfl) ?_
        refine x_get E hw kf_X3_29 0 rfl rfl dX3_isReadable_56 ?_
        refine x_go (ws' := [(h 11, .inr (3, [.ref (h 12), .int (nI cnt), .int (nI x), .int 2, .int (nI x), .int ox, .ref (h 13), .ref (h 14)])), (h 12, .inl (g.2.1, 120, .inl tx)), (h 13, .inl (g.2.1, 24, .inl wx)), (h 14, .inl (g.2.1, 72, .inl nx))]) (st1 := [.int 0]) E hw [0] rfl (x_runV (rest := []) E hw (c_X3_faulty l g h cnt x cx fx ox 2 (nI x) ) km_X3_42 kv_X3_faulty [0] rfl (by decide) 0 rfl hl.1 rfl rfl (Nat.le_of_ble_eq_true rfl) ⟨Nat.le_of_ble_eq_true rfl, Nat.le_of_ble_eq_true rfl⟩ ⟨Nat.zero_le _, Nat.zero_le _⟩ dX3_isReadable_59) rfl rfl rfl (fun H locs hw => ?_)
        have ho : rdR tx cnt 24 0 0 wo nu ca fa od = (false, x, wx, nx, 2, nI x, ox) := by rw [← hv, show 24 - k = 0 by omega]; rfl
        exact xr_z hQ E hr hw dX3_isReadable_62 (by decide) ⟨congrArg (fun z => some (Value.int z)) ((by rw [ho]; rfl)), (by rw [ho] <;> rfl)⟩
      · refine lv_aload_n hx hb dX3_isReadable_13 rfl (lv_at hl 1 rfl) ?_
        refine lv_iload_n hx hb dX3_isReadable_14 rfl (lv_at hl 0 rfl) ?_
        refine x_go (ws' := [(h 11, .inr (3, [.ref (h 12), .int (nI cnt), .int (nI ((odR tx cnt k x wx nx cx fx).2.1)), .int ((odR tx cnt k x wx nx cx fx).2.2.2.2.1), .int ((odR tx cnt k x wx nx cx fx).2.2.2.2.2), .int ox, .ref (h 13), .ref (h 14)])), (h 12, .inl (g.2.1, 120, .inl tx)), (h 13, .inl (g.2.1, 24, .inl ((odR tx cnt k x wx nx cx fx).2.2.1))), (h 14, .inl (g.2.1, 72, .inl ((odR tx cnt k x wx nx cx fx).2.2.2.1)))]) (st1 := [.int (bI ((odR tx cnt k x wx nx cx fx).1 = true))]) E hw [0, 1, 2, 3] rfl (x_runV (rest := []) E hw (c_X3_readsOrder l g h cnt x cx fx ox tx wx nx k (by omega) hxc (by omega)) km_X3_32 kv_X3_readsOrder [0, 1, 2, 3] rfl (by decide) 0 rfl hl.1 rfl rfl (Nat.le_of_ble_eq_true rfl) ⟨Nat.le_of_ble_eq_true rfl, Nat.le_of_ble_eq_true rfl⟩ ⟨Nat.zero_le _, Nat.zero_le _⟩ dX3_isReadable_15) rfl rfl rfl (fun H locs hw => ?_)
        refine xb_ne (tgt := 23) hx hb dX3_isReadable_18 (by decide) (fun c5 => ?_) (fun c5 => ?_)
        · refine lv_aload_n hx hb dX3_isReadable_23 rfl (lv_at hl 1 rfl) ?_
          refine lv_iload_n hx hb dX3_isReadable_24 rfl (lv_at hl 0 rfl) ?_
          refine lv_iconst (v := 1) hx hb dX3_isReadable_25 (by decide) ?_
          refine xn_add hx hb k 1 rfl rfl dX3_isReadable_26 ?_
          refine x_put E hw kf_X3_36 kp_X3_5 0 rfl (ty := .int) (by decide +kernel) rfl rfl (by simp) (ws' := [(h 11, .inr (3, [.ref (h 12), .int (nI cnt), .int (nI ((odR tx cnt k x wx nx cx fx).2.1)), .int ((odR tx cnt k x wx nx cx fx).2.2.2.2.1), .int ((odR tx cnt k x wx nx cx fx).2.2.2.2.2), .int (nI (k + 1)), .ref (h 13), .ref (h 14)])), (h 12, .inl (g.2.1, 120, .inl tx)), (h 13, .inl (g.2.1, 24, .inl ((odR tx cnt k x wx nx cx fx).2.2.1))), (h 14, .inl (g.2.1, 72, .inl ((odR tx cnt k x wx nx cx fx).2.2.2.1)))]) rfl dX3_isReadable_27 (fun H locs hw => ?_)
          refine lv_aload_n hx hb dX3_isReadable_30 rfl (lv_at hl 1 rfl) ?_
          refine x_go (ws' := [(h 11, .inr (3, [.ref (h 12), .int (nI cnt), .int (nI (skB tx (cnt - ((odR tx cnt k x wx nx cx fx).2.1)) ((odR tx cnt k x wx nx cx fx).2.1))), .int ((odR tx cnt k x wx nx cx fx).2.2.2.2.1), .int ((odR tx cnt k x wx nx cx fx).2.2.2.2.2), .int (nI (k + 1)), .ref (h 13), .ref (h 14)])), (h 12, .inl (g.2.1, 120, .inl tx)), (h 13, .inl (g.2.1, 24, .inl ((odR tx cnt k x wx nx cx fx).2.2.1))), (h 14, .inl (g.2.1, 72, .inl ((odR tx cnt k x wx nx cx fx).2.2.2.1)))]) (st1 := []) E hw [0, 1] rfl (x_runV (rest := []) E hw (c_X3_skipsBlanks l g h cnt ((odR tx cnt k x wx nx cx fx).2.1) ((odR tx cnt k x wx nx cx fx).2.2.2.2.1) ((odR tx cnt k x wx nx cx fx).2.2.2.2.2) (nI (k + 1)) tx (by omega) (odR_le hxc)) km_X3_39 kv_X3_skipsBlanks [0, 1] rfl (by decide) 0 rfl hl.1 rfl rfl (Nat.le_of_ble_eq_true rfl) ⟨Nat.le_of_ble_eq_true rfl, Nat.le_of_ble_eq_true rfl⟩ ⟨Nat.zero_le _, Nat.zero_le _⟩ dX3_isReadable_31) rfl rfl rfl (fun H locs hw => ?_)
          refine lv_aload_n hx hb dX3_isReadable_34 rfl (lv_at hl 1 rfl) ?_
          refine x_get E hw kf_X3_29 0 rfl rfl dX3_isReadable_35 ?_
          refine lv_aload_n hx hb dX3_isReadable_38 rfl (lv_at hl 1 rfl) ?_
          refine x_get E hw kf_X3_25 0 rfl rfl dX3_isReadable_39 ?_
          refine xn_lt (tgt := 47) hx hb (skB tx (cnt - ((odR tx cnt k x wx nx cx fx).2.1)) ((odR tx cnt k x wx nx cx fx).2.1)) cnt rfl rfl (Nat.lt_of_le_of_lt (skB_le (odR_le hxc)) (by omega : cnt < 2 ^ 31)) (by omega) dX3_isReadable_42 (by decide) (fun c6 => ?_) (fun c6 => ?_)
          · refine lv_iinc (v := nI (k + 1)) (lv' := [(1, .int (nI (k + 1))), (0, .ref (h 11))]) hx hb dX3_isReadable_47 hl (k := 0) rfl (nI_1 _) (by decide) rfl (fun ls hl => ?_)
            refine lv_goto (tgt := 7) hx hb dX3_isReadable_50 (by decide) ?_
            have hl : lv_has ls 2 [(1, .int (nI (k + 1))), (0, .ref (h 11))] := lv_sub hl [0, 1] rfl
            have hl : lv_has ls 2 [(1, .int (nI (k + 1))), (0, .ref (h 11))] := hl
            have hw : xW g A0 s0 [(h 11, .inr (3, [.ref (h 12), .int (nI cnt), .int (nI (skB tx (cnt - ((odR tx cnt k x wx nx cx fx).2.1)) ((odR tx cnt k x wx nx cx fx).2.1))), .int ((odR tx cnt k x wx nx cx fx).2.2.2.2.1), .int ((odR tx cnt k x wx nx cx fx).2.2.2.2.2), .int (nI (k + 1)), .ref (h 13), .ref (h 14)])), (h 12, .inl (g.2.1, 120, .inl tx)), (h 13, .inl (g.2.1, 24, .inl ((odR tx cnt k x wx nx cx fx).2.2.1))), (h 14, .inl (g.2.1, 72, .inl ((odR tx cnt k x wx nx cx fx).2.2.2.1)))] _ _ := hw
            exact ih (k + 1) (skB tx (cnt - ((odR tx cnt k x wx nx cx fx).2.1)) ((odR tx cnt k x wx nx cx fx).2.1)) ((odR tx cnt k x wx nx cx fx).2.2.1) ((odR tx cnt k x wx nx cx fx).2.2.2.1) ((odR tx cnt k x wx nx cx fx).2.2.2.2.1) ((odR tx cnt k x wx nx cx fx).2.2.2.2.2) (nI (k + 1)) (by omega) (by omega) (skB_le (odR_le hxc)) (by rw [← hv, rdR_s tx cnt (k := k) (by omega) x wx nx cx fx ox, rdR, if_pos c5, if_pos c6]) _ _ _ hw hl
          · refine lv_iconst (v := 1) hx hb dX3_isReadable_45 (by decide) ?_
            have ho : rdR tx cnt 24 0 0 wo nu ca fa od = (true, skB tx (cnt - ((odR tx cnt k x wx nx cx fx).2.1)) ((odR tx cnt k x wx nx cx fx).2.1), (odR tx cnt k x wx nx cx fx).2.2.1, (odR tx cnt k x wx nx cx fx).2.2.2.1, (odR tx cnt k x wx nx cx fx).2.2.2.2.1, (odR tx cnt k x wx nx cx fx).2.2.2.2.2, nI (k + 1)) := by rw [← hv, rdR_s tx cnt (k := k) (by omega) x wx nx cx fx ox, rdR, if_pos c5, if_neg (by omega)]
            exact xr_z hQ E hr hw dX3_isReadable_46 (by decide) ⟨congrArg (fun z => some (Value.int z)) ((by rw [ho]; rfl)), (by rw [ho] <;> rfl)⟩
        · refine lv_iconst (v := 0) hx hb dX3_isReadable_21 (by decide) ?_
          have ho : rdR tx cnt 24 0 0 wo nu ca fa od = (false, (odR tx cnt k x wx nx cx fx).2.1, (odR tx cnt k x wx nx cx fx).2.2.1, (odR tx cnt k x wx nx cx fx).2.2.2.1, (odR tx cnt k x wx nx cx fx).2.2.2.2.1, (odR tx cnt k x wx nx cx fx).2.2.2.2.2, ox) := by rw [← hv, rdR_s tx cnt (k := k) (by omega) x wx nx cx fx ox, rdR, if_neg c5]
          exact xr_z hQ E hr hw dX3_isReadable_22 (by decide) ⟨congrArg (fun z => some (Value.int z)) ((by rw [ho]; rfl)), (by rw [ho] <;> rfl)⟩
  have hl : lv_has ls 2 [(1, .int 0), (0, .ref (h 11))] := lv_sub hl [0, 1] rfl
  have hl : lv_has ls 2 [(1, .int 0), (0, .ref (h 11))] := hl
  have hw : xW g A0 s0 [(h 11, .inr (3, [.ref (h 12), .int (nI cnt), .int 0, .int ca, .int fa, .int od, .ref (h 13), .ref (h 14)])), (h 12, .inl (g.2.1, 120, .inl tx)), (h 13, .inl (g.2.1, 24, .inl wo)), (h 14, .inl (g.2.1, 72, .inl nu))] _ _ := hw
  exact lp_7 ((24 - 0) + 1) 0 0 wo nu ca fa od (Nat.lt_succ_self _) (by omega) (by omega) rfl _ _ _ hw hl
