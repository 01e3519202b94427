
/-- an order as the model reads it from place p on: whether it is well, the place, words, numbers, fault, whether a word is none, orders -/
abbrev OR : Type := Bool × Nat × (Nat → Int32) × (Nat → Int32) × Int32 × Int32 × Nat
def orE (tx : Nat → Int32) (cnt k q : Nat) (w : Int32) (wo nu : Nat → Int32) (fa iw : Int32) : OR := if hrF tx cnt (skB tx (cnt - q) q) = 59 then (true, skB tx (cnt - q) q + 1, upd wo k w, nu, fa, iw, k + 1) else (false, skB tx (cnt - q) q, wo, nu, nI (skB tx (cnt - q) q), iw, k)
def or1 (tx : Nat → Int32) (cnt k q : Nat) (w : Int32) (wo nu : Nat → Int32) (fa iw : Int32) : OR := if nmOk false tx cnt q then orE tx cnt k (nmD false tx cnt q).2 w wo (upd nu (3 * k) (nmV false tx cnt q)) fa iw else (false, (nmD false tx cnt q).2, wo, nu, nI (nmD false tx cnt q).2, iw, k)
def or3c (sg : Bool) (tx : Nat → Int32) (cnt k q : Nat) (w : Int32) (wo nu : Nat → Int32) (fa iw : Int32) : OR := if nmOk sg tx cnt q then orE tx cnt k (nmD sg tx cnt q).2 w wo (upd nu (3 * k + 2) (nmV sg tx cnt q)) fa iw else (false, (nmD sg tx cnt q).2, wo, nu, nI (nmD sg tx cnt q).2, iw, k)
def or3b (sg : Bool) (tx : Nat → Int32) (cnt k q : Nat) (w : Int32) (wo nu : Nat → Int32) (fa iw : Int32) : OR := if nmOk false tx cnt q then or3c sg tx cnt k (nmD false tx cnt q).2 w wo (upd nu (3 * k + 1) (nmV false tx cnt q)) fa iw else (false, (nmD false tx cnt q).2, wo, nu, nI (nmD false tx cnt q).2, iw, k)
def or3 (sg : Bool) (tx : Nat → Int32) (cnt k q : Nat) (w : Int32) (wo nu : Nat → Int32) (fa iw : Int32) : OR := if nmOk false tx cnt q then or3b sg tx cnt k (nmD false tx cnt q).2 w wo (upd nu (3 * k) (nmV false tx cnt q)) fa iw else (false, (nmD false tx cnt q).2, wo, nu, nI (nmD false tx cnt q).2, iw, k)
def orR (tx : Nat → Int32) (cnt k p : Nat) (wo nu : Nat → Int32) (fa iw : Int32) : OR :=
  if skL tx (cnt - p) p = p then (false, skL tx (cnt - p) p, wo, nu, nI (skL tx (cnt - p) p), iw, k)
  else if wdR tx p (skL tx (cnt - p) p) = -1 then (false, skL tx (cnt - p) p, wo, nu, nI p, 1, k)
  else if wdR tx p (skL tx (cnt - p) p) = 1 then or3 false tx cnt k (skL tx (cnt - p) p) (wdR tx p (skL tx (cnt - p) p)) wo nu fa iw
  else if wdR tx p (skL tx (cnt - p) p) = 2 then or3 true tx cnt k (skL tx (cnt - p) p) (wdR tx p (skL tx (cnt - p) p)) wo nu fa iw
  else or1 tx cnt k (skL tx (cnt - p) p) (wdR tx p (skL tx (cnt - p) p)) wo nu fa iw
theorem orE_le {tx : Nat → Int32} {cnt k q : Nat} {w : Int32} {wo nu : Nat → Int32} {fa iw : Int32} (h : q ≤ cnt) : (orE tx cnt k q w wo nu fa iw).2.1 ≤ cnt ∧ ((orE tx cnt k q w wo nu fa iw).1 = true → q + 1 ≤ (orE tx cnt k q w wo nu fa iw).2.1 ∧ (orE tx cnt k q w wo nu fa iw).2.2.2.2.2.2 = k + 1) := by
  have h0 := skB_ge tx (cnt - q) q
  unfold orE
  split
  · rename_i h1
    have h2 := ((hr_eq (by decide)).mp h1).1
    exact ⟨h2, fun _ => ⟨by show q + 1 ≤ skB tx (cnt - q) q + 1; omega, rfl⟩⟩
  · exact ⟨skB_le h, fun z => by cases z⟩
theorem nm_gt {sg : Bool} {tx : Nat → Int32} {cnt p : Nat} (hp : p ≤ cnt) (h : nmOk sg tx cnt p) : p + 1 ≤ (nmD sg tx cnt p).2 := by
  have := nmS_le (sg := sg) (tx := tx) hp
  have := h.1
  omega
theorem or1_le {tx : Nat → Int32} {cnt k q : Nat} {w : Int32} {wo nu : Nat → Int32} {fa iw : Int32} (h : q ≤ cnt) : (or1 tx cnt k q w wo nu fa iw).2.1 ≤ cnt ∧ ((or1 tx cnt k q w wo nu fa iw).1 = true → q + 2 ≤ (or1 tx cnt k q w wo nu fa iw).2.1 ∧ (or1 tx cnt k q w wo nu fa iw).2.2.2.2.2.2 = k + 1) := by
  unfold or1
  split
  · rename_i h1
    have h2 := nm_gt h h1
    have h3 := orE_le (tx := tx) (k := k) (w := w) (wo := wo) (nu := upd nu (3 * k) (nmV false tx cnt q)) (fa := fa) (iw := iw) (nmD_le (sg := false) (tx := tx) h).2
    exact ⟨h3.1, fun z => ⟨by have := (h3.2 z).1; omega, (h3.2 z).2⟩⟩
  · exact ⟨(nmD_le h).2, fun z => by cases z⟩
theorem or3c_le {sg : Bool} {tx : Nat → Int32} {cnt k q : Nat} {w : Int32} {wo nu : Nat → Int32} {fa iw : Int32} (h : q ≤ cnt) : (or3c sg tx cnt k q w wo nu fa iw).2.1 ≤ cnt ∧ ((or3c sg tx cnt k q w wo nu fa iw).1 = true → q + 2 ≤ (or3c sg tx cnt k q w wo nu fa iw).2.1 ∧ (or3c sg tx cnt k q w wo nu fa iw).2.2.2.2.2.2 = k + 1) := by
  unfold or3c
  split
  · rename_i h1
    have h2 := nm_gt h h1
    have h3 := orE_le (tx := tx) (k := k) (w := w) (wo := wo) (nu := upd nu (3 * k + 2) (nmV sg tx cnt q)) (fa := fa) (iw := iw) (nmD_le (sg := sg) (tx := tx) h).2
    exact ⟨h3.1, fun z => ⟨by have := (h3.2 z).1; omega, (h3.2 z).2⟩⟩
  · exact ⟨(nmD_le h).2, fun z => by cases z⟩
theorem or3b_le {sg : Bool} {tx : Nat → Int32} {cnt k q : Nat} {w : Int32} {wo nu : Nat → Int32} {fa iw : Int32} (h : q ≤ cnt) : (or3b sg tx cnt k q w wo nu fa iw).2.1 ≤ cnt ∧ ((or3b sg tx cnt k q w wo nu fa iw).1 = true → q + 2 ≤ (or3b sg tx cnt k q w wo nu fa iw).2.1 ∧ (or3b sg tx cnt k q w wo nu fa iw).2.2.2.2.2.2 = k + 1) := by
  unfold or3b
  split
  · rename_i h1
    have h2 := nm_gt h h1
    have h3 := or3c_le (sg := sg) (tx := tx) (k := k) (w := w) (wo := wo) (nu := upd nu (3 * k + 1) (nmV false tx cnt q)) (fa := fa) (iw := iw) (nmD_le (sg := false) (tx := tx) h).2
    exact ⟨h3.1, fun z => ⟨by have := (h3.2 z).1; omega, (h3.2 z).2⟩⟩
  · exact ⟨(nmD_le h).2, fun z => by cases z⟩
theorem or3_le {sg : Bool} {tx : Nat → Int32} {cnt k q : Nat} {w : Int32} {wo nu : Nat → Int32} {fa iw : Int32} (h : q ≤ cnt) : (or3 sg tx cnt k q w wo nu fa iw).2.1 ≤ cnt ∧ ((or3 sg tx cnt k q w wo nu fa iw).1 = true → q + 2 ≤ (or3 sg tx cnt k q w wo nu fa iw).2.1 ∧ (or3 sg tx cnt k q w wo nu fa iw).2.2.2.2.2.2 = k + 1) := by
  unfold or3
  split
  · rename_i h1
    have h2 := nm_gt h h1
    have h3 := or3b_le (sg := sg) (tx := tx) (k := k) (w := w) (wo := wo) (nu := upd nu (3 * k) (nmV false tx cnt q)) (fa := fa) (iw := iw) (nmD_le (sg := false) (tx := tx) h).2
    exact ⟨h3.1, fun z => ⟨by have := (h3.2 z).1; omega, (h3.2 z).2⟩⟩
  · exact ⟨(nmD_le h).2, fun z => by cases z⟩
theorem wdR_3 {tx : Nat → Int32} {f p : Nat} (h : ¬ wdR tx f p = -1) : f + 3 ≤ p := by
  rcases Nat.lt_or_ge p (f + 3) with z | z
  · exfalso
    apply h
    unfold wdR
    simp only [if_neg (show ¬ p - f = 3 by omega), if_neg (show ¬ p - f = 4 by omega), if_neg (show ¬ p - f = 5 by omega), if_neg (show ¬ p - f = 6 by omega)]
  · exact z
theorem orR_le {tx : Nat → Int32} {cnt k p : Nat} {wo nu : Nat → Int32} {fa iw : Int32} (h : p ≤ cnt) : (orR tx cnt k p wo nu fa iw).2.1 ≤ cnt ∧ ((orR tx cnt k p wo nu fa iw).1 = true → p + 5 ≤ (orR tx cnt k p wo nu fa iw).2.1 ∧ (orR tx cnt k p wo nu fa iw).2.2.2.2.2.2 = k + 1) := by
  have h2 := skL_le (tx := tx) h
  unfold orR
  split
  · exact ⟨h2, fun z => by cases z⟩
  · split
    · exact ⟨h2, fun z => by cases z⟩
    · rename_i h4
      have h5 := wdR_3 h4
      split
      · have h3 := or3_le (sg := false) (tx := tx) (k := k) (w := wdR tx p (skL tx (cnt - p) p)) (wo := wo) (nu := nu) (fa := fa) (iw := iw) h2
        exact ⟨h3.1, fun z => ⟨by have := (h3.2 z).1; omega, (h3.2 z).2⟩⟩
      · split
        · have h3 := or3_le (sg := true) (tx := tx) (k := k) (w := wdR tx p (skL tx (cnt - p) p)) (wo := wo) (nu := nu) (fa := fa) (iw := iw) h2
          exact ⟨h3.1, fun z => ⟨by have := (h3.2 z).1; omega, (h3.2 z).2⟩⟩
        · have h3 := or1_le (tx := tx) (k := k) (w := wdR tx p (skL tx (cnt - p) p)) (wo := wo) (nu := nu) (fa := fa) (iw := iw) h2
          exact ⟨h3.1, fun z => ⟨by have := (h3.2 z).1; omega, (h3.2 z).2⟩⟩
/-- the whole text as the model reads it -/
def rrR (tx : Nat → Int32) (cnt : Nat) : Nat → Nat → Nat → (Nat → Int32) → (Nat → Int32) → Int32 → Int32 → OR
  | 0, k, p, wo, nu, fa, iw => (true, p, wo, nu, fa, iw, k)
  | d + 1, k, p, wo, nu, fa, iw =>
    if k = 0 ∨ p < cnt then
      (if (orR tx cnt k p wo nu fa iw).1 = true then rrR tx cnt d (k + 1) (skB tx (cnt - (orR tx cnt k p wo nu fa iw).2.1) (orR tx cnt k p wo nu fa iw).2.1) (orR tx cnt k p wo nu fa iw).2.2.1 (orR tx cnt k p wo nu fa iw).2.2.2.1 (orR tx cnt k p wo nu fa iw).2.2.2.2.1 (orR tx cnt k p wo nu fa iw).2.2.2.2.2.1
       else orR tx cnt k p wo nu fa iw)
    else (true, p, wo, nu, fa, iw, k)
theorem rrR_s (tx : Nat → Int32) (cnt : Nat) {k : Nat} (hk : k < 25) (p : Nat) (wo nu : Nat → Int32) (fa iw : Int32) : rrR tx cnt (25 - k) k p wo nu fa iw = rrR tx cnt ((25 - (k + 1)) + 1) k p wo nu fa iw := by rw [show 25 - k = (25 - (k + 1)) + 1 by omega]
theorem orR_k {tx : Nat → Int32} {cnt k p : Nat} {wo nu : Nat → Int32} {fa iw : Int32} (h : (orR tx cnt k p wo nu fa iw).1 = true) (hp : p ≤ cnt) : (orR tx cnt k p wo nu fa iw).2.2.2.2.2.2 = k + 1 := ((orR_le hp).2 h).2

theorem c_X8_number_0ok (l : Launch) (g : xCfg) (o : Nat → Nat) (hs : Nat) (bads : Int32) (nos : Int32) (fuls : Int32) (cau : Int32) (whe : Int32) (cnt : Nat) (p : Nat) (fau : Int32) (isw : Int32) (ods : Int32) (tx : Nat → Int32) (nu : Nat → Int32) (u : Nat) (hc : cnt ≤ 120) (hp : p ≤ cnt) (hu : u < 72) (hk : nmOk false tx cnt p) : Ct l g yX8_number cX8_number 6 (some .boolean) (xR 2 42) [.ref (o 0), .int 0, .int (nI u)] [(o 0, .inr (8, [.ref (o 1), .ref (o 2), .int (nI hs), .int bads, .int nos, .int fuls, .int cau, .int whe, .ref (o 3), .ref (o 4), .int (nI cnt), .int (nI p), .int fau, .int isw, .int ods, .ref (o 5), .ref (o 6)])), (o 4, .inl (g.2.1, 120, .inl tx)), (o 6, .inl (g.2.1, 72, .inl nu))] (is1 (some (.int 1)) [(o 0, .inr (8, [.ref (o 1), .ref (o 2), .int (nI hs), .int bads, .int nos, .int fuls, .int cau, .int whe, .ref (o 3), .ref (o 4), .int (nI cnt), .int (nI ((nmD false tx cnt p).2)), .int fau, .int isw, .int ods, .ref (o 5), .ref (o 6)])), (o 4, .inl (g.2.1, 120, .inl tx)), (o 6, .inl (g.2.1, 72, .inl (upd nu u (nmV false tx cnt p))))]) := by
  have h1 := c_X8_number_0 l g o hs bads nos fuls cau whe cnt p fau isw ods tx nu u hc hp hu
  simp only [if_pos hk, bI_t hk] at h1
  exact h1

theorem c_X8_number_0no (l : Launch) (g : xCfg) (o : Nat → Nat) (hs : Nat) (bads : Int32) (nos : Int32) (fuls : Int32) (cau : Int32) (whe : Int32) (cnt : Nat) (p : Nat) (fau : Int32) (isw : Int32) (ods : Int32) (tx : Nat → Int32) (nu : Nat → Int32) (u : Nat) (hc : cnt ≤ 120) (hp : p ≤ cnt) (hu : u < 72) (hk : ¬ nmOk false tx cnt p) : Ct l g yX8_number cX8_number 6 (some .boolean) (xR 2 42) [.ref (o 0), .int 0, .int (nI u)] [(o 0, .inr (8, [.ref (o 1), .ref (o 2), .int (nI hs), .int bads, .int nos, .int fuls, .int cau, .int whe, .ref (o 3), .ref (o 4), .int (nI cnt), .int (nI p), .int fau, .int isw, .int ods, .ref (o 5), .ref (o 6)])), (o 4, .inl (g.2.1, 120, .inl tx)), (o 6, .inl (g.2.1, 72, .inl nu))] (is1 (some (.int 0)) [(o 0, .inr (8, [.ref (o 1), .ref (o 2), .int (nI hs), .int bads, .int nos, .int fuls, .int cau, .int whe, .ref (o 3), .ref (o 4), .int (nI cnt), .int (nI ((nmD false tx cnt p).2)), .int (nI (nmD false tx cnt p).2), .int isw, .int ods, .ref (o 5), .ref (o 6)])), (o 4, .inl (g.2.1, 120, .inl tx)), (o 6, .inl (g.2.1, 72, .inl nu))]) := by
  have h1 := c_X8_number_0 l g o hs bads nos fuls cau whe cnt p fau isw ods tx nu u hc hp hu
  simp only [if_neg hk, bI_f hk] at h1
  exact h1

theorem c_X8_number_1ok (l : Launch) (g : xCfg) (o : Nat → Nat) (hs : Nat) (bads : Int32) (nos : Int32) (fuls : Int32) (cau : Int32) (whe : Int32) (cnt : Nat) (p : Nat) (fau : Int32) (isw : Int32) (ods : Int32) (tx : Nat → Int32) (nu : Nat → Int32) (u : Nat) (hc : cnt ≤ 120) (hp : p ≤ cnt) (hu : u < 72) (hk : nmOk true tx cnt p) : Ct l g yX8_number cX8_number 6 (some .boolean) (xR 2 42) [.ref (o 0), .int 1, .int (nI u)] [(o 0, .inr (8, [.ref (o 1), .ref (o 2), .int (nI hs), .int bads, .int nos, .int fuls, .int cau, .int whe, .ref (o 3), .ref (o 4), .int (nI cnt), .int (nI p), .int fau, .int isw, .int ods, .ref (o 5), .ref (o 6)])), (o 4, .inl (g.2.1, 120, .inl tx)), (o 6, .inl (g.2.1, 72, .inl nu))] (is1 (some (.int 1)) [(o 0, .inr (8, [.ref (o 1), .ref (o 2), .int (nI hs), .int bads, .int nos, .int fuls, .int cau, .int whe, .ref (o 3), .ref (o 4), .int (nI cnt), .int (nI ((nmD true tx cnt p).2)), .int fau, .int isw, .int ods, .ref (o 5), .ref (o 6)])), (o 4, .inl (g.2.1, 120, .inl tx)), (o 6, .inl (g.2.1, 72, .inl (upd nu u (nmV true tx cnt p))))]) := by
  have h1 := c_X8_number_1 l g o hs bads nos fuls cau whe cnt p fau isw ods tx nu u hc hp hu
  simp only [if_pos hk, bI_t hk] at h1
  exact h1

theorem c_X8_number_1no (l : Launch) (g : xCfg) (o : Nat → Nat) (hs : Nat) (bads : Int32) (nos : Int32) (fuls : Int32) (cau : Int32) (whe : Int32) (cnt : Nat) (p : Nat) (fau : Int32) (isw : Int32) (ods : Int32) (tx : Nat → Int32) (nu : Nat → Int32) (u : Nat) (hc : cnt ≤ 120) (hp : p ≤ cnt) (hu : u < 72) (hk : ¬ nmOk true tx cnt p) : Ct l g yX8_number cX8_number 6 (some .boolean) (xR 2 42) [.ref (o 0), .int 1, .int (nI u)] [(o 0, .inr (8, [.ref (o 1), .ref (o 2), .int (nI hs), .int bads, .int nos, .int fuls, .int cau, .int whe, .ref (o 3), .ref (o 4), .int (nI cnt), .int (nI p), .int fau, .int isw, .int ods, .ref (o 5), .ref (o 6)])), (o 4, .inl (g.2.1, 120, .inl tx)), (o 6, .inl (g.2.1, 72, .inl nu))] (is1 (some (.int 0)) [(o 0, .inr (8, [.ref (o 1), .ref (o 2), .int (nI hs), .int bads, .int nos, .int fuls, .int cau, .int whe, .ref (o 3), .ref (o 4), .int (nI cnt), .int (nI ((nmD true tx cnt p).2)), .int (nI (nmD true tx cnt p).2), .int isw, .int ods, .ref (o 5), .ref (o 6)])), (o 4, .inl (g.2.1, 120, .inl tx)), (o 6, .inl (g.2.1, 72, .inl nu))]) := by
  have h1 := c_X8_number_1 l g o hs bads nos fuls cau whe cnt p fau isw ods tx nu u hc hp hu
  simp only [if_neg hk, bI_f hk] at h1
  exact h1

set_option maxRecDepth 100000 in
set_option maxHeartbeats 4000000 in
theorem c_X8_order (l : Launch) (g : xCfg) (o : Nat → Nat) (hs : Nat) (bads : Int32) (nos : Int32) (fuls : Int32) (cau : Int32) (whe : Int32) (cnt : Nat) (p : Nat) (fau : Int32) (isw : Int32) (tx : Nat → Int32) (wo : Nat → Int32) (nu : Nat → Int32) (k : Nat) (hc : cnt ≤ 120) (hp : p ≤ cnt) (hk : k < 24) : Ct l g yX8_order cX8_order 6 (some .boolean) (xR 3 67) [.ref (o 0)] [(o 0, .inr (8, [.ref (o 1), .ref (o 2), .int (nI hs), .int bads, .int nos, .int fuls, .int cau, .int whe, .ref (o 3), .ref (o 4), .int (nI cnt), .int (nI p), .int fau, .int isw, .int (nI k), .ref (o 5), .ref (o 6)])), (o 4, .inl (g.2.1, 120, .inl tx)), (o 5, .inl (g.2.1, 24, .inl wo)), (o 6, .inl (g.2.1, 72, .inl nu))] (is1 (some (.int (bI ((orR tx cnt k p wo nu fau isw).1 = true)))) [(o 0, .inr (8, [.ref (o 1), .ref (o 2), .int (nI hs), .int bads, .int nos, .int fuls, .int cau, .int whe, .ref (o 3), .ref (o 4), .int (nI cnt), .int (nI ((orR tx cnt k p wo nu fau isw).2.1)), .int ((orR tx cnt k p wo nu fau isw).2.2.2.2.1), .int ((orR tx cnt k p wo nu fau isw).2.2.2.2.2.1), .int (nI ((orR tx cnt k p wo nu fau isw).2.2.2.2.2.2)), .ref (o 5), .ref (o 6)])), (o 4, .inl (g.2.1, 120, .inl tx)), (o 5, .inl (g.2.1, 24, .inl ((orR tx cnt k p wo nu fau isw).2.2.1))), (o 6, .inl (g.2.1, 72, .inl ((orR tx cnt k p wo nu fau isw).2.2.2.1)))]) := by
  refine Ct.walk (by decide) (Nat.le_of_ble_eq_true rfl) ?_
  intro p0 e0 s0 m0 below meth c0 A0 ls Q hQ E hr hnm hw hl
  have hx := E.x
  have hb := E.b
  have hl : lv_has ls 6 [(0, .ref (o 0))] := hl
  refine lv_aload_n hx hb dX8_order_0 rfl (lv_at hl 0 rfl) ?_
  refine x_get E hw kf_X8_149 0 rfl rfl dX8_order_1 ?_
  refine lv_istore_n (lv' := [(1, .int (nI p)), (0, .ref (o 0))]) hx hb dX8_order_4 rfl hl (by decide) rfl (fun ls hl => ?_)
  have lp_5 : ∀ (fuel : Nat) (x : Nat), cnt - x < fuel → x ≤ cnt → skL tx (cnt - x) x = skL tx (cnt - p) p → ∀ (H : Heap) (locs : List Loc) (ls : Array Slot), xW g A0 s0 [(o 0, .inr (8, [.ref (o 1), .ref (o 2), .int (nI hs), .int bads, .int nos, .int fuls, .int cau, .int whe, .ref (o 3), .ref (o 4), .int (nI cnt), .int (nI x), .int fau, .int isw, .int (nI k), .ref (o 5), .ref (o 6)])), (o 4, .inl (g.2.1, 120, .inl tx)), (o 5, .inl (g.2.1, 24, .inl wo)), (o 6, .inl (g.2.1, 72, .inl nu))] H locs → lv_has ls 6 [(1, .int (nI p)), (0, .ref (o 0))] → W p0 l e0 (xR 3 67) s0 m0 [.ref (o 0)].toArray below meth c0 H locs 0 0 Q (F0 m0 5 ls []) := by
    intro fuel
    induction fuel with
    | zero => intro x hm; exact absurd hm (Nat.not_lt_zero _)
    | succ fuel ih =>
      intro x hm hxc hv H locs ls hw hl
      refine lv_aload_n hx hb dX8_order_5 rfl (lv_at hl 1 rfl) ?_
      refine x_goR (st1 := [.int (hrF tx cnt x)]) E hw [0, 1] rfl (x_runV (rest := []) E hw (c_X8_here l g o hs bads nos fuls cau whe cnt x fau isw (nI k) tx (by omega) hxc) km_X8_152 kv_X8_here [0, 1] rfl (by decide) 0 rfl hl.1 rfl rfl (Nat.le_of_ble_eq_true rfl) ⟨Nat.le_of_ble_eq_true rfl, Nat.le_of_ble_eq_true rfl⟩ ⟨Nat.zero_le _, Nat.zero_le _⟩ dX8_order_6) rfl (fun H locs hw => ?_)
      refine lv_bipush (v := 97) hx hb dX8_order_9 (by decide) ?_
      refine lv_bipush (v := 122) hx hb dX8_order_11 (by decide) ?_
      refine x_goR (st1 := [.int (bI (97 ≤ (hrF tx cnt x) ∧ (hrF tx cnt x) ≤ 122))]) E hw [] rfl (x_runS (rest := []) E hw (c_X8_in l g (hrF tx cnt x) 97 122 ) km_X8_45 ks_X8_in [] rfl (by decide) hl.1 rfl rfl (Nat.le_of_ble_eq_true rfl) ⟨Nat.le_of_ble_eq_true rfl, Nat.le_of_ble_eq_true rfl⟩ ⟨Nat.zero_le _, Nat.zero_le _⟩ dX8_order_13) rfl (fun H locs hw => ?_)
      refine xb_eq (tgt := 32) hx hb dX8_order_16 (by decide) (fun cl => ?_) (fun cl => ?_)
      · obtain rfl : x = skL tx (cnt - p) p := by rw [← hv]; exact (skL_no cl).symm
        refine lv_aload_n hx hb dX8_order_32 rfl (lv_at hl 1 rfl) ?_
        refine x_get E hw kf_X8_149 0 rfl rfl dX8_order_33 ?_
        refine lv_iload_n hx hb dX8_order_36 rfl (lv_at hl 0 rfl) ?_
        refine xn_ne (tgt := 45) hx hb (skL tx (cnt - p) p) p rfl rfl (by have := skL_le (tx := tx) hp; omega) (by omega) dX8_order_37 (by decide) (fun c0 => ?_) (fun c0 => ?_)
        · refine lv_aload_n hx hb dX8_order_45 rfl (lv_at hl 1 rfl) ?_
          refine lv_iload_n hx hb dX8_order_46 rfl (lv_at hl 0 rfl) ?_
          refine x_goR (st1 := [.int (wdR tx p (skL tx (cnt - p) p))]) E hw [0, 1] rfl (x_runV (rest := []) E hw (c_X8_wordFrom l g o hs bads nos fuls cau whe cnt (skL tx (cnt - p) p) fau isw (nI k) tx p ((skL_ge tx _ _).1) (Nat.le_trans (skL_le (tx := tx) hp) hc)) km_X8_172 kv_X8_wordFrom [0, 1] rfl (by decide) 0 rfl hl.1 rfl rfl (Nat.le_of_ble_eq_true rfl) ⟨Nat.le_of_ble_eq_true rfl, Nat.le_of_ble_eq_true rfl⟩ ⟨Nat.zero_le _, Nat.zero_le _⟩ dX8_order_47) rfl (fun H locs hw => ?_)
          refine lv_istore_n (lv' := [(2, .int (wdR tx p (skL tx (cnt - p) p))), (1, .int (nI p)), (0, .ref (o 0))]) hx hb dX8_order_50 rfl hl (by decide) rfl (fun ls hl => ?_)
          refine lv_iload_n hx hb dX8_order_51 rfl (lv_at hl 0 rfl) ?_
          refine lv_iconst (v := -1) hx hb dX8_order_52 (by decide) ?_
          refine lv_icmp_ne (tgt := 68) hx hb dX8_order_53 (by decide) (fun c1 => ?_) (fun c1 => ?_)
          · refine lv_iload_n hx hb dX8_order_68 rfl (lv_at hl 0 rfl) ?_
            refine lv_iconst (v := 1) hx hb dX8_order_69 (by decide) ?_
            refine lv_icmp_eq (tgt := 78) hx hb dX8_order_70 (by decide) (fun c2 => ?_) (fun c2 => ?_)
            · have hl : lv_has ls 6 [(2, .int 1), (1, .int (nI p)), (0, .ref (o 0))] := lv_re hl (by rw [show (wdR tx p (skL tx (cnt - p) p) : Int32) = 1 from c2])
              refine lv_iconst (v := 3) hx hb dX8_order_78 (by decide) ?_
              refine lv_goto (tgt := 83) hx hb dX8_order_79 (by decide) ?_
              refine lv_istore_n (lv' := [(3, .int 3), (2, .int 1), (1, .int (nI p)), (0, .ref (o 0))]) hx hb dX8_order_83 rfl hl (by decide) rfl (fun ls hl => ?_)
              refine lv_iconst (v := 1) hx hb dX8_order_84 (by decide) ?_
              refine lv_istore (lv' := [(4, .int 1), (3, .int 3), (2, .int 1), (1, .int (nI p)), (0, .ref (o 0))]) hx hb dX8_order_85 hl (by decide) rfl (fun ls hl => ?_)
              refine lv_iconst (v := 0) hx hb dX8_order_87 (by decide) ?_
              refine lv_istore (lv' := [(5, .int 0), (4, .int 1), (3, .int 3), (2, .int 1), (1, .int (nI p)), (0, .ref (o 0))]) hx hb dX8_order_88 hl (by decide) rfl (fun ls hl => ?_)
              refine lv_iload hx hb dX8_order_90 (lv_at hl 0 rfl) ?_
              refine lv_iload_n hx hb dX8_order_92 rfl (lv_at hl 2 rfl) ?_
              refine lv_icmp_ge (tgt := 138) hx hb dX8_order_93 (by decide) (fun h => absurd h (by decide)) (fun _ => ?_)
              refine lv_iload hx hb dX8_order_96 (lv_at hl 1 rfl) ?_
              refine lv_if_eq (tgt := 138) hx hb dX8_order_98 (by decide) (fun h => absurd h (by decide)) (fun _ => ?_)
              refine lv_aload_n hx hb dX8_order_101 rfl (lv_at hl 5 rfl) ?_
              refine lv_iload_n hx hb dX8_order_102 rfl (lv_at hl 3 rfl) ?_
              refine lv_iconst (v := 2) hx hb dX8_order_103 (by decide) ?_
              refine lv_icmp_ne (tgt := 117) hx hb dX8_order_104 (by decide) (fun _ => ?_) (fun h => absurd h (by decide))
              refine lv_iconst (v := 0) hx hb dX8_order_117 (by decide) ?_
              refine lv_iconst (v := 3) hx hb dX8_order_118 (by decide) ?_
              refine lv_aload_n hx hb dX8_order_119 rfl (lv_at hl 5 rfl) ?_
              refine x_get E hw kf_X8_179 0 rfl rfl dX8_order_120 ?_
              refine xn_mul hx hb 3 k rfl rfl dX8_order_123 ?_
              refine lv_iload hx hb dX8_order_124 (lv_at hl 0 rfl) ?_
              refine xn_add hx hb (3 * k) 0 rfl rfl dX8_order_126 ?_
              refine x_topi (x' := nI (3 * k)) rfl ?_
              by_cases hn_3 : nmOk false tx cnt (skL tx (cnt - p) p)
              · refine x_go (ws' := [(o 0, .inr (8, [.ref (o 1), .ref (o 2), .int (nI hs), .int bads, .int nos, .int fuls, .int cau, .int whe, .ref (o 3), .ref (o 4), .int (nI cnt), .int (nI ((nmD false tx cnt (skL tx (cnt - p) p)).2)), .int fau, .int isw, .int (nI k), .ref (o 5), .ref (o 6)])), (o 4, .inl (g.2.1, 120, .inl tx)), (o 5, .inl (g.2.1, 24, .inl wo)), (o 6, .inl (g.2.1, 72, .inl (upd nu (3 * k) (nmV false tx cnt (skL tx (cnt - p) p)))))]) (st1 := [.int 1]) E hw [0, 1, 3] rfl (x_runV (rest := []) E hw (c_X8_number_0ok l g o hs bads nos fuls cau whe cnt (skL tx (cnt - p) p) fau isw (nI k) tx nu (3 * k) (by omega) (skL_le hp) (by omega) hn_3) km_X8_182 kv_X8_number [0, 1, 3] rfl (by decide) 0 rfl hl.1 rfl rfl (Nat.le_of_ble_eq_true rfl) ⟨Nat.le_of_ble_eq_true rfl, Nat.le_of_ble_eq_true rfl⟩ ⟨Nat.zero_le _, Nat.zero_le _⟩ dX8_order_127) rfl rfl rfl (fun H locs hw => ?_)
                refine lv_istore (lv' := [(4, .int 1), (5, .int 0), (3, .int 3), (2, .int 1), (1, .int (nI p)), (0, .ref (o 0))]) hx hb dX8_order_130 hl (by decide) rfl (fun ls hl => ?_)
                refine lv_iinc (v := 1) (lv' := [(5, .int 1), (4, .int 1), (3, .int 3), (2, .int 1), (1, .int (nI p)), (0, .ref (o 0))]) hx hb dX8_order_132 hl (k := 1) rfl (by decide) (by decide) rfl (fun ls hl => ?_)
                refine lv_goto (tgt := 90) hx hb dX8_order_135 (by decide) ?_
                refine lv_iload hx hb dX8_order_90 (lv_at hl 0 rfl) ?_
                refine lv_iload_n hx hb dX8_order_92 rfl (lv_at hl 2 rfl) ?_
                refine lv_icmp_ge (tgt := 138) hx hb dX8_order_93 (by decide) (fun h => absurd h (by decide)) (fun _ => ?_)
                refine lv_iload hx hb dX8_order_96 (lv_at hl 1 rfl) ?_
                refine lv_if_eq (tgt := 138) hx hb dX8_order_98 (by decide) (fun h => absurd h (by decide)) (fun _ => ?_)
                refine lv_aload_n hx hb dX8_order_101 rfl (lv_at hl 5 rfl) ?_
                refine lv_iload_n hx hb dX8_order_102 rfl (lv_at hl 3 rfl) ?_
                refine lv_iconst (v := 2) hx hb dX8_order_103 (by decide) ?_
                refine lv_icmp_ne (tgt := 117) hx hb dX8_order_104 (by decide) (fun _ => ?_) (fun h => absurd h (by decide))
                refine lv_iconst (v := 0) hx hb dX8_order_117 (by decide) ?_
                refine lv_iconst (v := 3) hx hb dX8_order_118 (by decide) ?_
                refine lv_aload_n hx hb dX8_order_119 rfl (lv_at hl 5 rfl) ?_
                refine x_get E hw kf_X8_179 0 rfl rfl dX8_order_120 ?_
                refine xn_mul hx hb 3 k rfl rfl dX8_order_123 ?_
                refine lv_iload hx hb dX8_order_124 (lv_at hl 0 rfl) ?_
                refine xn_add hx hb (3 * k) 1 rfl rfl dX8_order_126 ?_
                by_cases hn_6 : nmOk false tx cnt ((nmD false tx cnt (skL tx (cnt - p) p)).2)
                · refine x_go (ws' := [(o 0, .inr (8, [.ref (o 1), .ref (o 2), .int (nI hs), .int bads, .int nos, .int fuls, .int cau, .int whe, .ref (o 3), .ref (o 4), .int (nI cnt), .int (nI ((nmD false tx cnt ((nmD false tx cnt (skL tx (cnt - p) p)).2)).2)), .int fau, .int isw, .int (nI k), .ref (o 5), .ref (o 6)])), (o 4, .inl (g.2.1, 120, .inl tx)), (o 5, .inl (g.2.1, 24, .inl wo)), (o 6, .inl (g.2.1, 72, .inl (upd (upd nu (3 * k) (nmV false tx cnt (skL tx (cnt - p) p))) (3 * k + 1) (nmV false tx cnt ((nmD false tx cnt (skL tx (cnt - p) p)).2)))))]) (st1 := [.int 1]) E hw [0, 1, 3] rfl (x_runV (rest := []) E hw (c_X8_number_0ok l g o hs bads nos fuls cau whe cnt ((nmD false tx cnt (skL tx (cnt - p) p)).2) fau isw (nI k) tx (upd nu (3 * k) (nmV false tx cnt (skL tx (cnt - p) p))) (3 * k + 1) (by omega) (nmD_le (skL_le hp)).2 (by omega) hn_6) km_X8_182 kv_X8_number [0, 1, 3] rfl (by decide) 0 rfl hl.1 rfl rfl (Nat.le_of_ble_eq_true rfl) ⟨Nat.le_of_ble_eq_true rfl, Nat.le_of_ble_eq_true rfl⟩ ⟨Nat.zero_le _, Nat.zero_le _⟩ dX8_order_127) rfl rfl rfl (fun H locs hw => ?_)
                  refine lv_istore (lv' := [(4, .int 1), (5, .int 1), (3, .int 3), (2, .int 1), (1, .int (nI p)), (0, .ref (o 0))]) hx hb dX8_order_130 hl (by decide) rfl (fun ls hl => ?_)
                  refine lv_iinc (v := 2) (lv' := [(5, .int 2), (4, .int 1), (3, .int 3), (2, .int 1), (1, .int (nI p)), (0, .ref (o 0))]) hx hb dX8_order_132 hl (k := 1) rfl (by decide) (by decide) rfl (fun ls hl => ?_)
                  refine lv_goto (tgt := 90) hx hb dX8_order_135 (by decide) ?_
                  refine lv_iload hx hb dX8_order_90 (lv_at hl 0 rfl) ?_
                  refine lv_iload_n hx hb dX8_order_92 rfl (lv_at hl 2 rfl) ?_
                  refine lv_icmp_ge (tgt := 138) hx hb dX8_order_93 (by decide) (fun h => absurd h (by decide)) (fun _ => ?_)
                  refine lv_iload hx hb dX8_order_96 (lv_at hl 1 rfl) ?_
                  refine lv_if_eq (tgt := 138) hx hb dX8_order_98 (by decide) (fun h => absurd h (by decide)) (fun _ => ?_)
                  refine lv_aload_n hx hb dX8_order_101 rfl (lv_at hl 5 rfl) ?_
                  refine lv_iload_n hx hb dX8_order_102 rfl (lv_at hl 3 rfl) ?_
                  refine lv_iconst (v := 2) hx hb dX8_order_103 (by decide) ?_
                  refine lv_icmp_ne (tgt := 117) hx hb dX8_order_104 (by decide) (fun _ => ?_) (fun h => absurd h (by decide))
                  refine lv_iconst (v := 0) hx hb dX8_order_117 (by decide) ?_
                  refine lv_iconst (v := 3) hx hb dX8_order_118 (by decide) ?_
                  refine lv_aload_n hx hb dX8_order_119 rfl (lv_at hl 5 rfl) ?_
                  refine x_get E hw kf_X8_179 0 rfl rfl dX8_order_120 ?_
                  refine xn_mul hx hb 3 k rfl rfl dX8_order_123 ?_
                  refine lv_iload hx hb dX8_order_124 (lv_at hl 0 rfl) ?_
                  refine xn_add hx hb (3 * k) 2 rfl rfl dX8_order_126 ?_
                  by_cases hn_9 : nmOk false tx cnt ((nmD false tx cnt ((nmD false tx cnt (skL tx (cnt - p) p)).2)).2)
                  · refine x_go (ws' := [(o 0, .inr (8, [.ref (o 1), .ref (o 2), .int (nI hs), .int bads, .int nos, .int fuls, .int cau, .int whe, .ref (o 3), .ref (o 4), .int (nI cnt), .int (nI ((nmD false tx cnt ((nmD false tx cnt ((nmD false tx cnt (skL tx (cnt - p) p)).2)).2)).2)), .int fau, .int isw, .int (nI k), .ref (o 5), .ref (o 6)])), (o 4, .inl (g.2.1, 120, .inl tx)), (o 5, .inl (g.2.1, 24, .inl wo)), (o 6, .inl (g.2.1, 72, .inl (upd (upd (upd nu (3 * k) (nmV false tx cnt (skL tx (cnt - p) p))) (3 * k + 1) (nmV false tx cnt ((nmD false tx cnt (skL tx (cnt - p) p)).2))) (3 * k + 2) (nmV false tx cnt ((nmD false tx cnt ((nmD false tx cnt (skL tx (cnt - p) p)).2)).2)))))]) (st1 := [.int 1]) E hw [0, 1, 3] rfl (x_runV (rest := []) E hw (c_X8_number_0ok l g o hs bads nos fuls cau whe cnt ((nmD false tx cnt ((nmD false tx cnt (skL tx (cnt - p) p)).2)).2) fau isw (nI k) tx (upd (upd nu (3 * k) (nmV false tx cnt (skL tx (cnt - p) p))) (3 * k + 1) (nmV false tx cnt ((nmD false tx cnt (skL tx (cnt - p) p)).2))) (3 * k + 2) (by omega) (nmD_le (nmD_le (skL_le hp)).2).2 (by omega) hn_9) km_X8_182 kv_X8_number [0, 1, 3] rfl (by decide) 0 rfl hl.1 rfl rfl (Nat.le_of_ble_eq_true rfl) ⟨Nat.le_of_ble_eq_true rfl, Nat.le_of_ble_eq_true rfl⟩ ⟨Nat.zero_le _, Nat.zero_le _⟩ dX8_order_127) rfl rfl rfl (fun H locs hw => ?_)
                    refine lv_istore (lv' := [(4, .int 1), (5, .int 2), (3, .int 3), (2, .int 1), (1, .int (nI p)), (0, .ref (o 0))]) hx hb dX8_order_130 hl (by decide) rfl (fun ls hl => ?_)
                    refine lv_iinc (v := 3) (lv' := [(5, .int 3), (4, .int 1), (3, .int 3), (2, .int 1), (1, .int (nI p)), (0, .ref (o 0))]) hx hb dX8_order_132 hl (k := 1) rfl (by decide) (by decide) rfl (fun ls hl => ?_)
                    refine lv_goto (tgt := 90) hx hb dX8_order_135 (by decide) ?_
                    refine lv_iload hx hb dX8_order_90 (lv_at hl 0 rfl) ?_
                    refine lv_iload_n hx hb dX8_order_92 rfl (lv_at hl 2 rfl) ?_
                    refine lv_icmp_ge (tgt := 138) hx hb dX8_order_93 (by decide) (fun _ => ?_) (fun h => absurd h (by decide))
                    refine lv_iload hx hb dX8_order_138 (lv_at hl 1 rfl) ?_
                    refine lv_if_ne (tgt := 145) hx hb dX8_order_140 (by decide) (fun _ => ?_) (fun h => absurd h (by decide))
                    refine lv_aload_n hx hb dX8_order_145 rfl (lv_at hl 5 rfl) ?_
                    refine x_go (ws' := [(o 0, .inr (8, [.ref (o 1), .ref (o 2), .int (nI hs), .int bads, .int nos, .int fuls, .int cau, .int whe, .ref (o 3), .ref (o 4), .int (nI cnt), .int (nI (skB tx (cnt - ((nmD false tx cnt ((nmD false tx cnt ((nmD false tx cnt (skL tx (cnt - p) p)).2)).2)).2)) ((nmD false tx cnt ((nmD false tx cnt ((nmD false tx cnt (skL tx (cnt - p) p)).2)).2)).2))), .int fau, .int isw, .int (nI k), .ref (o 5), .ref (o 6)])), (o 4, .inl (g.2.1, 120, .inl tx)), (o 5, .inl (g.2.1, 24, .inl wo)), (o 6, .inl (g.2.1, 72, .inl (upd (upd (upd nu (3 * k) (nmV false tx cnt (skL tx (cnt - p) p))) (3 * k + 1) (nmV false tx cnt ((nmD false tx cnt (skL tx (cnt - p) p)).2))) (3 * k + 2) (nmV false tx cnt ((nmD false tx cnt ((nmD false tx cnt (skL tx (cnt - p) p)).2)).2)))))]) (st1 := []) E hw [0, 1] rfl (x_runV (rest := []) E hw (c_X8_skips l g o hs bads nos fuls cau whe cnt ((nmD false tx cnt ((nmD false tx cnt ((nmD false tx cnt (skL tx (cnt - p) p)).2)).2)).2) fau isw (nI k) tx (by omega) (nmD_le (nmD_le (nmD_le (skL_le hp)).2).2).2) km_X8_162 kv_X8_skips [0, 1] rfl (by decide) 0 rfl hl.1 rfl rfl (Nat.le_of_ble_eq_true rfl) ⟨Nat.le_of_ble_eq_true rfl, Nat.le_of_ble_eq_true rfl⟩ ⟨Nat.zero_le _, Nat.zero_le _⟩ dX8_order_146) rfl rfl rfl (fun H locs hw => ?_)
                    refine lv_aload_n hx hb dX8_order_149 rfl (lv_at hl 5 rfl) ?_
                    refine x_goR (st1 := [.int (hrF tx cnt (skB tx (cnt - ((nmD false tx cnt ((nmD false tx cnt ((nmD false tx cnt (skL tx (cnt - p) p)).2)).2)).2)) ((nmD false tx cnt ((nmD false tx cnt ((nmD false tx cnt (skL tx (cnt - p) p)).2)).2)).2)))]) E hw [0, 1] rfl (x_runV (rest := []) E hw (c_X8_here l g o hs bads nos fuls cau whe cnt (skB tx (cnt - ((nmD false tx cnt ((nmD false tx cnt ((nmD false tx cnt (skL tx (cnt - p) p)).2)).2)).2)) ((nmD false tx cnt ((nmD false tx cnt ((nmD false tx cnt (skL tx (cnt - p) p)).2)).2)).2)) fau isw (nI k) tx (by omega) (skB_le (nmD_le (nmD_le (nmD_le (skL_le hp)).2).2).2)) km_X8_152 kv_X8_here [0, 1] rfl (by decide) 0 rfl hl.1 rfl rfl (Nat.le_of_ble_eq_true rfl) ⟨Nat.le_of_ble_eq_true rfl, Nat.le_of_ble_eq_true rfl⟩ ⟨Nat.zero_le _, Nat.zero_le _⟩ dX8_order_150) rfl (fun H locs hw => ?_)
                    refine lv_bipush (v := 59) hx hb dX8_order_153 (by decide) ?_
                    refine lv_icmp_eq (tgt := 163) hx hb dX8_order_155 (by decide) (fun c6 => ?_) (fun c6 => ?_)
                    · refine lv_aload_n hx hb dX8_order_163 rfl (lv_at hl 5 rfl) ?_
                      refine lv_dup hx hb dX8_order_164 rfl ?_
                      refine x_get E hw kf_X8_149 0 rfl rfl dX8_order_165 ?_
                      refine lv_iconst (v := 1) hx hb dX8_order_168 (by decide) ?_
                      refine xn_add hx hb (skB tx (cnt - ((nmD false tx cnt ((nmD false tx cnt ((nmD false tx cnt (skL tx (cnt - p) p)).2)).2)).2)) ((nmD false tx cnt ((nmD false tx cnt ((nmD false tx cnt (skL tx (cnt - p) p)).2)).2)).2)) 1 rfl rfl dX8_order_169 ?_
                      refine x_put E hw kf_X8_149 kp_X8_11 0 rfl (ty := .int) (by decide +kernel) rfl rfl (by simp) (ws' := [(o 0, .inr (8, [.ref (o 1), .ref (o 2), .int (nI hs), .int bads, .int nos, .int fuls, .int cau, .int whe, .ref (o 3), .ref (o 4), .int (nI cnt), .int (nI (skB tx (cnt - ((nmD false tx cnt ((nmD false tx cnt ((nmD false tx cnt (skL tx (cnt - p) p)).2)).2)).2)) ((nmD false tx cnt ((nmD false tx cnt ((nmD false tx cnt (skL tx (cnt - p) p)).2)).2)).2) + 1)), .int fau, .int isw, .int (nI k), .ref (o 5), .ref (o 6)])), (o 4, .inl (g.2.1, 120, .inl tx)), (o 5, .inl (g.2.1, 24, .inl wo)), (o 6, .inl (g.2.1, 72, .inl (upd (upd (upd nu (3 * k) (nmV false tx cnt (skL tx (cnt - p) p))) (3 * k + 1) (nmV false tx cnt ((nmD false tx cnt (skL tx (cnt - p) p)).2))) (3 * k + 2) (nmV false tx cnt ((nmD false tx cnt ((nmD false tx cnt (skL tx (cnt - p) p)).2)).2)))))]) rfl dX8_order_170 (fun H locs hw => ?_)
                      refine lv_aload_n hx hb dX8_order_173 rfl (lv_at hl 5 rfl) ?_
                      refine x_get E hw kf_X8_26 0 rfl rfl dX8_order_174 ?_
                      refine lv_aload_n hx hb dX8_order_177 rfl (lv_at hl 5 rfl) ?_
                      refine x_get E hw kf_X8_179 0 rfl rfl dX8_order_178 ?_
                      refine lv_iload_n hx hb dX8_order_181 rfl (lv_at hl 3 rfl) ?_
                      refine x_ist E hw 2 rfl k rfl (by omega) (by decide) (ws' := [(o 0, .inr (8, [.ref (o 1), .ref (o 2), .int (nI hs), .int bads, .int nos, .int fuls, .int cau, .int whe, .ref (o 3), .ref (o 4), .int (nI cnt), .int (nI (skB tx (cnt - ((nmD false tx cnt ((nmD false tx cnt ((nmD false tx cnt (skL tx (cnt - p) p)).2)).2)).2)) ((nmD false tx cnt ((nmD false tx cnt ((nmD false tx cnt (skL tx (cnt - p) p)).2)).2)).2) + 1)), .int fau, .int isw, .int (nI k), .ref (o 5), .ref (o 6)])), (o 4, .inl (g.2.1, 120, .inl tx)), (o 5, .inl (g.2.1, 24, .inl (upd wo k 1))), (o 6, .inl (g.2.1, 72, .inl (upd (upd (upd nu (3 * k) (nmV false tx cnt (skL tx (cnt - p) p))) (3 * k + 1) (nmV false tx cnt ((nmD false tx cnt (skL tx (cnt - p) p)).2))) (3 * k + 2) (nmV false tx cnt ((nmD false tx cnt ((nmD false tx cnt (skL tx (cnt - p) p)).2)).2)))))]) rfl dX8_order_182 (fun H locs hw => ?_)
                      refine lv_aload_n hx hb dX8_order_183 rfl (lv_at hl 5 rfl) ?_
                      refine lv_dup hx hb dX8_order_184 rfl ?_
                      refine x_get E hw kf_X8_179 0 rfl rfl dX8_order_185 ?_
                      refine lv_iconst (v := 1) hx hb dX8_order_188 (by decide) ?_
                      refine xn_add hx hb k 1 rfl rfl dX8_order_189 ?_
                      refine x_put E hw kf_X8_179 kp_X8_14 0 rfl (ty := .int) (by decide +kernel) rfl rfl (by simp) (ws' := [(o 0, .inr (8, [.ref (o 1), .ref (o 2), .int (nI hs), .int bads, .int nos, .int fuls, .int cau, .int whe, .ref (o 3), .ref (o 4), .int (nI cnt), .int (nI (skB tx (cnt - ((nmD false tx cnt ((nmD false tx cnt ((nmD false tx cnt (skL tx (cnt - p) p)).2)).2)).2)) ((nmD false tx cnt ((nmD false tx cnt ((nmD false tx cnt (skL tx (cnt - p) p)).2)).2)).2) + 1)), .int fau, .int isw, .int (nI (k + 1)), .ref (o 5), .ref (o 6)])), (o 4, .inl (g.2.1, 120, .inl tx)), (o 5, .inl (g.2.1, 24, .inl (upd wo k 1))), (o 6, .inl (g.2.1, 72, .inl (upd (upd (upd nu (3 * k) (nmV false tx cnt (skL tx (cnt - p) p))) (3 * k + 1) (nmV false tx cnt ((nmD false tx cnt (skL tx (cnt - p) p)).2))) (3 * k + 2) (nmV false tx cnt ((nmD false tx cnt ((nmD false tx cnt (skL tx (cnt - p) p)).2)).2)))))]) rfl dX8_order_190 (fun H locs hw => ?_)
                      refine lv_iconst (v := 1) hx hb dX8_order_193 (by decide) ?_
                      have ho : orR tx cnt k p wo nu fau isw = (true, skB tx (cnt - ((nmD false tx cnt ((nmD false tx cnt ((nmD false tx cnt (skL tx (cnt - p) p)).2)).2)).2)) ((nmD false tx cnt ((nmD false tx cnt ((nmD false tx cnt (skL tx (cnt - p) p)).2)).2)).2) + 1, upd wo k 1, upd (upd (upd nu (3 * k) (nmV false tx cnt (skL tx (cnt - p) p))) (3 * k + 1) (nmV false tx cnt ((nmD false tx cnt (skL tx (cnt - p) p)).2))) (3 * k + 2) (nmV false tx cnt ((nmD false tx cnt ((nmD false tx cnt (skL tx (cnt - p) p)).2)).2)), fau, isw, k + 1) := by simp only [orR, or3, or3b, or3c, or1, orE, if_neg cl, if_neg c0, if_neg c1, if_pos c2, if_pos hn_3, if_pos hn_6, if_pos hn_9, if_pos c6]; rw [c2]
                      exact xr_z hQ E hr hw dX8_order_194 (by decide) ⟨congrArg (fun z => some (Value.int z)) ((by rw [ho]; rfl)), (by rw [ho] <;> rfl)⟩
                    · refine lv_aload_n hx hb dX8_order_158 rfl (lv_at hl 5 rfl) ?_
                      refine x_go (ws' := [(o 0, .inr (8, [.ref (o 1), .ref (o 2), .int (nI hs), .int bads, .int nos, .int fuls, .int cau, .int whe, .ref (o 3), .ref (o 4), .int (nI cnt), .int (nI (skB tx (cnt - ((nmD false tx cnt ((nmD false tx cnt ((nmD false tx cnt (skL tx (cnt - p) p)).2)).2)).2)) ((nmD false tx cnt ((nmD false tx cnt ((nmD false tx cnt (skL tx (cnt - p) p)).2)).2)).2))), .int (nI (skB tx (cnt - ((nmD false tx cnt ((nmD false tx cnt ((nmD false tx cnt (skL tx (cnt - p) p)).2)).2)).2)) ((nmD false tx cnt ((nmD false tx cnt ((nmD false tx cnt (skL tx (cnt - p) p)).2)).2)).2))), .int isw, .int (nI k), .ref (o 5), .ref (o 6)])), (o 4, .inl (g.2.1, 120, .inl tx)), (o 5, .inl (g.2.1, 24, .inl wo)), (o 6, .inl (g.2.1, 72, .inl (upd (upd (upd nu (3 * k) (nmV false tx cnt (skL tx (cnt - p) p))) (3 * k + 1) (nmV false tx cnt ((nmD false tx cnt (skL tx (cnt - p) p)).2))) (3 * k + 2) (nmV false tx cnt ((nmD false tx cnt ((nmD false tx cnt (skL tx (cnt - p) p)).2)).2)))))]) (st1 := [.int 0]) E hw [0] rfl (x_runV (rest := []) E hw (c_X8_stopsHere l g o hs bads nos fuls cau whe cnt (skB tx (cnt - ((nmD false tx cnt ((nmD false tx cnt ((nmD false tx cnt (skL tx (cnt - p) p)).2)).2)).2)) ((nmD false tx cnt ((nmD false tx cnt ((nmD false tx cnt (skL tx (cnt - p) p)).2)).2)).2)) fau isw (nI k) ) km_X8_165 kv_X8_stopsHere [0] rfl (by decide) 0 rfl hl.1 rfl rfl (Nat.le_of_ble_eq_true rfl) ⟨Nat.le_of_ble_eq_true rfl, Nat.le_of_ble_eq_true rfl⟩ ⟨Nat.zero_le _, Nat.zero_le _⟩ dX8_order_159) rfl rfl rfl (fun H locs hw => ?_)
                      have ho : orR tx cnt k p wo nu fau isw = (false, skB tx (cnt - ((nmD false tx cnt ((nmD false tx cnt ((nmD false tx cnt (skL tx (cnt - p) p)).2)).2)).2)) ((nmD false tx cnt ((nmD false tx cnt ((nmD false tx cnt (skL tx (cnt - p) p)).2)).2)).2), wo, upd (upd (upd nu (3 * k) (nmV false tx cnt (skL tx (cnt - p) p))) (3 * k + 1) (nmV false tx cnt ((nmD false tx cnt (skL tx (cnt - p) p)).2))) (3 * k + 2) (nmV false tx cnt ((nmD false tx cnt ((nmD false tx cnt (skL tx (cnt - p) p)).2)).2)), nI (skB tx (cnt - ((nmD false tx cnt ((nmD false tx cnt ((nmD false tx cnt (skL tx (cnt - p) p)).2)).2)).2)) ((nmD false tx cnt ((nmD false tx cnt ((nmD false tx cnt (skL tx (cnt - p) p)).2)).2)).2)), isw, k) := by simp only [orR, or3, or3b, or3c, or1, orE, if_neg cl, if_neg c0, if_neg c1, if_pos c2, if_pos hn_3, if_pos hn_6, if_pos hn_9, if_neg c6]
                      exact xr_z hQ E hr hw dX8_order_162 (by decide) ⟨congrArg (fun z => some (Value.int z)) ((by rw [ho]; rfl)), (by rw [ho] <;> rfl)⟩
                  · refine x_go (ws' := [(o 0, .inr (8, [.ref (o 1), .ref (o 2), .int (nI hs), .int bads, .int nos, .int fuls, .int cau, .int whe, .ref (o 3), .ref (o 4), .int (nI cnt), .int (nI ((nmD false tx cnt ((nmD false tx cnt ((nmD false tx cnt (skL tx (cnt - p) p)).2)).2)).2)), .int (nI (nmD false tx cnt ((nmD false tx cnt ((nmD false tx cnt (skL tx (cnt - p) p)).2)).2)).2), .int isw, .int (nI k), .ref (o 5), .ref (o 6)])), (o 4, .inl (g.2.1, 120, .inl tx)), (o 5, .inl (g.2.1, 24, .inl wo)), (o 6, .inl (g.2.1, 72, .inl (upd (upd nu (3 * k) (nmV false tx cnt (skL tx (cnt - p) p))) (3 * k + 1) (nmV false tx cnt ((nmD false tx cnt (skL tx (cnt - p) p)).2)))))]) (st1 := [.int 0]) E hw [0, 1, 3] rfl (x_runV (rest := []) E hw (c_X8_number_0no l g o hs bads nos fuls cau whe cnt ((nmD false tx cnt ((nmD false tx cnt (skL tx (cnt - p) p)).2)).2) fau isw (nI k) tx (upd (upd nu (3 * k) (nmV false tx cnt (skL tx (cnt - p) p))) (3 * k + 1) (nmV false tx cnt ((nmD false tx cnt (skL tx (cnt - p) p)).2))) (3 * k + 2) (by omega) (nmD_le (nmD_le (skL_le hp)).2).2 (by omega) hn_9) km_X8_182 kv_X8_number [0, 1, 3] rfl (by decide) 0 rfl hl.1 rfl rfl (Nat.le_of_ble_eq_true rfl) ⟨Nat.le_of_ble_eq_true rfl, Nat.le_of_ble_eq_true rfl⟩ ⟨Nat.zero_le _, Nat.zero_le _⟩ dX8_order_127) rfl rfl rfl (fun H locs hw => ?_)
                    refine lv_istore (lv' := [(4, .int 0), (5, .int 2), (3, .int 3), (2, .int 1), (1, .int (nI p)), (0, .ref (o 0))]) hx hb dX8_order_130 hl (by decide) rfl (fun ls hl => ?_)
                    refine lv_iinc (v := 3) (lv' := [(5, .int 3), (4, .int 0), (3, .int 3), (2, .int 1), (1, .int (nI p)), (0, .ref (o 0))]) hx hb dX8_order_132 hl (k := 1) rfl (by decide) (by decide) rfl (fun ls hl => ?_)
                    refine lv_goto (tgt := 90) hx hb dX8_order_135 (by decide) ?_
                    refine lv_iload hx hb dX8_order_90 (lv_at hl 0 rfl) ?_
                    refine lv_iload_n hx hb dX8_order_92 rfl (lv_at hl 2 rfl) ?_
                    refine lv_icmp_ge (tgt := 138) hx hb dX8_order_93 (by decide) (fun _ => ?_) (fun h => absurd h (by decide))
                    refine lv_iload hx hb dX8_order_138 (lv_at hl 1 rfl) ?_
                    refine lv_if_ne (tgt := 145) hx hb dX8_order_140 (by decide) (fun h => absurd h (by decide)) (fun _ => ?_)
                    refine lv_iconst (v := 0) hx hb dX8_order_143 (by decide) ?_
                    have ho : orR tx cnt k p wo nu fau isw = (false, (nmD false tx cnt ((nmD false tx cnt ((nmD false tx cnt (skL tx (cnt - p) p)).2)).2)).2, wo, upd (upd nu (3 * k) (nmV false tx cnt (skL tx (cnt - p) p))) (3 * k + 1) (nmV false tx cnt ((nmD false tx cnt (skL tx (cnt - p) p)).2)), nI (nmD false tx cnt ((nmD false tx cnt ((nmD false tx cnt (skL tx (cnt - p) p)).2)).2)).2, isw, k) := by simp only [orR, or3, or3b, or3c, or1, orE, if_neg cl, if_neg c0, if_neg c1, if_pos c2, if_pos hn_3, if_pos hn_6, if_neg hn_9]
                    exact xr_z hQ E hr hw dX8_order_144 (by decide) ⟨congrArg (fun z => some (Value.int z)) ((by rw [ho]; rfl)), (by rw [ho] <;> rfl)⟩
                · refine x_go (ws' := [(o 0, .inr (8, [.ref (o 1), .ref (o 2), .int (nI hs), .int bads, .int nos, .int fuls, .int cau, .int whe, .ref (o 3), .ref (o 4), .int (nI cnt), .int (nI ((nmD false tx cnt ((nmD false tx cnt (skL tx (cnt - p) p)).2)).2)), .int (nI (nmD false tx cnt ((nmD false tx cnt (skL tx (cnt - p) p)).2)).2), .int isw, .int (nI k), .ref (o 5), .ref (o 6)])), (o 4, .inl (g.2.1, 120, .inl tx)), (o 5, .inl (g.2.1, 24, .inl wo)), (o 6, .inl (g.2.1, 72, .inl (upd nu (3 * k) (nmV false tx cnt (skL tx (cnt - p) p)))))]) (st1 := [.int 0]) E hw [0, 1, 3] rfl (x_runV (rest := []) E hw (c_X8_number_0no l g o hs bads nos fuls cau whe cnt ((nmD false tx cnt (skL tx (cnt - p) p)).2) fau isw (nI k) tx (upd nu (3 * k) (nmV false tx cnt (skL tx (cnt - p) p))) (3 * k + 1) (by omega) (nmD_le (skL_le hp)).2 (by omega) hn_6) km_X8_182 kv_X8_number [0, 1, 3] rfl (by decide) 0 rfl hl.1 rfl rfl (Nat.le_of_ble_eq_true rfl) ⟨Nat.le_of_ble_eq_true rfl, Nat.le_of_ble_eq_true rfl⟩ ⟨Nat.zero_le _, Nat.zero_le _⟩ dX8_order_127) rfl rfl rfl (fun H locs hw => ?_)
                  refine lv_istore (lv' := [(4, .int 0), (5, .int 1), (3, .int 3), (2, .int 1), (1, .int (nI p)), (0, .ref (o 0))]) hx hb dX8_order_130 hl (by decide) rfl (fun ls hl => ?_)
                  refine lv_iinc (v := 2) (lv' := [(5, .int 2), (4, .int 0), (3, .int 3), (2, .int 1), (1, .int (nI p)), (0, .ref (o 0))]) hx hb dX8_order_132 hl (k := 1) rfl (by decide) (by decide) rfl (fun ls hl => ?_)
                  refine lv_goto (tgt := 90) hx hb dX8_order_135 (by decide) ?_
                  refine lv_iload hx hb dX8_order_90 (lv_at hl 0 rfl) ?_
                  refine lv_iload_n hx hb dX8_order_92 rfl (lv_at hl 2 rfl) ?_
                  refine lv_icmp_ge (tgt := 138) hx hb dX8_order_93 (by decide) (fun h => absurd h (by decide)) (fun _ => ?_)
                  refine lv_iload hx hb dX8_order_96 (lv_at hl 1 rfl) ?_
                  refine lv_if_eq (tgt := 138) hx hb dX8_order_98 (by decide) (fun _ => ?_) (fun h => absurd h (by decide))
                  refine lv_iload hx hb dX8_order_138 (lv_at hl 1 rfl) ?_
                  refine lv_if_ne (tgt := 145) hx hb dX8_order_140 (by decide) (fun h => absurd h (by decide)) (fun _ => ?_)
                  refine lv_iconst (v := 0) hx hb dX8_order_143 (by decide) ?_
                  have ho : orR tx cnt k p wo nu fau isw = (false, (nmD false tx cnt ((nmD false tx cnt (skL tx (cnt - p) p)).2)).2, wo, upd nu (3 * k) (nmV false tx cnt (skL tx (cnt - p) p)), nI (nmD false tx cnt ((nmD false tx cnt (skL tx (cnt - p) p)).2)).2, isw, k) := by simp only [orR, or3, or3b, or3c, or1, orE, if_neg cl, if_neg c0, if_neg c1, if_pos c2, if_pos hn_3, if_neg hn_6]
                  exact xr_z hQ E hr hw dX8_order_144 (by decide) ⟨congrArg (fun z => some (Value.int z)) ((by rw [ho]; rfl)), (by rw [ho] <;> rfl)⟩
              · refine x_go (ws' := [(o 0, .inr (8, [.ref (o 1), .ref (o 2), .int (nI hs), .int bads, .int nos, .int fuls, .int cau, .int whe, .ref (o 3), .ref (o 4), .int (nI cnt), .int (nI ((nmD false tx cnt (skL tx (cnt - p) p)).2)), .int (nI (nmD false tx cnt (skL tx (cnt - p) p)).2), .int isw, .int (nI k), .ref (o 5), .ref (o 6)])), (o 4, .inl (g.2.1, 120, .inl tx)), (o 5, .inl (g.2.1, 24, .inl wo)), (o 6, .inl (g.2.1, 72, .inl nu))]) (st1 := [.int 0]) E hw [0, 1, 3] rfl (x_runV (rest := []) E hw (c_X8_number_0no l g o hs bads nos fuls cau whe cnt (skL tx (cnt - p) p) fau isw (nI k) tx nu (3 * k) (by omega) (skL_le hp) (by omega) hn_3) km_X8_182 kv_X8_number [0, 1, 3] rfl (by decide) 0 rfl hl.1 rfl rfl (Nat.le_of_ble_eq_true rfl) ⟨Nat.le_of_ble_eq_true rfl, Nat.le_of_ble_eq_true rfl⟩ ⟨Nat.zero_le _, Nat.zero_le _⟩ dX8_order_127) rfl rfl rfl (fun H locs hw => ?_)
                refine lv_istore (lv' := [(4, .int 0), (5, .int 0), (3, .int 3), (2, .int 1), (1, .int (nI p)), (0, .ref (o 0))]) hx hb dX8_order_130 hl (by decide) rfl (fun ls hl => ?_)
                refine lv_iinc (v := 1) (lv' := [(5, .int 1), (4, .int 0), (3, .int 3), (2, .int 1), (1, .int (nI p)), (0, .ref (o 0))]) hx hb dX8_order_132 hl (k := 1) rfl (by decide) (by decide) rfl (fun ls hl => ?_)
                refine lv_goto (tgt := 90) hx hb dX8_order_135 (by decide) ?_
                refine lv_iload hx hb dX8_order_90 (lv_at hl 0 rfl) ?_
                refine lv_iload_n hx hb dX8_order_92 rfl (lv_at hl 2 rfl) ?_
                refine lv_icmp_ge (tgt := 138) hx hb dX8_order_93 (by decide) (fun h => absurd h (by decide)) (fun _ => ?_)
                refine lv_iload hx hb dX8_order_96 (lv_at hl 1 rfl) ?_
                refine lv_if_eq (tgt := 138) hx hb dX8_order_98 (by decide) (fun _ => ?_) (fun h => absurd h (by decide))
                refine lv_iload hx hb dX8_order_138 (lv_at hl 1 rfl) ?_
                refine lv_if_ne (tgt := 145) hx hb dX8_order_140 (by decide) (fun h => absurd h (by decide)) (fun _ => ?_)
                refine lv_iconst (v := 0) hx hb dX8_order_143 (by decide) ?_
                have ho : orR tx cnt k p wo nu fau isw = (false, (nmD false tx cnt (skL tx (cnt - p) p)).2, wo, nu, nI (nmD false tx cnt (skL tx (cnt - p) p)).2, isw, k) := by simp only [orR, or3, or3b, or3c, or1, orE, if_neg cl, if_neg c0, if_neg c1, if_pos c2, if_neg hn_3]
                exact xr_z hQ E hr hw dX8_order_144 (by decide) ⟨congrArg (fun z => some (Value.int z)) ((by rw [ho]; rfl)), (by rw [ho] <;> rfl)⟩
            · refine lv_iload_n hx hb dX8_order_73 rfl (lv_at hl 0 rfl) ?_
              refine lv_iconst (v := 2) hx hb dX8_order_74 (by decide) ?_
              refine lv_icmp_ne (tgt := 82) hx hb dX8_order_75 (by decide) (fun c3 => ?_) (fun c3 => ?_)
              · refine lv_iconst (v := 1) hx hb dX8_order_82 (by decide) ?_
                refine lv_istore_n (lv' := [(3, .int 1), (2, .int (wdR tx p (skL tx (cnt - p) p))), (1, .int (nI p)), (0, .ref (o 0))]) hx hb dX8_order_83 rfl hl (by decide) rfl (fun ls hl => ?_)
                refine lv_iconst (v := 1) hx hb dX8_order_84 (by decide) ?_
                refine lv_istore (lv' := [(4, .int 1), (3, .int 1), (2, .int (wdR tx p (skL tx (cnt - p) p))), (1, .int (nI p)), (0, .ref (o 0))]) hx hb dX8_order_85 hl (by decide) rfl (fun ls hl => ?_)
                refine lv_iconst (v := 0) hx hb dX8_order_87 (by decide) ?_
                refine lv_istore (lv' := [(5, .int 0), (4, .int 1), (3, .int 1), (2, .int (wdR tx p (skL tx (cnt - p) p))), (1, .int (nI p)), (0, .ref (o 0))]) hx hb dX8_order_88 hl (by decide) rfl (fun ls hl => ?_)
                refine lv_iload hx hb dX8_order_90 (lv_at hl 0 rfl) ?_
                refine lv_iload_n hx hb dX8_order_92 rfl (lv_at hl 2 rfl) ?_
                refine lv_icmp_ge (tgt := 138) hx hb dX8_order_93 (by decide) (fun h => absurd h (by decide)) (fun _ => ?_)
                refine lv_iload hx hb dX8_order_96 (lv_at hl 1 rfl) ?_
                refine lv_if_eq (tgt := 138) hx hb dX8_order_98 (by decide) (fun h => absurd h (by decide)) (fun _ => ?_)
                refine lv_aload_n hx hb dX8_order_101 rfl (lv_at hl 5 rfl) ?_
                refine lv_iload_n hx hb dX8_order_102 rfl (lv_at hl 3 rfl) ?_
                refine lv_iconst (v := 2) hx hb dX8_order_103 (by decide) ?_
                refine lv_icmp_ne (tgt := 117) hx hb dX8_order_104 (by decide) (fun c4 => ?_) (fun c4 => ?_)
                · refine lv_iconst (v := 0) hx hb dX8_order_117 (by decide) ?_
                  refine lv_iconst (v := 3) hx hb dX8_order_118 (by decide) ?_
                  refine lv_aload_n hx hb dX8_order_119 rfl (lv_at hl 5 rfl) ?_
                  refine x_get E hw kf_X8_179 0 rfl rfl dX8_order_120 ?_
                  refine xn_mul hx hb 3 k rfl rfl dX8_order_123 ?_
                  refine lv_iload hx hb dX8_order_124 (lv_at hl 0 rfl) ?_
                  refine xn_add hx hb (3 * k) 0 rfl rfl dX8_order_126 ?_
                  refine x_topi (x' := nI (3 * k)) rfl ?_
                  by_cases hn_22 : nmOk false tx cnt (skL tx (cnt - p) p)
                  · refine x_go (ws' := [(o 0, .inr (8, [.ref (o 1), .ref (o 2), .int (nI hs), .int bads, .int nos, .int fuls, .int cau, .int whe, .ref (o 3), .ref (o 4), .int (nI cnt), .int (nI ((nmD false tx cnt (skL tx (cnt - p) p)).2)), .int fau, .int isw, .int (nI k), .ref (o 5), .ref (o 6)])), (o 4, .inl (g.2.1, 120, .inl tx)), (o 5, .inl (g.2.1, 24, .inl wo)), (o 6, .inl (g.2.1, 72, .inl (upd nu (3 * k) (nmV false tx cnt (skL tx (cnt - p) p)))))]) (st1 := [.int 1]) E hw [0, 1, 3] rfl (x_runV (rest := []) E hw (c_X8_number_0ok l g o hs bads nos fuls cau whe cnt (skL tx (cnt - p) p) fau isw (nI k) tx nu (3 * k) (by omega) (skL_le hp) (by omega) hn_22) km_X8_182 kv_X8_number [0, 1, 3] rfl (by decide) 0 rfl hl.1 rfl rfl (Nat.le_of_ble_eq_true rfl) ⟨Nat.le_of_ble_eq_true rfl, Nat.le_of_ble_eq_true rfl⟩ ⟨Nat.zero_le _, Nat.zero_le _⟩ dX8_order_127) rfl rfl rfl (fun H locs hw => ?_)
                    refine lv_istore (lv' := [(4, .int 1), (5, .int 0), (3, .int 1), (2, .int (wdR tx p (skL tx (cnt - p) p))), (1, .int (nI p)), (0, .ref (o 0))]) hx hb dX8_order_130 hl (by decide) rfl (fun ls hl => ?_)
                    refine lv_iinc (v := 1) (lv' := [(5, .int 1), (4, .int 1), (3, .int 1), (2, .int (wdR tx p (skL tx (cnt - p) p))), (1, .int (nI p)), (0, .ref (o 0))]) hx hb dX8_order_132 hl (k := 1) rfl (by decide) (by decide) rfl (fun ls hl => ?_)
                    refine lv_goto (tgt := 90) hx hb dX8_order_135 (by decide) ?_
                    refine lv_iload hx hb dX8_order_90 (lv_at hl 0 rfl) ?_
                    refine lv_iload_n hx hb dX8_order_92 rfl (lv_at hl 2 rfl) ?_
                    refine lv_icmp_ge (tgt := 138) hx hb dX8_order_93 (by decide) (fun _ => ?_) (fun h => absurd h (by decide))
                    refine lv_iload hx hb dX8_order_138 (lv_at hl 1 rfl) ?_
                    refine lv_if_ne (tgt := 145) hx hb dX8_order_140 (by decide) (fun _ => ?_) (fun h => absurd h (by decide))
                    refine lv_aload_n hx hb dX8_order_145 rfl (lv_at hl 5 rfl) ?_
                    refine x_go (ws' := [(o 0, .inr (8, [.ref (o 1), .ref (o 2), .int (nI hs), .int bads, .int nos, .int fuls, .int cau, .int whe, .ref (o 3), .ref (o 4), .int (nI cnt), .int (nI (skB tx (cnt - ((nmD false tx cnt (skL tx (cnt - p) p)).2)) ((nmD false tx cnt (skL tx (cnt - p) p)).2))), .int fau, .int isw, .int (nI k), .ref (o 5), .ref (o 6)])), (o 4, .inl (g.2.1, 120, .inl tx)), (o 5, .inl (g.2.1, 24, .inl wo)), (o 6, .inl (g.2.1, 72, .inl (upd nu (3 * k) (nmV false tx cnt (skL tx (cnt - p) p)))))]) (st1 := []) E hw [0, 1] rfl (x_runV (rest := []) E hw (c_X8_skips l g o hs bads nos fuls cau whe cnt ((nmD false tx cnt (skL tx (cnt - p) p)).2) fau isw (nI k) tx (by omega) (nmD_le (skL_le hp)).2) km_X8_162 kv_X8_skips [0, 1] rfl (by decide) 0 rfl hl.1 rfl rfl (Nat.le_of_ble_eq_true rfl) ⟨Nat.le_of_ble_eq_true rfl, Nat.le_of_ble_eq_true rfl⟩ ⟨Nat.zero_le _, Nat.zero_le _⟩ dX8_order_146) rfl rfl rfl (fun H locs hw => ?_)
                    refine lv_aload_n hx hb dX8_order_149 rfl (lv_at hl 5 rfl) ?_
                    refine x_goR (st1 := [.int (hrF tx cnt (skB tx (cnt - ((nmD false tx cnt (skL tx (cnt - p) p)).2)) ((nmD false tx cnt (skL tx (cnt - p) p)).2)))]) E hw [0, 1] rfl (x_runV (rest := []) E hw (c_X8_here l g o hs bads nos fuls cau whe cnt (skB tx (cnt - ((nmD false tx cnt (skL tx (cnt - p) p)).2)) ((nmD false tx cnt (skL tx (cnt - p) p)).2)) fau isw (nI k) tx (by omega) (skB_le (nmD_le (skL_le hp)).2)) km_X8_152 kv_X8_here [0, 1] rfl (by decide) 0 rfl hl.1 rfl rfl (Nat.le_of_ble_eq_true rfl) ⟨Nat.le_of_ble_eq_true rfl, Nat.le_of_ble_eq_true rfl⟩ ⟨Nat.zero_le _, Nat.zero_le _⟩ dX8_order_150) rfl (fun H locs hw => ?_)
                    refine lv_bipush (v := 59) hx hb dX8_order_153 (by decide) ?_
                    refine lv_icmp_eq (tgt := 163) hx hb dX8_order_155 (by decide) (fun c6 => ?_) (fun c6 => ?_)
                    · refine lv_aload_n hx hb dX8_order_163 rfl (lv_at hl 5 rfl) ?_
                      refine lv_dup hx hb dX8_order_164 rfl ?_
                      refine x_get E hw kf_X8_149 0 rfl rfl dX8_order_165 ?_
                      refine lv_iconst (v := 1) hx hb dX8_order_168 (by decide) ?_
                      refine xn_add hx hb (skB tx (cnt - ((nmD false tx cnt (skL tx (cnt - p) p)).2)) ((nmD false tx cnt (skL tx (cnt - p) p)).2)) 1 rfl rfl dX8_order_169 ?_
                      refine x_put E hw kf_X8_149 kp_X8_11 0 rfl (ty := .int) (by decide +kernel) rfl rfl (by simp) (ws' := [(o 0, .inr (8, [.ref (o 1), .ref (o 2), .int (nI hs), .int bads, .int nos, .int fuls, .int cau, .int whe, .ref (o 3), .ref (o 4), .int (nI cnt), .int (nI (skB tx (cnt - ((nmD false tx cnt (skL tx (cnt - p) p)).2)) ((nmD false tx cnt (skL tx (cnt - p) p)).2) + 1)), .int fau, .int isw, .int (nI k), .ref (o 5), .ref (o 6)])), (o 4, .inl (g.2.1, 120, .inl tx)), (o 5, .inl (g.2.1, 24, .inl wo)), (o 6, .inl (g.2.1, 72, .inl (upd nu (3 * k) (nmV false tx cnt (skL tx (cnt - p) p)))))]) rfl dX8_order_170 (fun H locs hw => ?_)
                      refine lv_aload_n hx hb dX8_order_173 rfl (lv_at hl 5 rfl) ?_
                      refine x_get E hw kf_X8_26 0 rfl rfl dX8_order_174 ?_
                      refine lv_aload_n hx hb dX8_order_177 rfl (lv_at hl 5 rfl) ?_
                      refine x_get E hw kf_X8_179 0 rfl rfl dX8_order_178 ?_
                      refine lv_iload_n hx hb dX8_order_181 rfl (lv_at hl 3 rfl) ?_
                      refine x_ist E hw 2 rfl k rfl (by omega) (by decide) (ws' := [(o 0, .inr (8, [.ref (o 1), .ref (o 2), .int (nI hs), .int bads, .int nos, .int fuls, .int cau, .int whe, .ref (o 3), .ref (o 4), .int (nI cnt), .int (nI (skB tx (cnt - ((nmD false tx cnt (skL tx (cnt - p) p)).2)) ((nmD false tx cnt (skL tx (cnt - p) p)).2) + 1)), .int fau, .int isw, .int (nI k), .ref (o 5), .ref (o 6)])), (o 4, .inl (g.2.1, 120, .inl tx)), (o 5, .inl (g.2.1, 24, .inl (upd wo k (wdR tx p (skL tx (cnt - p) p))))), (o 6, .inl (g.2.1, 72, .inl (upd nu (3 * k) (nmV false tx cnt (skL tx (cnt - p) p)))))]) rfl dX8_order_182 (fun H locs hw => ?_)
                      refine lv_aload_n hx hb dX8_order_183 rfl (lv_at hl 5 rfl) ?_
                      refine lv_dup hx hb dX8_order_184 rfl ?_
                      refine x_get E hw kf_X8_179 0 rfl rfl dX8_order_185 ?_
                      refine lv_iconst (v := 1) hx hb dX8_order_188 (by decide) ?_
                      refine xn_add hx hb k 1 rfl rfl dX8_order_189 ?_
                      refine x_put E hw kf_X8_179 kp_X8_14 0 rfl (ty := .int) (by decide +kernel) rfl rfl (by simp) (ws' := [(o 0, .inr (8, [.ref (o 1), .ref (o 2), .int (nI hs), .int bads, .int nos, .int fuls, .int cau, .int whe, .ref (o 3), .ref (o 4), .int (nI cnt), .int (nI (skB tx (cnt - ((nmD false tx cnt (skL tx (cnt - p) p)).2)) ((nmD false tx cnt (skL tx (cnt - p) p)).2) + 1)), .int fau, .int isw, .int (nI (k + 1)), .ref (o 5), .ref (o 6)])), (o 4, .inl (g.2.1, 120, .inl tx)), (o 5, .inl (g.2.1, 24, .inl (upd wo k (wdR tx p (skL tx (cnt - p) p))))), (o 6, .inl (g.2.1, 72, .inl (upd nu (3 * k) (nmV false tx cnt (skL tx (cnt - p) p)))))]) rfl dX8_order_190 (fun H locs hw => ?_)
                      refine lv_iconst (v := 1) hx hb dX8_order_193 (by decide) ?_
                      have ho : orR tx cnt k p wo nu fau isw = (true, skB tx (cnt - ((nmD false tx cnt (skL tx (cnt - p) p)).2)) ((nmD false tx cnt (skL tx (cnt - p) p)).2) + 1, upd wo k (wdR tx p (skL tx (cnt - p) p)), upd nu (3 * k) (nmV false tx cnt (skL tx (cnt - p) p)), fau, isw, k + 1) := by simp only [orR, or3, or3b, or3c, or1, orE, if_neg cl, if_neg c0, if_neg c1, if_neg c2, if_neg c3, if_neg c4, if_pos hn_22, if_pos c6]
                      exact xr_z hQ E hr hw dX8_order_194 (by decide) ⟨congrArg (fun z => some (Value.int z)) ((by rw [ho]; rfl)), (by rw [ho] <;> rfl)⟩
                    · refine lv_aload_n hx hb dX8_order_158 rfl (lv_at hl 5 rfl) ?_
                      refine x_go (ws' := [(o 0, .inr (8, [.ref (o 1), .ref (o 2), .int (nI hs), .int bads, .int nos, .int fuls, .int cau, .int whe, .ref (o 3), .ref (o 4), .int (nI cnt), .int (nI (skB tx (cnt - ((nmD false tx cnt (skL tx (cnt - p) p)).2)) ((nmD false tx cnt (skL tx (cnt - p) p)).2))), .int (nI (skB tx (cnt - ((nmD false tx cnt (skL tx (cnt - p) p)).2)) ((nmD false tx cnt (skL tx (cnt - p) p)).2))), .int isw, .int (nI k), .ref (o 5), .ref (o 6)])), (o 4, .inl (g.2.1, 120, .inl tx)), (o 5, .inl (g.2.1, 24, .inl wo)), (o 6, .inl (g.2.1, 72, .inl (upd nu (3 * k) (nmV false tx cnt (skL tx (cnt - p) p)))))]) (st1 := [.int 0]) E hw [0] rfl (x_runV (rest := []) E hw (c_X8_stopsHere l g o hs bads nos fuls cau whe cnt (skB tx (cnt - ((nmD false tx cnt (skL tx (cnt - p) p)).2)) ((nmD false tx cnt (skL tx (cnt - p) p)).2)) fau isw (nI k) ) km_X8_165 kv_X8_stopsHere [0] rfl (by decide) 0 rfl hl.1 rfl rfl (Nat.le_of_ble_eq_true rfl) ⟨Nat.le_of_ble_eq_true rfl, Nat.le_of_ble_eq_true rfl⟩ ⟨Nat.zero_le _, Nat.zero_le _⟩ dX8_order_159) rfl rfl rfl (fun H locs hw => ?_)
                      have ho : orR tx cnt k p wo nu fau isw = (false, skB tx (cnt - ((nmD false tx cnt (skL tx (cnt - p) p)).2)) ((nmD false tx cnt (skL tx (cnt - p) p)).2), wo, upd nu (3 * k) (nmV false tx cnt (skL tx (cnt - p) p)), nI (skB tx (cnt - ((nmD false tx cnt (skL tx (cnt - p) p)).2)) ((nmD false tx cnt (skL tx (cnt - p) p)).2)), isw, k) := by simp only [orR, or3, or3b, or3c, or1, orE, if_neg cl, if_neg c0, if_neg c1, if_neg c2, if_neg c3, if_neg c4, if_pos hn_22, if_neg c6]
                      exact xr_z hQ E hr hw dX8_order_162 (by decide) ⟨congrArg (fun z => some (Value.int z)) ((by rw [ho]; rfl)), (by rw [ho] <;> rfl)⟩
                  · refine x_go (ws' := [(o 0, .inr (8, [.ref (o 1), .ref (o 2), .int (nI hs), .int bads, .int nos, .int fuls, .int cau, .int whe, .ref (o 3), .ref (o 4), .int (nI cnt), .int (nI ((nmD false tx cnt (skL tx (cnt - p) p)).2)), .int (nI (nmD false tx cnt (skL tx (cnt - p) p)).2), .int isw, .int (nI k), .ref (o 5), .ref (o 6)])), (o 4, .inl (g.2.1, 120, .inl tx)), (o 5, .inl (g.2.1, 24, .inl wo)), (o 6, .inl (g.2.1, 72, .inl nu))]) (st1 := [.int 0]) E hw [0, 1, 3] rfl (x_runV (rest := []) E hw (c_X8_number_0no l g o hs bads nos fuls cau whe cnt (skL tx (cnt - p) p) fau isw (nI k) tx nu (3 * k) (by omega) (skL_le hp) (by omega) hn_22) km_X8_182 kv_X8_number [0, 1, 3] rfl (by decide) 0 rfl hl.1 rfl rfl (Nat.le_of_ble_eq_true rfl) ⟨Nat.le_of_ble_eq_true rfl, Nat.le_of_ble_eq_true rfl⟩ ⟨Nat.zero_le _, Nat.zero_le _⟩ dX8_order_127) rfl rfl rfl (fun H locs hw => ?_)
                    refine lv_istore (lv' := [(4, .int 0), (5, .int 0), (3, .int 1), (2, .int (wdR tx p (skL tx (cnt - p) p))), (1, .int (nI p)), (0, .ref (o 0))]) hx hb dX8_order_130 hl (by decide) rfl (fun ls hl => ?_)
                    refine lv_iinc (v := 1) (lv' := [(5, .int 1), (4, .int 0), (3, .int 1), (2, .int (wdR tx p (skL tx (cnt - p) p))), (1, .int (nI p)), (0, .ref (o 0))]) hx hb dX8_order_132 hl (k := 1) rfl (by decide) (by decide) rfl (fun ls hl => ?_)
                    refine lv_goto (tgt := 90) hx hb dX8_order_135 (by decide) ?_
                    refine lv_iload hx hb dX8_order_90 (lv_at hl 0 rfl) ?_
                    refine lv_iload_n hx hb dX8_order_92 rfl (lv_at hl 2 rfl) ?_
                    refine lv_icmp_ge (tgt := 138) hx hb dX8_order_93 (by decide) (fun _ => ?_) (fun h => absurd h (by decide))
                    refine lv_iload hx hb dX8_order_138 (lv_at hl 1 rfl) ?_
                    refine lv_if_ne (tgt := 145) hx hb dX8_order_140 (by decide) (fun h => absurd h (by decide)) (fun _ => ?_)
                    refine lv_iconst (v := 0) hx hb dX8_order_143 (by decide) ?_
                    have ho : orR tx cnt k p wo nu fau isw = (false, (nmD false tx cnt (skL tx (cnt - p) p)).2, wo, nu, nI (nmD false tx cnt (skL tx (cnt - p) p)).2, isw, k) := by simp only [orR, or3, or3b, or3c, or1, orE, if_neg cl, if_neg c0, if_neg c1, if_neg c2, if_neg c3, if_neg c4, if_neg hn_22]
                    exact xr_z hQ E hr hw dX8_order_144 (by decide) ⟨congrArg (fun z => some (Value.int z)) ((by rw [ho]; rfl)), (by rw [ho] <;> rfl)⟩
                · exact absurd c4 c3
              · have hl : lv_has ls 6 [(2, .int 2), (1, .int (nI p)), (0, .ref (o 0))] := lv_re hl (by rw [show (wdR tx p (skL tx (cnt - p) p) : Int32) = 2 from c3])
                refine lv_iconst (v := 3) hx hb dX8_order_78 (by decide) ?_
                refine lv_goto (tgt := 83) hx hb dX8_order_79 (by decide) ?_
                refine lv_istore_n (lv' := [(3, .int 3), (2, .int 2), (1, .int (nI p)), (0, .ref (o 0))]) hx hb dX8_order_83 rfl hl (by decide) rfl (fun ls hl => ?_)
                refine lv_iconst (v := 1) hx hb dX8_order_84 (by decide) ?_
                refine lv_istore (lv' := [(4, .int 1), (3, .int 3), (2, .int 2), (1, .int (nI p)), (0, .ref (o 0))]) hx hb dX8_order_85 hl (by decide) rfl (fun ls hl => ?_)
                refine lv_iconst (v := 0) hx hb dX8_order_87 (by decide) ?_
                refine lv_istore (lv' := [(5, .int 0), (4, .int 1), (3, .int 3), (2, .int 2), (1, .int (nI p)), (0, .ref (o 0))]) hx hb dX8_order_88 hl (by decide) rfl (fun ls hl => ?_)
                refine lv_iload hx hb dX8_order_90 (lv_at hl 0 rfl) ?_
                refine lv_iload_n hx hb dX8_order_92 rfl (lv_at hl 2 rfl) ?_
                refine lv_icmp_ge (tgt := 138) hx hb dX8_order_93 (by decide) (fun h => absurd h (by decide)) (fun _ => ?_)
                refine lv_iload hx hb dX8_order_96 (lv_at hl 1 rfl) ?_
                refine lv_if_eq (tgt := 138) hx hb dX8_order_98 (by decide) (fun h => absurd h (by decide)) (fun _ => ?_)
                refine lv_aload_n hx hb dX8_order_101 rfl (lv_at hl 5 rfl) ?_
                refine lv_iload_n hx hb dX8_order_102 rfl (lv_at hl 3 rfl) ?_
                refine lv_iconst (v := 2) hx hb dX8_order_103 (by decide) ?_
                refine lv_icmp_ne (tgt := 117) hx hb dX8_order_104 (by decide) (fun h => absurd h (by decide)) (fun _ => ?_)
                refine lv_iload hx hb dX8_order_107 (lv_at hl 0 rfl) ?_
                refine lv_iconst (v := 2) hx hb dX8_order_109 (by decide) ?_
                refine lv_icmp_ne (tgt := 117) hx hb dX8_order_110 (by decide) (fun _ => ?_) (fun h => absurd h (by decide))
                refine lv_iconst (v := 0) hx hb dX8_order_117 (by decide) ?_
                refine lv_iconst (v := 3) hx hb dX8_order_118 (by decide) ?_
                refine lv_aload_n hx hb dX8_order_119 rfl (lv_at hl 5 rfl) ?_
                refine x_get E hw kf_X8_179 0 rfl rfl dX8_order_120 ?_
                refine xn_mul hx hb 3 k rfl rfl dX8_order_123 ?_
                refine lv_iload hx hb dX8_order_124 (lv_at hl 0 rfl) ?_
                refine xn_add hx hb (3 * k) 0 rfl rfl dX8_order_126 ?_
                refine x_topi (x' := nI (3 * k)) rfl ?_
                by_cases hn_30 : nmOk false tx cnt (skL tx (cnt - p) p)
                · refine x_go (ws' := [(o 0, .inr (8, [.ref (o 1), .ref (o 2), .int (nI hs), .int bads, .int nos, .int fuls, .int cau, .int whe, .ref (o 3), .ref (o 4), .int (nI cnt), .int (nI ((nmD false tx cnt (skL tx (cnt - p) p)).2)), .int fau, .int isw, .int (nI k), .ref (o 5), .ref (o 6)])), (o 4, .inl (g.2.1, 120, .inl tx)), (o 5, .inl (g.2.1, 24, .inl wo)), (o 6, .inl (g.2.1, 72, .inl (upd nu (3 * k) (nmV false tx cnt (skL tx (cnt - p) p)))))]) (st1 := [.int 1]) E hw [0, 1, 3] rfl (x_runV (rest := []) E hw (c_X8_number_0ok l g o hs bads nos fuls cau whe cnt (skL tx (cnt - p) p) fau isw (nI k) tx nu (3 * k) (by omega) (skL_le hp) (by omega) hn_30) km_X8_182 kv_X8_number [0, 1, 3] rfl (by decide) 0 rfl hl.1 rfl rfl (Nat.le_of_ble_eq_true rfl) ⟨Nat.le_of_ble_eq_true rfl, Nat.le_of_ble_eq_true rfl⟩ ⟨Nat.zero_le _, Nat.zero_le _⟩ dX8_order_127) rfl rfl rfl (fun H locs hw => ?_)
                  refine lv_istore (lv' := [(4, .int 1), (5, .int 0), (3, .int 3), (2, .int 2), (1, .int (nI p)), (0, .ref (o 0))]) hx hb dX8_order_130 hl (by decide) rfl (fun ls hl => ?_)
                  refine lv_iinc (v := 1) (lv' := [(5, .int 1), (4, .int 1), (3, .int 3), (2, .int 2), (1, .int (nI p)), (0, .ref (o 0))]) hx hb dX8_order_132 hl (k := 1) rfl (by decide) (by decide) rfl (fun ls hl => ?_)
                  refine lv_goto (tgt := 90) hx hb dX8_order_135 (by decide) ?_
                  refine lv_iload hx hb dX8_order_90 (lv_at hl 0 rfl) ?_
                  refine lv_iload_n hx hb dX8_order_92 rfl (lv_at hl 2 rfl) ?_
                  refine lv_icmp_ge (tgt := 138) hx hb dX8_order_93 (by decide) (fun h => absurd h (by decide)) (fun _ => ?_)
                  refine lv_iload hx hb dX8_order_96 (lv_at hl 1 rfl) ?_
                  refine lv_if_eq (tgt := 138) hx hb dX8_order_98 (by decide) (fun h => absurd h (by decide)) (fun _ => ?_)
                  refine lv_aload_n hx hb dX8_order_101 rfl (lv_at hl 5 rfl) ?_
                  refine lv_iload_n hx hb dX8_order_102 rfl (lv_at hl 3 rfl) ?_
                  refine lv_iconst (v := 2) hx hb dX8_order_103 (by decide) ?_
                  refine lv_icmp_ne (tgt := 117) hx hb dX8_order_104 (by decide) (fun h => absurd h (by decide)) (fun _ => ?_)
                  refine lv_iload hx hb dX8_order_107 (lv_at hl 0 rfl) ?_
                  refine lv_iconst (v := 2) hx hb dX8_order_109 (by decide) ?_
                  refine lv_icmp_ne (tgt := 117) hx hb dX8_order_110 (by decide) (fun _ => ?_) (fun h => absurd h (by decide))
                  refine lv_iconst (v := 0) hx hb dX8_order_117 (by decide) ?_
                  refine lv_iconst (v := 3) hx hb dX8_order_118 (by decide) ?_
                  refine lv_aload_n hx hb dX8_order_119 rfl (lv_at hl 5 rfl) ?_
                  refine x_get E hw kf_X8_179 0 rfl rfl dX8_order_120 ?_
                  refine xn_mul hx hb 3 k rfl rfl dX8_order_123 ?_
                  refine lv_iload hx hb dX8_order_124 (lv_at hl 0 rfl) ?_
                  refine xn_add hx hb (3 * k) 1 rfl rfl dX8_order_126 ?_
                  by_cases hn_34 : nmOk false tx cnt ((nmD false tx cnt (skL tx (cnt - p) p)).2)
                  · refine x_go (ws' := [(o 0, .inr (8, [.ref (o 1), .ref (o 2), .int (nI hs), .int bads, .int nos, .int fuls, .int cau, .int whe, .ref (o 3), .ref (o 4), .int (nI cnt), .int (nI ((nmD false tx cnt ((nmD false tx cnt (skL tx (cnt - p) p)).2)).2)), .int fau, .int isw, .int (nI k), .ref (o 5), .ref (o 6)])), (o 4, .inl (g.2.1, 120, .inl tx)), (o 5, .inl (g.2.1, 24, .inl wo)), (o 6, .inl (g.2.1, 72, .inl (upd (upd nu (3 * k) (nmV false tx cnt (skL tx (cnt - p) p))) (3 * k + 1) (nmV false tx cnt ((nmD false tx cnt (skL tx (cnt - p) p)).2)))))]) (st1 := [.int 1]) E hw [0, 1, 3] rfl (x_runV (rest := []) E hw (c_X8_number_0ok l g o hs bads nos fuls cau whe cnt ((nmD false tx cnt (skL tx (cnt - p) p)).2) fau isw (nI k) tx (upd nu (3 * k) (nmV false tx cnt (skL tx (cnt - p) p))) (3 * k + 1) (by omega) (nmD_le (skL_le hp)).2 (by omega) hn_34) km_X8_182 kv_X8_number [0, 1, 3] rfl (by decide) 0 rfl hl.1 rfl rfl (Nat.le_of_ble_eq_true rfl) ⟨Nat.le_of_ble_eq_true rfl, Nat.le_of_ble_eq_true rfl⟩ ⟨Nat.zero_le _, Nat.zero_le _⟩ dX8_order_127) rfl rfl rfl (fun H locs hw => ?_)
                    refine lv_istore (lv' := [(4, .int 1), (5, .int 1), (3, .int 3), (2, .int 2), (1, .int (nI p)), (0, .ref (o 0))]) hx hb dX8_order_130 hl (by decide) rfl (fun ls hl => ?_)
                    refine lv_iinc (v := 2) (lv' := [(5, .int 2), (4, .int 1), (3, .int 3), (2, .int 2), (1, .int (nI p)), (0, .ref (o 0))]) hx hb dX8_order_132 hl (k := 1) rfl (by decide) (by decide) rfl (fun ls hl => ?_)
                    refine lv_goto (tgt := 90) hx hb dX8_order_135 (by decide) ?_
                    refine lv_iload hx hb dX8_order_90 (lv_at hl 0 rfl) ?_
                    refine lv_iload_n hx hb dX8_order_92 rfl (lv_at hl 2 rfl) ?_
                    refine lv_icmp_ge (tgt := 138) hx hb dX8_order_93 (by decide) (fun h => absurd h (by decide)) (fun _ => ?_)
                    refine lv_iload hx hb dX8_order_96 (lv_at hl 1 rfl) ?_
                    refine lv_if_eq (tgt := 138) hx hb dX8_order_98 (by decide) (fun h => absurd h (by decide)) (fun _ => ?_)
                    refine lv_aload_n hx hb dX8_order_101 rfl (lv_at hl 5 rfl) ?_
                    refine lv_iload_n hx hb dX8_order_102 rfl (lv_at hl 3 rfl) ?_
                    refine lv_iconst (v := 2) hx hb dX8_order_103 (by decide) ?_
                    refine lv_icmp_ne (tgt := 117) hx hb dX8_order_104 (by decide) (fun h => absurd h (by decide)) (fun _ => ?_)
                    refine lv_iload hx hb dX8_order_107 (lv_at hl 0 rfl) ?_
                    refine lv_iconst (v := 2) hx hb dX8_order_109 (by decide) ?_
                    refine lv_icmp_ne (tgt := 117) hx hb dX8_order_110 (by decide) (fun h => absurd h (by decide)) (fun _ => ?_)
                    refine lv_iconst (v := 1) hx hb dX8_order_113 (by decide) ?_
                    refine lv_goto (tgt := 118) hx hb dX8_order_114 (by decide) ?_
                    refine lv_iconst (v := 3) hx hb dX8_order_118 (by decide) ?_
                    refine lv_aload_n hx hb dX8_order_119 rfl (lv_at hl 5 rfl) ?_
                    refine x_get E hw kf_X8_179 0 rfl rfl dX8_order_120 ?_
                    refine xn_mul hx hb 3 k rfl rfl dX8_order_123 ?_
                    refine lv_iload hx hb dX8_order_124 (lv_at hl 0 rfl) ?_
                    refine xn_add hx hb (3 * k) 2 rfl rfl dX8_order_126 ?_
                    by_cases hn_38 : nmOk true tx cnt ((nmD false tx cnt ((nmD false tx cnt (skL tx (cnt - p) p)).2)).2)
                    · refine x_go (ws' := [(o 0, .inr (8, [.ref (o 1), .ref (o 2), .int (nI hs), .int bads, .int nos, .int fuls, .int cau, .int whe, .ref (o 3), .ref (o 4), .int (nI cnt), .int (nI ((nmD true tx cnt ((nmD false tx cnt ((nmD false tx cnt (skL tx (cnt - p) p)).2)).2)).2)), .int fau, .int isw, .int (nI k), .ref (o 5), .ref (o 6)])), (o 4, .inl (g.2.1, 120, .inl tx)), (o 5, .inl (g.2.1, 24, .inl wo)), (o 6, .inl (g.2.1, 72, .inl (upd (upd (upd nu (3 * k) (nmV false tx cnt (skL tx (cnt - p) p))) (3 * k + 1) (nmV false tx cnt ((nmD false tx cnt (skL tx (cnt - p) p)).2))) (3 * k + 2) (nmV true tx cnt ((nmD false tx cnt ((nmD false tx cnt (skL tx (cnt - p) p)).2)).2)))))]) (st1 := [.int 1]) E hw [0, 1, 3] rfl (x_runV (rest := []) E hw (c_X8_number_1ok l g o hs bads nos fuls cau whe cnt ((nmD false tx cnt ((nmD false tx cnt (skL tx (cnt - p) p)).2)).2) fau isw (nI k) tx (upd (upd nu (3 * k) (nmV false tx cnt (skL tx (cnt - p) p))) (3 * k + 1) (nmV false tx cnt ((nmD false tx cnt (skL tx (cnt - p) p)).2))) (3 * k + 2) (by omega) (nmD_le (nmD_le (skL_le hp)).2).2 (by omega) hn_38) km_X8_182 kv_X8_number [0, 1, 3] rfl (by decide) 0 rfl hl.1 rfl rfl (Nat.le_of_ble_eq_true rfl) ⟨Nat.le_of_ble_eq_true rfl, Nat.le_of_ble_eq_true rfl⟩ ⟨Nat.zero_le _, Nat.zero_le _⟩ dX8_order_127) rfl rfl rfl (fun H locs hw => ?_)
                      refine lv_istore (lv' := [(4, .int 1), (5, .int 2), (3, .int 3), (2, .int 2), (1, .int (nI p)), (0, .ref (o 0))]) hx hb dX8_order_130 hl (by decide) rfl (fun ls hl => ?_)
                      refine lv_iinc (v := 3) (lv' := [(5, .int 3), (4, .int 1), (3, .int 3), (2, .int 2), (1, .int (nI p)), (0, .ref (o 0))]) hx hb dX8_order_132 hl (k := 1) rfl (by decide) (by decide) rfl (fun ls hl => ?_)
                      refine lv_goto (tgt := 90) hx hb dX8_order_135 (by decide) ?_
                      refine lv_iload hx hb dX8_order_90 (lv_at hl 0 rfl) ?_
                      refine lv_iload_n hx hb dX8_order_92 rfl (lv_at hl 2 rfl) ?_
                      refine lv_icmp_ge (tgt := 138) hx hb dX8_order_93 (by decide) (fun _ => ?_) (fun h => absurd h (by decide))
                      refine lv_iload hx hb dX8_order_138 (lv_at hl 1 rfl) ?_
                      refine lv_if_ne (tgt := 145) hx hb dX8_order_140 (by decide) (fun _ => ?_) (fun h => absurd h (by decide))
                      refine lv_aload_n hx hb dX8_order_145 rfl (lv_at hl 5 rfl) ?_
                      refine x_go (ws' := [(o 0, .inr (8, [.ref (o 1), .ref (o 2), .int (nI hs), .int bads, .int nos, .int fuls, .int cau, .int whe, .ref (o 3), .ref (o 4), .int (nI cnt), .int (nI (skB tx (cnt - ((nmD true tx cnt ((nmD false tx cnt ((nmD false tx cnt (skL tx (cnt - p) p)).2)).2)).2)) ((nmD true tx cnt ((nmD false tx cnt ((nmD false tx cnt (skL tx (cnt - p) p)).2)).2)).2))), .int fau, .int isw, .int (nI k), .ref (o 5), .ref (o 6)])), (o 4, .inl (g.2.1, 120, .inl tx)), (o 5, .inl (g.2.1, 24, .inl wo)), (o 6, .inl (g.2.1, 72, .inl (upd (upd (upd nu (3 * k) (nmV false tx cnt (skL tx (cnt - p) p))) (3 * k + 1) (nmV false tx cnt ((nmD false tx cnt (skL tx (cnt - p) p)).2))) (3 * k + 2) (nmV true tx cnt ((nmD false tx cnt ((nmD false tx cnt (skL tx (cnt - p) p)).2)).2)))))]) (st1 := []) E hw [0, 1] rfl (x_runV (rest := []) E hw (c_X8_skips l g o hs bads nos fuls cau whe cnt ((nmD true tx cnt ((nmD false tx cnt ((nmD false tx cnt (skL tx (cnt - p) p)).2)).2)).2) fau isw (nI k) tx (by omega) (nmD_le (nmD_le (nmD_le (skL_le hp)).2).2).2) km_X8_162 kv_X8_skips [0, 1] rfl (by decide) 0 rfl hl.1 rfl rfl (Nat.le_of_ble_eq_true rfl) ⟨Nat.le_of_ble_eq_true rfl, Nat.le_of_ble_eq_true rfl⟩ ⟨Nat.zero_le _, Nat.zero_le _⟩ dX8_order_146) rfl rfl rfl (fun H locs hw => ?_)
                      refine lv_aload_n hx hb dX8_order_149 rfl (lv_at hl 5 rfl) ?_
                      refine x_goR (st1 := [.int (hrF tx cnt (skB tx (cnt - ((nmD true tx cnt ((nmD false tx cnt ((nmD false tx cnt (skL tx (cnt - p) p)).2)).2)).2)) ((nmD true tx cnt ((nmD false tx cnt ((nmD false tx cnt (skL tx (cnt - p) p)).2)).2)).2)))]) E hw [0, 1] rfl (x_runV (rest := []) E hw (c_X8_here l g o hs bads nos fuls cau whe cnt (skB tx (cnt - ((nmD true tx cnt ((nmD false tx cnt ((nmD false tx cnt (skL tx (cnt - p) p)).2)).2)).2)) ((nmD true tx cnt ((nmD false tx cnt ((nmD false tx cnt (skL tx (cnt - p) p)).2)).2)).2)) fau isw (nI k) tx (by omega) (skB_le (nmD_le (nmD_le (nmD_le (skL_le hp)).2).2).2)) km_X8_152 kv_X8_here [0, 1] rfl (by decide) 0 rfl hl.1 rfl rfl (Nat.le_of_ble_eq_true rfl) ⟨Nat.le_of_ble_eq_true rfl, Nat.le_of_ble_eq_true rfl⟩ ⟨Nat.zero_le _, Nat.zero_le _⟩ dX8_order_150) rfl (fun H locs hw => ?_)
                      refine lv_bipush (v := 59) hx hb dX8_order_153 (by decide) ?_
                      refine lv_icmp_eq (tgt := 163) hx hb dX8_order_155 (by decide) (fun c6 => ?_) (fun c6 => ?_)
                      · refine lv_aload_n hx hb dX8_order_163 rfl (lv_at hl 5 rfl) ?_
                        refine lv_dup hx hb dX8_order_164 rfl ?_
                        refine x_get E hw kf_X8_149 0 rfl rfl dX8_order_165 ?_
                        refine lv_iconst (v := 1) hx hb dX8_order_168 (by decide) ?_
                        refine xn_add hx hb (skB tx (cnt - ((nmD true tx cnt ((nmD false tx cnt ((nmD false tx cnt (skL tx (cnt - p) p)).2)).2)).2)) ((nmD true tx cnt ((nmD false tx cnt ((nmD false tx cnt (skL tx (cnt - p) p)).2)).2)).2)) 1 rfl rfl dX8_order_169 ?_
                        refine x_put E hw kf_X8_149 kp_X8_11 0 rfl (ty := .int) (by decide +kernel) rfl rfl (by simp) (ws' := [(o 0, .inr (8, [.ref (o 1), .ref (o 2), .int (nI hs), .int bads, .int nos, .int fuls, .int cau, .int whe, .ref (o 3), .ref (o 4), .int (nI cnt), .int (nI (skB tx (cnt - ((nmD true tx cnt ((nmD false tx cnt ((nmD false tx cnt (skL tx (cnt - p) p)).2)).2)).2)) ((nmD true tx cnt ((nmD false tx cnt ((nmD false tx cnt (skL tx (cnt - p) p)).2)).2)).2) + 1)), .int fau, .int isw, .int (nI k), .ref (o 5), .ref (o 6)])), (o 4, .inl (g.2.1, 120, .inl tx)), (o 5, .inl (g.2.1, 24, .inl wo)), (o 6, .inl (g.2.1, 72, .inl (upd (upd (upd nu (3 * k) (nmV false tx cnt (skL tx (cnt - p) p))) (3 * k + 1) (nmV false tx cnt ((nmD false tx cnt (skL tx (cnt - p) p)).2))) (3 * k + 2) (nmV true tx cnt ((nmD false tx cnt ((nmD false tx cnt (skL tx (cnt - p) p)).2)).2)))))]) rfl dX8_order_170 (fun H locs hw => ?_)
                        refine lv_aload_n hx hb dX8_order_173 rfl (lv_at hl 5 rfl) ?_
                        refine x_get E hw kf_X8_26 0 rfl rfl dX8_order_174 ?_
                        refine lv_aload_n hx hb dX8_order_177 rfl (lv_at hl 5 rfl) ?_
                        refine x_get E hw kf_X8_179 0 rfl rfl dX8_order_178 ?_
                        refine lv_iload_n hx hb dX8_order_181 rfl (lv_at hl 3 rfl) ?_
                        refine x_ist E hw 2 rfl k rfl (by omega) (by decide) (ws' := [(o 0, .inr (8, [.ref (o 1), .ref (o 2), .int (nI hs), .int bads, .int nos, .int fuls, .int cau, .int whe, .ref (o 3), .ref (o 4), .int (nI cnt), .int (nI (skB tx (cnt - ((nmD true tx cnt ((nmD false tx cnt ((nmD false tx cnt (skL tx (cnt - p) p)).2)).2)).2)) ((nmD true tx cnt ((nmD false tx cnt ((nmD false tx cnt (skL tx (cnt - p) p)).2)).2)).2) + 1)), .int fau, .int isw, .int (nI k), .ref (o 5), .ref (o 6)])), (o 4, .inl (g.2.1, 120, .inl tx)), (o 5, .inl (g.2.1, 24, .inl (upd wo k 2))), (o 6, .inl (g.2.1, 72, .inl (upd (upd (upd nu (3 * k) (nmV false tx cnt (skL tx (cnt - p) p))) (3 * k + 1) (nmV false tx cnt ((nmD false tx cnt (skL tx (cnt - p) p)).2))) (3 * k + 2) (nmV true tx cnt ((nmD false tx cnt ((nmD false tx cnt (skL tx (cnt - p) p)).2)).2)))))]) rfl dX8_order_182 (fun H locs hw => ?_)
                        refine lv_aload_n hx hb dX8_order_183 rfl (lv_at hl 5 rfl) ?_
                        refine lv_dup hx hb dX8_order_184 rfl ?_
                        refine x_get E hw kf_X8_179 0 rfl rfl dX8_order_185 ?_
                        refine lv_iconst (v := 1) hx hb dX8_order_188 (by decide) ?_
                        refine xn_add hx hb k 1 rfl rfl dX8_order_189 ?_
                        refine x_put E hw kf_X8_179 kp_X8_14 0 rfl (ty := .int) (by decide +kernel) rfl rfl (by simp) (ws' := [(o 0, .inr (8, [.ref (o 1), .ref (o 2), .int (nI hs), .int bads, .int nos, .int fuls, .int cau, .int whe, .ref (o 3), .ref (o 4), .int (nI cnt), .int (nI (skB tx (cnt - ((nmD true tx cnt ((nmD false tx cnt ((nmD false tx cnt (skL tx (cnt - p) p)).2)).2)).2)) ((nmD true tx cnt ((nmD false tx cnt ((nmD false tx cnt (skL tx (cnt - p) p)).2)).2)).2) + 1)), .int fau, .int isw, .int (nI (k + 1)), .ref (o 5), .ref (o 6)])), (o 4, .inl (g.2.1, 120, .inl tx)), (o 5, .inl (g.2.1, 24, .inl (upd wo k 2))), (o 6, .inl (g.2.1, 72, .inl (upd (upd (upd nu (3 * k) (nmV false tx cnt (skL tx (cnt - p) p))) (3 * k + 1) (nmV false tx cnt ((nmD false tx cnt (skL tx (cnt - p) p)).2))) (3 * k + 2) (nmV true tx cnt ((nmD false tx cnt ((nmD false tx cnt (skL tx (cnt - p) p)).2)).2)))))]) rfl dX8_order_190 (fun H locs hw => ?_)
                        refine lv_iconst (v := 1) hx hb dX8_order_193 (by decide) ?_
                        have ho : orR tx cnt k p wo nu fau isw = (true, skB tx (cnt - ((nmD true tx cnt ((nmD false tx cnt ((nmD false tx cnt (skL tx (cnt - p) p)).2)).2)).2)) ((nmD true tx cnt ((nmD false tx cnt ((nmD false tx cnt (skL tx (cnt - p) p)).2)).2)).2) + 1, upd wo k 2, upd (upd (upd nu (3 * k) (nmV false tx cnt (skL tx (cnt - p) p))) (3 * k + 1) (nmV false tx cnt ((nmD false tx cnt (skL tx (cnt - p) p)).2))) (3 * k + 2) (nmV true tx cnt ((nmD false tx cnt ((nmD false tx cnt (skL tx (cnt - p) p)).2)).2)), fau, isw, k + 1) := by simp only [orR, or3, or3b, or3c, or1, orE, if_neg cl, if_neg c0, if_neg c1, if_neg c2, if_pos c3, if_pos hn_30, if_pos hn_34, if_pos hn_38, if_pos c6]; rw [c3]
                        exact xr_z hQ E hr hw dX8_order_194 (by decide) ⟨congrArg (fun z => some (Value.int z)) ((by rw [ho]; rfl)), (by rw [ho] <;> rfl)⟩
                      · refine lv_aload_n hx hb dX8_order_158 rfl (lv_at hl 5 rfl) ?_
                        refine x_go (ws' := [(o 0, .inr (8, [.ref (o 1), .ref (o 2), .int (nI hs), .int bads, .int nos, .int fuls, .int cau, .int whe, .ref (o 3), .ref (o 4), .int (nI cnt), .int (nI (skB tx (cnt - ((nmD true tx cnt ((nmD false tx cnt ((nmD false tx cnt (skL tx (cnt - p) p)).2)).2)).2)) ((nmD true tx cnt ((nmD false tx cnt ((nmD false tx cnt (skL tx (cnt - p) p)).2)).2)).2))), .int (nI (skB tx (cnt - ((nmD true tx cnt ((nmD false tx cnt ((nmD false tx cnt (skL tx (cnt - p) p)).2)).2)).2)) ((nmD true tx cnt ((nmD false tx cnt ((nmD false tx cnt (skL tx (cnt - p) p)).2)).2)).2))), .int isw, .int (nI k), .ref (o 5), .ref (o 6)])), (o 4, .inl (g.2.1, 120, .inl tx)), (o 5, .inl (g.2.1, 24, .inl wo)), (o 6, .inl (g.2.1, 72, .inl (upd (upd (upd nu (3 * k) (nmV false tx cnt (skL tx (cnt - p) p))) (3 * k + 1) (nmV false tx cnt ((nmD false tx cnt (skL tx (cnt - p) p)).2))) (3 * k + 2) (nmV true tx cnt ((nmD false tx cnt ((nmD false tx cnt (skL tx (cnt - p) p)).2)).2)))))]) (st1 := [.int 0]) E hw [0] rfl (x_runV (rest := []) E hw (c_X8_stopsHere l g o hs bads nos fuls cau whe cnt (skB tx (cnt - ((nmD true tx cnt ((nmD false tx cnt ((nmD false tx cnt (skL tx (cnt - p) p)).2)).2)).2)) ((nmD true tx cnt ((nmD false tx cnt ((nmD false tx cnt (skL tx (cnt - p) p)).2)).2)).2)) fau isw (nI k) ) km_X8_165 kv_X8_stopsHere [0] rfl (by decide) 0 rfl hl.1 rfl rfl (Nat.le_of_ble_eq_true rfl) ⟨Nat.le_of_ble_eq_true rfl, Nat.le_of_ble_eq_true rfl⟩ ⟨Nat.zero_le _, Nat.zero_le _⟩ dX8_order_159) rfl rfl rfl (fun H locs hw => ?_)
                        have ho : orR tx cnt k p wo nu fau isw = (false, skB tx (cnt - ((nmD true tx cnt ((nmD false tx cnt ((nmD false tx cnt (skL tx (cnt - p) p)).2)).2)).2)) ((nmD true tx cnt ((nmD false tx cnt ((nmD false tx cnt (skL tx (cnt - p) p)).2)).2)).2), wo, upd (upd (upd nu (3 * k) (nmV false tx cnt (skL tx (cnt - p) p))) (3 * k + 1) (nmV false tx cnt ((nmD false tx cnt (skL tx (cnt - p) p)).2))) (3 * k + 2) (nmV true tx cnt ((nmD false tx cnt ((nmD false tx cnt (skL tx (cnt - p) p)).2)).2)), nI (skB tx (cnt - ((nmD true tx cnt ((nmD false tx cnt ((nmD false tx cnt (skL tx (cnt - p) p)).2)).2)).2)) ((nmD true tx cnt ((nmD false tx cnt ((nmD false tx cnt (skL tx (cnt - p) p)).2)).2)).2)), isw, k) := by simp only [orR, or3, or3b, or3c, or1, orE, if_neg cl, if_neg c0, if_neg c1, if_neg c2, if_pos c3, if_pos hn_30, if_pos hn_34, if_pos hn_38, if_neg c6]
                        exact xr_z hQ E hr hw dX8_order_162 (by decide) ⟨congrArg (fun z => some (Value.int z)) ((by rw [ho]; rfl)), (by rw [ho] <;> rfl)⟩
                    · refine x_go (ws' := [(o 0, .inr (8, [.ref (o 1), .ref (o 2), .int (nI hs), .int bads, .int nos, .int fuls, .int cau, .int whe, .ref (o 3), .ref (o 4), .int (nI cnt), .int (nI ((nmD true tx cnt ((nmD false tx cnt ((nmD false tx cnt (skL tx (cnt - p) p)).2)).2)).2)), .int (nI (nmD true tx cnt ((nmD false tx cnt ((nmD false tx cnt (skL tx (cnt - p) p)).2)).2)).2), .int isw, .int (nI k), .ref (o 5), .ref (o 6)])), (o 4, .inl (g.2.1, 120, .inl tx)), (o 5, .inl (g.2.1, 24, .inl wo)), (o 6, .inl (g.2.1, 72, .inl (upd (upd nu (3 * k) (nmV false tx cnt (skL tx (cnt - p) p))) (3 * k + 1) (nmV false tx cnt ((nmD false tx cnt (skL tx (cnt - p) p)).2)))))]) (st1 := [.int 0]) E hw [0, 1, 3] rfl (x_runV (rest := []) E hw (c_X8_number_1no l g o hs bads nos fuls cau whe cnt ((nmD false tx cnt ((nmD false tx cnt (skL tx (cnt - p) p)).2)).2) fau isw (nI k) tx (upd (upd nu (3 * k) (nmV false tx cnt (skL tx (cnt - p) p))) (3 * k + 1) (nmV false tx cnt ((nmD false tx cnt (skL tx (cnt - p) p)).2))) (3 * k + 2) (by omega) (nmD_le (nmD_le (skL_le hp)).2).2 (by omega) hn_38) km_X8_182 kv_X8_number [0, 1, 3] rfl (by decide) 0 rfl hl.1 rfl rfl (Nat.le_of_ble_eq_true rfl) ⟨Nat.le_of_ble_eq_true rfl, Nat.le_of_ble_eq_true rfl⟩ ⟨Nat.zero_le _, Nat.zero_le _⟩ dX8_order_127) rfl rfl rfl (fun H locs hw => ?_)
                      refine lv_istore (lv' := [(4, .int 0), (5, .int 2), (3, .int 3), (2, .int 2), (1, .int (nI p)), (0, .ref (o 0))]) hx hb dX8_order_130 hl (by decide) rfl (fun ls hl => ?_)
                      refine lv_iinc (v := 3) (lv' := [(5, .int 3), (4, .int 0), (3, .int 3), (2, .int 2), (1, .int (nI p)), (0, .ref (o 0))]) hx hb dX8_order_132 hl (k := 1) rfl (by decide) (by decide) rfl (fun ls hl => ?_)
                      refine lv_goto (tgt := 90) hx hb dX8_order_135 (by decide) ?_
                      refine lv_iload hx hb dX8_order_90 (lv_at hl 0 rfl) ?_
                      refine lv_iload_n hx hb dX8_order_92 rfl (lv_at hl 2 rfl) ?_
                      refine lv_icmp_ge (tgt := 138) hx hb dX8_order_93 (by decide) (fun _ => ?_) (fun h => absurd h (by decide))
                      refine lv_iload hx hb dX8_order_138 (lv_at hl 1 rfl) ?_
                      refine lv_if_ne (tgt := 145) hx hb dX8_order_140 (by decide) (fun h => absurd h (by decide)) (fun _ => ?_)
                      refine lv_iconst (v := 0) hx hb dX8_order_143 (by decide) ?_
                      have ho : orR tx cnt k p wo nu fau isw = (false, (nmD true tx cnt ((nmD false tx cnt ((nmD false tx cnt (skL tx (cnt - p) p)).2)).2)).2, wo, upd (upd nu (3 * k) (nmV false tx cnt (skL tx (cnt - p) p))) (3 * k + 1) (nmV false tx cnt ((nmD false tx cnt (skL tx (cnt - p) p)).2)), nI (nmD true tx cnt ((nmD false tx cnt ((nmD false tx cnt (skL tx (cnt - p) p)).2)).2)).2, isw, k) := by simp only [orR, or3, or3b, or3c, or1, orE, if_neg cl, if_neg c0, if_neg c1, if_neg c2, if_pos c3, if_pos hn_30, if_pos hn_34, if_neg hn_38]
                      exact xr_z hQ E hr hw dX8_order_144 (by decide) ⟨congrArg (fun z => some (Value.int z)) ((by rw [ho]; rfl)), (by rw [ho] <;> rfl)⟩
                  · refine x_go (ws' := [(o 0, .inr (8, [.ref (o 1), .ref (o 2), .int (nI hs), .int bads, .int nos, .int fuls, .int cau, .int whe, .ref (o 3), .ref (o 4), .int (nI cnt), .int (nI ((nmD false tx cnt ((nmD false tx cnt (skL tx (cnt - p) p)).2)).2)), .int (nI (nmD false tx cnt ((nmD false tx cnt (skL tx (cnt - p) p)).2)).2), .int isw, .int (nI k), .ref (o 5), .ref (o 6)])), (o 4, .inl (g.2.1, 120, .inl tx)), (o 5, .inl (g.2.1, 24, .inl wo)), (o 6, .inl (g.2.1, 72, .inl (upd nu (3 * k) (nmV false tx cnt (skL tx (cnt - p) p)))))]) (st1 := [.int 0]) E hw [0, 1, 3] rfl (x_runV (rest := []) E hw (c_X8_number_0no l g o hs bads nos fuls cau whe cnt ((nmD false tx cnt (skL tx (cnt - p) p)).2) fau isw (nI k) tx (upd nu (3 * k) (nmV false tx cnt (skL tx (cnt - p) p))) (3 * k + 1) (by omega) (nmD_le (skL_le hp)).2 (by omega) hn_34) km_X8_182 kv_X8_number [0, 1, 3] rfl (by decide) 0 rfl hl.1 rfl rfl (Nat.le_of_ble_eq_true rfl) ⟨Nat.le_of_ble_eq_true rfl, Nat.le_of_ble_eq_true rfl⟩ ⟨Nat.zero_le _, Nat.zero_le _⟩ dX8_order_127) rfl rfl rfl (fun H locs hw => ?_)
                    refine lv_istore (lv' := [(4, .int 0), (5, .int 1), (3, .int 3), (2, .int 2), (1, .int (nI p)), (0, .ref (o 0))]) hx hb dX8_order_130 hl (by decide) rfl (fun ls hl => ?_)
                    refine lv_iinc (v := 2) (lv' := [(5, .int 2), (4, .int 0), (3, .int 3), (2, .int 2), (1, .int (nI p)), (0, .ref (o 0))]) hx hb dX8_order_132 hl (k := 1) rfl (by decide) (by decide) rfl (fun ls hl => ?_)
                    refine lv_goto (tgt := 90) hx hb dX8_order_135 (by decide) ?_
                    refine lv_iload hx hb dX8_order_90 (lv_at hl 0 rfl) ?_
                    refine lv_iload_n hx hb dX8_order_92 rfl (lv_at hl 2 rfl) ?_
                    refine lv_icmp_ge (tgt := 138) hx hb dX8_order_93 (by decide) (fun h => absurd h (by decide)) (fun _ => ?_)
                    refine lv_iload hx hb dX8_order_96 (lv_at hl 1 rfl) ?_
                    refine lv_if_eq (tgt := 138) hx hb dX8_order_98 (by decide) (fun _ => ?_) (fun h => absurd h (by decide))
                    refine lv_iload hx hb dX8_order_138 (lv_at hl 1 rfl) ?_
                    refine lv_if_ne (tgt := 145) hx hb dX8_order_140 (by decide) (fun h => absurd h (by decide)) (fun _ => ?_)
                    refine lv_iconst (v := 0) hx hb dX8_order_143 (by decide) ?_
                    have ho : orR tx cnt k p wo nu fau isw = (false, (nmD false tx cnt ((nmD false tx cnt (skL tx (cnt - p) p)).2)).2, wo, upd nu (3 * k) (nmV false tx cnt (skL tx (cnt - p) p)), nI (nmD false tx cnt ((nmD false tx cnt (skL tx (cnt - p) p)).2)).2, isw, k) := by simp only [orR, or3, or3b, or3c, or1, orE, if_neg cl, if_neg c0, if_neg c1, if_neg c2, if_pos c3, if_pos hn_30, if_neg hn_34]
                    exact xr_z hQ E hr hw dX8_order_144 (by decide) ⟨congrArg (fun z => some (Value.int z)) ((by rw [ho]; rfl)), (by rw [ho] <;> rfl)⟩
                · refine x_go (ws' := [(o 0, .inr (8, [.ref (o 1), .ref (o 2), .int (nI hs), .int bads, .int nos, .int fuls, .int cau, .int whe, .ref (o 3), .ref (o 4), .int (nI cnt), .int (nI ((nmD false tx cnt (skL tx (cnt - p) p)).2)), .int (nI (nmD false tx cnt (skL tx (cnt - p) p)).2), .int isw, .int (nI k), .ref (o 5), .ref (o 6)])), (o 4, .inl (g.2.1, 120, .inl tx)), (o 5, .inl (g.2.1, 24, .inl wo)), (o 6, .inl (g.2.1, 72, .inl nu))]) (st1 := [.int 0]) E hw [0, 1, 3] rfl (x_runV (rest := []) E hw (c_X8_number_0no l g o hs bads nos fuls cau whe cnt (skL tx (cnt - p) p) fau isw (nI k) tx nu (3 * k) (by omega) (skL_le hp) (by omega) hn_30) km_X8_182 kv_X8_number [0, 1, 3] rfl (by decide) 0 rfl hl.1 rfl rfl (Nat.le_of_ble_eq_true rfl) ⟨Nat.le_of_ble_eq_true rfl, Nat.le_of_ble_eq_true rfl⟩ ⟨Nat.zero_le _, Nat.zero_le _⟩ dX8_order_127) rfl rfl rfl (fun H locs hw => ?_)
                  refine lv_istore (lv' := [(4, .int 0), (5, .int 0), (3, .int 3), (2, .int 2), (1, .int (nI p)), (0, .ref (o 0))]) hx hb dX8_order_130 hl (by decide) rfl (fun ls hl => ?_)
                  refine lv_iinc (v := 1) (lv' := [(5, .int 1), (4, .int 0), (3, .int 3), (2, .int 2), (1, .int (nI p)), (0, .ref (o 0))]) hx hb dX8_order_132 hl (k := 1) rfl (by decide) (by decide) rfl (fun ls hl => ?_)
                  refine lv_goto (tgt := 90) hx hb dX8_order_135 (by decide) ?_
                  refine lv_iload hx hb dX8_order_90 (lv_at hl 0 rfl) ?_
                  refine lv_iload_n hx hb dX8_order_92 rfl (lv_at hl 2 rfl) ?_
                  refine lv_icmp_ge (tgt := 138) hx hb dX8_order_93 (by decide) (fun h => absurd h (by decide)) (fun _ => ?_)
                  refine lv_iload hx hb dX8_order_96 (lv_at hl 1 rfl) ?_
                  refine lv_if_eq (tgt := 138) hx hb dX8_order_98 (by decide) (fun _ => ?_) (fun h => absurd h (by decide))
                  refine lv_iload hx hb dX8_order_138 (lv_at hl 1 rfl) ?_
                  refine lv_if_ne (tgt := 145) hx hb dX8_order_140 (by decide) (fun h => absurd h (by decide)) (fun _ => ?_)
                  refine lv_iconst (v := 0) hx hb dX8_order_143 (by decide) ?_
                  have ho : orR tx cnt k p wo nu fau isw = (false, (nmD false tx cnt (skL tx (cnt - p) p)).2, wo, nu, nI (nmD false tx cnt (skL tx (cnt - p) p)).2, isw, k) := by simp only [orR, or3, or3b, or3c, or1, orE, if_neg cl, if_neg c0, if_neg c1, if_neg c2, if_pos c3, if_neg hn_30]
                  exact xr_z hQ E hr hw dX8_order_144 (by decide) ⟨congrArg (fun z => some (Value.int z)) ((by rw [ho]; rfl)), (by rw [ho] <;> rfl)⟩
          · refine lv_aload_n hx hb dX8_order_56 rfl (lv_at hl 2 rfl) ?_
            refine lv_iconst (v := 1) hx hb dX8_order_57 (by decide) ?_
            refine x_put E hw kf_X8_175 kp_X8_13 0 rfl (ty := .boolean) (by decide +kernel) rfl rfl (by simp) (ws' := [(o 0, .inr (8, [.ref (o 1), .ref (o 2), .int (nI hs), .int bads, .int nos, .int fuls, .int cau, .int whe, .ref (o 3), .ref (o 4), .int (nI cnt), .int (nI (skL tx (cnt - p) p)), .int fau, .int 1, .int (nI k), .ref (o 5), .ref (o 6)])), (o 4, .inl (g.2.1, 120, .inl tx)), (o 5, .inl (g.2.1, 24, .inl wo)), (o 6, .inl (g.2.1, 72, .inl nu))]) rfl dX8_order_58 (fun H locs hw => ?_)
            refine lv_aload_n hx hb dX8_order_61 rfl (lv_at hl 2 rfl) ?_
            refine lv_iload_n hx hb dX8_order_62 rfl (lv_at hl 1 rfl) ?_
            refine x_put E hw kf_X8_159 kp_X8_12 0 rfl (ty := .int) (by decide +kernel) rfl rfl (by simp) (ws' := [(o 0, .inr (8, [.ref (o 1), .ref (o 2), .int (nI hs), .int bads, .int nos, .int fuls, .int cau, .int whe, .ref (o 3), .ref (o 4), .int (nI cnt), .int (nI (skL tx (cnt - p) p)), .int (nI p), .int 1, .int (nI k), .ref (o 5), .ref (o 6)])), (o 4, .inl (g.2.1, 120, .inl tx)), (o 5, .inl (g.2.1, 24, .inl wo)), (o 6, .inl (g.2.1, 72, .inl nu))]) rfl dX8_order_63 (fun H locs hw => ?_)
            refine lv_iconst (v := 0) hx hb dX8_order_66 (by decide) ?_
            have ho : orR tx cnt k p wo nu fau isw = (false, skL tx (cnt - p) p, wo, nu, nI p, 1, k) := by simp only [orR, or3, or3b, or3c, or1, orE, if_neg cl, if_neg c0, if_pos c1]
            exact xr_z hQ E hr hw dX8_order_67 (by decide) ⟨congrArg (fun z => some (Value.int z)) ((by rw [ho]; rfl)), (by rw [ho] <;> rfl)⟩
        · refine lv_aload_n hx hb dX8_order_40 rfl (lv_at hl 1 rfl) ?_
          refine x_go (ws' := [(o 0, .inr (8, [.ref (o 1), .ref (o 2), .int (nI hs), .int bads, .int nos, .int fuls, .int cau, .int whe, .ref (o 3), .ref (o 4), .int (nI cnt), .int (nI (skL tx (cnt - p) p)), .int (nI (skL tx (cnt - p) p)), .int isw, .int (nI k), .ref (o 5), .ref (o 6)])), (o 4, .inl (g.2.1, 120, .inl tx)), (o 5, .inl (g.2.1, 24, .inl wo)), (o 6, .inl (g.2.1, 72, .inl nu))]) (st1 := [.int 0]) E hw [0] rfl (x_runV (rest := []) E hw (c_X8_stopsHere l g o hs bads nos fuls cau whe cnt (skL tx (cnt - p) p) fau isw (nI k) ) km_X8_165 kv_X8_stopsHere [0] rfl (by decide) 0 rfl hl.1 rfl rfl (Nat.le_of_ble_eq_true rfl) ⟨Nat.le_of_ble_eq_true rfl, Nat.le_of_ble_eq_true rfl⟩ ⟨Nat.zero_le _, Nat.zero_le _⟩ dX8_order_41) rfl rfl rfl (fun H locs hw => ?_)
          have ho : orR tx cnt k p wo nu fau isw = (false, skL tx (cnt - p) p, wo, nu, nI (skL tx (cnt - p) p), isw, k) := by simp only [orR, or3, or3b, or3c, or1, orE, if_neg cl, if_pos c0]
          exact xr_z hQ E hr hw dX8_order_44 (by decide) ⟨congrArg (fun z => some (Value.int z)) ((by rw [ho]; rfl)), (by rw [ho] <;> rfl)⟩
      · refine lv_aload_n hx hb dX8_order_19 rfl (lv_at hl 1 rfl) ?_
        refine lv_dup hx hb dX8_order_20 rfl ?_
        refine x_get E hw kf_X8_149 0 rfl rfl dX8_order_21 ?_
        refine lv_iconst (v := 1) hx hb dX8_order_24 (by decide) ?_
        refine xn_add hx hb x 1 rfl rfl dX8_order_25 ?_
        refine x_put E hw kf_X8_149 kp_X8_11 0 rfl (ty := .int) (by decide +kernel) rfl rfl (by simp) (ws' := [(o 0, .inr (8, [.ref (o 1), .ref (o 2), .int (nI hs), .int bads, .int nos, .int fuls, .int cau, .int whe, .ref (o 3), .ref (o 4), .int (nI cnt), .int (nI (x + 1)), .int fau, .int isw, .int (nI k), .ref (o 5), .ref (o 6)])), (o 4, .inl (g.2.1, 120, .inl tx)), (o 5, .inl (g.2.1, 24, .inl wo)), (o 6, .inl (g.2.1, 72, .inl nu))]) rfl dX8_order_26 (fun H locs hw => ?_)
        refine lv_goto (tgt := 5) hx hb dX8_order_29 (by decide) ?_
        have hl : lv_has ls 6 [(1, .int (nI p)), (0, .ref (o 0))] := lv_sub hl [0, 1] rfl
        have hl : lv_has ls 6 [(1, .int (nI p)), (0, .ref (o 0))] := hl
        have hw : xW g A0 s0 [(o 0, .inr (8, [.ref (o 1), .ref (o 2), .int (nI hs), .int bads, .int nos, .int fuls, .int cau, .int whe, .ref (o 3), .ref (o 4), .int (nI cnt), .int (nI (x + 1)), .int fau, .int isw, .int (nI k), .ref (o 5), .ref (o 6)])), (o 4, .inl (g.2.1, 120, .inl tx)), (o 5, .inl (g.2.1, 24, .inl wo)), (o 6, .inl (g.2.1, 72, .inl nu))] _ _ := hw
        exact ih (x + 1) (by have := ((hr_in (by decide)).mp cl).1; omega) (((hr_in (by decide)).mp cl).1) ((skL_st ((hr_in (by decide)).mp cl).1 ((hr_in (by decide)).mp cl).2).symm.trans hv) _ _ _ hw hl
  have hl : lv_has ls 6 [(1, .int (nI p)), (0, .ref (o 0))] := lv_sub hl [0, 1] rfl
  have hl : lv_has ls 6 [(1, .int (nI p)), (0, .ref (o 0))] := hl
  have hw : xW g A0 s0 [(o 0, .inr (8, [.ref (o 1), .ref (o 2), .int (nI hs), .int bads, .int nos, .int fuls, .int cau, .int whe, .ref (o 3), .ref (o 4), .int (nI cnt), .int (nI p), .int fau, .int isw, .int (nI k), .ref (o 5), .ref (o 6)])), (o 4, .inl (g.2.1, 120, .inl tx)), (o 5, .inl (g.2.1, 24, .inl wo)), (o 6, .inl (g.2.1, 72, .inl nu))] _ _ := hw
  exact lp_5 ((cnt - p) + 1) p (Nat.lt_succ_self _) (by omega) rfl _ _ _ hw hl
