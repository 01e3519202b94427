
theorem lwQ_id (ce gr : Nat → Int32) (b : Int32) (len L : Nat) (sq : Nat → Int32) : lwQ ce gr b len L 0 (lwQ ce gr b len L 0 sq) = lwQ ce gr b len L 0 sq := by
  funext j
  unfold lwQ
  by_cases h : 0 ≤ j ∧ j ≤ L
  · rw [if_pos h, if_pos h]
  · rw [if_neg h, if_neg h]

set_option maxRecDepth 100000 in
theorem c_X8_isDone_ok (l : Launch) (g : xCfg) (o : Nat → Nat) (hs : Nat) (bads : Int32) (nos : Int32) (fuls : Int32) (cau : Int32) (whe : Int32) (cnt : Nat) (p : Nat) (fau : Int32) (isw : Int32) (ods : Int32) (v : SV) (wo : Nat → Int32) (nu : Nat → Int32) (k : Nat) (hL1 : 1 ≤ v.1) (hL : v.1 ≤ 200) (hk : k < 24) (hbe : ∀ a, a < v.1 → ¬ v.2.2.2.1 a ≤ -1000) (hse : ∀ w, w < 7 → ¬ v.2.2.2.2.1 w ≤ -1000) (hb0 : obOk (wo k) (nu (k * 3 + 0)) (nu (k * 3 + 1)) (nu (k * 3 + 2)) v.1) : Ct l g yX8_isDone cX8_isDone 8 (some .boolean) (xR 4 130) [.ref (o 0), .int (nI k)] [(o 0, .inr (8, [.ref (o 1), .ref (o 2), .int (nI hs), .int bads, .int nos, .int fuls, .int cau, .int whe, .ref (o 3), .ref (o 4), .int (nI cnt), .int (nI p), .int fau, .int isw, .int ods, .ref (o 5), .ref (o 6)])), (o 1, .inl (g.2.1, 616, .inl (nwF v))), (o 5, .inl (g.2.1, 24, .inl wo)), (o 6, .inl (g.2.1, 72, .inl nu))] (is1 (some (.int 1)) [(o 0, .inr (8, [.ref (o 1), .ref (o 2), .int (nI hs), .int bads, .int nos, .int fuls, .int cau, .int whe, .ref (o 3), .ref (o 4), .int (nI cnt), .int (nI p), .int fau, .int isw, .int ods, .ref (o 5), .ref (o 6)])), (o 1, .inl (g.2.1, 616, .inl (nwF (obS (wo k) (nu (k * 3 + 0)) (nu (k * 3 + 1)) (nu (k * 3 + 2)) v)))), (o 5, .inl (g.2.1, 24, .inl wo)), (o 6, .inl (g.2.1, 72, .inl nu))]) := by
  unfold obS
  rw [show k * 3 + 0 = 3 * k by omega, show k * 3 + 1 = 3 * k + 1 by omega, show k * 3 + 2 = 3 * k + 2 by omega] at hb0 ⊢
  generalize ea : nu (3 * k) = a at hb0 ⊢
  generalize eb : nu (3 * k + 1) = b at hb0 ⊢
  generalize ex : nu (3 * k + 2) = x at hb0 ⊢
  rcases hb0 with ⟨e, h1, h2⟩ | ⟨e, ⟨h1, h2, h3⟩, h4⟩ | ⟨e, ⟨h1, h2, h3⟩, h4⟩ | ⟨e, h1⟩ | ⟨e, h1, h2⟩ | ⟨e, h1, h2⟩ | ⟨e, h1, h2⟩ | ⟨e, h1, h2⟩
  · obtain ⟨m, hm, rfl⟩ := nI_of (Int32.not_lt.mpr (Int32.le_trans (by decide : (0 : Int32) ≤ 5) h1))
    have q1 := (n_le (a := 5) (by decide) hm).mp h1
    have q2 := (n_le hm (b := 200) (by decide)).mp h2
    simp only [e, if_pos (rfl : (0 : Int32) = 0)]
    rw [nI_clamp hm]
    exact c_X8_isDone_0 l g o hs bads nos fuls cau whe cnt p fau isw ods v wo nu k m hL1 hL hk e ea q1 q2
  · obtain ⟨a, ha, rfl⟩ := inL_of h1 hL1 hL
    obtain ⟨z, hz, rfl⟩ := inL_of h2 hL1 hL
    have q1 := (n_le (by omega) (by omega)).mp h3
    simp only [e, if_neg (by decide : ¬ (1 : Int32) = 0), if_pos (rfl : (1 : Int32) = 1)]
    rw [nI_clamp (by omega), nI_clamp (by omega)]
    rcases h4 with ⟨z0, q2, q3⟩ | ⟨z0, q2, q3⟩
    · subst ex; exact c_X8_isDone_1 l g o hs bads nos fuls cau whe cnt p fau isw ods v wo nu k a z hL1 hL hk e ea eb hz q1 q2 q3
    · exact absurd z0 (by decide)
  · obtain ⟨a, ha, rfl⟩ := inL_of h1 hL1 hL
    obtain ⟨z, hz, rfl⟩ := inL_of h2 hL1 hL
    have q1 := (n_le (by omega) (by omega)).mp h3
    simp only [e, if_neg (by decide : ¬ (2 : Int32) = 0), if_neg (by decide : ¬ (2 : Int32) = 1), if_pos (rfl : (2 : Int32) = 2)]
    rw [nI_clamp (by omega), nI_clamp (by omega)]
    rcases h4 with ⟨z0, q2, q3⟩ | ⟨z0, q2, q3⟩
    · exact absurd z0 (by decide)
    · subst ex; exact c_X8_isDone_2 l g o hs bads nos fuls cau whe cnt p fau isw ods v wo nu k a z hL1 hL hk e ea eb hz q1 q2 q3
  · obtain ⟨a, ha, rfl⟩ := inL_of h1 hL1 hL
    simp only [e, if_neg (by decide : ¬ (3 : Int32) = 0), if_neg (by decide : ¬ (3 : Int32) = 1), if_neg (by decide : ¬ (3 : Int32) = 2), if_pos (rfl : (3 : Int32) = 3)]
    rw [nI_clamp (by omega)]
    exact c_X8_isDone_3 l g o hs bads nos fuls cau whe cnt p fau isw ods v wo nu k a hL1 hL hk e ea ha (hbe a ha)
  · simp only [e, if_neg (by decide : ¬ (4 : Int32) = 0), if_neg (by decide : ¬ (4 : Int32) = 1), if_neg (by decide : ¬ (4 : Int32) = 2), if_neg (by decide : ¬ (4 : Int32) = 3), if_pos (rfl : (4 : Int32) = 4)]
    subst ea; exact c_X8_isDone_4 l g o hs bads nos fuls cau whe cnt p fau isw ods v wo nu k hL1 hL hk e h1 h2 (hse 0 (by decide))
  · simp only [e, if_neg (by decide : ¬ (5 : Int32) = 0), if_neg (by decide : ¬ (5 : Int32) = 1), if_neg (by decide : ¬ (5 : Int32) = 2), if_neg (by decide : ¬ (5 : Int32) = 3), if_neg (by decide : ¬ (5 : Int32) = 4), if_pos (rfl : (5 : Int32) = 5)]
    subst ea; exact c_X8_isDone_5 l g o hs bads nos fuls cau whe cnt p fau isw ods v wo nu k hL1 hL hk e h1 h2 (hse 1 (by decide))
  · simp only [e, if_neg (by decide : ¬ (6 : Int32) = 0), if_neg (by decide : ¬ (6 : Int32) = 1), if_neg (by decide : ¬ (6 : Int32) = 2), if_neg (by decide : ¬ (6 : Int32) = 3), if_neg (by decide : ¬ (6 : Int32) = 4), if_neg (by decide : ¬ (6 : Int32) = 5), if_pos (rfl : (6 : Int32) = 6)]
    subst ea; exact c_X8_isDone_6 l g o hs bads nos fuls cau whe cnt p fau isw ods v wo nu k hL1 hL hk e h1 h2 (hse 2 (by decide))
  · simp only [e, if_neg (by decide : ¬ (7 : Int32) = 0), if_neg (by decide : ¬ (7 : Int32) = 1), if_neg (by decide : ¬ (7 : Int32) = 2), if_neg (by decide : ¬ (7 : Int32) = 3), if_neg (by decide : ¬ (7 : Int32) = 4), if_neg (by decide : ¬ (7 : Int32) = 5), if_neg (by decide : ¬ (7 : Int32) = 6)]
    subst ea; exact c_X8_isDone_7 l g o hs bads nos fuls cau whe cnt p fau isw ods v wo nu k hL1 hL hk e h1 h2 (hse 3 (by decide))

set_option maxRecDepth 100000 in
theorem c_X8_isDone_no (l : Launch) (g : xCfg) (o : Nat → Nat) (hs : Nat) (bads : Int32) (nos : Int32) (fuls : Int32) (cau : Int32) (whe : Int32) (cnt : Nat) (p : Nat) (fau : Int32) (isw : Int32) (ods : Int32) (v : SV) (wo : Nat → Int32) (nu : Nat → Int32) (k : Nat) (hL1 : 1 ≤ v.1) (hL : v.1 ≤ 200) (hk : k < 24) (hwv : ∃ w, w < 8 ∧ wo k = nI w) (hb0 : ¬ obOk (wo k) (nu (k * 3 + 0)) (nu (k * 3 + 1)) (nu (k * 3 + 2)) v.1) : Ct l g yX8_isDone cX8_isDone 8 (some .boolean) (xR 4 130) [.ref (o 0), .int (nI k)] [(o 0, .inr (8, [.ref (o 1), .ref (o 2), .int (nI hs), .int bads, .int nos, .int fuls, .int cau, .int whe, .ref (o 3), .ref (o 4), .int (nI cnt), .int (nI p), .int fau, .int isw, .int ods, .ref (o 5), .ref (o 6)])), (o 1, .inl (g.2.1, 616, .inl (nwF v))), (o 5, .inl (g.2.1, 24, .inl wo)), (o 6, .inl (g.2.1, 72, .inl nu))] (is1 (some (.int 0)) [(o 0, .inr (8, [.ref (o 1), .ref (o 2), .int (nI hs), .int bads, .int nos, .int fuls, .int cau, .int whe, .ref (o 3), .ref (o 4), .int (nI cnt), .int (nI p), .int fau, .int isw, .int ods, .ref (o 5), .ref (o 6)])), (o 1, .inl (g.2.1, 616, .inl (nwF v))), (o 5, .inl (g.2.1, 24, .inl wo)), (o 6, .inl (g.2.1, 72, .inl nu))]) := by
  rw [show k * 3 + 0 = 3 * k by omega, show k * 3 + 1 = 3 * k + 1 by omega, show k * 3 + 2 = 3 * k + 2 by omega] at hb0
  obtain ⟨w, hw, e⟩ := hwv
  match w, hw, e with
  | 0, _, e => exact c_X8_isDone_b0 l g o hs bads nos fuls cau whe cnt p fau isw ods v wo nu k hL1 hL hk e (fun z => hb0 (Or.inl ⟨e, z⟩))
  | 1, _, e => exact c_X8_isDone_b1 l g o hs bads nos fuls cau whe cnt p fau isw ods v wo nu k hL1 hL hk e (fun z => hb0 (Or.inr (Or.inl ⟨e, z⟩)))
  | 2, _, e => exact c_X8_isDone_b2 l g o hs bads nos fuls cau whe cnt p fau isw ods v wo nu k hL1 hL hk e (fun z => hb0 (Or.inr (Or.inr (Or.inl ⟨e, z⟩))))
  | 3, _, e => exact c_X8_isDone_b3 l g o hs bads nos fuls cau whe cnt p fau isw ods v wo nu k hL1 hL hk e (fun z => hb0 (Or.inr (Or.inr (Or.inr (Or.inl ⟨e, z⟩)))))
  | 4, _, e => exact c_X8_isDone_b4 l g o hs bads nos fuls cau whe cnt p fau isw ods v wo nu k hL1 hL hk e (fun z => hb0 (Or.inr (Or.inr (Or.inr (Or.inr (Or.inl ⟨e, ((setOk_w (w := 0) (by decide)).mp z)⟩))))))
  | 5, _, e => exact c_X8_isDone_b5 l g o hs bads nos fuls cau whe cnt p fau isw ods v wo nu k hL1 hL hk e (fun z => hb0 (Or.inr (Or.inr (Or.inr (Or.inr (Or.inr (Or.inl ⟨e, ((setOk_w (w := 1) (by decide)).mp z)⟩)))))))
  | 6, _, e => exact c_X8_isDone_b6 l g o hs bads nos fuls cau whe cnt p fau isw ods v wo nu k hL1 hL hk e (fun z => hb0 (Or.inr (Or.inr (Or.inr (Or.inr (Or.inr (Or.inr (Or.inl ⟨e, ((setOk_w (w := 2) (by decide)).mp z)⟩))))))))
  | 7, _, e => exact c_X8_isDone_b7 l g o hs bads nos fuls cau whe cnt p fau isw ods v wo nu k hL1 hL hk e (fun z => hb0 (Or.inr (Or.inr (Or.inr (Or.inr (Or.inr (Or.inr (Or.inr (⟨e, ((setOk_w (w := 3) (by decide)).mp z)⟩)))))))))
  | w + 8, hw, _ => exact absurd hw (by omega)

theorem c_X8_reads_ok (l : Launch) (g : xCfg) (o : Nat → Nat) (hs : Nat) (bads : Int32) (nos : Int32) (fuls : Int32) (cau : Int32) (whe : Int32) (cnt : Nat) (p : Nat) (fau : Int32) (isw : Int32) (ods : Int32) (tx : Nat → Int32) (wo : Nat → Int32) (nu : Nat → Int32) (pp : Nat) (wo2 : Nat → Int32) (nu2 : Nat → Int32) (fa2 : Int32) (iw2 : Int32) (K : Nat) (hc : cnt ≤ 120) (hR : rrR tx cnt 25 0 (skB tx (cnt - 0) 0) wo nu fau 0 = (true, pp, wo2, nu2, fa2, iw2, K)) : Ct l g yX8_reads cX8_reads 2 (some .boolean) (xR 4 92) [.ref (o 0)] [(o 0, .inr (8, [.ref (o 1), .ref (o 2), .int (nI hs), .int bads, .int nos, .int fuls, .int cau, .int whe, .ref (o 3), .ref (o 4), .int (nI cnt), .int (nI p), .int fau, .int isw, .int ods, .ref (o 5), .ref (o 6)])), (o 4, .inl (g.2.1, 120, .inl tx)), (o 5, .inl (g.2.1, 24, .inl wo)), (o 6, .inl (g.2.1, 72, .inl nu))] (is1 (some (.int 1)) [(o 0, .inr (8, [.ref (o 1), .ref (o 2), .int (nI hs), .int bads, .int nos, .int fuls, .int cau, .int whe, .ref (o 3), .ref (o 4), .int (nI cnt), .int (nI pp), .int fa2, .int iw2, .int (nI K), .ref (o 5), .ref (o 6)])), (o 4, .inl (g.2.1, 120, .inl tx)), (o 5, .inl (g.2.1, 24, .inl wo2)), (o 6, .inl (g.2.1, 72, .inl nu2))]) := by
  have h1 := c_X8_reads l g o hs bads nos fuls cau whe cnt p fau isw ods tx wo nu hc
  rw [hR] at h1
  exact h1

theorem c_X8_reads_no (l : Launch) (g : xCfg) (o : Nat → Nat) (hs : Nat) (bads : Int32) (nos : Int32) (fuls : Int32) (cau : Int32) (whe : Int32) (cnt : Nat) (p : Nat) (fau : Int32) (isw : Int32) (ods : Int32) (tx : Nat → Int32) (wo : Nat → Int32) (nu : Nat → Int32) (pp : Nat) (wo2 : Nat → Int32) (nu2 : Nat → Int32) (fa2 : Int32) (iw2 : Int32) (K : Nat) (hc : cnt ≤ 120) (hR : rrR tx cnt 25 0 (skB tx (cnt - 0) 0) wo nu fau 0 = (false, pp, wo2, nu2, fa2, iw2, K)) : Ct l g yX8_reads cX8_reads 2 (some .boolean) (xR 4 92) [.ref (o 0)] [(o 0, .inr (8, [.ref (o 1), .ref (o 2), .int (nI hs), .int bads, .int nos, .int fuls, .int cau, .int whe, .ref (o 3), .ref (o 4), .int (nI cnt), .int (nI p), .int fau, .int isw, .int ods, .ref (o 5), .ref (o 6)])), (o 4, .inl (g.2.1, 120, .inl tx)), (o 5, .inl (g.2.1, 24, .inl wo)), (o 6, .inl (g.2.1, 72, .inl nu))] (is1 (some (.int 0)) [(o 0, .inr (8, [.ref (o 1), .ref (o 2), .int (nI hs), .int bads, .int nos, .int fuls, .int cau, .int whe, .ref (o 3), .ref (o 4), .int (nI cnt), .int (nI pp), .int fa2, .int iw2, .int (nI K), .ref (o 5), .ref (o 6)])), (o 4, .inl (g.2.1, 120, .inl tx)), (o 5, .inl (g.2.1, 24, .inl wo2)), (o 6, .inl (g.2.1, 72, .inl nu2))]) := by
  have h1 := c_X8_reads l g o hs bads nos fuls cau whe cnt p fau isw ods tx wo nu hc
  rw [hR] at h1
  exact h1

set_option maxRecDepth 100000 in
set_option maxHeartbeats 4000000 in
theorem c_X8_does_f (l : Launch) (g : xCfg) (o : Nat → Nat) (hs : Nat) (bads : Int32) (nos : Int32) (fuls : Int32) (cau : Int32) (whe : Int32) (cnt : Nat) (p : Nat) (fau : Int32) (isw : Int32) (ods : Int32) (v : SV) (P : Nat → SV) (sq : Nat → Int32) (tx : Nat → Int32) (wo : Nat → Int32) (nu : Nat → Int32) (pp : Nat) (wo2 : Nat → Int32) (nu2 : Nat → Int32) (fa2 : Int32) (iw2 : Int32) (K : Nat) (hc : cnt ≤ 120) (hR : rrR tx cnt 25 0 (skB tx (cnt - 0) 0) wo nu fau 0 = (false, pp, wo2, nu2, fa2, iw2, K)) : Ct l g yX8_does cX8_does 2 (some .int) (xR 5 113) [.ref (o 0)] [(o 0, .inr (8, [.ref (o 1), .ref (o 2), .int (nI hs), .int bads, .int nos, .int fuls, .int cau, .int whe, .ref (o 3), .ref (o 4), .int (nI cnt), .int (nI p), .int fau, .int isw, .int ods, .ref (o 5), .ref (o 6)])), (o 1, .inl (g.2.1, 616, .inl (nwF v))), (o 2, .inl (g.2.1, 4312, .inl (pF P))), (o 3, .inl (g.2.1, 201, .inl sq)), (o 4, .inl (g.2.1, 120, .inl tx)), (o 5, .inl (g.2.1, 24, .inl wo)), (o 6, .inl (g.2.1, 72, .inl nu))] (is1 (some (.int (-10 - fa2))) [(o 0, .inr (8, [.ref (o 1), .ref (o 2), .int (nI hs), .int bads, .int nos, .int fuls, .int (if iw2 = 0 then 2 else 1), .int fa2, .ref (o 3), .ref (o 4), .int (nI cnt), .int (nI pp), .int fa2, .int iw2, .int (nI K), .ref (o 5), .ref (o 6)])), (o 1, .inl (g.2.1, 616, .inl (nwF v))), (o 2, .inl (g.2.1, 4312, .inl (pF P))), (o 3, .inl (g.2.1, 201, .inl sq)), (o 4, .inl (g.2.1, 120, .inl tx)), (o 5, .inl (g.2.1, 24, .inl wo2)), (o 6, .inl (g.2.1, 72, .inl nu2))]) := by
  refine Ct.walk (by decide) (Nat.le_of_ble_eq_true rfl) ?_
  intro p0 e0 s0 m0 below meth c0 A0 ls Q hQ E hr hnm hw hl
  have hx := E.x
  have hb := E.b
  have hl : lv_has ls 2 [(0, .ref (o 0))] := hl
  refine lv_aload_n hx hb dX8_does_0 rfl (lv_at hl 0 rfl) ?_
  refine x_go (ws' := [(o 0, .inr (8, [.ref (o 1), .ref (o 2), .int (nI hs), .int bads, .int nos, .int fuls, .int cau, .int whe, .ref (o 3), .ref (o 4), .int (nI cnt), .int (nI pp), .int fa2, .int iw2, .int (nI K), .ref (o 5), .ref (o 6)])), (o 1, .inl (g.2.1, 616, .inl (nwF v))), (o 2, .inl (g.2.1, 4312, .inl (pF P))), (o 3, .inl (g.2.1, 201, .inl sq)), (o 4, .inl (g.2.1, 120, .inl tx)), (o 5, .inl (g.2.1, 24, .inl wo2)), (o 6, .inl (g.2.1, 72, .inl nu2))]) (st1 := [.int 0]) E hw [0, 4, 5, 6] rfl (x_runV (rest := []) E hw (c_X8_reads_no l g o hs bads nos fuls cau whe cnt p fau isw ods tx wo nu pp wo2 nu2 fa2 iw2 K (by omega) hR) km_X8_189 kv_X8_reads [0, 4, 5, 6] rfl (by decide) 0 rfl hl.1 rfl rfl (Nat.le_of_ble_eq_true rfl) ⟨Nat.le_of_ble_eq_true rfl, Nat.le_of_ble_eq_true rfl⟩ ⟨Nat.zero_le _, Nat.zero_le _⟩ dX8_does_1) rfl rfl rfl (fun H locs hw => ?_)
  refine lv_if_ne (tgt := 39) hx hb dX8_does_4 (by decide) (fun h => absurd h (by decide)) (fun _ => ?_)
  refine lv_aload_n hx hb dX8_does_7 rfl (lv_at hl 0 rfl) ?_
  refine lv_aload_n hx hb dX8_does_8 rfl (lv_at hl 0 rfl) ?_
  refine x_get E hw kf_X8_175 0 rfl rfl dX8_does_9 ?_
  refine lv_if_eq (tgt := 19) hx hb dX8_does_12 (by decide) (fun c1 => ?_) (fun c1 => ?_)
  · refine lv_iconst (v := 2) hx hb dX8_does_19 (by decide) ?_
    refine x_put E hw kf_X8_192 kp_X8_6 0 rfl (ty := .int) (by decide +kernel) rfl rfl (by simp) (ws' := [(o 0, .inr (8, [.ref (o 1), .ref (o 2), .int (nI hs), .int bads, .int nos, .int fuls, .int 2, .int whe, .ref (o 3), .ref (o 4), .int (nI cnt), .int (nI pp), .int fa2, .int iw2, .int (nI K), .ref (o 5), .ref (o 6)])), (o 1, .inl (g.2.1, 616, .inl (nwF v))), (o 2, .inl (g.2.1, 4312, .inl (pF P))), (o 3, .inl (g.2.1, 201, .inl sq)), (o 4, .inl (g.2.1, 120, .inl tx)), (o 5, .inl (g.2.1, 24, .inl wo2)), (o 6, .inl (g.2.1, 72, .inl nu2))]) rfl dX8_does_20 (fun H locs hw => ?_)
    refine lv_aload_n hx hb dX8_does_23 rfl (lv_at hl 0 rfl) ?_
    refine lv_aload_n hx hb dX8_does_24 rfl (lv_at hl 0 rfl) ?_
    refine x_get E hw kf_X8_159 0 rfl rfl dX8_does_25 ?_
    refine x_put E hw kf_X8_16 kp_X8_7 0 rfl (ty := .int) (by decide +kernel) rfl rfl (by simp) (ws' := [(o 0, .inr (8, [.ref (o 1), .ref (o 2), .int (nI hs), .int bads, .int nos, .int fuls, .int 2, .int fa2, .ref (o 3), .ref (o 4), .int (nI cnt), .int (nI pp), .int fa2, .int iw2, .int (nI K), .ref (o 5), .ref (o 6)])), (o 1, .inl (g.2.1, 616, .inl (nwF v))), (o 2, .inl (g.2.1, 4312, .inl (pF P))), (o 3, .inl (g.2.1, 201, .inl sq)), (o 4, .inl (g.2.1, 120, .inl tx)), (o 5, .inl (g.2.1, 24, .inl wo2)), (o 6, .inl (g.2.1, 72, .inl nu2))]) rfl dX8_does_28 (fun H locs hw => ?_)
    refine lv_bipush (v := -10) hx hb dX8_does_31 (by decide) ?_
    refine lv_aload_n hx hb dX8_does_33 rfl (lv_at hl 0 rfl) ?_
    refine x_get E hw kf_X8_159 0 rfl rfl dX8_does_34 ?_
    refine lv_isub hx hb dX8_does_37 ?_
    exact xr_i hQ E hr hw dX8_does_38 ⟨rfl, (by simp only [if_pos c1])⟩
  · refine lv_iconst (v := 1) hx hb dX8_does_15 (by decide) ?_
    refine lv_goto (tgt := 20) hx hb dX8_does_16 (by decide) ?_
    refine x_put E hw kf_X8_192 kp_X8_6 0 rfl (ty := .int) (by decide +kernel) rfl rfl (by simp) (ws' := [(o 0, .inr (8, [.ref (o 1), .ref (o 2), .int (nI hs), .int bads, .int nos, .int fuls, .int 1, .int whe, .ref (o 3), .ref (o 4), .int (nI cnt), .int (nI pp), .int fa2, .int iw2, .int (nI K), .ref (o 5), .ref (o 6)])), (o 1, .inl (g.2.1, 616, .inl (nwF v))), (o 2, .inl (g.2.1, 4312, .inl (pF P))), (o 3, .inl (g.2.1, 201, .inl sq)), (o 4, .inl (g.2.1, 120, .inl tx)), (o 5, .inl (g.2.1, 24, .inl wo2)), (o 6, .inl (g.2.1, 72, .inl nu2))]) rfl dX8_does_20 (fun H locs hw => ?_)
    refine lv_aload_n hx hb dX8_does_23 rfl (lv_at hl 0 rfl) ?_
    refine lv_aload_n hx hb dX8_does_24 rfl (lv_at hl 0 rfl) ?_
    refine x_get E hw kf_X8_159 0 rfl rfl dX8_does_25 ?_
    refine x_put E hw kf_X8_16 kp_X8_7 0 rfl (ty := .int) (by decide +kernel) rfl rfl (by simp) (ws' := [(o 0, .inr (8, [.ref (o 1), .ref (o 2), .int (nI hs), .int bads, .int nos, .int fuls, .int 1, .int fa2, .ref (o 3), .ref (o 4), .int (nI cnt), .int (nI pp), .int fa2, .int iw2, .int (nI K), .ref (o 5), .ref (o 6)])), (o 1, .inl (g.2.1, 616, .inl (nwF v))), (o 2, .inl (g.2.1, 4312, .inl (pF P))), (o 3, .inl (g.2.1, 201, .inl sq)), (o 4, .inl (g.2.1, 120, .inl tx)), (o 5, .inl (g.2.1, 24, .inl wo2)), (o 6, .inl (g.2.1, 72, .inl nu2))]) rfl dX8_does_28 (fun H locs hw => ?_)
    refine lv_bipush (v := -10) hx hb dX8_does_31 (by decide) ?_
    refine lv_aload_n hx hb dX8_does_33 rfl (lv_at hl 0 rfl) ?_
    refine x_get E hw kf_X8_159 0 rfl rfl dX8_does_34 ?_
    refine lv_isub hx hb dX8_does_37 ?_
    exact xr_i hQ E hr hw dX8_does_38 ⟨rfl, (by simp only [if_neg c1])⟩

set_option maxRecDepth 100000 in
set_option maxHeartbeats 4000000 in
theorem c_X8_does_ok (l : Launch) (g : xCfg) (o : Nat → Nat) (hs : Nat) (bads : Int32) (nos : Int32) (fuls : Int32) (cau : Int32) (whe : Int32) (cnt : Nat) (p : Nat) (fau : Int32) (isw : Int32) (ods : Int32) (v : SV) (P : Nat → SV) (sq : Nat → Int32) (tx : Nat → Int32) (wo : Nat → Int32) (nu : Nat → Int32) (pp : Nat) (wo2 : Nat → Int32) (nu2 : Nat → Int32) (fa2 : Int32) (iw2 : Int32) (K : Nat) (SI : SV → Prop) (hc : cnt ≤ 120) (hh : hs ≤ 6) (hR : rrR tx cnt 25 0 (skB tx (cnt - 0) 0) wo nu fau 0 = (true, pp, wo2, nu2, fa2, iw2, K)) (hK : K ≤ 24) (hSI : ∀ u, SI u → 1 ≤ u.1 ∧ u.1 ≤ 200 ∧ (∀ a, a < u.1 → ¬ u.2.2.2.1 a ≤ -1000) ∧ (∀ w, w < 7 → ¬ u.2.2.2.2.1 w ≤ -1000)) (hSO : ∀ u w a b x, SI u → obOk w a b x u.1 → SI (obS w a b x u)) (hSv : SI v) (hwv : ∀ k, k < K → ∃ w, w < 8 ∧ wo2 k = nI w) (hall : (dsR wo2 nu2 K 0 v).1 = K) : Ct l g yX8_does cX8_does 2 (some .int) (xR 5 157) [.ref (o 0)] [(o 0, .inr (8, [.ref (o 1), .ref (o 2), .int (nI hs), .int bads, .int nos, .int fuls, .int cau, .int whe, .ref (o 3), .ref (o 4), .int (nI cnt), .int (nI p), .int fau, .int isw, .int ods, .ref (o 5), .ref (o 6)])), (o 1, .inl (g.2.1, 616, .inl (nwF v))), (o 2, .inl (g.2.1, 4312, .inl (pF P))), (o 3, .inl (g.2.1, 201, .inl sq)), (o 4, .inl (g.2.1, 120, .inl tx)), (o 5, .inl (g.2.1, 24, .inl wo)), (o 6, .inl (g.2.1, 72, .inl nu))] (is1 (some (.int (nI K))) [(o 0, .inr (8, [.ref (o 1), .ref (o 2), .int (nI (min 6 (hs + 1))), .int bads, .int nos, .int fuls, .int cau, .int whe, .ref (o 3), .ref (o 4), .int (nI cnt), .int (nI pp), .int fa2, .int iw2, .int (nI K), .ref (o 5), .ref (o 6)])), (o 1, .inl (g.2.1, 616, .inl (nwF (dsR wo2 nu2 K 0 v).2))), (o 2, .inl (g.2.1, 4312, .inl (pF (lvP (va_up P 6 v) hs)))), (o 3, .inl (g.2.1, 201, .inl sq)), (o 4, .inl (g.2.1, 120, .inl tx)), (o 5, .inl (g.2.1, 24, .inl wo2)), (o 6, .inl (g.2.1, 72, .inl nu2))]) := by
  refine Ct.walk (by decide) (Nat.le_of_ble_eq_true rfl) ?_
  intro p0 e0 s0 m0 below meth c0 A0 ls Q hQ E hr hnm hw hl
  have hx := E.x
  have hb := E.b
  have hl : lv_has ls 2 [(0, .ref (o 0))] := hl
  refine lv_aload_n hx hb dX8_does_0 rfl (lv_at hl 0 rfl) ?_
  refine x_go (ws' := [(o 0, .inr (8, [.ref (o 1), .ref (o 2), .int (nI hs), .int bads, .int nos, .int fuls, .int cau, .int whe, .ref (o 3), .ref (o 4), .int (nI cnt), .int (nI pp), .int fa2, .int iw2, .int (nI K), .ref (o 5), .ref (o 6)])), (o 1, .inl (g.2.1, 616, .inl (nwF v))), (o 2, .inl (g.2.1, 4312, .inl (pF P))), (o 3, .inl (g.2.1, 201, .inl sq)), (o 4, .inl (g.2.1, 120, .inl tx)), (o 5, .inl (g.2.1, 24, .inl wo2)), (o 6, .inl (g.2.1, 72, .inl nu2))]) (st1 := [.int 1]) E hw [0, 4, 5, 6] rfl (x_runV (rest := []) E hw (c_X8_reads_ok l g o hs bads nos fuls cau whe cnt p fau isw ods tx wo nu pp wo2 nu2 fa2 iw2 K (by omega) hR) km_X8_189 kv_X8_reads [0, 4, 5, 6] rfl (by decide) 0 rfl hl.1 rfl rfl (Nat.le_of_ble_eq_true rfl) ⟨Nat.le_of_ble_eq_true rfl, Nat.le_of_ble_eq_true rfl⟩ ⟨Nat.zero_le _, Nat.zero_le _⟩ dX8_does_1) rfl rfl rfl (fun H locs hw => ?_)
  refine lv_if_ne (tgt := 39) hx hb dX8_does_4 (by decide) (fun _ => ?_) (fun h => absurd h (by decide))
  refine lv_aload_n hx hb dX8_does_39 rfl (lv_at hl 0 rfl) ?_
  refine lv_bipush (v := 6) hx hb dX8_does_40 (by decide) ?_
  refine x_go (ws' := [(o 0, .inr (8, [.ref (o 1), .ref (o 2), .int (nI hs), .int bads, .int nos, .int fuls, .int cau, .int whe, .ref (o 3), .ref (o 4), .int (nI cnt), .int (nI pp), .int fa2, .int iw2, .int (nI K), .ref (o 5), .ref (o 6)])), (o 1, .inl (g.2.1, 616, .inl (nwF v))), (o 2, .inl (g.2.1, 4312, .inl (pF (va_up P 6 v)))), (o 3, .inl (g.2.1, 201, .inl sq)), (o 4, .inl (g.2.1, 120, .inl tx)), (o 5, .inl (g.2.1, 24, .inl wo2)), (o 6, .inl (g.2.1, 72, .inl nu2))]) (st1 := []) E hw [0, 1, 2] rfl (x_runV (rest := []) E hw (c_X8_keepTo l g o hs bads nos fuls cau whe cnt pp fa2 iw2 (nI K) v P 6 (by omega)) km_X8_41 kv_X8_keepTo [0, 1, 2] rfl (by decide) 0 rfl hl.1 rfl rfl (Nat.le_of_ble_eq_true rfl) ⟨Nat.le_of_ble_eq_true rfl, Nat.le_of_ble_eq_true rfl⟩ ⟨Nat.zero_le _, Nat.zero_le _⟩ dX8_does_42) rfl rfl rfl (fun H locs hw => ?_)
  refine lv_iconst (v := 0) hx hb dX8_does_45 (by decide) ?_
  refine lv_istore_n (lv' := [(1, .int 0), (0, .ref (o 0))]) hx hb dX8_does_46 rfl hl (by decide) rfl (fun ls hl => ?_)
  have lp_47 : ∀ (fuel : Nat) (k : Nat) (s : SV), K - k < fuel → k ≤ K → SI s → dsR wo2 nu2 (K - k) k s = dsR wo2 nu2 K 0 v → ∀ (H : Heap) (locs : List Loc) (ls : Array Slot), xW g A0 s0 [(o 0, .inr (8, [.ref (o 1), .ref (o 2), .int (nI hs), .int bads, .int nos, .int fuls, .int cau, .int whe, .ref (o 3), .ref (o 4), .int (nI cnt), .int (nI pp), .int fa2, .int iw2, .int (nI K), .ref (o 5), .ref (o 6)])), (o 1, .inl (g.2.1, 616, .inl (nwF s))), (o 2, .inl (g.2.1, 4312, .inl (pF (va_up P 6 v)))), (o 3, .inl (g.2.1, 201, .inl sq)), (o 4, .inl (g.2.1, 120, .inl tx)), (o 5, .inl (g.2.1, 24, .inl wo2)), (o 6, .inl (g.2.1, 72, .inl nu2))] H locs → lv_has ls 2 [(1, .int (nI k)), (0, .ref (o 0))] → W p0 l e0 (xR 5 157) s0 m0 [.ref (o 0)].toArray below meth c0 H locs 0 0 Q (F0 m0 47 ls []) := by
    intro fuel
    induction fuel with
    | zero => intro k s hm; exact absurd hm (Nat.not_lt_zero _)
    | succ fuel ih =>
      intro k s hm hk hs0 hv H locs ls hw hl
      refine lv_iload_n hx hb dX8_does_47 rfl (lv_at hl 0 rfl) ?_
      refine lv_aload_n hx hb dX8_does_48 rfl (lv_at hl 1 rfl) ?_
      refine x_get E hw kf_X8_179 0 rfl rfl dX8_does_49 ?_
      refine xn_ge (tgt := 91) hx hb k K rfl rfl (by omega) (by omega) dX8_does_52 (by decide) (fun ck => ?_) (fun ck => ?_)
      · refine lv_aload_n hx hb dX8_does_91 rfl (lv_at hl 1 rfl) ?_
        refine x_go (ws' := [(o 0, .inr (8, [.ref (o 1), .ref (o 2), .int (nI (min 6 (hs + 1))), .int bads, .int nos, .int fuls, .int cau, .int whe, .ref (o 3), .ref (o 4), .int (nI cnt), .int (nI pp), .int fa2, .int iw2, .int (nI K), .ref (o 5), .ref (o 6)])), (o 1, .inl (g.2.1, 616, .inl (nwF s))), (o 2, .inl (g.2.1, 4312, .inl (pF (lvP (va_up P 6 v) hs)))), (o 3, .inl (g.2.1, 201, .inl sq)), (o 4, .inl (g.2.1, 120, .inl tx)), (o 5, .inl (g.2.1, 24, .inl wo2)), (o 6, .inl (g.2.1, 72, .inl nu2))]) (st1 := []) E hw [0, 1, 2] rfl (x_runV (rest := []) E hw (c_X8_leaves l g o hs bads nos fuls cau whe cnt pp fa2 iw2 (nI K) s (va_up P 6 v) (by omega)) km_X8_201 kv_X8_leaves [0, 1, 2] rfl (by decide) 0 rfl hl.1 rfl rfl (Nat.le_of_ble_eq_true rfl) ⟨Nat.le_of_ble_eq_true rfl, Nat.le_of_ble_eq_true rfl⟩ ⟨Nat.zero_le _, Nat.zero_le _⟩ dX8_does_92) rfl rfl rfl (fun H locs hw => ?_)
        refine lv_aload_n hx hb dX8_does_95 rfl (lv_at hl 1 rfl) ?_
        refine x_get E hw kf_X8_179 0 rfl rfl dX8_does_96 ?_
        exact xr_i hQ E hr hw dX8_does_99 ⟨rfl, (by rw [← hv, show K - k = 0 by omega] <;> rfl)⟩
      · refine lv_aload_n hx hb dX8_does_55 rfl (lv_at hl 1 rfl) ?_
        refine lv_iload_n hx hb dX8_does_56 rfl (lv_at hl 0 rfl) ?_
        by_cases hb1 : obOk (wo2 k) (nu2 (k * 3 + 0)) (nu2 (k * 3 + 1)) (nu2 (k * 3 + 2)) s.1
        · refine x_go (ws' := [(o 0, .inr (8, [.ref (o 1), .ref (o 2), .int (nI hs), .int bads, .int nos, .int fuls, .int cau, .int whe, .ref (o 3), .ref (o 4), .int (nI cnt), .int (nI pp), .int fa2, .int iw2, .int (nI K), .ref (o 5), .ref (o 6)])), (o 1, .inl (g.2.1, 616, .inl (nwF (obS (wo2 k) (nu2 (k * 3 + 0)) (nu2 (k * 3 + 1)) (nu2 (k * 3 + 2)) s)))), (o 2, .inl (g.2.1, 4312, .inl (pF (va_up P 6 v)))), (o 3, .inl (g.2.1, 201, .inl sq)), (o 4, .inl (g.2.1, 120, .inl tx)), (o 5, .inl (g.2.1, 24, .inl wo2)), (o 6, .inl (g.2.1, 72, .inl nu2))]) (st1 := [.int 1]) E hw [0, 1, 5, 6] rfl (x_runV (rest := []) E hw (c_X8_isDone_ok l g o hs bads nos fuls cau whe cnt pp fa2 iw2 (nI K) s wo2 nu2 k (hSI s hs0).1 (hSI s hs0).2.1 (by omega) (hSI s hs0).2.2.1 (hSI s hs0).2.2.2 hb1) km_X8_195 kv_X8_isDone [0, 1, 5, 6] rfl (by decide) 0 rfl hl.1 rfl rfl (Nat.le_of_ble_eq_true rfl) ⟨Nat.le_of_ble_eq_true rfl, Nat.le_of_ble_eq_true rfl⟩ ⟨Nat.zero_le _, Nat.zero_le _⟩ dX8_does_57) rfl rfl rfl (fun H locs hw => ?_)
          refine lv_if_ne (tgt := 85) hx hb dX8_does_60 (by decide) (fun _ => ?_) (fun h => absurd h (by decide))
          refine lv_iinc (v := nI (k + 1)) (lv' := [(1, .int (nI (k + 1))), (0, .ref (o 0))]) hx hb dX8_does_85 hl (k := 0) rfl (nI_1 _) (by decide) rfl (fun ls hl => ?_)
          refine lv_goto (tgt := 47) hx hb dX8_does_88 (by decide) ?_
          have hl : lv_has ls 2 [(1, .int (nI (k + 1))), (0, .ref (o 0))] := lv_sub hl [0, 1] rfl
          have hl : lv_has ls 2 [(1, .int (nI (k + 1))), (0, .ref (o 0))] := hl
          have hw : xW g A0 s0 [(o 0, .inr (8, [.ref (o 1), .ref (o 2), .int (nI hs), .int bads, .int nos, .int fuls, .int cau, .int whe, .ref (o 3), .ref (o 4), .int (nI cnt), .int (nI pp), .int fa2, .int iw2, .int (nI K), .ref (o 5), .ref (o 6)])), (o 1, .inl (g.2.1, 616, .inl (nwF (obS (wo2 k) (nu2 (k * 3 + 0)) (nu2 (k * 3 + 1)) (nu2 (k * 3 + 2)) s)))), (o 2, .inl (g.2.1, 4312, .inl (pF (va_up P 6 v)))), (o 3, .inl (g.2.1, 201, .inl sq)), (o 4, .inl (g.2.1, 120, .inl tx)), (o 5, .inl (g.2.1, 24, .inl wo2)), (o 6, .inl (g.2.1, 72, .inl nu2))] _ _ := hw
          exact ih (k + 1) (obS (wo2 k) (nu2 (k * 3 + 0)) (nu2 (k * 3 + 1)) (nu2 (k * 3 + 2)) s) (by omega) (by omega) (hSO _ _ _ _ _ hs0 hb1) ((dsR_y (by omega) hb1).symm.trans hv) _ _ _ hw hl
        · refine x_goR (st1 := [.int 0]) E hw [0, 1, 5, 6] rfl (x_runV (rest := []) E hw (c_X8_isDone_no l g o hs bads nos fuls cau whe cnt pp fa2 iw2 (nI K) s wo2 nu2 k (hSI s hs0).1 (hSI s hs0).2.1 (by omega) (hwv k (by omega)) hb1) km_X8_195 kv_X8_isDone [0, 1, 5, 6] rfl (by decide) 0 rfl hl.1 rfl rfl (Nat.le_of_ble_eq_true rfl) ⟨Nat.le_of_ble_eq_true rfl, Nat.le_of_ble_eq_true rfl⟩ ⟨Nat.zero_le _, Nat.zero_le _⟩ dX8_does_57) rfl (fun H locs hw => ?_)
          refine lv_if_ne (tgt := 85) hx hb dX8_does_60 (by decide) (fun h => absurd h (by decide)) (fun _ => ?_)
          exact absurd hall (by rw [← hv, dsR_n (by omega) hb1]; show ¬ k = K; omega)
  have hl : lv_has ls 2 [(1, .int 0), (0, .ref (o 0))] := lv_sub hl [0, 1] rfl
  have hl : lv_has ls 2 [(1, .int 0), (0, .ref (o 0))] := hl
  have hw : xW g A0 s0 [(o 0, .inr (8, [.ref (o 1), .ref (o 2), .int (nI hs), .int bads, .int nos, .int fuls, .int cau, .int whe, .ref (o 3), .ref (o 4), .int (nI cnt), .int (nI pp), .int fa2, .int iw2, .int (nI K), .ref (o 5), .ref (o 6)])), (o 1, .inl (g.2.1, 616, .inl (nwF v))), (o 2, .inl (g.2.1, 4312, .inl (pF (va_up P 6 v)))), (o 3, .inl (g.2.1, 201, .inl sq)), (o 4, .inl (g.2.1, 120, .inl tx)), (o 5, .inl (g.2.1, 24, .inl wo2)), (o 6, .inl (g.2.1, 72, .inl nu2))] _ _ := hw
  exact lp_47 ((K - 0) + 1) 0 v (Nat.lt_succ_self _) (by omega) hSv rfl _ _ _ hw hl

set_option maxRecDepth 100000 in
set_option maxHeartbeats 4000000 in
theorem c_X8_does_n (l : Launch) (g : xCfg) (o : Nat → Nat) (hs : Nat) (bads : Int32) (nos : Int32) (fuls : Int32) (cau : Int32) (whe : Int32) (cnt : Nat) (p : Nat) (fau : Int32) (isw : Int32) (ods : Int32) (v : SV) (P : Nat → SV) (sq : Nat → Int32) (tx : Nat → Int32) (wo : Nat → Int32) (nu : Nat → Int32) (pp : Nat) (wo2 : Nat → Int32) (nu2 : Nat → Int32) (fa2 : Int32) (iw2 : Int32) (K : Nat) (SI : SV → Prop) (hc : cnt ≤ 120) (hR : rrR tx cnt 25 0 (skB tx (cnt - 0) 0) wo nu fau 0 = (true, pp, wo2, nu2, fa2, iw2, K)) (hK : K ≤ 24) (hSI : ∀ u, SI u → 1 ≤ u.1 ∧ u.1 ≤ 200 ∧ (∀ a, a < u.1 → ¬ u.2.2.2.1 a ≤ -1000) ∧ (∀ w, w < 7 → ¬ u.2.2.2.2.1 w ≤ -1000)) (hSO : ∀ u w a b x, SI u → obOk w a b x u.1 → SI (obS w a b x u)) (hSv : SI v) (hwv : ∀ k, k < K → ∃ w, w < 8 ∧ wo2 k = nI w) (hall : (dsR wo2 nu2 K 0 v).1 < K) : Ct l g yX8_does cX8_does 2 (some .int) (xR 5 157) [.ref (o 0)] [(o 0, .inr (8, [.ref (o 1), .ref (o 2), .int (nI hs), .int bads, .int nos, .int fuls, .int cau, .int whe, .ref (o 3), .ref (o 4), .int (nI cnt), .int (nI p), .int fau, .int isw, .int ods, .ref (o 5), .ref (o 6)])), (o 1, .inl (g.2.1, 616, .inl (nwF v))), (o 2, .inl (g.2.1, 4312, .inl (pF P))), (o 3, .inl (g.2.1, 201, .inl sq)), (o 4, .inl (g.2.1, 120, .inl tx)), (o 5, .inl (g.2.1, 24, .inl wo)), (o 6, .inl (g.2.1, 72, .inl nu))] (is1 (some (.int (-1000 - nI (dsR wo2 nu2 K 0 v).1))) [(o 0, .inr (8, [.ref (o 1), .ref (o 2), .int (nI hs), .int bads, .int nos, .int fuls, .int 3, .int (nI (dsR wo2 nu2 K 0 v).1), .ref (o 3), .ref (o 4), .int (nI cnt), .int (nI pp), .int fa2, .int iw2, .int (nI K), .ref (o 5), .ref (o 6)])), (o 1, .inl (g.2.1, 616, .inl (nwF v))), (o 2, .inl (g.2.1, 4312, .inl (pF (va_up P 6 v)))), (o 3, .inl (g.2.1, 201, .inl sq)), (o 4, .inl (g.2.1, 120, .inl tx)), (o 5, .inl (g.2.1, 24, .inl wo2)), (o 6, .inl (g.2.1, 72, .inl nu2))]) := by
  refine Ct.walk (by decide) (Nat.le_of_ble_eq_true rfl) ?_
  intro p0 e0 s0 m0 below meth c0 A0 ls Q hQ E hr hnm hw hl
  have hx := E.x
  have hb := E.b
  have hl : lv_has ls 2 [(0, .ref (o 0))] := hl
  refine lv_aload_n hx hb dX8_does_0 rfl (lv_at hl 0 rfl) ?_
  refine x_go (ws' := [(o 0, .inr (8, [.ref (o 1), .ref (o 2), .int (nI hs), .int bads, .int nos, .int fuls, .int cau, .int whe, .ref (o 3), .ref (o 4), .int (nI cnt), .int (nI pp), .int fa2, .int iw2, .int (nI K), .ref (o 5), .ref (o 6)])), (o 1, .inl (g.2.1, 616, .inl (nwF v))), (o 2, .inl (g.2.1, 4312, .inl (pF P))), (o 3, .inl (g.2.1, 201, .inl sq)), (o 4, .inl (g.2.1, 120, .inl tx)), (o 5, .inl (g.2.1, 24, .inl wo2)), (o 6, .inl (g.2.1, 72, .inl nu2))]) (st1 := [.int 1]) E hw [0, 4, 5, 6] rfl (x_runV (rest := []) E hw (c_X8_reads_ok l g o hs bads nos fuls cau whe cnt p fau isw ods tx wo nu pp wo2 nu2 fa2 iw2 K (by omega) hR) km_X8_189 kv_X8_reads [0, 4, 5, 6] rfl (by decide) 0 rfl hl.1 rfl rfl (Nat.le_of_ble_eq_true rfl) ⟨Nat.le_of_ble_eq_true rfl, Nat.le_of_ble_eq_true rfl⟩ ⟨Nat.zero_le _, Nat.zero_le _⟩ dX8_does_1) rfl rfl rfl (fun H locs hw => ?_)
  refine lv_if_ne (tgt := 39) hx hb dX8_does_4 (by decide) (fun _ => ?_) (fun h => absurd h (by decide))
  refine lv_aload_n hx hb dX8_does_39 rfl (lv_at hl 0 rfl) ?_
  refine lv_bipush (v := 6) hx hb dX8_does_40 (by decide) ?_
  refine x_go (ws' := [(o 0, .inr (8, [.ref (o 1), .ref (o 2), .int (nI hs), .int bads, .int nos, .int fuls, .int cau, .int whe, .ref (o 3), .ref (o 4), .int (nI cnt), .int (nI pp), .int fa2, .int iw2, .int (nI K), .ref (o 5), .ref (o 6)])), (o 1, .inl (g.2.1, 616, .inl (nwF v))), (o 2, .inl (g.2.1, 4312, .inl (pF (va_up P 6 v)))), (o 3, .inl (g.2.1, 201, .inl sq)), (o 4, .inl (g.2.1, 120, .inl tx)), (o 5, .inl (g.2.1, 24, .inl wo2)), (o 6, .inl (g.2.1, 72, .inl nu2))]) (st1 := []) E hw [0, 1, 2] rfl (x_runV (rest := []) E hw (c_X8_keepTo l g o hs bads nos fuls cau whe cnt pp fa2 iw2 (nI K) v P 6 (by omega)) km_X8_41 kv_X8_keepTo [0, 1, 2] rfl (by decide) 0 rfl hl.1 rfl rfl (Nat.le_of_ble_eq_true rfl) ⟨Nat.le_of_ble_eq_true rfl, Nat.le_of_ble_eq_true rfl⟩ ⟨Nat.zero_le _, Nat.zero_le _⟩ dX8_does_42) rfl rfl rfl (fun H locs hw => ?_)
  refine lv_iconst (v := 0) hx hb dX8_does_45 (by decide) ?_
  refine lv_istore_n (lv' := [(1, .int 0), (0, .ref (o 0))]) hx hb dX8_does_46 rfl hl (by decide) rfl (fun ls hl => ?_)
  have lp_47 : ∀ (fuel : Nat) (k : Nat) (s : SV), K - k < fuel → k ≤ K → SI s → dsR wo2 nu2 (K - k) k s = dsR wo2 nu2 K 0 v → ∀ (H : Heap) (locs : List Loc) (ls : Array Slot), xW g A0 s0 [(o 0, .inr (8, [.ref (o 1), .ref (o 2), .int (nI hs), .int bads, .int nos, .int fuls, .int cau, .int whe, .ref (o 3), .ref (o 4), .int (nI cnt), .int (nI pp), .int fa2, .int iw2, .int (nI K), .ref (o 5), .ref (o 6)])), (o 1, .inl (g.2.1, 616, .inl (nwF s))), (o 2, .inl (g.2.1, 4312, .inl (pF (va_up P 6 v)))), (o 3, .inl (g.2.1, 201, .inl sq)), (o 4, .inl (g.2.1, 120, .inl tx)), (o 5, .inl (g.2.1, 24, .inl wo2)), (o 6, .inl (g.2.1, 72, .inl nu2))] H locs → lv_has ls 2 [(1, .int (nI k)), (0, .ref (o 0))] → W p0 l e0 (xR 5 157) s0 m0 [.ref (o 0)].toArray below meth c0 H locs 0 0 Q (F0 m0 47 ls []) := by
    intro fuel
    induction fuel with
    | zero => intro k s hm; exact absurd hm (Nat.not_lt_zero _)
    | succ fuel ih =>
      intro k s hm hk hs0 hv H locs ls hw hl
      refine lv_iload_n hx hb dX8_does_47 rfl (lv_at hl 0 rfl) ?_
      refine lv_aload_n hx hb dX8_does_48 rfl (lv_at hl 1 rfl) ?_
      refine x_get E hw kf_X8_179 0 rfl rfl dX8_does_49 ?_
      refine xn_ge (tgt := 91) hx hb k K rfl rfl (by omega) (by omega) dX8_does_52 (by decide) (fun ck => ?_) (fun ck => ?_)
      · exact absurd hall (by rw [← hv, show K - k = 0 by omega]; show ¬ k < K; omega)
      · refine lv_aload_n hx hb dX8_does_55 rfl (lv_at hl 1 rfl) ?_
        refine lv_iload_n hx hb dX8_does_56 rfl (lv_at hl 0 rfl) ?_
        by_cases hb1 : obOk (wo2 k) (nu2 (k * 3 + 0)) (nu2 (k * 3 + 1)) (nu2 (k * 3 + 2)) s.1
        · refine x_go (ws' := [(o 0, .inr (8, [.ref (o 1), .ref (o 2), .int (nI hs), .int bads, .int nos, .int fuls, .int cau, .int whe, .ref (o 3), .ref (o 4), .int (nI cnt), .int (nI pp), .int fa2, .int iw2, .int (nI K), .ref (o 5), .ref (o 6)])), (o 1, .inl (g.2.1, 616, .inl (nwF (obS (wo2 k) (nu2 (k * 3 + 0)) (nu2 (k * 3 + 1)) (nu2 (k * 3 + 2)) s)))), (o 2, .inl (g.2.1, 4312, .inl (pF (va_up P 6 v)))), (o 3, .inl (g.2.1, 201, .inl sq)), (o 4, .inl (g.2.1, 120, .inl tx)), (o 5, .inl (g.2.1, 24, .inl wo2)), (o 6, .inl (g.2.1, 72, .inl nu2))]) (st1 := [.int 1]) E hw [0, 1, 5, 6] rfl (x_runV (rest := []) E hw (c_X8_isDone_ok l g o hs bads nos fuls cau whe cnt pp fa2 iw2 (nI K) s wo2 nu2 k (hSI s hs0).1 (hSI s hs0).2.1 (by omega) (hSI s hs0).2.2.1 (hSI s hs0).2.2.2 hb1) km_X8_195 kv_X8_isDone [0, 1, 5, 6] rfl (by decide) 0 rfl hl.1 rfl rfl (Nat.le_of_ble_eq_true rfl) ⟨Nat.le_of_ble_eq_true rfl, Nat.le_of_ble_eq_true rfl⟩ ⟨Nat.zero_le _, Nat.zero_le _⟩ dX8_does_57) rfl rfl rfl (fun H locs hw => ?_)
          refine lv_if_ne (tgt := 85) hx hb dX8_does_60 (by decide) (fun _ => ?_) (fun h => absurd h (by decide))
          refine lv_iinc (v := nI (k + 1)) (lv' := [(1, .int (nI (k + 1))), (0, .ref (o 0))]) hx hb dX8_does_85 hl (k := 0) rfl (nI_1 _) (by decide) rfl (fun ls hl => ?_)
          refine lv_goto (tgt := 47) hx hb dX8_does_88 (by decide) ?_
          have hl : lv_has ls 2 [(1, .int (nI (k + 1))), (0, .ref (o 0))] := lv_sub hl [0, 1] rfl
          have hl : lv_has ls 2 [(1, .int (nI (k + 1))), (0, .ref (o 0))] := hl
          have hw : xW g A0 s0 [(o 0, .inr (8, [.ref (o 1), .ref (o 2), .int (nI hs), .int bads, .int nos, .int fuls, .int cau, .int whe, .ref (o 3), .ref (o 4), .int (nI cnt), .int (nI pp), .int fa2, .int iw2, .int (nI K), .ref (o 5), .ref (o 6)])), (o 1, .inl (g.2.1, 616, .inl (nwF (obS (wo2 k) (nu2 (k * 3 + 0)) (nu2 (k * 3 + 1)) (nu2 (k * 3 + 2)) s)))), (o 2, .inl (g.2.1, 4312, .inl (pF (va_up P 6 v)))), (o 3, .inl (g.2.1, 201, .inl sq)), (o 4, .inl (g.2.1, 120, .inl tx)), (o 5, .inl (g.2.1, 24, .inl wo2)), (o 6, .inl (g.2.1, 72, .inl nu2))] _ _ := hw
          exact ih (k + 1) (obS (wo2 k) (nu2 (k * 3 + 0)) (nu2 (k * 3 + 1)) (nu2 (k * 3 + 2)) s) (by omega) (by omega) (hSO _ _ _ _ _ hs0 hb1) ((dsR_y (by omega) hb1).symm.trans hv) _ _ _ hw hl
        · refine x_goR (st1 := [.int 0]) E hw [0, 1, 5, 6] rfl (x_runV (rest := []) E hw (c_X8_isDone_no l g o hs bads nos fuls cau whe cnt pp fa2 iw2 (nI K) s wo2 nu2 k (hSI s hs0).1 (hSI s hs0).2.1 (by omega) (hwv k (by omega)) hb1) km_X8_195 kv_X8_isDone [0, 1, 5, 6] rfl (by decide) 0 rfl hl.1 rfl rfl (Nat.le_of_ble_eq_true rfl) ⟨Nat.le_of_ble_eq_true rfl, Nat.le_of_ble_eq_true rfl⟩ ⟨Nat.zero_le _, Nat.zero_le _⟩ dX8_does_57) rfl (fun H locs hw => ?_)
          refine lv_if_ne (tgt := 85) hx hb dX8_does_60 (by decide) (fun h => absurd h (by decide)) (fun _ => ?_)
          refine lv_aload_n hx hb dX8_does_63 rfl (lv_at hl 1 rfl) ?_
          refine lv_bipush (v := 6) hx hb dX8_does_64 (by decide) ?_
          refine x_go (ws' := [(o 0, .inr (8, [.ref (o 1), .ref (o 2), .int (nI hs), .int bads, .int nos, .int fuls, .int cau, .int whe, .ref (o 3), .ref (o 4), .int (nI cnt), .int (nI pp), .int fa2, .int iw2, .int (nI K), .ref (o 5), .ref (o 6)])), (o 1, .inl (g.2.1, 616, .inl (nwF ((va_up P 6 v) 6)))), (o 2, .inl (g.2.1, 4312, .inl (pF (va_up P 6 v)))), (o 3, .inl (g.2.1, 201, .inl sq)), (o 4, .inl (g.2.1, 120, .inl tx)), (o 5, .inl (g.2.1, 24, .inl wo2)), (o 6, .inl (g.2.1, 72, .inl nu2))]) (st1 := []) E hw [0, 1, 2] rfl (x_runV (rest := []) E hw (c_X8_takeFrom l g o hs bads nos fuls cau whe cnt pp fa2 iw2 (nI K) s (va_up P 6 v) 6 (by omega)) km_X8_198 kv_X8_takeFrom [0, 1, 2] rfl (by decide) 0 rfl hl.1 rfl rfl (Nat.le_of_ble_eq_true rfl) ⟨Nat.le_of_ble_eq_true rfl, Nat.le_of_ble_eq_true rfl⟩ ⟨Nat.zero_le _, Nat.zero_le _⟩ dX8_does_66) rfl rfl rfl (fun H locs hw => ?_)
          refine lv_aload_n hx hb dX8_does_69 rfl (lv_at hl 1 rfl) ?_
          refine lv_iconst (v := 3) hx hb dX8_does_70 (by decide) ?_
          refine x_put E hw kf_X8_192 kp_X8_6 0 rfl (ty := .int) (by decide +kernel) rfl rfl (by simp) (ws' := [(o 0, .inr (8, [.ref (o 1), .ref (o 2), .int (nI hs), .int bads, .int nos, .int fuls, .int 3, .int whe, .ref (o 3), .ref (o 4), .int (nI cnt), .int (nI pp), .int fa2, .int iw2, .int (nI K), .ref (o 5), .ref (o 6)])), (o 1, .inl (g.2.1, 616, .inl (nwF ((va_up P 6 v) 6)))), (o 2, .inl (g.2.1, 4312, .inl (pF (va_up P 6 v)))), (o 3, .inl (g.2.1, 201, .inl sq)), (o 4, .inl (g.2.1, 120, .inl tx)), (o 5, .inl (g.2.1, 24, .inl wo2)), (o 6, .inl (g.2.1, 72, .inl nu2))]) rfl dX8_does_71 (fun H locs hw => ?_)
          refine lv_aload_n hx hb dX8_does_74 rfl (lv_at hl 1 rfl) ?_
          refine lv_iload_n hx hb dX8_does_75 rfl (lv_at hl 0 rfl) ?_
          refine x_put E hw kf_X8_16 kp_X8_7 0 rfl (ty := .int) (by decide +kernel) rfl rfl (by simp) (ws' := [(o 0, .inr (8, [.ref (o 1), .ref (o 2), .int (nI hs), .int bads, .int nos, .int fuls, .int 3, .int (nI k), .ref (o 3), .ref (o 4), .int (nI cnt), .int (nI pp), .int fa2, .int iw2, .int (nI K), .ref (o 5), .ref (o 6)])), (o 1, .inl (g.2.1, 616, .inl (nwF ((va_up P 6 v) 6)))), (o 2, .inl (g.2.1, 4312, .inl (pF (va_up P 6 v)))), (o 3, .inl (g.2.1, 201, .inl sq)), (o 4, .inl (g.2.1, 120, .inl tx)), (o 5, .inl (g.2.1, 24, .inl wo2)), (o 6, .inl (g.2.1, 72, .inl nu2))]) rfl dX8_does_76 (fun H locs hw => ?_)
          refine lv_sipush (v := -1000) hx hb dX8_does_79 (by decide) ?_
          refine lv_iload_n hx hb dX8_does_82 rfl (lv_at hl 0 rfl) ?_
          refine lv_isub hx hb dX8_does_83 ?_
          exact xr_i hQ E hr hw dX8_does_84 ⟨congrArg (fun z => some (Value.int z)) (by rw [← hv, dsR_n (by omega) hb1]), (by rw [← hv, dsR_n (by omega) hb1, va_up_self] <;> rfl)⟩
  have hl : lv_has ls 2 [(1, .int 0), (0, .ref (o 0))] := lv_sub hl [0, 1] rfl
  have hl : lv_has ls 2 [(1, .int 0), (0, .ref (o 0))] := hl
  have hw : xW g A0 s0 [(o 0, .inr (8, [.ref (o 1), .ref (o 2), .int (nI hs), .int bads, .int nos, .int fuls, .int cau, .int whe, .ref (o 3), .ref (o 4), .int (nI cnt), .int (nI pp), .int fa2, .int iw2, .int (nI K), .ref (o 5), .ref (o 6)])), (o 1, .inl (g.2.1, 616, .inl (nwF v))), (o 2, .inl (g.2.1, 4312, .inl (pF (va_up P 6 v)))), (o 3, .inl (g.2.1, 201, .inl sq)), (o 4, .inl (g.2.1, 120, .inl tx)), (o 5, .inl (g.2.1, 24, .inl wo2)), (o 6, .inl (g.2.1, 72, .inl nu2))] _ _ := hw
  exact lp_47 ((K - 0) + 1) 0 v (Nat.lt_succ_self _) (by omega) hSv rfl _ _ _ hw hl
