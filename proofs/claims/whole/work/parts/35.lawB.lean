set_option maxRecDepth 100000 in
set_option maxHeartbeats 4000000 in
theorem lw_drives {p0 : Program} {l : Launch} {g : xCfg} {e0 : Env} {s0 : State} {m0 : MethodId} {below : List Frame} {meth : Method} {c0 : Code} {A0 : Nat → Prop} {b L i K : Nat} {xs : Nat → Int32} {h : Nat → Nat} {q : Nat → Nat → Nat} {o : Nat → Nat} {Q : State → Prop} (E : xE g p0 s0 m0 #[Value.ref b] meth c0 cL_law 4 RL A0) (X : va_X b L xs s0 s0.heap ∧ b < s0.heap.size ∧ ¬ A0 b ∧ L ≤ 2560) (hi : i + 5 ≤ L) (hK : K < 2 ^ 30) (kk : LA p0 l g e0 s0 m0 below meth c0 A0 b h q o Q (K + 200) i 710) : LA p0 l g e0 s0 m0 below meth c0 A0 b h q o Q K i 529 := by
  intro bads nos fuls cau whe v fo sq nx hd cnt p ca fa od tx wo nu S pm fau isw ods w P sr wm nm H locs ls J hw hl
  have hx := E.x
  have hb := E.b
  obtain ⟨len, hlen, hl1, hl2, C, g1, R, hL1, hL, hf, hnx, hhd, hcnt, gw, e1, wL1, wL, wlen, wf, wQ, yq, hyq, hqy⟩ := J.facts sr
  by_cases hc : 1 ≤ xs (i + 1) ∧ xs (i + 1) ≤ 50
  · obtain ⟨m, hm1, hm2, em⟩ := in_w1 (m := 50) (by decide) hc
    have eT : drvT v.1 v.2.2.1 v.2.2.2.1 v.2.2.2.2.1 sq m v.2.2.2.2.2 = drvT w.1 w.2.2.1 w.2.2.2.1 w.2.2.2.2.1 (lwQ w.2.1 w.2.2.1 (w.2.2.2.2.1 0) len w.1 0 sr) m w.2.2.2.2.2 := a_drv g1 R hl1 C sr m
    refine lv_aload_n hx hb dL_law_529 rfl (lv_at hl 2 rfl) ?_
    refine lv_aload_n hx hb dL_law_530 rfl (lv_at hl 3 rfl) ?_
    refine lv_iload_n hx hb dL_law_531 rfl (lv_at hl 0 rfl) ?_
    refine lv_iconst (v := 1) hx hb dL_law_532 (by decide) ?_
    refine xn_add hx hb i 1 rfl rfl dL_law_533 ?_
    refine x_scr (v := nI m) hx hb X hw.2.2 (i + 1) rfl (by omega) em dL_law_534 ?_
    refine x_goS (st1 := [.int (nI ((drvT v.1 v.2.2.1 v.2.2.2.1 v.2.2.2.2.1 sq m v.2.2.2.2.2).1))]) E hw (x_runVS (rest := []) E hw (c_X7_drives_ok l g h q bads nos fuls cau whe v fo sq nx hd cnt p ca fa od tx wo nu S m hL hf hnx hhd hm1 hm2) km_L_68 kv_X7_drives _ (app_r (k := 0) rfl) hl.1 rfl rfl (Nat.le_of_ble_eq_true rfl) ⟨Nat.le_of_ble_eq_true rfl, Nat.le_of_ble_eq_true rfl⟩ ⟨Nat.le_of_ble_eq_true rfl, Nat.le_of_ble_eq_true rfl⟩ dL_law_535) rfl (fun H locs hw => ?_)
    have hw : xW g A0 s0 (MW g o hd bads nos fuls cau whe cnt pm fau isw ods w P sr tx wm nm ++ CW g h q bads nos fuls cau whe (trS (drvT v.1 v.2.2.1 v.2.2.2.1 v.2.2.2.2.1 sq m v.2.2.2.2.2).2 v) fo sq ((nx + 1) % 7) (min 6 (hd + 1)) cnt p ca fa od tx wo nu (va_up S nx v)) _ _ := hw
    have hw := hw.swap
    refine lv_aload_n hx hb dL_law_538 rfl (lv_at hl 1 rfl) ?_
    refine lv_aload_n hx hb dL_law_539 rfl (lv_at hl 3 rfl) ?_
    refine lv_iload_n hx hb dL_law_540 rfl (lv_at hl 0 rfl) ?_
    refine lv_iconst (v := 1) hx hb dL_law_541 (by decide) ?_
    refine xn_add hx hb i 1 rfl rfl dL_law_542 ?_
    refine x_scr (v := nI m) hx hb X hw.2.2 (i + 1) rfl (by omega) em dL_law_543 ?_
    refine x_goSP (rest := [.int (nI ((drvT v.1 v.2.2.1 v.2.2.2.1 v.2.2.2.2.1 sq m v.2.2.2.2.2).1))]) E hw (x_runVS (rest := [.int (nI ((drvT v.1 v.2.2.1 v.2.2.2.1 v.2.2.2.2.1 sq m v.2.2.2.2.2).1))]) E hw (c_X8_drives_ok l g o hd bads nos fuls cau whe cnt pm fau isw ods w P sr tx wm nm m len (TQ w.1) wL1 wL wlen hl1 hl2 wQ hhd (fun t ht => ⟨ht.1, by obtain ⟨y, y1, y2⟩ := nq_r (hd := drvH w.1 w.2.2.1 w.2.2.2.2.1 (lwQ w.2.1 w.2.2.1 (w.2.2.2.2.1 0) len w.1 0 sr) t) gw.1.2.2.2 (fun x hx => (gw.1.2.2.1 x hx).2.1) wL ht; exact ⟨y, by have := ht.1; omega, y2⟩, stp_q gw.1.2.2.2 (fun x hx => (gw.1.2.2.1 x hx).2.1) wL ht⟩) gw.2.1 hm1 hm2) km_L_71 kv_X8_drives _ (app_r (k := 0) rfl) hl.1 rfl rfl (Nat.le_of_ble_eq_true rfl) ⟨Nat.le_of_ble_eq_true rfl, Nat.le_of_ble_eq_true rfl⟩ ⟨Nat.le_of_ble_eq_true rfl, Nat.le_of_ble_eq_true rfl⟩ dL_law_544) (fun rv w1 H locs hp hw => ?_)
    obtain ⟨rfl, sy, -, rfl⟩ := hp
    have hw : xW g A0 s0 (CW g h q bads nos fuls cau whe (trS (drvT v.1 v.2.2.1 v.2.2.2.1 v.2.2.2.2.1 sq m v.2.2.2.2.2).2 v) fo sq ((nx + 1) % 7) (min 6 (hd + 1)) cnt p ca fa od tx wo nu (va_up S nx v) ++ MW g o (min 6 (hd + 1)) bads nos fuls cau whe cnt pm fau isw ods (trS (drvT w.1 w.2.2.1 w.2.2.2.1 w.2.2.2.2.1 (lwQ w.2.1 w.2.2.1 (w.2.2.2.2.1 0) len w.1 0 sr) m w.2.2.2.2.2).2 w) (ntP P hd w) sy tx wm nm) _ _ := hw
    have hw := hw.swap
    refine lv_icmp_eq (tgt := 710) hx hb dL_law_547 (by decide) (fun _ => ?_) (fun z => absurd (congrArg (fun z => nI z.1) eT) z)
    exact kk _ _ _ _ _ _ _ _ _ _ _ _ _ _ _ _ _ _ _ _ _ _ _ _ _ _ _ _ _ _ _ (J.keep (g1.drv sq hm2) (R.tr (congrArg Prod.snd eT)) ⟨len, hlen, hl1, hl2, C⟩) hw hl
  · refine lv_aload_n hx hb dL_law_529 rfl (lv_at hl 2 rfl) ?_
    refine lv_aload_n hx hb dL_law_530 rfl (lv_at hl 3 rfl) ?_
    refine lv_iload_n hx hb dL_law_531 rfl (lv_at hl 0 rfl) ?_
    refine lv_iconst (v := 1) hx hb dL_law_532 (by decide) ?_
    refine xn_add hx hb i 1 rfl rfl dL_law_533 ?_
    refine x_scr (v := xs (i + 1)) hx hb X hw.2.2 (i + 1) rfl (by omega) rfl dL_law_534 ?_
    refine x_goS (st1 := [.int (-2)]) E hw (x_runVS (rest := []) E hw (c_X7_drives_bad l g h q bads nos fuls cau whe v fo sq nx hd cnt p ca fa od tx wo nu S (xs (i + 1)) hnx hc) km_L_68 kv_X7_drives _ (app_r (k := 0) rfl) hl.1 rfl rfl (Nat.le_of_ble_eq_true rfl) ⟨Nat.le_of_ble_eq_true rfl, Nat.le_of_ble_eq_true rfl⟩ ⟨Nat.le_of_ble_eq_true rfl, Nat.le_of_ble_eq_true rfl⟩ dL_law_535) rfl (fun H locs hw => ?_)
    have hw : xW g A0 s0 (MW g o hd bads nos fuls cau whe cnt pm fau isw ods w P sr tx wm nm ++ CW g h q (bads + 1) nos fuls cau whe v fo sq nx hd cnt p ca fa od tx wo nu (va_up S nx v)) _ _ := hw
    have hw := hw.swap
    refine lv_aload_n hx hb dL_law_538 rfl (lv_at hl 1 rfl) ?_
    refine lv_aload_n hx hb dL_law_539 rfl (lv_at hl 3 rfl) ?_
    refine lv_iload_n hx hb dL_law_540 rfl (lv_at hl 0 rfl) ?_
    refine lv_iconst (v := 1) hx hb dL_law_541 (by decide) ?_
    refine xn_add hx hb i 1 rfl rfl dL_law_542 ?_
    refine x_scr (v := xs (i + 1)) hx hb X hw.2.2 (i + 1) rfl (by omega) rfl dL_law_543 ?_
    refine x_goS (st1 := [.int (-2), .int (-2)]) E hw (x_runVS (rest := [.int (-2)]) E hw (c_X8_drives_bad l g o hd bads nos fuls cau whe cnt pm fau isw ods w P sr tx wm nm (xs (i + 1)) hc) km_L_71 kv_X8_drives _ (app_r (k := 0) rfl) hl.1 rfl rfl (Nat.le_of_ble_eq_true rfl) ⟨Nat.le_of_ble_eq_true rfl, Nat.le_of_ble_eq_true rfl⟩ ⟨Nat.le_of_ble_eq_true rfl, Nat.le_of_ble_eq_true rfl⟩ dL_law_544) rfl (fun H locs hw => ?_)
    have hw : xW g A0 s0 (CW g h q (bads + 1) nos fuls cau whe v fo sq nx hd cnt p ca fa od tx wo nu (va_up S nx v) ++ MW g o hd (bads + 1) nos fuls cau whe cnt pm fau isw ods w P sr tx wm nm) _ _ := hw
    have hw := hw.swap
    refine lv_icmp_eq (tgt := 710) hx hb dL_law_547 (by decide) (fun _ => ?_) (fun z => absurd (rfl) z)
    exact kk _ _ _ _ _ _ _ _ _ _ _ _ _ _ _ _ _ _ _ _ _ _ _ _ _ _ _ _ _ _ _ (J.note.bad) hw hl

set_option maxRecDepth 100000 in
set_option maxHeartbeats 4000000 in
theorem lw_frees {p0 : Program} {l : Launch} {g : xCfg} {e0 : Env} {s0 : State} {m0 : MethodId} {below : List Frame} {meth : Method} {c0 : Code} {A0 : Nat → Prop} {b L i K : Nat} {xs : Nat → Int32} {h : Nat → Nat} {q : Nat → Nat → Nat} {o : Nat → Nat} {Q : State → Prop} (E : xE g p0 s0 m0 #[Value.ref b] meth c0 cL_law 4 RL A0) (X : va_X b L xs s0 s0.heap ∧ b < s0.heap.size ∧ ¬ A0 b ∧ L ≤ 2560) (hi : i + 5 ≤ L) (hK : K < 2 ^ 30) (kk : LA p0 l g e0 s0 m0 below meth c0 A0 b h q o Q (K + 200) i 710) : LA p0 l g e0 s0 m0 below meth c0 A0 b h q o Q K i 552 := by
  intro bads nos fuls cau whe v fo sq nx hd cnt p ca fa od tx wo nu S pm fau isw ods w P sr wm nm H locs ls J hw hl
  have hx := E.x
  have hb := E.b
  obtain ⟨len, hlen, hl1, hl2, C, g1, R, hL1, hL, hf, hnx, hhd, hcnt, gw, e1, wL1, wL, wlen, wf, wQ, yq, hyq, hqy⟩ := J.facts sr
  by_cases hc : v.2.2.2.2.2.2.2.1 = 3 ∧ v.2.2.2.2.2.2.1 = 0
  · have eT : supT v.1 v.2.2.2.2.1 sq (relT v.2.2.2.2.2) = supT w.1 w.2.2.2.2.1 (lwQ w.2.1 w.2.2.1 (w.2.2.2.2.1 0) len w.1 0 sr) (relT w.2.2.2.2.2) := by rw [← R.2.2.2]; exact a_sup g1 R hl1 C sr _
    refine lv_aload_n hx hb dL_law_552 rfl (lv_at hl 2 rfl) ?_
    refine x_goS (st1 := [.int ((supT v.1 v.2.2.2.2.1 sq (relT v.2.2.2.2.2)).2.2.1)]) E hw (x_runVS (rest := []) E hw (c_X7_frees_ok l g h q bads nos fuls cau whe v fo sq nx hd cnt p ca fa od tx wo nu S  hL1 hL hnx hhd hc.1 hc.2 (n_sup _ _ _ _).1 (n_sup _ _ _ _).2.1 (n_sup _ _ _ _).2.2) km_L_72 kv_X7_frees _ (app_r (k := 0) rfl) hl.1 rfl rfl (Nat.le_of_ble_eq_true rfl) ⟨Nat.le_of_ble_eq_true rfl, Nat.le_of_ble_eq_true rfl⟩ ⟨Nat.le_of_ble_eq_true rfl, Nat.le_of_ble_eq_true rfl⟩ dL_law_553) rfl (fun H locs hw => ?_)
    have hw : xW g A0 s0 (MW g o hd bads nos fuls cau whe cnt pm fau isw ods w P sr tx wm nm ++ CW g h q bads nos fuls cau whe (trS (supT v.1 v.2.2.2.2.1 sq (relT v.2.2.2.2.2)) v) fo sq ((nx + 1) % 7) (min 6 (hd + 1)) cnt p ca fa od tx wo nu (va_up S nx v)) _ _ := hw
    have hw := hw.swap
    refine lv_aload_n hx hb dL_law_556 rfl (lv_at hl 1 rfl) ?_
    refine x_goS (st1 := [.int ((supT w.1 w.2.2.2.2.1 (lwQ w.2.1 w.2.2.1 (w.2.2.2.2.1 0) len w.1 0 sr) (relT w.2.2.2.2.2)).2.2.1), .int ((supT v.1 v.2.2.2.2.1 sq (relT v.2.2.2.2.2)).2.2.1)]) E hw (x_runVS (rest := [.int ((supT v.1 v.2.2.2.2.1 sq (relT v.2.2.2.2.2)).2.2.1)]) E hw (c_X8_frees_ok l g o hd bads nos fuls cau whe cnt pm fau isw ods w P sr tx wm nm len wL1 wL wlen hl1 hl2 wQ hhd (by rw [← R.2.2.2]; exact hc.1) (by rw [← R.2.2.2]; exact hc.2)) km_L_76 kv_X8_frees _ (app_r (k := 0) rfl) hl.1 rfl rfl (Nat.le_of_ble_eq_true rfl) ⟨Nat.le_of_ble_eq_true rfl, Nat.le_of_ble_eq_true rfl⟩ ⟨Nat.le_of_ble_eq_true rfl, Nat.le_of_ble_eq_true rfl⟩ dL_law_557) rfl (fun H locs hw => ?_)
    have hw : xW g A0 s0 (CW g h q bads nos fuls cau whe (trS (supT v.1 v.2.2.2.2.1 sq (relT v.2.2.2.2.2)) v) fo sq ((nx + 1) % 7) (min 6 (hd + 1)) cnt p ca fa od tx wo nu (va_up S nx v) ++ MW g o (min 6 (hd + 1)) bads nos fuls cau whe cnt pm fau isw ods (trS (supT w.1 w.2.2.2.2.1 (lwQ w.2.1 w.2.2.1 (w.2.2.2.2.1 0) len w.1 0 sr) (relT w.2.2.2.2.2)) w) (ntP P hd w) (lwQ w.2.1 w.2.2.1 (w.2.2.2.2.1 0) len w.1 0 sr) tx wm nm) _ _ := hw
    have hw := hw.swap
    refine lv_icmp_eq (tgt := 710) hx hb dL_law_560 (by decide) (fun _ => ?_) (fun z => absurd (congrArg (fun z => z.2.2.1) eT) z)
    exact kk _ _ _ _ _ _ _ _ _ _ _ _ _ _ _ _ _ _ _ _ _ _ _ _ _ _ _ _ _ _ _ (J.keep (g1.rel sq) (R.tr eT) ⟨len, hlen, hl1, hl2, C⟩) hw hl
  · refine lv_aload_n hx hb dL_law_552 rfl (lv_at hl 2 rfl) ?_
    refine x_goS (st1 := [.int (-3)]) E hw (x_runVS (rest := []) E hw (c_X7_frees_no l g h q bads nos fuls cau whe v fo sq nx hd cnt p ca fa od tx wo nu S  hnx hc) km_L_72 kv_X7_frees _ (app_r (k := 0) rfl) hl.1 rfl rfl (Nat.le_of_ble_eq_true rfl) ⟨Nat.le_of_ble_eq_true rfl, Nat.le_of_ble_eq_true rfl⟩ ⟨Nat.le_of_ble_eq_true rfl, Nat.le_of_ble_eq_true rfl⟩ dL_law_553) rfl (fun H locs hw => ?_)
    have hw : xW g A0 s0 (MW g o hd bads nos fuls cau whe cnt pm fau isw ods w P sr tx wm nm ++ CW g h q bads (nos + 1) fuls cau whe v fo sq nx hd cnt p ca fa od tx wo nu (va_up S nx v)) _ _ := hw
    have hw := hw.swap
    refine lv_aload_n hx hb dL_law_556 rfl (lv_at hl 1 rfl) ?_
    refine x_goS (st1 := [.int (-3), .int (-3)]) E hw (x_runVS (rest := [.int (-3)]) E hw (c_X8_frees_no l g o hd bads nos fuls cau whe cnt pm fau isw ods w P sr tx wm nm  (by rw [← R.2.2.2]; exact hc)) km_L_76 kv_X8_frees _ (app_r (k := 0) rfl) hl.1 rfl rfl (Nat.le_of_ble_eq_true rfl) ⟨Nat.le_of_ble_eq_true rfl, Nat.le_of_ble_eq_true rfl⟩ ⟨Nat.le_of_ble_eq_true rfl, Nat.le_of_ble_eq_true rfl⟩ dL_law_557) rfl (fun H locs hw => ?_)
    have hw : xW g A0 s0 (CW g h q bads (nos + 1) fuls cau whe v fo sq nx hd cnt p ca fa od tx wo nu (va_up S nx v) ++ MW g o hd bads (nos + 1) fuls cau whe cnt pm fau isw ods w P sr tx wm nm) _ _ := hw
    have hw := hw.swap
    refine lv_icmp_eq (tgt := 710) hx hb dL_law_560 (by decide) (fun _ => ?_) (fun z => absurd (rfl) z)
    exact kk _ _ _ _ _ _ _ _ _ _ _ _ _ _ _ _ _ _ _ _ _ _ _ _ _ _ _ _ _ _ _ (J.note.no) hw hl

set_option maxRecDepth 100000 in
set_option maxHeartbeats 4000000 in
theorem lw_train {p0 : Program} {l : Launch} {g : xCfg} {e0 : Env} {s0 : State} {m0 : MethodId} {below : List Frame} {meth : Method} {c0 : Code} {A0 : Nat → Prop} {b L i K : Nat} {xs : Nat → Int32} {h : Nat → Nat} {q : Nat → Nat → Nat} {o : Nat → Nat} {Q : State → Prop} (E : xE g p0 s0 m0 #[Value.ref b] meth c0 cL_law 4 RL A0) (X : va_X b L xs s0 s0.heap ∧ b < s0.heap.size ∧ ¬ A0 b ∧ L ≤ 2560) (hi : i + 5 ≤ L) (hK : K < 2 ^ 30) (kk : LA p0 l g e0 s0 m0 below meth c0 A0 b h q o Q (K + 200) i 710) : LA p0 l g e0 s0 m0 below meth c0 A0 b h q o Q K i 565 := by
  intro bads nos fuls cau whe v fo sq nx hd cnt p ca fa od tx wo nu S pm fau isw ods w P sr wm nm H locs ls J hw hl
  have hx := E.x
  have hb := E.b
  obtain ⟨len, hlen, hl1, hl2, C, g1, R, hL1, hL, hf, hnx, hhd, hcnt, gw, e1, wL1, wL, wlen, wf, wQ, yq, hyq, hqy⟩ := J.facts sr
  by_cases hc : 0 ≤ xs (i + 1) ∧ xs (i + 1) ≤ 12
  · obtain ⟨k, hk, ek⟩ := in_w (m := 12) (by decide) hc
    refine lv_aload_n hx hb dL_law_565 rfl (lv_at hl 2 rfl) ?_
    refine lv_aload_n hx hb dL_law_566 rfl (lv_at hl 3 rfl) ?_
    refine lv_iload_n hx hb dL_law_567 rfl (lv_at hl 0 rfl) ?_
    refine lv_iconst (v := 1) hx hb dL_law_568 (by decide) ?_
    refine xn_add hx hb i 1 rfl rfl dL_law_569 ?_
    refine x_scr (v := nI k) hx hb X hw.2.2 (i + 1) rfl (by omega) ek dL_law_570 ?_
    refine x_goS (st1 := [.int (trvF v.1 v.2.2.1 v.2.2.2.2.1 sq v.2.2.2.2.2 k)]) E hw (x_runVS (rest := []) E hw (c_X7_train_ok l g h q bads nos fuls cau whe v fo sq nx hd cnt p ca fa od tx wo nu S k hL1 hL hf (by omega) (n_trv hK g1 sq (k := k)).1 (n_trv hK g1 sq (k := k)).2.1 (n_trv hK g1 sq (k := k)).2.2) km_L_77 kv_X7_train _ (app_r (k := 0) rfl) hl.1 rfl rfl (Nat.le_of_ble_eq_true rfl) ⟨Nat.le_of_ble_eq_true rfl, Nat.le_of_ble_eq_true rfl⟩ ⟨Nat.le_of_ble_eq_true rfl, Nat.le_of_ble_eq_true rfl⟩ dL_law_571) rfl (fun H locs hw => ?_)
    have hw : xW g A0 s0 (MW g o hd bads nos fuls cau whe cnt pm fau isw ods w P sr tx wm nm ++ CW g h q bads nos fuls cau whe v fo sq nx hd cnt p ca fa od tx wo nu S) _ _ := hw
    have hw := hw.swap
    refine lv_aload_n hx hb dL_law_574 rfl (lv_at hl 1 rfl) ?_
    refine lv_aload_n hx hb dL_law_575 rfl (lv_at hl 3 rfl) ?_
    refine lv_iload_n hx hb dL_law_576 rfl (lv_at hl 0 rfl) ?_
    refine lv_iconst (v := 1) hx hb dL_law_577 (by decide) ?_
    refine xn_add hx hb i 1 rfl rfl dL_law_578 ?_
    refine x_scr (v := nI k) hx hb X hw.2.2 (i + 1) rfl (by omega) ek dL_law_579 ?_
    refine x_goS (st1 := [.int (trvF w.1 w.2.2.1 w.2.2.2.2.1 (lwQ w.2.1 w.2.2.1 (w.2.2.2.2.1 0) len w.1 0 sr) w.2.2.2.2.2 k), .int (trvF v.1 v.2.2.1 v.2.2.2.2.1 sq v.2.2.2.2.2 k)]) E hw (x_runVS (rest := [.int (trvF v.1 v.2.2.1 v.2.2.2.2.1 sq v.2.2.2.2.2 k)]) E hw (c_X8_train_ok l g o hd bads nos fuls cau whe cnt pm fau isw ods w P sr tx wm nm k len yq wL1 wL wlen hl1 hl2 wQ (by omega) hqy hyq (by omega)) km_L_80 kv_X8_train _ (app_r (k := 0) rfl) hl.1 rfl rfl (Nat.le_of_ble_eq_true rfl) ⟨Nat.le_of_ble_eq_true rfl, Nat.le_of_ble_eq_true rfl⟩ ⟨Nat.le_of_ble_eq_true rfl, Nat.le_of_ble_eq_true rfl⟩ dL_law_580) rfl (fun H locs hw => ?_)
    have hw : xW g A0 s0 (CW g h q bads nos fuls cau whe v fo sq nx hd cnt p ca fa od tx wo nu S ++ MW g o hd bads nos fuls cau whe cnt pm fau isw ods w P (if k = 8 ∨ k = 11 then lwQ w.2.1 w.2.2.1 (w.2.2.2.2.1 0) len w.1 0 sr else sr) tx wm nm) _ _ := hw
    have hw := hw.swap
    refine lv_icmp_eq (tgt := 710) hx hb dL_law_583 (by decide) (fun _ => ?_) (fun z => absurd (a_trv g1 R hl1 C sr k) z)
    exact kk _ _ _ _ _ _ _ _ _ _ _ _ _ _ _ _ _ _ _ _ _ _ _ _ _ _ _ _ _ _ _ (J.same) hw hl
  · refine lv_aload_n hx hb dL_law_565 rfl (lv_at hl 2 rfl) ?_
    refine lv_aload_n hx hb dL_law_566 rfl (lv_at hl 3 rfl) ?_
    refine lv_iload_n hx hb dL_law_567 rfl (lv_at hl 0 rfl) ?_
    refine lv_iconst (v := 1) hx hb dL_law_568 (by decide) ?_
    refine xn_add hx hb i 1 rfl rfl dL_law_569 ?_
    refine x_scr (v := xs (i + 1)) hx hb X hw.2.2 (i + 1) rfl (by omega) rfl dL_law_570 ?_
    refine x_goS (st1 := [.int (-2)]) E hw (x_runVS (rest := []) E hw (c_X7_train_bad l g h q bads nos fuls cau whe v fo sq nx hd cnt p ca fa od tx wo nu S (xs (i + 1)) (not_in (n := 12) (by decide) hc)) km_L_77 kv_X7_train _ (app_r (k := 0) rfl) hl.1 rfl rfl (Nat.le_of_ble_eq_true rfl) ⟨Nat.le_of_ble_eq_true rfl, Nat.le_of_ble_eq_true rfl⟩ ⟨Nat.le_of_ble_eq_true rfl, Nat.le_of_ble_eq_true rfl⟩ dL_law_571) rfl (fun H locs hw => ?_)
    have hw : xW g A0 s0 (MW g o hd bads nos fuls cau whe cnt pm fau isw ods w P sr tx wm nm ++ CW g h q (bads + 1) nos fuls cau whe v fo sq nx hd cnt p ca fa od tx wo nu S) _ _ := hw
    have hw := hw.swap
    refine lv_aload_n hx hb dL_law_574 rfl (lv_at hl 1 rfl) ?_
    refine lv_aload_n hx hb dL_law_575 rfl (lv_at hl 3 rfl) ?_
    refine lv_iload_n hx hb dL_law_576 rfl (lv_at hl 0 rfl) ?_
    refine lv_iconst (v := 1) hx hb dL_law_577 (by decide) ?_
    refine xn_add hx hb i 1 rfl rfl dL_law_578 ?_
    refine x_scr (v := xs (i + 1)) hx hb X hw.2.2 (i + 1) rfl (by omega) rfl dL_law_579 ?_
    refine x_goS (st1 := [.int (-2), .int (-2)]) E hw (x_runVS (rest := [.int (-2)]) E hw (c_X8_train_bad l g o hd bads nos fuls cau whe cnt pm fau isw ods w P sr tx wm nm (xs (i + 1)) hc) km_L_80 kv_X8_train _ (app_r (k := 0) rfl) hl.1 rfl rfl (Nat.le_of_ble_eq_true rfl) ⟨Nat.le_of_ble_eq_true rfl, Nat.le_of_ble_eq_true rfl⟩ ⟨Nat.le_of_ble_eq_true rfl, Nat.le_of_ble_eq_true rfl⟩ dL_law_580) rfl (fun H locs hw => ?_)
    have hw : xW g A0 s0 (CW g h q (bads + 1) nos fuls cau whe v fo sq nx hd cnt p ca fa od tx wo nu S ++ MW g o hd (bads + 1) nos fuls cau whe cnt pm fau isw ods w P sr tx wm nm) _ _ := hw
    have hw := hw.swap
    refine lv_icmp_eq (tgt := 710) hx hb dL_law_583 (by decide) (fun _ => ?_) (fun z => absurd (rfl) z)
    exact kk _ _ _ _ _ _ _ _ _ _ _ _ _ _ _ _ _ _ _ _ _ _ _ _ _ _ _ _ _ _ _ (J.bad) hw hl

set_option maxRecDepth 100000 in
set_option maxHeartbeats 4000000 in
theorem lw_type {p0 : Program} {l : Launch} {g : xCfg} {e0 : Env} {s0 : State} {m0 : MethodId} {below : List Frame} {meth : Method} {c0 : Code} {A0 : Nat → Prop} {b L i K : Nat} {xs : Nat → Int32} {h : Nat → Nat} {q : Nat → Nat → Nat} {o : Nat → Nat} {Q : State → Prop} (E : xE g p0 s0 m0 #[Value.ref b] meth c0 cL_law 4 RL A0) (X : va_X b L xs s0 s0.heap ∧ b < s0.heap.size ∧ ¬ A0 b ∧ L ≤ 2560) (hi : i + 5 ≤ L) (hK : K < 2 ^ 30) (kk : LA p0 l g e0 s0 m0 below meth c0 A0 b h q o Q (K + 200) i 710) : LA p0 l g e0 s0 m0 below meth c0 A0 b h q o Q K i 588 := by
  intro bads nos fuls cau whe v fo sq nx hd cnt p ca fa od tx wo nu S pm fau isw ods w P sr wm nm H locs ls J hw hl
  have hx := E.x
  have hb := E.b
  obtain ⟨len, hlen, hl1, hl2, C, g1, R, hL1, hL, hf, hnx, hhd, hcnt, gw, e1, wL1, wL, wlen, wf, wQ, yq, hyq, hqy⟩ := J.facts sr
  by_cases hc : 0 ≤ xs (i + 1) ∧ xs (i + 1) ≤ 127
  · by_cases hq : cnt < 120
    · refine lv_aload_n hx hb dL_law_588 rfl (lv_at hl 2 rfl) ?_
      refine lv_aload_n hx hb dL_law_589 rfl (lv_at hl 3 rfl) ?_
      refine lv_iload_n hx hb dL_law_590 rfl (lv_at hl 0 rfl) ?_
      refine lv_iconst (v := 1) hx hb dL_law_591 (by decide) ?_
      refine xn_add hx hb i 1 rfl rfl dL_law_592 ?_
      refine x_scr (v := xs (i + 1)) hx hb X hw.2.2 (i + 1) rfl (by omega) rfl dL_law_593 ?_
      refine x_goS (st1 := [.int (nI (cnt + 1))]) E hw (x_runVS (rest := []) E hw (c_X7_type_ok l g h q bads nos fuls cau whe v fo sq nx hd cnt p ca fa od tx wo nu S (xs (i + 1)) hq hc.1 hc.2) km_L_81 kv_X7_type _ (app_r (k := 0) rfl) hl.1 rfl rfl (Nat.le_of_ble_eq_true rfl) ⟨Nat.le_of_ble_eq_true rfl, Nat.le_of_ble_eq_true rfl⟩ ⟨Nat.le_of_ble_eq_true rfl, Nat.le_of_ble_eq_true rfl⟩ dL_law_594) rfl (fun H locs hw => ?_)
      have hw : xW g A0 s0 (MW g o hd bads nos fuls cau whe cnt pm fau isw ods w P sr tx wm nm ++ CW g h q bads nos fuls cau whe v fo sq nx hd (cnt + 1) p ca fa od (upd tx cnt (xs (i + 1))) wo nu S) _ _ := hw
      have hw := hw.swap
      refine lv_aload_n hx hb dL_law_597 rfl (lv_at hl 1 rfl) ?_
      refine lv_aload_n hx hb dL_law_598 rfl (lv_at hl 3 rfl) ?_
      refine lv_iload_n hx hb dL_law_599 rfl (lv_at hl 0 rfl) ?_
      refine lv_iconst (v := 1) hx hb dL_law_600 (by decide) ?_
      refine xn_add hx hb i 1 rfl rfl dL_law_601 ?_
      refine x_scr (v := xs (i + 1)) hx hb X hw.2.2 (i + 1) rfl (by omega) rfl dL_law_602 ?_
      refine x_goS (st1 := [.int (nI (cnt + 1)), .int (nI (cnt + 1))]) E hw (x_runVS (rest := [.int (nI (cnt + 1))]) E hw (c_X8_type_ok l g o hd bads nos fuls cau whe cnt pm fau isw ods w P sr tx wm nm (xs (i + 1)) hq hc.1 hc.2) km_L_84 kv_X8_type _ (app_r (k := 0) rfl) hl.1 rfl rfl (Nat.le_of_ble_eq_true rfl) ⟨Nat.le_of_ble_eq_true rfl, Nat.le_of_ble_eq_true rfl⟩ ⟨Nat.le_of_ble_eq_true rfl, Nat.le_of_ble_eq_true rfl⟩ dL_law_603) rfl (fun H locs hw => ?_)
      have hw : xW g A0 s0 (CW g h q bads nos fuls cau whe v fo sq nx hd (cnt + 1) p ca fa od (upd tx cnt (xs (i + 1))) wo nu S ++ MW g o hd bads nos fuls cau whe (cnt + 1) pm fau isw ods w P sr (upd tx cnt (xs (i + 1))) wm nm) _ _ := hw
      have hw := hw.swap
      refine lv_icmp_eq (tgt := 710) hx hb dL_law_606 (by decide) (fun _ => ?_) (fun z => absurd (rfl) z)
      exact kk _ _ _ _ _ _ _ _ _ _ _ _ _ _ _ _ _ _ _ _ _ _ _ _ _ _ _ _ _ _ _ ((J.count (by omega)).same) hw hl
    · refine lv_aload_n hx hb dL_law_588 rfl (lv_at hl 2 rfl) ?_
      refine lv_aload_n hx hb dL_law_589 rfl (lv_at hl 3 rfl) ?_
      refine lv_iload_n hx hb dL_law_590 rfl (lv_at hl 0 rfl) ?_
      refine lv_iconst (v := 1) hx hb dL_law_591 (by decide) ?_
      refine xn_add hx hb i 1 rfl rfl dL_law_592 ?_
      refine x_scr (v := xs (i + 1)) hx hb X hw.2.2 (i + 1) rfl (by omega) rfl dL_law_593 ?_
      refine x_goS (st1 := [.int (-4)]) E hw (x_runVS (rest := []) E hw (c_X7_type_full l g h q bads nos fuls cau whe v fo sq nx hd cnt p ca fa od tx wo nu S (xs (i + 1)) (by omega) hc.1 hc.2) km_L_81 kv_X7_type _ (app_r (k := 0) rfl) hl.1 rfl rfl (Nat.le_of_ble_eq_true rfl) ⟨Nat.le_of_ble_eq_true rfl, Nat.le_of_ble_eq_true rfl⟩ ⟨Nat.le_of_ble_eq_true rfl, Nat.le_of_ble_eq_true rfl⟩ dL_law_594) rfl (fun H locs hw => ?_)
      have hw : xW g A0 s0 (MW g o hd bads nos fuls cau whe cnt pm fau isw ods w P sr tx wm nm ++ CW g h q bads nos (fuls + 1) cau whe v fo sq nx hd cnt p ca fa od tx wo nu S) _ _ := hw
      have hw := hw.swap
      refine lv_aload_n hx hb dL_law_597 rfl (lv_at hl 1 rfl) ?_
      refine lv_aload_n hx hb dL_law_598 rfl (lv_at hl 3 rfl) ?_
      refine lv_iload_n hx hb dL_law_599 rfl (lv_at hl 0 rfl) ?_
      refine lv_iconst (v := 1) hx hb dL_law_600 (by decide) ?_
      refine xn_add hx hb i 1 rfl rfl dL_law_601 ?_
      refine x_scr (v := xs (i + 1)) hx hb X hw.2.2 (i + 1) rfl (by omega) rfl dL_law_602 ?_
      refine x_goS (st1 := [.int (-4), .int (-4)]) E hw (x_runVS (rest := [.int (-4)]) E hw (c_X8_type_full l g o hd bads nos fuls cau whe cnt pm fau isw ods w P sr tx wm nm (xs (i + 1)) (by omega) hc.1 hc.2) km_L_84 kv_X8_type _ (app_r (k := 0) rfl) hl.1 rfl rfl (Nat.le_of_ble_eq_true rfl) ⟨Nat.le_of_ble_eq_true rfl, Nat.le_of_ble_eq_true rfl⟩ ⟨Nat.le_of_ble_eq_true rfl, Nat.le_of_ble_eq_true rfl⟩ dL_law_603) rfl (fun H locs hw => ?_)
      have hw : xW g A0 s0 (CW g h q bads nos (fuls + 1) cau whe v fo sq nx hd cnt p ca fa od tx wo nu S ++ MW g o hd bads nos (fuls + 1) cau whe cnt pm fau isw ods w P sr tx wm nm) _ _ := hw
      have hw := hw.swap
      refine lv_icmp_eq (tgt := 710) hx hb dL_law_606 (by decide) (fun _ => ?_) (fun z => absurd (rfl) z)
      exact kk _ _ _ _ _ _ _ _ _ _ _ _ _ _ _ _ _ _ _ _ _ _ _ _ _ _ _ _ _ _ _ (J.full) hw hl
  · refine lv_aload_n hx hb dL_law_588 rfl (lv_at hl 2 rfl) ?_
    refine lv_aload_n hx hb dL_law_589 rfl (lv_at hl 3 rfl) ?_
    refine lv_iload_n hx hb dL_law_590 rfl (lv_at hl 0 rfl) ?_
    refine lv_iconst (v := 1) hx hb dL_law_591 (by decide) ?_
    refine xn_add hx hb i 1 rfl rfl dL_law_592 ?_
    refine x_scr (v := xs (i + 1)) hx hb X hw.2.2 (i + 1) rfl (by omega) rfl dL_law_593 ?_
    refine x_goS (st1 := [.int (-2)]) E hw (x_runVS (rest := []) E hw (c_X7_type_bad l g h q bads nos fuls cau whe v fo sq nx hd cnt p ca fa od tx wo nu S (xs (i + 1)) hc) km_L_81 kv_X7_type _ (app_r (k := 0) rfl) hl.1 rfl rfl (Nat.le_of_ble_eq_true rfl) ⟨Nat.le_of_ble_eq_true rfl, Nat.le_of_ble_eq_true rfl⟩ ⟨Nat.le_of_ble_eq_true rfl, Nat.le_of_ble_eq_true rfl⟩ dL_law_594) rfl (fun H locs hw => ?_)
    have hw : xW g A0 s0 (MW g o hd bads nos fuls cau whe cnt pm fau isw ods w P sr tx wm nm ++ CW g h q (bads + 1) nos fuls cau whe v fo sq nx hd cnt p ca fa od tx wo nu S) _ _ := hw
    have hw := hw.swap
    refine lv_aload_n hx hb dL_law_597 rfl (lv_at hl 1 rfl) ?_
    refine lv_aload_n hx hb dL_law_598 rfl (lv_at hl 3 rfl) ?_
    refine lv_iload_n hx hb dL_law_599 rfl (lv_at hl 0 rfl) ?_
    refine lv_iconst (v := 1) hx hb dL_law_600 (by decide) ?_
    refine xn_add hx hb i 1 rfl rfl dL_law_601 ?_
    refine x_scr (v := xs (i + 1)) hx hb X hw.2.2 (i + 1) rfl (by omega) rfl dL_law_602 ?_
    refine x_goS (st1 := [.int (-2), .int (-2)]) E hw (x_runVS (rest := [.int (-2)]) E hw (c_X8_type_bad l g o hd bads nos fuls cau whe cnt pm fau isw ods w P sr tx wm nm (xs (i + 1)) hc) km_L_84 kv_X8_type _ (app_r (k := 0) rfl) hl.1 rfl rfl (Nat.le_of_ble_eq_true rfl) ⟨Nat.le_of_ble_eq_true rfl, Nat.le_of_ble_eq_true rfl⟩ ⟨Nat.le_of_ble_eq_true rfl, Nat.le_of_ble_eq_true rfl⟩ dL_law_603) rfl (fun H locs hw => ?_)
    have hw : xW g A0 s0 (CW g h q (bads + 1) nos fuls cau whe v fo sq nx hd cnt p ca fa od tx wo nu S ++ MW g o hd (bads + 1) nos fuls cau whe cnt pm fau isw ods w P sr tx wm nm) _ _ := hw
    have hw := hw.swap
    refine lv_icmp_eq (tgt := 710) hx hb dL_law_606 (by decide) (fun _ => ?_) (fun z => absurd (rfl) z)
    exact kk _ _ _ _ _ _ _ _ _ _ _ _ _ _ _ _ _ _ _ _ _ _ _ _ _ _ _ _ _ _ _ (J.bad) hw hl

set_option maxRecDepth 100000 in
set_option maxHeartbeats 4000000 in
theorem lw_clear {p0 : Program} {l : Launch} {g : xCfg} {e0 : Env} {s0 : State} {m0 : MethodId} {below : List Frame} {meth : Method} {c0 : Code} {A0 : Nat → Prop} {b L i K : Nat} {xs : Nat → Int32} {h : Nat → Nat} {q : Nat → Nat → Nat} {o : Nat → Nat} {Q : State → Prop} (E : xE g p0 s0 m0 #[Value.ref b] meth c0 cL_law 4 RL A0) (X : va_X b L xs s0 s0.heap ∧ b < s0.heap.size ∧ ¬ A0 b ∧ L ≤ 2560) (hi : i + 5 ≤ L) (hK : K < 2 ^ 30) (kk : LA p0 l g e0 s0 m0 below meth c0 A0 b h q o Q (K + 200) i 710) : LA p0 l g e0 s0 m0 below meth c0 A0 b h q o Q K i 611 := by
  intro bads nos fuls cau whe v fo sq nx hd cnt p ca fa od tx wo nu S pm fau isw ods w P sr wm nm H locs ls J hw hl
  have hx := E.x
  have hb := E.b
  obtain ⟨len, hlen, hl1, hl2, C, g1, R, hL1, hL, hf, hnx, hhd, hcnt, gw, e1, wL1, wL, wlen, wf, wQ, yq, hyq, hqy⟩ := J.facts sr
  refine lv_aload_n hx hb dL_law_611 rfl (lv_at hl 2 rfl) ?_
  refine x_goS (st1 := [.int (nI cnt)]) E hw (x_runVS (rest := []) E hw (c_X7_clear_ok l g h q bads nos fuls cau whe v fo sq nx hd cnt p ca fa od tx wo nu S  ) km_L_85 kv_X7_clear _ (app_r (k := 0) rfl) hl.1 rfl rfl (Nat.le_of_ble_eq_true rfl) ⟨Nat.le_of_ble_eq_true rfl, Nat.le_of_ble_eq_true rfl⟩ ⟨Nat.le_of_ble_eq_true rfl, Nat.le_of_ble_eq_true rfl⟩ dL_law_612) rfl (fun H locs hw => ?_)
  have hw : xW g A0 s0 (MW g o hd bads nos fuls cau whe cnt pm fau isw ods w P sr tx wm nm ++ CW g h q bads nos fuls cau whe v fo sq nx hd 0 p ca fa od tx wo nu S) _ _ := hw
  have hw := hw.swap
  refine lv_aload_n hx hb dL_law_615 rfl (lv_at hl 1 rfl) ?_
  refine x_goS (st1 := [.int (nI cnt), .int (nI cnt)]) E hw (x_runVS (rest := [.int (nI cnt)]) E hw (c_X8_clear_ok l g o hd bads nos fuls cau whe cnt pm fau isw ods w P sr tx wm nm  ) km_L_88 kv_X8_clear _ (app_r (k := 0) rfl) hl.1 rfl rfl (Nat.le_of_ble_eq_true rfl) ⟨Nat.le_of_ble_eq_true rfl, Nat.le_of_ble_eq_true rfl⟩ ⟨Nat.le_of_ble_eq_true rfl, Nat.le_of_ble_eq_true rfl⟩ dL_law_616) rfl (fun H locs hw => ?_)
  have hw : xW g A0 s0 (CW g h q bads nos fuls cau whe v fo sq nx hd 0 p ca fa od tx wo nu S ++ MW g o hd bads nos fuls cau whe 0 pm fau isw ods w P sr tx wm nm) _ _ := hw
  have hw := hw.swap
  refine lv_icmp_eq (tgt := 710) hx hb dL_law_619 (by decide) (fun _ => ?_) (fun z => absurd (rfl) z)
  exact kk _ _ _ _ _ _ _ _ _ _ _ _ _ _ _ _ _ _ _ _ _ _ _ _ _ _ _ _ _ _ _ ((J.count (by omega)).same) hw hl

set_option maxRecDepth 100000 in
set_option maxHeartbeats 4000000 in
theorem lw_does {p0 : Program} {l : Launch} {g : xCfg} {e0 : Env} {s0 : State} {m0 : MethodId} {below : List Frame} {meth : Method} {c0 : Code} {A0 : Nat → Prop} {b L i K : Nat} {xs : Nat → Int32} {h : Nat → Nat} {q : Nat → Nat → Nat} {o : Nat → Nat} {Q : State → Prop} (E : xE g p0 s0 m0 #[Value.ref b] meth c0 cL_law 4 RL A0) (X : va_X b L xs s0 s0.heap ∧ b < s0.heap.size ∧ ¬ A0 b ∧ L ≤ 2560) (hi : i + 5 ≤ L) (hK : K < 2 ^ 30) (kk : LA p0 l g e0 s0 m0 below meth c0 A0 b h q o Q (K + 200) i 710) : LA p0 l g e0 s0 m0 below meth c0 A0 b h q o Q K i 624 := by
  intro bads nos fuls cau whe v fo sq nx hd cnt p ca fa od tx wo nu S pm fau isw ods w P sr wm nm H locs ls J hw hl
  have hx := E.x
  have hb := E.b
  obtain ⟨len, hlen, hl1, hl2, C, g1, R, hL1, hL, hf, hnx, hhd, hcnt, gw, e1, wL1, wL, wlen, wf, wQ, yq, hyq, hqy⟩ := J.facts sr
  have HR := rR0 (tx := tx) hcnt wo nu wm nm ca fa od fau
  rcases hA : rdR tx cnt 24 0 0 wo nu ca fa od with ⟨ok1, pp, wo2, nu2, ca2, fa2, od2⟩
  rcases hB : rrR tx cnt 25 0 (skB tx (cnt - 0) 0) wm nm fau 0 with ⟨ok2, p2, wo3, nu3, fa3, iw2, K2⟩
  rw [hA, hB] at HR
  obtain ⟨z1, z2, z3⟩ := HR
  have z1 : ok1 = ok2 := z1
  subst z1
  cases ok1 with
  | false =>
    obtain ⟨f1, f2, f3⟩ := z2 rfl
    have f1 : fa2 = fa3 := f1
    have f2 : ca2 = (if iw2 = 0 then 2 else 1) := f2
    have f3 : ∃ s, s ≤ 120 ∧ fa2 = nI s := f3
    subst f1
    subst f2
    have f4 : ∃ k, k ≤ 3 ∧ (if iw2 = 0 then 2 else 1 : Int32) = nI k := by
      split
      · exact ⟨2, by omega, rfl⟩
      · exact ⟨1, by omega, rfl⟩
    refine lv_aload_n hx hb dL_law_624 rfl (lv_at hl 2 rfl) ?_
    refine x_goS (st1 := [.int (-10 - fa2)]) E hw (x_runVS (rest := []) E hw (c_X7_does_f l g h q bads nos fuls cau whe v fo sq nx hd cnt p ca fa od tx wo nu S pp wo2 nu2 (if iw2 = 0 then 2 else 1) fa2 od2 hcnt hA) km_L_89 kv_X7_does _ (app_r (k := 0) rfl) hl.1 rfl rfl (Nat.le_of_ble_eq_true rfl) ⟨Nat.le_of_ble_eq_true rfl, Nat.le_of_ble_eq_true rfl⟩ ⟨Nat.le_of_ble_eq_true rfl, Nat.le_of_ble_eq_true rfl⟩ dL_law_625) rfl (fun H locs hw => ?_)
    have hw : xW g A0 s0 (MW g o hd bads nos fuls cau whe cnt pm fau isw ods w P sr tx wm nm ++ CW g h q bads nos fuls (if iw2 = 0 then 2 else 1) fa2 v fo sq nx hd cnt pp (if iw2 = 0 then 2 else 1) fa2 od2 tx wo2 nu2 S) _ _ := hw
    have hw := hw.swap
    refine lv_aload_n hx hb dL_law_628 rfl (lv_at hl 1 rfl) ?_
    refine x_goS (st1 := [.int (-10 - fa2), .int (-10 - fa2)]) E hw (x_runVS (rest := [.int (-10 - fa2)]) E hw (c_X8_does_f l g o hd bads nos fuls cau whe cnt pm fau isw ods w P sr tx wm nm p2 wo3 nu3 fa2 iw2 K2 hcnt hB) km_L_92 kv_X8_does _ (app_r (k := 0) rfl) hl.1 rfl rfl (Nat.le_of_ble_eq_true rfl) ⟨Nat.le_of_ble_eq_true rfl, Nat.le_of_ble_eq_true rfl⟩ ⟨Nat.le_of_ble_eq_true rfl, Nat.le_of_ble_eq_true rfl⟩ dL_law_629) rfl (fun H locs hw => ?_)
    have hw : xW g A0 s0 (CW g h q bads nos fuls (if iw2 = 0 then 2 else 1) fa2 v fo sq nx hd cnt pp (if iw2 = 0 then 2 else 1) fa2 od2 tx wo2 nu2 S ++ MW g o hd bads nos fuls (if iw2 = 0 then 2 else 1) fa2 cnt p2 fa2 iw2 (nI K2) w P sr tx wo3 nu3) _ _ := hw
    have hw := hw.swap
    refine lv_icmp_eq (tgt := 710) hx hb dL_law_632 (by decide) (fun _ => ?_) (fun z => absurd (rfl) z)
    exact kk _ _ _ _ _ _ _ _ _ _ _ _ _ _ _ _ _ _ _ _ _ _ _ _ _ _ _ _ _ _ _ ((J.why f4 f3).same) hw hl
  | true =>
    obtain ⟨K3, k1, k2, k3, k4⟩ := z3 rfl
    have k2 : od2 = nI K3 := k2
    have k3 : K2 = K3 := k3
    subst k2
    subst k3
    have k4 : Iv K2 wo2 nu2 wo3 nu3 := k4
    have D := ds_rel k4 K2 0 v w (by omega) R
    have DL := ds_le wo2 nu2 K2 0 v
    by_cases hall : (dsR wo2 nu2 K2 0 v).1 = K2
    · obtain ⟨ln, q1, q2, q3⟩ := (ds_g (wo := wo2) (nu := nu2) K2 0 v g1).lenx
      refine lv_aload_n hx hb dL_law_624 rfl (lv_at hl 2 rfl) ?_
      refine x_goS (st1 := [.int (nI K2)]) E hw (x_runVS (rest := []) E hw (c_X7_does_ok l g h q bads nos fuls cau whe v fo sq nx hd cnt p ca fa od tx wo nu S pp wo2 nu2 ca2 fa2 K2 ln (Gd K) hcnt hnx hhd hA k1 (fun u hu => ⟨by have := hu.1.1; omega, hu.1.2.1, fun x a b y z => obR_n hu z⟩) (fun u x a b y hu z => hu.ob z) g1 q3 q1 q2 hall) km_L_89 kv_X7_does _ (app_r (k := 0) rfl) hl.1 rfl rfl (Nat.le_of_ble_eq_true rfl) ⟨Nat.le_of_ble_eq_true rfl, Nat.le_of_ble_eq_true rfl⟩ ⟨Nat.le_of_ble_eq_true rfl, Nat.le_of_ble_eq_true rfl⟩ dL_law_625) rfl (fun H locs hw => ?_)
      have hw : xW g A0 s0 (MW g o hd bads nos fuls cau whe cnt pm fau isw ods w P sr tx wm nm ++ CW g h q bads nos fuls cau whe ((dsR wo2 nu2 K2 0 v).2) (foOf ((dsR wo2 nu2 K2 0 v).2) ln fo) (sqOf ((dsR wo2 nu2 K2 0 v).2) ln fo sq) ((nx + 1) % 7) (min 6 (hd + 1)) cnt pp ca2 fa2 (nI K2) tx wo2 nu2 (va_up S nx v)) _ _ := hw
      have hw := hw.swap
      refine lv_aload_n hx hb dL_law_628 rfl (lv_at hl 1 rfl) ?_
      refine x_goS (st1 := [.int (nI K2), .int (nI K2)]) E hw (x_runVS (rest := [.int (nI K2)]) E hw (c_X8_does_ok l g o hd bads nos fuls cau whe cnt pm fau isw ods w P sr tx wm nm p2 wo3 nu3 fa3 iw2 K2 (Gd K) hcnt hhd hB k1 (fun u hu => ⟨by have := hu.1.1; omega, hu.1.2.1, fun a ha => by obtain ⟨y, y1, y2⟩ := (hu.1.2.2.1 a ha).2.2; rw [y2]; exact Int32.not_le.mpr (Int32.lt_of_lt_of_le (by decide) (nI_pos' (by omega))), fun j hj => by obtain ⟨y, y1, y2⟩ := st_n hu.1.2.2.2 hj; rw [y2]; exact Int32.not_le.mpr (Int32.lt_of_lt_of_le (by decide) (nI_pos' (by omega)))⟩) (fun u x a b y hu z => hu.ob z) gw (fun k hk => by rw [← (k4 k hk).1]; exact (k4 k hk).2.1) (by rw [← D.1]; exact hall)) km_L_92 kv_X8_does _ (app_r (k := 0) rfl) hl.1 rfl rfl (Nat.le_of_ble_eq_true rfl) ⟨Nat.le_of_ble_eq_true rfl, Nat.le_of_ble_eq_true rfl⟩ ⟨Nat.le_of_ble_eq_true rfl, Nat.le_of_ble_eq_true rfl⟩ dL_law_629) rfl (fun H locs hw => ?_)
      have hw : xW g A0 s0 (CW g h q bads nos fuls cau whe ((dsR wo2 nu2 K2 0 v).2) (foOf ((dsR wo2 nu2 K2 0 v).2) ln fo) (sqOf ((dsR wo2 nu2 K2 0 v).2) ln fo sq) ((nx + 1) % 7) (min 6 (hd + 1)) cnt pp ca2 fa2 (nI K2) tx wo2 nu2 (va_up S nx v) ++ MW g o (min 6 (hd + 1)) bads nos fuls cau whe cnt p2 fa3 iw2 (nI K2) ((dsR wo3 nu3 K2 0 w).2) (lvP (va_up P 6 w) hd) sr tx wo3 nu3) _ _ := hw
      have hw := hw.swap
      refine lv_icmp_eq (tgt := 710) hx hb dL_law_632 (by decide) (fun _ => ?_) (fun z => absurd (rfl) z)
      exact kk _ _ _ _ _ _ _ _ _ _ _ _ _ _ _ _ _ _ _ _ _ _ _ _ _ _ _ _ _ _ _ (J.leave ((ds_g K2 0 v g1).mono (by omega)) D.2 (re_cv2 q3 q1 q2 fo sq)) hw hl
    · have cm := (c_X8_does_n l g o hd bads nos fuls cau whe cnt pm fau isw ods w P sr tx wm nm p2 wo3 nu3 fa3 iw2 K2 (Gd K) hcnt hB k1 (fun u hu => ⟨by have := hu.1.1; omega, hu.1.2.1, fun a ha => by obtain ⟨y, y1, y2⟩ := (hu.1.2.2.1 a ha).2.2; rw [y2]; exact Int32.not_le.mpr (Int32.lt_of_lt_of_le (by decide) (nI_pos' (by omega))), fun j hj => by obtain ⟨y, y1, y2⟩ := st_n hu.1.2.2.2 hj; rw [y2]; exact Int32.not_le.mpr (Int32.lt_of_lt_of_le (by decide) (nI_pos' (by omega)))⟩) (fun u x a b y hu z => hu.ob z) gw (fun k hk => by rw [← (k4 k hk).1]; exact (k4 k hk).2.1) (by rw [← D.1]; omega))
      rw [← D.1] at cm
      refine lv_aload_n hx hb dL_law_624 rfl (lv_at hl 2 rfl) ?_
      refine x_goS (st1 := [.int (-1000 - nI (dsR wo2 nu2 K2 0 v).1)]) E hw (x_runVS (rest := []) E hw (c_X7_does_n l g h q bads nos fuls cau whe v fo sq nx hd cnt p ca fa od tx wo nu S pp wo2 nu2 ca2 fa2 K2 (Gd K) hcnt hnx hA k1 (fun u hu => ⟨by have := hu.1.1; omega, hu.1.2.1, fun x a b y z => obR_n hu z⟩) (fun u x a b y hu z => hu.ob z) g1 (by omega)) km_L_89 kv_X7_does _ (app_r (k := 0) rfl) hl.1 rfl rfl (Nat.le_of_ble_eq_true rfl) ⟨Nat.le_of_ble_eq_true rfl, Nat.le_of_ble_eq_true rfl⟩ ⟨Nat.le_of_ble_eq_true rfl, Nat.le_of_ble_eq_true rfl⟩ dL_law_625) rfl (fun H locs hw => ?_)
      have hw : xW g A0 s0 (MW g o hd bads nos fuls cau whe cnt pm fau isw ods w P sr tx wm nm ++ CW g h q bads nos fuls 3 (nI (dsR wo2 nu2 K2 0 v).1) v fo sq nx hd cnt pp ca2 fa2 (nI K2) tx wo2 nu2 (va_up S nx v)) _ _ := hw
      have hw := hw.swap
      refine lv_aload_n hx hb dL_law_628 rfl (lv_at hl 1 rfl) ?_
      refine x_goS (st1 := [.int (-1000 - nI (dsR wo2 nu2 K2 0 v).1), .int (-1000 - nI (dsR wo2 nu2 K2 0 v).1)]) E hw (x_runVS (rest := [.int (-1000 - nI (dsR wo2 nu2 K2 0 v).1)]) E hw cm km_L_92 kv_X8_does _ (app_r (k := 0) rfl) hl.1 rfl rfl (Nat.le_of_ble_eq_true rfl) ⟨Nat.le_of_ble_eq_true rfl, Nat.le_of_ble_eq_true rfl⟩ ⟨Nat.le_of_ble_eq_true rfl, Nat.le_of_ble_eq_true rfl⟩ dL_law_629) rfl (fun H locs hw => ?_)
      have hw : xW g A0 s0 (CW g h q bads nos fuls 3 (nI (dsR wo2 nu2 K2 0 v).1) v fo sq nx hd cnt pp ca2 fa2 (nI K2) tx wo2 nu2 (va_up S nx v) ++ MW g o hd bads nos fuls 3 (nI (dsR wo2 nu2 K2 0 v).1) cnt p2 fa3 iw2 (nI K2) w (va_up P 6 w) sr tx wo3 nu3) _ _ := hw
      have hw := hw.swap
      refine lv_icmp_eq (tgt := 710) hx hb dL_law_632 (by decide) (fun _ => ?_) (fun z => absurd (rfl) z)
      exact kk _ _ _ _ _ _ _ _ _ _ _ _ _ _ _ _ _ _ _ _ _ _ _ _ _ _ _ _ _ _ _ (((J.note.six w).why ⟨3, by omega, rfl⟩ ⟨_, by omega, rfl⟩).same) hw hl

set_option maxRecDepth 100000 in
set_option maxHeartbeats 4000000 in
theorem lw_why {p0 : Program} {l : Launch} {g : xCfg} {e0 : Env} {s0 : State} {m0 : MethodId} {below : List Frame} {meth : Method} {c0 : Code} {A0 : Nat → Prop} {b L i K : Nat} {xs : Nat → Int32} {h : Nat → Nat} {q : Nat → Nat → Nat} {o : Nat → Nat} {Q : State → Prop} (E : xE g p0 s0 m0 #[Value.ref b] meth c0 cL_law 4 RL A0) (X : va_X b L xs s0 s0.heap ∧ b < s0.heap.size ∧ ¬ A0 b ∧ L ≤ 2560) (hi : i + 5 ≤ L) (hK : K < 2 ^ 30) (kk : LA p0 l g e0 s0 m0 below meth c0 A0 b h q o Q (K + 200) i 710) : LA p0 l g e0 s0 m0 below meth c0 A0 b h q o Q K i 637 := by
  intro bads nos fuls cau whe v fo sq nx hd cnt p ca fa od tx wo nu S pm fau isw ods w P sr wm nm H locs ls J hw hl
  have hx := E.x
  have hb := E.b
  obtain ⟨len, hlen, hl1, hl2, C, g1, R, hL1, hL, hf, hnx, hhd, hcnt, gw, e1, wL1, wL, wlen, wf, wQ, yq, hyq, hqy⟩ := J.facts sr
  obtain ⟨-, -, -, -, -, -, -, -, ⟨kc, kc1, kc2⟩, hwh⟩ := id J
  by_cases hc0 : xs (i + 1) = 0
  · refine lv_aload_n hx hb dL_law_637 rfl (lv_at hl 2 rfl) ?_
    refine lv_aload_n hx hb dL_law_638 rfl (lv_at hl 3 rfl) ?_
    refine lv_iload_n hx hb dL_law_639 rfl (lv_at hl 0 rfl) ?_
    refine lv_iconst (v := 1) hx hb dL_law_640 (by decide) ?_
    refine xn_add hx hb i 1 rfl rfl dL_law_641 ?_
    refine x_scr (v := 0) hx hb X hw.2.2 (i + 1) rfl (by omega) hc0 dL_law_642 ?_
    refine x_goS (st1 := [.int cau]) E hw (x_runVS (rest := []) E hw (c_X7_why_0 l g h q bads nos fuls cau whe v fo sq nx hd cnt p ca fa od tx wo nu S  (nn3 (k := kc) (by omega) kc2).1 (nn3 (k := kc) (by omega) kc2).2.1 (nn3 (k := kc) (by omega) kc2).2.2) km_L_93 kv_X7_why _ (app_r (k := 0) rfl) hl.1 rfl rfl (Nat.le_of_ble_eq_true rfl) ⟨Nat.le_of_ble_eq_true rfl, Nat.le_of_ble_eq_true rfl⟩ ⟨Nat.le_of_ble_eq_true rfl, Nat.le_of_ble_eq_true rfl⟩ dL_law_643) rfl (fun H locs hw => ?_)
    have hw : xW g A0 s0 (MW g o hd bads nos fuls cau whe cnt pm fau isw ods w P sr tx wm nm ++ CW g h q bads nos fuls cau whe v fo sq nx hd cnt p ca fa od tx wo nu S) _ _ := hw
    have hw := hw.swap
    refine lv_aload_n hx hb dL_law_646 rfl (lv_at hl 1 rfl) ?_
    refine lv_aload_n hx hb dL_law_647 rfl (lv_at hl 3 rfl) ?_
    refine lv_iload_n hx hb dL_law_648 rfl (lv_at hl 0 rfl) ?_
    refine lv_iconst (v := 1) hx hb dL_law_649 (by decide) ?_
    refine xn_add hx hb i 1 rfl rfl dL_law_650 ?_
    refine x_scr (v := 0) hx hb X hw.2.2 (i + 1) rfl (by omega) hc0 dL_law_651 ?_
    refine x_goS (st1 := [.int cau, .int cau]) E hw (x_runVS (rest := [.int cau]) E hw (c_X8_why_0 l g o hd bads nos fuls cau whe cnt pm fau isw ods w P sr tx wm nm  ) km_L_96 kv_X8_why _ (app_r (k := 0) rfl) hl.1 rfl rfl (Nat.le_of_ble_eq_true rfl) ⟨Nat.le_of_ble_eq_true rfl, Nat.le_of_ble_eq_true rfl⟩ ⟨Nat.le_of_ble_eq_true rfl, Nat.le_of_ble_eq_true rfl⟩ dL_law_652) rfl (fun H locs hw => ?_)
    have hw : xW g A0 s0 (CW g h q bads nos fuls cau whe v fo sq nx hd cnt p ca fa od tx wo nu S ++ MW g o hd bads nos fuls cau whe cnt pm fau isw ods w P sr tx wm nm) _ _ := hw
    have hw := hw.swap
    refine lv_icmp_eq (tgt := 710) hx hb dL_law_655 (by decide) (fun _ => ?_) (fun z => absurd (rfl) z)
    exact kk _ _ _ _ _ _ _ _ _ _ _ _ _ _ _ _ _ _ _ _ _ _ _ _ _ _ _ _ _ _ _ (J.same) hw hl
  by_cases hc1 : xs (i + 1) = 1
  · have hn : ¬ whe = -2 ∧ ¬ whe = -3 ∧ ¬ whe = -4 := n_m1 (by rcases hwh with z | ⟨s, s1, s2⟩; exact Or.inl z; exact Or.inr ⟨s, by omega, s2⟩)
    refine lv_aload_n hx hb dL_law_637 rfl (lv_at hl 2 rfl) ?_
    refine lv_aload_n hx hb dL_law_638 rfl (lv_at hl 3 rfl) ?_
    refine lv_iload_n hx hb dL_law_639 rfl (lv_at hl 0 rfl) ?_
    refine lv_iconst (v := 1) hx hb dL_law_640 (by decide) ?_
    refine xn_add hx hb i 1 rfl rfl dL_law_641 ?_
    refine x_scr (v := 1) hx hb X hw.2.2 (i + 1) rfl (by omega) hc1 dL_law_642 ?_
    refine x_goS (st1 := [.int whe]) E hw (x_runVS (rest := []) E hw (c_X7_why_1 l g h q bads nos fuls cau whe v fo sq nx hd cnt p ca fa od tx wo nu S  (hn).1 (hn).2.1 (hn).2.2) km_L_93 kv_X7_why _ (app_r (k := 0) rfl) hl.1 rfl rfl (Nat.le_of_ble_eq_true rfl) ⟨Nat.le_of_ble_eq_true rfl, Nat.le_of_ble_eq_true rfl⟩ ⟨Nat.le_of_ble_eq_true rfl, Nat.le_of_ble_eq_true rfl⟩ dL_law_643) rfl (fun H locs hw => ?_)
    have hw : xW g A0 s0 (MW g o hd bads nos fuls cau whe cnt pm fau isw ods w P sr tx wm nm ++ CW g h q bads nos fuls cau whe v fo sq nx hd cnt p ca fa od tx wo nu S) _ _ := hw
    have hw := hw.swap
    refine lv_aload_n hx hb dL_law_646 rfl (lv_at hl 1 rfl) ?_
    refine lv_aload_n hx hb dL_law_647 rfl (lv_at hl 3 rfl) ?_
    refine lv_iload_n hx hb dL_law_648 rfl (lv_at hl 0 rfl) ?_
    refine lv_iconst (v := 1) hx hb dL_law_649 (by decide) ?_
    refine xn_add hx hb i 1 rfl rfl dL_law_650 ?_
    refine x_scr (v := 1) hx hb X hw.2.2 (i + 1) rfl (by omega) hc1 dL_law_651 ?_
    refine x_goS (st1 := [.int whe, .int whe]) E hw (x_runVS (rest := [.int whe]) E hw (c_X8_why_1 l g o hd bads nos fuls cau whe cnt pm fau isw ods w P sr tx wm nm  ) km_L_96 kv_X8_why _ (app_r (k := 0) rfl) hl.1 rfl rfl (Nat.le_of_ble_eq_true rfl) ⟨Nat.le_of_ble_eq_true rfl, Nat.le_of_ble_eq_true rfl⟩ ⟨Nat.le_of_ble_eq_true rfl, Nat.le_of_ble_eq_true rfl⟩ dL_law_652) rfl (fun H locs hw => ?_)
    have hw : xW g A0 s0 (CW g h q bads nos fuls cau whe v fo sq nx hd cnt p ca fa od tx wo nu S ++ MW g o hd bads nos fuls cau whe cnt pm fau isw ods w P sr tx wm nm) _ _ := hw
    have hw := hw.swap
    refine lv_icmp_eq (tgt := 710) hx hb dL_law_655 (by decide) (fun _ => ?_) (fun z => absurd (rfl) z)
    exact kk _ _ _ _ _ _ _ _ _ _ _ _ _ _ _ _ _ _ _ _ _ _ _ _ _ _ _ _ _ _ _ (J.same) hw hl
  refine lv_aload_n hx hb dL_law_637 rfl (lv_at hl 2 rfl) ?_
  refine lv_aload_n hx hb dL_law_638 rfl (lv_at hl 3 rfl) ?_
  refine lv_iload_n hx hb dL_law_639 rfl (lv_at hl 0 rfl) ?_
  refine lv_iconst (v := 1) hx hb dL_law_640 (by decide) ?_
  refine xn_add hx hb i 1 rfl rfl dL_law_641 ?_
  refine x_scr (v := xs (i + 1)) hx hb X hw.2.2 (i + 1) rfl (by omega) rfl dL_law_642 ?_
  refine x_goS (st1 := [.int (-2)]) E hw (x_runVS (rest := []) E hw (c_X7_why_bad l g h q bads nos fuls cau whe v fo sq nx hd cnt p ca fa od tx wo nu S (xs (i + 1)) hc0 hc1) km_L_93 kv_X7_why _ (app_r (k := 0) rfl) hl.1 rfl rfl (Nat.le_of_ble_eq_true rfl) ⟨Nat.le_of_ble_eq_true rfl, Nat.le_of_ble_eq_true rfl⟩ ⟨Nat.le_of_ble_eq_true rfl, Nat.le_of_ble_eq_true rfl⟩ dL_law_643) rfl (fun H locs hw => ?_)
  have hw : xW g A0 s0 (MW g o hd bads nos fuls cau whe cnt pm fau isw ods w P sr tx wm nm ++ CW g h q (bads + 1) nos fuls cau whe v fo sq nx hd cnt p ca fa od tx wo nu S) _ _ := hw
  have hw := hw.swap
  refine lv_aload_n hx hb dL_law_646 rfl (lv_at hl 1 rfl) ?_
  refine lv_aload_n hx hb dL_law_647 rfl (lv_at hl 3 rfl) ?_
  refine lv_iload_n hx hb dL_law_648 rfl (lv_at hl 0 rfl) ?_
  refine lv_iconst (v := 1) hx hb dL_law_649 (by decide) ?_
  refine xn_add hx hb i 1 rfl rfl dL_law_650 ?_
  refine x_scr (v := xs (i + 1)) hx hb X hw.2.2 (i + 1) rfl (by omega) rfl dL_law_651 ?_
  refine x_goS (st1 := [.int (-2), .int (-2)]) E hw (x_runVS (rest := [.int (-2)]) E hw (c_X8_why_bad l g o hd bads nos fuls cau whe cnt pm fau isw ods w P sr tx wm nm (xs (i + 1)) (fun z => hc1 (wh1 hc0 z))) km_L_96 kv_X8_why _ (app_r (k := 0) rfl) hl.1 rfl rfl (Nat.le_of_ble_eq_true rfl) ⟨Nat.le_of_ble_eq_true rfl, Nat.le_of_ble_eq_true rfl⟩ ⟨Nat.le_of_ble_eq_true rfl, Nat.le_of_ble_eq_true rfl⟩ dL_law_652) rfl (fun H locs hw => ?_)
  have hw : xW g A0 s0 (CW g h q (bads + 1) nos fuls cau whe v fo sq nx hd cnt p ca fa od tx wo nu S ++ MW g o hd (bads + 1) nos fuls cau whe cnt pm fau isw ods w P sr tx wm nm) _ _ := hw
  have hw := hw.swap
  refine lv_icmp_eq (tgt := 710) hx hb dL_law_655 (by decide) (fun _ => ?_) (fun z => absurd (rfl) z)
  exact kk _ _ _ _ _ _ _ _ _ _ _ _ _ _ _ _ _ _ _ _ _ _ _ _ _ _ _ _ _ _ _ (J.bad) hw hl

set_option maxRecDepth 100000 in
set_option maxHeartbeats 4000000 in
theorem lw_back {p0 : Program} {l : Launch} {g : xCfg} {e0 : Env} {s0 : State} {m0 : MethodId} {below : List Frame} {meth : Method} {c0 : Code} {A0 : Nat → Prop} {b L i K : Nat} {xs : Nat → Int32} {h : Nat → Nat} {q : Nat → Nat → Nat} {o : Nat → Nat} {Q : State → Prop} (E : xE g p0 s0 m0 #[Value.ref b] meth c0 cL_law 4 RL A0) (X : va_X b L xs s0 s0.heap ∧ b < s0.heap.size ∧ ¬ A0 b ∧ L ≤ 2560) (hi : i + 5 ≤ L) (hK : K < 2 ^ 30) (kk : LA p0 l g e0 s0 m0 below meth c0 A0 b h q o Q (K + 200) i 710) : LA p0 l g e0 s0 m0 below meth c0 A0 b h q o Q K i 660 := by
  intro bads nos fuls cau whe v fo sq nx hd cnt p ca fa od tx wo nu S pm fau isw ods w P sr wm nm H locs ls J hw hl
  have hx := E.x
  have hb := E.b
  obtain ⟨len, hlen, hl1, hl2, C, g1, R, hL1, hL, hf, hnx, hhd, hcnt, gw, e1, wL1, wL, wlen, wf, wQ, yq, hyq, hqy⟩ := J.facts sr
  by_cases h0 : hd = 0
  · refine lv_aload_n hx hb dL_law_660 rfl (lv_at hl 2 rfl) ?_
    refine x_goS (st1 := [.int (-3)]) E hw (x_runVS (rest := []) E hw (c_X7_back_no l g h q bads nos fuls cau whe v fo sq nx hd cnt p ca fa od tx wo nu S  h0) km_L_97 kv_X7_back _ (app_r (k := 0) rfl) hl.1 rfl rfl (Nat.le_of_ble_eq_true rfl) ⟨Nat.le_of_ble_eq_true rfl, Nat.le_of_ble_eq_true rfl⟩ ⟨Nat.le_of_ble_eq_true rfl, Nat.le_of_ble_eq_true rfl⟩ dL_law_661) rfl (fun H locs hw => ?_)
    have hw : xW g A0 s0 (MW g o hd bads nos fuls cau whe cnt pm fau isw ods w P sr tx wm nm ++ CW g h q bads (nos + 1) fuls cau whe v fo sq nx hd cnt p ca fa od tx wo nu S) _ _ := hw
    have hw := hw.swap
    refine lv_aload_n hx hb dL_law_664 rfl (lv_at hl 1 rfl) ?_
    refine x_goS (st1 := [.int (-3), .int (-3)]) E hw (x_runVS (rest := [.int (-3)]) E hw (c_X8_back_no l g o hd bads nos fuls cau whe cnt pm fau isw ods w P sr tx wm nm  h0) km_L_100 kv_X8_back _ (app_r (k := 0) rfl) hl.1 rfl rfl (Nat.le_of_ble_eq_true rfl) ⟨Nat.le_of_ble_eq_true rfl, Nat.le_of_ble_eq_true rfl⟩ ⟨Nat.le_of_ble_eq_true rfl, Nat.le_of_ble_eq_true rfl⟩ dL_law_665) rfl (fun H locs hw => ?_)
    have hw : xW g A0 s0 (CW g h q bads (nos + 1) fuls cau whe v fo sq nx hd cnt p ca fa od tx wo nu S ++ MW g o hd bads (nos + 1) fuls cau whe cnt pm fau isw ods w P sr tx wm nm) _ _ := hw
    have hw := hw.swap
    refine lv_icmp_eq (tgt := 710) hx hb dL_law_668 (by decide) (fun _ => ?_) (fun z => absurd (rfl) z)
    exact kk _ _ _ _ _ _ _ _ _ _ _ _ _ _ _ _ _ _ _ _ _ _ _ _ _ _ _ _ _ _ _ (J.no) hw hl
  obtain ⟨-, -, -, -, -, -, hHS, -⟩ := id J
  have TT := hHS.top hnx (by omega) hhd
  obtain ⟨ln, q1, q2, q3⟩ := TT.2.lenx
  refine lv_aload_n hx hb dL_law_660 rfl (lv_at hl 2 rfl) ?_
  refine x_goS (st1 := [.int (nI (hd - 1))]) E hw (x_runVS (rest := []) E hw (c_X7_back_ok l g h q bads nos fuls cau whe v fo sq nx hd cnt p ca fa od tx wo nu S ln hnx (by omega) hhd TT.2.1.2.1 q3 q1 q2) km_L_97 kv_X7_back _ (app_r (k := 0) rfl) hl.1 rfl rfl (Nat.le_of_ble_eq_true rfl) ⟨Nat.le_of_ble_eq_true rfl, Nat.le_of_ble_eq_true rfl⟩ ⟨Nat.le_of_ble_eq_true rfl, Nat.le_of_ble_eq_true rfl⟩ dL_law_661) rfl (fun H locs hw => ?_)
  have hw : xW g A0 s0 (MW g o hd bads nos fuls cau whe cnt pm fau isw ods w P sr tx wm nm ++ CW g h q bads nos fuls cau whe (S ((nx + 6) % 7)) (foOf (S ((nx + 6) % 7)) ln fo) (sqOf (S ((nx + 6) % 7)) ln fo sq) ((nx + 6) % 7) (hd - 1) cnt p ca fa od tx wo nu S) _ _ := hw
  have hw := hw.swap
  refine lv_aload_n hx hb dL_law_664 rfl (lv_at hl 1 rfl) ?_
  refine x_goS (st1 := [.int (nI (hd - 1)), .int (nI (hd - 1))]) E hw (x_runVS (rest := [.int (nI (hd - 1))]) E hw (c_X8_back_ok l g o hd bads nos fuls cau whe cnt pm fau isw ods w P sr tx wm nm  (by omega) hhd) km_L_100 kv_X8_back _ (app_r (k := 0) rfl) hl.1 rfl rfl (Nat.le_of_ble_eq_true rfl) ⟨Nat.le_of_ble_eq_true rfl, Nat.le_of_ble_eq_true rfl⟩ ⟨Nat.le_of_ble_eq_true rfl, Nat.le_of_ble_eq_true rfl⟩ dL_law_665) rfl (fun H locs hw => ?_)
  have hw : xW g A0 s0 (CW g h q bads nos fuls cau whe (S ((nx + 6) % 7)) (foOf (S ((nx + 6) % 7)) ln fo) (sqOf (S ((nx + 6) % 7)) ln fo sq) ((nx + 6) % 7) (hd - 1) cnt p ca fa od tx wo nu S ++ MW g o (hd - 1) bads nos fuls cau whe cnt pm fau isw ods (P (hd - 1)) P sr tx wm nm) _ _ := hw
  have hw := hw.swap
  refine lv_icmp_eq (tgt := 710) hx hb dL_law_668 (by decide) (fun _ => ?_) (fun z => absurd (rfl) z)
  exact kk _ _ _ _ _ _ _ _ _ _ _ _ _ _ _ _ _ _ _ _ _ _ _ _ _ _ _ _ _ _ _ (J.back (by omega) (re_cv2 q3 q1 q2 fo sq)) hw hl

set_option maxRecDepth 100000 in
set_option maxHeartbeats 4000000 in
theorem lw_told {p0 : Program} {l : Launch} {g : xCfg} {e0 : Env} {s0 : State} {m0 : MethodId} {below : List Frame} {meth : Method} {c0 : Code} {A0 : Nat → Prop} {b L i K : Nat} {xs : Nat → Int32} {h : Nat → Nat} {q : Nat → Nat → Nat} {o : Nat → Nat} {Q : State → Prop} (E : xE g p0 s0 m0 #[Value.ref b] meth c0 cL_law 4 RL A0) (X : va_X b L xs s0 s0.heap ∧ b < s0.heap.size ∧ ¬ A0 b ∧ L ≤ 2560) (hi : i + 5 ≤ L) (hK : K < 2 ^ 30) (kk : LA p0 l g e0 s0 m0 below meth c0 A0 b h q o Q (K + 200) i 710) : LA p0 l g e0 s0 m0 below meth c0 A0 b h q o Q K i 673 := by
  intro bads nos fuls cau whe v fo sq nx hd cnt p ca fa od tx wo nu S pm fau isw ods w P sr wm nm H locs ls J hw hl
  have hx := E.x
  have hb := E.b
  obtain ⟨len, hlen, hl1, hl2, C, g1, R, hL1, hL, hf, hnx, hhd, hcnt, gw, e1, wL1, wL, wlen, wf, wQ, yq, hyq, hqy⟩ := J.facts sr
  by_cases hc : 0 ≤ xs (i + 1) ∧ xs (i + 1) ≤ 12
  · obtain ⟨k, hk, ek⟩ := in_w (m := 12) (by decide) hc
    obtain ⟨-, -, -, -, -, -, -, ⟨hb8, hb9, hb10⟩, -⟩ := id J
    refine lv_aload_n hx hb dL_law_673 rfl (lv_at hl 2 rfl) ?_
    refine lv_aload_n hx hb dL_law_674 rfl (lv_at hl 3 rfl) ?_
    refine lv_iload_n hx hb dL_law_675 rfl (lv_at hl 0 rfl) ?_
    refine lv_iconst (v := 1) hx hb dL_law_676 (by decide) ?_
    refine xn_add hx hb i 1 rfl rfl dL_law_677 ?_
    refine x_scr (v := nI k) hx hb X hw.2.2 (i + 1) rfl (by omega) ek dL_law_678 ?_
    refine x_goS (st1 := [.int (tldF bads nos fuls v.1 v.2.2.2.2.1 cnt hd k)]) E hw (x_runVS (rest := []) E hw (c_X7_told_ok l g h q bads nos fuls cau whe v fo sq nx hd cnt p ca fa od tx wo nu S k (by omega) (n_tld hK g1 hb8 hb9 hb10 hcnt hhd (k := k) (by omega)).1 (n_tld hK g1 hb8 hb9 hb10 hcnt hhd (k := k) (by omega)).2.1 (n_tld hK g1 hb8 hb9 hb10 hcnt hhd (k := k) (by omega)).2.2) km_L_101 kv_X7_told _ (app_r (k := 0) rfl) hl.1 rfl rfl (Nat.le_of_ble_eq_true rfl) ⟨Nat.le_of_ble_eq_true rfl, Nat.le_of_ble_eq_true rfl⟩ ⟨Nat.le_of_ble_eq_true rfl, Nat.le_of_ble_eq_true rfl⟩ dL_law_679) rfl (fun H locs hw => ?_)
    have hw : xW g A0 s0 (MW g o hd bads nos fuls cau whe cnt pm fau isw ods w P sr tx wm nm ++ CW g h q bads nos fuls cau whe v fo sq nx hd cnt p ca fa od tx wo nu S) _ _ := hw
    have hw := hw.swap
    refine lv_aload_n hx hb dL_law_682 rfl (lv_at hl 1 rfl) ?_
    refine lv_aload_n hx hb dL_law_683 rfl (lv_at hl 3 rfl) ?_
    refine lv_iload_n hx hb dL_law_684 rfl (lv_at hl 0 rfl) ?_
    refine lv_iconst (v := 1) hx hb dL_law_685 (by decide) ?_
    refine xn_add hx hb i 1 rfl rfl dL_law_686 ?_
    refine x_scr (v := nI k) hx hb X hw.2.2 (i + 1) rfl (by omega) ek dL_law_687 ?_
    refine x_goS (st1 := [.int (tldF bads nos fuls w.1 w.2.2.2.2.1 cnt hd k), .int (tldF bads nos fuls v.1 v.2.2.2.2.1 cnt hd k)]) E hw (x_runVS (rest := [.int (tldF bads nos fuls v.1 v.2.2.2.2.1 cnt hd k)]) E hw (c_X8_told_ok l g o hd bads nos fuls cau whe cnt pm fau isw ods w P sr tx wm nm k (by omega)) km_L_104 kv_X8_told _ (app_r (k := 0) rfl) hl.1 rfl rfl (Nat.le_of_ble_eq_true rfl) ⟨Nat.le_of_ble_eq_true rfl, Nat.le_of_ble_eq_true rfl⟩ ⟨Nat.le_of_ble_eq_true rfl, Nat.le_of_ble_eq_true rfl⟩ dL_law_688) rfl (fun H locs hw => ?_)
    have hw : xW g A0 s0 (CW g h q bads nos fuls cau whe v fo sq nx hd cnt p ca fa od tx wo nu S ++ MW g o hd bads nos fuls cau whe cnt pm fau isw ods w P sr tx wm nm) _ _ := hw
    have hw := hw.swap
    refine lv_icmp_eq (tgt := 710) hx hb dL_law_691 (by decide) (fun _ => ?_) (fun z => absurd ((by rw [← e1]; exact tldF_cg R.2.2.1 (by omega))) z)
    exact kk _ _ _ _ _ _ _ _ _ _ _ _ _ _ _ _ _ _ _ _ _ _ _ _ _ _ _ _ _ _ _ (J.same) hw hl
  · refine lv_aload_n hx hb dL_law_673 rfl (lv_at hl 2 rfl) ?_
    refine lv_aload_n hx hb dL_law_674 rfl (lv_at hl 3 rfl) ?_
    refine lv_iload_n hx hb dL_law_675 rfl (lv_at hl 0 rfl) ?_
    refine lv_iconst (v := 1) hx hb dL_law_676 (by decide) ?_
    refine xn_add hx hb i 1 rfl rfl dL_law_677 ?_
    refine x_scr (v := xs (i + 1)) hx hb X hw.2.2 (i + 1) rfl (by omega) rfl dL_law_678 ?_
    refine x_goS (st1 := [.int (-2)]) E hw (x_runVS (rest := []) E hw (c_X7_told_bad l g h q bads nos fuls cau whe v fo sq nx hd cnt p ca fa od tx wo nu S (xs (i + 1)) (not_in (n := 12) (by decide) hc)) km_L_101 kv_X7_told _ (app_r (k := 0) rfl) hl.1 rfl rfl (Nat.le_of_ble_eq_true rfl) ⟨Nat.le_of_ble_eq_true rfl, Nat.le_of_ble_eq_true rfl⟩ ⟨Nat.le_of_ble_eq_true rfl, Nat.le_of_ble_eq_true rfl⟩ dL_law_679) rfl (fun H locs hw => ?_)
    have hw : xW g A0 s0 (MW g o hd bads nos fuls cau whe cnt pm fau isw ods w P sr tx wm nm ++ CW g h q (bads + 1) nos fuls cau whe v fo sq nx hd cnt p ca fa od tx wo nu S) _ _ := hw
    have hw := hw.swap
    refine lv_aload_n hx hb dL_law_682 rfl (lv_at hl 1 rfl) ?_
    refine lv_aload_n hx hb dL_law_683 rfl (lv_at hl 3 rfl) ?_
    refine lv_iload_n hx hb dL_law_684 rfl (lv_at hl 0 rfl) ?_
    refine lv_iconst (v := 1) hx hb dL_law_685 (by decide) ?_
    refine xn_add hx hb i 1 rfl rfl dL_law_686 ?_
    refine x_scr (v := xs (i + 1)) hx hb X hw.2.2 (i + 1) rfl (by omega) rfl dL_law_687 ?_
    refine x_goS (st1 := [.int (-2), .int (-2)]) E hw (x_runVS (rest := [.int (-2)]) E hw (c_X8_told_bad l g o hd bads nos fuls cau whe cnt pm fau isw ods w P sr tx wm nm (xs (i + 1)) hc) km_L_104 kv_X8_told _ (app_r (k := 0) rfl) hl.1 rfl rfl (Nat.le_of_ble_eq_true rfl) ⟨Nat.le_of_ble_eq_true rfl, Nat.le_of_ble_eq_true rfl⟩ ⟨Nat.le_of_ble_eq_true rfl, Nat.le_of_ble_eq_true rfl⟩ dL_law_688) rfl (fun H locs hw => ?_)
    have hw : xW g A0 s0 (CW g h q (bads + 1) nos fuls cau whe v fo sq nx hd cnt p ca fa od tx wo nu S ++ MW g o hd (bads + 1) nos fuls cau whe cnt pm fau isw ods w P sr tx wm nm) _ _ := hw
    have hw := hw.swap
    refine lv_icmp_eq (tgt := 710) hx hb dL_law_691 (by decide) (fun _ => ?_) (fun z => absurd (rfl) z)
    exact kk _ _ _ _ _ _ _ _ _ _ _ _ _ _ _ _ _ _ _ _ _ _ _ _ _ _ _ _ _ _ _ (J.bad) hw hl

set_option maxRecDepth 100000 in
set_option maxHeartbeats 4000000 in
theorem lw_digest {p0 : Program} {l : Launch} {g : xCfg} {e0 : Env} {s0 : State} {m0 : MethodId} {below : List Frame} {meth : Method} {c0 : Code} {A0 : Nat → Prop} {b L i K : Nat} {xs : Nat → Int32} {h : Nat → Nat} {q : Nat → Nat → Nat} {o : Nat → Nat} {Q : State → Prop} (E : xE g p0 s0 m0 #[Value.ref b] meth c0 cL_law 4 RL A0) (X : va_X b L xs s0 s0.heap ∧ b < s0.heap.size ∧ ¬ A0 b ∧ L ≤ 2560) (hi : i + 5 ≤ L) (hK : K < 2 ^ 30) (kk : LA p0 l g e0 s0 m0 below meth c0 A0 b h q o Q (K + 200) i 710) : LA p0 l g e0 s0 m0 below meth c0 A0 b h q o Q K i 696 := by
  intro bads nos fuls cau whe v fo sq nx hd cnt p ca fa od tx wo nu S pm fau isw ods w P sr wm nm H locs ls J hw hl
  have hx := E.x
  have hb := E.b
  obtain ⟨len, hlen, hl1, hl2, C, g1, R, hL1, hL, hf, hnx, hhd, hcnt, gw, e1, wL1, wL, wlen, wf, wQ, yq, hyq, hqy⟩ := J.facts sr
  refine lv_aload_n hx hb dL_law_696 rfl (lv_at hl 2 rfl) ?_
  refine x_goS (st1 := [.long (dgF bads nos fuls cau whe v cnt hd sq)]) E hw (x_runVS (rest := []) E hw (c_X7_digest_ok l g h q bads nos fuls cau whe v fo sq nx hd cnt p ca fa od tx wo nu S  hL1 hL hf) km_L_105 kv_X7_digest _ (app_r (k := 0) rfl) hl.1 rfl rfl (Nat.le_of_ble_eq_true rfl) ⟨Nat.le_of_ble_eq_true rfl, Nat.le_of_ble_eq_true rfl⟩ ⟨Nat.le_of_ble_eq_true rfl, Nat.le_of_ble_eq_true rfl⟩ dL_law_697) rfl (fun H locs hw => ?_)
  have hw : xW g A0 s0 (MW g o hd bads nos fuls cau whe cnt pm fau isw ods w P sr tx wm nm ++ CW g h q bads nos fuls cau whe v fo sq nx hd cnt p ca fa od tx wo nu S) _ _ := hw
  have hw := hw.swap
  refine lv_aload_n hx hb dL_law_700 rfl (lv_at hl 1 rfl) ?_
  refine x_goS (st1 := [.long (dgF bads nos fuls cau whe w cnt hd (lwQ w.2.1 w.2.2.1 (w.2.2.2.2.1 0) len w.1 0 sr)), .long (dgF bads nos fuls cau whe v cnt hd sq)]) E hw (x_runVS (rest := [.long (dgF bads nos fuls cau whe v cnt hd sq)]) E hw (c_X8_digest_ok l g o hd bads nos fuls cau whe cnt pm fau isw ods w P sr tx wm nm len yq wL1 wL wlen hl1 hl2 wQ wf hqy hyq) km_L_109 kv_X8_digest _ (app_r (k := 0) rfl) hl.1 rfl rfl (Nat.le_of_ble_eq_true rfl) ⟨Nat.le_of_ble_eq_true rfl, Nat.le_of_ble_eq_true rfl⟩ ⟨Nat.le_of_ble_eq_true rfl, Nat.le_of_ble_eq_true rfl⟩ dL_law_701) rfl (fun H locs hw => ?_)
  have hw : xW g A0 s0 (CW g h q bads nos fuls cau whe v fo sq nx hd cnt p ca fa od tx wo nu S ++ MW g o hd bads nos fuls cau whe cnt pm fau isw ods w P (lwQ w.2.1 w.2.2.1 (w.2.2.2.2.1 0) len w.1 0 sr) tx wm nm) _ _ := hw
  have hw := hw.swap
  refine W.lcmp hx hb dL_law_704 ?_
  refine x_topi (x' := 0) (cmp_eq (a_dg g1 R hl1 C sr _ _ _ _ _ _ _)) ?_
  refine lv_if_eq (tgt := 710) hx hb dL_law_705 (by decide) (fun _ => ?_) (fun z => absurd rfl z)
  exact kk _ _ _ _ _ _ _ _ _ _ _ _ _ _ _ _ _ _ _ _ _ _ _ _ _ _ _ _ _ _ _ (J.same) hw hl
