set_option maxRecDepth 100000 in
set_option maxHeartbeats 4000000 in
theorem lw_lengthens {p0 : Program} {l : Launch} {g : xCfg} {e0 : Env} {s0 : State} {m0 : MethodId} {below : List Frame} {meth : Method} {c0 : Code} {A0 : Nat → Prop} {b L i K : Nat} {xs : Nat → Int32} {h : Nat → Nat} {q : Nat → Nat → Nat} {o : Nat → Nat} {Q : State → Prop} (E : xE g p0 s0 m0 #[Value.ref b] meth c0 cL_law 4 RL A0) (X : va_X b L xs s0 s0.heap ∧ b < s0.heap.size ∧ ¬ A0 b ∧ L ≤ 2560) (hi : i + 5 ≤ L) (hK : K < 2 ^ 30) (kk : LA p0 l g e0 s0 m0 below meth c0 A0 b h q o Q (K + 200) i 710) : LA p0 l g e0 s0 m0 below meth c0 A0 b h q o Q K i 140 := by
  intro bads nos fuls cau whe v fo sq nx hd cnt p ca fa od tx wo nu S pm fau isw ods w P sr wm nm H locs ls J hw hl
  have hx := E.x
  have hb := E.b
  obtain ⟨len, hlen, hl1, hl2, C, g1, R, hL1, hL, hf, hnx, hhd, hcnt, gw, e1, wL1, wL, wlen, wf, wQ, yq, hyq, hqy⟩ := J.facts sr
  by_cases hc : 5 ≤ xs (i + 1) ∧ xs (i + 1) ≤ 200
  · obtain ⟨m, hm2, hm⟩ := in_w (m := 200) (by decide) ⟨Int32.le_trans (by decide : (0 : Int32) ≤ 5) hc.1, hc.2⟩
    have hm5 : 5 ≤ m := (n_le (a := 5) (by decide) (by omega)).mp (by rw [← hm]; exact hc.1)
    refine lv_aload_n hx hb dL_law_140 rfl (lv_at hl 2 rfl) ?_
    refine lv_aload_n hx hb dL_law_141 rfl (lv_at hl 3 rfl) ?_
    refine lv_iload_n hx hb dL_law_142 rfl (lv_at hl 0 rfl) ?_
    refine lv_iconst (v := 1) hx hb dL_law_143 (by decide) ?_
    refine xn_add hx hb i 1 rfl rfl dL_law_144 ?_
    refine x_scr (v := nI m) hx hb X hw.2.2 (i + 1) rfl (by omega) hm dL_law_145 ?_
    refine x_goS (st1 := [.int (nI v.1)]) E hw (x_runVS (rest := []) E hw (c_X7_lengthens_ok l g h q bads nos fuls cau whe v fo sq nx hd cnt p ca fa od tx wo nu S m len hL hnx hhd hm5 hm2 hlen hl1 hl2) km_L_13 kv_X7_lengthens _ (app_r (k := 0) rfl) hl.1 rfl rfl (Nat.le_of_ble_eq_true rfl) ⟨Nat.le_of_ble_eq_true rfl, Nat.le_of_ble_eq_true rfl⟩ ⟨Nat.le_of_ble_eq_true rfl, Nat.le_of_ble_eq_true rfl⟩ dL_law_146) rfl (fun H locs hw => ?_)
    have hw : xW g A0 s0 (MW g o hd bads nos fuls cau whe cnt pm fau isw ods w P sr tx wm nm ++ CW g h q bads nos fuls cau whe (lenS m v) (foOf (lenS m v) len fo) (sqOf (lenS m v) len fo sq) ((nx + 1) % 7) (min 6 (hd + 1)) cnt p ca fa od tx wo nu (va_up S nx v)) _ _ := hw
    have hw := hw.swap
    refine lv_aload_n hx hb dL_law_149 rfl (lv_at hl 1 rfl) ?_
    refine lv_aload_n hx hb dL_law_150 rfl (lv_at hl 3 rfl) ?_
    refine lv_iload_n hx hb dL_law_151 rfl (lv_at hl 0 rfl) ?_
    refine lv_iconst (v := 1) hx hb dL_law_152 (by decide) ?_
    refine xn_add hx hb i 1 rfl rfl dL_law_153 ?_
    refine x_scr (v := nI m) hx hb X hw.2.2 (i + 1) rfl (by omega) hm dL_law_154 ?_
    refine x_goS (st1 := [.int (nI w.1), .int (nI v.1)]) E hw (x_runVS (rest := [.int (nI v.1)]) E hw (c_X8_lengthens_ok l g o hd bads nos fuls cau whe cnt pm fau isw ods w P sr tx wm nm m wL hhd hm5 hm2) km_L_17 kv_X8_lengthens _ (app_r (k := 0) rfl) hl.1 rfl rfl (Nat.le_of_ble_eq_true rfl) ⟨Nat.le_of_ble_eq_true rfl, Nat.le_of_ble_eq_true rfl⟩ ⟨Nat.le_of_ble_eq_true rfl, Nat.le_of_ble_eq_true rfl⟩ dL_law_155) rfl (fun H locs hw => ?_)
    have hw : xW g A0 s0 (CW g h q bads nos fuls cau whe (lenS m v) (foOf (lenS m v) len fo) (sqOf (lenS m v) len fo sq) ((nx + 1) % 7) (min 6 (hd + 1)) cnt p ca fa od tx wo nu (va_up S nx v) ++ MW g o (min 6 (hd + 1)) bads nos fuls cau whe cnt pm fau isw ods (lenS m w) (ntP P hd w) sr tx wm nm) _ _ := hw
    have hw := hw.swap
    refine lv_icmp_eq (tgt := 710) hx hb dL_law_158 (by decide) (fun _ => ?_) (fun z => absurd (congrArg nI e1) z)
    exact kk _ _ _ _ _ _ _ _ _ _ _ _ _ _ _ _ _ _ _ _ _ _ _ _ _ _ _ _ _ _ _ (J.keep ((g1.len hm5 hm2).mono (by omega)) (R.len m) (re_cv2 (v' := lenS m v) hlen hl1 hl2 fo sq)) hw hl
  · refine lv_aload_n hx hb dL_law_140 rfl (lv_at hl 2 rfl) ?_
    refine lv_aload_n hx hb dL_law_141 rfl (lv_at hl 3 rfl) ?_
    refine lv_iload_n hx hb dL_law_142 rfl (lv_at hl 0 rfl) ?_
    refine lv_iconst (v := 1) hx hb dL_law_143 (by decide) ?_
    refine xn_add hx hb i 1 rfl rfl dL_law_144 ?_
    refine x_scr (v := xs (i + 1)) hx hb X hw.2.2 (i + 1) rfl (by omega) rfl dL_law_145 ?_
    refine x_goS (st1 := [.int (-2)]) E hw (x_runVS (rest := []) E hw (c_X7_lengthens_bad l g h q bads nos fuls cau whe v fo sq nx hd cnt p ca fa od tx wo nu S (xs (i + 1)) hnx hc) km_L_13 kv_X7_lengthens _ (app_r (k := 0) rfl) hl.1 rfl rfl (Nat.le_of_ble_eq_true rfl) ⟨Nat.le_of_ble_eq_true rfl, Nat.le_of_ble_eq_true rfl⟩ ⟨Nat.le_of_ble_eq_true rfl, Nat.le_of_ble_eq_true rfl⟩ dL_law_146) rfl (fun H locs hw => ?_)
    have hw : xW g A0 s0 (MW g o hd bads nos fuls cau whe cnt pm fau isw ods w P sr tx wm nm ++ CW g h q (bads + 1) nos fuls cau whe v fo sq nx hd cnt p ca fa od tx wo nu (va_up S nx v)) _ _ := hw
    have hw := hw.swap
    refine lv_aload_n hx hb dL_law_149 rfl (lv_at hl 1 rfl) ?_
    refine lv_aload_n hx hb dL_law_150 rfl (lv_at hl 3 rfl) ?_
    refine lv_iload_n hx hb dL_law_151 rfl (lv_at hl 0 rfl) ?_
    refine lv_iconst (v := 1) hx hb dL_law_152 (by decide) ?_
    refine xn_add hx hb i 1 rfl rfl dL_law_153 ?_
    refine x_scr (v := xs (i + 1)) hx hb X hw.2.2 (i + 1) rfl (by omega) rfl dL_law_154 ?_
    refine x_goS (st1 := [.int (-2), .int (-2)]) E hw (x_runVS (rest := [.int (-2)]) E hw (c_X8_lengthens_bad l g o hd bads nos fuls cau whe cnt pm fau isw ods w P sr tx wm nm (xs (i + 1)) hc) km_L_17 kv_X8_lengthens _ (app_r (k := 0) rfl) hl.1 rfl rfl (Nat.le_of_ble_eq_true rfl) ⟨Nat.le_of_ble_eq_true rfl, Nat.le_of_ble_eq_true rfl⟩ ⟨Nat.le_of_ble_eq_true rfl, Nat.le_of_ble_eq_true rfl⟩ dL_law_155) rfl (fun H locs hw => ?_)
    have hw : xW g A0 s0 (CW g h q (bads + 1) nos fuls cau whe v fo sq nx hd cnt p ca fa od tx wo nu (va_up S nx v) ++ MW g o hd (bads + 1) nos fuls cau whe cnt pm fau isw ods w P sr tx wm nm) _ _ := hw
    have hw := hw.swap
    refine lv_icmp_eq (tgt := 710) hx hb dL_law_158 (by decide) (fun _ => ?_) (fun z => absurd (rfl) z)
    exact kk _ _ _ _ _ _ _ _ _ _ _ _ _ _ _ _ _ _ _ _ _ _ _ _ _ _ _ _ _ _ _ (J.note.bad) hw hl

set_option maxRecDepth 100000 in
set_option maxHeartbeats 4000000 in
theorem lw_lays {p0 : Program} {l : Launch} {g : xCfg} {e0 : Env} {s0 : State} {m0 : MethodId} {below : List Frame} {meth : Method} {c0 : Code} {A0 : Nat → Prop} {b L i K : Nat} {xs : Nat → Int32} {h : Nat → Nat} {q : Nat → Nat → Nat} {o : Nat → Nat} {Q : State → Prop} (E : xE g p0 s0 m0 #[Value.ref b] meth c0 cL_law 4 RL A0) (X : va_X b L xs s0 s0.heap ∧ b < s0.heap.size ∧ ¬ A0 b ∧ L ≤ 2560) (hi : i + 5 ≤ L) (hK : K < 2 ^ 30) (kk : LA p0 l g e0 s0 m0 below meth c0 A0 b h q o Q (K + 200) i 710) : LA p0 l g e0 s0 m0 below meth c0 A0 b h q o Q K i 163 := by
  intro bads nos fuls cau whe v fo sq nx hd cnt p ca fa od tx wo nu S pm fau isw ods w P sr wm nm H locs ls J hw hl
  have hx := E.x
  have hb := E.b
  obtain ⟨len, hlen, hl1, hl2, C, g1, R, hL1, hL, hf, hnx, hhd, hcnt, gw, e1, wL1, wL, wlen, wf, wQ, yq, hyq, hqy⟩ := J.facts sr
  by_cases hc : layOk v.1 (xs (i + 1)) (xs (i + 2)) (xs (i + 3)) (xs (i + 4))
  · obtain ⟨a, ha, ea⟩ := inL_of hc.1.1 hL1 hL
    obtain ⟨z, hz, ez⟩ := inL_of hc.1.2.1 hL1 hL
    have haz : a ≤ z := (n_le (by omega) (by omega)).mp (by rw [← ea, ← ez]; exact hc.1.2.2)
    rcases hc.2 with ⟨e0, u1, u2⟩ | ⟨e0, u1, u2⟩
    · refine lv_aload_n hx hb dL_law_163 rfl (lv_at hl 2 rfl) ?_
      refine lv_aload_n hx hb dL_law_164 rfl (lv_at hl 3 rfl) ?_
      refine lv_iload_n hx hb dL_law_165 rfl (lv_at hl 0 rfl) ?_
      refine lv_iconst (v := 1) hx hb dL_law_166 (by decide) ?_
      refine xn_add hx hb i 1 rfl rfl dL_law_167 ?_
      refine x_scr (v := 0) hx hb X hw.2.2 (i + 1) rfl (by omega) e0 dL_law_168 ?_
      refine lv_aload_n hx hb dL_law_169 rfl (lv_at hl 3 rfl) ?_
      refine lv_iload_n hx hb dL_law_170 rfl (lv_at hl 0 rfl) ?_
      refine lv_iconst (v := 2) hx hb dL_law_171 (by decide) ?_
      refine xn_add hx hb i 2 rfl rfl dL_law_172 ?_
      refine x_scr (v := nI a) hx hb X hw.2.2 (i + 2) rfl (by omega) ea dL_law_173 ?_
      refine lv_aload_n hx hb dL_law_174 rfl (lv_at hl 3 rfl) ?_
      refine lv_iload_n hx hb dL_law_175 rfl (lv_at hl 0 rfl) ?_
      refine lv_iconst (v := 3) hx hb dL_law_176 (by decide) ?_
      refine xn_add hx hb i 3 rfl rfl dL_law_177 ?_
      refine x_scr (v := nI z) hx hb X hw.2.2 (i + 3) rfl (by omega) ez dL_law_178 ?_
      refine lv_aload_n hx hb dL_law_179 rfl (lv_at hl 3 rfl) ?_
      refine lv_iload_n hx hb dL_law_180 rfl (lv_at hl 0 rfl) ?_
      refine lv_iconst (v := 4) hx hb dL_law_181 (by decide) ?_
      refine xn_add hx hb i 4 rfl rfl dL_law_182 ?_
      refine x_scr (v := xs (i + 4)) hx hb X hw.2.2 (i + 4) rfl (by omega) rfl dL_law_183 ?_
      refine x_goS (st1 := [.int (nI (cntNe v.2.1 (xs (i + 4)) a (z + 1)))]) E hw (x_runVS (rest := []) E hw (c_X7_lays_c l g h q bads nos fuls cau whe v fo sq nx hd cnt p ca fa od tx wo nu S a z (xs (i + 4)) len hL hnx hhd (by omega) haz u1 u2 hlen hl1 hl2) km_L_18 kv_X7_lays _ (app_r (k := 0) rfl) hl.1 rfl rfl (Nat.le_of_ble_eq_true rfl) ⟨Nat.le_of_ble_eq_true rfl, Nat.le_of_ble_eq_true rfl⟩ ⟨Nat.le_of_ble_eq_true rfl, Nat.le_of_ble_eq_true rfl⟩ dL_law_184) rfl (fun H locs hw => ?_)
      have hw : xW g A0 s0 (MW g o hd bads nos fuls cau whe cnt pm fau isw ods w P sr tx wm nm ++ CW g h q bads nos fuls cau whe (ceiS a z (xs (i + 4)) v) (foOf (ceiS a z (xs (i + 4)) v) len fo) (sqOf (ceiS a z (xs (i + 4)) v) len fo sq) ((nx + 1) % 7) (min 6 (hd + 1)) cnt p ca fa od tx wo nu (va_up S nx v)) _ _ := hw
      have hw := hw.swap
      refine lv_aload_n hx hb dL_law_187 rfl (lv_at hl 1 rfl) ?_
      refine lv_aload_n hx hb dL_law_188 rfl (lv_at hl 3 rfl) ?_
      refine lv_iload_n hx hb dL_law_189 rfl (lv_at hl 0 rfl) ?_
      refine lv_iconst (v := 1) hx hb dL_law_190 (by decide) ?_
      refine xn_add hx hb i 1 rfl rfl dL_law_191 ?_
      refine x_scr (v := 0) hx hb X hw.2.2 (i + 1) rfl (by omega) e0 dL_law_192 ?_
      refine lv_aload_n hx hb dL_law_193 rfl (lv_at hl 3 rfl) ?_
      refine lv_iload_n hx hb dL_law_194 rfl (lv_at hl 0 rfl) ?_
      refine lv_iconst (v := 2) hx hb dL_law_195 (by decide) ?_
      refine xn_add hx hb i 2 rfl rfl dL_law_196 ?_
      refine x_scr (v := nI a) hx hb X hw.2.2 (i + 2) rfl (by omega) ea dL_law_197 ?_
      refine lv_aload_n hx hb dL_law_198 rfl (lv_at hl 3 rfl) ?_
      refine lv_iload_n hx hb dL_law_199 rfl (lv_at hl 0 rfl) ?_
      refine lv_iconst (v := 3) hx hb dL_law_200 (by decide) ?_
      refine xn_add hx hb i 3 rfl rfl dL_law_201 ?_
      refine x_scr (v := nI z) hx hb X hw.2.2 (i + 3) rfl (by omega) ez dL_law_202 ?_
      refine lv_aload_n hx hb dL_law_203 rfl (lv_at hl 3 rfl) ?_
      refine lv_iload_n hx hb dL_law_204 rfl (lv_at hl 0 rfl) ?_
      refine lv_iconst (v := 4) hx hb dL_law_205 (by decide) ?_
      refine xn_add hx hb i 4 rfl rfl dL_law_206 ?_
      refine x_scr (v := xs (i + 4)) hx hb X hw.2.2 (i + 4) rfl (by omega) rfl dL_law_207 ?_
      refine x_goS (st1 := [.int (nI (cntNe w.2.1 (xs (i + 4)) a (z + 1))), .int (nI (cntNe v.2.1 (xs (i + 4)) a (z + 1)))]) E hw (x_runVS (rest := [.int (nI (cntNe v.2.1 (xs (i + 4)) a (z + 1)))]) E hw (c_X8_lays_c l g o hd bads nos fuls cau whe cnt pm fau isw ods w P sr tx wm nm a z (xs (i + 4)) wL hhd (by omega) haz u1 u2) km_L_22 kv_X8_lays _ (app_r (k := 0) rfl) hl.1 rfl rfl (Nat.le_of_ble_eq_true rfl) ⟨Nat.le_of_ble_eq_true rfl, Nat.le_of_ble_eq_true rfl⟩ ⟨Nat.le_of_ble_eq_true rfl, Nat.le_of_ble_eq_true rfl⟩ dL_law_208) rfl (fun H locs hw => ?_)
      have hw : xW g A0 s0 (CW g h q bads nos fuls cau whe (ceiS a z (xs (i + 4)) v) (foOf (ceiS a z (xs (i + 4)) v) len fo) (sqOf (ceiS a z (xs (i + 4)) v) len fo sq) ((nx + 1) % 7) (min 6 (hd + 1)) cnt p ca fa od tx wo nu (va_up S nx v) ++ MW g o (min 6 (hd + 1)) bads nos fuls cau whe cnt pm fau isw ods (ceiS a z (xs (i + 4)) w) (ntP P hd w) sr tx wm nm) _ _ := hw
      have hw := hw.swap
      refine lv_icmp_eq (tgt := 710) hx hb dL_law_211 (by decide) (fun _ => ?_) (fun z => absurd (congrArg nI (a_ce R hz)) z)
      exact kk _ _ _ _ _ _ _ _ _ _ _ _ _ _ _ _ _ _ _ _ _ _ _ _ _ _ _ _ _ _ _ (J.keep ((g1.cei a z ⟨u1, u2⟩).mono (by omega)) (R.cei a z _) (re_cv2 (v' := ceiS a z (xs (i + 4)) v) hlen hl1 hl2 fo sq)) hw hl
    · refine lv_aload_n hx hb dL_law_163 rfl (lv_at hl 2 rfl) ?_
      refine lv_aload_n hx hb dL_law_164 rfl (lv_at hl 3 rfl) ?_
      refine lv_iload_n hx hb dL_law_165 rfl (lv_at hl 0 rfl) ?_
      refine lv_iconst (v := 1) hx hb dL_law_166 (by decide) ?_
      refine xn_add hx hb i 1 rfl rfl dL_law_167 ?_
      refine x_scr (v := 1) hx hb X hw.2.2 (i + 1) rfl (by omega) e0 dL_law_168 ?_
      refine lv_aload_n hx hb dL_law_169 rfl (lv_at hl 3 rfl) ?_
      refine lv_iload_n hx hb dL_law_170 rfl (lv_at hl 0 rfl) ?_
      refine lv_iconst (v := 2) hx hb dL_law_171 (by decide) ?_
      refine xn_add hx hb i 2 rfl rfl dL_law_172 ?_
      refine x_scr (v := nI a) hx hb X hw.2.2 (i + 2) rfl (by omega) ea dL_law_173 ?_
      refine lv_aload_n hx hb dL_law_174 rfl (lv_at hl 3 rfl) ?_
      refine lv_iload_n hx hb dL_law_175 rfl (lv_at hl 0 rfl) ?_
      refine lv_iconst (v := 3) hx hb dL_law_176 (by decide) ?_
      refine xn_add hx hb i 3 rfl rfl dL_law_177 ?_
      refine x_scr (v := nI z) hx hb X hw.2.2 (i + 3) rfl (by omega) ez dL_law_178 ?_
      refine lv_aload_n hx hb dL_law_179 rfl (lv_at hl 3 rfl) ?_
      refine lv_iload_n hx hb dL_law_180 rfl (lv_at hl 0 rfl) ?_
      refine lv_iconst (v := 4) hx hb dL_law_181 (by decide) ?_
      refine xn_add hx hb i 4 rfl rfl dL_law_182 ?_
      refine x_scr (v := xs (i + 4)) hx hb X hw.2.2 (i + 4) rfl (by omega) rfl dL_law_183 ?_
      refine x_goS (st1 := [.int (nI (cntNe v.2.2.1 (xs (i + 4)) a (z + 1)))]) E hw (x_runVS (rest := []) E hw (c_X7_lays_g l g h q bads nos fuls cau whe v fo sq nx hd cnt p ca fa od tx wo nu S a z (xs (i + 4)) len hL hnx hhd (by omega) haz u1 u2 hlen hl1 hl2) km_L_18 kv_X7_lays _ (app_r (k := 0) rfl) hl.1 rfl rfl (Nat.le_of_ble_eq_true rfl) ⟨Nat.le_of_ble_eq_true rfl, Nat.le_of_ble_eq_true rfl⟩ ⟨Nat.le_of_ble_eq_true rfl, Nat.le_of_ble_eq_true rfl⟩ dL_law_184) rfl (fun H locs hw => ?_)
      have hw : xW g A0 s0 (MW g o hd bads nos fuls cau whe cnt pm fau isw ods w P sr tx wm nm ++ CW g h q bads nos fuls cau whe (graS a z (xs (i + 4)) v) (foOf (graS a z (xs (i + 4)) v) len fo) (sqOf (graS a z (xs (i + 4)) v) len fo sq) ((nx + 1) % 7) (min 6 (hd + 1)) cnt p ca fa od tx wo nu (va_up S nx v)) _ _ := hw
      have hw := hw.swap
      refine lv_aload_n hx hb dL_law_187 rfl (lv_at hl 1 rfl) ?_
      refine lv_aload_n hx hb dL_law_188 rfl (lv_at hl 3 rfl) ?_
      refine lv_iload_n hx hb dL_law_189 rfl (lv_at hl 0 rfl) ?_
      refine lv_iconst (v := 1) hx hb dL_law_190 (by decide) ?_
      refine xn_add hx hb i 1 rfl rfl dL_law_191 ?_
      refine x_scr (v := 1) hx hb X hw.2.2 (i + 1) rfl (by omega) e0 dL_law_192 ?_
      refine lv_aload_n hx hb dL_law_193 rfl (lv_at hl 3 rfl) ?_
      refine lv_iload_n hx hb dL_law_194 rfl (lv_at hl 0 rfl) ?_
      refine lv_iconst (v := 2) hx hb dL_law_195 (by decide) ?_
      refine xn_add hx hb i 2 rfl rfl dL_law_196 ?_
      refine x_scr (v := nI a) hx hb X hw.2.2 (i + 2) rfl (by omega) ea dL_law_197 ?_
      refine lv_aload_n hx hb dL_law_198 rfl (lv_at hl 3 rfl) ?_
      refine lv_iload_n hx hb dL_law_199 rfl (lv_at hl 0 rfl) ?_
      refine lv_iconst (v := 3) hx hb dL_law_200 (by decide) ?_
      refine xn_add hx hb i 3 rfl rfl dL_law_201 ?_
      refine x_scr (v := nI z) hx hb X hw.2.2 (i + 3) rfl (by omega) ez dL_law_202 ?_
      refine lv_aload_n hx hb dL_law_203 rfl (lv_at hl 3 rfl) ?_
      refine lv_iload_n hx hb dL_law_204 rfl (lv_at hl 0 rfl) ?_
      refine lv_iconst (v := 4) hx hb dL_law_205 (by decide) ?_
      refine xn_add hx hb i 4 rfl rfl dL_law_206 ?_
      refine x_scr (v := xs (i + 4)) hx hb X hw.2.2 (i + 4) rfl (by omega) rfl dL_law_207 ?_
      refine x_goS (st1 := [.int (nI (cntNe w.2.2.1 (xs (i + 4)) a (z + 1))), .int (nI (cntNe v.2.2.1 (xs (i + 4)) a (z + 1)))]) E hw (x_runVS (rest := [.int (nI (cntNe v.2.2.1 (xs (i + 4)) a (z + 1)))]) E hw (c_X8_lays_g l g o hd bads nos fuls cau whe cnt pm fau isw ods w P sr tx wm nm a z (xs (i + 4)) wL hhd (by omega) haz u1 u2) km_L_22 kv_X8_lays _ (app_r (k := 0) rfl) hl.1 rfl rfl (Nat.le_of_ble_eq_true rfl) ⟨Nat.le_of_ble_eq_true rfl, Nat.le_of_ble_eq_true rfl⟩ ⟨Nat.le_of_ble_eq_true rfl, Nat.le_of_ble_eq_true rfl⟩ dL_law_208) rfl (fun H locs hw => ?_)
      have hw : xW g A0 s0 (CW g h q bads nos fuls cau whe (graS a z (xs (i + 4)) v) (foOf (graS a z (xs (i + 4)) v) len fo) (sqOf (graS a z (xs (i + 4)) v) len fo sq) ((nx + 1) % 7) (min 6 (hd + 1)) cnt p ca fa od tx wo nu (va_up S nx v) ++ MW g o (min 6 (hd + 1)) bads nos fuls cau whe cnt pm fau isw ods (graS a z (xs (i + 4)) w) (ntP P hd w) sr tx wm nm) _ _ := hw
      have hw := hw.swap
      refine lv_icmp_eq (tgt := 710) hx hb dL_law_211 (by decide) (fun _ => ?_) (fun z => absurd (congrArg nI (a_gr R hz)) z)
      exact kk _ _ _ _ _ _ _ _ _ _ _ _ _ _ _ _ _ _ _ _ _ _ _ _ _ _ _ _ _ _ _ (J.keep ((g1.gra a z ⟨u1, u2⟩).mono (by omega)) (R.gra a z _) (re_cv2 (v' := graS a z (xs (i + 4)) v) hlen hl1 hl2 fo sq)) hw hl
  · refine lv_aload_n hx hb dL_law_163 rfl (lv_at hl 2 rfl) ?_
    refine lv_aload_n hx hb dL_law_164 rfl (lv_at hl 3 rfl) ?_
    refine lv_iload_n hx hb dL_law_165 rfl (lv_at hl 0 rfl) ?_
    refine lv_iconst (v := 1) hx hb dL_law_166 (by decide) ?_
    refine xn_add hx hb i 1 rfl rfl dL_law_167 ?_
    refine x_scr (v := xs (i + 1)) hx hb X hw.2.2 (i + 1) rfl (by omega) rfl dL_law_168 ?_
    refine lv_aload_n hx hb dL_law_169 rfl (lv_at hl 3 rfl) ?_
    refine lv_iload_n hx hb dL_law_170 rfl (lv_at hl 0 rfl) ?_
    refine lv_iconst (v := 2) hx hb dL_law_171 (by decide) ?_
    refine xn_add hx hb i 2 rfl rfl dL_law_172 ?_
    refine x_scr (v := xs (i + 2)) hx hb X hw.2.2 (i + 2) rfl (by omega) rfl dL_law_173 ?_
    refine lv_aload_n hx hb dL_law_174 rfl (lv_at hl 3 rfl) ?_
    refine lv_iload_n hx hb dL_law_175 rfl (lv_at hl 0 rfl) ?_
    refine lv_iconst (v := 3) hx hb dL_law_176 (by decide) ?_
    refine xn_add hx hb i 3 rfl rfl dL_law_177 ?_
    refine x_scr (v := xs (i + 3)) hx hb X hw.2.2 (i + 3) rfl (by omega) rfl dL_law_178 ?_
    refine lv_aload_n hx hb dL_law_179 rfl (lv_at hl 3 rfl) ?_
    refine lv_iload_n hx hb dL_law_180 rfl (lv_at hl 0 rfl) ?_
    refine lv_iconst (v := 4) hx hb dL_law_181 (by decide) ?_
    refine xn_add hx hb i 4 rfl rfl dL_law_182 ?_
    refine x_scr (v := xs (i + 4)) hx hb X hw.2.2 (i + 4) rfl (by omega) rfl dL_law_183 ?_
    refine x_goS (st1 := [.int (-2)]) E hw (x_runVS (rest := []) E hw (c_X7_lays_bad l g h q bads nos fuls cau whe v fo sq nx hd cnt p ca fa od tx wo nu S (xs (i + 1)) (xs (i + 2)) (xs (i + 3)) (xs (i + 4)) hL1 hL hnx hc) km_L_18 kv_X7_lays _ (app_r (k := 0) rfl) hl.1 rfl rfl (Nat.le_of_ble_eq_true rfl) ⟨Nat.le_of_ble_eq_true rfl, Nat.le_of_ble_eq_true rfl⟩ ⟨Nat.le_of_ble_eq_true rfl, Nat.le_of_ble_eq_true rfl⟩ dL_law_184) rfl (fun H locs hw => ?_)
    have hw : xW g A0 s0 (MW g o hd bads nos fuls cau whe cnt pm fau isw ods w P sr tx wm nm ++ CW g h q (bads + 1) nos fuls cau whe v fo sq nx hd cnt p ca fa od tx wo nu (va_up S nx v)) _ _ := hw
    have hw := hw.swap
    refine lv_aload_n hx hb dL_law_187 rfl (lv_at hl 1 rfl) ?_
    refine lv_aload_n hx hb dL_law_188 rfl (lv_at hl 3 rfl) ?_
    refine lv_iload_n hx hb dL_law_189 rfl (lv_at hl 0 rfl) ?_
    refine lv_iconst (v := 1) hx hb dL_law_190 (by decide) ?_
    refine xn_add hx hb i 1 rfl rfl dL_law_191 ?_
    refine x_scr (v := xs (i + 1)) hx hb X hw.2.2 (i + 1) rfl (by omega) rfl dL_law_192 ?_
    refine lv_aload_n hx hb dL_law_193 rfl (lv_at hl 3 rfl) ?_
    refine lv_iload_n hx hb dL_law_194 rfl (lv_at hl 0 rfl) ?_
    refine lv_iconst (v := 2) hx hb dL_law_195 (by decide) ?_
    refine xn_add hx hb i 2 rfl rfl dL_law_196 ?_
    refine x_scr (v := xs (i + 2)) hx hb X hw.2.2 (i + 2) rfl (by omega) rfl dL_law_197 ?_
    refine lv_aload_n hx hb dL_law_198 rfl (lv_at hl 3 rfl) ?_
    refine lv_iload_n hx hb dL_law_199 rfl (lv_at hl 0 rfl) ?_
    refine lv_iconst (v := 3) hx hb dL_law_200 (by decide) ?_
    refine xn_add hx hb i 3 rfl rfl dL_law_201 ?_
    refine x_scr (v := xs (i + 3)) hx hb X hw.2.2 (i + 3) rfl (by omega) rfl dL_law_202 ?_
    refine lv_aload_n hx hb dL_law_203 rfl (lv_at hl 3 rfl) ?_
    refine lv_iload_n hx hb dL_law_204 rfl (lv_at hl 0 rfl) ?_
    refine lv_iconst (v := 4) hx hb dL_law_205 (by decide) ?_
    refine xn_add hx hb i 4 rfl rfl dL_law_206 ?_
    refine x_scr (v := xs (i + 4)) hx hb X hw.2.2 (i + 4) rfl (by omega) rfl dL_law_207 ?_
    refine x_goS (st1 := [.int (-2), .int (-2)]) E hw (x_runVS (rest := [.int (-2)]) E hw (c_X8_lays_bad l g o hd bads nos fuls cau whe cnt pm fau isw ods w P sr tx wm nm (xs (i + 1)) (xs (i + 2)) (xs (i + 3)) (xs (i + 4)) wL1 (by rw [← e1]; exact hc)) km_L_22 kv_X8_lays _ (app_r (k := 0) rfl) hl.1 rfl rfl (Nat.le_of_ble_eq_true rfl) ⟨Nat.le_of_ble_eq_true rfl, Nat.le_of_ble_eq_true rfl⟩ ⟨Nat.le_of_ble_eq_true rfl, Nat.le_of_ble_eq_true rfl⟩ dL_law_208) rfl (fun H locs hw => ?_)
    have hw : xW g A0 s0 (CW g h q (bads + 1) nos fuls cau whe v fo sq nx hd cnt p ca fa od tx wo nu (va_up S nx v) ++ MW g o hd (bads + 1) nos fuls cau whe cnt pm fau isw ods w P sr tx wm nm) _ _ := hw
    have hw := hw.swap
    refine lv_icmp_eq (tgt := 710) hx hb dL_law_211 (by decide) (fun _ => ?_) (fun z => absurd (rfl) z)
    exact kk _ _ _ _ _ _ _ _ _ _ _ _ _ _ _ _ _ _ _ _ _ _ _ _ _ _ _ _ _ _ _ (J.note.bad) hw hl

set_option maxRecDepth 100000 in
set_option maxHeartbeats 4000000 in
theorem lw_beacon {p0 : Program} {l : Launch} {g : xCfg} {e0 : Env} {s0 : State} {m0 : MethodId} {below : List Frame} {meth : Method} {c0 : Code} {A0 : Nat → Prop} {b L i K : Nat} {xs : Nat → Int32} {h : Nat → Nat} {q : Nat → Nat → Nat} {o : Nat → Nat} {Q : State → Prop} (E : xE g p0 s0 m0 #[Value.ref b] meth c0 cL_law 4 RL A0) (X : va_X b L xs s0 s0.heap ∧ b < s0.heap.size ∧ ¬ A0 b ∧ L ≤ 2560) (hi : i + 5 ≤ L) (hK : K < 2 ^ 30) (kk : LA p0 l g e0 s0 m0 below meth c0 A0 b h q o Q (K + 200) i 710) : LA p0 l g e0 s0 m0 below meth c0 A0 b h q o Q K i 216 := by
  intro bads nos fuls cau whe v fo sq nx hd cnt p ca fa od tx wo nu S pm fau isw ods w P sr wm nm H locs ls J hw hl
  have hx := E.x
  have hb := E.b
  obtain ⟨len, hlen, hl1, hl2, C, g1, R, hL1, hL, hf, hnx, hhd, hcnt, gw, e1, wL1, wL, wlen, wf, wQ, yq, hyq, hqy⟩ := J.facts sr
  by_cases hc : inL v.1 (xs (i + 1)) ∧ (0 ≤ xs (i + 2) ∧ xs (i + 2) ≤ 1)
  · obtain ⟨a, ha, ea⟩ := inL_of hc.1 hL1 hL
    refine lv_aload_n hx hb dL_law_216 rfl (lv_at hl 2 rfl) ?_
    refine lv_aload_n hx hb dL_law_217 rfl (lv_at hl 3 rfl) ?_
    refine lv_iload_n hx hb dL_law_218 rfl (lv_at hl 0 rfl) ?_
    refine lv_iconst (v := 1) hx hb dL_law_219 (by decide) ?_
    refine xn_add hx hb i 1 rfl rfl dL_law_220 ?_
    refine x_scr (v := nI a) hx hb X hw.2.2 (i + 1) rfl (by omega) ea dL_law_221 ?_
    refine lv_aload_n hx hb dL_law_222 rfl (lv_at hl 3 rfl) ?_
    refine lv_iload_n hx hb dL_law_223 rfl (lv_at hl 0 rfl) ?_
    refine lv_iconst (v := 2) hx hb dL_law_224 (by decide) ?_
    refine xn_add hx hb i 2 rfl rfl dL_law_225 ?_
    refine x_scr (v := xs (i + 2)) hx hb X hw.2.2 (i + 2) rfl (by omega) rfl dL_law_226 ?_
    refine x_goS (st1 := [.int (v.2.2.2.1 a)]) E hw (x_runVS (rest := []) E hw (c_X7_beacon_ok l g h q bads nos fuls cau whe v fo sq nx hd cnt p ca fa od tx wo nu S a (xs (i + 2)) hL hnx hhd (by omega) hc.2.1 hc.2.2 (n_be g1 ha).1 (n_be g1 ha).2.1 (n_be g1 ha).2.2) km_L_23 kv_X7_beacon _ (app_r (k := 0) rfl) hl.1 rfl rfl (Nat.le_of_ble_eq_true rfl) ⟨Nat.le_of_ble_eq_true rfl, Nat.le_of_ble_eq_true rfl⟩ ⟨Nat.le_of_ble_eq_true rfl, Nat.le_of_ble_eq_true rfl⟩ dL_law_227) rfl (fun H locs hw => ?_)
    have hw : xW g A0 s0 (MW g o hd bads nos fuls cau whe cnt pm fau isw ods w P sr tx wm nm ++ CW g h q bads nos fuls cau whe (beaS a (xs (i + 2)) v) fo sq ((nx + 1) % 7) (min 6 (hd + 1)) cnt p ca fa od tx wo nu (va_up S nx v)) _ _ := hw
    have hw := hw.swap
    refine lv_aload_n hx hb dL_law_230 rfl (lv_at hl 1 rfl) ?_
    refine lv_aload_n hx hb dL_law_231 rfl (lv_at hl 3 rfl) ?_
    refine lv_iload_n hx hb dL_law_232 rfl (lv_at hl 0 rfl) ?_
    refine lv_iconst (v := 1) hx hb dL_law_233 (by decide) ?_
    refine xn_add hx hb i 1 rfl rfl dL_law_234 ?_
    refine x_scr (v := nI a) hx hb X hw.2.2 (i + 1) rfl (by omega) ea dL_law_235 ?_
    refine lv_aload_n hx hb dL_law_236 rfl (lv_at hl 3 rfl) ?_
    refine lv_iload_n hx hb dL_law_237 rfl (lv_at hl 0 rfl) ?_
    refine lv_iconst (v := 2) hx hb dL_law_238 (by decide) ?_
    refine xn_add hx hb i 2 rfl rfl dL_law_239 ?_
    refine x_scr (v := xs (i + 2)) hx hb X hw.2.2 (i + 2) rfl (by omega) rfl dL_law_240 ?_
    refine x_goS (st1 := [.int (w.2.2.2.1 a), .int (v.2.2.2.1 a)]) E hw (x_runVS (rest := [.int (v.2.2.2.1 a)]) E hw (c_X8_beacon_ok l g o hd bads nos fuls cau whe cnt pm fau isw ods w P sr tx wm nm a (xs (i + 2)) wL hhd (by omega) hc.2.1 hc.2.2) km_L_27 kv_X8_beacon _ (app_r (k := 0) rfl) hl.1 rfl rfl (Nat.le_of_ble_eq_true rfl) ⟨Nat.le_of_ble_eq_true rfl, Nat.le_of_ble_eq_true rfl⟩ ⟨Nat.le_of_ble_eq_true rfl, Nat.le_of_ble_eq_true rfl⟩ dL_law_241) rfl (fun H locs hw => ?_)
    have hw : xW g A0 s0 (CW g h q bads nos fuls cau whe (beaS a (xs (i + 2)) v) fo sq ((nx + 1) % 7) (min 6 (hd + 1)) cnt p ca fa od tx wo nu (va_up S nx v) ++ MW g o (min 6 (hd + 1)) bads nos fuls cau whe cnt pm fau isw ods (beaS a (xs (i + 2)) w) (ntP P hd w) sr tx wm nm) _ _ := hw
    have hw := hw.swap
    refine lv_icmp_eq (tgt := 710) hx hb dL_law_244 (by decide) (fun _ => ?_) (fun z => absurd ((R.2.1 a ha).2.2) z)
    exact kk _ _ _ _ _ _ _ _ _ _ _ _ _ _ _ _ _ _ _ _ _ _ _ _ _ _ _ _ _ _ _ (J.keep ((g1.bea a hc.2).mono (by omega)) (R.bea a _) ⟨len, hlen, hl1, hl2, C⟩) hw hl
  · refine lv_aload_n hx hb dL_law_216 rfl (lv_at hl 2 rfl) ?_
    refine lv_aload_n hx hb dL_law_217 rfl (lv_at hl 3 rfl) ?_
    refine lv_iload_n hx hb dL_law_218 rfl (lv_at hl 0 rfl) ?_
    refine lv_iconst (v := 1) hx hb dL_law_219 (by decide) ?_
    refine xn_add hx hb i 1 rfl rfl dL_law_220 ?_
    refine x_scr (v := xs (i + 1)) hx hb X hw.2.2 (i + 1) rfl (by omega) rfl dL_law_221 ?_
    refine lv_aload_n hx hb dL_law_222 rfl (lv_at hl 3 rfl) ?_
    refine lv_iload_n hx hb dL_law_223 rfl (lv_at hl 0 rfl) ?_
    refine lv_iconst (v := 2) hx hb dL_law_224 (by decide) ?_
    refine xn_add hx hb i 2 rfl rfl dL_law_225 ?_
    refine x_scr (v := xs (i + 2)) hx hb X hw.2.2 (i + 2) rfl (by omega) rfl dL_law_226 ?_
    refine x_goS (st1 := [.int (-2)]) E hw (x_runVS (rest := []) E hw (c_X7_beacon_bad l g h q bads nos fuls cau whe v fo sq nx hd cnt p ca fa od tx wo nu S (xs (i + 1)) (xs (i + 2)) hL1 hL hnx hc) km_L_23 kv_X7_beacon _ (app_r (k := 0) rfl) hl.1 rfl rfl (Nat.le_of_ble_eq_true rfl) ⟨Nat.le_of_ble_eq_true rfl, Nat.le_of_ble_eq_true rfl⟩ ⟨Nat.le_of_ble_eq_true rfl, Nat.le_of_ble_eq_true rfl⟩ dL_law_227) rfl (fun H locs hw => ?_)
    have hw : xW g A0 s0 (MW g o hd bads nos fuls cau whe cnt pm fau isw ods w P sr tx wm nm ++ CW g h q (bads + 1) nos fuls cau whe v fo sq nx hd cnt p ca fa od tx wo nu (va_up S nx v)) _ _ := hw
    have hw := hw.swap
    refine lv_aload_n hx hb dL_law_230 rfl (lv_at hl 1 rfl) ?_
    refine lv_aload_n hx hb dL_law_231 rfl (lv_at hl 3 rfl) ?_
    refine lv_iload_n hx hb dL_law_232 rfl (lv_at hl 0 rfl) ?_
    refine lv_iconst (v := 1) hx hb dL_law_233 (by decide) ?_
    refine xn_add hx hb i 1 rfl rfl dL_law_234 ?_
    refine x_scr (v := xs (i + 1)) hx hb X hw.2.2 (i + 1) rfl (by omega) rfl dL_law_235 ?_
    refine lv_aload_n hx hb dL_law_236 rfl (lv_at hl 3 rfl) ?_
    refine lv_iload_n hx hb dL_law_237 rfl (lv_at hl 0 rfl) ?_
    refine lv_iconst (v := 2) hx hb dL_law_238 (by decide) ?_
    refine xn_add hx hb i 2 rfl rfl dL_law_239 ?_
    refine x_scr (v := xs (i + 2)) hx hb X hw.2.2 (i + 2) rfl (by omega) rfl dL_law_240 ?_
    refine x_goS (st1 := [.int (-2), .int (-2)]) E hw (x_runVS (rest := [.int (-2)]) E hw (c_X8_beacon_bad l g o hd bads nos fuls cau whe cnt pm fau isw ods w P sr tx wm nm (xs (i + 1)) (xs (i + 2)) wL1 (by rw [← e1]; exact hc)) km_L_27 kv_X8_beacon _ (app_r (k := 0) rfl) hl.1 rfl rfl (Nat.le_of_ble_eq_true rfl) ⟨Nat.le_of_ble_eq_true rfl, Nat.le_of_ble_eq_true rfl⟩ ⟨Nat.le_of_ble_eq_true rfl, Nat.le_of_ble_eq_true rfl⟩ dL_law_241) rfl (fun H locs hw => ?_)
    have hw : xW g A0 s0 (CW g h q (bads + 1) nos fuls cau whe v fo sq nx hd cnt p ca fa od tx wo nu (va_up S nx v) ++ MW g o hd (bads + 1) nos fuls cau whe cnt pm fau isw ods w P sr tx wm nm) _ _ := hw
    have hw := hw.swap
    refine lv_icmp_eq (tgt := 710) hx hb dL_law_244 (by decide) (fun _ => ?_) (fun z => absurd (rfl) z)
    exact kk _ _ _ _ _ _ _ _ _ _ _ _ _ _ _ _ _ _ _ _ _ _ _ _ _ _ _ _ _ _ _ (J.note.bad) hw hl

set_option maxRecDepth 100000 in
set_option maxHeartbeats 4000000 in
theorem lw_sets {p0 : Program} {l : Launch} {g : xCfg} {e0 : Env} {s0 : State} {m0 : MethodId} {below : List Frame} {meth : Method} {c0 : Code} {A0 : Nat → Prop} {b L i K : Nat} {xs : Nat → Int32} {h : Nat → Nat} {q : Nat → Nat → Nat} {o : Nat → Nat} {Q : State → Prop} (E : xE g p0 s0 m0 #[Value.ref b] meth c0 cL_law 4 RL A0) (X : va_X b L xs s0 s0.heap ∧ b < s0.heap.size ∧ ¬ A0 b ∧ L ≤ 2560) (hi : i + 5 ≤ L) (hK : K < 2 ^ 30) (kk : LA p0 l g e0 s0 m0 below meth c0 A0 b h q o Q (K + 200) i 710) : LA p0 l g e0 s0 m0 below meth c0 A0 b h q o Q K i 249 := by
  intro bads nos fuls cau whe v fo sq nx hd cnt p ca fa od tx wo nu S pm fau isw ods w P sr wm nm H locs ls J hw hl
  have hx := E.x
  have hb := E.b
  obtain ⟨len, hlen, hl1, hl2, C, g1, R, hL1, hL, hf, hnx, hhd, hcnt, gw, e1, wL1, wL, wlen, wf, wQ, yq, hyq, hqy⟩ := J.facts sr
  by_cases hc : setOk (xs (i + 1)) (xs (i + 2))
  · obtain ⟨k, hk, ek⟩ := in_w (m := 6) (by decide) hc.1
    have hs : tLeast k ≤ xs (i + 2) ∧ xs (i + 2) ≤ tMost k := by have z := hc.2; rw [ek, nI_clamp (by omega)] at z; exact z
    obtain ⟨ln, q1, q2, q3⟩ := (g1.set hs).lenx
    refine lv_aload_n hx hb dL_law_249 rfl (lv_at hl 2 rfl) ?_
    refine lv_aload_n hx hb dL_law_250 rfl (lv_at hl 3 rfl) ?_
    refine lv_iload_n hx hb dL_law_251 rfl (lv_at hl 0 rfl) ?_
    refine lv_iconst (v := 1) hx hb dL_law_252 (by decide) ?_
    refine xn_add hx hb i 1 rfl rfl dL_law_253 ?_
    refine x_scr (v := nI k) hx hb X hw.2.2 (i + 1) rfl (by omega) ek dL_law_254 ?_
    refine lv_aload_n hx hb dL_law_255 rfl (lv_at hl 3 rfl) ?_
    refine lv_iload_n hx hb dL_law_256 rfl (lv_at hl 0 rfl) ?_
    refine lv_iconst (v := 2) hx hb dL_law_257 (by decide) ?_
    refine xn_add hx hb i 2 rfl rfl dL_law_258 ?_
    refine x_scr (v := xs (i + 2)) hx hb X hw.2.2 (i + 2) rfl (by omega) rfl dL_law_259 ?_
    refine x_goS (st1 := [.int (v.2.2.2.2.1 k)]) E hw (x_runVS (rest := []) E hw (c_X7_sets_ok l g h q bads nos fuls cau whe v fo sq nx hd cnt p ca fa od tx wo nu S k (xs (i + 2)) ln hL hnx hhd (by omega) hs.1 hs.2 q3 q1 q2 (n_st g1 (j := k) (by omega)).1 (n_st g1 (j := k) (by omega)).2.1 (n_st g1 (j := k) (by omega)).2.2) km_L_28 kv_X7_sets _ (app_r (k := 0) rfl) hl.1 rfl rfl (Nat.le_of_ble_eq_true rfl) ⟨Nat.le_of_ble_eq_true rfl, Nat.le_of_ble_eq_true rfl⟩ ⟨Nat.le_of_ble_eq_true rfl, Nat.le_of_ble_eq_true rfl⟩ dL_law_260) rfl (fun H locs hw => ?_)
    have hw : xW g A0 s0 (MW g o hd bads nos fuls cau whe cnt pm fau isw ods w P sr tx wm nm ++ CW g h q bads nos fuls cau whe (setS k (xs (i + 2)) v) (foOf (setS k (xs (i + 2)) v) ln fo) (sqOf (setS k (xs (i + 2)) v) ln fo sq) ((nx + 1) % 7) (min 6 (hd + 1)) cnt p ca fa od tx wo nu (va_up S nx v)) _ _ := hw
    have hw := hw.swap
    refine lv_aload_n hx hb dL_law_263 rfl (lv_at hl 1 rfl) ?_
    refine lv_aload_n hx hb dL_law_264 rfl (lv_at hl 3 rfl) ?_
    refine lv_iload_n hx hb dL_law_265 rfl (lv_at hl 0 rfl) ?_
    refine lv_iconst (v := 1) hx hb dL_law_266 (by decide) ?_
    refine xn_add hx hb i 1 rfl rfl dL_law_267 ?_
    refine x_scr (v := nI k) hx hb X hw.2.2 (i + 1) rfl (by omega) ek dL_law_268 ?_
    refine lv_aload_n hx hb dL_law_269 rfl (lv_at hl 3 rfl) ?_
    refine lv_iload_n hx hb dL_law_270 rfl (lv_at hl 0 rfl) ?_
    refine lv_iconst (v := 2) hx hb dL_law_271 (by decide) ?_
    refine xn_add hx hb i 2 rfl rfl dL_law_272 ?_
    refine x_scr (v := xs (i + 2)) hx hb X hw.2.2 (i + 2) rfl (by omega) rfl dL_law_273 ?_
    refine x_goS (st1 := [.int (w.2.2.2.2.1 k), .int (v.2.2.2.2.1 k)]) E hw (x_runVS (rest := [.int (v.2.2.2.2.1 k)]) E hw (c_X8_sets_ok l g o hd bads nos fuls cau whe cnt pm fau isw ods w P sr tx wm nm k (xs (i + 2)) hhd (by omega) hs.1 hs.2) km_L_31 kv_X8_sets _ (app_r (k := 0) rfl) hl.1 rfl rfl (Nat.le_of_ble_eq_true rfl) ⟨Nat.le_of_ble_eq_true rfl, Nat.le_of_ble_eq_true rfl⟩ ⟨Nat.le_of_ble_eq_true rfl, Nat.le_of_ble_eq_true rfl⟩ dL_law_274) rfl (fun H locs hw => ?_)
    have hw : xW g A0 s0 (CW g h q bads nos fuls cau whe (setS k (xs (i + 2)) v) (foOf (setS k (xs (i + 2)) v) ln fo) (sqOf (setS k (xs (i + 2)) v) ln fo sq) ((nx + 1) % 7) (min 6 (hd + 1)) cnt p ca fa od tx wo nu (va_up S nx v) ++ MW g o (min 6 (hd + 1)) bads nos fuls cau whe cnt pm fau isw ods (setS k (xs (i + 2)) w) (ntP P hd w) sr tx wm nm) _ _ := hw
    have hw := hw.swap
    refine lv_icmp_eq (tgt := 710) hx hb dL_law_277 (by decide) (fun _ => ?_) (fun z => absurd (R.2.2.1 k (by omega)) z)
    exact kk _ _ _ _ _ _ _ _ _ _ _ _ _ _ _ _ _ _ _ _ _ _ _ _ _ _ _ _ _ _ _ (J.keep ((g1.set hs).mono (by omega)) (R.set k _) (re_cv2 q3 q1 q2 fo sq)) hw hl
  · refine lv_aload_n hx hb dL_law_249 rfl (lv_at hl 2 rfl) ?_
    refine lv_aload_n hx hb dL_law_250 rfl (lv_at hl 3 rfl) ?_
    refine lv_iload_n hx hb dL_law_251 rfl (lv_at hl 0 rfl) ?_
    refine lv_iconst (v := 1) hx hb dL_law_252 (by decide) ?_
    refine xn_add hx hb i 1 rfl rfl dL_law_253 ?_
    refine x_scr (v := xs (i + 1)) hx hb X hw.2.2 (i + 1) rfl (by omega) rfl dL_law_254 ?_
    refine lv_aload_n hx hb dL_law_255 rfl (lv_at hl 3 rfl) ?_
    refine lv_iload_n hx hb dL_law_256 rfl (lv_at hl 0 rfl) ?_
    refine lv_iconst (v := 2) hx hb dL_law_257 (by decide) ?_
    refine xn_add hx hb i 2 rfl rfl dL_law_258 ?_
    refine x_scr (v := xs (i + 2)) hx hb X hw.2.2 (i + 2) rfl (by omega) rfl dL_law_259 ?_
    refine x_goS (st1 := [.int (-2)]) E hw (x_runVS (rest := []) E hw (c_X7_sets_bad l g h q bads nos fuls cau whe v fo sq nx hd cnt p ca fa od tx wo nu S (xs (i + 1)) (xs (i + 2)) hnx hc) km_L_28 kv_X7_sets _ (app_r (k := 0) rfl) hl.1 rfl rfl (Nat.le_of_ble_eq_true rfl) ⟨Nat.le_of_ble_eq_true rfl, Nat.le_of_ble_eq_true rfl⟩ ⟨Nat.le_of_ble_eq_true rfl, Nat.le_of_ble_eq_true rfl⟩ dL_law_260) rfl (fun H locs hw => ?_)
    have hw : xW g A0 s0 (MW g o hd bads nos fuls cau whe cnt pm fau isw ods w P sr tx wm nm ++ CW g h q (bads + 1) nos fuls cau whe v fo sq nx hd cnt p ca fa od tx wo nu (va_up S nx v)) _ _ := hw
    have hw := hw.swap
    refine lv_aload_n hx hb dL_law_263 rfl (lv_at hl 1 rfl) ?_
    refine lv_aload_n hx hb dL_law_264 rfl (lv_at hl 3 rfl) ?_
    refine lv_iload_n hx hb dL_law_265 rfl (lv_at hl 0 rfl) ?_
    refine lv_iconst (v := 1) hx hb dL_law_266 (by decide) ?_
    refine xn_add hx hb i 1 rfl rfl dL_law_267 ?_
    refine x_scr (v := xs (i + 1)) hx hb X hw.2.2 (i + 1) rfl (by omega) rfl dL_law_268 ?_
    refine lv_aload_n hx hb dL_law_269 rfl (lv_at hl 3 rfl) ?_
    refine lv_iload_n hx hb dL_law_270 rfl (lv_at hl 0 rfl) ?_
    refine lv_iconst (v := 2) hx hb dL_law_271 (by decide) ?_
    refine xn_add hx hb i 2 rfl rfl dL_law_272 ?_
    refine x_scr (v := xs (i + 2)) hx hb X hw.2.2 (i + 2) rfl (by omega) rfl dL_law_273 ?_
    refine x_goS (st1 := [.int (-2), .int (-2)]) E hw (x_runVS (rest := [.int (-2)]) E hw (c_X8_sets_bad l g o hd bads nos fuls cau whe cnt pm fau isw ods w P sr tx wm nm (xs (i + 1)) (xs (i + 2)) hc) km_L_31 kv_X8_sets _ (app_r (k := 0) rfl) hl.1 rfl rfl (Nat.le_of_ble_eq_true rfl) ⟨Nat.le_of_ble_eq_true rfl, Nat.le_of_ble_eq_true rfl⟩ ⟨Nat.le_of_ble_eq_true rfl, Nat.le_of_ble_eq_true rfl⟩ dL_law_274) rfl (fun H locs hw => ?_)
    have hw : xW g A0 s0 (CW g h q (bads + 1) nos fuls cau whe v fo sq nx hd cnt p ca fa od tx wo nu (va_up S nx v) ++ MW g o hd (bads + 1) nos fuls cau whe cnt pm fau isw ods w P sr tx wm nm) _ _ := hw
    have hw := hw.swap
    refine lv_icmp_eq (tgt := 710) hx hb dL_law_277 (by decide) (fun _ => ?_) (fun z => absurd (rfl) z)
    exact kk _ _ _ _ _ _ _ _ _ _ _ _ _ _ _ _ _ _ _ _ _ _ _ _ _ _ _ _ _ _ _ (J.note.bad) hw hl

set_option maxRecDepth 100000 in
set_option maxHeartbeats 4000000 in
theorem lw_cell {p0 : Program} {l : Launch} {g : xCfg} {e0 : Env} {s0 : State} {m0 : MethodId} {below : List Frame} {meth : Method} {c0 : Code} {A0 : Nat → Prop} {b L i K : Nat} {xs : Nat → Int32} {h : Nat → Nat} {q : Nat → Nat → Nat} {o : Nat → Nat} {Q : State → Prop} (E : xE g p0 s0 m0 #[Value.ref b] meth c0 cL_law 4 RL A0) (X : va_X b L xs s0 s0.heap ∧ b < s0.heap.size ∧ ¬ A0 b ∧ L ≤ 2560) (hi : i + 5 ≤ L) (hK : K < 2 ^ 30) (kk : LA p0 l g e0 s0 m0 below meth c0 A0 b h q o Q (K + 200) i 710) : LA p0 l g e0 s0 m0 below meth c0 A0 b h q o Q K i 282 := by
  intro bads nos fuls cau whe v fo sq nx hd cnt p ca fa od tx wo nu S pm fau isw ods w P sr wm nm H locs ls J hw hl
  have hx := E.x
  have hb := E.b
  obtain ⟨len, hlen, hl1, hl2, C, g1, R, hL1, hL, hf, hnx, hhd, hcnt, gw, e1, wL1, wL, wlen, wf, wQ, yq, hyq, hqy⟩ := J.facts sr
  by_cases hc : inL v.1 (xs (i + 1)) ∧ (0 ≤ xs (i + 2) ∧ xs (i + 2) ≤ 4)
  · obtain ⟨x, hx0, ea⟩ := inL_of hc.1 hL1 hL
    obtain ⟨k, hk, ek⟩ := in_w (m := 4) (by decide) hc.2
    refine lv_aload_n hx hb dL_law_282 rfl (lv_at hl 2 rfl) ?_
    refine lv_aload_n hx hb dL_law_283 rfl (lv_at hl 3 rfl) ?_
    refine lv_iload_n hx hb dL_law_284 rfl (lv_at hl 0 rfl) ?_
    refine lv_iconst (v := 1) hx hb dL_law_285 (by decide) ?_
    refine xn_add hx hb i 1 rfl rfl dL_law_286 ?_
    refine x_scr (v := nI x) hx hb X hw.2.2 (i + 1) rfl (by omega) ea dL_law_287 ?_
    refine lv_aload_n hx hb dL_law_288 rfl (lv_at hl 3 rfl) ?_
    refine lv_iload_n hx hb dL_law_289 rfl (lv_at hl 0 rfl) ?_
    refine lv_iconst (v := 2) hx hb dL_law_290 (by decide) ?_
    refine xn_add hx hb i 2 rfl rfl dL_law_291 ?_
    refine x_scr (v := nI k) hx hb X hw.2.2 (i + 2) rfl (by omega) ek dL_law_292 ?_
    refine x_goS (st1 := [.int (cevF v.2.1 v.2.2.1 v.2.2.2.1 fo (v.2.2.2.2.1 0) x k)]) E hw (x_runVS (rest := []) E hw (c_X7_cell_ok l g h q bads nos fuls cau whe v fo sq nx hd cnt p ca fa od tx wo nu S x k hL (by omega) (by omega) (n_cev g1 hl1 C hx0 (k := k)).1 (n_cev g1 hl1 C hx0 (k := k)).2.1 (n_cev g1 hl1 C hx0 (k := k)).2.2) km_L_32 kv_X7_cell _ (app_r (k := 0) rfl) hl.1 rfl rfl (Nat.le_of_ble_eq_true rfl) ⟨Nat.le_of_ble_eq_true rfl, Nat.le_of_ble_eq_true rfl⟩ ⟨Nat.le_of_ble_eq_true rfl, Nat.le_of_ble_eq_true rfl⟩ dL_law_293) rfl (fun H locs hw => ?_)
    have hw : xW g A0 s0 (MW g o hd bads nos fuls cau whe cnt pm fau isw ods w P sr tx wm nm ++ CW g h q bads nos fuls cau whe v fo sq nx hd cnt p ca fa od tx wo nu S) _ _ := hw
    have hw := hw.swap
    refine lv_aload_n hx hb dL_law_296 rfl (lv_at hl 1 rfl) ?_
    refine lv_aload_n hx hb dL_law_297 rfl (lv_at hl 3 rfl) ?_
    refine lv_iload_n hx hb dL_law_298 rfl (lv_at hl 0 rfl) ?_
    refine lv_iconst (v := 1) hx hb dL_law_299 (by decide) ?_
    refine xn_add hx hb i 1 rfl rfl dL_law_300 ?_
    refine x_scr (v := nI x) hx hb X hw.2.2 (i + 1) rfl (by omega) ea dL_law_301 ?_
    refine lv_aload_n hx hb dL_law_302 rfl (lv_at hl 3 rfl) ?_
    refine lv_iload_n hx hb dL_law_303 rfl (lv_at hl 0 rfl) ?_
    refine lv_iconst (v := 2) hx hb dL_law_304 (by decide) ?_
    refine xn_add hx hb i 2 rfl rfl dL_law_305 ?_
    refine x_scr (v := nI k) hx hb X hw.2.2 (i + 2) rfl (by omega) ek dL_law_306 ?_
    refine x_goS (st1 := [.int (cevF w.2.1 w.2.2.1 w.2.2.2.1 (infF w.2.1 len) (w.2.2.2.2.1 0) x k), .int (cevF v.2.1 v.2.2.1 v.2.2.2.1 fo (v.2.2.2.2.1 0) x k)]) E hw (x_runVS (rest := [.int (cevF v.2.1 v.2.2.1 v.2.2.2.1 fo (v.2.2.2.2.1 0) x k)]) E hw (c_X8_cell_ok l g o hd bads nos fuls cau whe cnt pm fau isw ods w P sr tx wm nm x k len wL (by omega) (by omega) wlen hl1 hl2) km_L_35 kv_X8_cell _ (app_r (k := 0) rfl) hl.1 rfl rfl (Nat.le_of_ble_eq_true rfl) ⟨Nat.le_of_ble_eq_true rfl, Nat.le_of_ble_eq_true rfl⟩ ⟨Nat.le_of_ble_eq_true rfl, Nat.le_of_ble_eq_true rfl⟩ dL_law_307) rfl (fun H locs hw => ?_)
    have hw : xW g A0 s0 (CW g h q bads nos fuls cau whe v fo sq nx hd cnt p ca fa od tx wo nu S ++ MW g o hd bads nos fuls cau whe cnt pm fau isw ods w P sr tx wm nm) _ _ := hw
    have hw := hw.swap
    refine lv_icmp_eq (tgt := 710) hx hb dL_law_310 (by decide) (fun _ => ?_) (fun z => absurd (a_cev R hl1 C hx0) z)
    exact kk _ _ _ _ _ _ _ _ _ _ _ _ _ _ _ _ _ _ _ _ _ _ _ _ _ _ _ _ _ _ _ (J.same) hw hl
  · by_cases hc1 : inL v.1 (xs (i + 1))
    · obtain ⟨x, hx0, ea⟩ := inL_of hc1 hL1 hL
      refine lv_aload_n hx hb dL_law_282 rfl (lv_at hl 2 rfl) ?_
      refine lv_aload_n hx hb dL_law_283 rfl (lv_at hl 3 rfl) ?_
      refine lv_iload_n hx hb dL_law_284 rfl (lv_at hl 0 rfl) ?_
      refine lv_iconst (v := 1) hx hb dL_law_285 (by decide) ?_
      refine xn_add hx hb i 1 rfl rfl dL_law_286 ?_
      refine x_scr (v := nI x) hx hb X hw.2.2 (i + 1) rfl (by omega) ea dL_law_287 ?_
      refine lv_aload_n hx hb dL_law_288 rfl (lv_at hl 3 rfl) ?_
      refine lv_iload_n hx hb dL_law_289 rfl (lv_at hl 0 rfl) ?_
      refine lv_iconst (v := 2) hx hb dL_law_290 (by decide) ?_
      refine xn_add hx hb i 2 rfl rfl dL_law_291 ?_
      refine x_scr (v := xs (i + 2)) hx hb X hw.2.2 (i + 2) rfl (by omega) rfl dL_law_292 ?_
      refine x_goS (st1 := [.int (-2)]) E hw (x_runVS (rest := []) E hw (c_X7_cell_bw l g h q bads nos fuls cau whe v fo sq nx hd cnt p ca fa od tx wo nu S x (xs (i + 2)) hL hx0 (not_in (n := 4) (by decide) (fun z => hc ⟨hc1, z⟩))) km_L_32 kv_X7_cell _ (app_r (k := 0) rfl) hl.1 rfl rfl (Nat.le_of_ble_eq_true rfl) ⟨Nat.le_of_ble_eq_true rfl, Nat.le_of_ble_eq_true rfl⟩ ⟨Nat.le_of_ble_eq_true rfl, Nat.le_of_ble_eq_true rfl⟩ dL_law_293) rfl (fun H locs hw => ?_)
      have hw : xW g A0 s0 (MW g o hd bads nos fuls cau whe cnt pm fau isw ods w P sr tx wm nm ++ CW g h q (bads + 1) nos fuls cau whe v fo sq nx hd cnt p ca fa od tx wo nu S) _ _ := hw
      have hw := hw.swap
      refine lv_aload_n hx hb dL_law_296 rfl (lv_at hl 1 rfl) ?_
      refine lv_aload_n hx hb dL_law_297 rfl (lv_at hl 3 rfl) ?_
      refine lv_iload_n hx hb dL_law_298 rfl (lv_at hl 0 rfl) ?_
      refine lv_iconst (v := 1) hx hb dL_law_299 (by decide) ?_
      refine xn_add hx hb i 1 rfl rfl dL_law_300 ?_
      refine x_scr (v := xs (i + 1)) hx hb X hw.2.2 (i + 1) rfl (by omega) rfl dL_law_301 ?_
      refine lv_aload_n hx hb dL_law_302 rfl (lv_at hl 3 rfl) ?_
      refine lv_iload_n hx hb dL_law_303 rfl (lv_at hl 0 rfl) ?_
      refine lv_iconst (v := 2) hx hb dL_law_304 (by decide) ?_
      refine xn_add hx hb i 2 rfl rfl dL_law_305 ?_
      refine x_scr (v := xs (i + 2)) hx hb X hw.2.2 (i + 2) rfl (by omega) rfl dL_law_306 ?_
      refine x_goS (st1 := [.int (-2), .int (-2)]) E hw (x_runVS (rest := [.int (-2)]) E hw (c_X8_cell_bad l g o hd bads nos fuls cau whe cnt pm fau isw ods w P sr tx wm nm (xs (i + 1)) (xs (i + 2)) wL1 (by rw [← e1]; exact hc)) km_L_35 kv_X8_cell _ (app_r (k := 0) rfl) hl.1 rfl rfl (Nat.le_of_ble_eq_true rfl) ⟨Nat.le_of_ble_eq_true rfl, Nat.le_of_ble_eq_true rfl⟩ ⟨Nat.le_of_ble_eq_true rfl, Nat.le_of_ble_eq_true rfl⟩ dL_law_307) rfl (fun H locs hw => ?_)
      have hw : xW g A0 s0 (CW g h q (bads + 1) nos fuls cau whe v fo sq nx hd cnt p ca fa od tx wo nu S ++ MW g o hd (bads + 1) nos fuls cau whe cnt pm fau isw ods w P sr tx wm nm) _ _ := hw
      have hw := hw.swap
      refine lv_icmp_eq (tgt := 710) hx hb dL_law_310 (by decide) (fun _ => ?_) (fun z => absurd (rfl) z)
      exact kk _ _ _ _ _ _ _ _ _ _ _ _ _ _ _ _ _ _ _ _ _ _ _ _ _ _ _ _ _ _ _ (J.bad) hw hl
    · refine lv_aload_n hx hb dL_law_282 rfl (lv_at hl 2 rfl) ?_
      refine lv_aload_n hx hb dL_law_283 rfl (lv_at hl 3 rfl) ?_
      refine lv_iload_n hx hb dL_law_284 rfl (lv_at hl 0 rfl) ?_
      refine lv_iconst (v := 1) hx hb dL_law_285 (by decide) ?_
      refine xn_add hx hb i 1 rfl rfl dL_law_286 ?_
      refine x_scr (v := xs (i + 1)) hx hb X hw.2.2 (i + 1) rfl (by omega) rfl dL_law_287 ?_
      refine lv_aload_n hx hb dL_law_288 rfl (lv_at hl 3 rfl) ?_
      refine lv_iload_n hx hb dL_law_289 rfl (lv_at hl 0 rfl) ?_
      refine lv_iconst (v := 2) hx hb dL_law_290 (by decide) ?_
      refine xn_add hx hb i 2 rfl rfl dL_law_291 ?_
      refine x_scr (v := xs (i + 2)) hx hb X hw.2.2 (i + 2) rfl (by omega) rfl dL_law_292 ?_
      refine x_goS (st1 := [.int (-2)]) E hw (x_runVS (rest := []) E hw (c_X7_cell_bx l g h q bads nos fuls cau whe v fo sq nx hd cnt p ca fa od tx wo nu S (xs (i + 1)) (xs (i + 2)) hL1 hc1) km_L_32 kv_X7_cell _ (app_r (k := 0) rfl) hl.1 rfl rfl (Nat.le_of_ble_eq_true rfl) ⟨Nat.le_of_ble_eq_true rfl, Nat.le_of_ble_eq_true rfl⟩ ⟨Nat.le_of_ble_eq_true rfl, Nat.le_of_ble_eq_true rfl⟩ dL_law_293) rfl (fun H locs hw => ?_)
      have hw : xW g A0 s0 (MW g o hd bads nos fuls cau whe cnt pm fau isw ods w P sr tx wm nm ++ CW g h q (bads + 1) nos fuls cau whe v fo sq nx hd cnt p ca fa od tx wo nu S) _ _ := hw
      have hw := hw.swap
      refine lv_aload_n hx hb dL_law_296 rfl (lv_at hl 1 rfl) ?_
      refine lv_aload_n hx hb dL_law_297 rfl (lv_at hl 3 rfl) ?_
      refine lv_iload_n hx hb dL_law_298 rfl (lv_at hl 0 rfl) ?_
      refine lv_iconst (v := 1) hx hb dL_law_299 (by decide) ?_
      refine xn_add hx hb i 1 rfl rfl dL_law_300 ?_
      refine x_scr (v := xs (i + 1)) hx hb X hw.2.2 (i + 1) rfl (by omega) rfl dL_law_301 ?_
      refine lv_aload_n hx hb dL_law_302 rfl (lv_at hl 3 rfl) ?_
      refine lv_iload_n hx hb dL_law_303 rfl (lv_at hl 0 rfl) ?_
      refine lv_iconst (v := 2) hx hb dL_law_304 (by decide) ?_
      refine xn_add hx hb i 2 rfl rfl dL_law_305 ?_
      refine x_scr (v := xs (i + 2)) hx hb X hw.2.2 (i + 2) rfl (by omega) rfl dL_law_306 ?_
      refine x_goS (st1 := [.int (-2), .int (-2)]) E hw (x_runVS (rest := [.int (-2)]) E hw (c_X8_cell_bad l g o hd bads nos fuls cau whe cnt pm fau isw ods w P sr tx wm nm (xs (i + 1)) (xs (i + 2)) wL1 (by rw [← e1]; exact hc)) km_L_35 kv_X8_cell _ (app_r (k := 0) rfl) hl.1 rfl rfl (Nat.le_of_ble_eq_true rfl) ⟨Nat.le_of_ble_eq_true rfl, Nat.le_of_ble_eq_true rfl⟩ ⟨Nat.le_of_ble_eq_true rfl, Nat.le_of_ble_eq_true rfl⟩ dL_law_307) rfl (fun H locs hw => ?_)
      have hw : xW g A0 s0 (CW g h q (bads + 1) nos fuls cau whe v fo sq nx hd cnt p ca fa od tx wo nu S ++ MW g o hd (bads + 1) nos fuls cau whe cnt pm fau isw ods w P sr tx wm nm) _ _ := hw
      have hw := hw.swap
      refine lv_icmp_eq (tgt := 710) hx hb dL_law_310 (by decide) (fun _ => ?_) (fun z => absurd (rfl) z)
      exact kk _ _ _ _ _ _ _ _ _ _ _ _ _ _ _ _ _ _ _ _ _ _ _ _ _ _ _ _ _ _ _ (J.bad) hw hl

set_option maxRecDepth 100000 in
set_option maxHeartbeats 4000000 in
theorem lw_lawful {p0 : Program} {l : Launch} {g : xCfg} {e0 : Env} {s0 : State} {m0 : MethodId} {below : List Frame} {meth : Method} {c0 : Code} {A0 : Nat → Prop} {b L i K : Nat} {xs : Nat → Int32} {h : Nat → Nat} {q : Nat → Nat → Nat} {o : Nat → Nat} {Q : State → Prop} (E : xE g p0 s0 m0 #[Value.ref b] meth c0 cL_law 4 RL A0) (X : va_X b L xs s0 s0.heap ∧ b < s0.heap.size ∧ ¬ A0 b ∧ L ≤ 2560) (hi : i + 5 ≤ L) (hK : K < 2 ^ 30) (kk : LA p0 l g e0 s0 m0 below meth c0 A0 b h q o Q (K + 200) i 710) : LA p0 l g e0 s0 m0 below meth c0 A0 b h q o Q K i 315 := by
  intro bads nos fuls cau whe v fo sq nx hd cnt p ca fa od tx wo nu S pm fau isw ods w P sr wm nm H locs ls J hw hl
  have hx := E.x
  have hb := E.b
  obtain ⟨len, hlen, hl1, hl2, C, g1, R, hL1, hL, hf, hnx, hhd, hcnt, gw, e1, wL1, wL, wlen, wf, wQ, yq, hyq, hqy⟩ := J.facts sr
  by_cases hc : inL v.1 (xs (i + 1))
  · obtain ⟨x, hx0, ea⟩ := inL_of hc hL1 hL
    refine lv_aload_n hx hb dL_law_315 rfl (lv_at hl 2 rfl) ?_
    refine lv_aload_n hx hb dL_law_316 rfl (lv_at hl 3 rfl) ?_
    refine lv_iload_n hx hb dL_law_317 rfl (lv_at hl 0 rfl) ?_
    refine lv_iconst (v := 1) hx hb dL_law_318 (by decide) ?_
    refine xn_add hx hb i 1 rfl rfl dL_law_319 ?_
    refine x_scr (v := nI x) hx hb X hw.2.2 (i + 1) rfl (by omega) ea dL_law_320 ?_
    refine x_goS (st1 := [.int (sq x)]) E hw (x_runVS (rest := []) E hw (c_X7_lawful_ok l g h q bads nos fuls cau whe v fo sq nx hd cnt p ca fa od tx wo nu S x hL hx0 (n_sq g1 hl1 C hx0).1 (n_sq g1 hl1 C hx0).2.1 (n_sq g1 hl1 C hx0).2.2) km_L_36 kv_X7_lawful _ (app_r (k := 0) rfl) hl.1 rfl rfl (Nat.le_of_ble_eq_true rfl) ⟨Nat.le_of_ble_eq_true rfl, Nat.le_of_ble_eq_true rfl⟩ ⟨Nat.le_of_ble_eq_true rfl, Nat.le_of_ble_eq_true rfl⟩ dL_law_321) rfl (fun H locs hw => ?_)
    have hw : xW g A0 s0 (MW g o hd bads nos fuls cau whe cnt pm fau isw ods w P sr tx wm nm ++ CW g h q bads nos fuls cau whe v fo sq nx hd cnt p ca fa od tx wo nu S) _ _ := hw
    have hw := hw.swap
    refine lv_aload_n hx hb dL_law_324 rfl (lv_at hl 1 rfl) ?_
    refine lv_aload_n hx hb dL_law_325 rfl (lv_at hl 3 rfl) ?_
    refine lv_iload_n hx hb dL_law_326 rfl (lv_at hl 0 rfl) ?_
    refine lv_iconst (v := 1) hx hb dL_law_327 (by decide) ?_
    refine xn_add hx hb i 1 rfl rfl dL_law_328 ?_
    refine x_scr (v := nI x) hx hb X hw.2.2 (i + 1) rfl (by omega) ea dL_law_329 ?_
    refine x_goS (st1 := [.int ((lwQ w.2.1 w.2.2.1 (w.2.2.2.2.1 0) len w.1 0 sr) x), .int (sq x)]) E hw (x_runVS (rest := [.int (sq x)]) E hw (c_X8_lawful_ok l g o hd bads nos fuls cau whe cnt pm fau isw ods w P sr tx wm nm x len wL1 wL wlen hl1 hl2 (by omega)) km_L_39 kv_X8_lawful _ (app_r (k := 0) rfl) hl.1 rfl rfl (Nat.le_of_ble_eq_true rfl) ⟨Nat.le_of_ble_eq_true rfl, Nat.le_of_ble_eq_true rfl⟩ ⟨Nat.le_of_ble_eq_true rfl, Nat.le_of_ble_eq_true rfl⟩ dL_law_330) rfl (fun H locs hw => ?_)
    have hw : xW g A0 s0 (CW g h q bads nos fuls cau whe v fo sq nx hd cnt p ca fa od tx wo nu S ++ MW g o hd bads nos fuls cau whe cnt pm fau isw ods w P (lwQ w.2.1 w.2.2.1 (w.2.2.2.2.1 0) len w.1 0 sr) tx wm nm) _ _ := hw
    have hw := hw.swap
    refine lv_icmp_eq (tgt := 710) hx hb dL_law_333 (by decide) (fun _ => ?_) (fun z => absurd (C.ss R hl1 sr x hx0) z)
    exact kk _ _ _ _ _ _ _ _ _ _ _ _ _ _ _ _ _ _ _ _ _ _ _ _ _ _ _ _ _ _ _ (J.same) hw hl
  · refine lv_aload_n hx hb dL_law_315 rfl (lv_at hl 2 rfl) ?_
    refine lv_aload_n hx hb dL_law_316 rfl (lv_at hl 3 rfl) ?_
    refine lv_iload_n hx hb dL_law_317 rfl (lv_at hl 0 rfl) ?_
    refine lv_iconst (v := 1) hx hb dL_law_318 (by decide) ?_
    refine xn_add hx hb i 1 rfl rfl dL_law_319 ?_
    refine x_scr (v := xs (i + 1)) hx hb X hw.2.2 (i + 1) rfl (by omega) rfl dL_law_320 ?_
    refine x_goS (st1 := [.int (-2)]) E hw (x_runVS (rest := []) E hw (c_X7_lawful_bad l g h q bads nos fuls cau whe v fo sq nx hd cnt p ca fa od tx wo nu S (xs (i + 1)) hL1 hc) km_L_36 kv_X7_lawful _ (app_r (k := 0) rfl) hl.1 rfl rfl (Nat.le_of_ble_eq_true rfl) ⟨Nat.le_of_ble_eq_true rfl, Nat.le_of_ble_eq_true rfl⟩ ⟨Nat.le_of_ble_eq_true rfl, Nat.le_of_ble_eq_true rfl⟩ dL_law_321) rfl (fun H locs hw => ?_)
    have hw : xW g A0 s0 (MW g o hd bads nos fuls cau whe cnt pm fau isw ods w P sr tx wm nm ++ CW g h q (bads + 1) nos fuls cau whe v fo sq nx hd cnt p ca fa od tx wo nu S) _ _ := hw
    have hw := hw.swap
    refine lv_aload_n hx hb dL_law_324 rfl (lv_at hl 1 rfl) ?_
    refine lv_aload_n hx hb dL_law_325 rfl (lv_at hl 3 rfl) ?_
    refine lv_iload_n hx hb dL_law_326 rfl (lv_at hl 0 rfl) ?_
    refine lv_iconst (v := 1) hx hb dL_law_327 (by decide) ?_
    refine xn_add hx hb i 1 rfl rfl dL_law_328 ?_
    refine x_scr (v := xs (i + 1)) hx hb X hw.2.2 (i + 1) rfl (by omega) rfl dL_law_329 ?_
    refine x_goS (st1 := [.int (-2), .int (-2)]) E hw (x_runVS (rest := [.int (-2)]) E hw (c_X8_lawful_bad l g o hd bads nos fuls cau whe cnt pm fau isw ods w P sr tx wm nm (xs (i + 1)) wL1 (by rw [← e1]; exact hc)) km_L_39 kv_X8_lawful _ (app_r (k := 0) rfl) hl.1 rfl rfl (Nat.le_of_ble_eq_true rfl) ⟨Nat.le_of_ble_eq_true rfl, Nat.le_of_ble_eq_true rfl⟩ ⟨Nat.le_of_ble_eq_true rfl, Nat.le_of_ble_eq_true rfl⟩ dL_law_330) rfl (fun H locs hw => ?_)
    have hw : xW g A0 s0 (CW g h q (bads + 1) nos fuls cau whe v fo sq nx hd cnt p ca fa od tx wo nu S ++ MW g o hd (bads + 1) nos fuls cau whe cnt pm fau isw ods w P sr tx wm nm) _ _ := hw
    have hw := hw.swap
    refine lv_icmp_eq (tgt := 710) hx hb dL_law_333 (by decide) (fun _ => ?_) (fun z => absurd (rfl) z)
    exact kk _ _ _ _ _ _ _ _ _ _ _ _ _ _ _ _ _ _ _ _ _ _ _ _ _ _ _ _ _ _ _ (J.bad) hw hl

set_option maxRecDepth 100000 in
set_option maxHeartbeats 4000000 in
theorem lw_permitted {p0 : Program} {l : Launch} {g : xCfg} {e0 : Env} {s0 : State} {m0 : MethodId} {below : List Frame} {meth : Method} {c0 : Code} {A0 : Nat → Prop} {b L i K : Nat} {xs : Nat → Int32} {h : Nat → Nat} {q : Nat → Nat → Nat} {o : Nat → Nat} {Q : State → Prop} (E : xE g p0 s0 m0 #[Value.ref b] meth c0 cL_law 4 RL A0) (X : va_X b L xs s0 s0.heap ∧ b < s0.heap.size ∧ ¬ A0 b ∧ L ≤ 2560) (hi : i + 5 ≤ L) (hK : K < 2 ^ 30) (kk : LA p0 l g e0 s0 m0 below meth c0 A0 b h q o Q (K + 200) i 710) : LA p0 l g e0 s0 m0 below meth c0 A0 b h q o Q K i 338 := by
  intro bads nos fuls cau whe v fo sq nx hd cnt p ca fa od tx wo nu S pm fau isw ods w P sr wm nm H locs ls J hw hl
  have hx := E.x
  have hb := E.b
  obtain ⟨len, hlen, hl1, hl2, C, g1, R, hL1, hL, hf, hnx, hhd, hcnt, gw, e1, wL1, wL, wlen, wf, wQ, yq, hyq, hqy⟩ := J.facts sr
  by_cases hc : inL v.1 (xs (i + 1))
  · obtain ⟨x, hx0, ea⟩ := inL_of hc hL1 hL
    refine lv_aload_n hx hb dL_law_338 rfl (lv_at hl 2 rfl) ?_
    refine lv_aload_n hx hb dL_law_339 rfl (lv_at hl 3 rfl) ?_
    refine lv_iload_n hx hb dL_law_340 rfl (lv_at hl 0 rfl) ?_
    refine lv_iconst (v := 1) hx hb dL_law_341 (by decide) ?_
    refine xn_add hx hb i 1 rfl rfl dL_law_342 ?_
    refine x_scr (v := nI x) hx hb X hw.2.2 (i + 1) rfl (by omega) ea dL_law_343 ?_
    refine x_goS (st1 := [.int (nI (rtL 15 0 (sq x)))]) E hw (x_runVS (rest := []) E hw (c_X7_permitted_ok l g h q bads nos fuls cau whe v fo sq nx hd cnt p ca fa od tx wo nu S x hL hx0) km_L_40 kv_X7_permitted _ (app_r (k := 0) rfl) hl.1 rfl rfl (Nat.le_of_ble_eq_true rfl) ⟨Nat.le_of_ble_eq_true rfl, Nat.le_of_ble_eq_true rfl⟩ ⟨Nat.le_of_ble_eq_true rfl, Nat.le_of_ble_eq_true rfl⟩ dL_law_344) rfl (fun H locs hw => ?_)
    have hw : xW g A0 s0 (MW g o hd bads nos fuls cau whe cnt pm fau isw ods w P sr tx wm nm ++ CW g h q bads nos fuls cau whe v fo sq nx hd cnt p ca fa od tx wo nu S) _ _ := hw
    have hw := hw.swap
    refine lv_aload_n hx hb dL_law_347 rfl (lv_at hl 1 rfl) ?_
    refine lv_aload_n hx hb dL_law_348 rfl (lv_at hl 3 rfl) ?_
    refine lv_iload_n hx hb dL_law_349 rfl (lv_at hl 0 rfl) ?_
    refine lv_iconst (v := 1) hx hb dL_law_350 (by decide) ?_
    refine xn_add hx hb i 1 rfl rfl dL_law_351 ?_
    refine x_scr (v := nI x) hx hb X hw.2.2 (i + 1) rfl (by omega) ea dL_law_352 ?_
    refine x_goS (st1 := [.int (nI (rtL 15 0 ((lwQ w.2.1 w.2.2.1 (w.2.2.2.2.1 0) len w.1 0 sr) x))), .int (nI (rtL 15 0 (sq x)))]) E hw (x_runVS (rest := [.int (nI (rtL 15 0 (sq x)))]) E hw (c_X8_permitted_ok l g o hd bads nos fuls cau whe cnt pm fau isw ods w P sr tx wm nm x len wL1 wL wlen hl1 hl2 (by omega) wQ) km_L_43 kv_X8_permitted _ (app_r (k := 0) rfl) hl.1 rfl rfl (Nat.le_of_ble_eq_true rfl) ⟨Nat.le_of_ble_eq_true rfl, Nat.le_of_ble_eq_true rfl⟩ ⟨Nat.le_of_ble_eq_true rfl, Nat.le_of_ble_eq_true rfl⟩ dL_law_353) rfl (fun H locs hw => ?_)
    have hw : xW g A0 s0 (CW g h q bads nos fuls cau whe v fo sq nx hd cnt p ca fa od tx wo nu S ++ MW g o hd bads nos fuls cau whe cnt pm fau isw ods w P (lwQ w.2.1 w.2.2.1 (w.2.2.2.2.1 0) len w.1 0 sr) tx wm nm) _ _ := hw
    have hw := hw.swap
    refine lv_icmp_eq (tgt := 710) hx hb dL_law_356 (by decide) (fun _ => ?_) (fun z => absurd (congrArg (fun z => nI (rtL 15 0 z)) (C.ss R hl1 sr x hx0)) z)
    exact kk _ _ _ _ _ _ _ _ _ _ _ _ _ _ _ _ _ _ _ _ _ _ _ _ _ _ _ _ _ _ _ (J.same) hw hl
  · refine lv_aload_n hx hb dL_law_338 rfl (lv_at hl 2 rfl) ?_
    refine lv_aload_n hx hb dL_law_339 rfl (lv_at hl 3 rfl) ?_
    refine lv_iload_n hx hb dL_law_340 rfl (lv_at hl 0 rfl) ?_
    refine lv_iconst (v := 1) hx hb dL_law_341 (by decide) ?_
    refine xn_add hx hb i 1 rfl rfl dL_law_342 ?_
    refine x_scr (v := xs (i + 1)) hx hb X hw.2.2 (i + 1) rfl (by omega) rfl dL_law_343 ?_
    refine x_goS (st1 := [.int (-2)]) E hw (x_runVS (rest := []) E hw (c_X7_permitted_bad l g h q bads nos fuls cau whe v fo sq nx hd cnt p ca fa od tx wo nu S (xs (i + 1)) hL1 hc) km_L_40 kv_X7_permitted _ (app_r (k := 0) rfl) hl.1 rfl rfl (Nat.le_of_ble_eq_true rfl) ⟨Nat.le_of_ble_eq_true rfl, Nat.le_of_ble_eq_true rfl⟩ ⟨Nat.le_of_ble_eq_true rfl, Nat.le_of_ble_eq_true rfl⟩ dL_law_344) rfl (fun H locs hw => ?_)
    have hw : xW g A0 s0 (MW g o hd bads nos fuls cau whe cnt pm fau isw ods w P sr tx wm nm ++ CW g h q (bads + 1) nos fuls cau whe v fo sq nx hd cnt p ca fa od tx wo nu S) _ _ := hw
    have hw := hw.swap
    refine lv_aload_n hx hb dL_law_347 rfl (lv_at hl 1 rfl) ?_
    refine lv_aload_n hx hb dL_law_348 rfl (lv_at hl 3 rfl) ?_
    refine lv_iload_n hx hb dL_law_349 rfl (lv_at hl 0 rfl) ?_
    refine lv_iconst (v := 1) hx hb dL_law_350 (by decide) ?_
    refine xn_add hx hb i 1 rfl rfl dL_law_351 ?_
    refine x_scr (v := xs (i + 1)) hx hb X hw.2.2 (i + 1) rfl (by omega) rfl dL_law_352 ?_
    refine x_goS (st1 := [.int (-2), .int (-2)]) E hw (x_runVS (rest := [.int (-2)]) E hw (c_X8_permitted_bad l g o hd bads nos fuls cau whe cnt pm fau isw ods w P sr tx wm nm (xs (i + 1)) wL1 (by rw [← e1]; exact hc)) km_L_43 kv_X8_permitted _ (app_r (k := 0) rfl) hl.1 rfl rfl (Nat.le_of_ble_eq_true rfl) ⟨Nat.le_of_ble_eq_true rfl, Nat.le_of_ble_eq_true rfl⟩ ⟨Nat.le_of_ble_eq_true rfl, Nat.le_of_ble_eq_true rfl⟩ dL_law_353) rfl (fun H locs hw => ?_)
    have hw : xW g A0 s0 (CW g h q (bads + 1) nos fuls cau whe v fo sq nx hd cnt p ca fa od tx wo nu S ++ MW g o hd (bads + 1) nos fuls cau whe cnt pm fau isw ods w P sr tx wm nm) _ _ := hw
    have hw := hw.swap
    refine lv_icmp_eq (tgt := 710) hx hb dL_law_356 (by decide) (fun _ => ?_) (fun z => absurd (rfl) z)
    exact kk _ _ _ _ _ _ _ _ _ _ _ _ _ _ _ _ _ _ _ _ _ _ _ _ _ _ _ _ _ _ _ (J.bad) hw hl

set_option maxRecDepth 100000 in
set_option maxHeartbeats 4000000 in
theorem lw_bound {p0 : Program} {l : Launch} {g : xCfg} {e0 : Env} {s0 : State} {m0 : MethodId} {below : List Frame} {meth : Method} {c0 : Code} {A0 : Nat → Prop} {b L i K : Nat} {xs : Nat → Int32} {h : Nat → Nat} {q : Nat → Nat → Nat} {o : Nat → Nat} {Q : State → Prop} (E : xE g p0 s0 m0 #[Value.ref b] meth c0 cL_law 4 RL A0) (X : va_X b L xs s0 s0.heap ∧ b < s0.heap.size ∧ ¬ A0 b ∧ L ≤ 2560) (hi : i + 5 ≤ L) (hK : K < 2 ^ 30) (kk : LA p0 l g e0 s0 m0 below meth c0 A0 b h q o Q (K + 200) i 710) : LA p0 l g e0 s0 m0 below meth c0 A0 b h q o Q K i 361 := by
  intro bads nos fuls cau whe v fo sq nx hd cnt p ca fa od tx wo nu S pm fau isw ods w P sr wm nm H locs ls J hw hl
  have hx := E.x
  have hb := E.b
  obtain ⟨len, hlen, hl1, hl2, C, g1, R, hL1, hL, hf, hnx, hhd, hcnt, gw, e1, wL1, wL, wlen, wf, wQ, yq, hyq, hqy⟩ := J.facts sr
  by_cases hc : inL v.1 (xs (i + 1))
  · obtain ⟨x, hx0, ea⟩ := inL_of hc hL1 hL
    refine lv_aload_n hx hb dL_law_361 rfl (lv_at hl 2 rfl) ?_
    refine lv_aload_n hx hb dL_law_362 rfl (lv_at hl 3 rfl) ?_
    refine lv_iload_n hx hb dL_law_363 rfl (lv_at hl 0 rfl) ?_
    refine lv_iconst (v := 1) hx hb dL_law_364 (by decide) ?_
    refine xn_add hx hb i 1 rfl rfl dL_law_365 ?_
    refine x_scr (v := nI x) hx hb X hw.2.2 (i + 1) rfl (by omega) ea dL_law_366 ?_
    refine x_goS (st1 := [.int (nI (bndL (sq x) fo v.2.2.1 (v.2.2.2.2.1 0) (v.1 - x) x 0))]) E hw (x_runVS (rest := []) E hw (c_X7_bound_ok l g h q bads nos fuls cau whe v fo sq nx hd cnt p ca fa od tx wo nu S x hL hx0) km_L_44 kv_X7_bound _ (app_r (k := 0) rfl) hl.1 rfl rfl (Nat.le_of_ble_eq_true rfl) ⟨Nat.le_of_ble_eq_true rfl, Nat.le_of_ble_eq_true rfl⟩ ⟨Nat.le_of_ble_eq_true rfl, Nat.le_of_ble_eq_true rfl⟩ dL_law_367) rfl (fun H locs hw => ?_)
    have hw : xW g A0 s0 (MW g o hd bads nos fuls cau whe cnt pm fau isw ods w P sr tx wm nm ++ CW g h q bads nos fuls cau whe v fo sq nx hd cnt p ca fa od tx wo nu S) _ _ := hw
    have hw := hw.swap
    refine lv_aload_n hx hb dL_law_370 rfl (lv_at hl 1 rfl) ?_
    refine lv_aload_n hx hb dL_law_371 rfl (lv_at hl 3 rfl) ?_
    refine lv_iload_n hx hb dL_law_372 rfl (lv_at hl 0 rfl) ?_
    refine lv_iconst (v := 1) hx hb dL_law_373 (by decide) ?_
    refine xn_add hx hb i 1 rfl rfl dL_law_374 ?_
    refine x_scr (v := nI x) hx hb X hw.2.2 (i + 1) rfl (by omega) ea dL_law_375 ?_
    refine x_goS (st1 := [.int (nI (bndL ((lwQ w.2.1 w.2.2.1 (w.2.2.2.2.1 0) len w.1 0 sr) x) (infF w.2.1 len) w.2.2.1 (w.2.2.2.2.1 0) (w.1 - x) x 0)), .int (nI (bndL (sq x) fo v.2.2.1 (v.2.2.2.2.1 0) (v.1 - x) x 0))]) E hw (x_runVS (rest := [.int (nI (bndL (sq x) fo v.2.2.1 (v.2.2.2.2.1 0) (v.1 - x) x 0))]) E hw (c_X8_bound_ok l g o hd bads nos fuls cau whe cnt pm fau isw ods w P sr tx wm nm x len wL1 wL wlen hl1 hl2 (by omega)) km_L_47 kv_X8_bound _ (app_r (k := 0) rfl) hl.1 rfl rfl (Nat.le_of_ble_eq_true rfl) ⟨Nat.le_of_ble_eq_true rfl, Nat.le_of_ble_eq_true rfl⟩ ⟨Nat.le_of_ble_eq_true rfl, Nat.le_of_ble_eq_true rfl⟩ dL_law_376) rfl (fun H locs hw => ?_)
    have hw : xW g A0 s0 (CW g h q bads nos fuls cau whe v fo sq nx hd cnt p ca fa od tx wo nu S ++ MW g o hd bads nos fuls cau whe cnt pm fau isw ods w P (lwQ w.2.1 w.2.2.1 (w.2.2.2.2.1 0) len w.1 0 sr) tx wm nm) _ _ := hw
    have hw := hw.swap
    refine lv_icmp_eq (tgt := 710) hx hb dL_law_379 (by decide) (fun _ => ?_) (fun z => absurd (congrArg nI (a_bnd R hl1 C sr hx0)) z)
    exact kk _ _ _ _ _ _ _ _ _ _ _ _ _ _ _ _ _ _ _ _ _ _ _ _ _ _ _ _ _ _ _ (J.same) hw hl
  · refine lv_aload_n hx hb dL_law_361 rfl (lv_at hl 2 rfl) ?_
    refine lv_aload_n hx hb dL_law_362 rfl (lv_at hl 3 rfl) ?_
    refine lv_iload_n hx hb dL_law_363 rfl (lv_at hl 0 rfl) ?_
    refine lv_iconst (v := 1) hx hb dL_law_364 (by decide) ?_
    refine xn_add hx hb i 1 rfl rfl dL_law_365 ?_
    refine x_scr (v := xs (i + 1)) hx hb X hw.2.2 (i + 1) rfl (by omega) rfl dL_law_366 ?_
    refine x_goS (st1 := [.int (-2)]) E hw (x_runVS (rest := []) E hw (c_X7_bound_bad l g h q bads nos fuls cau whe v fo sq nx hd cnt p ca fa od tx wo nu S (xs (i + 1)) hL1 hc) km_L_44 kv_X7_bound _ (app_r (k := 0) rfl) hl.1 rfl rfl (Nat.le_of_ble_eq_true rfl) ⟨Nat.le_of_ble_eq_true rfl, Nat.le_of_ble_eq_true rfl⟩ ⟨Nat.le_of_ble_eq_true rfl, Nat.le_of_ble_eq_true rfl⟩ dL_law_367) rfl (fun H locs hw => ?_)
    have hw : xW g A0 s0 (MW g o hd bads nos fuls cau whe cnt pm fau isw ods w P sr tx wm nm ++ CW g h q (bads + 1) nos fuls cau whe v fo sq nx hd cnt p ca fa od tx wo nu S) _ _ := hw
    have hw := hw.swap
    refine lv_aload_n hx hb dL_law_370 rfl (lv_at hl 1 rfl) ?_
    refine lv_aload_n hx hb dL_law_371 rfl (lv_at hl 3 rfl) ?_
    refine lv_iload_n hx hb dL_law_372 rfl (lv_at hl 0 rfl) ?_
    refine lv_iconst (v := 1) hx hb dL_law_373 (by decide) ?_
    refine xn_add hx hb i 1 rfl rfl dL_law_374 ?_
    refine x_scr (v := xs (i + 1)) hx hb X hw.2.2 (i + 1) rfl (by omega) rfl dL_law_375 ?_
    refine x_goS (st1 := [.int (-2), .int (-2)]) E hw (x_runVS (rest := [.int (-2)]) E hw (c_X8_bound_bad l g o hd bads nos fuls cau whe cnt pm fau isw ods w P sr tx wm nm (xs (i + 1)) wL1 (by rw [← e1]; exact hc)) km_L_47 kv_X8_bound _ (app_r (k := 0) rfl) hl.1 rfl rfl (Nat.le_of_ble_eq_true rfl) ⟨Nat.le_of_ble_eq_true rfl, Nat.le_of_ble_eq_true rfl⟩ ⟨Nat.le_of_ble_eq_true rfl, Nat.le_of_ble_eq_true rfl⟩ dL_law_376) rfl (fun H locs hw => ?_)
    have hw : xW g A0 s0 (CW g h q (bads + 1) nos fuls cau whe v fo sq nx hd cnt p ca fa od tx wo nu S ++ MW g o hd (bads + 1) nos fuls cau whe cnt pm fau isw ods w P sr tx wm nm) _ _ := hw
    have hw := hw.swap
    refine lv_icmp_eq (tgt := 710) hx hb dL_law_379 (by decide) (fun _ => ?_) (fun z => absurd (rfl) z)
    exact kk _ _ _ _ _ _ _ _ _ _ _ _ _ _ _ _ _ _ _ _ _ _ _ _ _ _ _ _ _ _ _ (J.bad) hw hl

set_option maxRecDepth 100000 in
set_option maxHeartbeats 4000000 in
theorem lw_stands {p0 : Program} {l : Launch} {g : xCfg} {e0 : Env} {s0 : State} {m0 : MethodId} {below : List Frame} {meth : Method} {c0 : Code} {A0 : Nat → Prop} {b L i K : Nat} {xs : Nat → Int32} {h : Nat → Nat} {q : Nat → Nat → Nat} {o : Nat → Nat} {Q : State → Prop} (E : xE g p0 s0 m0 #[Value.ref b] meth c0 cL_law 4 RL A0) (X : va_X b L xs s0 s0.heap ∧ b < s0.heap.size ∧ ¬ A0 b ∧ L ≤ 2560) (hi : i + 5 ≤ L) (hK : K < 2 ^ 30) (kk : LA p0 l g e0 s0 m0 below meth c0 A0 b h q o Q (K + 200) i 710) : LA p0 l g e0 s0 m0 below meth c0 A0 b h q o Q K i 384 := by
  intro bads nos fuls cau whe v fo sq nx hd cnt p ca fa od tx wo nu S pm fau isw ods w P sr wm nm H locs ls J hw hl
  have hx := E.x
  have hb := E.b
  obtain ⟨len, hlen, hl1, hl2, C, g1, R, hL1, hL, hf, hnx, hhd, hcnt, gw, e1, wL1, wL, wlen, wf, wQ, yq, hyq, hqy⟩ := J.facts sr
  by_cases hc : inL v.1 (xs (i + 1)) ∧ (0 ≤ xs (i + 2) ∧ xs (i + 2) ≤ 99)
  · obtain ⟨x, hx0, ea⟩ := inL_of hc.1 hL1 hL
    refine lv_aload_n hx hb dL_law_384 rfl (lv_at hl 2 rfl) ?_
    refine lv_aload_n hx hb dL_law_385 rfl (lv_at hl 3 rfl) ?_
    refine lv_iload_n hx hb dL_law_386 rfl (lv_at hl 0 rfl) ?_
    refine lv_iconst (v := 1) hx hb dL_law_387 (by decide) ?_
    refine xn_add hx hb i 1 rfl rfl dL_law_388 ?_
    refine x_scr (v := nI x) hx hb X hw.2.2 (i + 1) rfl (by omega) ea dL_law_389 ?_
    refine lv_aload_n hx hb dL_law_390 rfl (lv_at hl 3 rfl) ?_
    refine lv_iload_n hx hb dL_law_391 rfl (lv_at hl 0 rfl) ?_
    refine lv_iconst (v := 2) hx hb dL_law_392 (by decide) ?_
    refine xn_add hx hb i 2 rfl rfl dL_law_393 ?_
    refine x_scr (v := xs (i + 2)) hx hb X hw.2.2 (i + 2) rfl (by omega) rfl dL_law_394 ?_
    refine x_goS (st1 := [.int (stL v.2.2.1 (v.2.2.2.2.1 0) (v.1 - x) x x ((xs (i + 2)) * (xs (i + 2))))]) E hw (x_runVS (rest := []) E hw (c_X7_stands_ok l g h q bads nos fuls cau whe v fo sq nx hd cnt p ca fa od tx wo nu S x (xs (i + 2)) hL (by omega) hc.2.1 hc.2.2 (n_stn g1 hx0).1 (n_stn g1 hx0).2.1 (n_stn g1 hx0).2.2) km_L_48 kv_X7_stands _ (app_r (k := 0) rfl) hl.1 rfl rfl (Nat.le_of_ble_eq_true rfl) ⟨Nat.le_of_ble_eq_true rfl, Nat.le_of_ble_eq_true rfl⟩ ⟨Nat.le_of_ble_eq_true rfl, Nat.le_of_ble_eq_true rfl⟩ dL_law_395) rfl (fun H locs hw => ?_)
    have hw : xW g A0 s0 (MW g o hd bads nos fuls cau whe cnt pm fau isw ods w P sr tx wm nm ++ CW g h q bads nos fuls cau whe v fo sq nx hd cnt p ca fa od tx wo nu S) _ _ := hw
    have hw := hw.swap
    refine lv_aload_n hx hb dL_law_398 rfl (lv_at hl 1 rfl) ?_
    refine lv_aload_n hx hb dL_law_399 rfl (lv_at hl 3 rfl) ?_
    refine lv_iload_n hx hb dL_law_400 rfl (lv_at hl 0 rfl) ?_
    refine lv_iconst (v := 1) hx hb dL_law_401 (by decide) ?_
    refine xn_add hx hb i 1 rfl rfl dL_law_402 ?_
    refine x_scr (v := nI x) hx hb X hw.2.2 (i + 1) rfl (by omega) ea dL_law_403 ?_
    refine lv_aload_n hx hb dL_law_404 rfl (lv_at hl 3 rfl) ?_
    refine lv_iload_n hx hb dL_law_405 rfl (lv_at hl 0 rfl) ?_
    refine lv_iconst (v := 2) hx hb dL_law_406 (by decide) ?_
    refine xn_add hx hb i 2 rfl rfl dL_law_407 ?_
    refine x_scr (v := xs (i + 2)) hx hb X hw.2.2 (i + 2) rfl (by omega) rfl dL_law_408 ?_
    refine x_goS (st1 := [.int (stL w.2.2.1 (w.2.2.2.2.1 0) (w.1 - x) x x ((xs (i + 2)) * (xs (i + 2)))), .int (stL v.2.2.1 (v.2.2.2.2.1 0) (v.1 - x) x x ((xs (i + 2)) * (xs (i + 2))))]) E hw (x_runVS (rest := [.int (stL v.2.2.1 (v.2.2.2.2.1 0) (v.1 - x) x x ((xs (i + 2)) * (xs (i + 2))))]) E hw (c_X8_stands_ok l g o hd bads nos fuls cau whe cnt pm fau isw ods w P sr tx wm nm x (xs (i + 2)) wL (by omega) hc.2.1 hc.2.2) km_L_51 kv_X8_stands _ (app_r (k := 0) rfl) hl.1 rfl rfl (Nat.le_of_ble_eq_true rfl) ⟨Nat.le_of_ble_eq_true rfl, Nat.le_of_ble_eq_true rfl⟩ ⟨Nat.le_of_ble_eq_true rfl, Nat.le_of_ble_eq_true rfl⟩ dL_law_409) rfl (fun H locs hw => ?_)
    have hw : xW g A0 s0 (CW g h q bads nos fuls cau whe v fo sq nx hd cnt p ca fa od tx wo nu S ++ MW g o hd bads nos fuls cau whe cnt pm fau isw ods w P sr tx wm nm) _ _ := hw
    have hw := hw.swap
    refine lv_icmp_eq (tgt := 710) hx hb dL_law_412 (by decide) (fun _ => ?_) (fun z => absurd (a_stn R hx0) z)
    exact kk _ _ _ _ _ _ _ _ _ _ _ _ _ _ _ _ _ _ _ _ _ _ _ _ _ _ _ _ _ _ _ (J.same) hw hl
  · refine lv_aload_n hx hb dL_law_384 rfl (lv_at hl 2 rfl) ?_
    refine lv_aload_n hx hb dL_law_385 rfl (lv_at hl 3 rfl) ?_
    refine lv_iload_n hx hb dL_law_386 rfl (lv_at hl 0 rfl) ?_
    refine lv_iconst (v := 1) hx hb dL_law_387 (by decide) ?_
    refine xn_add hx hb i 1 rfl rfl dL_law_388 ?_
    refine x_scr (v := xs (i + 1)) hx hb X hw.2.2 (i + 1) rfl (by omega) rfl dL_law_389 ?_
    refine lv_aload_n hx hb dL_law_390 rfl (lv_at hl 3 rfl) ?_
    refine lv_iload_n hx hb dL_law_391 rfl (lv_at hl 0 rfl) ?_
    refine lv_iconst (v := 2) hx hb dL_law_392 (by decide) ?_
    refine xn_add hx hb i 2 rfl rfl dL_law_393 ?_
    refine x_scr (v := xs (i + 2)) hx hb X hw.2.2 (i + 2) rfl (by omega) rfl dL_law_394 ?_
    refine x_goS (st1 := [.int (-2)]) E hw (x_runVS (rest := []) E hw (c_X7_stands_bad l g h q bads nos fuls cau whe v fo sq nx hd cnt p ca fa od tx wo nu S (xs (i + 1)) (xs (i + 2)) hL1 hc) km_L_48 kv_X7_stands _ (app_r (k := 0) rfl) hl.1 rfl rfl (Nat.le_of_ble_eq_true rfl) ⟨Nat.le_of_ble_eq_true rfl, Nat.le_of_ble_eq_true rfl⟩ ⟨Nat.le_of_ble_eq_true rfl, Nat.le_of_ble_eq_true rfl⟩ dL_law_395) rfl (fun H locs hw => ?_)
    have hw : xW g A0 s0 (MW g o hd bads nos fuls cau whe cnt pm fau isw ods w P sr tx wm nm ++ CW g h q (bads + 1) nos fuls cau whe v fo sq nx hd cnt p ca fa od tx wo nu S) _ _ := hw
    have hw := hw.swap
    refine lv_aload_n hx hb dL_law_398 rfl (lv_at hl 1 rfl) ?_
    refine lv_aload_n hx hb dL_law_399 rfl (lv_at hl 3 rfl) ?_
    refine lv_iload_n hx hb dL_law_400 rfl (lv_at hl 0 rfl) ?_
    refine lv_iconst (v := 1) hx hb dL_law_401 (by decide) ?_
    refine xn_add hx hb i 1 rfl rfl dL_law_402 ?_
    refine x_scr (v := xs (i + 1)) hx hb X hw.2.2 (i + 1) rfl (by omega) rfl dL_law_403 ?_
    refine lv_aload_n hx hb dL_law_404 rfl (lv_at hl 3 rfl) ?_
    refine lv_iload_n hx hb dL_law_405 rfl (lv_at hl 0 rfl) ?_
    refine lv_iconst (v := 2) hx hb dL_law_406 (by decide) ?_
    refine xn_add hx hb i 2 rfl rfl dL_law_407 ?_
    refine x_scr (v := xs (i + 2)) hx hb X hw.2.2 (i + 2) rfl (by omega) rfl dL_law_408 ?_
    refine x_goS (st1 := [.int (-2), .int (-2)]) E hw (x_runVS (rest := [.int (-2)]) E hw (c_X8_stands_bad l g o hd bads nos fuls cau whe cnt pm fau isw ods w P sr tx wm nm (xs (i + 1)) (xs (i + 2)) wL1 (by rw [← e1]; exact hc)) km_L_51 kv_X8_stands _ (app_r (k := 0) rfl) hl.1 rfl rfl (Nat.le_of_ble_eq_true rfl) ⟨Nat.le_of_ble_eq_true rfl, Nat.le_of_ble_eq_true rfl⟩ ⟨Nat.le_of_ble_eq_true rfl, Nat.le_of_ble_eq_true rfl⟩ dL_law_409) rfl (fun H locs hw => ?_)
    have hw : xW g A0 s0 (CW g h q (bads + 1) nos fuls cau whe v fo sq nx hd cnt p ca fa od tx wo nu S ++ MW g o hd (bads + 1) nos fuls cau whe cnt pm fau isw ods w P sr tx wm nm) _ _ := hw
    have hw := hw.swap
    refine lv_icmp_eq (tgt := 710) hx hb dL_law_412 (by decide) (fun _ => ?_) (fun z => absurd (rfl) z)
    exact kk _ _ _ _ _ _ _ _ _ _ _ _ _ _ _ _ _ _ _ _ _ _ _ _ _ _ _ _ _ _ _ (J.bad) hw hl

set_option maxRecDepth 100000 in
set_option maxHeartbeats 4000000 in
theorem lw_speed {p0 : Program} {l : Launch} {g : xCfg} {e0 : Env} {s0 : State} {m0 : MethodId} {below : List Frame} {meth : Method} {c0 : Code} {A0 : Nat → Prop} {b L i K : Nat} {xs : Nat → Int32} {h : Nat → Nat} {q : Nat → Nat → Nat} {o : Nat → Nat} {Q : State → Prop} (E : xE g p0 s0 m0 #[Value.ref b] meth c0 cL_law 4 RL A0) (X : va_X b L xs s0 s0.heap ∧ b < s0.heap.size ∧ ¬ A0 b ∧ L ≤ 2560) (hi : i + 5 ≤ L) (hK : K < 2 ^ 30) (kk : LA p0 l g e0 s0 m0 below meth c0 A0 b h q o Q (K + 200) i 710) : LA p0 l g e0 s0 m0 below meth c0 A0 b h q o Q K i 417 := by
  intro bads nos fuls cau whe v fo sq nx hd cnt p ca fa od tx wo nu S pm fau isw ods w P sr wm nm H locs ls J hw hl
  have hx := E.x
  have hb := E.b
  obtain ⟨len, hlen, hl1, hl2, C, g1, R, hL1, hL, hf, hnx, hhd, hcnt, gw, e1, wL1, wL, wlen, wf, wQ, yq, hyq, hqy⟩ := J.facts sr
  by_cases hc : inL v.1 (xs (i + 1)) ∧ (0 ≤ xs (i + 2) ∧ xs (i + 2) ≤ 200)
  · obtain ⟨x, hx0, ea⟩ := inL_of hc.1 hL1 hL
    obtain ⟨m, hm, em⟩ := in_w (m := 200) (by decide) hc.2
    refine lv_aload_n hx hb dL_law_417 rfl (lv_at hl 2 rfl) ?_
    refine lv_aload_n hx hb dL_law_418 rfl (lv_at hl 3 rfl) ?_
    refine lv_iload_n hx hb dL_law_419 rfl (lv_at hl 0 rfl) ?_
    refine lv_iconst (v := 1) hx hb dL_law_420 (by decide) ?_
    refine xn_add hx hb i 1 rfl rfl dL_law_421 ?_
    refine x_scr (v := nI x) hx hb X hw.2.2 (i + 1) rfl (by omega) ea dL_law_422 ?_
    refine lv_aload_n hx hb dL_law_423 rfl (lv_at hl 3 rfl) ?_
    refine lv_iload_n hx hb dL_law_424 rfl (lv_at hl 0 rfl) ?_
    refine lv_iconst (v := 2) hx hb dL_law_425 (by decide) ?_
    refine xn_add hx hb i 2 rfl rfl dL_law_426 ?_
    refine x_scr (v := nI m) hx hb X hw.2.2 (i + 2) rfl (by omega) em dL_law_427 ?_
    refine x_goS (st1 := [.int (if nI (rtL 15 0 (smD v.2.2.1 (v.2.2.2.2.1 0) x (min (v.1 - x) (m + 1)))) < 99 then nI (rtL 15 0 (smD v.2.2.1 (v.2.2.2.2.1 0) x (min (v.1 - x) (m + 1)))) else 99)]) E hw (x_runVS (rest := []) E hw (c_X7_speed_ok l g h q bads nos fuls cau whe v fo sq nx hd cnt p ca fa od tx wo nu S x m hL (by omega) hm (n_spd g1 R hx0 hm).1 (n_spd g1 R hx0 hm).2.1 (n_spd g1 R hx0 hm).2.2) km_L_52 kv_X7_speed _ (app_r (k := 0) rfl) hl.1 rfl rfl (Nat.le_of_ble_eq_true rfl) ⟨Nat.le_of_ble_eq_true rfl, Nat.le_of_ble_eq_true rfl⟩ ⟨Nat.le_of_ble_eq_true rfl, Nat.le_of_ble_eq_true rfl⟩ dL_law_428) rfl (fun H locs hw => ?_)
    have hw : xW g A0 s0 (MW g o hd bads nos fuls cau whe cnt pm fau isw ods w P sr tx wm nm ++ CW g h q bads nos fuls cau whe v fo sq nx hd cnt p ca fa od tx wo nu S) _ _ := hw
    have hw := hw.swap
    refine lv_aload_n hx hb dL_law_431 rfl (lv_at hl 1 rfl) ?_
    refine lv_aload_n hx hb dL_law_432 rfl (lv_at hl 3 rfl) ?_
    refine lv_iload_n hx hb dL_law_433 rfl (lv_at hl 0 rfl) ?_
    refine lv_iconst (v := 1) hx hb dL_law_434 (by decide) ?_
    refine xn_add hx hb i 1 rfl rfl dL_law_435 ?_
    refine x_scr (v := nI x) hx hb X hw.2.2 (i + 1) rfl (by omega) ea dL_law_436 ?_
    refine lv_aload_n hx hb dL_law_437 rfl (lv_at hl 3 rfl) ?_
    refine lv_iload_n hx hb dL_law_438 rfl (lv_at hl 0 rfl) ?_
    refine lv_iconst (v := 2) hx hb dL_law_439 (by decide) ?_
    refine xn_add hx hb i 2 rfl rfl dL_law_440 ?_
    refine x_scr (v := nI m) hx hb X hw.2.2 (i + 2) rfl (by omega) em dL_law_441 ?_
    refine x_goS (st1 := [.int (nI (spdL w.2.2.1 (w.2.2.2.2.1 0) w.1 x m 99)), .int (if nI (rtL 15 0 (smD v.2.2.1 (v.2.2.2.2.1 0) x (min (v.1 - x) (m + 1)))) < 99 then nI (rtL 15 0 (smD v.2.2.1 (v.2.2.2.2.1 0) x (min (v.1 - x) (m + 1)))) else 99)]) E hw (x_runVS (rest := [.int (if nI (rtL 15 0 (smD v.2.2.1 (v.2.2.2.2.1 0) x (min (v.1 - x) (m + 1)))) < 99 then nI (rtL 15 0 (smD v.2.2.1 (v.2.2.2.2.1 0) x (min (v.1 - x) (m + 1)))) else 99)]) E hw (c_X8_speed_ok l g o hd bads nos fuls cau whe cnt pm fau isw ods w P sr tx wm nm x m wL (by omega) hm) km_L_55 kv_X8_speed _ (app_r (k := 0) rfl) hl.1 rfl rfl (Nat.le_of_ble_eq_true rfl) ⟨Nat.le_of_ble_eq_true rfl, Nat.le_of_ble_eq_true rfl⟩ ⟨Nat.le_of_ble_eq_true rfl, Nat.le_of_ble_eq_true rfl⟩ dL_law_442) rfl (fun H locs hw => ?_)
    have hw : xW g A0 s0 (CW g h q bads nos fuls cau whe v fo sq nx hd cnt p ca fa od tx wo nu S ++ MW g o hd bads nos fuls cau whe cnt pm fau isw ods w P sr tx wm nm) _ _ := hw
    have hw := hw.swap
    refine lv_icmp_eq (tgt := 710) hx hb dL_law_445 (by decide) (fun _ => ?_) (fun z => absurd (a_spd g1 R hx0 hm) z)
    exact kk _ _ _ _ _ _ _ _ _ _ _ _ _ _ _ _ _ _ _ _ _ _ _ _ _ _ _ _ _ _ _ (J.same) hw hl
  · refine lv_aload_n hx hb dL_law_417 rfl (lv_at hl 2 rfl) ?_
    refine lv_aload_n hx hb dL_law_418 rfl (lv_at hl 3 rfl) ?_
    refine lv_iload_n hx hb dL_law_419 rfl (lv_at hl 0 rfl) ?_
    refine lv_iconst (v := 1) hx hb dL_law_420 (by decide) ?_
    refine xn_add hx hb i 1 rfl rfl dL_law_421 ?_
    refine x_scr (v := xs (i + 1)) hx hb X hw.2.2 (i + 1) rfl (by omega) rfl dL_law_422 ?_
    refine lv_aload_n hx hb dL_law_423 rfl (lv_at hl 3 rfl) ?_
    refine lv_iload_n hx hb dL_law_424 rfl (lv_at hl 0 rfl) ?_
    refine lv_iconst (v := 2) hx hb dL_law_425 (by decide) ?_
    refine xn_add hx hb i 2 rfl rfl dL_law_426 ?_
    refine x_scr (v := xs (i + 2)) hx hb X hw.2.2 (i + 2) rfl (by omega) rfl dL_law_427 ?_
    refine x_goS (st1 := [.int (-2)]) E hw (x_runVS (rest := []) E hw (c_X7_speed_bad l g h q bads nos fuls cau whe v fo sq nx hd cnt p ca fa od tx wo nu S (xs (i + 1)) (xs (i + 2)) hL1 hc) km_L_52 kv_X7_speed _ (app_r (k := 0) rfl) hl.1 rfl rfl (Nat.le_of_ble_eq_true rfl) ⟨Nat.le_of_ble_eq_true rfl, Nat.le_of_ble_eq_true rfl⟩ ⟨Nat.le_of_ble_eq_true rfl, Nat.le_of_ble_eq_true rfl⟩ dL_law_428) rfl (fun H locs hw => ?_)
    have hw : xW g A0 s0 (MW g o hd bads nos fuls cau whe cnt pm fau isw ods w P sr tx wm nm ++ CW g h q (bads + 1) nos fuls cau whe v fo sq nx hd cnt p ca fa od tx wo nu S) _ _ := hw
    have hw := hw.swap
    refine lv_aload_n hx hb dL_law_431 rfl (lv_at hl 1 rfl) ?_
    refine lv_aload_n hx hb dL_law_432 rfl (lv_at hl 3 rfl) ?_
    refine lv_iload_n hx hb dL_law_433 rfl (lv_at hl 0 rfl) ?_
    refine lv_iconst (v := 1) hx hb dL_law_434 (by decide) ?_
    refine xn_add hx hb i 1 rfl rfl dL_law_435 ?_
    refine x_scr (v := xs (i + 1)) hx hb X hw.2.2 (i + 1) rfl (by omega) rfl dL_law_436 ?_
    refine lv_aload_n hx hb dL_law_437 rfl (lv_at hl 3 rfl) ?_
    refine lv_iload_n hx hb dL_law_438 rfl (lv_at hl 0 rfl) ?_
    refine lv_iconst (v := 2) hx hb dL_law_439 (by decide) ?_
    refine xn_add hx hb i 2 rfl rfl dL_law_440 ?_
    refine x_scr (v := xs (i + 2)) hx hb X hw.2.2 (i + 2) rfl (by omega) rfl dL_law_441 ?_
    refine x_goS (st1 := [.int (-2), .int (-2)]) E hw (x_runVS (rest := [.int (-2)]) E hw (c_X8_speed_bad l g o hd bads nos fuls cau whe cnt pm fau isw ods w P sr tx wm nm (xs (i + 1)) (xs (i + 2)) wL1 (by rw [← e1]; exact hc)) km_L_55 kv_X8_speed _ (app_r (k := 0) rfl) hl.1 rfl rfl (Nat.le_of_ble_eq_true rfl) ⟨Nat.le_of_ble_eq_true rfl, Nat.le_of_ble_eq_true rfl⟩ ⟨Nat.le_of_ble_eq_true rfl, Nat.le_of_ble_eq_true rfl⟩ dL_law_442) rfl (fun H locs hw => ?_)
    have hw : xW g A0 s0 (CW g h q (bads + 1) nos fuls cau whe v fo sq nx hd cnt p ca fa od tx wo nu S ++ MW g o hd (bads + 1) nos fuls cau whe cnt pm fau isw ods w P sr tx wm nm) _ _ := hw
    have hw := hw.swap
    refine lv_icmp_eq (tgt := 710) hx hb dL_law_445 (by decide) (fun _ => ?_) (fun z => absurd (rfl) z)
    exact kk _ _ _ _ _ _ _ _ _ _ _ _ _ _ _ _ _ _ _ _ _ _ _ _ _ _ _ _ _ _ _ (J.bad) hw hl

set_option maxRecDepth 100000 in
set_option maxHeartbeats 4000000 in
theorem lw_many {p0 : Program} {l : Launch} {g : xCfg} {e0 : Env} {s0 : State} {m0 : MethodId} {below : List Frame} {meth : Method} {c0 : Code} {A0 : Nat → Prop} {b L i K : Nat} {xs : Nat → Int32} {h : Nat → Nat} {q : Nat → Nat → Nat} {o : Nat → Nat} {Q : State → Prop} (E : xE g p0 s0 m0 #[Value.ref b] meth c0 cL_law 4 RL A0) (X : va_X b L xs s0 s0.heap ∧ b < s0.heap.size ∧ ¬ A0 b ∧ L ≤ 2560) (hi : i + 5 ≤ L) (hK : K < 2 ^ 30) (kk : LA p0 l g e0 s0 m0 below meth c0 A0 b h q o Q (K + 200) i 710) : LA p0 l g e0 s0 m0 below meth c0 A0 b h q o Q K i 450 := by
  intro bads nos fuls cau whe v fo sq nx hd cnt p ca fa od tx wo nu S pm fau isw ods w P sr wm nm H locs ls J hw hl
  have hx := E.x
  have hb := E.b
  obtain ⟨len, hlen, hl1, hl2, C, g1, R, hL1, hL, hf, hnx, hhd, hcnt, gw, e1, wL1, wL, wlen, wf, wQ, yq, hyq, hqy⟩ := J.facts sr
  by_cases hc : 0 ≤ xs (i + 1) ∧ xs (i + 1) ≤ 99
  · refine lv_aload_n hx hb dL_law_450 rfl (lv_at hl 2 rfl) ?_
    refine lv_aload_n hx hb dL_law_451 rfl (lv_at hl 3 rfl) ?_
    refine lv_iload_n hx hb dL_law_452 rfl (lv_at hl 0 rfl) ?_
    refine lv_iconst (v := 1) hx hb dL_law_453 (by decide) ?_
    refine xn_add hx hb i 1 rfl rfl dL_law_454 ?_
    refine x_scr (v := xs (i + 1)) hx hb X hw.2.2 (i + 1) rfl (by omega) rfl dL_law_455 ?_
    refine x_goS (st1 := [.int (nI (cntP sq (xs (i + 1)) v.1))]) E hw (x_runVS (rest := []) E hw (c_X7_many_ok l g h q bads nos fuls cau whe v fo sq nx hd cnt p ca fa od tx wo nu S (xs (i + 1)) hL hc.1 hc.2) km_L_56 kv_X7_many _ (app_r (k := 0) rfl) hl.1 rfl rfl (Nat.le_of_ble_eq_true rfl) ⟨Nat.le_of_ble_eq_true rfl, Nat.le_of_ble_eq_true rfl⟩ ⟨Nat.le_of_ble_eq_true rfl, Nat.le_of_ble_eq_true rfl⟩ dL_law_456) rfl (fun H locs hw => ?_)
    have hw : xW g A0 s0 (MW g o hd bads nos fuls cau whe cnt pm fau isw ods w P sr tx wm nm ++ CW g h q bads nos fuls cau whe v fo sq nx hd cnt p ca fa od tx wo nu S) _ _ := hw
    have hw := hw.swap
    refine lv_aload_n hx hb dL_law_459 rfl (lv_at hl 1 rfl) ?_
    refine lv_aload_n hx hb dL_law_460 rfl (lv_at hl 3 rfl) ?_
    refine lv_iload_n hx hb dL_law_461 rfl (lv_at hl 0 rfl) ?_
    refine lv_iconst (v := 1) hx hb dL_law_462 (by decide) ?_
    refine xn_add hx hb i 1 rfl rfl dL_law_463 ?_
    refine x_scr (v := xs (i + 1)) hx hb X hw.2.2 (i + 1) rfl (by omega) rfl dL_law_464 ?_
    refine x_goS (st1 := [.int (nI (cntP (lwQ w.2.1 w.2.2.1 (w.2.2.2.2.1 0) len w.1 0 sr) (xs (i + 1)) w.1)), .int (nI (cntP sq (xs (i + 1)) v.1))]) E hw (x_runVS (rest := [.int (nI (cntP sq (xs (i + 1)) v.1))]) E hw (c_X8_many_ok l g o hd bads nos fuls cau whe cnt pm fau isw ods w P sr tx wm nm (xs (i + 1)) len wL1 wL wlen hl1 hl2 wQ hc.1 hc.2) km_L_59 kv_X8_many _ (app_r (k := 0) rfl) hl.1 rfl rfl (Nat.le_of_ble_eq_true rfl) ⟨Nat.le_of_ble_eq_true rfl, Nat.le_of_ble_eq_true rfl⟩ ⟨Nat.le_of_ble_eq_true rfl, Nat.le_of_ble_eq_true rfl⟩ dL_law_465) rfl (fun H locs hw => ?_)
    have hw : xW g A0 s0 (CW g h q bads nos fuls cau whe v fo sq nx hd cnt p ca fa od tx wo nu S ++ MW g o hd bads nos fuls cau whe cnt pm fau isw ods w P (lwQ w.2.1 w.2.2.1 (w.2.2.2.2.1 0) len w.1 0 sr) tx wm nm) _ _ := hw
    have hw := hw.swap
    refine lv_icmp_eq (tgt := 710) hx hb dL_law_468 (by decide) (fun _ => ?_) (fun z => absurd (congrArg nI (a_many R hl1 C sr _)) z)
    exact kk _ _ _ _ _ _ _ _ _ _ _ _ _ _ _ _ _ _ _ _ _ _ _ _ _ _ _ _ _ _ _ (J.same) hw hl
  · refine lv_aload_n hx hb dL_law_450 rfl (lv_at hl 2 rfl) ?_
    refine lv_aload_n hx hb dL_law_451 rfl (lv_at hl 3 rfl) ?_
    refine lv_iload_n hx hb dL_law_452 rfl (lv_at hl 0 rfl) ?_
    refine lv_iconst (v := 1) hx hb dL_law_453 (by decide) ?_
    refine xn_add hx hb i 1 rfl rfl dL_law_454 ?_
    refine x_scr (v := xs (i + 1)) hx hb X hw.2.2 (i + 1) rfl (by omega) rfl dL_law_455 ?_
    refine x_goS (st1 := [.int (-2)]) E hw (x_runVS (rest := []) E hw (c_X7_many_bad l g h q bads nos fuls cau whe v fo sq nx hd cnt p ca fa od tx wo nu S (xs (i + 1)) hc) km_L_56 kv_X7_many _ (app_r (k := 0) rfl) hl.1 rfl rfl (Nat.le_of_ble_eq_true rfl) ⟨Nat.le_of_ble_eq_true rfl, Nat.le_of_ble_eq_true rfl⟩ ⟨Nat.le_of_ble_eq_true rfl, Nat.le_of_ble_eq_true rfl⟩ dL_law_456) rfl (fun H locs hw => ?_)
    have hw : xW g A0 s0 (MW g o hd bads nos fuls cau whe cnt pm fau isw ods w P sr tx wm nm ++ CW g h q (bads + 1) nos fuls cau whe v fo sq nx hd cnt p ca fa od tx wo nu S) _ _ := hw
    have hw := hw.swap
    refine lv_aload_n hx hb dL_law_459 rfl (lv_at hl 1 rfl) ?_
    refine lv_aload_n hx hb dL_law_460 rfl (lv_at hl 3 rfl) ?_
    refine lv_iload_n hx hb dL_law_461 rfl (lv_at hl 0 rfl) ?_
    refine lv_iconst (v := 1) hx hb dL_law_462 (by decide) ?_
    refine xn_add hx hb i 1 rfl rfl dL_law_463 ?_
    refine x_scr (v := xs (i + 1)) hx hb X hw.2.2 (i + 1) rfl (by omega) rfl dL_law_464 ?_
    refine x_goS (st1 := [.int (-2), .int (-2)]) E hw (x_runVS (rest := [.int (-2)]) E hw (c_X8_many_bad l g o hd bads nos fuls cau whe cnt pm fau isw ods w P sr tx wm nm (xs (i + 1)) hc) km_L_59 kv_X8_many _ (app_r (k := 0) rfl) hl.1 rfl rfl (Nat.le_of_ble_eq_true rfl) ⟨Nat.le_of_ble_eq_true rfl, Nat.le_of_ble_eq_true rfl⟩ ⟨Nat.le_of_ble_eq_true rfl, Nat.le_of_ble_eq_true rfl⟩ dL_law_465) rfl (fun H locs hw => ?_)
    have hw : xW g A0 s0 (CW g h q (bads + 1) nos fuls cau whe v fo sq nx hd cnt p ca fa od tx wo nu S ++ MW g o hd (bads + 1) nos fuls cau whe cnt pm fau isw ods w P sr tx wm nm) _ _ := hw
    have hw := hw.swap
    refine lv_icmp_eq (tgt := 710) hx hb dL_law_468 (by decide) (fun _ => ?_) (fun z => absurd (rfl) z)
    exact kk _ _ _ _ _ _ _ _ _ _ _ _ _ _ _ _ _ _ _ _ _ _ _ _ _ _ _ _ _ _ _ (J.bad) hw hl

set_option maxRecDepth 100000 in
set_option maxHeartbeats 4000000 in
theorem lw_places {p0 : Program} {l : Launch} {g : xCfg} {e0 : Env} {s0 : State} {m0 : MethodId} {below : List Frame} {meth : Method} {c0 : Code} {A0 : Nat → Prop} {b L i K : Nat} {xs : Nat → Int32} {h : Nat → Nat} {q : Nat → Nat → Nat} {o : Nat → Nat} {Q : State → Prop} (E : xE g p0 s0 m0 #[Value.ref b] meth c0 cL_law 4 RL A0) (X : va_X b L xs s0 s0.heap ∧ b < s0.heap.size ∧ ¬ A0 b ∧ L ≤ 2560) (hi : i + 5 ≤ L) (hK : K < 2 ^ 30) (kk : LA p0 l g e0 s0 m0 below meth c0 A0 b h q o Q (K + 200) i 710) : LA p0 l g e0 s0 m0 below meth c0 A0 b h q o Q K i 473 := by
  intro bads nos fuls cau whe v fo sq nx hd cnt p ca fa od tx wo nu S pm fau isw ods w P sr wm nm H locs ls J hw hl
  have hx := E.x
  have hb := E.b
  obtain ⟨len, hlen, hl1, hl2, C, g1, R, hL1, hL, hf, hnx, hhd, hcnt, gw, e1, wL1, wL, wlen, wf, wQ, yq, hyq, hqy⟩ := J.facts sr
  by_cases hc : inL v.1 (xs (i + 1)) ∧ (0 ≤ xs (i + 2) ∧ xs (i + 2) ≤ 99)
  · obtain ⟨x, hx0, ea⟩ := inL_of hc.1 hL1 hL
    obtain ⟨yp, yp1, yp2⟩ := sq_n hc.2.1 hc.2.2
    have eT : supT v.1 v.2.2.2.2.1 sq (plT x (xs (i + 2)) v.2.2.2.2.2) = supT w.1 w.2.2.2.2.1 (lwQ w.2.1 w.2.2.1 (w.2.2.2.2.1 0) len w.1 0 sr) (plT x (xs (i + 2)) w.2.2.2.2.2) := by rw [← R.2.2.2]; exact a_sup g1 R hl1 C sr _
    refine lv_aload_n hx hb dL_law_473 rfl (lv_at hl 2 rfl) ?_
    refine lv_aload_n hx hb dL_law_474 rfl (lv_at hl 3 rfl) ?_
    refine lv_iload_n hx hb dL_law_475 rfl (lv_at hl 0 rfl) ?_
    refine lv_iconst (v := 1) hx hb dL_law_476 (by decide) ?_
    refine xn_add hx hb i 1 rfl rfl dL_law_477 ?_
    refine x_scr (v := nI x) hx hb X hw.2.2 (i + 1) rfl (by omega) ea dL_law_478 ?_
    refine lv_aload_n hx hb dL_law_479 rfl (lv_at hl 3 rfl) ?_
    refine lv_iload_n hx hb dL_law_480 rfl (lv_at hl 0 rfl) ?_
    refine lv_iconst (v := 2) hx hb dL_law_481 (by decide) ?_
    refine xn_add hx hb i 2 rfl rfl dL_law_482 ?_
    refine x_scr (v := xs (i + 2)) hx hb X hw.2.2 (i + 2) rfl (by omega) rfl dL_law_483 ?_
    refine x_goS (st1 := [.int ((supT v.1 v.2.2.2.2.1 sq (plT x (xs (i + 2)) v.2.2.2.2.2)).2.2.1)]) E hw (x_runVS (rest := []) E hw (c_X7_places_ok l g h q bads nos fuls cau whe v fo sq nx hd cnt p ca fa od tx wo nu S x (xs (i + 2)) hL hnx hhd (by omega) hc.2.1 hc.2.2 (n_sup _ _ _ _).1 (n_sup _ _ _ _).2.1 (n_sup _ _ _ _).2.2) km_L_60 kv_X7_places _ (app_r (k := 0) rfl) hl.1 rfl rfl (Nat.le_of_ble_eq_true rfl) ⟨Nat.le_of_ble_eq_true rfl, Nat.le_of_ble_eq_true rfl⟩ ⟨Nat.le_of_ble_eq_true rfl, Nat.le_of_ble_eq_true rfl⟩ dL_law_484) rfl (fun H locs hw => ?_)
    have hw : xW g A0 s0 (MW g o hd bads nos fuls cau whe cnt pm fau isw ods w P sr tx wm nm ++ CW g h q bads nos fuls cau whe (trS (supT v.1 v.2.2.2.2.1 sq (plT x (xs (i + 2)) v.2.2.2.2.2)) v) fo sq ((nx + 1) % 7) (min 6 (hd + 1)) cnt p ca fa od tx wo nu (va_up S nx v)) _ _ := hw
    have hw := hw.swap
    refine lv_aload_n hx hb dL_law_487 rfl (lv_at hl 1 rfl) ?_
    refine lv_aload_n hx hb dL_law_488 rfl (lv_at hl 3 rfl) ?_
    refine lv_iload_n hx hb dL_law_489 rfl (lv_at hl 0 rfl) ?_
    refine lv_iconst (v := 1) hx hb dL_law_490 (by decide) ?_
    refine xn_add hx hb i 1 rfl rfl dL_law_491 ?_
    refine x_scr (v := nI x) hx hb X hw.2.2 (i + 1) rfl (by omega) ea dL_law_492 ?_
    refine lv_aload_n hx hb dL_law_493 rfl (lv_at hl 3 rfl) ?_
    refine lv_iload_n hx hb dL_law_494 rfl (lv_at hl 0 rfl) ?_
    refine lv_iconst (v := 2) hx hb dL_law_495 (by decide) ?_
    refine xn_add hx hb i 2 rfl rfl dL_law_496 ?_
    refine x_scr (v := xs (i + 2)) hx hb X hw.2.2 (i + 2) rfl (by omega) rfl dL_law_497 ?_
    refine x_goS (st1 := [.int ((supT w.1 w.2.2.2.2.1 (lwQ w.2.1 w.2.2.1 (w.2.2.2.2.1 0) len w.1 0 sr) (plT x (xs (i + 2)) w.2.2.2.2.2)).2.2.1), .int ((supT v.1 v.2.2.2.2.1 sq (plT x (xs (i + 2)) v.2.2.2.2.2)).2.2.1)]) E hw (x_runVS (rest := [.int ((supT v.1 v.2.2.2.2.1 sq (plT x (xs (i + 2)) v.2.2.2.2.2)).2.2.1)]) E hw (c_X8_places_ok l g o hd bads nos fuls cau whe cnt pm fau isw ods w P sr tx wm nm x (xs (i + 2)) len yp wL1 wL wlen hl1 hl2 wQ hhd (by omega) hc.2.1 hc.2.2 yp2 (by omega)) km_L_63 kv_X8_places _ (app_r (k := 0) rfl) hl.1 rfl rfl (Nat.le_of_ble_eq_true rfl) ⟨Nat.le_of_ble_eq_true rfl, Nat.le_of_ble_eq_true rfl⟩ ⟨Nat.le_of_ble_eq_true rfl, Nat.le_of_ble_eq_true rfl⟩ dL_law_498) rfl (fun H locs hw => ?_)
    have hw : xW g A0 s0 (CW g h q bads nos fuls cau whe (trS (supT v.1 v.2.2.2.2.1 sq (plT x (xs (i + 2)) v.2.2.2.2.2)) v) fo sq ((nx + 1) % 7) (min 6 (hd + 1)) cnt p ca fa od tx wo nu (va_up S nx v) ++ MW g o (min 6 (hd + 1)) bads nos fuls cau whe cnt pm fau isw ods (trS (supT w.1 w.2.2.2.2.1 (lwQ w.2.1 w.2.2.1 (w.2.2.2.2.1 0) len w.1 0 sr) (plT x (xs (i + 2)) w.2.2.2.2.2)) w) (ntP P hd w) (lwQ w.2.1 w.2.2.1 (w.2.2.2.2.1 0) len w.1 0 sr) tx wm nm) _ _ := hw
    have hw := hw.swap
    refine lv_icmp_eq (tgt := 710) hx hb dL_law_501 (by decide) (fun _ => ?_) (fun z => absurd (congrArg (fun z => z.2.2.1) eT) z)
    exact kk _ _ _ _ _ _ _ _ _ _ _ _ _ _ _ _ _ _ _ _ _ _ _ _ _ _ _ _ _ _ _ (J.keep (g1.pl hx0 hc.2.1 hc.2.2 sq) (R.tr eT) ⟨len, hlen, hl1, hl2, C⟩) hw hl
  · refine lv_aload_n hx hb dL_law_473 rfl (lv_at hl 2 rfl) ?_
    refine lv_aload_n hx hb dL_law_474 rfl (lv_at hl 3 rfl) ?_
    refine lv_iload_n hx hb dL_law_475 rfl (lv_at hl 0 rfl) ?_
    refine lv_iconst (v := 1) hx hb dL_law_476 (by decide) ?_
    refine xn_add hx hb i 1 rfl rfl dL_law_477 ?_
    refine x_scr (v := xs (i + 1)) hx hb X hw.2.2 (i + 1) rfl (by omega) rfl dL_law_478 ?_
    refine lv_aload_n hx hb dL_law_479 rfl (lv_at hl 3 rfl) ?_
    refine lv_iload_n hx hb dL_law_480 rfl (lv_at hl 0 rfl) ?_
    refine lv_iconst (v := 2) hx hb dL_law_481 (by decide) ?_
    refine xn_add hx hb i 2 rfl rfl dL_law_482 ?_
    refine x_scr (v := xs (i + 2)) hx hb X hw.2.2 (i + 2) rfl (by omega) rfl dL_law_483 ?_
    refine x_goS (st1 := [.int (-2)]) E hw (x_runVS (rest := []) E hw (c_X7_places_bad l g h q bads nos fuls cau whe v fo sq nx hd cnt p ca fa od tx wo nu S (xs (i + 1)) (xs (i + 2)) hL1 hL hnx hc) km_L_60 kv_X7_places _ (app_r (k := 0) rfl) hl.1 rfl rfl (Nat.le_of_ble_eq_true rfl) ⟨Nat.le_of_ble_eq_true rfl, Nat.le_of_ble_eq_true rfl⟩ ⟨Nat.le_of_ble_eq_true rfl, Nat.le_of_ble_eq_true rfl⟩ dL_law_484) rfl (fun H locs hw => ?_)
    have hw : xW g A0 s0 (MW g o hd bads nos fuls cau whe cnt pm fau isw ods w P sr tx wm nm ++ CW g h q (bads + 1) nos fuls cau whe v fo sq nx hd cnt p ca fa od tx wo nu (va_up S nx v)) _ _ := hw
    have hw := hw.swap
    refine lv_aload_n hx hb dL_law_487 rfl (lv_at hl 1 rfl) ?_
    refine lv_aload_n hx hb dL_law_488 rfl (lv_at hl 3 rfl) ?_
    refine lv_iload_n hx hb dL_law_489 rfl (lv_at hl 0 rfl) ?_
    refine lv_iconst (v := 1) hx hb dL_law_490 (by decide) ?_
    refine xn_add hx hb i 1 rfl rfl dL_law_491 ?_
    refine x_scr (v := xs (i + 1)) hx hb X hw.2.2 (i + 1) rfl (by omega) rfl dL_law_492 ?_
    refine lv_aload_n hx hb dL_law_493 rfl (lv_at hl 3 rfl) ?_
    refine lv_iload_n hx hb dL_law_494 rfl (lv_at hl 0 rfl) ?_
    refine lv_iconst (v := 2) hx hb dL_law_495 (by decide) ?_
    refine xn_add hx hb i 2 rfl rfl dL_law_496 ?_
    refine x_scr (v := xs (i + 2)) hx hb X hw.2.2 (i + 2) rfl (by omega) rfl dL_law_497 ?_
    refine x_goS (st1 := [.int (-2), .int (-2)]) E hw (x_runVS (rest := [.int (-2)]) E hw (c_X8_places_bad l g o hd bads nos fuls cau whe cnt pm fau isw ods w P sr tx wm nm (xs (i + 1)) (xs (i + 2)) wL1 (by rw [← e1]; exact hc)) km_L_63 kv_X8_places _ (app_r (k := 0) rfl) hl.1 rfl rfl (Nat.le_of_ble_eq_true rfl) ⟨Nat.le_of_ble_eq_true rfl, Nat.le_of_ble_eq_true rfl⟩ ⟨Nat.le_of_ble_eq_true rfl, Nat.le_of_ble_eq_true rfl⟩ dL_law_498) rfl (fun H locs hw => ?_)
    have hw : xW g A0 s0 (CW g h q (bads + 1) nos fuls cau whe v fo sq nx hd cnt p ca fa od tx wo nu (va_up S nx v) ++ MW g o hd (bads + 1) nos fuls cau whe cnt pm fau isw ods w P sr tx wm nm) _ _ := hw
    have hw := hw.swap
    refine lv_icmp_eq (tgt := 710) hx hb dL_law_501 (by decide) (fun _ => ?_) (fun z => absurd (rfl) z)
    exact kk _ _ _ _ _ _ _ _ _ _ _ _ _ _ _ _ _ _ _ _ _ _ _ _ _ _ _ _ _ _ _ (J.note.bad) hw hl

set_option maxRecDepth 100000 in
set_option maxHeartbeats 4000000 in
theorem lw_steps {p0 : Program} {l : Launch} {g : xCfg} {e0 : Env} {s0 : State} {m0 : MethodId} {below : List Frame} {meth : Method} {c0 : Code} {A0 : Nat → Prop} {b L i K : Nat} {xs : Nat → Int32} {h : Nat → Nat} {q : Nat → Nat → Nat} {o : Nat → Nat} {Q : State → Prop} (E : xE g p0 s0 m0 #[Value.ref b] meth c0 cL_law 4 RL A0) (X : va_X b L xs s0 s0.heap ∧ b < s0.heap.size ∧ ¬ A0 b ∧ L ≤ 2560) (hi : i + 5 ≤ L) (hK : K < 2 ^ 30) (kk : LA p0 l g e0 s0 m0 below meth c0 A0 b h q o Q (K + 200) i 710) : LA p0 l g e0 s0 m0 below meth c0 A0 b h q o Q K i 506 := by
  intro bads nos fuls cau whe v fo sq nx hd cnt p ca fa od tx wo nu S pm fau isw ods w P sr wm nm H locs ls J hw hl
  have hx := E.x
  have hb := E.b
  obtain ⟨len, hlen, hl1, hl2, C, g1, R, hL1, hL, hf, hnx, hhd, hcnt, gw, e1, wL1, wL, wlen, wf, wQ, yq, hyq, hqy⟩ := J.facts sr
  by_cases hc : -1 ≤ xs (i + 1) ∧ xs (i + 1) ≤ 1
  · obtain ⟨yp, yp1, yp2⟩ := nq_r (hd := xs (i + 1)) gw.1.2.2.2 (fun x hx => (gw.1.2.2.1 x hx).2.1) wL gw.2.1
    refine lv_aload_n hx hb dL_law_506 rfl (lv_at hl 2 rfl) ?_
    refine lv_aload_n hx hb dL_law_507 rfl (lv_at hl 3 rfl) ?_
    refine lv_iload_n hx hb dL_law_508 rfl (lv_at hl 0 rfl) ?_
    refine lv_iconst (v := 1) hx hb dL_law_509 (by decide) ?_
    refine xn_add hx hb i 1 rfl rfl dL_law_510 ?_
    refine x_scr (v := xs (i + 1)) hx hb X hw.2.2 (i + 1) rfl (by omega) rfl dL_law_511 ?_
    refine x_goS (st1 := [.int (bI (stpP v.1 v.2.2.1 v.2.2.2.2.1 (xs (i + 1)) v.2.2.2.2.2))]) E hw (x_runVS (rest := []) E hw (c_X7_steps_ok l g h q bads nos fuls cau whe v fo sq nx hd cnt p ca fa od tx wo nu S (xs (i + 1)) hL hf hnx hhd hc.1 hc.2) km_L_64 kv_X7_steps _ (app_r (k := 0) rfl) hl.1 rfl rfl (Nat.le_of_ble_eq_true rfl) ⟨Nat.le_of_ble_eq_true rfl, Nat.le_of_ble_eq_true rfl⟩ ⟨Nat.le_of_ble_eq_true rfl, Nat.le_of_ble_eq_true rfl⟩ dL_law_512) rfl (fun H locs hw => ?_)
    have hw : xW g A0 s0 (MW g o hd bads nos fuls cau whe cnt pm fau isw ods w P sr tx wm nm ++ CW g h q bads nos fuls cau whe (trS (stpT v.1 v.2.2.1 v.2.2.2.1 v.2.2.2.2.1 sq (xs (i + 1)) v.2.2.2.2.2) v) fo sq ((nx + 1) % 7) (min 6 (hd + 1)) cnt p ca fa od tx wo nu (va_up S nx v)) _ _ := hw
    have hw := hw.swap
    refine lv_aload_n hx hb dL_law_515 rfl (lv_at hl 1 rfl) ?_
    refine lv_aload_n hx hb dL_law_516 rfl (lv_at hl 3 rfl) ?_
    refine lv_iload_n hx hb dL_law_517 rfl (lv_at hl 0 rfl) ?_
    refine lv_iconst (v := 1) hx hb dL_law_518 (by decide) ?_
    refine xn_add hx hb i 1 rfl rfl dL_law_519 ?_
    refine x_scr (v := xs (i + 1)) hx hb X hw.2.2 (i + 1) rfl (by omega) rfl dL_law_520 ?_
    refine x_goS (st1 := [.int (bI (stpP w.1 w.2.2.1 w.2.2.2.2.1 (xs (i + 1)) w.2.2.2.2.2)), .int (bI (stpP v.1 v.2.2.1 v.2.2.2.2.1 (xs (i + 1)) v.2.2.2.2.2))]) E hw (x_runVS (rest := [.int (bI (stpP v.1 v.2.2.1 v.2.2.2.2.1 (xs (i + 1)) v.2.2.2.2.2))]) E hw (c_X8_steps_ok l g o hd bads nos fuls cau whe cnt pm fau isw ods w P sr tx wm nm (xs (i + 1)) len yp wL1 wL wlen hl1 hl2 wQ hhd wf hc.1 hc.2 yp2 (by omega)) km_L_67 kv_X8_steps _ (app_r (k := 0) rfl) hl.1 rfl rfl (Nat.le_of_ble_eq_true rfl) ⟨Nat.le_of_ble_eq_true rfl, Nat.le_of_ble_eq_true rfl⟩ ⟨Nat.le_of_ble_eq_true rfl, Nat.le_of_ble_eq_true rfl⟩ dL_law_521) rfl (fun H locs hw => ?_)
    have hw : xW g A0 s0 (CW g h q bads nos fuls cau whe (trS (stpT v.1 v.2.2.1 v.2.2.2.1 v.2.2.2.2.1 sq (xs (i + 1)) v.2.2.2.2.2) v) fo sq ((nx + 1) % 7) (min 6 (hd + 1)) cnt p ca fa od tx wo nu (va_up S nx v) ++ MW g o (min 6 (hd + 1)) bads nos fuls cau whe cnt pm fau isw ods (trS (stpT w.1 w.2.2.1 w.2.2.2.1 w.2.2.2.2.1 (lwQ w.2.1 w.2.2.1 (w.2.2.2.2.1 0) len w.1 0 sr) (xs (i + 1)) w.2.2.2.2.2) w) (ntP P hd w) (if w.2.2.2.2.2.2.2.1 = 3 then sr else lwQ w.2.1 w.2.2.1 (w.2.2.2.2.1 0) len w.1 0 sr) tx wm nm) _ _ := hw
    have hw := hw.swap
    refine lv_icmp_eq (tgt := 710) hx hb dL_law_524 (by decide) (fun _ => ?_) (fun z => absurd (a_stpP g1 R _) z)
    exact kk _ _ _ _ _ _ _ _ _ _ _ _ _ _ _ _ _ _ _ _ _ _ _ _ _ _ _ _ _ _ _ (J.keep (g1.stp sq _) (R.tr (a_stp g1 R hl1 C sr _)) ⟨len, hlen, hl1, hl2, C⟩) hw hl
  · refine lv_aload_n hx hb dL_law_506 rfl (lv_at hl 2 rfl) ?_
    refine lv_aload_n hx hb dL_law_507 rfl (lv_at hl 3 rfl) ?_
    refine lv_iload_n hx hb dL_law_508 rfl (lv_at hl 0 rfl) ?_
    refine lv_iconst (v := 1) hx hb dL_law_509 (by decide) ?_
    refine xn_add hx hb i 1 rfl rfl dL_law_510 ?_
    refine x_scr (v := xs (i + 1)) hx hb X hw.2.2 (i + 1) rfl (by omega) rfl dL_law_511 ?_
    refine x_goS (st1 := [.int (-2)]) E hw (x_runVS (rest := []) E hw (c_X7_steps_bad l g h q bads nos fuls cau whe v fo sq nx hd cnt p ca fa od tx wo nu S (xs (i + 1)) hnx hc) km_L_64 kv_X7_steps _ (app_r (k := 0) rfl) hl.1 rfl rfl (Nat.le_of_ble_eq_true rfl) ⟨Nat.le_of_ble_eq_true rfl, Nat.le_of_ble_eq_true rfl⟩ ⟨Nat.le_of_ble_eq_true rfl, Nat.le_of_ble_eq_true rfl⟩ dL_law_512) rfl (fun H locs hw => ?_)
    have hw : xW g A0 s0 (MW g o hd bads nos fuls cau whe cnt pm fau isw ods w P sr tx wm nm ++ CW g h q (bads + 1) nos fuls cau whe v fo sq nx hd cnt p ca fa od tx wo nu (va_up S nx v)) _ _ := hw
    have hw := hw.swap
    refine lv_aload_n hx hb dL_law_515 rfl (lv_at hl 1 rfl) ?_
    refine lv_aload_n hx hb dL_law_516 rfl (lv_at hl 3 rfl) ?_
    refine lv_iload_n hx hb dL_law_517 rfl (lv_at hl 0 rfl) ?_
    refine lv_iconst (v := 1) hx hb dL_law_518 (by decide) ?_
    refine xn_add hx hb i 1 rfl rfl dL_law_519 ?_
    refine x_scr (v := xs (i + 1)) hx hb X hw.2.2 (i + 1) rfl (by omega) rfl dL_law_520 ?_
    refine x_goS (st1 := [.int (-2), .int (-2)]) E hw (x_runVS (rest := [.int (-2)]) E hw (c_X8_steps_bad l g o hd bads nos fuls cau whe cnt pm fau isw ods w P sr tx wm nm (xs (i + 1)) hc) km_L_67 kv_X8_steps _ (app_r (k := 0) rfl) hl.1 rfl rfl (Nat.le_of_ble_eq_true rfl) ⟨Nat.le_of_ble_eq_true rfl, Nat.le_of_ble_eq_true rfl⟩ ⟨Nat.le_of_ble_eq_true rfl, Nat.le_of_ble_eq_true rfl⟩ dL_law_521) rfl (fun H locs hw => ?_)
    have hw : xW g A0 s0 (CW g h q (bads + 1) nos fuls cau whe v fo sq nx hd cnt p ca fa od tx wo nu (va_up S nx v) ++ MW g o hd (bads + 1) nos fuls cau whe cnt pm fau isw ods w P sr tx wm nm) _ _ := hw
    have hw := hw.swap
    refine lv_icmp_eq (tgt := 710) hx hb dL_law_524 (by decide) (fun _ => ?_) (fun z => absurd (rfl) z)
    exact kk _ _ _ _ _ _ _ _ _ _ _ _ _ _ _ _ _ _ _ _ _ _ _ _ _ _ _ _ _ _ _ (J.note.bad) hw hl
