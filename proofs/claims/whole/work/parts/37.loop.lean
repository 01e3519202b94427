/-! THE CLAIM OUT OF ONE WALK OF THE LAW'S BODY. Your part is whole_start (and what it stands on); all else here is the same for every law, but numbers. -/
def R_law : String := "SpeedWardenLaw"
def lw_P (b : Addr) (xs : List Int32) (args : Array Value) (s : State) : Prop := args = #[.ref b] ∧ s.IntsAt b xs ∧ xs.length ≤ 2560 ∧ (Jvm.Cond.and given_1 narrow_1).before args s = true
def lw_Q (_ : Array Value) (s : State) (o : Outcome) (t : State) : Prop := o = .returned (some (.int 1)) ∧ Framed s o t [] 600000 7302250
def lw_Z (below : List Frame) (a : Array Value) (s : State) : State → Prop := fun t => ∃ o, t.status = .running ∧ Ended t below o ∧ lw_Q a s o t
/-- the law's own end, with 1 on the stack, nothing written that was there before, its room as the claim has it -/
theorem lw_ret {p : Program} {l : Launch} {e : Env} {s : State} {m : MethodId} {below : List Frame} {meth : Method} {c : Code} {b : Nat} (hx : p.tables.exec = Jvm.exec) (hb : c.code = code) (hr : meth.sig.returnType = ret) (hlocks : meth.locks = false) {pc : Nat} {H : Heap} {ls : Array Slot} (hdg : decode code pc = .ok (.ireturn, 1)) : W p l e room_1 s m #[Value.ref b] below meth c H [] 600000 7302250 (lw_Z below #[Value.ref b] s) (F0 m pc ls [.int 1]) := by
  intro T hT X
  obtain ⟨fs, hret, hrun, hended, hW, hframe⟩ := X.leave (v := some (.int 1)) (hlocks := hlocks) (fun h => by rw [hr] at h; cases h)
  have hmeth' : T.vm.method? m = some meth := X.method'
  refine ⟨T.setFrames fs, ?_, .returned (some (.int 1)), hrun, hended, rfl, ⟨_, rfl⟩, hW, hframe⟩
  jvm_step X.here [X.here.top, hx, hb, hdg, hmeth', hr, ret, narrow_b1]
  (try refine ⟨rfl, ?_⟩); (try refine ⟨rfl, ?_⟩)
  first | (intro acts; rw [hret _ acts rfl rfl rfl]) | rw [hret _ _ rfl rfl rfl]
  exact Steps.refl _
/-- what holds at the law's entry: the machine, the code, the tables' words (any of lw_tbl by 'hts w (by decide +kernel)'), the script of L ints xs at the cell b, what the Statement gives of the start (any of its parts by flat_of_before) -/
def lw_At (p : Program) (s : State) (m : MethodId) (meth : Method) (c : Code) (b L : Nat) (xs : Nat → Int32) : Prop :=
  p.tables.exec = Jvm.exec ∧ c.code = code ∧ meth.sig.returnType = ret ∧ c.maxLocals = 4 ∧ s.vm.findClass R_law = some m.cls ∧ (∀ w ∈ lw_tbl, w.before #[Value.ref b] s = true) ∧ va_X b L xs s s.heap ∧ b < s.heap.size ∧ meth.locks = false ∧ (Jvm.Cond.and given_1 narrow_1).before #[Value.ref b] s = true
theorem lw_five {i L : Nat} (hi : i ≤ 2560) (hL : L ≤ 2560) (h : ¬ Int32.ofNat L - 5 < nI i) : i + 5 ≤ L := by
  have e5 : (5 : Int32).toInt = 5 := by decide
  have eL : (Int32.ofNat L).toInt = (L : Int) := nI_toInt (n := L) (by omega)
  have h1 : (Int32.ofNat L - 5).toInt = (L : Int) - 5 := by
    rw [Int32.toInt_sub, e5, eL]
    apply Int.bmod_eq_of_le <;> omega
  have h2 := Int32.le_iff_toInt_le.mp (Int32.not_lt.mp h)
  rw [h1, nI_toInt (by omega)] at h2
  omega
set_option maxRecDepth 100000 in
set_option maxHeartbeats 4000000 in
theorem law_loop {p0 : Program} {l : Launch} {g : xCfg} {e0 : Env} {s0 : State} {m0 : MethodId} {below : List Frame} {meth : Method} {c0 : Code} {b L : Nat} {xs : Nat → Int32} {h : Nat → Nat} {q : Nat → Nat → Nat} {o : Nat → Nat} (E : xE g p0 s0 m0 #[Value.ref b] meth c0 cL_law 4 RL (fun q : Nat => s0.heap.size ≤ q)) (hr : meth.sig.returnType = ret) (X : va_X b L xs s0 s0.heap ∧ b < s0.heap.size ∧ ¬ (fun q : Nat => s0.heap.size ≤ q) b ∧ L ≤ 2560) :
    ∀ (n i K : Nat), i ≤ L → L + 1 ≤ i + n → K + 200 * n < 2 ^ 30 → LA p0 l g e0 s0 m0 below meth c0 (fun q : Nat => s0.heap.size ≤ q) b h q o (lw_Z below #[Value.ref b] s0) K i 18
  | 0, i, K, h1, h2, _ => absurd h2 (by omega)
  | n + 1, i, K, h1, h2, h3 => by
    have hx := E.x
    have hb := E.b
    have hL := X.2.2.2
    intro bads nos fuls cau whe v fo sq nx hd cnt p ca fa od tx wo nu S pm fau isw ods w P sr wm nm H locs ls J hw hl
    refine lv_iload_n hx hb dL_law_18 rfl (lv_at hl 0 rfl) ?_
    refine lv_aload_n hx hb dL_law_19 rfl (lv_at hl 3 rfl) ?_
    refine va_slen hx hb X.1 X.2.1 X.2.2.1 hw.2.2 dL_law_20 ?_
    refine lv_iconst (v := 5) hx hb dL_law_21 (by decide) ?_
    refine lv_isub hx hb dL_law_22 ?_
    refine lv_icmp_gt (tgt := 716) hx hb dL_law_23 (by decide) (fun _ => ?_) (fun cc => ?_)
    · refine lv_iconst (v := 1) hx hb dL_law_716 (by decide) ?_
      refine va_forget (fun q hq => hw.2.2.2.2 q hq) ?_
      refine W.widen (k := 600000) (n := 7302250) (Nat.le_of_ble_eq_true rfl) (Nat.le_of_ble_eq_true rfl) ?_
      exact lw_ret hx hb hr E.2.1 dL_law_717
    have hi : i + 5 ≤ L := lw_five (by omega) hL cc
    have hK : K < 2 ^ 30 := by omega
    have kk : LA p0 l g e0 s0 m0 below meth c0 (fun q : Nat => s0.heap.size ≤ q) b h q o (lw_Z below #[Value.ref b] s0) (K + 200) i 710 := by
      intro bads nos fuls cau whe v fo sq nx hd cnt p ca fa od tx wo nu S pm fau isw ods w P sr wm nm H locs ls J hw hl
      refine lv_iinc (v := nI (i + 5)) (lv' := [(3, .int (nI (i + 5))), (2, .ref (o 0)), (1, .ref (h 17)), (0, .ref b)]) hx hb dL_law_710 hl (k := 0) rfl (nI_add i 5) (by decide) rfl (fun ls hl => ?_)
      refine lv_goto (tgt := 18) hx hb dL_law_713 (by decide) ?_
      exact law_loop E hr X n (i + 5) (K + 200) hi (by omega) (by omega) _ _ _ _ _ _ _ _ _ _ _ _ _ _ _ _ _ _ _ _ _ _ _ _ _ _ _ _ _ _ _ J hw hl
    refine lv_aload_n hx hb dL_law_26 rfl (lv_at hl 3 rfl) ?_
    refine lv_iload_n hx hb dL_law_27 rfl (lv_at hl 0 rfl) ?_
    refine x_scr (v := xs i) hx hb X hw.2.2 i rfl (by omega) rfl dL_law_28 ?_
    refine lv_bipush (v := 31) hx hb dL_law_29 (by decide) ?_
    refine lv_iand hx hb dL_law_31 ?_
    generalize xs i &&& 31 = y
    by_cases s_0 : y = 0
    · refine x_sw (v := 0) (off := 108) (tgt := 140) hx hb dL_law_32 s_0 (by decide) (by decide) (by decide) (by decide) ?_
      exact lw_lengthens E X hi hK kk _ _ _ _ _ _ _ _ _ _ _ _ _ _ _ _ _ _ _ _ _ _ _ _ _ _ _ _ _ _ _ J hw hl
    by_cases s_1 : y = 1
    · refine x_sw (v := 1) (off := 131) (tgt := 163) hx hb dL_law_32 s_1 (by decide) (by decide) (by decide) (by decide) ?_
      exact lw_lays E X hi hK kk _ _ _ _ _ _ _ _ _ _ _ _ _ _ _ _ _ _ _ _ _ _ _ _ _ _ _ _ _ _ _ J hw hl
    by_cases s_2 : y = 2
    · refine x_sw (v := 2) (off := 184) (tgt := 216) hx hb dL_law_32 s_2 (by decide) (by decide) (by decide) (by decide) ?_
      exact lw_beacon E X hi hK kk _ _ _ _ _ _ _ _ _ _ _ _ _ _ _ _ _ _ _ _ _ _ _ _ _ _ _ _ _ _ _ J hw hl
    by_cases s_3 : y = 3
    · refine x_sw (v := 3) (off := 217) (tgt := 249) hx hb dL_law_32 s_3 (by decide) (by decide) (by decide) (by decide) ?_
      exact lw_sets E X hi hK kk _ _ _ _ _ _ _ _ _ _ _ _ _ _ _ _ _ _ _ _ _ _ _ _ _ _ _ _ _ _ _ J hw hl
    by_cases s_4 : y = 4
    · refine x_sw (v := 4) (off := 250) (tgt := 282) hx hb dL_law_32 s_4 (by decide) (by decide) (by decide) (by decide) ?_
      exact lw_cell E X hi hK kk _ _ _ _ _ _ _ _ _ _ _ _ _ _ _ _ _ _ _ _ _ _ _ _ _ _ _ _ _ _ _ J hw hl
    by_cases s_5 : y = 5
    · refine x_sw (v := 5) (off := 283) (tgt := 315) hx hb dL_law_32 s_5 (by decide) (by decide) (by decide) (by decide) ?_
      exact lw_lawful E X hi hK kk _ _ _ _ _ _ _ _ _ _ _ _ _ _ _ _ _ _ _ _ _ _ _ _ _ _ _ _ _ _ _ J hw hl
    by_cases s_6 : y = 6
    · refine x_sw (v := 6) (off := 306) (tgt := 338) hx hb dL_law_32 s_6 (by decide) (by decide) (by decide) (by decide) ?_
      exact lw_permitted E X hi hK kk _ _ _ _ _ _ _ _ _ _ _ _ _ _ _ _ _ _ _ _ _ _ _ _ _ _ _ _ _ _ _ J hw hl
    by_cases s_7 : y = 7
    · refine x_sw (v := 7) (off := 329) (tgt := 361) hx hb dL_law_32 s_7 (by decide) (by decide) (by decide) (by decide) ?_
      exact lw_bound E X hi hK kk _ _ _ _ _ _ _ _ _ _ _ _ _ _ _ _ _ _ _ _ _ _ _ _ _ _ _ _ _ _ _ J hw hl
    by_cases s_8 : y = 8
    · refine x_sw (v := 8) (off := 352) (tgt := 384) hx hb dL_law_32 s_8 (by decide) (by decide) (by decide) (by decide) ?_
      exact lw_stands E X hi hK kk _ _ _ _ _ _ _ _ _ _ _ _ _ _ _ _ _ _ _ _ _ _ _ _ _ _ _ _ _ _ _ J hw hl
    by_cases s_9 : y = 9
    · refine x_sw (v := 9) (off := 385) (tgt := 417) hx hb dL_law_32 s_9 (by decide) (by decide) (by decide) (by decide) ?_
      exact lw_speed E X hi hK kk _ _ _ _ _ _ _ _ _ _ _ _ _ _ _ _ _ _ _ _ _ _ _ _ _ _ _ _ _ _ _ J hw hl
    by_cases s_10 : y = 10
    · refine x_sw (v := 10) (off := 418) (tgt := 450) hx hb dL_law_32 s_10 (by decide) (by decide) (by decide) (by decide) ?_
      exact lw_many E X hi hK kk _ _ _ _ _ _ _ _ _ _ _ _ _ _ _ _ _ _ _ _ _ _ _ _ _ _ _ _ _ _ _ J hw hl
    by_cases s_11 : y = 11
    · refine x_sw (v := 11) (off := 441) (tgt := 473) hx hb dL_law_32 s_11 (by decide) (by decide) (by decide) (by decide) ?_
      exact lw_places E X hi hK kk _ _ _ _ _ _ _ _ _ _ _ _ _ _ _ _ _ _ _ _ _ _ _ _ _ _ _ _ _ _ _ J hw hl
    by_cases s_12 : y = 12
    · refine x_sw (v := 12) (off := 474) (tgt := 506) hx hb dL_law_32 s_12 (by decide) (by decide) (by decide) (by decide) ?_
      exact lw_steps E X hi hK kk _ _ _ _ _ _ _ _ _ _ _ _ _ _ _ _ _ _ _ _ _ _ _ _ _ _ _ _ _ _ _ J hw hl
    by_cases s_13 : y = 13
    · refine x_sw (v := 13) (off := 497) (tgt := 529) hx hb dL_law_32 s_13 (by decide) (by decide) (by decide) (by decide) ?_
      exact lw_drives E X hi hK kk _ _ _ _ _ _ _ _ _ _ _ _ _ _ _ _ _ _ _ _ _ _ _ _ _ _ _ _ _ _ _ J hw hl
    by_cases s_14 : y = 14
    · refine x_sw (v := 14) (off := 520) (tgt := 552) hx hb dL_law_32 s_14 (by decide) (by decide) (by decide) (by decide) ?_
      exact lw_frees E X hi hK kk _ _ _ _ _ _ _ _ _ _ _ _ _ _ _ _ _ _ _ _ _ _ _ _ _ _ _ _ _ _ _ J hw hl
    by_cases s_15 : y = 15
    · refine x_sw (v := 15) (off := 533) (tgt := 565) hx hb dL_law_32 s_15 (by decide) (by decide) (by decide) (by decide) ?_
      exact lw_train E X hi hK kk _ _ _ _ _ _ _ _ _ _ _ _ _ _ _ _ _ _ _ _ _ _ _ _ _ _ _ _ _ _ _ J hw hl
    by_cases s_16 : y = 16
    · refine x_sw (v := 16) (off := 556) (tgt := 588) hx hb dL_law_32 s_16 (by decide) (by decide) (by decide) (by decide) ?_
      exact lw_type E X hi hK kk _ _ _ _ _ _ _ _ _ _ _ _ _ _ _ _ _ _ _ _ _ _ _ _ _ _ _ _ _ _ _ J hw hl
    by_cases s_17 : y = 17
    · refine x_sw (v := 17) (off := 579) (tgt := 611) hx hb dL_law_32 s_17 (by decide) (by decide) (by decide) (by decide) ?_
      exact lw_clear E X hi hK kk _ _ _ _ _ _ _ _ _ _ _ _ _ _ _ _ _ _ _ _ _ _ _ _ _ _ _ _ _ _ _ J hw hl
    by_cases s_18 : y = 18
    · refine x_sw (v := 18) (off := 592) (tgt := 624) hx hb dL_law_32 s_18 (by decide) (by decide) (by decide) (by decide) ?_
      exact lw_does E X hi hK kk _ _ _ _ _ _ _ _ _ _ _ _ _ _ _ _ _ _ _ _ _ _ _ _ _ _ _ _ _ _ _ J hw hl
    by_cases s_19 : y = 19
    · refine x_sw (v := 19) (off := 605) (tgt := 637) hx hb dL_law_32 s_19 (by decide) (by decide) (by decide) (by decide) ?_
      exact lw_why E X hi hK kk _ _ _ _ _ _ _ _ _ _ _ _ _ _ _ _ _ _ _ _ _ _ _ _ _ _ _ _ _ _ _ J hw hl
    by_cases s_20 : y = 20
    · refine x_sw (v := 20) (off := 628) (tgt := 660) hx hb dL_law_32 s_20 (by decide) (by decide) (by decide) (by decide) ?_
      exact lw_back E X hi hK kk _ _ _ _ _ _ _ _ _ _ _ _ _ _ _ _ _ _ _ _ _ _ _ _ _ _ _ _ _ _ _ J hw hl
    by_cases s_21 : y = 21
    · refine x_sw (v := 21) (off := 641) (tgt := 673) hx hb dL_law_32 s_21 (by decide) (by decide) (by decide) (by decide) ?_
      exact lw_told E X hi hK kk _ _ _ _ _ _ _ _ _ _ _ _ _ _ _ _ _ _ _ _ _ _ _ _ _ _ _ _ _ _ _ J hw hl
    by_cases s_22 : y = 22
    · refine x_sw (v := 22) (off := 664) (tgt := 696) hx hb dL_law_32 s_22 (by decide) (by decide) (by decide) (by decide) ?_
      exact lw_digest E X hi hK kk _ _ _ _ _ _ _ _ _ _ _ _ _ _ _ _ _ _ _ _ _ _ _ _ _ _ _ _ _ _ _ J hw hl
    refine lv_tableOut (tgt := 710) hx hb dL_law_32 (x_out 23 (by decide) (by decide) (by intro q hq; match q, hq with | 0, _ => exact s_0 | 1, _ => exact s_1 | 2, _ => exact s_2 | 3, _ => exact s_3 | 4, _ => exact s_4 | 5, _ => exact s_5 | 6, _ => exact s_6 | 7, _ => exact s_7 | 8, _ => exact s_8 | 9, _ => exact s_9 | 10, _ => exact s_10 | 11, _ => exact s_11 | 12, _ => exact s_12 | 13, _ => exact s_13 | 14, _ => exact s_14 | 15, _ => exact s_15 | 16, _ => exact s_16 | 17, _ => exact s_17 | 18, _ => exact s_18 | 19, _ => exact s_19 | 20, _ => exact s_20 | 21, _ => exact s_21 | 22, _ => exact s_22 | q + 23, hq => omega)) (by decide) ?_
    exact kk _ _ _ _ _ _ _ _ _ _ _ _ _ _ _ _ _ _ _ _ _ _ _ _ _ _ _ _ _ _ _ J.same hw hl
theorem J_0 : JJ 0 0 0 0 0 (-1) v0 (foOf v0 1 (fun _ => 0)) (sqOf v0 1 (fun _ => 0) (fun _ => 0)) 0 0 0 (fun _ => v0) v8 (fun _ => z8) := by
  refine ⟨⟨⟨by decide, by decide, fun x hx => ⟨?_, ⟨20, by omega, rfl⟩, ⟨0, by omega, rfl⟩⟩, by decide +kernel⟩, ⟨by decide, 0, by decide, rfl⟩, ⟨0, by omega, rfl⟩, ⟨0, Nat.zero_le _, rfl⟩, ⟨0, Nat.zero_le _, rfl⟩, ⟨0, by omega, rfl⟩, ⟨0, by omega, rfl⟩, ⟨0, by omega, rfl⟩⟩, ⟨rfl, fun x hx => ⟨?_, rfl, rfl⟩, by decide +kernel, rfl⟩, ⟨1, rfl, by omega, by omega, cv_new v0 (by omega) _ _⟩, by omega, by omega, by omega, fun i hi => absurd hi (by omega), ⟨⟨0, by omega, rfl⟩, ⟨0, by omega, rfl⟩, ⟨0, by omega, rfl⟩⟩, ⟨0, by omega, rfl⟩, Or.inl rfl⟩
  · exact ⟨40, by omega, if_pos hx⟩
  · have hx : x < 100 := hx
    show (if x < 100 then 40 else 0 : Int32) = if x < 200 then 40 else 0
    rw [if_pos hx, if_pos (by omega)]
set_option maxRecDepth 100000 in
set_option maxHeartbeats 4000000 in
theorem whole_start {p : Program} {e : Env} {s : State} {m : MethodId} {below : List Frame} {meth : Method} {c : Code} (l : Launch) (hflags : l.flags = flags0) {b L : Nat} {xs : Nat → Int32} (hL : L ≤ 2560) (C0 : lw_At p s m meth c b L xs) : W p l e room_1 s m #[Value.ref b] below meth c s.heap [] 0 0 (lw_Z below #[Value.ref b] s) (entryFrame m ([Value.ref b] : List Value).toArray 4) := by
  obtain ⟨hx, hb, hr, hml, hown, hts, hX, hbl, hlocks, hgv⟩ := C0
  obtain ⟨g, hK, hG⟩ := xg_init hts hgv
  have E : xE g p s m #[Value.ref b] meth c cL_law 4 RL (fun q : Nat => s.heap.size ≤ q) := ⟨⟨hx, hb, hml, hown, fun w hw => hts w (List.mem_filter.mp hw).1⟩, hlocks, fun _ h => h, hK, hG⟩
  have hw : xW g (fun q : Nat => s.heap.size ≤ q) s [] s.heap [] := ⟨fun k q h => by simp at h, ⟨fun i j p q h => by simp at h, fun k q h => by simp at h⟩, va_S.rf⟩
  have hl := lv_entry ([.ref b]) (n := 4) (Nat.le_of_ble_eq_true rfl)
  rw [lg_entry_eq]
  generalize (lg_sl ([.ref b]) ++ List.replicate (4 - (lg_sl ([.ref b])).length) Slot.unset).toArray = ls at hl ⊢
  have hl : lv_has ls 4 [(0, .ref b)] := hl
  refine x_new (fs := [.null, .null, .null, .int 0, .int 0, .int 0, .int 0, .int 0]) E hw kn_L_7 (fun j hj => by match j, hj with | 0, _ => rfl | 1, _ => rfl | 2, _ => rfl | 3, _ => rfl | 4, _ => rfl | 5, _ => rfl | 6, _ => rfl | 7, _ => rfl | k + 8, hk => exact absurd hk (by omega)) (Nat.le_of_ble_eq_true rfl) (Nat.le_of_ble_eq_true rfl) (fun _ => rfl) dL_law_0 (fun a1 H hw => ?_)
  have hw : xW g (fun q : Nat => s.heap.size ≤ q) s ([] ++ [(a1, .inr (7, [.null, .null, .null, .int 0, .int 0, .int 0, .int 0, .int 0]))]) _ _ := hw
  refine lv_dup hx hb dL_law_3 rfl ?_
  refine x_goSP (wr := []) (wc := [(a1, .inr (7, [.null, .null, .null, .int 0, .int 0, .int 0, .int 0, .int 0]))]) (rest := [.ref a1]) E hw (x_runIS (wr := []) (As := []) (rest := [.ref a1]) E hw (c_X7_init l g a1) km_L_9 ki_X7_init rfl hl.1 rfl rfl (Nat.le_of_ble_eq_true rfl) ⟨Nat.le_of_ble_eq_true rfl, Nat.le_of_ble_eq_true rfl⟩ ⟨Nat.le_of_ble_eq_true rfl, Nat.le_of_ble_eq_true rfl⟩ dL_law_4) (fun rv w1 H locs hp hw => ?_)
  obtain ⟨rfl, h, q, rfl, rfl⟩ := hp
  have hw : xW g (fun q : Nat => s.heap.size ≤ q) s (CW g h q 0 0 0 0 (-1) v0 (foOf v0 1 (fun _ => 0)) (sqOf v0 1 (fun _ => 0) (fun _ => 0)) 0 0 0 0 0 0 0 (fun _ => 0) (fun _ => 0) (fun _ => 0) (fun _ => v0)) _ _ := hw
  refine lv_astore_n (lv' := [(1, .ref (h 17)), (0, .ref b)]) hx hb dL_law_7 rfl hl (by decide) rfl (fun ls hl => ?_)
  refine x_new (fs := [.null, .null, .int 0, .int 0, .int 0, .int 0, .int 0, .int 0, .null, .null, .int 0, .int 0, .int 0, .int 0, .int 0, .null, .null]) (ws' := CW g h q 0 0 0 0 (-1) v0 (foOf v0 1 (fun _ => 0)) (sqOf v0 1 (fun _ => 0) (fun _ => 0)) 0 0 0 0 0 0 0 (fun _ => 0) (fun _ => 0) (fun _ => 0) (fun _ => v0)) E hw kn_L_10 (fun j hj => by match j, hj with | 0, _ => rfl | 1, _ => rfl | 2, _ => rfl | 3, _ => rfl | 4, _ => rfl | 5, _ => rfl | 6, _ => rfl | 7, _ => rfl | 8, _ => rfl | 9, _ => rfl | 10, _ => rfl | 11, _ => rfl | 12, _ => rfl | 13, _ => rfl | 14, _ => rfl | 15, _ => rfl | 16, _ => rfl | k + 17, hk => exact absurd hk (by omega)) (Nat.le_of_ble_eq_true rfl) (Nat.le_of_ble_eq_true rfl) (fun _ => rfl) dL_law_8 (fun a2 H hw => ?_)
  refine lv_dup hx hb dL_law_11 rfl ?_
  refine x_goSP (wr := CW g h q 0 0 0 0 (-1) v0 (foOf v0 1 (fun _ => 0)) (sqOf v0 1 (fun _ => 0) (fun _ => 0)) 0 0 0 0 0 0 0 (fun _ => 0) (fun _ => 0) (fun _ => 0) (fun _ => v0)) (wc := [(a2, .inr (8, [.null, .null, .int 0, .int 0, .int 0, .int 0, .int 0, .int 0, .null, .null, .int 0, .int 0, .int 0, .int 0, .int 0, .null, .null]))]) (rest := [.ref a2]) E hw (x_runIS (wr := CW g h q 0 0 0 0 (-1) v0 (foOf v0 1 (fun _ => 0)) (sqOf v0 1 (fun _ => 0) (fun _ => 0)) 0 0 0 0 0 0 0 (fun _ => 0) (fun _ => 0) (fun _ => 0) (fun _ => v0)) (As := []) (rest := [.ref a2]) E hw (c_X8_init l g a2) km_L_12 ki_X8_init rfl hl.1 rfl rfl (Nat.le_of_ble_eq_true rfl) ⟨Nat.le_of_ble_eq_true rfl, Nat.le_of_ble_eq_true rfl⟩ ⟨Nat.le_of_ble_eq_true rfl, Nat.le_of_ble_eq_true rfl⟩ dL_law_12) (fun rv w1 H locs hp hw => ?_)
  obtain ⟨rfl, o, rfl, rfl⟩ := hp
  have hw : xW g (fun q : Nat => s.heap.size ≤ q) s (CW g h q 0 0 0 0 (-1) v0 (foOf v0 1 (fun _ => 0)) (sqOf v0 1 (fun _ => 0) (fun _ => 0)) 0 0 0 0 0 0 0 (fun _ => 0) (fun _ => 0) (fun _ => 0) (fun _ => v0) ++ MW g o 0 0 0 0 0 (-1) 0 0 0 0 0 v8 (fun _ => z8) (fun _ => 0) (fun _ => 0) (fun _ => 0) (fun _ => 0)) _ _ := hw
  have hw := hw.swap
  refine lv_astore_n (lv' := [(2, .ref (o 0)), (1, .ref (h 17)), (0, .ref b)]) hx hb dL_law_15 rfl hl (by decide) rfl (fun ls hl => ?_)
  refine lv_iconst (v := 0) hx hb dL_law_16 (by decide) ?_
  refine lv_istore_n (lv' := [(3, .int (nI 0)), (2, .ref (o 0)), (1, .ref (h 17)), (0, .ref b)]) hx hb dL_law_17 rfl hl (by decide) rfl (fun ls hl => ?_)
  exact law_loop E hr ⟨hX, hbl, Nat.not_le.mpr hbl, hL⟩ (L + 1) 0 0 (Nat.zero_le L) (by omega) (by omega) _ _ _ _ _ _ _ _ _ _ _ _ _ _ _ _ _ _ _ _ _ _ _ _ _ _ _ _ _ _ _ J_0 hw hl
