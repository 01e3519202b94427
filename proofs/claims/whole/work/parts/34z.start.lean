/-! what the Statement gives of the start -/
theorem nr {args : Array Value} {s : State} (h : (Jvm.Cond.and given_1 narrow_1).before args s = true) (k : Nat) {c : Cond} (e : (flatC (Jvm.Cond.and given_1 narrow_1))[k]? = some c) : c.before args s = true := flat_of_before _ h _ (List.mem_of_getElem? e)
theorem tb {args : Array Value} {s : State} (h : ∀ w ∈ lw_tbl, w.before args s = true) (k : Nat) {c : Cond} (e : lw_tbl[k]? = some c) : c.before args s = true := h _ (List.mem_of_getElem? e)
def bsS (i : Nat) : Nat := [39, 46, 55, 66, 79, 92, 105, 119, 135].getD i 0
set_option maxRecDepth 100000 in
theorem sS_ex : ∀ i, i < 9 → (flatC (Jvm.Cond.and given_1 narrow_1))[bsS i]? = some (Cond.exactly (.string RX3 (88 + 2 * i)) "java/lang/String") := by decide +kernel
set_option maxRecDepth 100000 in
theorem sS_co : ∀ i, i < 9 → (flatC (Jvm.Cond.and given_1 narrow_1))[bsS i + 1]? = some (Cond.eq (.field (.string RX3 (88 + 2 * i)) "java/lang/String" "coder" "B") (.int 0)) := by decide +kernel
set_option maxRecDepth 100000 in
theorem sS_ar : ∀ i, i < 9 → (flatC (Jvm.Cond.and given_1 narrow_1))[bsS i + 2]? = some (Cond.arrayOf (.field (.string RX3 (88 + 2 * i)) "java/lang/String" "value" "[B") .byte) := by decide +kernel
set_option maxRecDepth 100000 in
theorem sS_le : ∀ i, i < 9 → (flatC (Jvm.Cond.and given_1 narrow_1))[bsS i + 3]? = some (Cond.eq (.length (.field (.string RX3 (88 + 2 * i)) "java/lang/String" "value" "[B")) (.int (Int32.ofNat (xLen.getD i 0)))) := by decide +kernel
set_option maxRecDepth 100000 in
theorem sS_el : ∀ i, i < 9 → ∀ j, j < xLen.getD i 0 → (flatC (Jvm.Cond.and given_1 narrow_1))[bsS i + 4 + j]? = some (Cond.eq (.elem (.field (.string RX3 (88 + 2 * i)) "java/lang/String" "value" "[B") (.int (Int32.ofNat j))) (.int ((xByt.getD i []).getD j 0))) := by decide +kernel
set_option maxRecDepth 100000 in
theorem sS_ne : ∀ j, j < 9 → ∀ i, i < j → (flatC (Jvm.Cond.and given_1 narrow_1))[bsS j + 4 + xLen.getD j 0 + i]? = some (Cond.not (Cond.eq (.string RX3 (88 + 2 * i)) (.string RX3 (88 + 2 * j)))) := by decide +kernel
set_option maxRecDepth 100000 in
theorem sS_tx : ∀ i, i < 9 → lw_tbl[645 + i]? = some (Cond.stringRef RX3 (88 + 2 * i) (xTx.getD i "")) := by decide +kernel
set_option maxRecDepth 100000 in
theorem sA_tFirst : (flatC (Jvm.Cond.and given_1 narrow_1))[5]? = some (Cond.arrayOf (.static RX5 "FIRST" "[I") .int) ∧ (flatC (Jvm.Cond.and given_1 narrow_1))[6]? = some (Cond.eq (.length (.static RX5 "FIRST" "[I")) (.int (Int32.ofNat 7))) ∧ ∀ j, j < 7 → (flatC (Jvm.Cond.and given_1 narrow_1))[7 + j]? = some (Cond.eq (.elem (.static RX5 "FIRST" "[I") (.int (Int32.ofNat j))) (.int (tFirst j))) := by decide +kernel
set_option maxRecDepth 100000 in
theorem sA_tLeast : (flatC (Jvm.Cond.and given_1 narrow_1))[15]? = some (Cond.arrayOf (.static RX5 "LEAST" "[I") .int) ∧ (flatC (Jvm.Cond.and given_1 narrow_1))[16]? = some (Cond.eq (.length (.static RX5 "LEAST" "[I")) (.int (Int32.ofNat 7))) ∧ ∀ j, j < 7 → (flatC (Jvm.Cond.and given_1 narrow_1))[17 + j]? = some (Cond.eq (.elem (.static RX5 "LEAST" "[I") (.int (Int32.ofNat j))) (.int (tLeast j))) := by decide +kernel
set_option maxRecDepth 100000 in
theorem sA_tMost : (flatC (Jvm.Cond.and given_1 narrow_1))[25]? = some (Cond.arrayOf (.static RX5 "MOST" "[I") .int) ∧ (flatC (Jvm.Cond.and given_1 narrow_1))[26]? = some (Cond.eq (.length (.static RX5 "MOST" "[I")) (.int (Int32.ofNat 7))) ∧ ∀ j, j < 7 → (flatC (Jvm.Cond.and given_1 narrow_1))[27 + j]? = some (Cond.eq (.elem (.static RX5 "MOST" "[I") (.int (Int32.ofNat j))) (.int (tMost j))) := by decide +kernel
theorem sT {args : Array Value} {s : State} (h : (Jvm.Cond.and given_1 narrow_1).before args s = true) {nm : String} {f : Nat → Int32} {k : Nat} {A : Nat → Prop} (e : (flatC (Jvm.Cond.and given_1 narrow_1))[k + 1]? = some (Cond.arrayOf (.static RX5 nm "[I") .int) ∧ (flatC (Jvm.Cond.and given_1 narrow_1))[k + 2]? = some (Cond.eq (.length (.static RX5 nm "[I")) (.int (Int32.ofNat 7))) ∧ ∀ j, j < 7 → (flatC (Jvm.Cond.and given_1 narrow_1))[k + 3 + j]? = some (Cond.eq (.elem (.static RX5 nm "[I") (.int (Int32.ofNat j))) (.int (f j)))) (hA : ∀ a : Nat, a < s.heap.size → ¬ A a)
    (hl : (Cond.laysStatic RX5 nm "[I").before args s = true) (hi : (Cond.initialized RX5).before args s = true) : ∃ t : Nat, va_Z RX5 nm "[I" (.ref t) A s s.heap ∧ va_T .int t 7 (fun k => .int (f k)) A s s.heap := by
  obtain ⟨t, ht, hT⟩ := va_Tof (tm := .static RX5 nm "[I") (ty := .int) (N := 7) (f := fun k => .int (f k)) (A := A) (by decide) (nr h _ e.1) (va_eqt (nr h _ e.2.1)) (fun j hj => va_eqt (nr h _ (e.2.2 j hj))) hA
  exact ⟨t, va_Zref hl hi ht hA, hT⟩
theorem onT {w : Cond} (h : isNest w = true) : w.onTables = true := by cases w <;> first | rfl | cases h
set_option maxRecDepth 100000 in
set_option maxHeartbeats 4000000 in
theorem xg_init {s : State} {args : Array Value} (hts : ∀ w ∈ lw_tbl, w.before args s = true) (hgv : (Jvm.Cond.and given_1 narrow_1).before args s = true) : ∃ g : xCfg, va_K g.1 vwCl (xTys g) s ∧ xG g (fun q : Nat => s.heap.size ≤ q) s s.heap := by
  have hA : ∀ a : Nat, a < s.heap.size → ¬ (fun q : Nat => s.heap.size ≤ q) a := fun a h => Nat.not_le.mpr h
  have hB : ∀ w ∈ wBig, w.before args s = true := fun w hw => hts w (List.mem_filter.mp hw).1
  obtain ⟨c0, i0, hk0⟩ := u_known (C := RX0) (T := TX0) (N := 2) (n := 2) hB kc_X0 (hB _ kn_X2_28.2.2.2.2.1)
  obtain ⟨c1, i1, hk1⟩ := u_known (C := RX1) (T := TX1) (N := 3) (n := 3) hB kc_X1 (hB _ kn_X7_16.2.2.2.2.1)
  obtain ⟨c2, i2, hk2⟩ := u_known (C := RX2) (T := TX2) (N := 4) (n := 4) hB kc_X2 (hB _ kn_X7_7.2.2.2.2.1)
  obtain ⟨c3, i3, hk3⟩ := u_known (C := RX3) (T := TX3) (N := 8) (n := 8) hB kc_X3 (hB _ kn_X7_23.2.2.2.2.1)
  obtain ⟨c4, i4, hk4⟩ := u_known (C := RX4) (T := TX4) (N := 2) (n := 2) hB kc_X4 (hB _ kn_X2_9.2.2.2.2.1)
  obtain ⟨c5, i5, hk5⟩ := u_known (C := RX5) (T := TX5) (N := 5) (n := 5) hB kc_X5 (hB _ kn_X4_7.2.2.2.2.1)
  obtain ⟨c6, i6, hk6⟩ := u_known (C := RX6) (T := TX6) (N := 8) (n := 8) hB kc_X6 (hB _ kn_X4_16.2.2.2.2.1)
  obtain ⟨c7, i7, hk7⟩ := u_known (C := RX7) (T := TX7) (N := 8) (n := 8) hB kc_X7 (hB _ kn_L_7.2.2.2.2.1)
  obtain ⟨c8, i8, hk8⟩ := u_known (C := RX8) (T := TX8) (N := 17) (n := 17) hB kc_X8 (hB _ kn_L_10.2.2.2.2.1)
  obtain ⟨cI, kI, pI, z1, z2, z3⟩ := Cond.arrayClass_spec (args := args) (first := s) (o := none) (s := s) (idx := []) (hB _ kArr)
  have hAO : (Cond.arrayOver (.object RX4)).before args s = true := tb hts 289 (by decide +kernel)
  obtain ⟨pQ, cQ, kQ, y1, y2, y3, y4, y5⟩ := Cond.arrayOver_spec (args := args) (first := s) (o := none) (s := s) (idx := []) hAO
  obtain ⟨t0, a1, a2⟩ := sT (k := 4) hgv sA_tFirst hA (tb hts 143 (by decide +kernel)) (tb hts 104 (by decide +kernel))
  obtain ⟨t1, b1, b2⟩ := sT (k := 14) hgv sA_tLeast hA (tb hts 452 (by decide +kernel)) (tb hts 104 (by decide +kernel))
  obtain ⟨t2, d1, d2⟩ := sT (k := 24) hgv sA_tMost hA (tb hts 454 (by decide +kernel)) (tb hts 104 (by decide +kernel))
  have f1 : va_Z "java/lang/String" "COMPACT_STRINGS" "Z" (.int 1) (fun q : Nat => s.heap.size ≤ q) s s.heap := va_Zof (tb hts 667 (by decide +kernel)) (tb hts 112 (by decide +kernel)) (va_eqi (nr hgv 34 (by decide +kernel))) hA
  have f2 : va_Zq "jdk/internal/util/Preconditions" "SIOOBE_FORMATTER" "Ljava/util/function/BiFunction;" (fun q : Nat => s.heap.size ≤ q) s s.heap := va_Zqof (tb hts 683 (by decide +kernel)) (tb hts 114 (by decide +kernel)) (nr hgv 35 (by decide +kernel)) hA
  obtain ⟨adK, adV, hS, hE⟩ := vk_Sof (args := args) (s := s) (N := 9) (tm := fun i => .string RX3 (88 + 2 * i)) (len := xLen) (byt := xByt) (A := fun q : Nat => s.heap.size ≤ q) (by decide +kernel) (fun i hi => nr hgv _ (sS_ex i hi)) (fun i hi => nr hgv _ (sS_co i hi)) (fun i hi => nr hgv _ (sS_ar i hi)) (fun i hi => nr hgv _ (sS_le i hi)) (fun i hi j hj => nr hgv _ (sS_el i hi j hj))
    (fun i j hi hj hij => by
      rcases Nat.lt_or_gt_of_ne hij with z | z
      · exact Or.inl (nr hgv _ (sS_ne j hj i z))
      · exact Or.inr (nr hgv _ (sS_ne i hi j z))) hA
  refine ⟨((fun k => [c0, c1, c2, c3, c4, c5, c6, c7, c8].getD k c0, fun k => [i0, i1, i2, i3, i4, i5, i6, i7, i8].getD k i0), cI, cQ, (fun k => [t0, t1, t2].getD k 0), adK, adV), ⟨?_, ?_⟩, ⟨fun w hw => va_Nw.of (onT (List.mem_filter.mp hw).2) (hts w (List.mem_append_right _ (List.mem_filter.mp hw).1)), va_AO.of hAO, fun i hi => vk_R.of (tb hts _ (sS_tx i hi)) (hE i hi)⟩, ⟨a1, a2⟩, ⟨b1, b2⟩, ⟨d1, d2⟩, f1, f2, hS⟩
  · intro k q hq
    match k, hq with
    | 0, hq => cases hq; exact hk0
    | 1, hq => cases hq; exact hk1
    | 2, hq => cases hq; exact hk2
    | 3, hq => cases hq; exact hk3
    | 4, hq => cases hq; exact hk4
    | 5, hq => cases hq; exact hk5
    | 6, hq => cases hq; exact hk6
    | 7, hq => cases hq; exact hk7
    | 8, hq => cases hq; exact hk8
    | k + 9, hq => simp [vwCl] at hq
  · intro k q hq
    match k, hq with
    | 0, hq => cases hq; exact ⟨fun n z => ⟨fun k h => (by cases h), kI, z2, pI, z3⟩, z1⟩
    | 1, hq => cases hq; exact ⟨fun n z => ⟨fun k h => (by cases h), kQ, y3, pQ, y4⟩, kQ, pQ, y3, y4, y1, y5⟩
    | k + 2, hq => simp at hq
