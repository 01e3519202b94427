/-! making things: objects, rows, a call whose cells are the world's last ones and grow -/
abbrev xRc (fr ce sl lo : Nat) : Room := { frames := fr, cells := ce, slots := sl, locals := lo }
def xNW (own : String) (index ci : Nat) (C : String) (T : u_T) (N : Nat) (ty0 : Nat → FieldType) : Prop := vwCl[ci]? = some (C, T, N) ∧ (∀ w ∈ u_ws C T N, w ∈ wBig) ∧ (∀ k, k < N → parseFieldDescriptor (T k).2.2.1 = some (ty0 k)) ∧ Cond.classLink own index C ∈ wBig ∧ Cond.instantiable C N ∈ wBig ∧ Cond.initialized C ∈ wBig
section XI
variable {l : Launch} {g : xCfg} {p : Program} {e : Env} {R : Room} {s : State} {m : MethodId} {args : Array Value} {below : List Frame} {meth : Method} {c : Code} {cc : ByteArray} {nL : Nat} {own : String} {A : Nat → Prop} {ws ws' wr : va_W} {H : Heap} {locs : List Loc} {cells slots : Nat} {Q : State → Prop} {pc : Nat} {ls : Array Slot} {rest : List Value}
theorem x_new {index ci N : Nat} {C : String} {T : u_T} {ty0 : Nat → FieldType} (E : xE g p s m args meth c cc nL own A) (hw : xW g A s ws H locs) (k : xNW own index ci C T N ty0) {fs : List Value} (hfs : ∀ j, j < N → defaultValue (ty0 j) = vp_V fs j) (hc : cells + 1 ≤ R.cells) (hs : slots + N ≤ R.slots) (hws : ∀ q : Nat, ws ++ [(q, .inr (ci, fs))] = ws' ++ [(q, .inr (ci, fs))]) (hdg : decode cc pc = .ok (.new index, 3))
    (kk : ∀ (q : Nat) (H1 : Heap), xW g A s (ws' ++ [(q, .inr (ci, fs))]) H1 locs → W p l e R s m args below meth c H1 locs (cells + 1) (slots + N) Q (F0 m (pc + 3) ls (.ref q :: rest))) : W p l e R s m args below meth c H locs cells slots Q (F0 m pc ls rest) :=
  va_new (C := C) (T := T) (N := N) E.x E.b E.ts k.2.1 ty0 k.2.2.1 E.ow (E.ts _ k.2.2.2.1) (E.ts _ k.2.2.2.2.1) (E.ts _ k.2.2.2.2.2) E.2.2.2.1 hw.1 hw.2.1 hw.2.2 E.2.2.1 k.1 hfs hc hs hdg (fun q H1 h1 h2 h3 => kk q H1 (by rw [← hws q]; exact ⟨h1, h2, h3⟩))
theorem x_newa (E : xE g p s m args meth c cc nL own A) (hw : xW g A s ws H locs) (N' : Nat) {z : Int32} (hz : z = nI N') (hN : N' < 2 ^ 20) (hc : cells + 1 ≤ R.cells) (hs : slots + N' ≤ R.slots) (hk : Cond.arrayClass .int ∈ wBig) (hdg : decode cc pc = .ok (.newarray .int, 2))
    (kk : ∀ (q : Nat) (H1 : Heap), xW g A s (ws ++ [(q, .inl (g.2.1, N', .inl (fun _ => 0)))]) H1 locs → W p l e R s m args below meth c H1 locs (cells + 1) (slots + N') Q (F0 m (pc + 2) ls (.ref q :: rest))) : W p l e R s m args below meth c H locs cells slots Q (F0 m pc ls (.int z :: rest)) := by
  subst hz
  have hcb : componentBytes .int = 4 := by decide
  refine va_newa (atype := .int) E.x E.b (E.ts _ hk) (ty := .int) rfl E.2.2.2.1 hw.1 hw.2.1 hw.2.2 E.2.2.1 (a0 := (N', .inl (fun _ => 0))) (fun cA => rfl) (nI_pos (by omega)) (nI_clamp (by omega)) (by rw [hcb]; omega) hc hs hdg ?_
  intro q cA H1 hK h1 h2 h3
  have a1 := va_nm_int (hK.2 2 (cA, .int) rfl).2
  have a2 := va_nm_int (E.2.2.2.1.2 0 (g.2.1, .int) rfl).2
  obtain rfl : cA = g.2.1 := Option.some.inj (a1.symm.trans a2)
  exact kk q H1 ⟨h1, h2, h3⟩
theorem x_newq {index : Nat} (E : xE g p s m args meth c cc nL own A) (hw : xW g A s ws H locs) (N' : Nat) {z : Int32} (hz : z = nI N') (hN : N' < 2 ^ 20) (hc : cells + 1 ≤ R.cells) (hs : slots + N' ≤ R.slots) (hk : Cond.classLink own index RX4 ∈ wBig) (hdg : decode cc pc = .ok (.anewarray index, 3))
    (kk : ∀ (q : Nat) (H1 : Heap), xW g A s (ws ++ [(q, .inl (g.2.2.1, N', .inr (.inr (.inr (.inr (fun _ => none))))))]) H1 locs → W p l e R s m args below meth c H1 locs (cells + 1) (slots + N') Q (F0 m (pc + 3) ls (.ref q :: rest))) : W p l e R s m args below meth c H locs cells slots Q (F0 m pc ls (.int z :: rest)) := by
  subst hz
  refine va_newq (C := RX4) E.x E.b E.ow (E.ts _ hk) E.2.2.2.2.1.2.1 E.2.2.2.1 hw.1 hw.2.1 hw.2.2 E.2.2.1 (nI_pos (by omega)) (nI_clamp (by omega)) (by omega) hc hs hdg ?_
  intro q cA H1 hK h1 h2 h3
  have a1 := va_nmO (hK.2 2 (cA, .object RX4) rfl).2 rfl
  have a2 := va_nmO (E.2.2.2.1.2 1 (g.2.2.1, .object RX4) rfl).2 rfl
  obtain rfl : cA = g.2.2.1 := Option.some.inj (a1.symm.trans a2)
  exact kk q H1 ⟨h1, h2, h3⟩
theorem x_ast {a v n : Nat} {vs : List Value} {f : Nat → Option Nat} (E : xE g p s m args meth c cc nL own A) (hw : xW g A s ws H locs) (q0 qk : Nat) (ha : ws[q0]? = some (a, .inl (g.2.2.1, n, .inr (.inr (.inr (.inr f)))))) (hv : ws[qk]? = some (v, .inr (4, vs))) {i : Int32} (j : Nat) (hi : i = nI j) (hj : j < n) (hn : n < 2 ^ 31) (hws : ws.set q0 (a, .inl (g.2.2.1, n, .inr (.inr (.inr (.inr (va_up f j (some v))))))) = ws') (hdg : decode cc pc = .ok (.aastore, 1))
    (kk : ∀ (H1 : Heap) (locs1 : List Loc), xW g A s ws' H1 locs1 → W p l e R s m args below meth c H1 locs1 cells slots Q (F0 m (pc + 1) ls rest)) : W p l e R s m args below meth c H locs cells slots Q (F0 m pc ls (.ref v :: .int i :: .ref a :: rest)) := by
  subst hi hws
  refine va_astq (r := (RX4, TX4, 2)) E.x E.b E.2.2.2.1 hw.1 hw.2.1 hw.2.2 q0 1 qk 4 ha rfl hv rfl (vp_in_nI hj hn) hdg ?_
  rw [nI_clamp (Nat.lt_trans hj hn)]
  exact fun H1 l1 h1 h2 h3 => kk H1 l1 ⟨h1, h2, h3⟩
theorem xW.qarr {a : Nat} (hw : xW g A s ws H locs) (q0 : Nat) {n : Nat} {f f' : Nat → Option Nat} (he : ws[q0]? = some (a, .inl (g.2.2.1, n, .inr (.inr (.inr (.inr f)))))) (h : ∀ j, j < n → f j = f' j) (hws : ws.set q0 (a, .inl (g.2.2.1, n, .inr (.inr (.inr (.inr f'))))) = ws') : xW g A s ws' H locs := by
  subst hws
  refine ⟨va_P.set hw.1 hw.2.1 he ?_ (fun _ _ => rfl), hw.2.1.set he, hw.2.2⟩
  have h1 := hw.1 q0 _ he
  show H[a]? = some (vp_cell g.2.2.1 (n, .inr (.inr (.inr (.inr f')))))
  have e2 : vp_cell g.2.2.1 (n, .inr (.inr (.inr (.inr f)))) = vp_cell g.2.2.1 (n, .inr (.inr (.inr (.inr f')))) := by
    rw [vp_cell_q, vp_cell_q]
    unfold arrV
    congr 1
    apply Array.ext
    · simp
    · intro i h1 h2
      simp only [Array.getElem_ofFn]
      rw [h i (by simpa using h1)]
  rw [← e2]
  exact h1
/-- the cells in another order, or fewer of them -/
theorem xW.sub (hw : xW g A s ws H locs) (isC : List Nat) (hC : isC.map (fun i => ws[i]?) = ws'.map some) (hn : va_nd isC = true) : xW g A s ws' H locs := by
  have : ∀ (is : List Nat) (w : va_W), is.map (fun i => ws[i]?) = w.map some → is.filterMap (fun i => ws[i]?) = w := by
    intro is
    induction is with
    | nil => intro w h; cases w with
      | nil => rfl
      | cons _ _ => simp at h
    | cons i is ih =>
      intro w h
      cases w with
      | nil => simp at h
      | cons q w =>
        simp only [List.map_cons, List.cons.injEq] at h
        rw [List.filterMap_cons, h.1, ih w h.2]
  exact ⟨hw.1.sub isC (this isC ws' hC), hw.2.1.sub isC hn hC, hw.2.2⟩
theorem x_obj {index : Nat} {a : Nat} (E : xE g p s m args meth c cc nL own A) (k : Cond.methodLink own index objectInit ∈ wBig ∧ Cond.instanceMethod objectInit ∈ wBig ∧ Cond.code objectInit ⟨#[0xb1]⟩ 1 none ∈ wBig) (hls : ls.size = nL) (hfr : 1 ≤ R.frames) (hlo : (rest.map fun v => v.category).sum + 12 ≤ R.locals) (hdg : decode cc pc = .ok (.invokespecial index, 3))
    (kk : W p l e R s m args below meth c H locs cells slots Q (F0 m (pc + 3) ls rest)) : W p l e R s m args below meth c H locs cells slots Q (F0 m pc ls (.ref a :: rest)) :=
  W.objInit E.x E.b E.ow (E.ts _ k.1) (E.ts _ k.2.1) (E.ts _ k.2.2) rfl (by rw [E.ml]; exact hls) rfl hdg hfr (by show 2 * 0 + _ + _ ≤ _; omega) kk
variable {y : MethodName} {yc : ByteArray} {yn n : Nat} {rm : Room} {index : Nat} {post : Option Value → va_W → Prop} {wc : va_W} {b : Nat} {As st0 st1 : List Value}
theorem x_runIS (E : xE g p s m args meth c cc nL own A) (hw : xW g A s (wr ++ wc) H locs) (hM : Ct l g y yc yn none rm (.ref b :: As) wc post) (k1 : xML own index y yc yn none n) (k2 : Cond.instanceMethod y ∈ wBig) (hy : y.name = "<init>")
    (hls : ls.size = nL) (hst : st0 = As.reverse ++ .ref b :: rest) (hn : As.length = n) (h8 : (rest.map fun v => v.category).sum ≤ 8) (hR : rm.frames + 1 ≤ R.frames ∧ 8 + (yn + 11) + rm.locals ≤ R.locals) (hf : cells + rm.cells ≤ R.cells ∧ slots + rm.slots ≤ R.slots) (hdg : decode cc pc = .ok (.invokespecial index, 3)) :
    va_Run p l e R s m args below meth c H locs cells slots rm.cells rm.slots (F0 m pc ls st0) rest (xQ g (va_A wc H.size) post (Value.ref b :: As).toArray) (va_A wc H.size) :=
  va_runI (n := n) E.1 (hM H.size) ⟨callB_of n E.ts (wGood k1.1) rfl rfl rfl (E.ts _ k1.2.1) (E.ts _ k1.2.2.2) k1.2.2.1 hR, hy, E.ts _ k2⟩ ⟨x_blind g _ _ _, x_preS E hw _⟩ rfl hn hls hst (lv_room h8) hdg hf
theorem x_runINS (E : xE g p s m args meth c cc nL own A) (hw : xW g A s (wr ++ wc) H locs) (hM : Ct l g y yc yn none rm (.ref b :: As) wc post) (k1 : xMN own index y yc yn none n) (k2 : Cond.instanceMethod y ∈ wBig) (hy : y.name = "<init>")
    (hls : ls.size = nL) (hst : st0 = As.reverse ++ .ref b :: rest) (hn : As.length = n) (h8 : (rest.map fun v => v.category).sum ≤ 8) (hR : rm.frames + 1 ≤ R.frames ∧ 8 + (yn + 11) + rm.locals ≤ R.locals) (hf : cells + rm.cells ≤ R.cells ∧ slots + rm.slots ≤ R.slots) (hdg : decode cc pc = .ok (.invokespecial index, 3)) :
    va_Run p l e R s m args below meth c H locs cells slots rm.cells rm.slots (F0 m pc ls st0) rest (xQ g (va_A wc H.size) post (Value.ref b :: As).toArray) (va_A wc H.size) :=
  va_runIN (n := n) E.1 (hM H.size) ⟨va_cnB n E.ts (wGood k1.1) rfl rfl rfl (E.2.2.2.2.1.1 _ k1.2.2.2) (E.ts _ k1.2.1) k1.2.2.1 hR, hy, E.ts _ k2⟩ ⟨x_blind g _ _ _, x_preS E hw _⟩ rfl hn hls hst (lv_room h8) hdg hf
/-- behind such a call -/
theorem x_goSP {a : Array Value} {mc ms : Nat} (E : xE g p s m args meth c cc nL own A) (hw : xW g A s (wr ++ wc) H locs)
    (hr : va_Run p l e R s m args below meth c H locs cells slots mc ms (F0 m pc ls st0) rest (xQ g (va_A wc H.size) post a) (va_A wc H.size))
    (kk : ∀ (rv : Option Value) (w1 : va_W) (H1 : Heap) (locs1 : List Loc), post rv w1 → xW g A s (wr ++ w1) H1 locs1 → W p l e R s m args below meth c H1 locs1 (cells + mc) (slots + ms) Q (F0 m (pc + 3) ls (rv.toList ++ rest))) : W p l e R s m args below meth c H locs cells slots Q (F0 m pc ls st0) := by
  have hF := x_freeS hw E.2.2.1
  have hS := hw.2.2
  intro T hT X
  obtain ⟨v, st₀, t, T', L, h0, X', hL, e1, e2, ⟨⟨rv', w1', hv, hp, hP1, hK1, hD1⟩, hz, hk⟩, st⟩ := hr T hT X
  cases hv
  rw [h0] at hz hk
  obtain ⟨t2, a1, b1⟩ := kk _ w1' T'.heap (locs ++ L) hp (hw.backS E.2.2.1 (by rw [e1]; exact hP1) hD1 (fun q h1 h2 => by rw [e1]; exact hk q h1 h2)
    ⟨Nat.le_trans hS.1 (by rw [e1]; exact hz), fun q h1 h2 => by rw [e1, hk q (Nat.lt_of_lt_of_le h1 hS.1) (fun z => h2 (hF q z))]; exact hS.2.1 q h1 h2, fun q hq => by
      rcases List.mem_append.mp hq with h | h
      · exact hS.2.2 q h
      · exact hF _ (hL q h)⟩) T' rfl X'
  exact ⟨t2, st t2 a1, b1⟩
/-- a static row copied whole into a row of the same length -/
theorem x_cpyT {t N q1 index a1 : Nat} {f f1 : Nat → Int32} (E : xE g p s m args meth c cc nL own A) (hw : xW g A s ws H locs) (hT : va_T .int t N (fun k => .int (f k)) A s s.heap) (k1 : Cond.methodLink own index arraycopyName ∈ wBig ∧ Cond.native arraycopyName ∈ wBig ∧ Cond.static arraycopyName ∈ wBig ∧ Cond.initialized "java/lang/System" ∈ wBig) (ha1 : ws[q1]? = some (a1, .inl (g.2.1, N, .inl f1))) (hN : N < 2 ^ 31) (hls : ls.size = nL) {z1 z2 z : Int32} (hz1 : z1 = 0) (hz2 : z2 = 0) (hz : z = nI N) (hfr : 1 ≤ R.frames) (hlo : (rest.map fun v => v.category).sum + (nativeFrameWords "java/lang/System" "arraycopy" 5 + 11) ≤ R.locals) (hws : ws.set q1 (a1, .inl (g.2.1, N, .inl f)) = ws') (hdg : decode cc pc = .ok (.invokestatic index, 3))
    (kk : ∀ (H1 : Heap) (locs1 : List Loc), xW g A s ws' H1 locs1 → W p l e R s m args below meth c H1 locs1 cells slots Q (F0 m (pc + 3) ls rest)) : W p l e R s m args below meth c H locs cells slots Q (F0 m pc ls (.int z :: .int z2 :: .ref a1 :: .int z1 :: .ref t :: rest)) := by
  subst hz1 hz2 hz hws
  have e0 : (0 : Int32).toNatClampNeg = 0 := rfl
  have e1 : (nI N).toNatClampNeg = N := nI_clamp hN
  have e2 : (nI N).toInt = (N : Int) := by
    have h0 : ¬ nI N < 0 := nI_pos hN
    have h1 : (0 : Int) ≤ (nI N).toInt := by simpa using Int32.le_iff_toInt_le.mp (Int32.not_lt.mp h0)
    have h2 : (nI N).toInt.toNat = N := e1
    omega
  obtain ⟨src, g1, ⟨g2, ks, gk, cm, gkk⟩, g3, g4, -, g5, g6⟩ := hT
  have hc1 : H[a1]? = some (vp_cell g.2.1 (N, .inl f1)) := hw.1 q1 _ ha1
  have hc0 : H[t]? = some src := (hw.2.2.2.1 t (Array.getElem?_eq_some_iff.mp g1).1 g6).trans g1
  obtain ⟨-, kd, hkd, cd, hkk⟩ := (E.2.2.2.1.2 0 _ rfl).1 N (fun j => .int (f1 j))
  have rd : ∀ i, i < N → src.slots.getD (0 + i) .null = .int (f i) := by
    intro i hi
    rw [Nat.zero_add, Array.getD_eq_getD_getElem?, g5 i hi]
    rfl
  intro T hT X
  obtain ⟨vm1, X1, step⟩ := X.arraycopy (src := t) (dst := a1) (cs := src) (cd := vp_cell g.2.1 (N, .inl f1)) (srcPos := 0) (destPos := 0) (n := nI N) (rest := rest) (g := F0 m pc ls (.int (nI N) :: .int 0 :: .ref a1 :: .int 0 :: .ref t :: rest)) E.x E.ow (E.ts _ k1.1) (E.ts _ k1.2.1) (E.ts _ k1.2.2.1) (E.ts _ k1.2.2.2)
    (by rw [hT]; exact hc0) (by rw [hT]; exact hc1) g2 (fun _ h => by cases h) g3 (fun h => by cases h) gk hkd gkk hkk rfl (by decide) (by decide) (nI_pos hN)
    (by rw [e2]; show ¬ (0 : Int) + _ > _; omega)
    (by rw [e2]; show ¬ (0 : Int) + _ > ((arrV g.2.1 N (fun j => .int (f1 j))).slots.size : Int); rw [arrV_size]; omega)
    (fun _ _ i hi => by rw [e1] at hi; rw [e0, rd i hi]; exact ⟨rfl, trivial⟩)
    rfl (by rw [E.ml]; exact hls) rfl (by rw [E.b]; exact hdg) hfr (by show 2 * 0 + _ + _ ≤ _; omega)
  have ec : copied src (vp_cell g.2.1 (N, .inl f1)) 0 0 (nI N) = vp_cell g.2.1 (N, .inl f) := by
    have := va_copiedX (fun z => Value.int z) src g.2.1 (n0 := N) (n1 := N) (sp := 0) (dp := 0) (n := N) f f1 g5 (by omega)
    show (vp_cell g.2.1 (N, .inl f1)).storeRun (0 : Int32).toNatClampNeg (src.stretch (0 : Int32).toNatClampNeg (nI N).toNatClampNeg) = _
    rw [e0, e1]
    refine this.trans (vp_cell_congr (f' := f) (fun j hj => ?_))
    unfold va_cpy
    rw [if_pos ⟨Nat.zero_le j, by omega⟩]
    congr 1
    omega
  rw [ec] at X1 step
  have hlt : a1 < H.size := (Array.getElem?_eq_some_iff.mp hc1).1
  have oq : ∀ q : Nat, q ≠ a1 → (H.setIfInBounds a1 (vp_cell g.2.1 (N, .inl f)))[q]? = H[q]? := fun q hq => by simp [Array.getElem?_setIfInBounds, Ne.symm hq]
  have hA1 := hw.2.1.2 q1 _ ha1
  obtain ⟨t2, b1, b2⟩ := kk (H.setIfInBounds a1 (vp_cell g.2.1 (N, .inl f))) _ ⟨hw.1.set hw.2.1 ha1 (show (H.setIfInBounds a1 _)[a1]? = some _ by simp [Array.getElem?_setIfInBounds, hlt]) oq, hw.2.1.set ha1, by simp; exact hw.2.2.1, fun q h1 h2 => (oq q (fun z => h2 (z ▸ hA1))).trans (hw.2.2.2.1 q h1 h2), fun q hq => by
    rcases List.mem_append.mp hq with h | h
    · exact hw.2.2.2.2 q h
    · obtain ⟨z, -, hz⟩ := List.mem_map.mp h
      rw [← hz]
      exact hA1⟩ _ (by rw [← hT]; rfl) X1
  exact ⟨t2, step t2 b1, b2⟩
end XI
