/-! calls: the callee's cells are picked by their places, and come back there -/
def xput : va_W → List Nat → va_W → va_W
  | ws, i :: is, q :: qs => xput (ws.set i q) is qs
  | ws, _, _ => ws
theorem xput_get : ∀ (is : List Nat) (qs ws : va_W), is.length = qs.length → ∀ (k : Nat) (q : Nat × va_E), (xput ws is qs)[k]? = some q → (∃ j : Nat, is[j]? = some k ∧ qs[j]? = some q) ∨ (k ∉ is ∧ ws[k]? = some q)
  | [], [], ws, _, k, q, h => Or.inr ⟨by simp, h⟩
  | [], _ :: _, _, hl, _, _, _ => by simp at hl
  | _ :: _, [], _, hl, _, _, _ => by simp at hl
  | i :: is, q0 :: qs, ws, hl, k, q, h => by
    rcases xput_get is qs (ws.set i q0) (by simpa using hl) k q h with ⟨j, h1, h2⟩ | ⟨h1, h2⟩
    · exact Or.inl ⟨j + 1, h1, h2⟩
    · by_cases hk : k = i
      · subst hk
        have hlt : k < (ws.set k q0).length := (List.getElem?_eq_some_iff.mp h2).1
        rw [List.getElem?_set_self (by simpa using hlt)] at h2
        exact Or.inl ⟨0, rfl, h2⟩
      · rw [List.getElem?_set_ne (Ne.symm hk)] at h2
        exact Or.inr ⟨by simp [hk, h1], h2⟩
section XC
variable {l : Launch} {g : xCfg} {p : Program} {e : Env} {R : Room} {s : State} {m : MethodId} {args : Array Value} {below : List Frame} {meth : Method} {c : Code} {cc : ByteArray} {nL : Nat} {own : String} {A : Nat → Prop} {ws ws' : va_W} {H : Heap} {locs : List Loc} {cells slots : Nat} {Q : State → Prop} {pc : Nat} {ls : Array Slot} {rest : List Value}
theorem x_blind (g : xCfg) (av : List Value) (w0 : va_W) (sz : Nat) : FrameBlind (va_Pc av (xPre g w0 sz)) := by
  intro a U f mk h
  obtain ⟨h0, h1, h2, h3, h4, h5⟩ := h
  exact ⟨h0, h1, h2, va_K.moved (u := U) (U := U.calling f mk a) (Vm.Alike.refl U.vm) h3, h4, xG.same (s := U) (U := U.calling f mk a) rfl h5⟩
theorem x_pre (E : xE g p s m args meth c cc nL own A) (hw : xW g A s ws H locs) (isC : List Nat) {wc : va_W} (hC : isC.map (fun i => ws[i]?) = wc.map some) (hn : va_nd isC = true) (av : List Value) : ∀ U : State, U.heap = H → s.WarmedH U.vm → va_Pc av (xPre g wc H.size) av.toArray U := by
  intro U hU hW
  have hF := va_free (wc := wc) hw.2.1 hw.2.2 E.2.2.1 isC hC
  refine ⟨rfl, by rw [hU], ?_, va_K.moved hW.alike E.2.2.2.1, (hw.2.1.sub isC hn hC).weaken (fun _ _ _ _ => trivial), ?_⟩
  · rw [hU]
    refine hw.1.sub isC ?_
    have : ∀ (is : List Nat) (w : va_W), is.map (fun i => ws[i]?) = w.map some → is.filterMap (fun i => ws[i]?) = w := by
      intro is
      induction is with
      | nil => intro w h; cases w with
        | nil => rfl
        | cons _ _ => simp at h
      | cons i is ih =>
        intro w h
        cases w with
        | nil => simp at h
        | cons q w =>
          simp only [List.map_cons, List.cons.injEq] at h
          rw [List.filterMap_cons, h.1, ih w h.2]
    exact this isC wc hC
  · rw [hU]
    exact ((E.2.2.2.2.kept hw.2.2.2.1).narrow hF).warm hW
theorem xW.back {wc w1 : va_W} {H1 : Heap} {locs1 : List Loc} (hw : xW g A s ws H locs) (hA : ∀ q, s.heap.size ≤ q → A q) (isC : List Nat) (hC : isC.map (fun i => ws[i]?) = wc.map some) (ha : w1.map Prod.fst = wc.map Prod.fst)
    (hP1 : va_P g.1 vwCl w1 H1) (hD1 : va_D (va_A wc H.size) w1) (hk : ∀ q : Nat, q < H.size → ¬ va_A wc H.size q → H1[q]? = H[q]?) (hS1 : va_S A s.heap H1 locs1) : xW g A s (xput ws isC w1) H1 locs1 := by
  have hF := va_free (wc := wc) hw.2.1 hw.2.2 hA isC hC
  have hlen : isC.length = w1.length := by
    have h1 := congrArg List.length hC
    have h2 := congrArg List.length ha
    simp only [List.length_map] at h1 h2
    omega
  have at' : ∀ (k : Nat) (q : Nat × va_E), wc[k]? = some q → ∃ i, isC[k]? = some i ∧ ws[i]? = some q := by
    intro k q hq
    have h1 : (isC.map (fun i => ws[i]?))[k]? = some (some q) := by rw [hC, List.getElem?_map, hq]; rfl
    rw [List.getElem?_map] at h1
    cases hi : isC[k]? with
    | none => rw [hi] at h1; cases h1
    | some i => rw [hi] at h1; exact ⟨i, rfl, Option.some.inj h1⟩
  have adr : ∀ (k : Nat) (q : Nat × va_E), w1[k]? = some q → ∃ (i : Nat) (q' : Nat × va_E), isC[k]? = some i ∧ ws[i]? = some q' ∧ q'.1 = q.1 := by
    intro k q hq
    have h1 : (w1.map Prod.fst)[k]? = some q.1 := by rw [List.getElem?_map, hq]; rfl
    rw [ha, List.getElem?_map] at h1
    cases hc : wc[k]? with
    | none => rw [hc] at h1; cases h1
    | some q' =>
      rw [hc] at h1
      obtain ⟨i, h2, h3⟩ := at' k q' hc
      exact ⟨i, q', h2, h3, Option.some.inj h1⟩
  have apart : ∀ (k : Nat) (q : Nat × va_E), k ∉ isC → ws[k]? = some q → q.1 < H.size ∧ ¬ va_A wc H.size q.1 := by
    intro k q hk1 hq
    have hl := (hw.1 k q hq).lt
    refine ⟨hl, fun h => ?_⟩
    rcases h with ⟨k2, e, h⟩ | h
    · obtain ⟨j, h3, h4⟩ := at' k2 (q.1, e) h
      have hij := hw.2.1.1 k j q (q.1, e) hq h4 rfl
      subst hij
      exact hk1 (List.mem_of_getElem? h3)
    · omega
  refine ⟨fun k q hq => ?_, ⟨fun i j x y hi hj hxy => ?_, fun k q hq => ?_⟩, hS1⟩
  · rcases xput_get isC w1 ws hlen k q hq with ⟨j, -, h2⟩ | ⟨h1, h2⟩
    · exact hP1 j q h2
    · obtain ⟨g1, g2⟩ := apart k q h1 h2
      exact (hw.1 k q h2).kept (hk q.1 g1 g2)
  · rcases xput_get isC w1 ws hlen i x hi with ⟨a, h1, h2⟩ | ⟨h1, h2⟩ <;> rcases xput_get isC w1 ws hlen j y hj with ⟨b, h3, h4⟩ | ⟨h3, h4⟩
    · have hab := hD1.1 a b x y h2 h4 hxy
      subst hab
      rw [h1] at h3
      exact Option.some.inj h3
    · obtain ⟨i', q', z1, z2, z3⟩ := adr a x h2
      have hij := hw.2.1.1 i' j q' y z2 h4 (z3.trans hxy)
      subst hij
      exact absurd (List.mem_of_getElem? z1) h3
    · obtain ⟨i', q', z1, z2, z3⟩ := adr b y h4
      have hij := hw.2.1.1 i i' x q' h2 z2 (hxy.trans z3.symm)
      subst hij
      exact absurd (List.mem_of_getElem? z1) h1
    · exact hw.2.1.1 i j x y h2 h4 hxy
  · rcases xput_get isC w1 ws hlen k q hq with ⟨j, -, h2⟩ | ⟨h1, h2⟩
    · exact hF _ (hD1.2 j q h2)
    · exact hw.2.1.2 k q h2
theorem x_run {wc : va_W} {post : Option Value → va_W → Prop} {mc ms : Nat} {st0 : List Value} {a : Array Value} (E : xE g p s m args meth c cc nL own A) (hw : xW g A s ws H locs) (isC : List Nat) (hC : isC.map (fun i => ws[i]?) = wc.map some)
    (hr : va_Run p l e R s m args below meth c H locs cells slots mc ms (F0 m pc ls st0) rest (xQ g (va_A wc H.size) post a) (va_A wc H.size))
    (kk : ∀ (rv : Option Value) (w1 : va_W) (H1 : Heap) (locs1 : List Loc), post rv w1 → va_P g.1 vwCl w1 H1 → va_D (va_A wc H.size) w1 → (∀ q : Nat, q < H.size → ¬ va_A wc H.size q → H1[q]? = H[q]?) → va_S A s.heap H1 locs1 →
      W p l e R s m args below meth c H1 locs1 (cells + mc) (slots + ms) Q (F0 m (pc + 3) ls (rv.toList ++ rest))) : W p l e R s m args below meth c H locs cells slots Q (F0 m pc ls st0) := by
  have hF := va_free (wc := wc) hw.2.1 hw.2.2 E.2.2.1 isC hC
  have hS := hw.2.2
  intro T hT X
  obtain ⟨v, st₀, t, T', L, h0, X', hL, e1, e2, ⟨⟨rv, w1, hv, hp, hP1, hK1, hD1⟩, hz, hk⟩, st⟩ := hr T hT X
  cases hv
  rw [h0] at hz hk
  obtain ⟨t2, a1, b1⟩ := kk _ w1 T'.heap (locs ++ L) hp (by rw [e1]; exact hP1) hD1 (fun q h1 h2 => by rw [e1]; exact hk q h1 h2)
    ⟨Nat.le_trans hS.1 (by rw [e1]; exact hz), fun q h1 h2 => by rw [e1, hk q (Nat.lt_of_lt_of_le h1 hS.1) (fun z => h2 (hF q z))]; exact hS.2.1 q h1 h2, fun q hq => by
      rcases List.mem_append.mp hq with h | h
      · exact hS.2.2 q h
      · exact hF _ (hL q h)⟩ T' rfl X'
  exact ⟨t2, st t2 a1, b1⟩
/-- what a call's words are: kind 0 an own method, 1 an own static one -/
def xML (own : String) (index : Nat) (y : MethodName) (cc : ByteArray) (nL : Nat) (ret : Option FieldType) (n : Nat) : Prop :=
  Cond.code y cc nL ret ∈ wBig ∧ Cond.initialized y.cls ∈ wBig ∧ (y.cls ≠ "java/lang/invoke/MethodHandle" ∧ y.cls ≠ "java/lang/invoke/VarHandle" ∧ (parseMethodDescriptor y.desc).map (fun d => d.parameters.length) = some n) ∧ Cond.methodLink own index y ∈ wBig
def xMN (own : String) (index : Nat) (y : MethodName) (cc : ByteArray) (nL : Nat) (ret : Option FieldType) (n : Nat) : Prop :=
  Cond.code y cc nL ret ∈ wBig ∧ Cond.initialized y.cls ∈ wBig ∧ (y.cls ≠ "java/lang/invoke/MethodHandle" ∧ y.cls ≠ "java/lang/invoke/VarHandle" ∧ (parseMethodDescriptor y.desc).map (fun d => d.parameters.length) = some n) ∧ Cond.methodLinkNest own index y "SpeedWarden" ∈ nsW
def xMV (y : MethodName) (ci : Nat) (C : String) (T : u_T) (N : Nat) : Prop := vwCl[ci]? = some (C, T, N) ∧ Cond.instanceMethod y ∈ wBig ∧ Cond.selects C y y ∈ wBig
variable {y : MethodName} {yc : ByteArray} {yn n : Nat} {yr : Option FieldType} {rm : Room} {index : Nat} {post : Option Value → va_W → Prop} {wc : va_W} {b : Nat} {As st0 st1 : List Value} {ci : Nat} {C : String} {T : u_T} {N : Nat} {fs : List Value}
theorem x_runV (E : xE g p s m args meth c cc nL own A) (hw : xW g A s ws H locs) (hM : Ct l g y yc yn yr rm (.ref b :: As) wc post) (k1 : xML own index y yc yn yr n) (k2 : xMV y ci C T N) (isC : List Nat) (hC : isC.map (fun i => ws[i]?) = wc.map some) (hnd : va_nd isC = true) (q0 : Nat) (he : ws[q0]? = some (b, .inr (ci, fs)))
    (hls : ls.size = nL) (hst : st0 = As.reverse ++ .ref b :: rest) (hn : As.length = n) (h8 : (rest.map fun v => v.category).sum ≤ 8) (hR : rm.frames + 1 ≤ R.frames ∧ 8 + (yn + 11) + rm.locals ≤ R.locals) (hf : cells + rm.cells ≤ R.cells ∧ slots + rm.slots ≤ R.slots) (hdg : decode cc pc = .ok (.invokevirtual index, 3)) :
    va_Run p l e R s m args below meth c H locs cells slots rm.cells rm.slots (F0 m pc ls st0) rest (xQ g (va_A wc H.size) post (Value.ref b :: As).toArray) (va_A wc H.size) :=
  va_runV (C := C) (n := n) E.1 (hM H.size) ⟨callB_of n E.ts (wGood k1.1) rfl rfl rfl (E.ts _ k1.2.1) (E.ts _ k1.2.2.2) k1.2.2.1 hR, E.ts _ k2.2.1, E.ts _ k2.2.2⟩ ⟨x_blind g _ _ _, va_recv E.2.2.2.1 hw.1 k2.1 he, x_pre E hw isC hC hnd _⟩ rfl hn hls hst (lv_room h8) hdg hf
theorem x_runVN (E : xE g p s m args meth c cc nL own A) (hw : xW g A s ws H locs) (hM : Ct l g y yc yn yr rm (.ref b :: As) wc post) (k1 : xMN own index y yc yn yr n) (k2 : xMV y ci C T N) (isC : List Nat) (hC : isC.map (fun i => ws[i]?) = wc.map some) (hnd : va_nd isC = true) (q0 : Nat) (he : ws[q0]? = some (b, .inr (ci, fs)))
    (hls : ls.size = nL) (hst : st0 = As.reverse ++ .ref b :: rest) (hn : As.length = n) (h8 : (rest.map fun v => v.category).sum ≤ 8) (hR : rm.frames + 1 ≤ R.frames ∧ 8 + (yn + 11) + rm.locals ≤ R.locals) (hf : cells + rm.cells ≤ R.cells ∧ slots + rm.slots ≤ R.slots) (hdg : decode cc pc = .ok (.invokevirtual index, 3)) :
    va_Run p l e R s m args below meth c H locs cells slots rm.cells rm.slots (F0 m pc ls st0) rest (xQ g (va_A wc H.size) post (Value.ref b :: As).toArray) (va_A wc H.size) :=
  va_runVN (C := C) (n := n) E.1 (hM H.size) ⟨va_cnB n E.ts (wGood k1.1) rfl rfl rfl (E.2.2.2.2.1.1 _ k1.2.2.2) (E.ts _ k1.2.1) k1.2.2.1 hR, E.ts _ k2.2.1, E.ts _ k2.2.2⟩ ⟨x_blind g _ _ _, va_recv E.2.2.2.1 hw.1 k2.1 he, x_pre E hw isC hC hnd _⟩ rfl hn hls hst (lv_room h8) hdg hf
theorem x_runS (E : xE g p s m args meth c cc nL own A) (hw : xW g A s ws H locs) (hM : Ct l g y yc yn yr rm As wc post) (k1 : xML own index y yc yn yr n) (k2 : Cond.static y ∈ wBig) (isC : List Nat) (hC : isC.map (fun i => ws[i]?) = wc.map some) (hnd : va_nd isC = true)
    (hls : ls.size = nL) (hst : st0 = As.reverse ++ rest) (hn : As.length = n) (h8 : (rest.map fun v => v.category).sum ≤ 8) (hR : rm.frames + 1 ≤ R.frames ∧ 8 + (yn + 11) + rm.locals ≤ R.locals) (hf : cells + rm.cells ≤ R.cells ∧ slots + rm.slots ≤ R.slots) (hdg : decode cc pc = .ok (.invokestatic index, 3)) :
    va_Run p l e R s m args below meth c H locs cells slots rm.cells rm.slots (F0 m pc ls st0) rest (xQ g (va_A wc H.size) post As.toArray) (va_A wc H.size) :=
  va_runS (n := n) E.1 (hM H.size) ⟨callB_of n E.ts (wGood k1.1) rfl rfl rfl (E.ts _ k1.2.1) (E.ts _ k1.2.2.2) k1.2.2.1 hR, E.ts _ k2⟩ ⟨x_blind g _ _ _, x_pre E hw isC hC hnd _⟩ rfl hn hls hst (lv_room h8) hdg hf
theorem x_runSN (E : xE g p s m args meth c cc nL own A) (hw : xW g A s ws H locs) (hM : Ct l g y yc yn yr rm As wc post) (k1 : xMN own index y yc yn yr n) (k2 : Cond.static y ∈ wBig) (isC : List Nat) (hC : isC.map (fun i => ws[i]?) = wc.map some) (hnd : va_nd isC = true)
    (hls : ls.size = nL) (hst : st0 = As.reverse ++ rest) (hn : As.length = n) (h8 : (rest.map fun v => v.category).sum ≤ 8) (hR : rm.frames + 1 ≤ R.frames ∧ 8 + (yn + 11) + rm.locals ≤ R.locals) (hf : cells + rm.cells ≤ R.cells ∧ slots + rm.slots ≤ R.slots) (hdg : decode cc pc = .ok (.invokestatic index, 3)) :
    va_Run p l e R s m args below meth c H locs cells slots rm.cells rm.slots (F0 m pc ls st0) rest (xQ g (va_A wc H.size) post As.toArray) (va_A wc H.size) :=
  va_runSN (n := n) E.1 (hM H.size) ⟨va_cnB n E.ts (wGood k1.1) rfl rfl rfl (E.2.2.2.2.1.1 _ k1.2.2.2) (E.ts _ k1.2.1) k1.2.2.1 hR, E.ts _ k2, trivial⟩ ⟨x_blind g _ _ _, x_pre E hw isC hC hnd _⟩ rfl hn hls hst (lv_room h8) hdg hf
/-- behind a call that makes nothing: the answer is known, the cells are in their places -/
theorem x_go {rv : Option Value} {w1 : va_W} {a : Array Value} (E : xE g p s m args meth c cc nL own A) (hw : xW g A s ws H locs) (isC : List Nat) (hC : isC.map (fun i => ws[i]?) = wc.map some)
    (hr : va_Run p l e R s m args below meth c H locs cells slots 0 0 (F0 m pc ls st0) rest (xQ g (va_A wc H.size) (is1 rv w1) a) (va_A wc H.size)) (ha : w1.map Prod.fst = wc.map Prod.fst) (hws : xput ws isC w1 = ws') (hst : rv.toList ++ rest = st1)
    (kk : ∀ (H1 : Heap) (locs1 : List Loc), xW g A s ws' H1 locs1 → W p l e R s m args below meth c H1 locs1 cells slots Q (F0 m (pc + 3) ls st1)) : W p l e R s m args below meth c H locs cells slots Q (F0 m pc ls st0) := by
  subst hws
  subst hst
  refine x_run E hw isC hC hr ?_
  intro rv' w1' H1 locs1 hp hP1 hD1 hk hS1
  obtain ⟨rfl, rfl⟩ := hp
  exact kk H1 locs1 (hw.back E.2.2.1 isC hC ha hP1 hD1 hk hS1)
/-- the same for a contract that leaves some of it open -/
theorem x_goP {a : Array Value} {mc ms : Nat} (E : xE g p s m args meth c cc nL own A) (hw : xW g A s ws H locs) (isC : List Nat) (hC : isC.map (fun i => ws[i]?) = wc.map some)
    (hr : va_Run p l e R s m args below meth c H locs cells slots mc ms (F0 m pc ls st0) rest (xQ g (va_A wc H.size) post a) (va_A wc H.size)) (ha : ∀ rv w1, post rv w1 → w1.map Prod.fst = wc.map Prod.fst)
    (kk : ∀ (rv : Option Value) (w1 : va_W) (H1 : Heap) (locs1 : List Loc), post rv w1 → xW g A s (xput ws isC w1) H1 locs1 → W p l e R s m args below meth c H1 locs1 (cells + mc) (slots + ms) Q (F0 m (pc + 3) ls (rv.toList ++ rest))) : W p l e R s m args below meth c H locs cells slots Q (F0 m pc ls st0) := by
  refine x_run E hw isC hC hr ?_
  intro rv' w1' H1 locs1 hp hP1 hD1 hk hS1
  exact kk rv' w1' H1 locs1 hp (hw.back E.2.2.1 isC hC (ha _ _ hp) hP1 hD1 hk hS1)
def xMM (own : String) (index : Nat) (y : MethodName) (cc : ByteArray) : Prop := Cond.methodLink own index y ∈ wBig ∧ Cond.static y ∈ wBig ∧ Cond.initialized "java/lang/Math" ∈ wBig ∧ Cond.code y cc 2 (some .int) ∈ wBig
theorem x_max (E : xE g p s m args meth c cc nL own A) (k1 : xMM own index Lib.Math.max.name Lib.Math.max.code) (hls : ls.size = nL) {x y : Int32} (hfr : 1 ≤ R.frames) (hlo : (rest.map fun v => v.category).sum + 13 ≤ R.locals) (hc : cells ≤ R.cells ∧ slots ≤ R.slots) (hdg : decode cc pc = .ok (.invokestatic index, 3))
    (kk : W p l e R s m args below meth c H locs cells slots Q (F0 m (pc + 3) ls (.int (if x < y then y else x) :: rest))) : W p l e R s m args below meth c H locs cells slots Q (F0 m pc ls (.int y :: .int x :: rest)) :=
  va_mmax E.x E.b (E.ml.trans hls.symm) E.ow (E.ts _ k1.1) (E.ts _ k1.2.1) (E.ts _ k1.2.2.1) (E.ts _ k1.2.2.2) hfr hlo hc.1 hc.2 hdg kk
theorem x_min (E : xE g p s m args meth c cc nL own A) (k1 : xMM own index Lib.Math.min.name Lib.Math.min.code) (hls : ls.size = nL) {x y : Int32} (hfr : 1 ≤ R.frames) (hlo : (rest.map fun v => v.category).sum + 13 ≤ R.locals) (hc : cells ≤ R.cells ∧ slots ≤ R.slots) (hdg : decode cc pc = .ok (.invokestatic index, 3))
    (kk : W p l e R s m args below meth c H locs cells slots Q (F0 m (pc + 3) ls (.int (if y < x then y else x) :: rest))) : W p l e R s m args below meth c H locs cells slots Q (F0 m pc ls (.int y :: .int x :: rest)) :=
  va_mmin E.x E.b (E.ml.trans hls.symm) E.ow (E.ts _ k1.1) (E.ts _ k1.2.1) (E.ts _ k1.2.2.1) (E.ts _ k1.2.2.2) hfr hlo hc.1 hc.2 hdg kk
end XC
