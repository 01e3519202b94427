/-! words that every method is given: all good words of the tables; the nest's links go beside them -/
def wBig : List Cond := lw_tbl.filter goodWord
theorem wB {w : Cond} (i : Nat) (h : lw_tbl[i]? = some w) (hg : goodWord w = true) : w ∈ wBig := List.mem_filter.mpr ⟨List.mem_of_getElem? h, hg⟩
theorem wBig_good {w : Cond} (h : w ∈ wBig) : goodWord w = true := (List.mem_filter.mp h).2
def isNest : Cond → Bool
  | .fieldLinkNest _ _ _ _ _ _ => true
  | .methodLinkNest _ _ _ _ => true
  | _ => false
def nsW : List Cond := tables_1.filter isNest
theorem nB {w : Cond} (i : Nat) (h : tables_1[i]? = some w) (hg : isNest w = true) : w ∈ nsW := List.mem_filter.mpr ⟨List.mem_of_getElem? h, hg⟩
theorem wGood {y : MethodName} {cc : ByteArray} {n : Nat} {ret : Option FieldType} (h : Cond.code y cc n ret ∈ wBig) : GoodIn wBig (Cond.code y cc n ret :: wBig) := by
  intro w hw
  rcases List.mem_cons.mp hw with rfl | hw
  · exact ⟨h, good_of_word (wBig_good h)⟩
  · exact ⟨hw, good_of_word (wBig_good hw)⟩
/-! the fixed things of a run: slots of fields, array classes, static rows, text constants -/
abbrev xCfg : Type := va_G × ClassId × ClassId × (Nat → Nat) × (Nat → Nat) × (Nat → Nat)
abbrev xTys (g : xCfg) : List (ClassId × FieldType) := [(g.2.1, .int), (g.2.2.1, .object RX4)]
def tFirst (k : Nat) : Int32 := [10, 6, 1, 20, 1, 3, 5].getD k 0
def tLeast (k : Nat) : Int32 := [1, 0, 1, 0, 0, 0, 0].getD k 0
def tMost (k : Nat) : Int32 := [60, 30, 30, 100, 9, 9, 9].getD k 0
def xLen : List Nat := [3, 4, 5, 6, 5, 4, 4, 5, 0]
def xByt : List (List Int32) := [[108, 101, 110], [99, 101, 105, 108], [103, 114, 97, 100, 101], [98, 101, 97, 99, 111, 110], [98, 114, 97, 107, 101], [112, 117, 108, 108], [108, 111, 110, 103], [101, 114, 114, 111, 114], []]
def xTx : List String := ["len", "ceil", "grade", "beacon", "brake", "pull", "long", "error", ""]
def xG (g : xCfg) (A : Nat → Prop) (U : State) (H : Heap) : Prop :=
  ((∀ w ∈ nsW, va_Nw w U) ∧ va_AO RX4 U ∧ ∀ i : Nat, i < 9 → vk_R RX3 (88 + 2 * i) (xTx.getD i "") (g.2.2.2.2.1 i) U) ∧
  ((va_Z RX5 "FIRST" "[I" (.ref (g.2.2.2.1 0)) A U H ∧ va_T .int (g.2.2.2.1 0) 7 (fun k => .int (tFirst k)) A U H) ∧
   (va_Z RX5 "LEAST" "[I" (.ref (g.2.2.2.1 1)) A U H ∧ va_T .int (g.2.2.2.1 1) 7 (fun k => .int (tLeast k)) A U H) ∧
   (va_Z RX5 "MOST" "[I" (.ref (g.2.2.2.1 2)) A U H ∧ va_T .int (g.2.2.2.1 2) 7 (fun k => .int (tMost k)) A U H) ∧
   va_Z "java/lang/String" "COMPACT_STRINGS" "Z" (.int 1) A U H ∧ va_Zq "jdk/internal/util/Preconditions" "SIOOBE_FORMATTER" "Ljava/util/function/BiFunction;" A U H ∧
   vk_S 9 xLen xByt g.2.2.2.2.1 g.2.2.2.2.2 A U H)
theorem nsW_warm {s U : State} (hW : s.WarmedH U.vm) (h : ∀ w ∈ nsW, va_Nw w s) : ∀ w ∈ nsW, va_Nw w U := by
  intro w hw
  have h1 := h w hw
  have h2 := (List.mem_filter.mp hw).2
  cases w <;> first | exact va_Nw.warmF hW h1 | exact va_Nw.warmM hW h1 | cases h2
theorem nsW_same {s U : State} (hv : s.vm = U.vm) (h : ∀ w ∈ nsW, va_Nw w s) : ∀ w ∈ nsW, va_Nw w U := by
  intro w hw
  have h1 := h w hw
  have h2 := (List.mem_filter.mp hw).2
  cases w <;> first | exact va_Nw.same rfl hv h1 | cases h2
theorem xG.heapPart {g : xCfg} {A : Nat → Prop} {s U : State} {H : Heap} (ha : s.vm.Alike U.vm) (h : xG g A s H) (h1 : (∀ w ∈ nsW, va_Nw w U) ∧ va_AO RX4 U ∧ ∀ i : Nat, i < 9 → vk_R RX3 (88 + 2 * i) (xTx.getD i "") (g.2.2.2.2.1 i) U) : xG g A U H := by
  obtain ⟨-, ⟨a1, a2⟩, ⟨b1, b2⟩, ⟨c1, c2⟩, d, e, f⟩ := h
  exact ⟨h1, ⟨a1.moved ha, a2.moved ha⟩, ⟨b1.moved ha, b2.moved ha⟩, ⟨c1.moved ha, c2.moved ha⟩, d.moved ha, e.moved ha, f.moved ha⟩
theorem xG.warm {g : xCfg} {A : Nat → Prop} {s U : State} {H : Heap} (hW : s.WarmedH U.vm) (h : xG g A s H) : xG g A U H :=
  h.heapPart hW.alike ⟨nsW_warm hW h.1.1, h.1.2.1.moved hW.alike, fun i hi => (h.1.2.2 i hi).warm hW⟩
theorem xG.same {g : xCfg} {A : Nat → Prop} {s U : State} {H : Heap} (hv : s.vm = U.vm) (h : xG g A s H) : xG g A U H := by
  have ha : s.vm.Alike U.vm := hv ▸ Vm.Alike.refl s.vm
  exact h.heapPart ha ⟨nsW_same hv h.1.1, h.1.2.1.moved ha, fun i hi => (h.1.2.2 i hi).same hv.symm⟩
theorem xG.kept {g : xCfg} {A : Nat → Prop} {U : State} {H H1 : Heap} (h : xG g A U H) (hq : ∀ a : Nat, a < H.size → ¬ A a → H1[a]? = H[a]?) : xG g A U H1 := by
  obtain ⟨h1, ⟨a1, a2⟩, ⟨b1, b2⟩, ⟨c1, c2⟩, d, e, f⟩ := h
  exact ⟨h1, ⟨a1.kept hq, a2.kept hq⟩, ⟨b1.kept hq, b2.kept hq⟩, ⟨c1.kept hq, c2.kept hq⟩, d.kept hq, e.kept hq, f.kept hq⟩
theorem xG.narrow {g : xCfg} {A B : Nat → Prop} {U : State} {H : Heap} (h : xG g A U H) (hq : ∀ q, B q → A q) : xG g B U H := by
  obtain ⟨h1, ⟨a1, a2⟩, ⟨b1, b2⟩, ⟨c1, c2⟩, d, e, f⟩ := h
  exact ⟨h1, ⟨a1.narrow hq, a2.narrow hq⟩, ⟨b1.narrow hq, b2.narrow hq⟩, ⟨c1.narrow hq, c2.narrow hq⟩, d.narrow hq, e.narrow hq, f.narrow hq⟩
/-! contracts -/
def xPre (g : xCfg) (w0 : va_W) (sz : Nat) (U : State) : Prop := U.heap.size = sz ∧ va_P g.1 vwCl w0 U.heap ∧ va_K g.1 vwCl (xTys g) U ∧ va_D (fun _ => True) w0 ∧ xG g (va_A w0 sz) U U.heap
def xQ (g : xCfg) (A : Nat → Prop) (post : Option Value → va_W → Prop) : Array Value → State → Outcome → State → Prop := fun _ st oc t =>
  (∃ (rv : Option Value) (w1 : va_W), oc = .returned rv ∧ post rv w1 ∧ va_P g.1 vwCl w1 t.heap ∧ va_K g.1 vwCl (xTys g) t ∧ va_D A w1) ∧ va_F A st t
def Ct (l : Launch) (g : xCfg) (y : MethodName) (cc : ByteArray) (nL : Nat) (ret : Option FieldType) (rm : Room) (av : List Value) (w0 : va_W) (post : Option Value → va_W → Prop) : Prop :=
  ∀ sz : Nat, Met l y (Cond.code y cc nL ret :: wBig) rm (va_Pc av (xPre g w0 sz)) (xQ g (va_A w0 sz) post) rm.cells rm.slots (va_A w0 sz)
abbrev is1 (rv : Option Value) (w1 : va_W) : Option Value → va_W → Prop := fun r w => r = rv ∧ w = w1
abbrev xR (fr lo : Nat) : Room := { frames := fr, cells := 0, slots := 0, locals := lo }
def xE (g : xCfg) (p : Program) (s : State) (m : MethodId) (args : Array Value) (meth : Method) (c : Code) (cc : ByteArray) (nL : Nat) (own : String) (A : Nat → Prop) : Prop :=
  CallFix p m c cc nL s args wBig own ∧ meth.locks = false ∧ (∀ q, s.heap.size ≤ q → A q) ∧ va_K g.1 vwCl (xTys g) s ∧ xG g A s s.heap
def xW (g : xCfg) (A : Nat → Prop) (s : State) (ws : va_W) (H : Heap) (locs : List Loc) : Prop := va_P g.1 vwCl ws H ∧ va_D A ws ∧ va_S A s.heap H locs
section XK
variable {l : Launch} {g : xCfg} {p : Program} {e : Env} {R : Room} {s : State} {m : MethodId} {args : Array Value} {below : List Frame} {meth : Method} {c : Code} {cc : ByteArray} {nL : Nat} {own : String} {A : Nat → Prop} {ws ws' : va_W} {H : Heap} {locs : List Loc} {cells slots : Nat} {Q : State → Prop} {pc : Nat} {ls : Array Slot} {rest : List Value}
theorem xE.x (E : xE g p s m args meth c cc nL own A) : p.tables.exec = Jvm.exec := E.1.1
theorem xE.b (E : xE g p s m args meth c cc nL own A) : c.code = cc := E.1.2.1
theorem xE.ml (E : xE g p s m args meth c cc nL own A) : c.maxLocals = nL := E.1.2.2.1
theorem xE.ow (E : xE g p s m args meth c cc nL own A) : s.vm.findClass own = some m.cls := E.1.2.2.2.1
theorem xE.ts (E : xE g p s m args meth c cc nL own A) : ∀ w ∈ wBig, w.before args s = true := E.1.2.2.2.2
theorem Ct.body {y : MethodName} {ret : Option FieldType} {rm : Room} {av : List Value} {w0 : va_W} {post : Option Value → va_W → Prop} (hy : plainName y.cls = true) (hn : (lg_sl av).length ≤ nL)
    (k : ∀ (p : Program) (e : Env) (s : State) (m : MethodId) (below : List Frame) (meth : Method) (c : Code) (A : Nat → Prop) (ls : Array Slot), xE g p s m av.toArray meth c cc nL y.cls A → meth.sig.returnType = ret → meth.name = y.name → xW g A s w0 s.heap [] → lv_has ls nL (lv_args 0 av) →
      W p l e rm s m av.toArray below meth c s.heap [] 0 0 (MQ below (xQ g A post) av.toArray s rm.cells rm.slots A) (F0 m 0 ls [])) : Ct l g y cc nL ret rm av w0 post := by
  intro sz
  refine Met.ofW (cc := cc) (maxL := nL) (ret := ret) hy rfl ?_
  intro p e s m args below meth c s₁ B hml hv
  obtain ⟨rfl, hsz, hP, hK, hD0, hG⟩ := hv
  have hts := atoms_spec (ws := Cond.code y cc nL ret :: wBig) B.pre
  subst hsz
  have hD := hD0.self (sz := s.heap.size)
  have hA : ∀ q : Nat, s.heap.size ≤ q → va_A w0 s.heap.size q := fun q h => Or.inr h
  have hl := lv_entry av (n := nL) hn
  rw [lg_entry_eq]
  exact k p e s m below meth c _ _ ⟨⟨B.exec, B.bytes, hml, findClass_of_methodNamed B.named, fun w h => hts w (List.mem_cons_of_mem _ h)⟩, B.notSynchronized, hA, hK, hG⟩ B.returns (name_of_methodNamed B.named B.method).1 ⟨hP, hD, va_S.rf⟩ hl
theorem xW.fin {post : Option Value → va_W → Prop} {rv : Option Value} {w1 : va_W} (E : xE g p s m args meth c cc nL own A) (hw : xW g A s w1 H locs) (hp : post rv w1) : ∀ t : State, t.heap = H → s.WarmedH t.vm → xQ g A post args s (.returned rv) t :=
  fun t ht hW => ⟨⟨rv, w1, rfl, hp, by rw [ht]; exact hw.1, va_K.moved hW.alike E.2.2.2.1, hw.2.1⟩, hw.2.2.F ht⟩
theorem x_iret {post : Option Value → va_W → Prop} {v : Int32} {w1 : va_W} (E : xE g p s m args meth c cc nL own A) (hr : meth.sig.returnType = some .int) (hw : xW g A s w1 H locs) (hdg : decode cc pc = .ok (.ireturn, 1)) (hp : post (some (.int v)) w1) : W p l e R s m args below meth c H locs cells slots (MQ below (xQ g A post) args s cells slots A) (F0 m pc ls [.int v]) :=
  W.iret (v := v) E.x E.b hr (hw.fin E hp) hw.2.2.2.2 hdg E.2.1
theorem x_zret {post : Option Value → va_W → Prop} {v : Int32} {w1 : va_W} (E : xE g p s m args meth c cc nL own A) (hr : meth.sig.returnType = some .boolean) (hw : xW g A s w1 H locs) (hdg : decode cc pc = .ok (.ireturn, 1)) (hv : v = 0 ∨ v = 1) (hp : post (some (.int v)) w1) : W p l e R s m args below meth c H locs cells slots (MQ below (xQ g A post) args s cells slots A) (F0 m pc ls [.int v]) :=
  W.zret (v := v) E.x E.b hr (by rcases hv with rfl | rfl <;> rfl) (hw.fin E hp) hw.2.2.2.2 hdg E.2.1
theorem x_vret {post : Option Value → va_W → Prop} {w1 : va_W} (E : xE g p s m args meth c cc nL own A) (hr : meth.sig.returnType = none) (hw : xW g A s w1 H locs) (hdg : decode cc pc = .ok (.return_, 1)) (hp : post none w1) : W p l e R s m args below meth c H locs cells slots (MQ below (xQ g A post) args s cells slots A) (F0 m pc ls []) :=
  W.vret E.x E.b hr (hw.fin E hp) hw.2.2.2.2 hdg E.2.1
theorem x_lret {post : Option Value → va_W → Prop} {v : Int64} {w1 : va_W} (E : xE g p s m args meth c cc nL own A) (hr : meth.sig.returnType = some .long) (hw : xW g A s w1 H locs) (hdg : decode cc pc = .ok (.lreturn, 1)) (hp : post (some (.long v)) w1) : W p l e R s m args below meth c H locs cells slots (MQ below (xQ g A post) args s cells slots A) (F0 m pc ls [.long v]) :=
  W.lret (v := v) E.x E.b hr (hw.fin E hp) hw.2.2.2.2 hdg E.2.1
theorem x_aret {post : Option Value → va_W → Prop} {a : Nat} {n : String} {w1 : va_W} (E : xE g p s m args meth c cc nL own A) (hr : meth.sig.returnType = some (.object n)) (hw : xW g A s w1 H locs) (hdg : decode cc pc = .ok (.areturn, 1)) (hp : post (some (.ref a)) w1) : W p l e R s m args below meth c H locs cells slots (MQ below (xQ g A post) args s cells slots A) (F0 m pc ls [.ref a]) :=
  W.aret (v := .ref a) E.x E.b hr (Or.inl ⟨n, rfl⟩) (Or.inr ⟨a, rfl⟩) (hw.fin E hp) hw.2.2.2.2 hdg E.2.1
/-! fields -/
def xFL (own : String) (index ci k : Nat) (C : String) (T : u_T) (N : Nat) : Prop := vwCl[ci]? = some (C, T, N) ∧ k < N ∧ (∀ w ∈ u_ws C T N, w ∈ wBig) ∧ Cond.fieldLink own index (T k).1 (T k).2.1 (T k).2.2.1 ∈ wBig
def xFN (own : String) (index ci k : Nat) (C : String) (T : u_T) (N : Nat) : Prop := vwCl[ci]? = some (C, T, N) ∧ k < N ∧ (∀ w ∈ u_ws C T N, w ∈ wBig) ∧ Cond.fieldLinkNest own index (T k).1 (T k).2.1 (T k).2.2.1 "SpeedWarden" ∈ nsW
def xFP (k : Nat) (T : u_T) (N : Nat) (ty0 : Nat → FieldType) (fin : Bool) : Prop := (∀ k, k < N → parseFieldDescriptor (T k).2.2.1 = some (ty0 k)) ∧ (∀ a, a < N → ∀ b, b < N → a ≠ b → (T a).2.1 ≠ (T b).2.1) ∧ (T k).2.2.2 = fin
variable {index ci k N : Nat} {C : String} {T : u_T} {ty0 : Nat → FieldType} {a : Nat} {fs : List Value} {v : Value}
theorem x_get (E : xE g p s m args meth c cc nL own A) (hw : xW g A s ws H locs) (f : xFL own index ci k C T N) (q0 : Nat) (he : ws[q0]? = some (a, .inr (ci, fs))) (hv : fs[k]? = some v) (hdg : decode cc pc = .ok (.getfield index, 3))
    (kk : W p l e R s m args below meth c H locs cells slots Q (F0 m (pc + 3) ls (v :: rest))) : W p l e R s m args below meth c H locs cells slots Q (F0 m pc ls (.ref a :: rest)) :=
  va_get (C := C) (T := T) (N := N) E.x E.b E.ts f.2.2.1 E.ow E.2.2.2.1 hw.1 q0 he f.1 k f.2.1 (E.ts _ f.2.2.2) (fun _ h => h) hv hdg kk
theorem x_getN (E : xE g p s m args meth c cc nL own A) (hw : xW g A s ws H locs) (f : xFN own index ci k C T N) (q0 : Nat) (he : ws[q0]? = some (a, .inr (ci, fs))) (hv : fs[k]? = some v) (hdg : decode cc pc = .ok (.getfield index, 3))
    (kk : W p l e R s m args below meth c H locs cells slots Q (F0 m (pc + 3) ls (v :: rest))) : W p l e R s m args below meth c H locs cells slots Q (F0 m pc ls (.ref a :: rest)) :=
  va_getN (C := C) (T := T) (N := N) E.x E.b E.ts f.2.2.1 E.ow E.2.2.2.1 hw.1 q0 he f.1 k f.2.1 ((E.2.2.2.2.1.1 _ f.2.2.2).use rfl) (fun _ h => h) hv hdg kk
theorem x_put (E : xE g p s m args meth c cc nL own A) (hw : xW g A s ws H locs) (f : xFL own index ci k C T N) (f2 : xFP k T N ty0 false) (q0 : Nat) (he : ws[q0]? = some (a, .inr (ci, fs))) {ty : FieldType} (hd : parseFieldDescriptor (T k).2.2.1 = some ty) (hn : narrow ty v = v) (hfit : fits ty v = true) (hl : k < fs.length) (hws : ws.set q0 (a, .inr (ci, fs.set k v)) = ws') (hdg : decode cc pc = .ok (.putfield index, 3))
    (kk : ∀ (H1 : Heap) (locs1 : List Loc), xW g A s ws' H1 locs1 → W p l e R s m args below meth c H1 locs1 cells slots Q (F0 m (pc + 3) ls rest)) : W p l e R s m args below meth c H locs cells slots Q (F0 m pc ls (v :: .ref a :: rest)) := by
  subst hws
  exact va_put (C := C) (T := T) (N := N) E.x E.b E.ts f.2.2.1 ty0 f2.1 f2.2.1 E.ow E.2.2.2.1 hw.1 hw.2.1 hw.2.2 q0 he f.1 k f.2.1 (E.ts _ f.2.2.2) (fun _ h => h) f2.2.2 hd hn hfit hl hdg (fun H1 l1 h1 h2 h3 => kk H1 l1 ⟨h1, h2, h3⟩)
theorem x_putN (E : xE g p s m args meth c cc nL own A) (hw : xW g A s ws H locs) (f : xFN own index ci k C T N) (f2 : xFP k T N ty0 false) (q0 : Nat) (he : ws[q0]? = some (a, .inr (ci, fs))) {ty : FieldType} (hd : parseFieldDescriptor (T k).2.2.1 = some ty) (hn : narrow ty v = v) (hfit : fits ty v = true) (hl : k < fs.length) (hws : ws.set q0 (a, .inr (ci, fs.set k v)) = ws') (hdg : decode cc pc = .ok (.putfield index, 3))
    (kk : ∀ (H1 : Heap) (locs1 : List Loc), xW g A s ws' H1 locs1 → W p l e R s m args below meth c H1 locs1 cells slots Q (F0 m (pc + 3) ls rest)) : W p l e R s m args below meth c H locs cells slots Q (F0 m pc ls (v :: .ref a :: rest)) := by
  subst hws
  exact va_putN (C := C) (T := T) (N := N) E.x E.b E.ts f.2.2.1 ty0 f2.1 f2.2.1 E.ow E.2.2.2.1 hw.1 hw.2.1 hw.2.2 q0 he f.1 k f.2.1 ((E.2.2.2.2.1.1 _ f.2.2.2).use rfl) (fun _ h => h) f2.2.2 hd hn hfit hl hdg (fun H1 l1 h1 h2 h3 => kk H1 l1 ⟨h1, h2, h3⟩)
theorem x_putF (E : xE g p s m args meth c cc nL own A) (hin : meth.name = "<init>") (hw : xW g A s ws H locs) (f : xFL own index ci k C T N) (f2 : xFP k T N ty0 true) (hdecl : (T k).1 = own) (q0 : Nat) (he : ws[q0]? = some (a, .inr (ci, fs))) {ty : FieldType} (hd : parseFieldDescriptor (T k).2.2.1 = some ty) (hn : narrow ty v = v) (hfit : fits ty v = true) (hl : k < fs.length) (hws : ws.set q0 (a, .inr (ci, fs.set k v)) = ws') (hdg : decode cc pc = .ok (.putfield index, 3))
    (kk : ∀ (H1 : Heap) (locs1 : List Loc), xW g A s ws' H1 locs1 → W p l e R s m args below meth c H1 locs1 cells slots Q (F0 m (pc + 3) ls rest)) : W p l e R s m args below meth c H locs cells slots Q (F0 m pc ls (v :: .ref a :: rest)) := by
  subst hws
  exact va_putF (C := C) (T := T) (N := N) E.x E.b E.ts f.2.2.1 ty0 f2.1 f2.2.1 E.ow E.2.2.2.1 hw.1 hw.2.1 hw.2.2 q0 he f.1 k f.2.1 (E.ts _ f.2.2.2) (fun _ h => h) f2.2.2 hin hdecl hd hn hfit hl hdg (fun H1 l1 h1 h2 h3 => kk H1 l1 ⟨h1, h2, h3⟩)
/-! int rows, by places that are plain numbers -/
theorem vp_in_n {n j : Nat} (h : j < n) (hn : n < 2 ^ 31) : vp_in (nI j) n := vp_in_nI h hn
theorem x_ild (E : xE g p s m args meth c cc nL own A) (hw : xW g A s ws H locs) (q0 : Nat) {n : Nat} {f : Nat → Int32} (he : ws[q0]? = some (a, .inl (g.2.1, n, .inl f))) {i : Int32} (j : Nat) (hi : i = nI j) (hj : j < n) (hn : n < 2 ^ 31) (hdg : decode cc pc = .ok (.iaload, 1))
    (kk : W p l e R s m args below meth c H locs cells slots Q (F0 m (pc + 1) ls (.int (f j) :: rest))) : W p l e R s m args below meth c H locs cells slots Q (F0 m pc ls (.int i :: .ref a :: rest)) := by
  subst hi
  refine va_iald E.x E.b E.2.2.2.1 hw.1 q0 0 he rfl (vp_in_nI hj hn) hdg ?_
  rw [nI_clamp (Nat.lt_trans hj hn)]
  exact kk
theorem x_ist (E : xE g p s m args meth c cc nL own A) (hw : xW g A s ws H locs) (q0 : Nat) {n : Nat} {f : Nat → Int32} (he : ws[q0]? = some (a, .inl (g.2.1, n, .inl f))) {i x : Int32} (j : Nat) (hi : i = nI j) (hj : j < n) (hn : n < 2 ^ 31) (hws : ws.set q0 (a, .inl (g.2.1, n, .inl (upd f j x))) = ws') (hdg : decode cc pc = .ok (.iastore, 1))
    (kk : ∀ (H1 : Heap) (locs1 : List Loc), xW g A s ws' H1 locs1 → W p l e R s m args below meth c H1 locs1 cells slots Q (F0 m (pc + 1) ls rest)) : W p l e R s m args below meth c H locs cells slots Q (F0 m pc ls (.int x :: .int i :: .ref a :: rest)) := by
  subst hi
  subst hws
  refine va_iast E.x E.b E.2.2.2.1 hw.1 hw.2.1 hw.2.2 q0 0 he rfl (vp_in_nI hj hn) hdg ?_
  rw [nI_clamp (Nat.lt_trans hj hn)]
  exact fun H1 l1 h1 h2 h3 => kk H1 l1 ⟨h1, h2, h3⟩
/-- a row's contents count only below its length -/
theorem vp_cell_congr {cA : ClassId} {n : Nat} {f f' : Nat → Int32} (h : ∀ j, j < n → f j = f' j) : vp_cell cA (n, .inl f) = vp_cell cA (n, .inl f') := by
  show arrV cA n (fun j => .int (f j)) = arrV cA n (fun j => .int (f' j))
  unfold arrV
  congr 1
  apply Array.ext
  · simp
  · intro i h1 h2
    simp only [Array.getElem_ofFn]
    rw [h i (by simpa using h1)]
theorem xW.arr (hw : xW g A s ws H locs) (q0 : Nat) {n : Nat} {f f' : Nat → Int32} (he : ws[q0]? = some (a, .inl (g.2.1, n, .inl f))) (h : ∀ j, j < n → f j = f' j) (hws : ws.set q0 (a, .inl (g.2.1, n, .inl f')) = ws') : xW g A s ws' H locs := by
  subst hws
  refine ⟨va_P.set hw.1 hw.2.1 he ?_ (fun _ _ => rfl), hw.2.1.set he, hw.2.2⟩
  have h1 := hw.1 q0 _ he
  show H[a]? = some (vp_cell g.2.1 (n, .inl f'))
  rw [← vp_cell_congr h]
  exact h1
end XK
