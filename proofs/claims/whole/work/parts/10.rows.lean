/-! rows on plain numbers and on truth values -/
def bI (b : Prop) [Decidable b] : Int32 := if b then 1 else 0
theorem bI_t {b : Prop} [Decidable b] (h : b) : bI b = 1 := if_pos h
theorem bI_f {b : Prop} [Decidable b] (h : ¬ b) : bI b = 0 := if_neg h
theorem bI_01 (b : Prop) [Decidable b] : bI b = 0 ∨ bI b = 1 := by
  by_cases h : b
  · exact Or.inr (bI_t h)
  · exact Or.inl (bI_f h)
theorem bI_0 {b : Prop} [Decidable b] : bI b = 0 ↔ ¬ b := by
  by_cases h : b
  · simp [bI, h]
  · simp [bI, h]
theorem lv_re {ls : Array Slot} {nL : Nat} {l l' : List (Nat × Value)} (h : lv_has ls nL l) (e : l = l') : lv_has ls nL l' := e ▸ h
section XN
variable {l : Launch} {g : xCfg} {p : Program} {e : Env} {R : Room} {s : State} {m : MethodId} {args : Array Value} {below : List Frame} {meth : Method} {c : Code} {cc : ByteArray} {nL : Nat} {own : String} {A : Nat → Prop} {ws ws' : va_W} {H : Heap} {locs : List Loc} {cells slots : Nat} {Q : State → Prop} {pc : Nat} {ls : Array Slot} {rest : List Value}
theorem n_lt {a b : Nat} (ha : a < 2 ^ 31) (hb : b < 2 ^ 31) : nI a < nI b ↔ a < b := nI_ltI ha hb
theorem n_le {a b : Nat} (ha : a < 2 ^ 31) (hb : b < 2 ^ 31) : nI a ≤ nI b ↔ a ≤ b := nI_leI ha hb
theorem n_eq {a b : Nat} (ha : a < 2 ^ 31) (hb : b < 2 ^ 31) : nI a = nI b ↔ a = b := nI_eq ha hb
theorem xn_lt (hx : p.tables.exec = Jvm.exec) (hb : c.code = cc) {i j : Int32} (a b : Nat) (hi : i = nI a) (hj : j = nI b) (h1 : a < 2 ^ 31) (h2 : b < 2 ^ 31) {off : Int} {tgt : Nat} (hdg : decode cc pc = .ok (.if_icmp .lt off, 3)) (ht : (pc : Int) + off = (tgt : Int))
    (kt : a < b → W p l e R s m args below meth c H locs cells slots Q (F0 m tgt ls rest)) (kf : b ≤ a → W p l e R s m args below meth c H locs cells slots Q (F0 m (pc + 3) ls rest)) : W p l e R s m args below meth c H locs cells slots Q (F0 m pc ls (.int j :: .int i :: rest)) :=
  lv_icmp_lt hx hb hdg ht (fun h => kt ((n_lt h1 h2).mp (by rw [← hi, ← hj]; exact h))) (fun h => kf (Nat.le_of_not_lt fun z => h (by rw [hi, hj]; exact (n_lt h1 h2).mpr z)))
theorem xn_ge (hx : p.tables.exec = Jvm.exec) (hb : c.code = cc) {i j : Int32} (a b : Nat) (hi : i = nI a) (hj : j = nI b) (h1 : a < 2 ^ 31) (h2 : b < 2 ^ 31) {off : Int} {tgt : Nat} (hdg : decode cc pc = .ok (.if_icmp .ge off, 3)) (ht : (pc : Int) + off = (tgt : Int))
    (kt : b ≤ a → W p l e R s m args below meth c H locs cells slots Q (F0 m tgt ls rest)) (kf : a < b → W p l e R s m args below meth c H locs cells slots Q (F0 m (pc + 3) ls rest)) : W p l e R s m args below meth c H locs cells slots Q (F0 m pc ls (.int j :: .int i :: rest)) :=
  lv_icmp_ge hx hb hdg ht (fun h => kt ((n_le h2 h1).mp (by rw [← hi, ← hj]; exact h))) (fun h => kf (Nat.lt_of_not_le fun z => h (by rw [hi, hj]; exact (n_le h2 h1).mpr z)))
theorem xn_gt (hx : p.tables.exec = Jvm.exec) (hb : c.code = cc) {i j : Int32} (a b : Nat) (hi : i = nI a) (hj : j = nI b) (h1 : a < 2 ^ 31) (h2 : b < 2 ^ 31) {off : Int} {tgt : Nat} (hdg : decode cc pc = .ok (.if_icmp .gt off, 3)) (ht : (pc : Int) + off = (tgt : Int))
    (kt : b < a → W p l e R s m args below meth c H locs cells slots Q (F0 m tgt ls rest)) (kf : a ≤ b → W p l e R s m args below meth c H locs cells slots Q (F0 m (pc + 3) ls rest)) : W p l e R s m args below meth c H locs cells slots Q (F0 m pc ls (.int j :: .int i :: rest)) :=
  lv_icmp_gt hx hb hdg ht (fun h => kt ((n_lt h2 h1).mp (by rw [← hi, ← hj]; exact h))) (fun h => kf (Nat.le_of_not_lt fun z => h (by rw [hi, hj]; exact (n_lt h2 h1).mpr z)))
theorem xn_le (hx : p.tables.exec = Jvm.exec) (hb : c.code = cc) {i j : Int32} (a b : Nat) (hi : i = nI a) (hj : j = nI b) (h1 : a < 2 ^ 31) (h2 : b < 2 ^ 31) {off : Int} {tgt : Nat} (hdg : decode cc pc = .ok (.if_icmp .le off, 3)) (ht : (pc : Int) + off = (tgt : Int))
    (kt : a ≤ b → W p l e R s m args below meth c H locs cells slots Q (F0 m tgt ls rest)) (kf : b < a → W p l e R s m args below meth c H locs cells slots Q (F0 m (pc + 3) ls rest)) : W p l e R s m args below meth c H locs cells slots Q (F0 m pc ls (.int j :: .int i :: rest)) :=
  lv_icmp_le hx hb hdg ht (fun h => kt ((n_le h1 h2).mp (by rw [← hi, ← hj]; exact h))) (fun h => kf (Nat.lt_of_not_le fun z => h (by rw [hi, hj]; exact (n_le h1 h2).mpr z)))
theorem xn_eq (hx : p.tables.exec = Jvm.exec) (hb : c.code = cc) {i j : Int32} (a b : Nat) (hi : i = nI a) (hj : j = nI b) (h1 : a < 2 ^ 31) (h2 : b < 2 ^ 31) {off : Int} {tgt : Nat} (hdg : decode cc pc = .ok (.if_icmp .eq off, 3)) (ht : (pc : Int) + off = (tgt : Int))
    (kt : a = b → W p l e R s m args below meth c H locs cells slots Q (F0 m tgt ls rest)) (kf : a ≠ b → W p l e R s m args below meth c H locs cells slots Q (F0 m (pc + 3) ls rest)) : W p l e R s m args below meth c H locs cells slots Q (F0 m pc ls (.int j :: .int i :: rest)) :=
  lv_icmp_eq hx hb hdg ht (fun h => kt ((n_eq h1 h2).mp (by rw [← hi, ← hj]; exact h))) (fun h => kf (fun z => h (by rw [hi, hj]; exact (n_eq h1 h2).mpr z)))
theorem xn_ne (hx : p.tables.exec = Jvm.exec) (hb : c.code = cc) {i j : Int32} (a b : Nat) (hi : i = nI a) (hj : j = nI b) (h1 : a < 2 ^ 31) (h2 : b < 2 ^ 31) {off : Int} {tgt : Nat} (hdg : decode cc pc = .ok (.if_icmp .ne off, 3)) (ht : (pc : Int) + off = (tgt : Int))
    (kt : a ≠ b → W p l e R s m args below meth c H locs cells slots Q (F0 m tgt ls rest)) (kf : a = b → W p l e R s m args below meth c H locs cells slots Q (F0 m (pc + 3) ls rest)) : W p l e R s m args below meth c H locs cells slots Q (F0 m pc ls (.int j :: .int i :: rest)) :=
  lv_icmp_ne hx hb hdg ht (fun h => kt (fun z => h (by rw [hi, hj]; exact (n_eq h1 h2).mpr z))) (fun h => kf ((n_eq h1 h2).mp (by rw [← hi, ← hj]; exact h)))
/-- against 0 -/
theorem xz_eq (hx : p.tables.exec = Jvm.exec) (hb : c.code = cc) {i : Int32} (a : Nat) (hi : i = nI a) (h1 : a < 2 ^ 31) {off : Int} {tgt : Nat} (hdg : decode cc pc = .ok (.ifCond .eq off, 3)) (ht : (pc : Int) + off = (tgt : Int))
    (kt : a = 0 → W p l e R s m args below meth c H locs cells slots Q (F0 m tgt ls rest)) (kf : 0 < a → W p l e R s m args below meth c H locs cells slots Q (F0 m (pc + 3) ls rest)) : W p l e R s m args below meth c H locs cells slots Q (F0 m pc ls (.int i :: rest)) :=
  lv_if_eq hx hb hdg ht (fun h => kt ((n_eq h1 (by decide)).mp (by rw [← hi]; exact h))) (fun h => kf (Nat.pos_of_ne_zero fun z => h (by rw [hi, z]; rfl)))
theorem xz_ne (hx : p.tables.exec = Jvm.exec) (hb : c.code = cc) {i : Int32} (a : Nat) (hi : i = nI a) (h1 : a < 2 ^ 31) {off : Int} {tgt : Nat} (hdg : decode cc pc = .ok (.ifCond .ne off, 3)) (ht : (pc : Int) + off = (tgt : Int))
    (kt : 0 < a → W p l e R s m args below meth c H locs cells slots Q (F0 m tgt ls rest)) (kf : a = 0 → W p l e R s m args below meth c H locs cells slots Q (F0 m (pc + 3) ls rest)) : W p l e R s m args below meth c H locs cells slots Q (F0 m pc ls (.int i :: rest)) :=
  lv_if_ne hx hb hdg ht (fun h => kt (Nat.pos_of_ne_zero fun z => h (by rw [hi, z]; rfl))) (fun h => kf ((n_eq h1 (by decide)).mp (by rw [← hi]; exact h)))
theorem xz_le (hx : p.tables.exec = Jvm.exec) (hb : c.code = cc) {i : Int32} (a : Nat) (hi : i = nI a) (h1 : a < 2 ^ 31) {off : Int} {tgt : Nat} (hdg : decode cc pc = .ok (.ifCond .le off, 3)) (ht : (pc : Int) + off = (tgt : Int))
    (kt : a = 0 → W p l e R s m args below meth c H locs cells slots Q (F0 m tgt ls rest)) (kf : 0 < a → W p l e R s m args below meth c H locs cells slots Q (F0 m (pc + 3) ls rest)) : W p l e R s m args below meth c H locs cells slots Q (F0 m pc ls (.int i :: rest)) :=
  lv_if_le hx hb hdg ht (fun h => kt (Nat.le_zero.mp ((n_le h1 (by decide)).mp (by rw [← hi]; exact h)))) (fun h => kf (Nat.pos_of_ne_zero fun z => h (by rw [hi, z]; exact (n_le (by decide) (by decide)).mpr (Nat.le_refl 0))))
theorem xb_eq (hx : p.tables.exec = Jvm.exec) (hb : c.code = cc) {P : Prop} [Decidable P] {off : Int} {tgt : Nat} (hdg : decode cc pc = .ok (.ifCond .eq off, 3)) (ht : (pc : Int) + off = (tgt : Int))
    (kt : ¬ P → W p l e R s m args below meth c H locs cells slots Q (F0 m tgt ls rest)) (kf : P → W p l e R s m args below meth c H locs cells slots Q (F0 m (pc + 3) ls rest)) : W p l e R s m args below meth c H locs cells slots Q (F0 m pc ls (.int (bI P) :: rest)) :=
  lv_if_eq hx hb hdg ht (fun h => kt (bI_0.mp h)) (fun h => kf (Decidable.not_not.mp (fun z => h (bI_0.mpr z))))
theorem xb_ne (hx : p.tables.exec = Jvm.exec) (hb : c.code = cc) {P : Prop} [Decidable P] {off : Int} {tgt : Nat} (hdg : decode cc pc = .ok (.ifCond .ne off, 3)) (ht : (pc : Int) + off = (tgt : Int))
    (kt : P → W p l e R s m args below meth c H locs cells slots Q (F0 m tgt ls rest)) (kf : ¬ P → W p l e R s m args below meth c H locs cells slots Q (F0 m (pc + 3) ls rest)) : W p l e R s m args below meth c H locs cells slots Q (F0 m pc ls (.int (bI P) :: rest)) :=
  lv_if_ne hx hb hdg ht (fun h => kt (Decidable.not_not.mp (fun z => h (bI_0.mpr z)))) (fun h => kf (bI_0.mp h))
/-- the top of the stack under another name -/
theorem x_top {v v' : Value} (h : v = v') (kk : W p l e R s m args below meth c H locs cells slots Q (F0 m pc ls (v' :: rest))) : W p l e R s m args below meth c H locs cells slots Q (F0 m pc ls (v :: rest)) := h ▸ kk
theorem x_topi {x x' : Int32} (h : x = x') (kk : W p l e R s m args below meth c H locs cells slots Q (F0 m pc ls (.int x' :: rest))) : W p l e R s m args below meth c H locs cells slots Q (F0 m pc ls (.int x :: rest)) := h ▸ kk
theorem xn_add (hx : p.tables.exec = Jvm.exec) (hb : c.code = cc) (a b : Nat) {i j : Int32} (hi : i = nI a) (hj : j = nI b) (hdg : decode cc pc = .ok (.iadd, 1)) (kk : W p l e R s m args below meth c H locs cells slots Q (F0 m (pc + 1) ls (.int (nI (a + b)) :: rest))) : W p l e R s m args below meth c H locs cells slots Q (F0 m pc ls (.int j :: .int i :: rest)) :=
  lv_iadd hx hb hdg (by rw [hi, hj, nI_add]; exact kk)
theorem xn_mul (hx : p.tables.exec = Jvm.exec) (hb : c.code = cc) (a b : Nat) {i j : Int32} (hi : i = nI a) (hj : j = nI b) (hdg : decode cc pc = .ok (.imul, 1)) (kk : W p l e R s m args below meth c H locs cells slots Q (F0 m (pc + 1) ls (.int (nI (a * b)) :: rest))) : W p l e R s m args below meth c H locs cells slots Q (F0 m pc ls (.int j :: .int i :: rest)) :=
  lv_imul hx hb hdg (by rw [hi, hj, pk_mul]; exact kk)
theorem xn_sub (hx : p.tables.exec = Jvm.exec) (hb : c.code = cc) (a b : Nat) {i j : Int32} (hi : i = nI a) (hj : j = nI b) (h : b ≤ a) (hdg : decode cc pc = .ok (.isub, 1)) (kk : W p l e R s m args below meth c H locs cells slots Q (F0 m (pc + 1) ls (.int (nI (a - b)) :: rest))) : W p l e R s m args below meth c H locs cells slots Q (F0 m pc ls (.int j :: .int i :: rest)) :=
  lv_isub hx hb hdg (by rw [hi, hj, pk_sub h]; exact kk)
/-- int rows, the read value under its name -/
theorem x_ld {a : Nat} (E : xE g p s m args meth c cc nL own A) (hw : xW g A s ws H locs) (q0 : Nat) {n : Nat} {f : Nat → Int32} (he : ws[q0]? = some (a, .inl (g.2.1, n, .inl f))) {i v : Int32} (j : Nat) (hi : i = nI j) (hj : j < n) (hn : n < 2 ^ 31) (hv : f j = v) (hdg : decode cc pc = .ok (.iaload, 1))
    (kk : W p l e R s m args below meth c H locs cells slots Q (F0 m (pc + 1) ls (.int v :: rest))) : W p l e R s m args below meth c H locs cells slots Q (F0 m pc ls (.int i :: .ref a :: rest)) := by
  subst hv
  exact x_ild E hw q0 he j hi hj hn hdg kk
theorem x_len {a : Nat} (E : xE g p s m args meth c cc nL own A) (hw : xW g A s ws H locs) (q0 : Nat) {n : Nat} {f : Nat → Int32} (he : ws[q0]? = some (a, .inl (g.2.1, n, .inl f))) (hdg : decode cc pc = .ok (.arraylength, 1))
    (kk : W p l e R s m args below meth c H locs cells slots Q (F0 m (pc + 1) ls (.int (nI n) :: rest))) : W p l e R s m args below meth c H locs cells slots Q (F0 m pc ls (.ref a :: rest)) :=
  va_alen E.x E.b E.2.2.2.1 hw.1 q0 0 he rfl (v := nI n) rfl hdg kk
theorem xr_i {post : Option Value → va_W → Prop} {v : Int32} {w1 : va_W} (hQ : Q = MQ below (xQ g A post) args s cells slots A) (E : xE g p s m args meth c cc nL own A) (hr : meth.sig.returnType = some .int) (hw : xW g A s w1 H locs) (hdg : decode cc pc = .ok (.ireturn, 1)) (hp : post (some (.int v)) w1) : W p l e R s m args below meth c H locs cells slots Q (F0 m pc ls [.int v]) := by
  subst hQ
  exact x_iret E hr hw hdg hp
theorem xr_z {post : Option Value → va_W → Prop} {v : Int32} {w1 : va_W} (hQ : Q = MQ below (xQ g A post) args s cells slots A) (E : xE g p s m args meth c cc nL own A) (hr : meth.sig.returnType = some .boolean) (hw : xW g A s w1 H locs) (hdg : decode cc pc = .ok (.ireturn, 1)) (hv : v = 0 ∨ v = 1) (hp : post (some (.int v)) w1) : W p l e R s m args below meth c H locs cells slots Q (F0 m pc ls [.int v]) := by
  subst hQ
  exact x_zret E hr hw hdg hv hp
theorem xr_l {post : Option Value → va_W → Prop} {v : Int64} {w1 : va_W} (hQ : Q = MQ below (xQ g A post) args s cells slots A) (E : xE g p s m args meth c cc nL own A) (hr : meth.sig.returnType = some .long) (hw : xW g A s w1 H locs) (hdg : decode cc pc = .ok (.lreturn, 1)) (hp : post (some (.long v)) w1) : W p l e R s m args below meth c H locs cells slots Q (F0 m pc ls [.long v]) := by
  subst hQ
  exact x_lret E hr hw hdg hp
theorem xr_a {post : Option Value → va_W → Prop} {a : Nat} {n : String} {w1 : va_W} (hQ : Q = MQ below (xQ g A post) args s cells slots A) (E : xE g p s m args meth c cc nL own A) (hr : meth.sig.returnType = some (.object n)) (hw : xW g A s w1 H locs) (hdg : decode cc pc = .ok (.areturn, 1)) (hp : post (some (.ref a)) w1) : W p l e R s m args below meth c H locs cells slots Q (F0 m pc ls [.ref a]) := by
  subst hQ
  exact x_aret E hr hw hdg hp
theorem xr_v {post : Option Value → va_W → Prop} {w1 : va_W} (hQ : Q = MQ below (xQ g A post) args s cells slots A) (E : xE g p s m args meth c cc nL own A) (hr : meth.sig.returnType = none) (hw : xW g A s w1 H locs) (hdg : decode cc pc = .ok (.return_, 1)) (hp : post none w1) : W p l e R s m args below meth c H locs cells slots Q (F0 m pc ls []) := by
  subst hQ
  exact x_vret E hr hw hdg hp
/-- the whole of a method: what is to be shown of its body -/
theorem Ct.walk {y : MethodName} {ret : Option FieldType} {rm : Room} {av : List Value} {w0 : va_W} {post : Option Value → va_W → Prop} (hy : plainName y.cls = true) (hn : (lg_sl av).length ≤ nL)
    (k : ∀ (p : Program) (e : Env) (s : State) (m : MethodId) (below : List Frame) (meth : Method) (c : Code) (A : Nat → Prop) (ls : Array Slot) (Q : State → Prop), Q = MQ below (xQ g A post) av.toArray s rm.cells rm.slots A → xE g p s m av.toArray meth c cc nL y.cls A → meth.sig.returnType = ret → meth.name = y.name → xW g A s w0 s.heap [] → lv_has ls nL (lv_args 0 av) →
      W p l e rm s m av.toArray below meth c s.heap [] 0 0 Q (F0 m 0 ls [])) : Ct l g y cc nL ret rm av w0 post :=
  Ct.body hy hn (fun p e s m below meth c A ls E h1 h2 hw hl => k p e s m below meth c A ls _ rfl E h1 h2 hw hl)
/-- a switch over a table, at a known number -/
theorem x_sw (hx : p.tables.exec = Jvm.exec) (hb : c.code = cc) {dflt lo hi : Int} {offs : Array Int} {len : Nat} {x v : Int32} {off : Int} {tgt : Nat} (hdg : decode cc pc = .ok (.tableswitch dflt lo hi offs, len)) (hv : x = v) (h1 : ¬ v.toInt < lo) (h2 : ¬ hi < v.toInt) (ho : offs[(v.toInt - lo).toNat]? = some off) (ht : (pc : Int) + off = (tgt : Int))
    (k : W p l e R s m args below meth c H locs cells slots Q (F0 m tgt ls rest)) : W p l e R s m args below meth c H locs cells slots Q (F0 m pc ls (.int x :: rest)) := by
  subst hv
  exact lv_tableIn hx hb hdg h1 h2 ho ht k
/-- a whole row copied -/
theorem x_copy {a0 a1 n q0 q1 index : Nat} {f f1 : Nat → Int32} (E : xE g p s m args meth c cc nL own A) (hw : xW g A s ws H locs) (k1 : Cond.methodLink own index arraycopyName ∈ wBig ∧ Cond.native arraycopyName ∈ wBig ∧ Cond.static arraycopyName ∈ wBig ∧ Cond.initialized "java/lang/System" ∈ wBig) (ha0 : ws[q0]? = some (a0, .inl (g.2.1, n, .inl f))) (ha1 : ws[q1]? = some (a1, .inl (g.2.1, n, .inl f1))) (hn : n < 2 ^ 31) (hls : ls.size = nL) {z1 z2 z : Int32} (hz1 : z1 = 0) (hz2 : z2 = 0) (hz : z = nI n) (hfr : 1 ≤ R.frames) (hlo : (rest.map fun v => v.category).sum + (nativeFrameWords "java/lang/System" "arraycopy" 5 + 11) ≤ R.locals) (hws : ws.set q1 (a1, .inl (g.2.1, n, .inl f)) = ws') (hdg : decode cc pc = .ok (.invokestatic index, 3))
    (kk : ∀ (H1 : Heap) (locs1 : List Loc), xW g A s ws' H1 locs1 → W p l e R s m args below meth c H1 locs1 cells slots Q (F0 m (pc + 3) ls rest)) : W p l e R s m args below meth c H locs cells slots Q (F0 m pc ls (.int z :: .int z2 :: .ref a1 :: .int z1 :: .ref a0 :: rest)) := by
  subst hz1 hz2 hz hws
  have e0 : (0 : Int32).toNatClampNeg = 0 := rfl
  have e1 : (nI n).toNatClampNeg = n := nI_clamp hn
  refine va_copyi E.x E.b (E.ml.trans hls.symm) E.ow (E.ts _ k1.1) (E.ts _ k1.2.1) (E.ts _ k1.2.2.1) (E.ts _ k1.2.2.2) E.2.2.2.1 hw.1 hw.2.1 hw.2.2 q0 q1 0 0 ha0 ha1 rfl rfl rfl (by decide) (by decide) (nI_pos hn) (by rw [e0, e1]; omega) (by rw [e0, e1]; omega) (fun _ _ => rfl) hfr hlo hdg ?_
  intro H1 l1 h1 h2 h3
  have hw1 : xW g A s _ H1 l1 := ⟨h1, h2, h3⟩
  have hq : q1 < ws.length := (List.getElem?_eq_some_iff.mp ha1).1
  refine kk H1 l1 (hw1.arr (f' := f) q1 (List.getElem?_set_self hq) ?_ (List.set_set _))
  intro j hj
  rw [e0, e1]
  unfold va_cpy
  rw [if_pos ⟨Nat.zero_le j, by omega⟩]
  congr 1
  omega
/-- a static row -/
theorem x_tld {t N : Nat} {f : Nat → Int32} (E : xE g p s m args meth c cc nL own A) (hw : xW g A s ws H locs) (hT : va_T .int t N (fun k => .int (f k)) A s s.heap) {i v : Int32} (j : Nat) (hi : i = nI j) (hj : j < N) (hN : N < 2 ^ 31) (hv : f j = v) (hdg : decode cc pc = .ok (.iaload, 1))
    (kk : W p l e R s m args below meth c H locs cells slots Q (F0 m (pc + 1) ls (.int v :: rest))) : W p l e R s m args below meth c H locs cells slots Q (F0 m pc ls (.int i :: .ref t :: rest)) := by
  subst hi hv
  refine va_ti E.x E.b hT hw.2.2 (vp_in_nI hj hN) ?_ hdg kk
  rw [nI_clamp (Nat.lt_trans hj hN)]
theorem x_out {x : Int32} (n : Nat) {hi : Int} (hn : n < 2 ^ 31) (hh : hi + 1 = (n : Int)) (h : ∀ k, k < n → x ≠ nI k) : x.toInt < 0 ∨ hi < x.toInt := by
  by_cases h0 : x.toInt < 0
  · exact Or.inl h0
  · refine Or.inr (Int.not_le.mp fun hle => ?_)
    have h1 : vp_in x n := vp_in_iff.mpr ⟨by omega, by omega⟩
    obtain ⟨j, hj, e⟩ := vp_in_of h1 hn
    exact h j hj e
theorem nI_dec (j : Nat) : nI j + Int32.ofInt (-1) = nI j - 1 := by
  have h : Int32.ofInt (-1) = -1 := by decide
  rw [h, ← Int32.sub_eq_add_neg]
theorem nI_m1lt {k : Nat} (hk : k < 2 ^ 31) : nI k - 1 < 0 ↔ k = 0 := by
  cases k with
  | zero => exact ⟨fun _ => rfl, fun _ => by decide⟩
  | succ j =>
    rw [nI_pred]
    exact ⟨fun h => absurd h (nI_pos (by omega)), fun h => by omega⟩
theorem xp_lt (hx : p.tables.exec = Jvm.exec) (hb : c.code = cc) (k : Nat) (hk : k < 2 ^ 31) {off : Int} {tgt : Nat} (hdg : decode cc pc = .ok (.ifCond .lt off, 3)) (ht : (pc : Int) + off = (tgt : Int))
    (kt : k = 0 → W p l e R s m args below meth c H locs cells slots Q (F0 m tgt ls rest)) (kf : 0 < k → W p l e R s m args below meth c H locs cells slots Q (F0 m (pc + 3) ls rest)) : W p l e R s m args below meth c H locs cells slots Q (F0 m pc ls (.int (nI k - 1) :: rest)) :=
  lv_if_lt hx hb hdg ht (fun h => kt ((nI_m1lt hk).mp h)) (fun h => kf (Nat.pos_of_ne_zero fun z => h ((nI_m1lt hk).mpr z)))
end XN
