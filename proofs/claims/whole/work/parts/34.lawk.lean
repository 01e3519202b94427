def CW (g : xCfg) (h : Nat → Nat) (q : Nat → Nat → Nat) (bads : Int32) (nos : Int32) (fuls : Int32) (cau : Int32) (whe : Int32) (v : SV) (fo : Nat → Int32) (sq : Nat → Int32) (nx : Nat) (hd : Nat) (cnt : Nat) (p : Nat) (ca : Int32) (fa : Int32) (od : Int32) (tx : Nat → Int32) (wo : Nat → Int32) (nu : Nat → Int32) (S : Nat → SV) : va_W := [(h 17, .inr (7, [.ref (h 0), .ref (h 15), .ref (h 11), .int bads, .int nos, .int fuls, .int cau, .int whe])), (h 0, .inr (2, [.ref (h 1), .ref (h 2), .ref (h 7), .ref (h 8)])), (h 8, .inr (0, [.ref (h 9), .ref (h 10)])), (h 9, .inl (g.2.1, 200, .inl fo)), (h 10, .inl (g.2.1, 200, .inl sq)), (h 11, .inr (3, [.ref (h 12), .int (nI cnt), .int (nI p), .int ca, .int fa, .int od, .ref (h 13), .ref (h 14)])), (h 12, .inl (g.2.1, 120, .inl tx)), (h 13, .inl (g.2.1, 24, .inl wo)), (h 14, .inl (g.2.1, 72, .inl nu)), (h 15, .inr (1, [.ref (h 16), .int (nI nx), .int (nI hd)])), (h 16, .inl (g.2.2.1, 7, .inr (.inr (.inr (.inr (fun k => some (q k 1))))))), (h 1, .inr (4, [.ref (h 2), .ref (h 7)])), (h 2, .inr (5, [.int (nI v.1), .ref (h 3), .ref (h 4), .ref (h 5), .ref (h 6)])), (h 3, .inl (g.2.1, 200, .inl v.2.1)), (h 4, .inl (g.2.1, 200, .inl v.2.2.1)), (h 5, .inl (g.2.1, 200, .inl v.2.2.2.1)), (h 6, .inl (g.2.1, 7, .inl v.2.2.2.2.1)), (h 7, .inr (6, [.int (nI v.2.2.2.2.2.1), .int v.2.2.2.2.2.2.1, .int v.2.2.2.2.2.2.2.1, .int v.2.2.2.2.2.2.2.2.1, .int v.2.2.2.2.2.2.2.2.2.1, .int v.2.2.2.2.2.2.2.2.2.2.1, .int v.2.2.2.2.2.2.2.2.2.2.2.1, .int v.2.2.2.2.2.2.2.2.2.2.2.2]))] ++ slotsW g q S
def MW (g : xCfg) (o : Nat → Nat) (hs : Nat) (bads : Int32) (nos : Int32) (fuls : Int32) (cau : Int32) (whe : Int32) (cnt : Nat) (p : Nat) (fau : Int32) (isw : Int32) (ods : Int32) (v : SV) (P : Nat → SV) (sq : Nat → Int32) (tx : Nat → Int32) (wo : Nat → Int32) (nu : Nat → Int32) : va_W := [(o 0, .inr (8, [.ref (o 1), .ref (o 2), .int (nI hs), .int bads, .int nos, .int fuls, .int cau, .int whe, .ref (o 3), .ref (o 4), .int (nI cnt), .int (nI p), .int fau, .int isw, .int ods, .ref (o 5), .ref (o 6)])), (o 1, .inl (g.2.1, 616, .inl (nwF v))), (o 2, .inl (g.2.1, 4312, .inl (pF P))), (o 3, .inl (g.2.1, 201, .inl sq)), (o 4, .inl (g.2.1, 120, .inl tx)), (o 5, .inl (g.2.1, 24, .inl wo)), (o 6, .inl (g.2.1, 72, .inl nu))]
theorem x_scr {p : Program} {l : Launch} {e : Env} {R : Room} {s : State} {m : MethodId} {args : Array Value} {below : List Frame} {meth : Method} {c : Code} {H : Heap} {locs : List Loc} {cells slots : Nat} {Q : State → Prop} {cc : ByteArray} {pc : Nat} {ls : Array Slot} {rest : List Value} {A : Nat → Prop} (hx : p.tables.exec = Jvm.exec) (hb : c.code = cc) {b L : Nat} {xs : Nat → Int32} (hX : va_X b L xs s s.heap ∧ b < s.heap.size ∧ ¬ A b ∧ L ≤ 2560) (hS : va_S A s.heap H locs) {i v : Int32} (j : Nat) (hi : i = nI j) (hj : j < L) (hv : xs j = v) (hdg : decode cc pc = .ok (.iaload, 1))
    (kk : W p l e R s m args below meth c H locs cells slots Q (F0 m (pc + 1) ls (.int v :: rest))) : W p l e R s m args below meth c H locs cells slots Q (F0 m pc ls (.int i :: .ref b :: rest)) := by
  subst hi hv
  obtain ⟨h1, h2, h3, h4⟩ := hX
  refine va_sld hx hb h1 h2 h3 hS (vp_in_nI hj (by omega)) hdg ?_
  rw [nI_clamp (by omega)]
  exact kk
/-- the law at a place of its loop -/
def LA (p0 : Program) (l : Launch) (g : xCfg) (e0 : Env) (s0 : State) (m0 : MethodId) (below : List Frame) (meth : Method) (c0 : Code) (A0 : Nat → Prop) (b : Nat) (h : Nat → Nat) (q : Nat → Nat → Nat) (o : Nat → Nat) (Q : State → Prop) (K i pc : Nat) : Prop :=
  ∀ (bads : Int32) (nos : Int32) (fuls : Int32) (cau : Int32) (whe : Int32) (v : SV) (fo : Nat → Int32) (sq : Nat → Int32) (nx : Nat) (hd : Nat) (cnt : Nat) (p : Nat) (ca : Int32) (fa : Int32) (od : Int32) (tx : Nat → Int32) (wo : Nat → Int32) (nu : Nat → Int32) (S : Nat → SV) (pm : Nat) (fau : Int32) (isw : Int32) (ods : Int32) (w : SV) (P : Nat → SV) (sr : Nat → Int32) (wm : Nat → Int32) (nm : Nat → Int32) (H : Heap) (locs : List Loc) (ls : Array Slot), JJ K bads nos fuls cau whe v fo sq nx hd cnt S w P → xW g A0 s0 (MW g o hd bads nos fuls cau whe cnt pm fau isw ods w P sr tx wm nm ++ CW g h q bads nos fuls cau whe v fo sq nx hd cnt p ca fa od tx wo nu S) H locs → lv_has ls 4 [(3, .int (nI i)), (2, .ref (o 0)), (1, .ref (h 17)), (0, .ref b)] → W p0 l e0 room_1 s0 m0 #[Value.ref b] below meth c0 H locs 74 10986 Q (F0 m0 pc ls [])
theorem JJ.facts {K : Nat} {bads nos fuls cau whe : Int32} {v : SV} {fo sq : Nat → Int32} {nx hd cnt : Nat} {S : Nat → SV} {w : SV} {P : Nat → SV} (J : JJ K bads nos fuls cau whe v fo sq nx hd cnt S w P) (sr : Nat → Int32) :
    ∃ len, v.2.2.2.2.1 2 = nI len ∧ 1 ≤ len ∧ len ≤ 30 ∧ CV v len fo sq ∧ Gd K v ∧ RS v w ∧ 1 ≤ v.1 ∧ v.1 ≤ 200 ∧ v.2.2.2.2.2.1 < v.1 ∧ nx < 7 ∧ hd ≤ 6 ∧ cnt ≤ 120 ∧ Gd K w ∧ v.1 = w.1 ∧ 1 ≤ w.1 ∧ w.1 ≤ 200 ∧ w.2.2.2.2.1 2 = nI len ∧ w.2.2.2.2.2.1 < w.1 ∧ (∀ x, x < w.1 → 0 ≤ (lwQ w.2.1 w.2.2.1 (w.2.2.2.2.1 0) len w.1 0 sr) x ∧ (lwQ w.2.1 w.2.2.1 (w.2.2.2.2.1 0) len w.1 0 sr) x ≤ 3600) ∧ (∃ yq, yq < 2 ^ 30 ∧ w.2.2.2.2.2.2.1 = nI yq) := by
  obtain ⟨g1, R, ⟨len, hlen, hl1, hl2, C⟩, hnx, hhd, hcnt, -⟩ := J
  have gw := R.gd g1
  have h5 := g1.1.1
  obtain ⟨y, y1, y2⟩ := gw.2.1.2
  have hw1 := gw.2.1.1
  have hw2 := gw.1.2.1
  exact ⟨len, hlen, hl1, hl2, C, g1, R, by omega, g1.1.2.1, g1.2.1.1, hnx, hhd, hcnt, gw, R.1, by have := gw.1.1; omega, gw.1.2.1, (R.2.2.1 2 (by omega)).symm.trans hlen, gw.2.1.1, C.qs R g1.1 hl1 sr, y, by omega, y2⟩
theorem cmp_eq {x y : Int64} (h : x = y) : lg_cmp x y = 0 := by
  subst h
  unfold lg_cmp
  rw [if_neg (fun z : x > x => Int64.lt_irrefl z), if_pos rfl]
theorem sq_n {u : Int32} (h1 : 0 ≤ u) (h2 : u ≤ 99) : ∃ y, y ≤ 9801 ∧ u * u = nI y := by
  obtain ⟨k, k1, rfl⟩ := in_w (m := 99) (by decide) ⟨h1, h2⟩
  exact ⟨k * k, Nat.mul_le_mul k1 k1, pk_mul k k⟩
theorem not_in {x : Int32} {n : Nat} (hn : n < 2 ^ 31) (h : ¬ (0 ≤ x ∧ x ≤ nI n)) : ∀ k, k < n + 1 → x ≠ nI k := by
  intro k hk e
  exact h ⟨by rw [e]; exact nI_pos' (by omega), by rw [e]; exact nI_le (by omega) hn⟩
theorem Gd.pl {K : Nat} {v : SV} (g : Gd K v) {x : Nat} (hx : x < v.1) {u : Int32} (h1 : 0 ≤ u) (h2 : u ≤ 99) (sq : Nat → Int32) : Gd (K + 200) (trS (supT v.1 v.2.2.2.2.1 sq (plT x u v.2.2.2.2.2)) v) := by
  obtain ⟨y, y1, y2⟩ := sq_n h1 h2
  obtain ⟨c, -, -, -, -, t5, t6, t7⟩ := g
  have hT : TG K v.1 (plT x u v.2.2.2.2.2) := ⟨⟨hx, y, by show y ≤ 9801 + 50 * x; omega, y2⟩, ⟨0, by omega, rfl⟩, ⟨1000 * x, Nat.le_refl _, rfl⟩, ⟨1000 * x, by show 1000 * x ≤ 1100 * x; omega, rfl⟩, t5, t6, t7⟩
  exact ⟨c, TG.mono (supT_g hT) (by omega)⟩
theorem Gd.stp {K : Nat} {v : SV} (g : Gd K v) (sq : Nat → Int32) (u : Int32) : Gd (K + 200) (trS (stpT v.1 v.2.2.1 v.2.2.2.1 v.2.2.2.2.1 sq u v.2.2.2.2.2) v) :=
  ⟨g.1, (stp_g g.1.2.2.2 (fun x hx => (g.1.2.2.1 x hx).2.1) g.1.2.1 g.2).mono (by omega)⟩
theorem Gd.drv {K : Nat} {v : SV} (g : Gd K v) (sq : Nat → Int32) {m : Nat} (hm : m ≤ 50) : Gd (K + 200) (trS (drvT v.1 v.2.2.1 v.2.2.2.1 v.2.2.2.2.1 sq m v.2.2.2.2.2).2 v) :=
  ⟨g.1, (drv_g g.1.2.2.2 (fun x hx => (g.1.2.2.1 x hx).2.1) g.1.2.1 m K _ g.2).1.mono (by omega)⟩
theorem Gd.rel {K : Nat} {v : SV} (g : Gd K v) (sq : Nat → Int32) : Gd (K + 200) (trS (supT v.1 v.2.2.2.2.1 sq (relT v.2.2.2.2.2)) v) := by
  obtain ⟨c, t1, t2, t3, t4, t5, t6, t7⟩ := g
  have hT : TG K v.1 (relT v.2.2.2.2.2) := ⟨t1, ⟨0, by omega, rfl⟩, t3, t4, t5, t6, t7⟩
  exact ⟨c, TG.mono (supT_g hT) (by omega)⟩
