/-! a call whose cells are the world's last ones -/
section XF
variable {l : Launch} {g : xCfg} {p : Program} {e : Env} {R : Room} {s : State} {m : MethodId} {args : Array Value} {below : List Frame} {meth : Method} {c : Code} {cc : ByteArray} {nL : Nat} {own : String} {A : Nat → Prop} {ws ws' wr : va_W} {H : Heap} {locs : List Loc} {cells slots : Nat} {Q : State → Prop} {pc : Nat} {ls : Array Slot} {rest : List Value}
theorem app_r {wr wc : va_W} {k : Nat} {q : Nat × va_E} (h : wc[k]? = some q) : (wr ++ wc)[wr.length + k]? = some q := by
  rw [List.getElem?_append_right (by omega), Nat.add_sub_cancel_left]
  exact h
theorem app_l {wr wc : va_W} {k : Nat} {q : Nat × va_E} (h : wr[k]? = some q) : (wr ++ wc)[k]? = some q := by
  rw [List.getElem?_append_left (List.getElem?_eq_some_iff.mp h).1]
  exact h
theorem app_c {wr wc : va_W} {k : Nat} {q : Nat × va_E} (h : (wr ++ wc)[k]? = some q) : (wr[k]? = some q ∧ k < wr.length) ∨ (∃ j, wc[j]? = some q ∧ k = wr.length + j) := by
  by_cases hl : k < wr.length
  · rw [List.getElem?_append_left hl] at h
    exact Or.inl ⟨h, hl⟩
  · rw [List.getElem?_append_right (by omega)] at h
    exact Or.inr ⟨k - wr.length, h, by omega⟩
theorem x_freeS {wc : va_W} (hw : xW g A s (wr ++ wc) H locs) (hA : ∀ q, s.heap.size ≤ q → A q) : ∀ q, va_A wc H.size q → A q := by
  intro q h
  rcases h with ⟨k, e, h⟩ | h
  · exact hw.2.1.2 _ (q, e) (app_r h)
  · exact hA q (Nat.le_trans hw.2.2.1 h)
theorem x_preS {wc : va_W} (E : xE g p s m args meth c cc nL own A) (hw : xW g A s (wr ++ wc) H locs) (av : List Value) : ∀ U : State, U.heap = H → s.WarmedH U.vm → va_Pc av (xPre g wc H.size) av.toArray U := by
  intro U hU hW
  refine ⟨rfl, by rw [hU], ?_, va_K.moved hW.alike E.2.2.2.1, ⟨fun i j x y hi hj hxy => ?_, fun _ _ _ => trivial⟩, ?_⟩
  · rw [hU]
    exact fun k q hq => hw.1 _ q (app_r hq)
  · have := hw.2.1.1 _ _ x y (app_r hi) (app_r hj) hxy
    omega
  · rw [hU]
    exact ((E.2.2.2.2.kept hw.2.2.2.1).narrow (x_freeS hw E.2.2.1)).warm hW
theorem xW.backS {wc w1 : va_W} {H1 : Heap} {locs1 : List Loc} (hw : xW g A s (wr ++ wc) H locs) (hA : ∀ q, s.heap.size ≤ q → A q)
    (hP1 : va_P g.1 vwCl w1 H1) (hD1 : va_D (va_A wc H.size) w1) (hk : ∀ q : Nat, q < H.size → ¬ va_A wc H.size q → H1[q]? = H[q]?) (hS1 : va_S A s.heap H1 locs1) : xW g A s (wr ++ w1) H1 locs1 := by
  have apart : ∀ (k : Nat) (q : Nat × va_E), wr[k]? = some q → q.1 < H.size ∧ ¬ va_A wc H.size q.1 := by
    intro k q hq
    have hl := (hw.1 k q (app_l hq)).lt
    refine ⟨hl, fun h => ?_⟩
    rcases h with ⟨k2, e, h⟩ | h
    · have := hw.2.1.1 k _ q (q.1, e) (app_l hq) (app_r h) rfl
      have := (List.getElem?_eq_some_iff.mp hq).1
      omega
    · omega
  refine ⟨va_P.app (fun k q hq => ?_) hP1, va_D.app ⟨fun i j x y hi hj hxy => hw.2.1.1 i j x y (app_l hi) (app_l hj) hxy, fun k q hq => hw.2.1.2 k q (app_l hq)⟩ (hD1.weaken (fun k q _ h => x_freeS hw hA q.1 h)) (fun i j x y hx hy hxy => ?_), hS1⟩
  · obtain ⟨g1, g2⟩ := apart k q hq
    exact (hw.1 k q (app_l hq)).kept (hk q.1 g1 g2)
  · exact (apart i x hx).2 (by rw [hxy]; exact hD1.2 j y hy)
variable {y : MethodName} {yc : ByteArray} {yn n : Nat} {yr : Option FieldType} {rm : Room} {index : Nat} {post : Option Value → va_W → Prop} {wc : va_W} {b : Nat} {As st0 st1 : List Value} {ci : Nat} {C : String} {T : u_T} {N : Nat} {fs : List Value}
theorem x_runVS (E : xE g p s m args meth c cc nL own A) (hw : xW g A s (wr ++ wc) H locs) (hM : Ct l g y yc yn yr rm (.ref b :: As) wc post) (k1 : xML own index y yc yn yr n) (k2 : xMV y ci C T N) (q0 : Nat) (he : (wr ++ wc)[q0]? = some (b, .inr (ci, fs)))
    (hls : ls.size = nL) (hst : st0 = As.reverse ++ .ref b :: rest) (hn : As.length = n) (h8 : (rest.map fun v => v.category).sum ≤ 8) (hR : rm.frames + 1 ≤ R.frames ∧ 8 + (yn + 11) + rm.locals ≤ R.locals) (hf : cells + rm.cells ≤ R.cells ∧ slots + rm.slots ≤ R.slots) (hdg : decode cc pc = .ok (.invokevirtual index, 3)) :
    va_Run p l e R s m args below meth c H locs cells slots rm.cells rm.slots (F0 m pc ls st0) rest (xQ g (va_A wc H.size) post (Value.ref b :: As).toArray) (va_A wc H.size) :=
  va_runV (C := C) (n := n) E.1 (hM H.size) ⟨callB_of n E.ts (wGood k1.1) rfl rfl rfl (E.ts _ k1.2.1) (E.ts _ k1.2.2.2) k1.2.2.1 hR, E.ts _ k2.2.1, E.ts _ k2.2.2⟩ ⟨x_blind g _ _ _, va_recv E.2.2.2.1 hw.1 k2.1 he, x_preS E hw _⟩ rfl hn hls hst (lv_room h8) hdg hf
theorem x_runVNS (E : xE g p s m args meth c cc nL own A) (hw : xW g A s (wr ++ wc) H locs) (hM : Ct l g y yc yn yr rm (.ref b :: As) wc post) (k1 : xMN own index y yc yn yr n) (k2 : xMV y ci C T N) (q0 : Nat) (he : (wr ++ wc)[q0]? = some (b, .inr (ci, fs)))
    (hls : ls.size = nL) (hst : st0 = As.reverse ++ .ref b :: rest) (hn : As.length = n) (h8 : (rest.map fun v => v.category).sum ≤ 8) (hR : rm.frames + 1 ≤ R.frames ∧ 8 + (yn + 11) + rm.locals ≤ R.locals) (hf : cells + rm.cells ≤ R.cells ∧ slots + rm.slots ≤ R.slots) (hdg : decode cc pc = .ok (.invokevirtual index, 3)) :
    va_Run p l e R s m args below meth c H locs cells slots rm.cells rm.slots (F0 m pc ls st0) rest (xQ g (va_A wc H.size) post (Value.ref b :: As).toArray) (va_A wc H.size) :=
  va_runVN (C := C) (n := n) E.1 (hM H.size) ⟨va_cnB n E.ts (wGood k1.1) rfl rfl rfl (E.2.2.2.2.1.1 _ k1.2.2.2) (E.ts _ k1.2.1) k1.2.2.1 hR, E.ts _ k2.2.1, E.ts _ k2.2.2⟩ ⟨x_blind g _ _ _, va_recv E.2.2.2.1 hw.1 k2.1 he, x_preS E hw _⟩ rfl hn hls hst (lv_room h8) hdg hf
theorem x_goS {rv : Option Value} {w1 : va_W} {a : Array Value} (E : xE g p s m args meth c cc nL own A) (hw : xW g A s (wr ++ wc) H locs)
    (hr : va_Run p l e R s m args below meth c H locs cells slots 0 0 (F0 m pc ls st0) rest (xQ g (va_A wc H.size) (is1 rv w1) a) (va_A wc H.size)) (hst : rv.toList ++ rest = st1)
    (kk : ∀ (H1 : Heap) (locs1 : List Loc), xW g A s (wr ++ w1) H1 locs1 → W p l e R s m args below meth c H1 locs1 cells slots Q (F0 m (pc + 3) ls st1)) : W p l e R s m args below meth c H locs cells slots Q (F0 m pc ls st0) := by
  subst hst
  have hF := x_freeS hw E.2.2.1
  have hS := hw.2.2
  intro T hT X
  obtain ⟨v, st₀, t, T', L, h0, X', hL, e1, e2, ⟨⟨rv', w1', hv, hp, hP1, hK1, hD1⟩, hz, hk⟩, st⟩ := hr T hT X
  obtain ⟨rfl, rfl⟩ := hp
  cases hv
  rw [h0] at hz hk
  obtain ⟨t2, a1, b1⟩ := kk T'.heap (locs ++ L) (hw.backS E.2.2.1 (by rw [e1]; exact hP1) hD1 (fun q h1 h2 => by rw [e1]; exact hk q h1 h2)
    ⟨Nat.le_trans hS.1 (by rw [e1]; exact hz), fun q h1 h2 => by rw [e1, hk q (Nat.lt_of_lt_of_le h1 hS.1) (fun z => h2 (hF q z))]; exact hS.2.1 q h1 h2, fun q hq => by
      rcases List.mem_append.mp hq with h | h
      · exact hS.2.2 q h
      · exact hF _ (hL q h)⟩) T' rfl X'
  exact ⟨t2, st t2 a1, b1⟩
theorem x_goR {rv : Option Value} {a : Array Value} (E : xE g p s m args meth c cc nL own A) (hw : xW g A s ws H locs) (isC : List Nat) (hC : isC.map (fun i => ws[i]?) = wc.map some)
    (hr : va_Run p l e R s m args below meth c H locs cells slots 0 0 (F0 m pc ls st0) rest (xQ g (va_A wc H.size) (is1 rv wc) a) (va_A wc H.size)) (hst : rv.toList ++ rest = st1)
    (kk : ∀ (H1 : Heap) (locs1 : List Loc), xW g A s ws H1 locs1 → W p l e R s m args below meth c H1 locs1 cells slots Q (F0 m (pc + 3) ls st1)) : W p l e R s m args below meth c H locs cells slots Q (F0 m pc ls st0) := by
  subst hst
  refine x_run E hw isC hC hr ?_
  intro rv' w1' H1 locs1 hp hP1 hD1 hk hS1
  obtain ⟨rfl, rfl⟩ := hp
  refine kk H1 locs1 ⟨fun k q hq => ?_, hw.2.1, hS1⟩
  by_cases hA : va_A w1' H.size q.1
  · rcases hA with ⟨k2, e2, h2⟩ | h2
    · have h1 : (isC.map (fun i => ws[i]?))[k2]? = some (some (q.1, e2)) := by rw [hC, List.getElem?_map, h2]; rfl
      rw [List.getElem?_map] at h1
      cases hi : isC[k2]? with
      | none => rw [hi] at h1; cases h1
      | some i =>
        rw [hi] at h1
        have h3 : ws[i]? = some (q.1, e2) := Option.some.inj h1
        have h4 := hw.2.1.1 k i q (q.1, e2) hq h3 rfl
        subst h4
        rw [hq] at h3
        have h5 : q = (q.1, e2) := Option.some.inj h3
        have h6 := hP1 k2 _ h2
        rw [← h5] at h6
        exact h6
    · exact absurd ((hw.1 k q hq).lt) (by omega)
  · exact (hw.1 k q hq).kept (hk q.1 ((hw.1 k q hq).lt) hA)
end XF
