/-! the world by blocks -/
section XP
variable {g : xCfg} {A : Nat → Prop} {s : State} {H : Heap} {locs : List Loc} {ws wr : va_W}
theorem xW.swap (hw : xW g A s (wr ++ ws) H locs) : xW g A s (ws ++ wr) H locs := by
  refine ⟨va_P.app (fun k q hq => hw.1 _ q (app_r hq)) (fun k q hq => hw.1 _ q (app_l hq)), va_D.app ⟨fun i j x y hi hj hxy => ?_, fun k q hq => hw.2.1.2 _ q (app_r hq)⟩ ⟨fun i j x y hi hj hxy => hw.2.1.1 i j x y (app_l hi) (app_l hj) hxy, fun k q hq => hw.2.1.2 _ q (app_l hq)⟩ (fun i j x y hx hy hxy => ?_), hw.2.2⟩
  · have := hw.2.1.1 _ _ x y (app_r hi) (app_r hj) hxy
    omega
  · have h1 := hw.2.1.1 _ _ x y (app_r hx) (app_l hy) hxy
    have h2 := (List.getElem?_eq_some_iff.mp hy).1
    omega
theorem xW.subL {A1 A2 B : va_W} (hw : xW g A s (A1 ++ B) H locs) (isC : List Nat) (hC : isC.map (fun i => A1[i]?) = A2.map some) (hn : va_nd isC = true) : xW g A s (A2 ++ B) H locs := by
  have hA1 : xW g A s A1 H locs := ⟨fun k q hq => hw.1 _ q (app_l hq), ⟨fun i j x y hi hj hxy => hw.2.1.1 i j x y (app_l hi) (app_l hj) hxy, fun k q hq => hw.2.1.2 _ q (app_l hq)⟩, hw.2.2⟩
  have hA2 := hA1.sub (ws' := A2) isC hC hn
  refine ⟨va_P.app hA2.1 (fun k q hq => hw.1 _ q (app_r hq)), va_D.app hA2.2.1 ⟨fun i j x y hi hj hxy => ?_, fun k q hq => hw.2.1.2 _ q (app_r hq)⟩ (fun i j x y hx hy hxy => ?_), hw.2.2⟩
  · have := hw.2.1.1 _ _ x y (app_r hi) (app_r hj) hxy
    omega
  · have h1 : (A2.map some)[i]? = some (some x) := by rw [List.getElem?_map, hx]; rfl
    rw [← hC, List.getElem?_map] at h1
    cases hi : isC[i]? with
    | none => rw [hi] at h1; cases h1
    | some k =>
      rw [hi] at h1
      have h2 : A1[k]? = some x := Option.some.inj h1
      have h3 := hw.2.1.1 _ _ x y (app_l h2) (app_r hy) hxy
      have h4 := (List.getElem?_eq_some_iff.mp h2).1
      omega
end XP
def LnW (g : xCfg) (h : Nat → Nat) : va_W := [(h 0, .inr (2, [.ref (h 1), .ref (h 2), .ref (h 7), .ref (h 8)])), (h 1, .inr (4, [.ref (h 2), .ref (h 7)])), (h 2, .inr (5, [.int (nI v0.1), .ref (h 3), .ref (h 4), .ref (h 5), .ref (h 6)])), (h 3, .inl (g.2.1, 200, .inl v0.2.1)), (h 4, .inl (g.2.1, 200, .inl v0.2.2.1)), (h 5, .inl (g.2.1, 200, .inl v0.2.2.2.1)), (h 6, .inl (g.2.1, 7, .inl v0.2.2.2.2.1)), (h 7, .inr (6, [.int (nI v0.2.2.2.2.2.1), .int v0.2.2.2.2.2.2.1, .int v0.2.2.2.2.2.2.2.1, .int v0.2.2.2.2.2.2.2.2.1, .int v0.2.2.2.2.2.2.2.2.2.1, .int v0.2.2.2.2.2.2.2.2.2.2.1, .int v0.2.2.2.2.2.2.2.2.2.2.2.1, .int v0.2.2.2.2.2.2.2.2.2.2.2.2])), (h 8, .inr (0, [.ref (h 9), .ref (h 10)])), (h 9, .inl (g.2.1, 200, .inl (foOf v0 1 (fun _ => 0)))), (h 10, .inl (g.2.1, 200, .inl (sqOf v0 1 (fun _ => 0) (fun _ => 0))))]
def HsW (g : xCfg) (a x : Nat) (q : Nat → Nat → Nat) : va_W := [(a, .inr (1, [.ref x, .int 0, .int 0])), (x, .inl (g.2.2.1, 7, .inr (.inr (.inr (.inr (fun k => some (q k 1)))))))] ++ slotsW g q (fun _ => v0)
def ScW (g : xCfg) (a x1 x2 x3 : Nat) : va_W := [(a, .inr (3, [.ref x1, .int 0, .int 0, .int 0, .int 0, .int 0, .ref x2, .ref x3])), (x1, .inl (g.2.1, 120, .inl (fun _ => 0))), (x2, .inl (g.2.1, 24, .inl (fun _ => 0))), (x3, .inl (g.2.1, 72, .inl (fun _ => 0)))]
