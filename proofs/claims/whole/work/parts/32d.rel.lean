/-! the class's state beside the model's -/
def RS (v w : SV) : Prop := v.1 = w.1 ∧ (∀ x, x < v.1 → v.2.1 x = w.2.1 x ∧ v.2.2.1 x = w.2.2.1 x ∧ v.2.2.2.1 x = w.2.2.2.1 x) ∧ (∀ j, j < 7 → v.2.2.2.2.1 j = w.2.2.2.2.1 j) ∧ v.2.2.2.2.2 = w.2.2.2.2.2
section RE
variable {v w : SV} (R : RS v w)
theorem RS.tr (R : RS v w) {t t' : TV} (h : t = t') : RS (trS t v) (trS t' w) := ⟨R.1, R.2.1, R.2.2.1, h⟩
theorem fil_cg {f f' : Nat → Int32} {u : Int32} {a b x L : Nat} (h : ∀ x, x < L → f x = f' x) (hx : x < L ∨ (a ≤ x ∧ x < b)) : filF f u a b x = filF f' u a b x := by
  unfold filF
  by_cases z : a ≤ x ∧ x < b
  · rw [if_pos z, if_pos z]
  · rw [if_neg z, if_neg z]
    exact h x (by omega)
theorem RS.len (R : RS v w) (m : Nat) : RS (lenS m v) (lenS m w) := by
  refine ⟨rfl, fun x hx => ?_, R.2.2.1, congrArg rszT R.2.2.2⟩
  have hx : x < m := hx
  show filF v.2.1 40 v.1 m x = filF w.2.1 40 w.1 m x ∧ filF v.2.2.1 0 v.1 m x = filF w.2.2.1 0 w.1 m x ∧ filF v.2.2.2.1 0 v.1 m x = filF w.2.2.2.1 0 w.1 m x
  rw [← R.1]
  exact ⟨fil_cg (fun x hx => (R.2.1 x hx).1) (by omega), fil_cg (fun x hx => (R.2.1 x hx).2.1) (by omega), fil_cg (fun x hx => (R.2.1 x hx).2.2) (by omega)⟩
theorem RS.cei (R : RS v w) (a z : Nat) (u : Int32) : RS (ceiS a z u v) (ceiS a z u w) :=
  ⟨R.1, fun x hx => ⟨fil_cg (fun x hx => (R.2.1 x hx).1) (Or.inl hx), (R.2.1 x hx).2⟩, R.2.2.1, R.2.2.2⟩
theorem RS.gra (R : RS v w) (a z : Nat) (u : Int32) : RS (graS a z u v) (graS a z u w) :=
  ⟨R.1, fun x hx => ⟨(R.2.1 x hx).1, fil_cg (fun x hx => (R.2.1 x hx).2.1) (Or.inl hx), (R.2.1 x hx).2.2⟩, R.2.2.1, R.2.2.2⟩
theorem RS.bea (R : RS v w) (a : Nat) (u : Int32) : RS (beaS a u v) (beaS a u w) := by
  refine ⟨R.1, fun x hx => ⟨(R.2.1 x hx).1, (R.2.1 x hx).2.1, ?_⟩, R.2.2.1, R.2.2.2⟩
  show upd v.2.2.2.1 a u x = upd w.2.2.2.1 a u x
  by_cases h : x = a
  · rw [h, pk_us, pk_us]
  · rw [pk_un h, pk_un h]
    exact (R.2.1 x hx).2.2
theorem RS.set (R : RS v w) (a : Nat) (u : Int32) : RS (setS a u v) (setS a u w) := by
  refine ⟨R.1, R.2.1, fun j hj => ?_, R.2.2.2⟩
  show upd v.2.2.2.2.1 a u j = upd w.2.2.2.2.1 a u j
  by_cases h : j = a
  · rw [h, pk_us, pk_us]
  · rw [pk_un h, pk_un h]
    exact R.2.2.1 j hj
theorem RS.ob (R : RS v w) {x a b c b' c' : Int32} (h : (x = 1 ∨ x = 2) → b = b' ∧ c = c') : RS (obS x a b c v) (obS x a b' c' w) := by
  unfold obS
  by_cases h0 : x = 0
  · rw [if_pos h0, if_pos h0]
    exact R.len _
  · rw [if_neg h0, if_neg h0]
    by_cases h1 : x = 1
    · obtain ⟨rfl, rfl⟩ := h (Or.inl h1)
      rw [if_pos h1, if_pos h1]
      exact R.cei _ _ _
    · rw [if_neg h1, if_neg h1]
      by_cases h2 : x = 2
      · obtain ⟨rfl, rfl⟩ := h (Or.inr h2)
        rw [if_pos h2, if_pos h2]
        exact R.gra _ _ _
      · rw [if_neg h2, if_neg h2]
        by_cases h3 : x = 3
        · rw [if_pos h3, if_pos h3]
          exact R.bea _ _
        · rw [if_neg h3, if_neg h3]
          by_cases h4 : x = 4
          · rw [if_pos h4, if_pos h4]
            exact R.set _ _
          · rw [if_neg h4, if_neg h4]
            by_cases h5 : x = 5
            · rw [if_pos h5, if_pos h5]
              exact R.set _ _
            · rw [if_neg h5, if_neg h5]
              by_cases h6 : x = 6
              · rw [if_pos h6, if_pos h6]
                exact R.set _ _
              · rw [if_neg h6, if_neg h6]
                exact R.set _ _
theorem ok_cg {x a b c b' c' : Int32} {L : Nat} (h : (x = 1 ∨ x = 2) → b = b' ∧ c = c') (z : obOk x a b c L) : obOk x a b' c' L := by
  rcases z with z | z | z | z
  · exact Or.inl z
  · obtain ⟨rfl, rfl⟩ := h (Or.inl z.1)
    exact Or.inr (Or.inl z)
  · obtain ⟨rfl, rfl⟩ := h (Or.inr z.1)
    exact Or.inr (Or.inr (Or.inl z))
  · exact Or.inr (Or.inr (Or.inr z))
end RE
theorem ds_rel {K : Nat} {wo nu wo' nu' : Nat → Int32} (hI : Iv K wo nu wo' nu') : ∀ (d k : Nat) (v w : SV), k + d = K → RS v w → (dsR wo nu d k v).1 = (dsR wo' nu' d k w).1 ∧ RS (dsR wo nu d k v).2 (dsR wo' nu' d k w).2
  | 0, k, v, w, _, R => ⟨rfl, R⟩
  | d + 1, k, v, w, hk, R => by
    obtain ⟨h1, h2, h3, h4⟩ := hI k (by omega)
    have e : ∀ (wo nu : Nat → Int32) (v : SV), dsR wo nu (d + 1) k v = (if obOk (wo k) (nu (k * 3 + 0)) (nu (k * 3 + 1)) (nu (k * 3 + 2)) v.1 then dsR wo nu d (k + 1) (obS (wo k) (nu (k * 3 + 0)) (nu (k * 3 + 1)) (nu (k * 3 + 2)) v) else (k, v)) := fun _ _ _ => rfl
    rw [e, e, ← h1, ← h3, ← R.1]
    by_cases h : obOk (wo k) (nu (k * 3 + 0)) (nu (k * 3 + 1)) (nu (k * 3 + 2)) v.1
    · rw [if_pos h, if_pos (ok_cg h4 h)]
      exact ds_rel hI d (k + 1) _ _ (by omega) (R.ob h4)
    · rw [if_neg h, if_neg (fun z => h (ok_cg (fun y => ⟨(h4 y).1.symm, (h4 y).2.symm⟩) z))]
      exact ⟨rfl, R⟩
theorem ds_le (wo nu : Nat → Int32) : ∀ (d k : Nat) (s : SV), (dsR wo nu d k s).1 ≤ k + d
  | 0, k, _ => Nat.le_refl k
  | d + 1, k, s => by
    have e : dsR wo nu (d + 1) k s = (if obOk (wo k) (nu (k * 3 + 0)) (nu (k * 3 + 1)) (nu (k * 3 + 2)) s.1 then dsR wo nu d (k + 1) (obS (wo k) (nu (k * 3 + 0)) (nu (k * 3 + 1)) (nu (k * 3 + 2)) s) else (k, s)) := rfl
    rw [e]
    split
    · have := ds_le wo nu d (k + 1) (obS (wo k) (nu (k * 3 + 0)) (nu (k * 3 + 1)) (nu (k * 3 + 2)) s)
      omega
    · show k ≤ k + (d + 1)
      omega
/-! bounds are kept -/
theorem fil_at (f : Nat → Int32) (u : Int32) (a b x : Nat) : filF f u a b x = u ∧ (a ≤ x ∧ x < b) ∨ filF f u a b x = f x ∧ ¬ (a ≤ x ∧ x < b) := by
  unfold filF
  by_cases z : a ≤ x ∧ x < b
  · exact Or.inl ⟨if_pos z, z⟩
  · exact Or.inr ⟨if_neg z, z⟩
theorem Gd.len {K : Nat} {v : SV} (h : Gd K v) {m : Nat} (h5 : 5 ≤ m) (h200 : m ≤ 200) : Gd K (lenS m v) := by
  obtain ⟨⟨c1, c2, c3, c4⟩, t1, t2, t3, t4, t5, t6, t7⟩ := h
  refine ⟨⟨h5, h200, fun x hx => ⟨?_, ?_, ?_⟩, c4⟩, ⟨by show 0 < m; omega, 0, by omega, rfl⟩, ⟨0, by omega, rfl⟩, ⟨0, by omega, rfl⟩, ⟨0, by omega, rfl⟩, t5, t6, t7⟩
  · rcases fil_at v.2.1 40 v.1 m x with z | z
    · exact ⟨40, by omega, z.1⟩
    · obtain ⟨c, q1, q2⟩ := (c3 x (by have : x < m := hx; omega)).1
      exact ⟨c, q1, z.1.trans q2⟩
  · rcases fil_at v.2.2.1 0 v.1 m x with z | z
    · exact ⟨20, by omega, by show filF v.2.2.1 0 v.1 m x + 20 = _; rw [z.1]; rfl⟩
    · obtain ⟨c, q1, q2⟩ := (c3 x (by have : x < m := hx; omega)).2.1
      exact ⟨c, q1, by show filF v.2.2.1 0 v.1 m x + 20 = _; rw [z.1]; exact q2⟩
  · rcases fil_at v.2.2.2.1 0 v.1 m x with z | z
    · exact ⟨0, by omega, z.1⟩
    · obtain ⟨c, q1, q2⟩ := (c3 x (by have : x < m := hx; omega)).2.2
      exact ⟨c, q1, z.1.trans q2⟩
theorem Gd.cei {K : Nat} {v : SV} (h : Gd K v) (a z : Nat) {u : Int32} (hu : 0 ≤ u ∧ u ≤ 60) : Gd K (ceiS a z u v) := by
  obtain ⟨⟨c1, c2, c3, c4⟩, t⟩ := h
  refine ⟨⟨c1, c2, fun x hx => ⟨?_, (c3 x hx).2⟩, c4⟩, t⟩
  rcases fil_at v.2.1 u a (z + 1) x with y | y
  · obtain ⟨k, k1, k2⟩ := in_w (m := 60) (by decide) hu
    exact ⟨k, k1, y.1.trans k2⟩
  · obtain ⟨c, q1, q2⟩ := (c3 x hx).1
    exact ⟨c, q1, y.1.trans q2⟩
theorem g20 {u : Int32} (hu : -20 ≤ u ∧ u ≤ 20) : ∃ e, e ≤ 40 ∧ u + 20 = nI e := by
  have h1 := Int32.le_iff_toInt_le.mp hu.1
  have h2 := Int32.le_iff_toInt_le.mp hu.2
  have e1 : (-20 : Int32).toInt = -20 := by decide
  have e2 : (20 : Int32).toInt = 20 := by decide
  rw [e1] at h1
  rw [e2] at h2
  have e3 : (u + 20).toInt = u.toInt + 20 := by
    rw [Int32.toInt_add, e2]
    apply Int.bmod_eq_of_le <;> omega
  refine in_w (m := 40) (by decide) ⟨Int32.le_iff_toInt_le.mpr ?_, Int32.le_iff_toInt_le.mpr ?_⟩
  · rw [e3]
    show (0 : Int) ≤ _
    omega
  · rw [e3]
    show _ ≤ (40 : Int)
    omega
theorem Gd.gra {K : Nat} {v : SV} (h : Gd K v) (a z : Nat) {u : Int32} (hu : -20 ≤ u ∧ u ≤ 20) : Gd K (graS a z u v) := by
  obtain ⟨⟨c1, c2, c3, c4⟩, t⟩ := h
  refine ⟨⟨c1, c2, fun x hx => ⟨(c3 x hx).1, ?_, (c3 x hx).2.2⟩, c4⟩, t⟩
  show ∃ e, e ≤ 40 ∧ filF v.2.2.1 u a (z + 1) x + 20 = nI e
  rcases fil_at v.2.2.1 u a (z + 1) x with y | y
  · rw [y.1]
    exact g20 hu
  · rw [y.1]
    exact (c3 x hx).2.1
theorem Gd.bea {K : Nat} {v : SV} (h : Gd K v) (a : Nat) {u : Int32} (hu : 0 ≤ u ∧ u ≤ 1) : Gd K (beaS a u v) := by
  obtain ⟨⟨c1, c2, c3, c4⟩, t⟩ := h
  refine ⟨⟨c1, c2, fun x hx => ⟨(c3 x hx).1, (c3 x hx).2.1, ?_⟩, c4⟩, t⟩
  show ∃ b, b ≤ 1 ∧ upd v.2.2.2.1 a u x = nI b
  by_cases z : x = a
  · rw [z, pk_us]
    exact in_w (m := 1) (by decide) hu
  · rw [pk_un z]
    exact (c3 x hx).2.2
theorem Gd.set {K : Nat} {v : SV} (h : Gd K v) {a : Nat} {u : Int32} (hu : tLeast a ≤ u ∧ u ≤ tMost a) : Gd K (setS a u v) := by
  obtain ⟨⟨c1, c2, c3, c4⟩, t⟩ := h
  refine ⟨⟨c1, c2, c3, fun j hj => ?_⟩, t⟩
  show tLeast j ≤ upd v.2.2.2.2.1 a u j ∧ upd v.2.2.2.2.1 a u j ≤ tMost j
  by_cases z : j = a
  · rw [z, pk_us]
    exact hu
  · rw [pk_un z]
    exact c4 j hj
theorem Gd.mono {K K' : Nat} {v : SV} (h : Gd K v) (hK : K ≤ K') : Gd K' v := ⟨h.1, h.2.mono hK⟩
theorem Gd.ob {K : Nat} {v : SV} (h : Gd K v) {x a b c : Int32} (z : obOk x a b c v.1) : Gd K (obS x a b c v) := by
  rcases z with ⟨rfl, z⟩ | ⟨rfl, z⟩ | ⟨rfl, z⟩ | ⟨rfl, z⟩ | ⟨rfl, z⟩ | ⟨rfl, z⟩ | ⟨rfl, z⟩ | ⟨rfl, z⟩
  · obtain ⟨k, k1, rfl⟩ := in_w (m := 200) (by decide) ⟨Int32.le_trans (by decide : (0 : Int32) ≤ 5) z.1, z.2⟩
    have k5 := (n_le (a := 5) (by decide) (by omega)).mp z.1
    show Gd K (lenS (nI k).toNatClampNeg v)
    rw [nI_clamp (by omega)]
    exact h.len k5 k1
  · rcases z.2 with y | y
    · exact h.cei _ _ y.2
    · exact absurd y.1 (by decide)
  · rcases z.2 with y | y
    · exact absurd y.1 (by decide)
    · exact h.gra _ _ y.2
  · exact h.bea _ (by decide)
  · exact h.set z
  · exact h.set z
  · exact h.set z
  · exact h.set z
theorem ds_g {K : Nat} {wo nu : Nat → Int32} : ∀ (d k : Nat) (v : SV), Gd K v → Gd K (dsR wo nu d k v).2
  | 0, _, _, h => h
  | d + 1, k, v, h => by
    have e : dsR wo nu (d + 1) k v = (if obOk (wo k) (nu (k * 3 + 0)) (nu (k * 3 + 1)) (nu (k * 3 + 2)) v.1 then dsR wo nu d (k + 1) (obS (wo k) (nu (k * 3 + 0)) (nu (k * 3 + 1)) (nu (k * 3 + 2)) v) else (k, v)) := rfl
    rw [e]
    split
    · rename_i z
      exact ds_g d (k + 1) _ (h.ob z)
    · exact h
theorem obR_n {K : Nat} {v : SV} (h : Gd K v) {x a b c : Int32} (z : obOk x a b c v.1) : ¬ obR x a b c v = -2 := by
  obtain ⟨⟨c1, c2, c3, c4⟩, -⟩ := h
  rcases z with ⟨rfl, z⟩ | ⟨rfl, z⟩ | ⟨rfl, z⟩ | ⟨rfl, z⟩ | ⟨rfl, z⟩ | ⟨rfl, z⟩ | ⟨rfl, z⟩ | ⟨rfl, z⟩
  · exact nI_nn (by omega) (by decide)
  · obtain ⟨k, k1, rfl⟩ := inL_of z.1.2.1 (by omega) c2
    refine nI_nn (Nat.lt_of_le_of_lt (cntNe_le _ _ _ _) ?_) (by decide)
    rw [nI_clamp (by omega)]
    omega
  · obtain ⟨k, k1, rfl⟩ := inL_of z.1.2.1 (by omega) c2
    refine nI_nn (Nat.lt_of_le_of_lt (cntNe_le _ _ _ _) ?_) (by decide)
    rw [nI_clamp (by omega)]
    omega
  · obtain ⟨k, k1, rfl⟩ := inL_of z (by omega) c2
    show ¬ v.2.2.2.1 (nI k).toNatClampNeg = -2
    rw [nI_clamp (by omega)]
    obtain ⟨y, y1, y2⟩ := (c3 k k1).2.2
    rw [y2]
    exact nI_nn (by omega) (by decide)
  · obtain ⟨y, y1, y2⟩ := st_n c4 (j := 0) (by omega)
    show ¬ v.2.2.2.2.1 0 = -2
    rw [y2]
    exact nI_nn (by omega) (by decide)
  · obtain ⟨y, y1, y2⟩ := st_n c4 (j := 1) (by omega)
    show ¬ v.2.2.2.2.1 1 = -2
    rw [y2]
    exact nI_nn (by omega) (by decide)
  · obtain ⟨y, y1, y2⟩ := st_n c4 (j := 2) (by omega)
    show ¬ v.2.2.2.2.1 2 = -2
    rw [y2]
    exact nI_nn (by omega) (by decide)
  · obtain ⟨y, y1, y2⟩ := st_n c4 (j := 3) (by omega)
    show ¬ v.2.2.2.2.1 3 = -2
    rw [y2]
    exact nI_nn (by omega) (by decide)
theorem RS.gd {K : Nat} {v w : SV} (R : RS v w) (h : Gd K v) : Gd K w := by
  obtain ⟨⟨c1, c2, c3, c4⟩, t⟩ := h
  refine ⟨⟨by rw [← R.1]; exact c1, by rw [← R.1]; exact c2, fun x hx => ?_, fun j hj => ?_⟩, by rw [← R.1, ← R.2.2.2]; exact t⟩
  · rw [← R.1] at hx
    obtain ⟨r1, r2, r3⟩ := R.2.1 x hx
    rw [← r1, ← r2, ← r3]
    exact c3 x hx
  · rw [← R.2.2.1 j hj]
    exact c4 j hj
/-! the curve -/
def CV (v : SV) (len : Nat) (fo sq : Nat → Int32) : Prop := ∀ x, x < v.1 → fo x = infF v.2.1 len x ∧ sq x = lwD (infF v.2.1 len) v.2.2.1 (v.2.2.2.2.1 0) v.1 (v.1 - x)
theorem cv_new (v : SV) {len : Nat} (hl : 1 ≤ len) (fo sq : Nat → Int32) : CV v len (foOf v len fo) (sqOf v len fo sq) := by
  have h1 : ∀ x, x < v.1 → foOf v len fo x = infF v.2.1 len x := by
    intro x hx
    unfold foOf dcF
    rw [if_pos hx]
    exact inf_dc v.2.1 hl x
  intro x hx
  refine ⟨h1 x hx, ?_⟩
  unfold sqOf lwS
  rw [if_pos ⟨Nat.zero_le x, hx⟩]
  exact lwD_cg h1 (fun _ _ => rfl) _ (by omega)
section CE
variable {v w : SV} {len : Nat} {fo sq : Nat → Int32}
theorem CV.ff (h : CV v len fo sq) (R : RS v w) (hl : 1 ≤ len) : ∀ x, x < v.1 → fo x = infF w.2.1 len x := by
  intro x hx
  rw [(h x hx).1]
  exact infF_cg hl (fun j hj => (R.2.1 j (by omega)).1)
theorem CV.ss (h : CV v len fo sq) (R : RS v w) (hl : 1 ≤ len) (sq' : Nat → Int32) : ∀ x, x < v.1 → sq x = lwQ w.2.1 w.2.2.1 (w.2.2.2.2.1 0) len w.1 0 sq' x := by
  intro x hx
  have hx' : x ≤ w.1 := by rw [← R.1]; omega
  rw [(h x hx).2]
  unfold lwQ
  rw [if_pos ⟨Nat.zero_le x, hx'⟩, ← R.1, ← R.2.2.1 0 (by omega)]
  exact lwD_cg (fun y hy => infF_cg hl (fun j hj => (R.2.1 j (by omega)).1)) (fun y hy => (R.2.1 y hy).2.1) _ (by omega)
theorem CV.sr (h : CV v len fo sq) (hc : CG v) (hl : 1 ≤ len) {x : Nat} (hx : x < v.1) : ∃ y, y ≤ 3600 ∧ sq x = nI y := by
  obtain ⟨y, y1, y2⟩ := hc.lw hl (v.1 - x) (by omega)
  exact ⟨y, y1, (h x hx).2.trans y2⟩
theorem CV.qs (h : CV v len fo sq) (R : RS v w) (hc : CG v) (hl : 1 ≤ len) (sq' : Nat → Int32) : ∀ x, x < w.1 → 0 ≤ (lwQ w.2.1 w.2.2.1 (w.2.2.2.2.1 0) len w.1 0 sq') x ∧ (lwQ w.2.1 w.2.2.1 (w.2.2.2.2.1 0) len w.1 0 sq') x ≤ 3600 := by
  intro x hx
  rw [← R.1] at hx
  rw [← h.ss R hl sq' x hx]
  obtain ⟨y, y1, y2⟩ := h.sr hc hl hx
  rw [y2]
  exact ⟨nI_pos' (by omega), nI_le (b := 3600) y1 (by decide)⟩
end CE
/-! what was noted -/
def HS (K nx hd : Nat) (S P : Nat → SV) : Prop := ∀ i, i < hd → RS (S ((nx + 7 - hd + i) % 7)) (P i) ∧ Gd K (S ((nx + 7 - hd + i) % 7))
section HE
variable {K nx hd : Nat} {S P : Nat → SV} {v w : SV}
theorem up_ne {f : Nat → SV} {k j : Nat} {x : SV} (h : j ≠ k) : va_up f k x j = f j := if_neg h
theorem up_eq {f : Nat → SV} {k : Nat} {x : SV} : va_up f k x k = x := if_pos rfl
theorem HS.mono {K' : Nat} (h : HS K nx hd S P) (hK : K ≤ K') : HS K' nx hd S P := fun i hi => ⟨(h i hi).1, (h i hi).2.mono hK⟩
theorem HS.note (h : HS K nx hd S P) (hn : nx < 7) (hh : hd ≤ 6) (v : SV) : HS K nx hd (va_up S nx v) P := by
  intro i hi
  rw [up_ne (by omega)]
  exact h i hi
theorem HS.six (h : HS K nx hd S P) (hh : hd ≤ 6) (w : SV) : HS K nx hd S (va_up P 6 w) := by
  intro i hi
  rw [up_ne (f := P) (by omega)]
  exact h i hi
theorem HS.keep (h : HS K nx hd S P) (hn : nx < 7) (hh : hd ≤ 6) (R : RS v w) (g : Gd K v) : HS K ((nx + 1) % 7) (min 6 (hd + 1)) (va_up S nx v) (ntP P hd w) := by
  intro i hi
  unfold ntP
  by_cases h6 : hd = 6
  · rw [if_pos h6]
    by_cases h5 : i = 5
    · rw [h5, up_eq, show ((nx + 1) % 7 + 7 - min 6 (hd + 1) + 5) % 7 = nx by omega, up_eq]
      exact ⟨R, g⟩
    · rw [up_ne (f := shP P) h5, up_ne (by omega)]
      have := h (i + 1) (by omega)
      rw [show (nx + 7 - hd + (i + 1)) % 7 = ((nx + 1) % 7 + 7 - min 6 (hd + 1) + i) % 7 by omega] at this
      unfold shP
      rw [if_pos (by omega)]
      exact this
  · rw [if_neg h6]
    by_cases h5 : i = hd
    · rw [h5, up_eq, show ((nx + 1) % 7 + 7 - min 6 (hd + 1) + hd) % 7 = nx by omega, up_eq]
      exact ⟨R, g⟩
    · rw [up_ne (f := P) h5, up_ne (by omega)]
      have := h i (by omega)
      rw [show (nx + 7 - hd + i) % 7 = ((nx + 1) % 7 + 7 - min 6 (hd + 1) + i) % 7 by omega] at this
      exact this
theorem lv_nt (hh : hd ≤ 6) (w : SV) : ∀ i, i < 6 → lvP (va_up P 6 w) hd i = ntP P hd w i := by
  intro i hi
  unfold lvP ntP
  by_cases h6 : hd = 6
  · rw [if_pos h6, if_pos h6, up_eq]
    by_cases h5 : i = 5
    · rw [h5, up_eq, up_eq]
    · rw [up_ne h5, up_ne h5]
      unfold shP
      rw [if_pos (by omega), if_pos (by omega), up_ne (by omega)]
  · rw [if_neg h6, if_neg h6, up_eq]
    by_cases h5 : i = hd
    · rw [h5, up_eq, up_eq]
    · rw [up_ne h5, up_ne h5, up_ne (by omega)]
theorem HS.leave (h : HS K nx hd S P) (hn : nx < 7) (hh : hd ≤ 6) (R : RS v w) (g : Gd K v) : HS K ((nx + 1) % 7) (min 6 (hd + 1)) (va_up S nx v) (lvP (va_up P 6 w) hd) := by
  intro i hi
  rw [lv_nt hh w i (by omega)]
  exact h.keep hn hh R g i hi
theorem HS.top (h : HS K nx hd S P) (hn : nx < 7) (h1 : 1 ≤ hd) (hh : hd ≤ 6) : RS (S ((nx + 6) % 7)) (P (hd - 1)) ∧ Gd K (S ((nx + 6) % 7)) := by
  have := h (hd - 1) (by omega)
  rw [show (nx + 7 - hd + (hd - 1)) % 7 = (nx + 6) % 7 by omega] at this
  exact this
theorem HS.back (h : HS K nx hd S P) (hn : nx < 7) (h1 : 1 ≤ hd) (hh : hd ≤ 6) : HS K ((nx + 6) % 7) (hd - 1) S P := by
  intro i hi
  have := h i (by omega)
  rw [show (nx + 7 - hd + i) % 7 = ((nx + 6) % 7 + 7 - (hd - 1) + i) % 7 by omega] at this
  exact this
end HE
