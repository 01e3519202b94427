/-! texts: the class's reading and the model's are one -/
theorem spB_all (tx : Nat → Int32) (a i : Nat) : ∀ d j, spB tx a i d j = true ↔ ∀ k, k < d → tx (a + (j + k)) = chr i (j + k)
  | 0, j => ⟨fun _ k hk => by omega, fun _ => rfl⟩
  | d + 1, j => by
    have e : spB tx a i (d + 1) j = (if tx (a + j) = chr i j then spB tx a i d (j + 1) else false) := rfl
    rw [e]
    by_cases h : tx (a + j) = chr i j
    · rw [if_pos h, spB_all tx a i d (j + 1)]
      constructor
      · intro z k hk
        by_cases h0 : k = 0
        · rw [h0]
          exact h
        · have := z (k - 1) (by omega)
          rw [show j + 1 + (k - 1) = j + k by omega] at this
          exact this
      · intro z k hk
        have := z (k + 1) (by omega)
        rw [show j + (k + 1) = j + 1 + k by omega] at this
        exact this
    · rw [if_neg h]
      constructor
      · intro z
        cases z
      · intro z
        exact absurd (z 0 (by omega)) h
theorem sp_3 {tx : Nat → Int32} {f p i : Nat} (hl : xLen.getD i 0 = 3) : splP tx f p i ↔ (p - f = 3 ∧ tx f = chr i 0 ∧ tx (f + 1) = chr i 1 ∧ tx (f + 2) = chr i 2) := by
  unfold splP
  rw [hl, spB_all]
  constructor
  · intro z
    exact ⟨z.1, z.2 0 (by omega), z.2 1 (by omega), z.2 2 (by omega)⟩
  · intro z
    refine ⟨z.1, fun k hk => ?_⟩
    match k, hk with
    | 0, _ => exact z.2.1
    | 1, _ => exact z.2.2.1
    | 2, _ => exact z.2.2.2
    | k + 3, h => exact absurd h (by omega)
theorem sp_4 {tx : Nat → Int32} {f p i : Nat} (hl : xLen.getD i 0 = 4) : splP tx f p i ↔ (p - f = 4 ∧ tx f = chr i 0 ∧ tx (f + 1) = chr i 1 ∧ tx (f + 2) = chr i 2 ∧ tx (f + 3) = chr i 3) := by
  unfold splP
  rw [hl, spB_all]
  constructor
  · intro z
    exact ⟨z.1, z.2 0 (by omega), z.2 1 (by omega), z.2 2 (by omega), z.2 3 (by omega)⟩
  · intro z
    refine ⟨z.1, fun k hk => ?_⟩
    match k, hk with
    | 0, _ => exact z.2.1
    | 1, _ => exact z.2.2.1
    | 2, _ => exact z.2.2.2.1
    | 3, _ => exact z.2.2.2.2
    | k + 4, h => exact absurd h (by omega)
theorem sp_5 {tx : Nat → Int32} {f p i : Nat} (hl : xLen.getD i 0 = 5) : splP tx f p i ↔ (p - f = 5 ∧ tx f = chr i 0 ∧ tx (f + 1) = chr i 1 ∧ tx (f + 2) = chr i 2 ∧ tx (f + 3) = chr i 3 ∧ tx (f + 4) = chr i 4) := by
  unfold splP
  rw [hl, spB_all]
  constructor
  · intro z
    exact ⟨z.1, z.2 0 (by omega), z.2 1 (by omega), z.2 2 (by omega), z.2 3 (by omega), z.2 4 (by omega)⟩
  · intro z
    refine ⟨z.1, fun k hk => ?_⟩
    match k, hk with
    | 0, _ => exact z.2.1
    | 1, _ => exact z.2.2.1
    | 2, _ => exact z.2.2.2.1
    | 3, _ => exact z.2.2.2.2.1
    | 4, _ => exact z.2.2.2.2.2
    | k + 5, h => exact absurd h (by omega)
theorem sp_6 {tx : Nat → Int32} {f p i : Nat} (hl : xLen.getD i 0 = 6) : splP tx f p i ↔ (p - f = 6 ∧ tx f = chr i 0 ∧ tx (f + 1) = chr i 1 ∧ tx (f + 2) = chr i 2 ∧ tx (f + 3) = chr i 3 ∧ tx (f + 4) = chr i 4 ∧ tx (f + 5) = chr i 5) := by
  unfold splP
  rw [hl, spB_all]
  constructor
  · intro z
    exact ⟨z.1, z.2 0 (by omega), z.2 1 (by omega), z.2 2 (by omega), z.2 3 (by omega), z.2 4 (by omega), z.2 5 (by omega)⟩
  · intro z
    refine ⟨z.1, fun k hk => ?_⟩
    match k, hk with
    | 0, _ => exact z.2.1
    | 1, _ => exact z.2.2.1
    | 2, _ => exact z.2.2.2.1
    | 3, _ => exact z.2.2.2.2.1
    | 4, _ => exact z.2.2.2.2.2.1
    | 5, _ => exact z.2.2.2.2.2.2
    | k + 6, h => exact absurd h (by omega)
theorem sp_no {tx : Nat → Int32} {f p i : Nat} (h : ¬ p - f = xLen.getD i 0) : ¬ splP tx f p i := fun z => h z.1
theorem sr_3 {tx : Nat → Int32} {f p : Nat} {a b c : Int32} (h : p - f = 3) : spR tx f p a b c 0 ↔ (tx f = a ∧ tx (f + 1) = b ∧ tx (f + 2) = c) := by
  unfold spR
  rw [if_pos h]
  exact ⟨fun z => ⟨z.2.1, z.2.2.1, z.2.2.2.1⟩, fun z => ⟨by omega, z.1, z.2.1, z.2.2, rfl⟩⟩
theorem sr_n {tx : Nat → Int32} {f p : Nat} {a b c d : Int32} (h : 3 < p - f) : spR tx f p a b c d ↔ (tx f = a ∧ tx (f + 1) = b ∧ tx (f + 2) = c ∧ tx (f + 3) = d) := by
  unfold spR
  rw [if_neg (show ¬ p - f = 3 by omega)]
  exact ⟨fun z => ⟨z.2.1, z.2.2.1, z.2.2.2.1, z.2.2.2.2⟩, fun z => ⟨by omega, z.1, z.2.1, z.2.2.1, z.2.2.2⟩⟩
theorem ite_cg {P Q : Prop} [Decidable P] [Decidable Q] {x y y' : Int32} (h : P ↔ Q) (hy : y = y') : (if P then x else y) = if Q then x else y' := by
  by_cases z : P
  · rw [if_pos z, if_pos (h.mp z)]
  · rw [if_neg z, if_neg (fun w => z (h.mpr w)), hy]
theorem ite_2 {P Q R : Prop} [Decidable P] [Decidable Q] [Decidable R] {x y y' : Int32} (h : (P ∧ Q) ↔ R) (hy : y = y') : (if P then (if Q then x else y) else y) = if R then x else y' := by
  by_cases z : P
  · rw [if_pos z]
    by_cases w : Q
    · rw [if_pos w, if_pos (h.mp ⟨z, w⟩)]
    · rw [if_neg w, if_neg (fun q => w (h.mpr q).2), hy]
  · rw [if_neg z, if_neg (fun q => z (h.mpr q).1), hy]
theorem wd_eq (tx : Nat → Int32) (f p : Nat) : wdR tx f p = wrd tx f p := by
  have L0 : xLen.getD 0 0 = 3 := rfl
  have L1 : xLen.getD 1 0 = 4 := rfl
  have L2 : xLen.getD 2 0 = 5 := rfl
  have L3 : xLen.getD 3 0 = 6 := rfl
  have L4 : xLen.getD 4 0 = 5 := rfl
  have L5 : xLen.getD 5 0 = 4 := rfl
  have L6 : xLen.getD 6 0 = 4 := rfl
  have L7 : xLen.getD 7 0 = 5 := rfl
  unfold wdR wrd
  dsimp only
  by_cases h3 : p - f = 3
  · rw [if_pos h3, if_neg (show ¬ p - f = 4 by omega), if_neg (show ¬ p - f = 5 by omega), if_neg (show ¬ p - f = 6 by omega)]
    rw [if_neg (sp_no (i := 1) (by omega)), if_neg (sp_no (i := 2) (by omega)), if_neg (sp_no (i := 3) (by omega)), if_neg (sp_no (i := 4) (by omega)), if_neg (sp_no (i := 5) (by omega)), if_neg (sp_no (i := 6) (by omega)), if_neg (sp_no (i := 7) (by omega))]
    refine ite_cg ?_ rfl
    rw [sr_3 h3, sp_3 L0]
    exact ⟨fun z => ⟨h3, z⟩, fun z => z.2⟩
  · rw [if_neg h3, if_neg (sp_no (i := 0) (by omega))]
    by_cases h4 : p - f = 4
    · rw [if_pos h4]
      rw [if_neg (sp_no (i := 2) (by omega)), if_neg (sp_no (i := 3) (by omega)), if_neg (sp_no (i := 4) (by omega)), if_neg (sp_no (i := 7) (by omega))]
      refine ite_cg ?_ (ite_cg ?_ (ite_cg ?_ rfl))
      · rw [sr_n (by omega), sp_4 L1]
        exact ⟨fun z => ⟨h4, z⟩, fun z => z.2⟩
      · rw [sr_n (by omega), sp_4 L5]
        exact ⟨fun z => ⟨h4, z⟩, fun z => z.2⟩
      · rw [sr_n (by omega), sp_4 L6]
        exact ⟨fun z => ⟨h4, z⟩, fun z => z.2⟩
    · rw [if_neg h4, if_neg (sp_no (i := 1) (by omega)), if_neg (sp_no (i := 5) (by omega)), if_neg (sp_no (i := 6) (by omega))]
      by_cases h5 : p - f = 5
      · rw [if_pos h5]
        rw [if_neg (sp_no (i := 3) (by omega))]
        refine ite_2 ?_ (ite_2 ?_ (ite_2 ?_ rfl))
        · rw [sr_n (by omega), sp_5 L2]
          exact ⟨fun z => ⟨h5, z.1.1, z.1.2.1, z.1.2.2.1, z.1.2.2.2, z.2⟩, fun z => ⟨⟨z.2.1, z.2.2.1, z.2.2.2.1, z.2.2.2.2.1⟩, z.2.2.2.2.2⟩⟩
        · rw [sr_n (by omega), sp_5 L4]
          exact ⟨fun z => ⟨h5, z.1.1, z.1.2.1, z.1.2.2.1, z.1.2.2.2, z.2⟩, fun z => ⟨⟨z.2.1, z.2.2.1, z.2.2.2.1, z.2.2.2.2.1⟩, z.2.2.2.2.2⟩⟩
        · rw [sr_n (by omega), sp_5 L7]
          exact ⟨fun z => ⟨h5, z.1.1, z.1.2.1, z.1.2.2.1, z.1.2.2.2, z.2⟩, fun z => ⟨⟨z.2.1, z.2.2.1, z.2.2.2.1, z.2.2.2.2.1⟩, z.2.2.2.2.2⟩⟩
      · rw [if_neg h5, if_neg (sp_no (i := 2) (by omega)), if_neg (sp_no (i := 4) (by omega)), if_neg (sp_no (i := 7) (by omega))]
        by_cases h6 : p - f = 6
        · rw [if_pos h6]
          by_cases ha : spR tx f p 98 101 97 99
          · rw [if_pos ha]
            refine ite_2 ?_ rfl
            rw [sr_n (by omega)] at ha
            rw [sp_6 L3]
            exact ⟨fun z => ⟨h6, ha.1, ha.2.1, ha.2.2.1, ha.2.2.2, z.1, z.2⟩, fun z => ⟨z.2.2.2.2.2.1, z.2.2.2.2.2.2⟩⟩
          · rw [if_neg ha, if_neg]
            intro z
            rw [sr_n (by omega)] at ha
            rw [sp_6 L3] at z
            exact ha ⟨z.2.1, z.2.2.1, z.2.2.2.1, z.2.2.2.2.1⟩
        · rw [if_neg h6, if_neg (sp_no (i := 3) (by omega))]
theorem wrd_v (tx : Nat → Int32) (a e : Nat) (h : ¬ wrd tx a e = -1) : ∃ w, w < 8 ∧ wrd tx a e = nI w := by
  revert h
  unfold wrd
  split
  · exact fun _ => ⟨0, by omega, rfl⟩
  · split
    · exact fun _ => ⟨1, by omega, rfl⟩
    · split
      · exact fun _ => ⟨2, by omega, rfl⟩
      · split
        · exact fun _ => ⟨3, by omega, rfl⟩
        · split
          · exact fun _ => ⟨4, by omega, rfl⟩
          · split
            · exact fun _ => ⟨5, by omega, rfl⟩
            · split
              · exact fun _ => ⟨6, by omega, rfl⟩
              · split
                · exact fun _ => ⟨7, by omega, rfl⟩
                · exact fun z => absurd rfl z
theorem skB_stop (tx : Nat → Int32) : ∀ d p, skB tx d p = p + d ∨ ¬ tx (skB tx d p) = 32
  | 0, _ => Or.inl rfl
  | d + 1, p => by
    have e : skB tx (d + 1) p = (if tx p = 32 then skB tx d (p + 1) else p) := rfl
    rw [e]
    by_cases h : tx p = 32
    · rw [if_pos h]
      rcases skB_stop tx d (p + 1) with z | z
      · exact Or.inl (by omega)
      · exact Or.inr z
    · rw [if_neg h]
      exact Or.inr h
theorem skB_id {tx : Nat → Int32} {cnt p : Nat} (hp : p ≤ cnt) : skB tx (cnt - skB tx (cnt - p) p) (skB tx (cnt - p) p) = skB tx (cnt - p) p := by
  have h1 := skB_le (tx := tx) hp
  rcases skB_stop tx (cnt - p) p with z | z
  · have : cnt - skB tx (cnt - p) p = 0 := by omega
    rw [this]
    rfl
  · rcases Nat.lt_or_ge (skB tx (cnt - p) p) cnt with y | y
    · exact skB_at y z
    · have : cnt - skB tx (cnt - p) p = 0 := by omega
      rw [this]
      rfl
/-- the orders that are read: words and the numbers that they use -/
def Iv (k : Nat) (wo nu wo' nu' : Nat → Int32) : Prop := ∀ j, j < k → wo j = wo' j ∧ (∃ w, w < 8 ∧ wo j = nI w) ∧ nu (j * 3 + 0) = nu' (j * 3 + 0) ∧ ((wo j = 1 ∨ wo j = 2) → nu (j * 3 + 1) = nu' (j * 3 + 1) ∧ nu (j * 3 + 2) = nu' (j * 3 + 2))
theorem Iv.num {k : Nat} {wo nu wo' nu' : Nat → Int32} (h : Iv k wo nu wo' nu') {i i' : Nat} (hi : k * 3 ≤ i) (hi' : k * 3 ≤ i') (x x' : Int32) : Iv k wo (upd nu i x) wo' (upd nu' i' x') := by
  intro j hj
  obtain ⟨h1, h2, h3, h4⟩ := h j hj
  refine ⟨h1, h2, ?_, fun z => ?_⟩
  · rw [pk_un (by omega), pk_un (by omega)]
    exact h3
  · rw [pk_un (by omega), pk_un (by omega), pk_un (by omega), pk_un (by omega)]
    exact h4 z
theorem Iv.wl {k : Nat} {wo nu wo' nu' : Nat → Int32} (h : Iv k wo nu wo' nu') (x : Int32) : Iv k (upd wo k x) nu wo' nu' := by
  intro j hj
  rw [pk_un (by omega)]
  exact h j hj
theorem Iv.wr {k : Nat} {wo nu wo' nu' : Nat → Int32} (h : Iv k wo nu wo' nu') (x : Int32) : Iv k wo nu (upd wo' k x) nu' := by
  intro j hj
  rw [pk_un (f := wo') (by omega)]
  exact h j hj
theorem Iv.one {k : Nat} {wo nu wo' nu' : Nat → Int32} (h : Iv k wo nu wo' nu') (h1 : wo k = wo' k) (h2 : ∃ w, w < 8 ∧ wo k = nI w) (h3 : nu (k * 3 + 0) = nu' (k * 3 + 0)) (h4 : (wo k = 1 ∨ wo k = 2) → nu (k * 3 + 1) = nu' (k * 3 + 1) ∧ nu (k * 3 + 2) = nu' (k * 3 + 2)) : Iv (k + 1) wo nu wo' nu' := by
  intro j hj
  by_cases hjk : j = k
  · rw [hjk]
    exact ⟨h1, h2, h3, h4⟩
  · exact h j (by omega)
def OO (k : Nat) (o : OD) (r : OR) : Prop := o.1 = r.1 ∧ o.2.1 = r.2.1 ∧ (o.1 = false → o.2.2.2.2.2 = r.2.2.2.2.1 ∧ o.2.2.2.2.1 = (if r.2.2.2.2.2.1 = 0 then 2 else 1) ∧ ∃ s, s ≤ 120 ∧ o.2.2.2.2.2 = nI s) ∧ (o.1 = true → r.2.2.2.2.2.1 = 0 ∧ Iv (k + 1) o.2.2.1 o.2.2.2.1 r.2.2.1 r.2.2.2.1)
theorem OO.bad {k s : Nat} {wo nu wo' nu' : Nat → Int32} (hs : s ≤ 120) : OO k (false, s, wo, nu, 2, nI s) (false, s, wo', nu', nI s, 0, k) :=
  ⟨rfl, rfl, fun _ => ⟨rfl, (if_pos rfl).symm, s, hs, rfl⟩, fun z => by cases z⟩
section OX
variable {tx : Nat → Int32} {cnt : Nat} {k : Nat} {wo nu wo' nu' : Nat → Int32} {ca fa fa' w : Int32}
theorem oE (hc : cnt ≤ 120) {q : Nat} (hq : q ≤ cnt) (hI : Iv (k + 1) wo nu (upd wo' k w) nu') : OO k (odE tx cnt q wo nu ca fa) (orE tx cnt k q w wo' nu' fa' 0) := by
  unfold odE orE
  have h1 := skB_le (tx := tx) hq
  by_cases h : atC tx cnt (skB tx (cnt - q) q) 59
  · rw [if_pos h, if_pos ((hr_eq (by decide)).mpr h)]
    exact ⟨rfl, rfl, (fun z => by cases z), fun _ => ⟨rfl, hI⟩⟩
  · rw [if_neg h, if_neg (fun z => h ((hr_eq (by decide)).mp z))]
    exact OO.bad (by omega)
theorem o1 (hc : cnt ≤ 120) {q : Nat} (hq : q ≤ cnt) (hI : Iv k wo nu wo' nu') (hw : wo k = w) (hw8 : ∃ x, x < 8 ∧ w = nI x) (h1 : ¬ w = 1) (h2 : ¬ w = 2) : OO k (od1 tx cnt k q wo nu ca fa) (or1 tx cnt k q w wo' nu' fa' 0) := by
  unfold od1 or1
  have hd := nmD_le (sg := false) (tx := tx) hq
  by_cases h : nmOk false tx cnt q
  · rw [if_pos h, if_pos h]
    refine oE hc hd.2 ?_
    refine Iv.one ((hI.num (by omega) (by omega) _ _).wr w) ?_ ?_ ?_ ?_
    · rw [pk_us, hw]
    · rw [hw]
      exact hw8
    · rw [pk_us, show 3 * k = k * 3 + 0 by omega, pk_us]
    · rw [hw]
      intro z
      rcases z with z | z
      · exact absurd z h1
      · exact absurd z h2
  · rw [if_neg h, if_neg h]
    exact OO.bad (by omega)
theorem o3c (hc : cnt ≤ 120) {sg : Bool} {q : Nat} (hq : q ≤ cnt) (hI : Iv k wo nu wo' nu') (hw : wo k = w) (hw8 : ∃ x, x < 8 ∧ w = nI x) (h0 : nu (k * 3 + 0) = nu' (k * 3 + 0)) (h1 : nu (k * 3 + 1) = nu' (k * 3 + 1)) : OO k (od3c sg tx cnt k q wo nu ca fa) (or3c sg tx cnt k q w wo' nu' fa' 0) := by
  unfold od3c or3c
  have hd := nmD_le (sg := sg) (tx := tx) hq
  by_cases h : nmOk sg tx cnt q
  · rw [if_pos h, if_pos h]
    refine oE hc hd.2 ?_
    refine Iv.one ((hI.num (by omega) (by omega) _ _).wr w) ?_ ?_ ?_ ?_
    · rw [pk_us, hw]
    · rw [hw]
      exact hw8
    · rw [pk_un (by omega), pk_un (by omega)]
      exact h0
    · intro _
      rw [pk_un (by omega), pk_un (by omega), pk_us, show 3 * k + 2 = k * 3 + 2 by omega, pk_us]
      exact ⟨h1, rfl⟩
  · rw [if_neg h, if_neg h]
    exact OO.bad (by omega)
theorem o3b (hc : cnt ≤ 120) {sg : Bool} {q : Nat} (hq : q ≤ cnt) (hI : Iv k wo nu wo' nu') (hw : wo k = w) (hw8 : ∃ x, x < 8 ∧ w = nI x) (h0 : nu (k * 3 + 0) = nu' (k * 3 + 0)) : OO k (od3b sg tx cnt k q wo nu ca fa) (or3b sg tx cnt k q w wo' nu' fa' 0) := by
  unfold od3b or3b
  have hd := nmD_le (sg := false) (tx := tx) hq
  by_cases h : nmOk false tx cnt q
  · rw [if_pos h, if_pos h]
    refine o3c hc hd.2 (hI.num (by omega) (by omega) _ _) hw hw8 ?_ ?_
    · rw [pk_un (by omega), pk_un (by omega)]
      exact h0
    · rw [pk_us, show 3 * k + 1 = k * 3 + 1 by omega, pk_us]
  · rw [if_neg h, if_neg h]
    exact OO.bad (by omega)
theorem o3 (hc : cnt ≤ 120) {sg : Bool} {q : Nat} (hq : q ≤ cnt) (hI : Iv k wo nu wo' nu') (hw : wo k = w) (hw8 : ∃ x, x < 8 ∧ w = nI x) : OO k (od3 sg tx cnt k q wo nu ca fa) (or3 sg tx cnt k q w wo' nu' fa' 0) := by
  unfold od3 or3
  have hd := nmD_le (sg := false) (tx := tx) hq
  by_cases h : nmOk false tx cnt q
  · rw [if_pos h, if_pos h]
    refine o3b hc hd.2 (hI.num (by omega) (by omega) _ _) hw hw8 ?_
    rw [pk_us, show 3 * k = k * 3 + 0 by omega, pk_us]
  · rw [if_neg h, if_neg h]
    exact OO.bad (by omega)
theorem oR (hc : cnt ≤ 120) {p : Nat} (hp : p ≤ cnt) (hI : Iv k wo nu wo' nu') : OO k (odR tx cnt k p wo nu ca fa) (orR tx cnt k (skB tx (cnt - p) p) wo' nu' fa' 0) := by
  have hq := od2_le (tx := tx) hp
  have hs := skB_le (tx := tx) hp
  unfold odR orR
  rw [wd_eq]
  show OO k _ (if od2 tx cnt p = skB tx (cnt - p) p then _ else if odW tx cnt p = -1 then _ else if odW tx cnt p = 1 then or3 false tx cnt k (od2 tx cnt p) (odW tx cnt p) wo' nu' fa' 0 else if odW tx cnt p = 2 then or3 true tx cnt k (od2 tx cnt p) (odW tx cnt p) wo' nu' fa' 0 else or1 tx cnt k (od2 tx cnt p) (odW tx cnt p) wo' nu' fa' 0)
  by_cases h1 : od2 tx cnt p = skB tx (cnt - p) p
  · rw [if_pos h1, if_pos h1]
    exact OO.bad (s := od2 tx cnt p) (by omega)
  · rw [if_neg h1, if_neg h1]
    by_cases h2 : odW tx cnt p = -1
    · rw [if_pos h2, if_pos h2]
      exact ⟨rfl, rfl, fun _ => ⟨rfl, rfl, _, by omega, rfl⟩, fun z => by cases z⟩
    · rw [if_neg h2, if_neg h2]
      have h8 := wrd_v tx _ _ h2
      by_cases h3 : odW tx cnt p = 1
      · rw [if_pos h3, if_pos h3]
        exact o3 hc hq (hI.wl _) pk_us h8
      · rw [if_neg h3, if_neg h3]
        by_cases h4 : odW tx cnt p = 2
        · rw [if_pos h4, if_pos h4]
          exact o3 hc hq (hI.wl _) pk_us h8
        · rw [if_neg h4, if_neg h4]
          exact o1 hc hq (hI.wl _) pk_us h8 h3 h4
end OX
def RR (a : RD) (r : OR) : Prop := a.1 = r.1 ∧ (a.1 = false → a.2.2.2.2.2.1 = r.2.2.2.2.1 ∧ a.2.2.2.2.1 = (if r.2.2.2.2.2.1 = 0 then 2 else 1) ∧ ∃ s, s ≤ 120 ∧ a.2.2.2.2.2.1 = nI s) ∧ (a.1 = true → ∃ K, K ≤ 24 ∧ a.2.2.2.2.2.2 = nI K ∧ r.2.2.2.2.2.2 = K ∧ Iv K a.2.2.1 a.2.2.2.1 r.2.2.1 r.2.2.2.1)
theorem rR {tx : Nat → Int32} {cnt : Nat} (hc : cnt ≤ 120) : ∀ (d k p : Nat) (wo nu wo' nu' : Nat → Int32) (ca fa od fa' : Int32), k + d = 24 → p ≤ cnt → 5 * k ≤ skB tx (cnt - p) p → (k = 0 ∨ skB tx (cnt - p) p < cnt) → Iv k wo nu wo' nu' → RR (rdR tx cnt d k p wo nu ca fa od) (rrR tx cnt (d + 1) k (skB tx (cnt - p) p) wo' nu' fa' 0)
  | 0, k, p, wo, nu, wo', nu', ca, fa, od, fa', hk, hp, h5, h0, hI => by
    rcases h0 with h0 | h0
    · omega
    · omega
  | d + 1, k, p, wo, nu, wo', nu', ca, fa, od, fa', hk, hp, h5, h0, hI => by
    have hs := skB_le (tx := tx) hp
    have H := oR (tx := tx) (ca := ca) (fa := fa) (fa' := fa') hc hp hI
    have B := orR_le (tx := tx) (k := k) (wo := wo') (nu := nu') (fa := fa') (iw := 0) hs
    have er : rrR tx cnt (d + 1 + 1) k (skB tx (cnt - p) p) wo' nu' fa' 0 = (if k = 0 ∨ skB tx (cnt - p) p < cnt then (if (orR tx cnt k (skB tx (cnt - p) p) wo' nu' fa' 0).1 = true then rrR tx cnt (d + 1) (k + 1) (skB tx (cnt - (orR tx cnt k (skB tx (cnt - p) p) wo' nu' fa' 0).2.1) (orR tx cnt k (skB tx (cnt - p) p) wo' nu' fa' 0).2.1) (orR tx cnt k (skB tx (cnt - p) p) wo' nu' fa' 0).2.2.1 (orR tx cnt k (skB tx (cnt - p) p) wo' nu' fa' 0).2.2.2.1 (orR tx cnt k (skB tx (cnt - p) p) wo' nu' fa' 0).2.2.2.2.1 (orR tx cnt k (skB tx (cnt - p) p) wo' nu' fa' 0).2.2.2.2.2.1 else orR tx cnt k (skB tx (cnt - p) p) wo' nu' fa' 0) else (true, skB tx (cnt - p) p, wo', nu', fa', 0, k)) := rfl
    have ed : rdR tx cnt (d + 1) k p wo nu ca fa od = (if (odR tx cnt k p wo nu ca fa).1 = true then
      (if skB tx (cnt - (odR tx cnt k p wo nu ca fa).2.1) (odR tx cnt k p wo nu ca fa).2.1 < cnt then rdR tx cnt d (k + 1) (skB tx (cnt - (odR tx cnt k p wo nu ca fa).2.1) (odR tx cnt k p wo nu ca fa).2.1) (odR tx cnt k p wo nu ca fa).2.2.1 (odR tx cnt k p wo nu ca fa).2.2.2.1 (odR tx cnt k p wo nu ca fa).2.2.2.2.1 (odR tx cnt k p wo nu ca fa).2.2.2.2.2 (nI (k + 1))
       else (true, skB tx (cnt - (odR tx cnt k p wo nu ca fa).2.1) (odR tx cnt k p wo nu ca fa).2.1, (odR tx cnt k p wo nu ca fa).2.2.1, (odR tx cnt k p wo nu ca fa).2.2.2.1, (odR tx cnt k p wo nu ca fa).2.2.2.2.1, (odR tx cnt k p wo nu ca fa).2.2.2.2.2, nI (k + 1)))
    else (false, (odR tx cnt k p wo nu ca fa).2.1, (odR tx cnt k p wo nu ca fa).2.2.1, (odR tx cnt k p wo nu ca fa).2.2.2.1, (odR tx cnt k p wo nu ca fa).2.2.2.2.1, (odR tx cnt k p wo nu ca fa).2.2.2.2.2, od)) := rfl
    rw [er, ed, if_pos h0]
    revert H B
    generalize odR tx cnt k p wo nu ca fa = o
    generalize orR tx cnt k (skB tx (cnt - p) p) wo' nu' fa' 0 = r
    intro H B
    obtain ⟨e1, e2, e3, e4⟩ := H
    by_cases h : o.1 = true
    · have hr : r.1 = true := e1 ▸ h
      obtain ⟨i0, hI2⟩ := e4 h
      obtain ⟨b1, b2, -⟩ := And.imp_right (fun z => z hr) B
      rw [if_pos h, if_pos hr, e2, i0]
      have hs2 := skB_le (tx := tx) b1
      have hg2 := (skB_ge tx (cnt - r.2.1) r.2.1).1
      by_cases hh : skB tx (cnt - r.2.1) r.2.1 < cnt
      · rw [if_pos hh]
        have IH := rR (tx := tx) hc d (k + 1) (skB tx (cnt - r.2.1) r.2.1) o.2.2.1 o.2.2.2.1 r.2.2.1 r.2.2.2.1 o.2.2.2.2.1 o.2.2.2.2.2 (nI (k + 1)) r.2.2.2.2.1 (by omega) hs2
        rw [skB_id b1] at IH
        exact IH (by omega) (Or.inr hh) hI2
      · rw [if_neg hh]
        have e5 : rrR tx cnt (d + 1) (k + 1) (skB tx (cnt - r.2.1) r.2.1) r.2.2.1 r.2.2.2.1 r.2.2.2.2.1 0 = (true, skB tx (cnt - r.2.1) r.2.1, r.2.2.1, r.2.2.2.1, r.2.2.2.2.1, 0, k + 1) := if_neg (by omega)
        rw [e5]
        exact ⟨rfl, (fun z => by cases z), fun _ => ⟨k + 1, by omega, rfl, rfl, hI2⟩⟩
    · have ho : o.1 = false := by
        cases hz : o.1 with
        | true => exact absurd hz h
        | false => rfl
      have hr : ¬ r.1 = true := by rw [← e1]; exact h
      rw [if_neg h, if_neg hr]
      obtain ⟨f1, f2, f3⟩ := e3 ho
      exact ⟨by rw [← e1, ho], fun _ => ⟨f1, f2, f3⟩, fun z => by cases z⟩
theorem rR0 {tx : Nat → Int32} {cnt : Nat} (hc : cnt ≤ 120) (wo nu wo' nu' : Nat → Int32) (ca fa od fa' : Int32) : RR (rdR tx cnt 24 0 0 wo nu ca fa od) (rrR tx cnt 25 0 (skB tx (cnt - 0) 0) wo' nu' fa' 0) :=
  rR hc 24 0 0 wo nu wo' nu' ca fa od fa' (by omega) (by omega) (by omega) (Or.inl rfl) (fun j hj => by omega)
