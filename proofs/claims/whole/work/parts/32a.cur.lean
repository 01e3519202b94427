/-! the curve: the class's way and the model's are one; both go by the cells below L alone -/
theorem lmi_in (ce : Nat → Int32) (a d : Nat) : a ≤ lmi ce a d ∧ lmi ce a d ≤ a + d ∧ ∀ j, a ≤ j → j ≤ a + d → ce (lmi ce a d) ≤ ce j := by
  induction d with
  | zero =>
    refine ⟨Nat.le_refl a, Nat.le_refl a, fun j h1 h2 => ?_⟩
    have hj : j = a := by omega
    rw [hj]
    exact Int32.le_refl _
  | succ d ih =>
    obtain ⟨i1, i2, i3⟩ := ih
    have e : lmi ce a (d + 1) = (if ce (lmi ce a d) < ce (a + d + 1) then lmi ce a d else a + d + 1) := rfl
    rw [e]
    by_cases h : ce (lmi ce a d) < ce (a + d + 1)
    · rw [if_pos h]
      refine ⟨i1, by omega, fun j h1 h2 => ?_⟩
      by_cases hj : j = a + d + 1
      · rw [hj]
        exact Int32.le_of_lt h
      · exact i3 j h1 (by omega)
    · rw [if_neg h]
      refine ⟨by omega, by omega, fun j h1 h2 => ?_⟩
      by_cases hj : j = a + d + 1
      · rw [hj]
        exact Int32.le_refl _
      · exact Int32.le_trans (Int32.not_lt.mp h) (i3 j h1 (by omega))
theorem dcI_in (ce : Nat → Int32) {len : Nat} (hl : 1 ≤ len) (x : Nat) : dcI ce len (x + 1) ≤ x ∧ x + 1 ≤ dcI ce len (x + 1) + len ∧ ∀ j, j ≤ x → x + 1 ≤ j + len → ce (dcI ce len (x + 1)) ≤ ce j := by
  induction x with
  | zero =>
    have e : dcI ce len (0 + 1) = 0 := by
      show (if 0 < 0 + 1 - len then lmi ce (0 + 1 - len) (0 - (0 + 1 - len)) else if ce 0 < ce 0 then 0 else 0) = 0
      rw [if_neg (by omega)]
      split <;> rfl
    rw [e]
    refine ⟨Nat.le_refl 0, by omega, fun j h1 h2 => ?_⟩
    have hj : j = 0 := by omega
    rw [hj]
    exact Int32.le_refl _
  | succ x ih =>
    obtain ⟨i1, i2, i3⟩ := ih
    have e : dcI ce len (x + 1 + 1) = (if dcI ce len (x + 1) < x + 1 + 1 - len then lmi ce (x + 1 + 1 - len) (x + 1 - (x + 1 + 1 - len)) else if ce (dcI ce len (x + 1)) < ce (x + 1) then dcI ce len (x + 1) else x + 1) := rfl
    rw [e]
    by_cases h : dcI ce len (x + 1) < x + 1 + 1 - len
    · rw [if_pos h]
      obtain ⟨a1, a2, a3⟩ := lmi_in ce (x + 1 + 1 - len) (x + 1 - (x + 1 + 1 - len))
      exact ⟨by omega, by omega, fun j h1 h2 => a3 j (by omega) (by omega)⟩
    · rw [if_neg h]
      by_cases h2 : ce (dcI ce len (x + 1)) < ce (x + 1)
      · rw [if_pos h2]
        refine ⟨by omega, by omega, fun j j1 j2 => ?_⟩
        by_cases hj : j = x + 1
        · rw [hj]
          exact Int32.le_of_lt h2
        · exact i3 j (by omega) (by omega)
      · rw [if_neg h2]
        refine ⟨Nat.le_refl _, by omega, fun j j1 j2 => ?_⟩
        by_cases hj : j = x + 1
        · rw [hj]
          exact Int32.le_refl _
        · exact Int32.le_trans (Int32.not_lt.mp h2) (i3 j (by omega) (by omega))
theorem infL_in (ce : Nat → Int32) (x len k : Nat) (hk : k + 1 ≤ len) : (∃ j, j ≤ x ∧ x + 1 ≤ j + len ∧ infL ce x len k = ce j) ∧ infL ce x len k ≤ ce x ∧ ∀ i, i < k → len ≤ x + 1 + i → infL ce x len k ≤ ce (x + 1 + i - len) := by
  induction k with
  | zero => exact ⟨⟨x, Nat.le_refl x, by omega, rfl⟩, Int32.le_refl _, fun i hi => by omega⟩
  | succ k ih =>
    obtain ⟨⟨j, j1, j2, j3⟩, i2, i3⟩ := ih (by omega)
    have e : infL ce x len (k + 1) = (if len ≤ x + 1 + k ∧ ce (x + 1 + k - len) < infL ce x len k then ce (x + 1 + k - len) else infL ce x len k) := rfl
    rw [e]
    by_cases h : len ≤ x + 1 + k ∧ ce (x + 1 + k - len) < infL ce x len k
    · rw [if_pos h]
      refine ⟨⟨x + 1 + k - len, by omega, by omega, rfl⟩, Int32.le_trans (Int32.le_of_lt h.2) i2, fun i hi hi2 => ?_⟩
      by_cases hj : i = k
      · rw [hj]
        exact Int32.le_refl _
      · exact Int32.le_trans (Int32.le_of_lt h.2) (i3 i (by omega) hi2)
    · rw [if_neg h]
      refine ⟨⟨j, j1, j2, j3⟩, i2, fun i hi hi2 => ?_⟩
      by_cases hj : i = k
      · rw [hj]
        rw [hj] at hi2
        exact Int32.not_lt.mp (fun z => h ⟨hi2, z⟩)
      · exact i3 i (by omega) hi2
theorem inf_dc (ce : Nat → Int32) {len : Nat} (hl : 1 ≤ len) (x : Nat) : ce (dcI ce len (x + 1)) = infF ce len x := by
  obtain ⟨d1, d2, d3⟩ := dcI_in ce hl x
  obtain ⟨⟨j, j1, j2, j3⟩, i2, i3⟩ := infL_in ce x len (len - 1) (by omega)
  unfold infF
  apply Int32.le_antisymm
  · rw [j3]
    exact d3 j j1 j2
  · by_cases h : dcI ce len (x + 1) = x
    · rw [h]
      exact i2
    · have := i3 (dcI ce len (x + 1) + len - (x + 1)) (by omega) (by omega)
      rw [show x + 1 + (dcI ce len (x + 1) + len - (x + 1)) - len = dcI ce len (x + 1) by omega] at this
      exact this
theorem infL_cg {c c' : Nat → Int32} {x len : Nat} (h : ∀ j, j ≤ x → c j = c' j) (k : Nat) (hk : k + 1 ≤ len) : infL c x len k = infL c' x len k := by
  induction k with
  | zero => exact h x (Nat.le_refl x)
  | succ k ih =>
    have e : ∀ f : Nat → Int32, infL f x len (k + 1) = (if len ≤ x + 1 + k ∧ f (x + 1 + k - len) < infL f x len k then f (x + 1 + k - len) else infL f x len k) := fun _ => rfl
    rw [e, e, ih (by omega), h _ (by omega)]
theorem infF_cg {c c' : Nat → Int32} {x len : Nat} (hl : 1 ≤ len) (h : ∀ j, j ≤ x → c j = c' j) : infF c len x = infF c' len x := infL_cg h (len - 1) (by omega)
theorem infF_at (c : Nat → Int32) {x len : Nat} (hl : 1 ≤ len) : ∃ j, j ≤ x ∧ infF c len x = c j := by
  obtain ⟨⟨j, j1, -, j3⟩, -⟩ := infL_in c x len (len - 1) (by omega)
  exact ⟨j, j1, j3⟩
theorem lwD_cg {fo fo' gr gr' : Nat → Int32} {b : Int32} {L : Nat} (h1 : ∀ x, x < L → fo x = fo' x) (h2 : ∀ x, x < L → gr x = gr' x) (d : Nat) (hd : d ≤ L) : lwD fo gr b L d = lwD fo' gr' b L d := by
  induction d with
  | zero => rfl
  | succ d ih =>
    have e : ∀ f g : Nat → Int32, lwD f g b L (d + 1) = (if lwD f g b L d + dcl b (g (L - 1 - d)) < f (L - 1 - d) * f (L - 1 - d) then lwD f g b L d + dcl b (g (L - 1 - d)) else f (L - 1 - d) * f (L - 1 - d)) := fun _ _ => rfl
    rw [e, e, ih (by omega), h1 _ (by omega), h2 _ (by omega)]
theorem bndL_cg {fo fo' gr gr' : Nat → Int32} {v b : Int32} {L : Nat} (h1 : ∀ x, x < L → fo x = fo' x) (h2 : ∀ x, x < L → gr x = gr' x) (d : Nat) : ∀ (y : Nat) (br : Int32), y + d ≤ L → bndL v fo gr b d y br = bndL v fo' gr' b d y br := by
  induction d with
  | zero => intro y br _; rfl
  | succ d ih =>
    intro y br hy
    have e : ∀ f g : Nat → Int32, bndL v f g b (d + 1) y br = (if v = f y * f y + br then y else bndL v f g b d (y + 1) (br + dcl b (g y))) := fun _ _ => rfl
    rw [e, e, h1 y (by omega), h2 y (by omega), ih _ _ (by omega)]
theorem stL_cg {gr gr' : Nat → Int32} {b : Int32} {L x : Nat} (h2 : ∀ x, x < L → gr x = gr' x) (d : Nat) : ∀ (y : Nat) (q : Int32), y + d ≤ L → stL gr b d y x q = stL gr' b d y x q := by
  induction d with
  | zero => intro y q _; rfl
  | succ d ih =>
    intro y q hy
    have e : ∀ g : Nat → Int32, stL g b (d + 1) y x q = (if q - dcl b (g y) ≤ 0 then nI (y - x) else stL g b d (y + 1) x (q - dcl b (g y))) := fun _ => rfl
    rw [e, e, h2 y (by omega), ih _ _ (by omega)]
theorem smD_cg {gr gr' : Nat → Int32} {b : Int32} {L x : Nat} (h2 : ∀ x, x < L → gr x = gr' x) (k : Nat) (hk : x + k ≤ L) : smD gr b x k = smD gr' b x k := by
  induction k with
  | zero => rfl
  | succ k ih =>
    have e : ∀ g : Nat → Int32, smD g b x (k + 1) = smD g b x k + dcl b (g (x + k)) := fun _ => rfl
    rw [e, e, ih (by omega), h2 _ (by omega)]
theorem cntP_cg {sq sq' : Nat → Int32} {v : Int32} {L : Nat} (h : ∀ x, x < L → sq x = sq' x) : ∀ k, k ≤ L → cntP sq v k = cntP sq' v k
  | 0, _ => rfl
  | k + 1, hk => by
    have e : ∀ f : Nat → Int32, cntP f v (k + 1) = cntP f v k + if nI (rtL 15 0 (f k)) = v then 1 else 0 := fun _ => rfl
    rw [e, e, cntP_cg h k (by omega), h k (by omega)]
theorem cntNe_cg {f f' : Nat → Int32} {v : Int32} {a L : Nat} (h : ∀ x, x < L → f x = f' x) : ∀ k, k ≤ L → cntNe f v a k = cntNe f' v a k
  | 0, _ => rfl
  | k + 1, hk => by
    have e : ∀ g : Nat → Int32, cntNe g v a (k + 1) = cntNe g v a k + if a ≤ k ∧ g k ≠ v then 1 else 0 := fun _ => rfl
    rw [e, e, cntNe_cg h k (by omega), h k (by omega)]
theorem lsq_cg {sq sq' : Nat → Int32} {L a : Nat} (h : ∀ x, x < L → sq x = sq' x) : ∀ d, a + d < L → lsq sq a d = lsq sq' a d
  | 0, hd => h a hd
  | d + 1, hd => by
    have e : ∀ f : Nat → Int32, lsq f a (d + 1) = (if f (a + d + 1) < lsq f a d then f (a + d + 1) else lsq f a d) := fun _ => rfl
    rw [e, e, lsq_cg h d (by omega), h _ (by omega)]
theorem cxF_cg {ce ce' gr gr' be be' sq sq' : Nat → Int32} {L : Nat} (h1 : ∀ x, x < L → ce x = ce' x) (h2 : ∀ x, x < L → gr x = gr' x) (h3 : ∀ x, x < L → be x = be' x) (h4 : ∀ x, x < L → sq x = sq' x) (h : Int64) : ∀ k, k ≤ L → cxF ce gr be sq k h = cxF ce' gr' be' sq' k h
  | 0, _ => rfl
  | k + 1, hk => by
    have e : ∀ a b c d : Nat → Int32, cxF a b c d (k + 1) h = 31 * (31 * (31 * (31 * cxF a b c d k h + (a k).toInt64) + (b k + 20).toInt64) + (c k).toInt64) + (d k).toInt64 := fun _ _ _ _ => rfl
    rw [e, e, cxF_cg h1 h2 h3 h4 h k (by omega), h1 k (by omega), h2 k (by omega), h3 k (by omega), h4 k (by omega)]
theorem hxF_cg {f f' : Nat → Int32} (h : Int64) : ∀ k, (∀ j, j < k → f j = f' j) → hxF f k h = hxF f' k h
  | 0, _ => rfl
  | k + 1, hk => by
    have e : ∀ a : Nat → Int32, hxF a (k + 1) h = 31 * hxF a k h + (a k).toInt64 := fun _ => rfl
    rw [e, e, hxF_cg h k (fun j hj => hk j (by omega)), hk k (by omega)]
/-! the train -/
section TC
variable {L : Nat} {gr gr' be be' st st' sq sq' : Nat → Int32}
theorem seen_cg (hL1 : 1 ≤ L) (hL : L ≤ 200) (h4 : ∀ x, x < L → sq x = sq' x) (lo hi : Int32) : seenN L lo hi sq = seenN L lo hi sq' := by
  unfold seenN
  have h1 := kpt_lt (x := lo / 1000) hL1 hL
  have h2 := kpt_lt (x := (hi + 999) / 1000) hL1 hL
  rw [lsq_cg h4 _ (by omega)]
theorem supT_cg (hL1 : 1 ≤ L) (hL : L ≤ 200) (h4 : ∀ x, x < L → sq x = sq' x) (h5 : ∀ j, j < 7 → st j = st' j) (t : TV) : supT L st sq t = supT L st' sq' t := by
  unfold supT supM supA abv
  rw [seen_cg hL1 hL h4, h5 4 (by omega), h5 5 (by omega), h5 6 (by omega)]
theorem most_cg (hL1 : 1 ≤ L) (hL : L ≤ 200) (h4 : ∀ x, x < L → sq x = sq' x) (t : TV) : mostF L sq t = mostF L sq' t := by
  unfold mostF
  have h1 := kpt_lt (x := t.2.2.2.1 / 1000) hL1 hL
  rw [lsq_cg h4 _ (by omega)]
theorem drvH_cg (hL1 : 1 ≤ L) (hL : L ≤ 200) (h2 : ∀ x, x < L → gr x = gr' x) (h4 : ∀ x, x < L → sq x = sq' x) (h5 : ∀ j, j < 7 → st j = st' j) {t : TV} (ht : t.1 < L) : drvH L gr st sq t = drvH L gr' st' sq' t := by
  unfold drvH
  rw [most_cg hL1 hL h4, h5 0 (by omega), h5 1 (by omega), h2 _ ht]
theorem nqF_cg (h2 : ∀ x, x < L → gr x = gr' x) (h5 : ∀ j, j < 7 → st j = st' j) {t : TV} (ht : t.1 < L) (hd : Int32) : nqF gr st hd t = nqF gr' st' hd t := by
  unfold nqF
  rw [h5 0 (by omega), h5 1 (by omega), h2 _ ht]
theorem stpP_cg (h2 : ∀ x, x < L → gr x = gr' x) (h5 : ∀ j, j < 7 → st j = st' j) {t : TV} (ht : t.1 < L) (hd : Int32) : stpP L gr st hd t ↔ stpP L gr' st' hd t := by
  unfold stpP
  rw [nqF_cg h2 h5 ht]
theorem stpT_cg (hL1 : 1 ≤ L) (hL : L ≤ 200) (h2 : ∀ x, x < L → gr x = gr' x) (h3 : ∀ x, x < L → be x = be' x) (h4 : ∀ x, x < L → sq x = sq' x) (h5 : ∀ j, j < 7 → st j = st' j) {t : TV} (ht : t.1 < L) (hd : Int32) : stpT L gr be st sq hd t = stpT L gr' be' st' sq' hd t := by
  unfold stpT
  have en := nqF_cg h2 h5 ht hd
  by_cases h : stpP L gr st hd t
  · have h' := (stpP_cg h2 h5 ht hd).mp h
    rw [if_pos h, if_pos h', supT_cg hL1 hL h4 h5, en]
    unfold goT
    rw [h3 _ (by have := h.2; omega), h5 3 (by omega)]
  · rw [if_neg h, if_neg (fun z => h ((stpP_cg h2 h5 ht hd).mpr z)), supT_cg hL1 hL h4 h5, en]
theorem stpT_f (hL1 : 1 ≤ L) {hd : Int32} {t : TV} (ht : t.1 < L) : (stpT L gr be st sq hd t).1 < L := by
  unfold stpT
  split
  · rename_i h
    show t.1 + 1 < L
    have := h.2
    omega
  · exact ht
theorem drvT_cg (hL1 : 1 ≤ L) (hL : L ≤ 200) (h2 : ∀ x, x < L → gr x = gr' x) (h3 : ∀ x, x < L → be x = be' x) (h4 : ∀ x, x < L → sq x = sq' x) (h5 : ∀ j, j < 7 → st j = st' j) : ∀ (k : Nat) (t : TV), t.1 < L → drvT L gr be st sq k t = drvT L gr' be' st' sq' k t
  | 0, _, _ => rfl
  | k + 1, t, ht => by
    have e : ∀ a b c d : Nat → Int32, drvT L a b c d (k + 1) t = (if stpP L a c (drvH L a c d t) t then ((drvT L a b c d k (stpT L a b c d (drvH L a c d t) t)).1 + 1, (drvT L a b c d k (stpT L a b c d (drvH L a c d t) t)).2) else (0, stpT L a b c d (drvH L a c d t) t)) := fun _ _ _ _ => rfl
    rw [e, e, drvH_cg hL1 hL h2 h4 h5 ht, stpT_cg hL1 hL h2 h3 h4 h5 ht, drvT_cg hL1 hL h2 h3 h4 h5 k _ (stpT_f hL1 ht)]
    by_cases h : stpP L gr st (drvH L gr' st' sq' t) t
    · rw [if_pos h, if_pos ((stpP_cg h2 h5 ht _).mp h)]
    · rw [if_neg h, if_neg (fun z => h ((stpP_cg h2 h5 ht _).mpr z))]
theorem trvF_cg (hL1 : 1 ≤ L) (hL : L ≤ 200) (h2 : ∀ x, x < L → gr x = gr' x) (h4 : ∀ x, x < L → sq x = sq' x) (h5 : ∀ j, j < 7 → st j = st' j) {t : TV} (ht : t.1 < L) (w : Nat) : trvF L gr st sq t w = trvF L gr' st' sq' t w := by
  unfold trvF
  rw [seen_cg hL1 hL h4, drvH_cg hL1 hL h2 h4 h5 ht]
theorem tldF_cg {ba no fu : Int32} {cnt hd : Nat} (h5 : ∀ j, j < 7 → st j = st' j) {w : Nat} (hw : w < 13) : tldF ba no fu L st cnt hd w = tldF ba no fu L st' cnt hd w := by
  match w, hw with
  | 0, _ => rfl
  | 1, _ => rfl
  | 2, _ => rfl
  | 3, _ => rfl
  | 4, _ => exact h5 0 (by omega)
  | 5, _ => exact h5 1 (by omega)
  | 6, _ => exact h5 2 (by omega)
  | 7, _ => exact h5 3 (by omega)
  | 8, _ => exact h5 4 (by omega)
  | 9, _ => exact h5 5 (by omega)
  | 10, _ => exact h5 6 (by omega)
  | 11, _ => rfl
  | 12, _ => rfl
  | k + 13, h => exact absurd h (by omega)
end TC
