/-! ranges -/
theorem rg_dcl : ∀ b, b < 61 → ∀ e, e < 41 → dcl (nI b) (nI e - 20) = nI (max 1 (b + e - 20)) := by decide +kernel
theorem rg_g3 : ∀ d, d < 101 → -(nI d) = nI (100 - d) - 100 := by decide +kernel
theorem rg_g2 : ∀ b, b < 61 → ∀ e, e < 41 → -(3 * nI b / 4) - (nI e - 20) = nI (120 - e - 3 * b / 4) - 100 := by decide +kernel
theorem rg_gm : ∀ b, b < 61 → ∀ e, e < 41 → -(nI b / 2) - (nI e - 20) = nI (120 - e - b / 2) - 100 := by decide +kernel
theorem rg_g0 : ∀ e, e < 41 → -(nI e - 20) = nI (120 - e) - 100 := by decide +kernel
theorem rg_gp : ∀ p, p < 31 → ∀ e, e < 41 → nI p - (nI e - 20) = nI (p + 120 - e) - 100 := by decide +kernel
theorem rg_neg : ∀ k, k < 101 → nI k - 100 ≤ 0 := by decide +kernel
theorem rg_sub {x : Int32} {e : Nat} (h : x + 20 = nI e) : x = nI e - 20 := by rw [← h, Int32.add_sub_cancel]
theorem dcl_g {b x : Int32} (hb : ∃ k, k ≤ 60 ∧ b = nI k) (hx : ∃ e, e ≤ 40 ∧ x + 20 = nI e) : ∃ d, 1 ≤ d ∧ d ≤ 80 ∧ dcl b x = nI d := by
  obtain ⟨k, hk, rfl⟩ := hb
  obtain ⟨e, he, hx⟩ := hx
  rw [rg_sub hx]
  exact ⟨max 1 (k + e - 20), by omega, by omega, rg_dcl k (by omega) e (by omega)⟩
theorem gnF_r {mo hd b pl x : Int32} (hb : ∃ k, k ≤ 60 ∧ b = nI k) (hp : ∃ k, k ≤ 30 ∧ pl = nI k) (hx : ∃ e, e ≤ 40 ∧ x + 20 = nI e) : ∃ e, e ≤ 150 ∧ gnF mo hd b pl x = nI e - 100 := by
  obtain ⟨d, -, d2, d3⟩ := dcl_g hb hx
  obtain ⟨k, hk, rfl⟩ := hb
  obtain ⟨q, hq, rfl⟩ := hp
  obtain ⟨e, he, hx⟩ := hx
  unfold gnF
  rw [d3, rg_sub hx]
  by_cases h1 : mo = 3
  · rw [if_pos h1]
    exact ⟨100 - d, by omega, rg_g3 d (by omega)⟩
  · rw [if_neg h1]
    by_cases h2 : mo = 2
    · rw [if_pos h2]
      exact ⟨120 - e - 3 * k / 4, by omega, rg_g2 k (by omega) e (by omega)⟩
    · rw [if_neg h2]
      by_cases h3 : 0 ≤ hd
      · rw [if_pos h3]
        by_cases h4 : hd = 0
        · rw [if_pos h4]
          exact ⟨120 - e, by omega, rg_g0 e (by omega)⟩
        · rw [if_neg h4]
          exact ⟨q + 120 - e, by omega, rg_gp q (by omega) e (by omega)⟩
      · rw [if_neg h3]
        exact ⟨120 - e - k / 2, by omega, rg_gm k (by omega) e (by omega)⟩
/-- a step's square -/
theorem sqn_r {y e : Nat} (hy : y < 2 ^ 30) (he : e ≤ 150) (h : ¬ nI y + (nI e - 100) ≤ 0) : 100 < y + e ∧ nI y + (nI e - 100) = nI (y + e - 100) := by
  have e1 : nI y + (nI e - 100) = nI (y + e) - nI 100 := by
    rw [← nI_add, Int32.sub_eq_add_neg, Int32.sub_eq_add_neg, Int32.add_assoc]
    rfl
  rw [e1] at h ⊢
  have h1 : 100 < y + e := by
    rcases Nat.lt_or_ge 100 (y + e) with z | z
    · exact z
    · exact absurd (rg_neg (y + e) (by omega)) h
  exact ⟨h1, pk_sub (by omega)⟩
/-- the train within its bounds; what a step needs of it -/
def TQ (L : Nat) (t : TV) : Prop := t.1 < L ∧ (∃ y, y ≤ 9801 + 50 * t.1 ∧ t.2.1 = nI y)
def TG (K L : Nat) (t : TV) : Prop := TQ L t ∧ (∃ m, m ≤ 3 ∧ t.2.2.1 = nI m) ∧ (∃ a, a ≤ 1000 * t.1 ∧ t.2.2.2.1 = nI a) ∧ (∃ a, a ≤ 1100 * t.1 ∧ t.2.2.2.2.1 = nI a) ∧ (∃ a, a ≤ K ∧ t.2.2.2.2.2.1 = nI a) ∧ (∃ a, a ≤ K ∧ t.2.2.2.2.2.2.1 = nI a) ∧ (∃ a, a ≤ K ∧ t.2.2.2.2.2.2.2 = nI a)
/-- a state within its bounds -/
def CG (v : SV) : Prop := 5 ≤ v.1 ∧ v.1 ≤ 200 ∧ (∀ x, x < v.1 → (∃ c, c ≤ 60 ∧ v.2.1 x = nI c) ∧ (∃ e, e ≤ 40 ∧ v.2.2.1 x + 20 = nI e) ∧ (∃ b, b ≤ 1 ∧ v.2.2.2.1 x = nI b)) ∧ (∀ j, j < 7 → tLeast j ≤ v.2.2.2.2.1 j ∧ v.2.2.2.2.1 j ≤ tMost j)
def Gd (K : Nat) (v : SV) : Prop := CG v ∧ TG K v.1 v.2.2.2.2.2
theorem in_w1 {x : Int32} {m : Nat} (hm : m < 2 ^ 31) (h : 1 ≤ x ∧ x ≤ nI m) : ∃ k, 1 ≤ k ∧ k ≤ m ∧ x = nI k := by
  obtain ⟨k, hk, rfl⟩ := in_w hm ⟨Int32.le_trans (by decide : (0 : Int32) ≤ 1) h.1, h.2⟩
  exact ⟨k, (n_le (a := 1) (by decide) (by omega)).mp h.1, hk, rfl⟩
theorem st_0 {f : Nat → Int32} (h : ∀ j, j < 7 → tLeast j ≤ f j ∧ f j ≤ tMost j) : ∃ k, 1 ≤ k ∧ k ≤ 60 ∧ f 0 = nI k := in_w1 (by decide) (h 0 (by decide))
theorem st_1 {f : Nat → Int32} (h : ∀ j, j < 7 → tLeast j ≤ f j ∧ f j ≤ tMost j) : ∃ k, k ≤ 30 ∧ f 1 = nI k := in_w (by decide) (h 1 (by decide))
theorem st_2 {f : Nat → Int32} (h : ∀ j, j < 7 → tLeast j ≤ f j ∧ f j ≤ tMost j) : ∃ k, 1 ≤ k ∧ k ≤ 30 ∧ f 2 = nI k := in_w1 (by decide) (h 2 (by decide))
theorem st_3 {f : Nat → Int32} (h : ∀ j, j < 7 → tLeast j ≤ f j ∧ f j ≤ tMost j) : ∃ k, k ≤ 100 ∧ f 3 = nI k := in_w (by decide) (h 3 (by decide))
theorem st_n {f : Nat → Int32} (h : ∀ j, j < 7 → tLeast j ≤ f j ∧ f j ≤ tMost j) {j : Nat} (hj : j < 7) : ∃ k, k ≤ 100 ∧ f j = nI k := by
  match j, hj with
  | 0, _ => obtain ⟨k, -, h2, h3⟩ := st_0 h; exact ⟨k, by omega, h3⟩
  | 1, _ => obtain ⟨k, h2, h3⟩ := st_1 h; exact ⟨k, by omega, h3⟩
  | 2, _ => obtain ⟨k, -, h2, h3⟩ := st_2 h; exact ⟨k, by omega, h3⟩
  | 3, _ => exact st_3 h
  | 4, _ => obtain ⟨k, h2, h3⟩ := in_w (m := 9) (by decide) (h 4 (by decide)); exact ⟨k, by omega, h3⟩
  | 5, _ => obtain ⟨k, h2, h3⟩ := in_w (m := 9) (by decide) (h 5 (by decide)); exact ⟨k, by omega, h3⟩
  | 6, _ => obtain ⟨k, h2, h3⟩ := in_w (m := 9) (by decide) (h 6 (by decide)); exact ⟨k, by omega, h3⟩
  | k + 7, hk => exact absurd hk (by omega)
theorem n_ne {k : Nat} {z : Int32} (hk : k < 2 ^ 31) (hz : z < 0) : ¬ nI k = z := nI_nn hk hz
theorem CG.dc {v : SV} (h : CG v) {x : Nat} (hx : x < v.1) : ∃ d, 1 ≤ d ∧ d ≤ 80 ∧ dcl (v.2.2.2.2.1 0) (v.2.2.1 x) = nI d := by
  obtain ⟨k, -, k2, k3⟩ := st_0 h.2.2.2
  exact dcl_g ⟨k, k2, k3⟩ (h.2.2.1 x hx).2.1
theorem CG.inf {v : SV} (h : CG v) {len x : Nat} (hl : 1 ≤ len) (hx : x < v.1) : ∃ c, c ≤ 60 ∧ infF v.2.1 len x = nI c := by
  obtain ⟨j, hj, e⟩ := infF_at v.2.1 (x := x) hl
  obtain ⟨c, h1, h2⟩ := (h.2.2.1 j (by omega)).1
  exact ⟨c, h1, e.trans h2⟩
theorem CG.lw {v : SV} (h : CG v) {len : Nat} (hl : 1 ≤ len) : ∀ d, d ≤ v.1 → ∃ y, y ≤ 3600 ∧ lwD (infF v.2.1 len) v.2.2.1 (v.2.2.2.2.1 0) v.1 d = nI y
  | 0, _ => ⟨0, by omega, rfl⟩
  | d + 1, hd => by
    obtain ⟨y, hy, e⟩ := CG.lw h hl d (by omega)
    obtain ⟨k, k1, k2, k3⟩ := h.dc (x := v.1 - 1 - d) (by omega)
    obtain ⟨c, c1, c2⟩ := h.inf hl (x := v.1 - 1 - d) (by omega)
    have e2 : lwD (infF v.2.1 len) v.2.2.1 (v.2.2.2.2.1 0) v.1 (d + 1) = (if lwD (infF v.2.1 len) v.2.2.1 (v.2.2.2.2.1 0) v.1 d + dcl (v.2.2.2.2.1 0) (v.2.2.1 (v.1 - 1 - d)) < infF v.2.1 len (v.1 - 1 - d) * infF v.2.1 len (v.1 - 1 - d) then lwD (infF v.2.1 len) v.2.2.1 (v.2.2.2.2.1 0) v.1 d + dcl (v.2.2.2.2.1 0) (v.2.2.1 (v.1 - 1 - d)) else infF v.2.1 len (v.1 - 1 - d) * infF v.2.1 len (v.1 - 1 - d)) := rfl
    rw [e2, e, k3, c2, nI_add, pk_mul]
    have hc : c * c ≤ 3600 := Nat.mul_le_mul c1 c1
    by_cases hh : nI (y + k) < nI (c * c)
    · rw [if_pos hh]
      have := (n_lt (by omega) (by omega)).mp hh
      exact ⟨y + k, by omega, rfl⟩
    · rw [if_neg hh]
      exact ⟨c * c, hc, rfl⟩
/-! the train keeps its bounds -/
theorem supM_r (md ab : Int32) (st : Nat → Int32) : ∃ m, m ≤ 3 ∧ supM md ab st = nI m := by
  unfold supM
  split
  · rename_i h
    exact ⟨3, by omega, h⟩
  · split
    · split
      · split
        · exact ⟨0, by omega, rfl⟩
        · split
          · exact ⟨2, by omega, rfl⟩
          · exact ⟨1, by omega, rfl⟩
      · exact ⟨2, by omega, rfl⟩
    · exact ⟨3, by omega, rfl⟩
theorem supT_g {K L : Nat} {st sq : Nat → Int32} {t : TV} (h : TG K L t) : TG (K + 1) L (supT L st sq t) := by
  obtain ⟨h1, h2, h3, h4, ⟨a, a1, a2⟩, ⟨b, b1, b2⟩, ⟨c, c1, c2⟩⟩ := h
  refine ⟨h1, supM_r _ _ _, h3, h4, ?_, ⟨b, by omega, b2⟩, ⟨c, by omega, c2⟩⟩
  show ∃ x, x ≤ K + 1 ∧ supA t.2.2.1 (abv L sq t) t.2.2.2.2.2.1 st = nI x
  unfold supA
  split
  · exact ⟨a, by omega, a2⟩
  · split
    · exact ⟨a, by omega, a2⟩
    · exact ⟨a + 1, by omega, by rw [a2, nI_1]⟩
theorem TG.mono {K K' L : Nat} {t : TV} (h : TG K L t) (hK : K ≤ K') : TG K' L t := by
  obtain ⟨h1, h2, h3, h4, ⟨a, a1, a2⟩, ⟨b, b1, b2⟩, ⟨c, c1, c2⟩⟩ := h
  exact ⟨h1, h2, h3, h4, ⟨a, by omega, a2⟩, ⟨b, by omega, b2⟩, ⟨c, by omega, c2⟩⟩
theorem nq_r {L : Nat} {gr st : Nat → Int32} {hd : Int32} {t : TV} (hst : ∀ j, j < 7 → tLeast j ≤ st j ∧ st j ≤ tMost j) (hgr : ∀ x, x < L → ∃ e, e ≤ 40 ∧ gr x + 20 = nI e) (hL : L ≤ 200) (ht : TQ L t) : ∃ yq, yq ≤ 9801 + 50 * (t.1 + 1) ∧ (¬ nqF gr st hd t ≤ 0 → nqF gr st hd t = nI yq) := by
  obtain ⟨h1, y, y1, y2⟩ := ht
  obtain ⟨k, -, k2, k3⟩ := st_0 hst
  obtain ⟨p, p2, p3⟩ := st_1 hst
  obtain ⟨e, e1, e2⟩ := gnF_r (mo := t.2.2.1) (hd := hd) ⟨k, k2, k3⟩ ⟨p, p2, p3⟩ (hgr t.1 h1)
  unfold nqF
  rw [y2, e2]
  by_cases h : nI y + (nI e - 100) ≤ 0
  · exact ⟨0, by omega, fun z => absurd h z⟩
  · obtain ⟨z1, z2⟩ := sqn_r (y := y) (by omega) e1 h
    exact ⟨y + e - 100, by omega, fun _ => z2⟩
theorem stp_g {K L : Nat} {gr be st sq : Nat → Int32} {hd : Int32} {t : TV} (hst : ∀ j, j < 7 → tLeast j ≤ st j ∧ st j ≤ tMost j) (hgr : ∀ x, x < L → ∃ e, e ≤ 40 ∧ gr x + 20 = nI e) (hL : L ≤ 200) (ht : TG K L t) : TG (K + 2) L (stpT L gr be st sq hd t) := by
  obtain ⟨yq, q1, q2⟩ := nq_r (hd := hd) hst hgr hL ht.1
  obtain ⟨e3, f1, f2⟩ := st_3 hst
  obtain ⟨h1, h2, ⟨lo, l1, l2⟩, ⟨hi, i1, i2⟩, ⟨a, a1, a2⟩, ⟨b, b1, b2⟩, ⟨c, c1, c2⟩⟩ := ht
  unfold stpT
  by_cases h : stpP L gr st hd t
  · rw [if_pos h]
    refine supT_g (K := K + 1) ⟨⟨by show t.1 + 1 < L; have := h.2; omega, yq, q1, q2 h.1⟩, h2, ?_, ?_, ⟨a, by omega, a2⟩, ⟨b, by omega, b2⟩, ⟨c + 1, by omega, by show t.2.2.2.2.2.2.2 + 1 = _; rw [c2, nI_1]⟩⟩
    · show ∃ x, x ≤ 1000 * (t.1 + 1) ∧ (if be (t.1 + 1) = 1 then nI (1000 * (t.1 + 1)) else t.2.2.2.1 + (1000 - st 3)) = nI x
      split
      · exact ⟨_, Nat.le_refl _, rfl⟩
      · refine ⟨lo + (1000 - e3), by omega, ?_⟩
        rw [l2, f2, ← nI_add, ← pk_sub (a := 1000) (b := e3) (by omega)]
        rfl
    · show ∃ x, x ≤ 1100 * (t.1 + 1) ∧ (if be (t.1 + 1) = 1 then nI (1000 * (t.1 + 1)) else t.2.2.2.2.1 + (1000 + st 3)) = nI x
      split
      · exact ⟨_, by omega, rfl⟩
      · refine ⟨hi + (1000 + e3), by omega, ?_⟩
        rw [i2, f2, ← nI_add, ← nI_add 1000 e3]
        rfl
  · rw [if_neg h]
    refine supT_g (K := K + 1) ⟨⟨h1.1, 0, by omega, rfl⟩, h2, ⟨lo, l1, l2⟩, ⟨hi, i1, i2⟩, ⟨a, by omega, a2⟩, ?_, ⟨c, by omega, c2⟩⟩
    show ∃ x, x ≤ K + 1 ∧ (if nqF gr st hd t ≤ 0 then t.2.2.2.2.2.2.1 else t.2.2.2.2.2.2.1 + 1) = nI x
    split
    · exact ⟨b, by omega, b2⟩
    · exact ⟨b + 1, by omega, by rw [b2, nI_1]⟩
theorem stp_q {L : Nat} {gr be st sq : Nat → Int32} {hd : Int32} {t : TV} (hst : ∀ j, j < 7 → tLeast j ≤ st j ∧ st j ≤ tMost j) (hgr : ∀ x, x < L → ∃ e, e ≤ 40 ∧ gr x + 20 = nI e) (hL : L ≤ 200) (ht : TQ L t) : TQ L (stpT L gr be st sq hd t) := by
  obtain ⟨yq, q1, q2⟩ := nq_r (hd := hd) hst hgr hL ht
  unfold stpT
  by_cases h : stpP L gr st hd t
  · rw [if_pos h]
    exact ⟨by show t.1 + 1 < L; have := h.2; omega, yq, q1, q2 h.1⟩
  · rw [if_neg h]
    exact ⟨ht.1, 0, by omega, rfl⟩
theorem drv_g {L : Nat} {gr be st sq : Nat → Int32} (hst : ∀ j, j < 7 → tLeast j ≤ st j ∧ st j ≤ tMost j) (hgr : ∀ x, x < L → ∃ e, e ≤ 40 ∧ gr x + 20 = nI e) (hL : L ≤ 200) : ∀ (k K : Nat) (t : TV), TG K L t → TG (K + 2 * k) L (drvT L gr be st sq k t).2 ∧ (drvT L gr be st sq k t).1 ≤ k
  | 0, K, t, h => ⟨h, Nat.le_refl 0⟩
  | k + 1, K, t, h => by
    have e : drvT L gr be st sq (k + 1) t = (if stpP L gr st (drvH L gr st sq t) t then ((drvT L gr be st sq k (stpT L gr be st sq (drvH L gr st sq t) t)).1 + 1, (drvT L gr be st sq k (stpT L gr be st sq (drvH L gr st sq t) t)).2) else (0, stpT L gr be st sq (drvH L gr st sq t) t)) := rfl
    have h1 := stp_g (be := be) (sq := sq) (hd := drvH L gr st sq t) hst hgr hL h
    obtain ⟨i1, i2⟩ := drv_g hst hgr hL k (K + 2) _ h1
    rw [e]
    split
    · exact ⟨i1.mono (by omega), by show _ + 1 ≤ k + 1; omega⟩
    · exact ⟨h1.mono (by omega), Nat.zero_le _⟩
/-! how fast one may go to stand -/
def dN (gr : Nat → Int32) (b : Int32) (y : Nat) : Nat := (dcl b (gr y)).toNatClampNeg
def sN (gr : Nat → Int32) (b : Int32) (x : Nat) : Nat → Nat
  | 0 => 0
  | k + 1 => sN gr b x k + dN gr b (x + k)
section SP
variable {gr : Nat → Int32} {b : Int32} {L x : Nat}
theorem dN_r (h : ∀ y, y < L → ∃ d, 1 ≤ d ∧ d ≤ 80 ∧ dcl b (gr y) = nI d) {y : Nat} (hy : y < L) : dcl b (gr y) = nI (dN gr b y) ∧ 1 ≤ dN gr b y ∧ dN gr b y ≤ 80 := by
  obtain ⟨d, h1, h2, h3⟩ := h y hy
  unfold dN
  rw [h3, nI_clamp (by omega)]
  exact ⟨rfl, h1, h2⟩
theorem sN_le (h : ∀ y, y < L → ∃ d, 1 ≤ d ∧ d ≤ 80 ∧ dcl b (gr y) = nI d) : ∀ k, x + k ≤ L → sN gr b x k ≤ 80 * k
  | 0, _ => Nat.le_refl 0
  | k + 1, hk => by
    have h1 := sN_le h k (by omega)
    have h2 := (dN_r h (y := x + k) (by omega)).2.2
    show sN gr b x k + dN gr b (x + k) ≤ 80 * (k + 1)
    omega
theorem sN_up (gr : Nat → Int32) (b : Int32) (x : Nat) {i : Nat} : ∀ j, i ≤ j → sN gr b x i ≤ sN gr b x j
  | 0, h => by
    have : i = 0 := by omega
    rw [this]
    exact Nat.le_refl _
  | j + 1, h => by
    by_cases hi : i = j + 1
    · rw [hi]
      exact Nat.le_refl _
    · exact Nat.le_trans (sN_up gr b x j (by omega)) (Nat.le_add_right _ _)
theorem smD_n (h : ∀ y, y < L → ∃ d, 1 ≤ d ∧ d ≤ 80 ∧ dcl b (gr y) = nI d) : ∀ k, x + k ≤ L → smD gr b x k = nI (sN gr b x k)
  | 0, _ => rfl
  | k + 1, hk => by
    show smD gr b x k + dcl b (gr (x + k)) = nI (sN gr b x k + dN gr b (x + k))
    rw [smD_n h k (by omega), (dN_r h (y := x + k) (by omega)).1, nI_add]
theorem stL_n (h : ∀ y, y < L → ∃ d, 1 ≤ d ∧ d ≤ 80 ∧ dcl b (gr y) = nI d) (hL : L ≤ 200) {m q : Nat} (hm : m ≤ 200) (hq : q ≤ 10000) : ∀ (d j : Nat), x + j + d = L → sN gr b x j < q → ((0 ≤ stL gr b d (x + j) x (nI (q - sN gr b x j)) ∧ stL gr b d (x + j) x (nI (q - sN gr b x j)) ≤ nI m) ↔ q ≤ sN gr b x (min (L - x) (m + 1)))
  | 0, j, hj, hs => by
    refine ⟨fun z => absurd z.1 (by show ¬ (0 : Int32) ≤ -1; decide), fun z => ?_⟩
    have := sN_up gr b x (i := min (L - x) (m + 1)) j (by omega)
    omega
  | d + 1, j, hj, hs => by
    obtain ⟨e1, e2, e3⟩ := dN_r h (y := x + j) (by omega)
    have hb := sN_le (x := x) h j (by omega)
    have e : stL gr b (d + 1) (x + j) x (nI (q - sN gr b x j)) = (if nI (q - sN gr b x j) - dcl b (gr (x + j)) ≤ 0 then nI (x + j - x) else stL gr b d (x + j + 1) x (nI (q - sN gr b x j) - dcl b (gr (x + j)))) := rfl
    have es : sN gr b x (j + 1) = sN gr b x j + dN gr b (x + j) := rfl
    rw [e, e1]
    by_cases hc : q ≤ sN gr b x (j + 1)
    · have hle : nI (q - sN gr b x j) - nI (dN gr b (x + j)) ≤ 0 := by
        rcases Nat.lt_or_ge (q - sN gr b x j) (dN gr b (x + j)) with z | z
        · exact Int32.le_of_lt (pk_sneg (by omega) z)
        · rw [pk_sub z, show q - sN gr b x j - dN gr b (x + j) = 0 by omega]
          decide
      rw [if_pos hle, show x + j - x = j by omega]
      constructor
      · intro z
        have hjm := (n_le (by omega) (by omega)).mp z.2
        have := sN_up gr b x (i := j + 1) (min (L - x) (m + 1)) (by omega)
        omega
      · intro z
        refine ⟨nI_pos' (by omega), nI_le ?_ (by omega)⟩
        rcases Nat.lt_or_ge m j with y | y
        · have := sN_up gr b x (i := min (L - x) (m + 1)) j (by omega)
          omega
        · exact y
    · have hle : ¬ nI (q - sN gr b x j) - nI (dN gr b (x + j)) ≤ 0 := by
        rw [pk_sub (by omega)]
        exact nI_nle (by omega) (by omega)
      rw [if_neg hle, pk_sub (by omega), show q - sN gr b x j - dN gr b (x + j) = q - sN gr b x (j + 1) by omega]
      exact stL_n h hL hm hq d (j + 1) (by omega) (by omega)
theorem spd_n (h : ∀ y, y < L → ∃ d, 1 ≤ d ∧ d ≤ 80 ∧ dcl b (gr y) = nI d) (hL : L ≤ 200) (hx : x < L) {m : Nat} (hm : m ≤ 200) {r : Nat} (h1 : r * r ≤ sN gr b x (min (L - x) (m + 1))) (h2 : sN gr b x (min (L - x) (m + 1)) < (r + 1) * (r + 1)) : ∀ k, k ≤ 99 → spdL gr b L x m k = min k r
  | 0, _ => by
    show 0 = min 0 r
    omega
  | k + 1, hk => by
    have e : spdL gr b L x m (k + 1) = (if 0 ≤ stL gr b (L - x) x x (nI (k + 1) * nI (k + 1)) ∧ stL gr b (L - x) x x (nI (k + 1) * nI (k + 1)) ≤ nI m then k + 1 else spdL gr b L x m k) := rfl
    have hsq : (k + 1) * (k + 1) ≤ 10000 := Nat.mul_le_mul (show k + 1 ≤ 100 by omega) (show k + 1 ≤ 100 by omega)
    have hp : 0 < (k + 1) * (k + 1) := Nat.mul_pos (by omega) (by omega)
    have key := stL_n (x := x) h hL hm hsq (L - x) 0 (by omega) hp
    have e0 : sN gr b x 0 = 0 := rfl
    rw [e0, Nat.add_zero, Nat.sub_zero] at key
    rw [e, pk_mul]
    by_cases hc : (k + 1) * (k + 1) ≤ sN gr b x (min (L - x) (m + 1))
    · rw [if_pos (key.mpr hc)]
      have : k + 1 ≤ r := by
        rcases Nat.lt_or_ge r (k + 1) with z | z
        · have := Nat.mul_le_mul (show r + 1 ≤ k + 1 by omega) (show r + 1 ≤ k + 1 by omega)
          omega
        · exact z
      omega
    · rw [if_neg (fun z => hc (key.mp z)), spd_n h hL hx hm h1 h2 k (by omega)]
      have : r ≤ k := by
        rcases Nat.lt_or_ge k r with z | z
        · have := Nat.mul_le_mul (show k + 1 ≤ r by omega) (show k + 1 ≤ r by omega)
          omega
        · exact z
      omega
theorem spd_eq (h : ∀ y, y < L → ∃ d, 1 ≤ d ∧ d ≤ 80 ∧ dcl b (gr y) = nI d) (hL : L ≤ 200) (hx : x < L) {m : Nat} (hm : m ≤ 200) : (if nI (rtL 15 0 (smD gr b x (min (L - x) (m + 1)))) < 99 then nI (rtL 15 0 (smD gr b x (min (L - x) (m + 1)))) else 99) = nI (spdL gr b L x m 99) := by
  have hb := sN_le (x := x) h (min (L - x) (m + 1)) (by omega)
  rw [smD_n h _ (by omega)]
  obtain ⟨r1, r2⟩ := rt_15 (y := sN gr b x (min (L - x) (m + 1))) (by omega)
  have hr := rt_b (nI (sN gr b x (min (L - x) (m + 1))))
  rw [spd_n h hL hx hm r1 r2 99 (by omega)]
  have e99 : (99 : Int32) = nI 99 := rfl
  rw [e99]
  by_cases hc : rtL 15 0 (nI (sN gr b x (min (L - x) (m + 1)))) < 99
  · rw [if_pos (nI_lt hc (by decide)), Nat.min_eq_right (b := rtL 15 0 (nI (sN gr b x (min (L - x) (m + 1))))) (a := 99) (by omega)]
  · rw [if_neg (nI_nlt (by omega) hr), Nat.min_eq_left (a := 99) (by omega)]
end SP
