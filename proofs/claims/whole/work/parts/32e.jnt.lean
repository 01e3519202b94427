/-! both together -/
def JJ (K : Nat) (bads nos fuls cau whe : Int32) (v : SV) (fo sq : Nat → Int32) (nx hd cnt : Nat) (S : Nat → SV) (w : SV) (P : Nat → SV) : Prop :=
  Gd K v ∧ RS v w ∧ (∃ len, v.2.2.2.2.1 2 = nI len ∧ 1 ≤ len ∧ len ≤ 30 ∧ CV v len fo sq) ∧ nx < 7 ∧ hd ≤ 6 ∧ cnt ≤ 120 ∧ HS K nx hd S P ∧ ((∃ b, b ≤ K ∧ bads = nI b) ∧ (∃ b, b ≤ K ∧ nos = nI b) ∧ (∃ b, b ≤ K ∧ fuls = nI b)) ∧ (∃ c, c ≤ 3 ∧ cau = nI c) ∧ (whe = -1 ∨ ∃ s, s ≤ 120 ∧ whe = nI s)
section JE
variable {K : Nat} {bads nos fuls cau whe : Int32} {v : SV} {fo sq : Nat → Int32} {nx hd cnt : Nat} {S : Nat → SV} {w : SV} {P : Nat → SV}
theorem up_b {x : Int32} (h : ∃ b, b ≤ K ∧ x = nI b) : ∃ b, b ≤ K + 200 ∧ x = nI b := by
  obtain ⟨b, h1, h2⟩ := h
  exact ⟨b, by omega, h2⟩
theorem up_1 {x : Int32} (h : ∃ b, b ≤ K ∧ x = nI b) : ∃ b, b ≤ K + 200 ∧ x + 1 = nI b := by
  obtain ⟨b, h1, h2⟩ := h
  exact ⟨b + 1, by omega, by rw [h2, nI_1]⟩
theorem JJ.same (J : JJ K bads nos fuls cau whe v fo sq nx hd cnt S w P) : JJ (K + 200) bads nos fuls cau whe v fo sq nx hd cnt S w P := by
  obtain ⟨h1, h2, h3, h4, h5, h6, h7, ⟨h8, h9, h10⟩, h11, h12⟩ := J
  exact ⟨h1.mono (by omega), h2, h3, h4, h5, h6, h7.mono (by omega), ⟨up_b h8, up_b h9, up_b h10⟩, h11, h12⟩
theorem JJ.bad (J : JJ K bads nos fuls cau whe v fo sq nx hd cnt S w P) : JJ (K + 200) (bads + 1) nos fuls cau whe v fo sq nx hd cnt S w P := by
  obtain ⟨h1, h2, h3, h4, h5, h6, h7, ⟨h8, h9, h10⟩, h11, h12⟩ := J
  exact ⟨h1.mono (by omega), h2, h3, h4, h5, h6, h7.mono (by omega), ⟨up_1 h8, up_b h9, up_b h10⟩, h11, h12⟩
theorem JJ.no (J : JJ K bads nos fuls cau whe v fo sq nx hd cnt S w P) : JJ (K + 200) bads (nos + 1) fuls cau whe v fo sq nx hd cnt S w P := by
  obtain ⟨h1, h2, h3, h4, h5, h6, h7, ⟨h8, h9, h10⟩, h11, h12⟩ := J
  exact ⟨h1.mono (by omega), h2, h3, h4, h5, h6, h7.mono (by omega), ⟨up_b h8, up_1 h9, up_b h10⟩, h11, h12⟩
theorem JJ.full (J : JJ K bads nos fuls cau whe v fo sq nx hd cnt S w P) : JJ (K + 200) bads nos (fuls + 1) cau whe v fo sq nx hd cnt S w P := by
  obtain ⟨h1, h2, h3, h4, h5, h6, h7, ⟨h8, h9, h10⟩, h11, h12⟩ := J
  exact ⟨h1.mono (by omega), h2, h3, h4, h5, h6, h7.mono (by omega), ⟨up_b h8, up_b h9, up_1 h10⟩, h11, h12⟩
theorem JJ.note (J : JJ K bads nos fuls cau whe v fo sq nx hd cnt S w P) : JJ K bads nos fuls cau whe v fo sq nx hd cnt (va_up S nx v) w P := by
  obtain ⟨h1, h2, h3, h4, h5, h6, h7, h8, h9, h10⟩ := J
  exact ⟨h1, h2, h3, h4, h5, h6, h7.note h4 h5 v, h8, h9, h10⟩
theorem JJ.six (J : JJ K bads nos fuls cau whe v fo sq nx hd cnt S w P) (x : SV) : JJ K bads nos fuls cau whe v fo sq nx hd cnt S w (va_up P 6 x) := by
  obtain ⟨h1, h2, h3, h4, h5, h6, h7, h8, h9, h10⟩ := J
  exact ⟨h1, h2, h3, h4, h5, h6, h7.six h5 x, h8, h9, h10⟩
theorem JJ.count (J : JJ K bads nos fuls cau whe v fo sq nx hd cnt S w P) {c : Nat} (hc : c ≤ 120) : JJ K bads nos fuls cau whe v fo sq nx hd c S w P := by
  obtain ⟨h1, h2, h3, h4, h5, h6, h7, h8, h9, h10⟩ := J
  exact ⟨h1, h2, h3, h4, h5, hc, h7, h8, h9, h10⟩
theorem JJ.why (J : JJ K bads nos fuls cau whe v fo sq nx hd cnt S w P) {c d : Int32} (hc : ∃ k, k ≤ 3 ∧ c = nI k) (hd' : ∃ s, s ≤ 120 ∧ d = nI s) : JJ K bads nos fuls c d v fo sq nx hd cnt S w P := by
  obtain ⟨h1, h2, h3, h4, h5, h6, h7, h8, h9, h10⟩ := J
  exact ⟨h1, h2, h3, h4, h5, h6, h7, h8, hc, Or.inr hd'⟩
theorem JJ.keep (J : JJ K bads nos fuls cau whe v fo sq nx hd cnt S w P) {v' w' : SV} {fo' sq' : Nat → Int32} (g : Gd (K + 200) v') (R : RS v' w') (hc : ∃ len, v'.2.2.2.2.1 2 = nI len ∧ 1 ≤ len ∧ len ≤ 30 ∧ CV v' len fo' sq') : JJ (K + 200) bads nos fuls cau whe v' fo' sq' ((nx + 1) % 7) (min 6 (hd + 1)) cnt (va_up S nx v) w' (ntP P hd w) := by
  obtain ⟨h1, h2, h3, h4, h5, h6, h7, ⟨h8, h9, h10⟩, h11, h12⟩ := J
  exact ⟨g, R, hc, Nat.mod_lt _ (by omega), by omega, h6, (h7.keep h4 h5 h2 h1).mono (by omega), ⟨up_b h8, up_b h9, up_b h10⟩, h11, h12⟩
theorem JJ.leave (J : JJ K bads nos fuls cau whe v fo sq nx hd cnt S w P) {v' w' : SV} {fo' sq' : Nat → Int32} (g : Gd (K + 200) v') (R : RS v' w') (hc : ∃ len, v'.2.2.2.2.1 2 = nI len ∧ 1 ≤ len ∧ len ≤ 30 ∧ CV v' len fo' sq') : JJ (K + 200) bads nos fuls cau whe v' fo' sq' ((nx + 1) % 7) (min 6 (hd + 1)) cnt (va_up S nx v) w' (lvP (va_up P 6 w) hd) := by
  obtain ⟨h1, h2, h3, h4, h5, h6, h7, ⟨h8, h9, h10⟩, h11, h12⟩ := J
  exact ⟨g, R, hc, Nat.mod_lt _ (by omega), by omega, h6, (h7.leave h4 h5 h2 h1).mono (by omega), ⟨up_b h8, up_b h9, up_b h10⟩, h11, h12⟩
theorem JJ.back (J : JJ K bads nos fuls cau whe v fo sq nx hd cnt S w P) (h0 : 1 ≤ hd) {fo' sq' : Nat → Int32} (hc : ∃ len, (S ((nx + 6) % 7)).2.2.2.2.1 2 = nI len ∧ 1 ≤ len ∧ len ≤ 30 ∧ CV (S ((nx + 6) % 7)) len fo' sq') : JJ (K + 200) bads nos fuls cau whe (S ((nx + 6) % 7)) fo' sq' ((nx + 6) % 7) (hd - 1) cnt S (P (hd - 1)) P := by
  obtain ⟨h1, h2, h3, h4, h5, h6, h7, ⟨h8, h9, h10⟩, h11, h12⟩ := J
  have ht := h7.top h4 h0 h5
  exact ⟨ht.2.mono (by omega), ht.1, hc, Nat.mod_lt _ (by omega), by omega, h6, (h7.back h4 h0 h5).mono (by omega), ⟨up_b h8, up_b h9, up_b h10⟩, h11, h12⟩
theorem Gd.lenx {K : Nat} {v : SV} (h : Gd K v) : ∃ len, 1 ≤ len ∧ len ≤ 30 ∧ v.2.2.2.2.1 2 = nI len := st_2 h.1.2.2.2
/-- a redrawn curve -/
theorem re_cv {K : Nat} {v' : SV} (h : Gd K v') {len : Nat} (e : v'.2.2.2.2.1 2 = nI len) (h1 : 1 ≤ len) (h2 : len ≤ 30) (fo sq : Nat → Int32) : ∃ len, v'.2.2.2.2.1 2 = nI len ∧ 1 ≤ len ∧ len ≤ 30 ∧ CV v' len (foOf v' len fo) (sqOf v' len fo sq) := ⟨len, e, h1, h2, cv_new v' h1 fo sq⟩
end JE
theorem re_cv2 {v' : SV} {len : Nat} (e : v'.2.2.2.2.1 2 = nI len) (h1 : 1 ≤ len) (h2 : len ≤ 30) (fo sq : Nat → Int32) : ∃ n, v'.2.2.2.2.1 2 = nI n ∧ 1 ≤ n ∧ n ≤ 30 ∧ CV v' n (foOf v' len fo) (sqOf v' len fo sq) := ⟨len, e, h1, h2, cv_new v' h1 fo sq⟩
/-! answers -/
section AN
variable {K : Nat} {v w : SV} {len : Nat} {fo sq : Nat → Int32} (g : Gd K v) (R : RS v w) (hl : 1 ≤ len) (C : CV v len fo sq) (sq' : Nat → Int32)
theorem nn3 {x : Int32} {k : Nat} (hk : k < 2 ^ 31) (e : x = nI k) : ¬ x = -2 ∧ ¬ x = -3 ∧ ¬ x = -4 := by
  subst e
  exact ⟨nI_nn hk (by decide), nI_nn hk (by decide), nI_nn hk (by decide)⟩
theorem a_ce (R : RS v w) {u : Int32} {a z : Nat} (hz : z < v.1) : cntNe v.2.1 u a (z + 1) = cntNe w.2.1 u a (z + 1) := cntNe_cg (fun x hx => (R.2.1 x hx).1) (z + 1) (by omega)
theorem a_gr (R : RS v w) {u : Int32} {a z : Nat} (hz : z < v.1) : cntNe v.2.2.1 u a (z + 1) = cntNe w.2.2.1 u a (z + 1) := cntNe_cg (fun x hx => (R.2.1 x hx).2.1) (z + 1) (by omega)
theorem n_be (g : Gd K v) {a : Nat} (ha : a < v.1) : ¬ v.2.2.2.1 a = -2 ∧ ¬ v.2.2.2.1 a = -3 ∧ ¬ v.2.2.2.1 a = -4 := by
  obtain ⟨k, k1, k2⟩ := (g.1.2.2.1 a ha).2.2
  exact nn3 (by omega) k2
theorem n_st (g : Gd K v) {j : Nat} (hj : j < 7) : ¬ v.2.2.2.2.1 j = -2 ∧ ¬ v.2.2.2.2.1 j = -3 ∧ ¬ v.2.2.2.2.1 j = -4 := by
  obtain ⟨k, k1, k2⟩ := st_n g.1.2.2.2 hj
  exact nn3 (by omega) k2
theorem n_sq (g : Gd K v) (hl : 1 ≤ len) (C : CV v len fo sq) {x : Nat} (hx : x < v.1) : ¬ sq x = -2 ∧ ¬ sq x = -3 ∧ ¬ sq x = -4 := by
  obtain ⟨k, k1, k2⟩ := C.sr g.1 hl hx
  exact nn3 (by omega) k2
theorem n_cev (g : Gd K v) (hl : 1 ≤ len) (C : CV v len fo sq) {x k : Nat} (hx : x < v.1) : ¬ cevF v.2.1 v.2.2.1 v.2.2.2.1 fo (v.2.2.2.2.1 0) x k = -2 ∧ ¬ cevF v.2.1 v.2.2.1 v.2.2.2.1 fo (v.2.2.2.2.1 0) x k = -3 ∧ ¬ cevF v.2.1 v.2.2.1 v.2.2.2.1 fo (v.2.2.2.2.1 0) x k = -4 := by
  obtain ⟨⟨a, a1, a2⟩, ⟨b, b1, b2⟩, ⟨c, c1, c2⟩⟩ := g.1.2.2.1 x hx
  obtain ⟨d, -, d1, d2⟩ := g.1.dc hx
  obtain ⟨e, e1, e2⟩ := g.1.inf hl hx
  match k with
  | 0 => exact nn3 (show a < 2 ^ 31 by omega) a2
  | 1 => exact nn3 (show b < 2 ^ 31 by omega) b2
  | 2 => exact nn3 (show c < 2 ^ 31 by omega) c2
  | 3 => exact nn3 (show d < 2 ^ 31 by omega) d2
  | k + 4 => exact nn3 (show e < 2 ^ 31 by omega) ((C x hx).1.trans e2)
theorem a_cev (R : RS v w) (hl : 1 ≤ len) (C : CV v len fo sq) {x k : Nat} (hx : x < v.1) : cevF v.2.1 v.2.2.1 v.2.2.2.1 fo (v.2.2.2.2.1 0) x k = cevF w.2.1 w.2.2.1 w.2.2.2.1 (infF w.2.1 len) (w.2.2.2.2.1 0) x k := by
  obtain ⟨r1, r2, r3⟩ := R.2.1 x hx
  unfold cevF
  rw [r1, r2, r3, C.ff R hl x hx, R.2.2.1 0 (by omega)]
theorem a_bnd (R : RS v w) (hl : 1 ≤ len) (C : CV v len fo sq) (sq' : Nat → Int32) {x : Nat} (hx : x < v.1) : bndL (sq x) fo v.2.2.1 (v.2.2.2.2.1 0) (v.1 - x) x 0 = bndL ((lwQ w.2.1 w.2.2.1 (w.2.2.2.2.1 0) len w.1 0 sq') x) (infF w.2.1 len) w.2.2.1 (w.2.2.2.2.1 0) (w.1 - x) x 0 := by
  rw [← C.ss R hl sq' x hx, ← R.1, ← R.2.2.1 0 (by omega)]
  exact bndL_cg (C.ff R hl) (fun y hy => (R.2.1 y hy).2.1) _ _ _ (by omega)
theorem a_stn (R : RS v w) {x : Nat} {q : Int32} (hx : x < v.1) : stL v.2.2.1 (v.2.2.2.2.1 0) (v.1 - x) x x q = stL w.2.2.1 (w.2.2.2.2.1 0) (w.1 - x) x x q := by
  rw [← R.1, ← R.2.2.1 0 (by omega)]
  exact stL_cg (fun y hy => (R.2.1 y hy).2.1) _ _ _ (by omega)
theorem stL_v (gr : Nat → Int32) (b : Int32) (x : Nat) : ∀ (d y : Nat) (q : Int32), y + d ≤ 200 → stL gr b d y x q = -1 ∨ ∃ k, k ≤ 200 ∧ stL gr b d y x q = nI k
  | 0, _, _, _ => Or.inl rfl
  | d + 1, y, q, hy => by
    have e : stL gr b (d + 1) y x q = (if q - dcl b (gr y) ≤ 0 then nI (y - x) else stL gr b d (y + 1) x (q - dcl b (gr y))) := rfl
    rw [e]
    split
    · exact Or.inr ⟨y - x, by omega, rfl⟩
    · exact stL_v gr b x d (y + 1) _ (by omega)
theorem n_m1 {x : Int32} (h : x = -1 ∨ ∃ k, k ≤ 200 ∧ x = nI k) : ¬ x = -2 ∧ ¬ x = -3 ∧ ¬ x = -4 := by
  rcases h with rfl | ⟨k, k1, k2⟩
  · decide
  · exact nn3 (by omega) k2
theorem n_stn (g : Gd K v) {x : Nat} {q : Int32} (hx : x < v.1) : ¬ stL v.2.2.1 (v.2.2.2.2.1 0) (v.1 - x) x x q = -2 ∧ ¬ stL v.2.2.1 (v.2.2.2.2.1 0) (v.1 - x) x x q = -3 ∧ ¬ stL v.2.2.1 (v.2.2.2.2.1 0) (v.1 - x) x x q = -4 :=
  n_m1 (stL_v _ _ _ _ _ _ (by have := g.1.2.1; omega))
theorem spd_cg {gr gr' : Nat → Int32} {b : Int32} {L x m : Nat} (hx : x < L) (h : ∀ y, y < L → gr y = gr' y) : ∀ k, spdL gr b L x m k = spdL gr' b L x m k
  | 0 => rfl
  | k + 1 => by
    have e : ∀ f : Nat → Int32, spdL f b L x m (k + 1) = (if 0 ≤ stL f b (L - x) x x (nI (k + 1) * nI (k + 1)) ∧ stL f b (L - x) x x (nI (k + 1) * nI (k + 1)) ≤ nI m then k + 1 else spdL f b L x m k) := fun _ => rfl
    rw [e, e, stL_cg h _ _ _ (by omega), spd_cg hx h k]
theorem spd_le (gr : Nat → Int32) (b : Int32) (L x m : Nat) : ∀ k, spdL gr b L x m k ≤ k
  | 0 => Nat.le_refl 0
  | k + 1 => by
    have e : spdL gr b L x m (k + 1) = (if 0 ≤ stL gr b (L - x) x x (nI (k + 1) * nI (k + 1)) ∧ stL gr b (L - x) x x (nI (k + 1) * nI (k + 1)) ≤ nI m then k + 1 else spdL gr b L x m k) := rfl
    rw [e]
    have := spd_le gr b L x m k
    split <;> omega
theorem a_spd (g : Gd K v) (R : RS v w) {x m : Nat} (hx : x < v.1) (hm : m ≤ 200) : (if nI (rtL 15 0 (smD v.2.2.1 (v.2.2.2.2.1 0) x (min (v.1 - x) (m + 1)))) < 99 then nI (rtL 15 0 (smD v.2.2.1 (v.2.2.2.2.1 0) x (min (v.1 - x) (m + 1)))) else 99) = nI (spdL w.2.2.1 (w.2.2.2.2.1 0) w.1 x m 99) := by
  rw [spd_eq (fun y hy => g.1.dc hy) g.1.2.1 hx hm, ← R.1, ← R.2.2.1 0 (by omega), spd_cg hx (fun y hy => (R.2.1 y hy).2.1)]
theorem n_spd (g : Gd K v) (R : RS v w) {x m : Nat} (hx : x < v.1) (hm : m ≤ 200) : ¬ (if nI (rtL 15 0 (smD v.2.2.1 (v.2.2.2.2.1 0) x (min (v.1 - x) (m + 1)))) < 99 then nI (rtL 15 0 (smD v.2.2.1 (v.2.2.2.2.1 0) x (min (v.1 - x) (m + 1)))) else 99) = -2 ∧ ¬ (if nI (rtL 15 0 (smD v.2.2.1 (v.2.2.2.2.1 0) x (min (v.1 - x) (m + 1)))) < 99 then nI (rtL 15 0 (smD v.2.2.1 (v.2.2.2.2.1 0) x (min (v.1 - x) (m + 1)))) else 99) = -3 ∧ ¬ (if nI (rtL 15 0 (smD v.2.2.1 (v.2.2.2.2.1 0) x (min (v.1 - x) (m + 1)))) < 99 then nI (rtL 15 0 (smD v.2.2.1 (v.2.2.2.2.1 0) x (min (v.1 - x) (m + 1)))) else 99) = -4 := by
  have := spd_le w.2.2.1 (w.2.2.2.2.1 0) w.1 x m 99
  exact nn3 (by omega) (a_spd g R hx hm)
theorem a_many (R : RS v w) (hl : 1 ≤ len) (C : CV v len fo sq) (sq' : Nat → Int32) (u : Int32) : cntP sq u v.1 = cntP (lwQ w.2.1 w.2.2.1 (w.2.2.2.2.1 0) len w.1 0 sq') u w.1 := by
  rw [← R.1, cntP_cg (L := v.1) (C.ss R hl sq') v.1 (Nat.le_refl _), ← R.1]
theorem a_sup (g : Gd K v) (R : RS v w) (hl : 1 ≤ len) (C : CV v len fo sq) (sq' : Nat → Int32) (t : TV) : supT v.1 v.2.2.2.2.1 sq t = supT w.1 w.2.2.2.2.1 (lwQ w.2.1 w.2.2.1 (w.2.2.2.2.1 0) len w.1 0 sq') t := by
  have h1 := g.1.1
  have := supT_cg (by omega) g.1.2.1 (C.ss R hl sq') R.2.2.1 t
  rw [this, R.1]
theorem n_sup (L : Nat) (st sq : Nat → Int32) (t : TV) : ¬ (supT L st sq t).2.2.1 = -2 ∧ ¬ (supT L st sq t).2.2.1 = -3 ∧ ¬ (supT L st sq t).2.2.1 = -4 := by
  obtain ⟨k, k1, k2⟩ := supM_r t.2.2.1 (abv L sq t) st
  exact nn3 (show k < 2 ^ 31 by omega) k2
theorem a_stp (g : Gd K v) (R : RS v w) (hl : 1 ≤ len) (C : CV v len fo sq) (sq' : Nat → Int32) (u : Int32) : stpT v.1 v.2.2.1 v.2.2.2.1 v.2.2.2.2.1 sq u v.2.2.2.2.2 = stpT w.1 w.2.2.1 w.2.2.2.1 w.2.2.2.2.1 (lwQ w.2.1 w.2.2.1 (w.2.2.2.2.1 0) len w.1 0 sq') u w.2.2.2.2.2 := by
  have h1 := g.1.1
  have := stpT_cg (by omega) g.1.2.1 (fun y hy => (R.2.1 y hy).2.1) (fun y hy => (R.2.1 y hy).2.2) (C.ss R hl sq') R.2.2.1 g.2.1.1 u
  rw [this, R.1, R.2.2.2]
theorem a_stpP (g : Gd K v) (R : RS v w) (u : Int32) : bI (stpP v.1 v.2.2.1 v.2.2.2.2.1 u v.2.2.2.2.2) = bI (stpP w.1 w.2.2.1 w.2.2.2.2.1 u w.2.2.2.2.2) := by
  apply bI_cg
  rw [← R.1, ← R.2.2.2]
  exact stpP_cg (fun y hy => (R.2.1 y hy).2.1) R.2.2.1 g.2.1.1 u
theorem a_drv (g : Gd K v) (R : RS v w) (hl : 1 ≤ len) (C : CV v len fo sq) (sq' : Nat → Int32) (m : Nat) : drvT v.1 v.2.2.1 v.2.2.2.1 v.2.2.2.2.1 sq m v.2.2.2.2.2 = drvT w.1 w.2.2.1 w.2.2.2.1 w.2.2.2.2.1 (lwQ w.2.1 w.2.2.1 (w.2.2.2.2.1 0) len w.1 0 sq') m w.2.2.2.2.2 := by
  have h1 := g.1.1
  have := drvT_cg (by omega) g.1.2.1 (fun y hy => (R.2.1 y hy).2.1) (fun y hy => (R.2.1 y hy).2.2) (C.ss R hl sq') R.2.2.1 m v.2.2.2.2.2 g.2.1.1
  rw [this, R.1, R.2.2.2]
theorem a_trv (g : Gd K v) (R : RS v w) (hl : 1 ≤ len) (C : CV v len fo sq) (sq' : Nat → Int32) (k : Nat) : trvF v.1 v.2.2.1 v.2.2.2.2.1 sq v.2.2.2.2.2 k = trvF w.1 w.2.2.1 w.2.2.2.2.1 (lwQ w.2.1 w.2.2.1 (w.2.2.2.2.1 0) len w.1 0 sq') w.2.2.2.2.2 k := by
  have h1 := g.1.1
  have := trvF_cg (by omega) g.1.2.1 (fun y hy => (R.2.1 y hy).2.1) (C.ss R hl sq') R.2.2.1 g.2.1.1 k
  rw [this, R.1, R.2.2.2]
theorem n_trv (hK : K < 2 ^ 30) (g : Gd K v) (sq : Nat → Int32) {k : Nat} : ¬ trvF v.1 v.2.2.1 v.2.2.2.2.1 sq v.2.2.2.2.2 k = -2 ∧ ¬ trvF v.1 v.2.2.1 v.2.2.2.2.1 sq v.2.2.2.2.2 k = -3 ∧ ¬ trvF v.1 v.2.2.1 v.2.2.2.2.1 sq v.2.2.2.2.2 k = -4 := by
  obtain ⟨⟨c1, c2, -, -⟩, ⟨t0, y, y1, y2⟩, ⟨m, m1, m2⟩, ⟨a, a1, a2⟩, ⟨b, b1, b2⟩, ⟨c, d1, d2⟩, ⟨e, e1, e2⟩, ⟨f, f1, f2⟩⟩ := g
  have hd : ∃ k, k ≤ 2 ∧ drvH v.1 v.2.2.1 v.2.2.2.2.1 sq v.2.2.2.2.2 + 1 = nI k := by
    unfold drvH
    split
    · split
      · exact ⟨0, by omega, rfl⟩
      · exact ⟨1, by omega, rfl⟩
    · exact ⟨2, by omega, rfl⟩
  obtain ⟨z, z1, z2⟩ := hd
  match k with
  | 0 => exact nn3 (show v.2.2.2.2.2.1 < 2 ^ 31 by omega) rfl
  | 1 => exact nn3 (show y < 2 ^ 31 by omega) y2
  | 2 => exact nn3 (rt_b _) rfl
  | 3 => exact nn3 (show m < 2 ^ 31 by omega) m2
  | 4 => exact nn3 (show a < 2 ^ 31 by omega) a2
  | 5 => exact nn3 (show b < 2 ^ 31 by omega) b2
  | 6 => exact nn3 (Nat.lt_trans (kpt_lt (by omega) c2) (by omega)) rfl
  | 7 => exact nn3 (Nat.lt_trans (kpt_lt (by omega) c2) (by omega)) rfl
  | 8 => exact nn3 (rt_b _) rfl
  | 9 => exact nn3 (show c < 2 ^ 31 by omega) d2
  | 10 => exact nn3 (show e < 2 ^ 31 by omega) e2
  | 11 => exact nn3 (show z < 2 ^ 31 by omega) z2
  | k + 12 => exact nn3 (show f < 2 ^ 31 by omega) f2
theorem n_tld (hK : K < 2 ^ 30) (g : Gd K v) {ba no fu : Int32} {cnt hd : Nat} (h1 : ∃ b, b ≤ K ∧ ba = nI b) (h2 : ∃ b, b ≤ K ∧ no = nI b) (h3 : ∃ b, b ≤ K ∧ fu = nI b) (hc : cnt ≤ 120) (hh : hd ≤ 6) {k : Nat} (hk : k < 13) : ¬ tldF ba no fu v.1 v.2.2.2.2.1 cnt hd k = -2 ∧ ¬ tldF ba no fu v.1 v.2.2.2.2.1 cnt hd k = -3 ∧ ¬ tldF ba no fu v.1 v.2.2.2.2.1 cnt hd k = -4 := by
  obtain ⟨a, a1, a2⟩ := h1
  obtain ⟨b, b1, b2⟩ := h2
  obtain ⟨c, c1, c2⟩ := h3
  have hL := g.1.2.1
  match k, hk with
  | 0, _ => exact nn3 (show a < 2 ^ 31 by omega) a2
  | 1, _ => exact nn3 (show b < 2 ^ 31 by omega) b2
  | 2, _ => exact nn3 (show c < 2 ^ 31 by omega) c2
  | 3, _ => exact nn3 (show v.1 < 2 ^ 31 by omega) rfl
  | 4, _ => exact n_st g (by omega)
  | 5, _ => exact n_st g (by omega)
  | 6, _ => exact n_st g (by omega)
  | 7, _ => exact n_st g (by omega)
  | 8, _ => exact n_st g (by omega)
  | 9, _ => exact n_st g (by omega)
  | 10, _ => exact n_st g (by omega)
  | 11, _ => exact nn3 (show cnt < 2 ^ 31 by omega) rfl
  | 12, _ => exact nn3 (show hd < 2 ^ 31 by omega) rfl
  | k + 13, h => exact absurd h (by omega)
theorem a_dg (g : Gd K v) (R : RS v w) (hl : 1 ≤ len) (C : CV v len fo sq) (sq' : Nat → Int32) (ba no fu ca wh : Int32) (cnt hd : Nat) : dgF ba no fu ca wh v cnt hd sq = dgF ba no fu ca wh w cnt hd (lwQ w.2.1 w.2.2.1 (w.2.2.2.2.1 0) len w.1 0 sq') := by
  unfold dgF
  have e1 : hxF (tldF ba no fu v.1 v.2.2.2.2.1 cnt hd) 13 1926 = hxF (tldF ba no fu w.1 w.2.2.2.2.1 cnt hd) 13 1926 := hxF_cg _ 13 (fun j hj => by rw [← R.1]; exact tldF_cg R.2.2.1 hj)
  rw [e1, hxF_cg _ 13 (fun j _ => a_trv g R hl C sq' j), cxF_cg (L := v.1) (fun y hy => (R.2.1 y hy).1) (fun y hy => (R.2.1 y hy).2.1) (fun y hy => (R.2.1 y hy).2.2) (C.ss R hl sq') _ v.1 (Nat.le_refl _), ← R.1]
end AN
