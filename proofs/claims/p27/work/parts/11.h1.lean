/-! the text: how the law writes it -/
theorem cell_e (n : Nat) (hn : n ≤ 1000) (c : A32) (k : Nat) (hk : k < 1000) : ∃ x, f_L_cell n c (nI k) = some x := by
  unfold f_L_cell
  by_cases q : n ≤ k
  · rw [if_pos (nI_le q (by omega))]
    exact ⟨_, rfl⟩
  · rw [if_neg (nI_ge (by omega) (by omega)), if_pos ((inB_e (by omega)).mpr (by omega))]
    exact ⟨_, rfl⟩
theorem half_e (x : Int32) : ∃ y : Nat, y < 2 ^ 31 ∧ UInt32.toInt32 (Int32.toUInt32 x >>> (Int32.toUInt32 1 &&& Int32.toUInt32 31)) = nI y := by
  obtain ⟨m, hm, e⟩ := bt_lt (x := UInt32.toInt32 (Int32.toUInt32 x >>> (Int32.toUInt32 1 &&& Int32.toUInt32 31))) (n := 31) (Nat.le_refl _) (fun i h1 h2 => by
    have := b_ushr 1 (by decide) x i
    rw [show (nI 1).toUInt32 = Int32.toUInt32 1 from rfl] at this
    rw [this]
    exact b_big (by omega))
  exact ⟨m, hm, e⟩
theorem at_e (x : Int32) {m : Nat} (h0 : 0 < m) (hm : m < 1000) : ∃ j, j < m ∧ f_L_at x (nI m) = some (nI j) := by
  obtain ⟨y, hy, e⟩ := half_e x
  unfold f_L_at
  rw [if_neg (nI_ne0 h0 (by omega)), e, pk_rem hy h0 (by omega)]
  exact ⟨y % m, Nat.mod_lt _ h0, rfl⟩
def pos (dor : Nat → Bool) : Nat → Nat
  | 0 => 0
  | g + 1 => pos dor g + 4 + (if dor g = true then 1 else 0)
theorem pos_cong {p q : Nat → Bool} : ∀ {g : Nat}, (∀ j, j < g → p j = q j) → pos p g = pos q g := by
  intro g
  induction g with
  | zero => intro _; rfl
  | succ g ih =>
    intro h
    show pos p g + 4 + _ = pos q g + 4 + _
    rw [ih (fun j hj => h j (by omega)), h g (by omega)]
theorem pos_le (p : Nat → Bool) : ∀ g, pos p g ≤ 5 * g := by
  intro g
  induction g with
  | zero => exact Nat.le_refl _
  | succ g ih =>
    show pos p g + 4 + _ ≤ _
    split <;> omega
theorem pos_ge (p : Nat → Bool) : ∀ g, 4 * g ≤ pos p g := by
  intro g
  induction g with
  | zero => exact Nat.le_refl _
  | succ g ih =>
    show _ ≤ pos p g + 4 + _
    split <;> omega
theorem pos_mono (p : Nat → Bool) {g j : Nat} (h : j < g) : pos p j + 4 + (if p j = true then 1 else 0) ≤ pos p g := by
  induction g with
  | zero => exact absurd h (Nat.not_lt_zero j)
  | succ g ih =>
    rcases Nat.lt_or_ge j g with q | q
    · have := ih q
      show _ ≤ pos p g + 4 + _
      omega
    · have : j = g := by omega
      subst this
      exact Nat.le_refl _
/-- the letters of gallery j, and the one behind it -/
def GL (t : A32) (one two len : Nat → Nat) (dor : Nat → Bool) (j : Nat) : Prop :=
  t (pos dor j) = nI (48 + one j) ∧ t (pos dor j + 1) = nI (48 + two j) ∧ t (pos dor j + 2) = nI (48 + len j) ∧ (dor j = true → t (pos dor j + 3) = nI 100)
/-- the text of a mine -/
def TX (t : A32) (G : Nat) (one two len : Nat → Nat) (dor : Nat → Bool) (dr : Nat → Nat) (S : Nat) (kn : Nat → Nat) (n : Nat) : Prop :=
  (∀ g, g < G → GL t one two len dor g ∧ t (pos dor (g + 1) - 1) = nI (if g + 1 < G then 44 else 59)) ∧
  (∀ k, k < S → t (pos dor G + 2 * k) = nI (48 + kn k) ∧ t (pos dor G + 2 * k + 1) = nI (47 + dr (kn k)) ∧ kn k < 7 ∧ 1 ≤ dr (kn k) ∧ dr (kn k) ≤ 10) ∧
  (∀ i j, i < j → j < S → kn i ≠ kn j) ∧ (∀ q, q < 7 → 0 < dr q → ∃ k, k < S ∧ kn k = q) ∧ 2 ≤ S ∧ S ≤ 7 ∧ n = pos dor G + 2 * S
def setF {α : Type} (f : Nat → α) (k : Nat) (x : α) (j : Nat) : α := if j = k then x else f j
theorem setF_s {α : Type} (f : Nat → α) (k : Nat) (x : α) : setF f k x k = x := if_pos rfl
theorem setF_n {α : Type} (f : Nat → α) {k j : Nat} (x : α) (h : j ≠ k) : setF f k x j = f j := if_neg h
def GI (G g : Nat) (d t : A32) (v : Nat) (one two len : Nat → Nat) (dor : Nat → Bool) : Prop :=
  d 0 = nI G ∧ d 51 = 0 ∧ v = (if g = 0 then 0 else pos dor g - 1) ∧ ∀ j, j < g → (d (1 + j) = nI (one j) ∧ d (11 + j) = nI (two j) ∧ d (21 + j) = nI (len j) ∧ d (31 + j) = b2i (dor j) ∧ d (41 + j) = b2i true) ∧ (one j < 7 ∧ two j < 7 ∧ one j ≠ two j ∧ 1 ≤ len j ∧ len j ≤ 9) ∧ GL t one two len dor j ∧ (j + 1 < g → t (pos dor (j + 1) - 1) = nI 44)
theorem sub1 {n : Nat} (h : 1 ≤ n) : nI n - 1 = nI (n - 1) := pk_sub (a := n) (b := 1) h
theorem gal_d {G g : Nat} {d t : A32} {v : Nat} {one two len : Nat → Nat} {dor : Nat → Bool} (hG : G ≤ 10) (hg : g < G) (h : GI G g d t v one two len dor) {a b l : Nat} {dd : Bool} (ha : a < 7) (hb : b < 7) (hab : a ≠ b) (hl1 : 1 ≤ l) (hl2 : l ≤ 9) {t' : A32} (e0 : ∀ i, i < v → t' i = t i) (e1 : t' (pos dor g) = nI (48 + a)) (e2 : t' (pos dor g + 1) = nI (48 + b)) (e3 : t' (pos dor g + 2) = nI (48 + l)) (e4 : dd = true → t' (pos dor g + 3) = nI 100) (e5 : 0 < g → t' v = nI 44) :
    GI G (g + 1) (upd (upd (upd (upd (upd d (1 + g) (nI a)) (11 + g) (nI b)) (21 + g) (nI l)) (31 + g) (b2i dd)) (41 + g) 1) t' (pos dor g + 3 + (if dd = true then 1 else 0)) (setF one g a) (setF two g b) (setF len g l) (setF dor g dd) := by
  obtain ⟨h0, h51, hv, hj⟩ := h
  have hpc : ∀ j, j ≤ g → pos (setF dor g dd) j = pos dor j := fun j hj => pos_cong (fun i hi => setF_n _ _ (by omega))
  have hps : pos (setF dor g dd) (g + 1) = pos dor g + 4 + (if dd = true then 1 else 0) := by
    show pos _ g + 4 + (if setF dor g dd g = true then 1 else 0) = _
    rw [hpc g (Nat.le_refl _), setF_s]
  refine ⟨?_, ?_, ?_, ?_⟩
  · simp (disch := omega) only [upd_n]; exact h0
  · simp (disch := omega) only [upd_n]; exact h51
  · rw [if_neg (Nat.succ_ne_zero g), hps]
    omega
  · intro j hjg
    by_cases q : j = g
    · subst q
      refine ⟨⟨?_, ?_, ?_, ?_, ?_⟩, ?_, ⟨?_, ?_, ?_, ?_⟩, fun hx => absurd hx (by omega)⟩
      · simp (disch := omega) only [upd_n, upd_s, setF_s]
      · simp (disch := omega) only [upd_n, upd_s, setF_s]
      · simp (disch := omega) only [upd_n, upd_s, setF_s]
      · simp (disch := omega) only [upd_n, upd_s, setF_s]
      · rw [upd_s]; rfl
      · simp only [setF_s]
        exact ⟨ha, hb, hab, hl1, hl2⟩
      · rw [hpc j (Nat.le_refl _), setF_s]; exact e1
      · rw [hpc j (Nat.le_refl _), setF_s]; exact e2
      · rw [hpc j (Nat.le_refl _), setF_s]; exact e3
      · rw [hpc j (Nat.le_refl _), setF_s]; exact e4
    · have hlt : j < g := by omega
      obtain ⟨⟨a1, a2, a3, a4, a5⟩, w, ⟨b1, b2, b3, b4⟩, b5⟩ := hj j hlt
      have hpm := pos_mono dor hlt
      have hvv : v = pos dor g - 1 := by rw [hv, if_neg (by omega)]
      refine ⟨⟨?_, ?_, ?_, ?_, ?_⟩, ?_, ⟨?_, ?_, ?_, ?_⟩, fun hx => ?_⟩
      · simp (disch := omega) only [upd_n, setF_n _ _ q]; exact a1
      · simp (disch := omega) only [upd_n, setF_n _ _ q]; exact a2
      · simp (disch := omega) only [upd_n, setF_n _ _ q]; exact a3
      · simp (disch := omega) only [upd_n, setF_n _ _ q]; exact a4
      · simp (disch := omega) only [upd_n]; exact a5
      · simp only [setF_n _ _ q]; exact w
      · rw [hpc j (by omega), setF_n _ _ q, e0 _ (by omega)]; exact b1
      · rw [hpc j (by omega), setF_n _ _ q, e0 _ (by omega)]; exact b2
      · rw [hpc j (by omega), setF_n _ _ q, e0 _ (by omega)]; exact b3
      · rw [hpc j (by omega), setF_n _ _ q]
        intro hdj
        rw [hdj, if_pos rfl] at hpm
        rw [e0 _ (by omega)]
        exact b4 hdj
      · rw [hpc (j + 1) (by omega)]
        by_cases r : j + 1 = g
        · subst r
          rw [← hvv]
          exact e5 (by omega)
        · have hpm2 := pos_mono dor (show j + 1 < g by omega)
          rw [e0 _ (by omega)]
          exact b5 (by omega)
section MT
variable {n : Nat} {xs : A32}
theorem at_9 (x : Int32) : ∃ j, j < 9 ∧ f_L_at x 9 = some (nI j) := at_e x (m := 9) (by decide) (by decide)
theorem at_2 (x : Int32) : ∃ j, j < 2 ∧ f_L_at x 2 = some (nI j) := at_e x (m := 2) (by decide) (by decide)
theorem gal_num {kn : Nat} (k3 : 3 ≤ kn) (k7 : kn ≤ 7) (y9 : Int32) : ∃ a b l dd, a < kn ∧ b < kn - 1 ∧ l < 9 ∧ dd < 2 ∧ f_L_at y9 (nI kn) = some (nI a) ∧ f_L_at (y9 >>> (3 &&& 31)) (nI (kn - 1)) = some (nI b) ∧ f_L_at (y9 >>> (6 &&& 31)) 9 = some (nI l) ∧ f_L_at (y9 >>> (10 &&& 31)) 2 = some (nI dd) := by
  obtain ⟨a, a1, a2⟩ := at_e y9 (m := kn) (by omega) (by omega)
  obtain ⟨b, b1, b2⟩ := at_e (y9 >>> (3 &&& 31)) (m := kn - 1) (by omega) (by omega)
  obtain ⟨l, l1, l2⟩ := at_9 (y9 >>> (6 &&& 31))
  obtain ⟨dd, d1, d2⟩ := at_2 (y9 >>> (10 &&& 31))
  exact ⟨a, b, l, dd, a1, b1, l1, d1, a2, b2, l2, d2⟩
theorem gal_two {kn a b : Nat} (k3 : 3 ≤ kn) (k7 : kn ≤ 7) (ha : a < kn) (hb : b < kn - 1) : (a + 1 + b) % kn < kn ∧ a ≠ (a + 1 + b) % kn := by
  refine ⟨Nat.mod_lt _ (by omega), ?_⟩
  rcases (show kn = 3 ∨ kn = 4 ∨ kn = 5 ∨ kn = 6 ∨ kn = 7 by omega) with rfl | rfl | rfl | rfl | rfl <;> omega
theorem gal_s1 {G g : Nat} {d t : A32} {v : Nat} (hG : G ≤ 10) (hg : g < G) (h0 : d 0 = nI G) (hv : v ≤ 50) {kn : Nat} (k3 : 3 ≤ kn) (k7 : kn ≤ 7) {y : Int32} (hy : f_L_cell n xs (nI (1 + g % 5)) = some y) {a b l : Nat} {dd : Bool}
    (ha : a < kn) (hb : b < kn - 1) (a2 : f_L_at (y >>> ((12 * (nI g / 5)) &&& 31)) (nI kn) = some (nI a)) (b2 : f_L_at (y >>> ((12 * (nI g / 5)) &&& 31) >>> (3 &&& 31)) (nI (kn - 1)) = some (nI b)) (l2 : f_L_at (y >>> ((12 * (nI g / 5)) &&& 31) >>> (6 &&& 31)) 9 = some (nI l)) (d2 : f_L_at (y >>> ((12 * (nI g / 5)) &&& 31) >>> (10 &&& 31)) 2 = some (b2i dd))
    (v5 : Int32) (fu : Nat) (tt : A32) (vv : Nat) (q0 : g = 0 → tt = t ∧ vv = v) (q1 : 0 < g → tt = upd t v 44 ∧ vv = v + 1) :
    f_L_mineText_b41 59 64 n xs (nI 0) v5 (nI kn) (fu + 1) d t (nI v) (nI g) = f_L_mineText_b172 (f_L_mineText_b41 59 64 n xs (nI 0) v5 (nI kn) fu) 59 64 n xs (upd (upd (upd (upd (upd d (1 + g) (nI a)) (11 + g) (nI ((a + 1 + b) % kn))) (21 + g) (nI (1 + l))) (31 + g) (b2i dd)) (41 + g) 1) tt (nI 0) v5 (nI vv) (nI kn) (nI g) := by
  have idx : (nI 0 + 1) + (nI g - nI g / 5 * 5) = nI (1 + g % 5) := by
    rw [nI_1, show (5 : Int32) = nI 5 from rfl, pk_rem (by omega) (by decide) (by decide), nI_add]
  have htwo : (nI a + 1 + nI b) - (nI a + 1 + nI b) / nI kn * nI kn = nI ((a + 1 + b) % kn) := by
    rw [nI_1, nI_add, pk_rem (by omega) (by omega) (by omega)]
  have hkn0 : (nI kn = 0) = False := eq_false (nI_ne0 (by omega) (by omega))
  generalize (a + 1 + b) % kn = bb at *
  have i1 : inB (nI (1 + g)) 59 := (inB_e (by omega)).mpr (by omega)
  have i11 : inB (nI (11 + g)) 59 := (inB_e (by omega)).mpr (by omega)
  have i21 : inB (nI (21 + g)) 59 := (inB_e (by omega)).mpr (by omega)
  have i31 : inB (nI (31 + g)) 59 := (inB_e (by omega)).mpr (by omega)
  have i41 : inB (nI (41 + g)) 59 := (inB_e (by omega)).mpr (by omega)
  have iv : inB (nI v) 64 := (inB_e (by omega)).mpr (by omega)
  have hnl : ¬ d (Int32.toNatClampNeg 0) ≤ nI g := by rw [cl0, h0]; exact nI_ge hg (by omega)
  rw [f_L_mineText_b41, if_pos (show inB 0 59 by decide), if_neg hnl, idx, hy, bnd_e, nam_e, a2, bnd_e, ad1, ad11, ad21, ad31, ad41, upd_s, if_pos i1, if_pos i1, sub1 (show 1 ≤ kn by omega), b2, bnd_e, if_neg (nI_ne0 (n := kn) (by omega) (by omega)), htwo, if_pos i11, l2, bnd_e, ad1, if_pos i21, d2, bnd_e, if_pos i31, if_pos i41]
  rcases Nat.eq_zero_or_pos g with r | r
  · obtain ⟨rfl, rfl⟩ := q0 r
    rw [if_pos (show nI g ≤ 0 by rw [r]; decide), cl_e (show 1 + g < 2 ^ 31 by omega), cl_e (show 11 + g < 2 ^ 31 by omega), cl_e (show 21 + g < 2 ^ 31 by omega), cl_e (show 31 + g < 2 ^ 31 by omega), cl_e (show 41 + g < 2 ^ 31 by omega)]
  · obtain ⟨rfl, rfl⟩ := q1 r
    rw [if_neg (nI_nle r (by omega)), nam_e, nI_1, if_pos iv, cl_e (show 1 + g < 2 ^ 31 by omega), cl_e (show 11 + g < 2 ^ 31 by omega), cl_e (show 21 + g < 2 ^ 31 by omega), cl_e (show 31 + g < 2 ^ 31 by omega), cl_e (show 41 + g < 2 ^ 31 by omega), cl_e (show v < 2 ^ 31 by omega)]
theorem gal_l1 (k41 : A32 → A32 → Int32 → Int32 → Option (Int32 × A32 × A32)) {g : Nat} (hg : g < 10) {dA tt : A32} {P a b l : Nat} (hP : P ≤ 50) (h1 : dA (1 + g) = nI a) (h2 : dA (11 + g) = nI b) (h3 : dA (21 + g) = nI l) (h4 : dA (31 + g) = b2i true) (v5 v7 : Int32) :
    f_L_mineText_b172 k41 59 64 n xs dA tt (nI 0) v5 (nI P) v7 (nI g) = k41 dA (upd (upd (upd (upd tt P (nI (48 + a))) (P + 1) (nI (48 + b))) (P + 2) (nI (48 + l))) (P + 3) (nI 100)) (nI (P + 4)) (nI (g + 1)) := by
  have h10 : (b2i true ≤ 0) = False := eq_false (by decide)
  have k100 : (100 : Int32) = nI 100 := rfl
  have p1 : nI P + 1 = nI (P + 1) := nI_1 P
  have p2 : nI (P + 1) + 1 = nI (P + 2) := nI_1 (P + 1)
  have p3 : nI (P + 2) + 1 = nI (P + 3) := nI_1 (P + 2)
  have p4 : nI (P + 3) + 1 = nI (P + 4) := nI_1 (P + 3)
  have pg : nI g + 1 = nI (g + 1) := nI_1 g
  simp (disch := omega) only [f_L_mineText_b172, f_L_mineText_b245, ad1, ad11, ad21, ad31, inT, if_true, cl_e, h1, h2, h3, h4, nam_e, p1, p2, p3, p4, pg, ad48, h10, if_false, k100]
theorem gal_l0 (k41 : A32 → A32 → Int32 → Int32 → Option (Int32 × A32 × A32)) {g : Nat} (hg : g < 10) {dA tt : A32} {P a b l : Nat} (hP : P ≤ 50) (h1 : dA (1 + g) = nI a) (h2 : dA (11 + g) = nI b) (h3 : dA (21 + g) = nI l) (h4 : dA (31 + g) = b2i false) (v5 v7 : Int32) :
    f_L_mineText_b172 k41 59 64 n xs dA tt (nI 0) v5 (nI P) v7 (nI g) = k41 dA (upd (upd (upd tt P (nI (48 + a))) (P + 1) (nI (48 + b))) (P + 2) (nI (48 + l))) (nI (P + 3)) (nI (g + 1)) := by
  have h10 : (b2i false ≤ 0) = True := eq_true (by decide)
  have p1 : nI P + 1 = nI (P + 1) := nI_1 P
  have p2 : nI (P + 1) + 1 = nI (P + 2) := nI_1 (P + 1)
  have p3 : nI (P + 2) + 1 = nI (P + 3) := nI_1 (P + 2)
  have pg : nI g + 1 = nI (g + 1) := nI_1 g
  simp (disch := omega) only [f_L_mineText_b172, f_L_mineText_b245, ad1, ad11, ad21, ad31, inT, if_true, cl_e, h1, h2, h3, h4, nam_e, p1, p2, p3, pg, ad48, h10]
theorem gal_step (hn : n ≤ 260) {G g : Nat} {d t : A32} {v : Nat} {one two len : Nat → Nat} {dor : Nat → Bool} (hG : G ≤ 10) (hg : g < G) (h : GI G g d t v one two len dor) {kn : Nat} (k3 : 3 ≤ kn) (k7 : kn ≤ 7) (v5 : Int32) (fu : Nat) :
    ∃ d' t' v' one' two' len' dor', GI G (g + 1) d' t' v' one' two' len' dor' ∧ f_L_mineText_b41 59 64 n xs (nI 0) v5 (nI kn) (fu + 1) d t (nI v) (nI g) = f_L_mineText_b41 59 64 n xs (nI 0) v5 (nI kn) fu d' t' (nI v') (nI (g + 1)) := by
  have h0 := h.1
  have hv := h.2.2.1
  have hpl := pos_le dor g
  have hpg := pos_ge dor g
  have hvb : v ≤ 50 ∧ (0 < g → v + 1 = pos dor g) ∧ (g = 0 → v = 0 ∧ pos dor g = 0) := by
    rw [hv]
    refine ⟨?_, ?_, ?_⟩
    · split <;> omega
    · intro q; rw [if_neg (by omega)]; omega
    · intro q; subst q; exact ⟨rfl, rfl⟩
  obtain ⟨y, hy⟩ := cell_e n (by omega) xs (1 + g % 5) (by have := Nat.mod_lt g (show 0 < 5 by decide); omega)
  obtain ⟨a, b, l, dd, a1, b1, l1, d1, a2, b2, l2, d2⟩ := gal_num k3 k7 (y >>> ((12 * (nI g / 5)) &&& 31))
  obtain ⟨hb7, hne⟩ := gal_two k3 k7 a1 b1
  obtain ⟨db, hdb⟩ : ∃ db : Bool, nI dd = b2i db := by
    rcases (show dd = 0 ∨ dd = 1 by omega) with rfl | rfl
    · exact ⟨false, rfl⟩
    · exact ⟨true, rfl⟩
  rw [hdb] at d2
  obtain ⟨tt, hlo, hcom, hs⟩ : ∃ tt, (∀ i, i < v → tt i = t i) ∧ (0 < g → tt v = nI 44) ∧ f_L_mineText_b41 59 64 n xs (nI 0) v5 (nI kn) (fu + 1) d t (nI v) (nI g) = f_L_mineText_b172 (f_L_mineText_b41 59 64 n xs (nI 0) v5 (nI kn) fu) 59 64 n xs (upd (upd (upd (upd (upd d (1 + g) (nI a)) (11 + g) (nI ((a + 1 + b) % kn))) (21 + g) (nI (1 + l))) (31 + g) (b2i db)) (41 + g) 1) tt (nI 0) v5 (nI (pos dor g)) (nI kn) (nI g) := by
    rcases Nat.eq_zero_or_pos g with r | r
    · refine ⟨t, fun _ _ => rfl, fun q => absurd q (by omega), ?_⟩
      exact gal_s1 hG hg h0 hvb.1 k3 k7 hy a1 b1 a2 b2 l2 d2 v5 fu t (pos dor g) (fun _ => ⟨rfl, by have := hvb.2.2 r; omega⟩) (fun q => absurd q (by omega))
    · refine ⟨upd t v 44, fun i hi => upd_n _ _ (by omega), fun _ => upd_s _ _ _, ?_⟩
      exact gal_s1 hG hg h0 hvb.1 k3 k7 hy a1 b1 a2 b2 l2 d2 v5 fu (upd t v 44) (pos dor g) (fun q => absurd q (by omega)) (fun _ => ⟨rfl, (hvb.2.1 r).symm⟩)
  have hvlt : ∀ i, i < v → i < pos dor g := fun i hi => by
    rcases Nat.eq_zero_or_pos g with r | r
    · have := hvb.2.2 r; omega
    · have := hvb.2.1 r; omega
  generalize (a + 1 + b) % kn = bb at *
  rw [hs]
  cases db
  · refine ⟨_, upd (upd (upd tt (pos dor g) (nI (48 + a))) (pos dor g + 1) (nI (48 + bb))) (pos dor g + 2) (nI (48 + (1 + l))), pos dor g + 3 + 0, _, _, _, _, gal_d (dd := false) hG hg h (a := a) (b := bb) (l := 1 + l) (by omega) (by omega) hne (by omega) (by omega) (fun i hi => ?_) ?_ ?_ ?_ (fun q => by cases q) (fun q => ?_), ?_⟩
    · have := hvlt i hi
      simp (disch := omega) only [upd_n]
      exact hlo i hi
    · simp (disch := omega) only [upd_n, upd_s]
    · simp (disch := omega) only [upd_n, upd_s]
    · simp (disch := omega) only [upd_n, upd_s]
    · have := hvb.2.1 q
      simp (disch := omega) only [upd_n]
      exact hcom q
    · refine gal_l0 _ (show g < 10 by omega) (show pos dor g ≤ 50 by omega) ?_ ?_ ?_ ?_ v5 (nI kn)
      · simp (disch := omega) only [upd_n, upd_s]
      · simp (disch := omega) only [upd_n, upd_s]
      · simp (disch := omega) only [upd_n, upd_s]
      · simp (disch := omega) only [upd_n, upd_s]
  · refine ⟨_, upd (upd (upd (upd tt (pos dor g) (nI (48 + a))) (pos dor g + 1) (nI (48 + bb))) (pos dor g + 2) (nI (48 + (1 + l)))) (pos dor g + 3) (nI 100), pos dor g + 3 + 1, _, _, _, _, gal_d (dd := true) hG hg h (a := a) (b := bb) (l := 1 + l) (by omega) (by omega) hne (by omega) (by omega) (fun i hi => ?_) ?_ ?_ ?_ (fun _ => ?_) (fun q => ?_), ?_⟩
    · have := hvlt i hi
      simp (disch := omega) only [upd_n]
      exact hlo i hi
    · simp (disch := omega) only [upd_n, upd_s]
    · simp (disch := omega) only [upd_n, upd_s]
    · simp (disch := omega) only [upd_n, upd_s]
    · simp (disch := omega) only [upd_n, upd_s]
    · have := hvb.2.1 q
      simp (disch := omega) only [upd_n]
      exact hcom q
    · refine gal_l1 _ (show g < 10 by omega) (show pos dor g ≤ 50 by omega) ?_ ?_ ?_ ?_ v5 (nI kn)
      · simp (disch := omega) only [upd_n, upd_s]
      · simp (disch := omega) only [upd_n, upd_s]
      · simp (disch := omega) only [upd_n, upd_s]
      · simp (disch := omega) only [upd_n, upd_s]
end MT
