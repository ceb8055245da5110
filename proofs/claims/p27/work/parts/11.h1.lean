/-! the text: how the law writes it -/
theorem cell_e (n : Nat) (hn : n ≤ 1000) (c : A32) (k : Nat) (hk : k < 1000) : ∃ x, f_L_cell n c (nI k) = some x := by
  unfold f_L_cell
  by_cases q : n ≤ k
  · rw [if_pos (nI_le q (by omega))]
    exact ⟨_, rfl⟩
  · rw [if_neg (nI_ge (by omega) (by omega)), if_pos ((inB_e (by omega)).mpr (by omega))]
    exact ⟨_, rfl⟩
theorem half_e (x : Int32) : ∃ y : Nat, y < 2 ^ 31 ∧ UInt32.toInt32 (Int32.toUInt32 x >>> (Int32.toUInt32 1 &&& Int32.toUInt32 31)) = nI y := by
  obtain ⟨m, hm, e⟩ := bt_lt (x := UInt32.toInt32 (Int32.toUInt32 x >>> (Int32.toUInt32 1 &&& Int32.toUInt32 31))) (n := 31) (Nat.le_refl _) (fun i h1 h2 => by
    have := b_ushr 1 (by decide) x i
    rw [show (nI 1).toUInt32 = Int32.toUInt32 1 from rfl] at this
    rw [this]
    exact b_big (by omega))
  exact ⟨m, hm, e⟩
theorem at_e (x : Int32) {m : Nat} (h0 : 0 < m) (hm : m < 1000) : ∃ j, j < m ∧ f_L_at x (nI m) = some (nI j) := by
  obtain ⟨y, hy, e⟩ := half_e x
  unfold f_L_at
  rw [if_neg (nI_ne0 h0 (by omega)), e, pk_rem hy h0 (by omega)]
  exact ⟨y % m, Nat.mod_lt _ h0, rfl⟩
def pos (dor : Nat → Bool) : Nat → Nat
  | 0 => 0
  | g + 1 => pos dor g + 4 + (if dor g = true then 1 else 0)
theorem pos_cong {p q : Nat → Bool} : ∀ {g : Nat}, (∀ j, j < g → p j = q j) → pos p g = pos q g := by
  intro g
  induction g with
  | zero => intro _; rfl
  | succ g ih =>
    intro h
    show pos p g + 4 + _ = pos q g + 4 + _
    rw [ih (fun j hj => h j (by omega)), h g (by omega)]
theorem pos_le (p : Nat → Bool) : ∀ g, pos p g ≤ 5 * g := by
  intro g
  induction g with
  | zero => exact Nat.le_refl _
  | succ g ih =>
    show pos p g + 4 + _ ≤ _
    split <;> omega
theorem pos_ge (p : Nat → Bool) : ∀ g, 4 * g ≤ pos p g := by
  intro g
  induction g with
  | zero => exact Nat.le_refl _
  | succ g ih =>
    show _ ≤ pos p g + 4 + _
    split <;> omega
theorem pos_mono (p : Nat → Bool) {g j : Nat} (h : j < g) : pos p j + 4 + (if p j = true then 1 else 0) ≤ pos p g := by
  induction g with
  | zero => exact absurd h (Nat.not_lt_zero j)
  | succ g ih =>
    rcases Nat.lt_or_ge j g with q | q
    · have := ih q
      show _ ≤ pos p g + 4 + _
      omega
    · have : j = g := by omega
      subst this
      exact Nat.le_refl _
/-- the letters of gallery j, and the one behind it -/
def GL (t : A32) (one two len : Nat → Nat) (dor : Nat → Bool) (j : Nat) : Prop :=
  t (pos dor j) = nI (48 + one j) ∧ t (pos dor j + 1) = nI (48 + two j) ∧ t (pos dor j + 2) = nI (48 + len j) ∧ (dor j = true → t (pos dor j + 3) = nI 100)
/-- the text of a mine -/
def TX (t : A32) (G : Nat) (one two len : Nat → Nat) (dor : Nat → Bool) (dr : Nat → Nat) (S : Nat) (kn : Nat → Nat) (n : Nat) : Prop :=
  (∀ g, g < G → GL t one two len dor g ∧ t (pos dor (g + 1) - 1) = nI (if g + 1 < G then 44 else 59)) ∧
  (∀ k, k < S → t (pos dor G + 2 * k) = nI (48 + kn k) ∧ t (pos dor G + 2 * k + 1) = nI (47 + dr (kn k)) ∧ kn k < 7 ∧ 1 ≤ dr (kn k) ∧ dr (kn k) ≤ 10) ∧
  (∀ i j, i < j → j < S → kn i ≠ kn j) ∧ (∀ q, q < 7 → 0 < dr q → ∃ k, k < S ∧ kn k = q) ∧ 2 ≤ S ∧ S ≤ 7 ∧ n = pos dor G + 2 * S
def GI (G g : Nat) (d t : A32) (v : Nat) (one two len : Nat → Nat) (dor : Nat → Bool) : Prop :=
  d 0 = nI G ∧ d 51 = 0 ∧ v = (if g = 0 then 0 else pos dor g - 1) ∧ ∀ j, j < g → (d (1 + j) = nI (one j) ∧ d (11 + j) = nI (two j) ∧ d (21 + j) = nI (len j) ∧ d (31 + j) = b2i (dor j) ∧ d (41 + j) = b2i true) ∧ (one j < 7 ∧ two j < 7 ∧ one j ≠ two j ∧ 1 ≤ len j ∧ len j ≤ 9) ∧ GL t one two len dor j ∧ (j + 1 < g → t (pos dor (j + 1) - 1) = nI 44)
theorem sub1 {n : Nat} (h : 1 ≤ n) : nI n - 1 = nI (n - 1) := pk_sub (a := n) (b := 1) h
theorem gal_d {G g : Nat} {d t : A32} {v : Nat} {one two len : Nat → Nat} {dor : Nat → Bool} (hG : G ≤ 10) (hg : g < G) (h : GI G g d t v one two len dor) {a b l : Nat} {dd : Bool} (ha : a < 7) (hb : b < 7) (hab : a ≠ b) (hl1 : 1 ≤ l) (hl2 : l ≤ 9) {t' : A32} (e0 : ∀ i, i < v → t' i = t i) (e1 : t' (pos dor g) = nI (48 + a)) (e2 : t' (pos dor g + 1) = nI (48 + b)) (e3 : t' (pos dor g + 2) = nI (48 + l)) (e4 : dd = true → t' (pos dor g + 3) = nI 100) (e5 : 0 < g → t' v = nI 44) :
    GI G (g + 1) (upd (upd (upd (upd (upd d (1 + g) (nI a)) (11 + g) (nI b)) (21 + g) (nI l)) (31 + g) (b2i dd)) (41 + g) 1) t' (pos dor g + 3 + (if dd = true then 1 else 0)) (fun j => if j = g then a else one j) (fun j => if j = g then b else two j) (fun j => if j = g then l else len j) (fun j => if j = g then dd else dor j) := by
  obtain ⟨h0, h51, hv, hj⟩ := h
  have hpc : ∀ j, j ≤ g → pos (fun j => if j = g then dd else dor j) j = pos dor j := fun j hj => pos_cong (fun i hi => if_neg (by omega))
  have hps : pos (fun j => if j = g then dd else dor j) (g + 1) = pos dor g + 4 + (if dd = true then 1 else 0) := by
    show pos _ g + 4 + _ = _
    rw [hpc g (Nat.le_refl _), if_pos rfl]
  refine ⟨?_, ?_, ?_, ?_⟩
  · simp (disch := omega) only [upd_n]; exact h0
  · simp (disch := omega) only [upd_n]; exact h51
  · rw [if_neg (by omega), hps]
    omega
  · intro j hjg
    by_cases q : j = g
    · subst q
      refine ⟨⟨?_, ?_, ?_, ?_, ?_⟩, ?_, ⟨?_, ?_, ?_, ?_⟩, fun hx => absurd hx (by omega)⟩
      · simp (disch := omega) only [upd_n, upd_s, if_true]
      · simp (disch := omega) only [upd_n, upd_s, if_true]
      · simp (disch := omega) only [upd_n, upd_s, if_true]
      · simp (disch := omega) only [upd_n, upd_s, if_true]
      · rw [upd_s]; rfl
      · simp only [if_true]
        exact ⟨ha, hb, hab, hl1, hl2⟩
      · rw [hpc j (Nat.le_refl _), if_pos rfl]; exact e1
      · rw [hpc j (Nat.le_refl _), if_pos rfl]; exact e2
      · rw [hpc j (Nat.le_refl _), if_pos rfl]; exact e3
      · rw [hpc j (Nat.le_refl _), if_pos rfl]; exact e4
    · have hlt : j < g := by omega
      obtain ⟨⟨a1, a2, a3, a4, a5⟩, w, ⟨b1, b2, b3, b4⟩, b5⟩ := hj j hlt
      have hpm := pos_mono dor hlt
      have hvv : v = pos dor g - 1 := by rw [hv, if_neg (by omega)]
      refine ⟨⟨?_, ?_, ?_, ?_, ?_⟩, ?_, ⟨?_, ?_, ?_, ?_⟩, fun hx => ?_⟩
      · simp (disch := omega) only [upd_n]; rw [if_neg q]; exact a1
      · simp (disch := omega) only [upd_n]; rw [if_neg q]; exact a2
      · simp (disch := omega) only [upd_n]; rw [if_neg q]; exact a3
      · simp (disch := omega) only [upd_n]; rw [if_neg q]; exact a4
      · simp (disch := omega) only [upd_n]; exact a5
      · rw [if_neg q, if_neg q, if_neg q]; exact w
      · rw [hpc j (by omega), if_neg q, e0 _ (by omega)]; exact b1
      · rw [hpc j (by omega), if_neg q, e0 _ (by omega)]; exact b2
      · rw [hpc j (by omega), if_neg q, e0 _ (by omega)]; exact b3
      · rw [hpc j (by omega), if_neg q]
        intro hdj
        rw [hdj, if_pos rfl] at hpm
        rw [e0 _ (by omega)]
        exact b4 hdj
      · rw [hpc (j + 1) (by omega)]
        by_cases r : j + 1 = g
        · subst r
          rw [← hvv]
          exact e5 (by omega)
        · have hpm2 := pos_mono dor (show j + 1 < g by omega)
          rw [e0 _ (by omega)]
          exact b5 (by omega)
section MT
variable {n : Nat} {xs : A32}
theorem gal_step (hn : n ≤ 260) {G g : Nat} {d t : A32} {v : Nat} {one two len : Nat → Nat} {dor : Nat → Bool} (hG : G ≤ 10) (hg : g < G) (h : GI G g d t v one two len dor) {kn : Nat} (k3 : 3 ≤ kn) (k7 : kn ≤ 7) (v5 : Int32) (fu : Nat) :
    ∃ d' t' v' one' two' len' dor', GI G (g + 1) d' t' v' one' two' len' dor' ∧ f_L_mineText_b41 59 64 n xs (nI 0) v5 (nI kn) (fu + 1) d t (nI v) (nI g) = f_L_mineText_b41 59 64 n xs (nI 0) v5 (nI kn) fu d' t' (nI v') (nI (g + 1)) := by
  have h0 := h.1
  have hv := h.2.2.1
  have hpl := pos_le dor g
  have hvb : v ≤ 50 ∧ (0 < g → v + 1 = pos dor g) ∧ (g = 0 → v = 0 ∧ pos dor g = 0) := by
    have hpg := pos_ge dor g
    rw [hv]
    refine ⟨?_, ?_, ?_⟩
    · split <;> omega
    · intro q; rw [if_neg (by omega)]; omega
    · intro q; subst q; exact ⟨rfl, rfl⟩
  obtain ⟨y, hy⟩ := cell_e n (by omega) xs (1 + g % 5) (by have := Nat.mod_lt g (show 0 < 5 by decide); omega)
  -- the numbers
  have num : ∀ y9 : Int32, ∃ a b l dd, a < kn ∧ b < kn - 1 ∧ l < 9 ∧ dd < 2 ∧ f_L_at y9 (nI kn) = some (nI a) ∧ f_L_at (y9 >>> (3 &&& 31)) (nI (kn - 1)) = some (nI b) ∧ f_L_at (y9 >>> (6 &&& 31)) 9 = some (nI l) ∧ f_L_at (y9 >>> (10 &&& 31)) 2 = some (nI dd) := by
    intro y9
    obtain ⟨a, a1, a2⟩ := at_e y9 (m := kn) (by omega) (by omega)
    obtain ⟨b, b1, b2⟩ := at_e (y9 >>> (3 &&& 31)) (m := kn - 1) (by omega) (by omega)
    obtain ⟨l, l1, l2⟩ := at_e (y9 >>> (6 &&& 31)) (m := 9) (by omega) (by omega)
    obtain ⟨dd, d1, d2⟩ := at_e (y9 >>> (10 &&& 31)) (m := 2) (by omega) (by omega)
    exact ⟨a, b, l, dd, a1, b1, l1, d1, a2, b2, l2, d2⟩
  have idx : (nI 0 + 1) + (nI g - nI g / 5 * 5) = nI (1 + g % 5) := by
    rw [nI_1, show (5 : Int32) = nI 5 from rfl, pk_rem (by omega) (by decide) (by decide), nI_add]
  obtain ⟨a, b, l, dd, a1, b1, l1, d1, a2, b2, l2, d2⟩ := num (y >>> ((12 * (nI g / 5)) &&& 31))
  have htwo : (nI a + 1 + nI b) - (nI a + 1 + nI b) / nI kn * nI kn = nI ((a + 1 + b) % kn) := by
    rw [nI_1, nI_add, pk_rem (by omega) (by omega) (by omega)]
  have hb7 : (a + 1 + b) % kn < kn := Nat.mod_lt _ (by omega)
  have hne : a ≠ (a + 1 + b) % kn := by
    rcases (show kn = 3 ∨ kn = 4 ∨ kn = 5 ∨ kn = 6 ∨ kn = 7 by omega) with rfl | rfl | rfl | rfl | rfl <;> omega
  generalize hB : (a + 1 + b) % kn = bb at *
  have hkn0 : (nI kn = 0) = False := eq_false (nI_ne0 (by omega) (by omega))
  have hdd : nI dd = b2i (decide (dd = 1)) := by
    rcases (show dd = 0 ∨ dd = 1 by omega) with rfl | rfl <;> rfl
  have hddle : (b2i (decide (dd = 1)) ≤ 0) = (¬ dd = 1) := by
    rcases (show dd = 0 ∨ dd = 1 by omega) with rfl | rfl <;> simp [b2i]
  -- the law's step, up to the letters
  have s1 : ∀ tt : A32, ∀ vv : Nat, (g = 0 → tt = t ∧ vv = v) → (0 < g → tt = upd t v 44 ∧ vv = v + 1) → f_L_mineText_b41 59 64 n xs (nI 0) v5 (nI kn) (fu + 1) d t (nI v) (nI g) = f_L_mineText_b172 (f_L_mineText_b41 59 64 n xs (nI 0) v5 (nI kn) fu) 59 64 n xs (upd (upd (upd (upd (upd d (1 + g) (nI a)) (11 + g) (nI bb)) (21 + g) (nI (1 + l))) (31 + g) (b2i (decide (dd = 1)))) (41 + g) 1) tt (nI 0) v5 (nI vv) (nI kn) (nI g) := by
    intro tt vv q0 q1
    rcases Nat.eq_zero_or_pos g with r | r
    · obtain ⟨rfl, rfl⟩ := q0 r
      simp (disch := omega) only [f_L_mineText_b41, in0, if_true, cl0, h0, leF, if_false, idx, hy, bnd_e, nam_e, a2, ad1, ad11, ad21, ad31, ad41, inT, cl_e, sub1, b2, hkn0, upd_s, htwo, l2, d2, hdd, le0T]
    · obtain ⟨rfl, rfl⟩ := q1 r
      simp (disch := omega) only [f_L_mineText_b41, in0, if_true, cl0, h0, leF, if_false, idx, hy, bnd_e, nam_e, a2, ad1, ad11, ad21, ad31, ad41, inT, cl_e, sub1, b2, hkn0, upd_s, htwo, l2, d2, hdd, le0F, nI_1]
  obtain ⟨tt, vv, htt, hvv, hlo, hcom, hs⟩ : ∃ tt vv, (0 < g → tt = upd t v 44 ∧ vv = v + 1) ∧ vv = pos dor g ∧ (∀ i, i < v → tt i = t i) ∧ (0 < g → tt v = nI 44) ∧ f_L_mineText_b41 59 64 n xs (nI 0) v5 (nI kn) (fu + 1) d t (nI v) (nI g) = f_L_mineText_b172 (f_L_mineText_b41 59 64 n xs (nI 0) v5 (nI kn) fu) 59 64 n xs (upd (upd (upd (upd (upd d (1 + g) (nI a)) (11 + g) (nI bb)) (21 + g) (nI (1 + l))) (31 + g) (b2i (decide (dd = 1)))) (41 + g) 1) tt (nI 0) v5 (nI vv) (nI kn) (nI g) := by
    rcases Nat.eq_zero_or_pos g with r | r
    · exact ⟨t, v, fun q => absurd q (by omega), by omega, fun _ _ => rfl, fun q => absurd q (by omega), s1 t v (fun _ => ⟨rfl, rfl⟩) (fun q => absurd q (by omega))⟩
    · exact ⟨upd t v 44, v + 1, fun _ => ⟨rfl, rfl⟩, by omega, fun i hi => upd_n _ _ (by omega), fun _ => upd_s _ _ _, s1 _ _ (fun q => absurd q (by omega)) (fun _ => ⟨rfl, rfl⟩)⟩
  subst hvv
  have hvlt : ∀ i, i < v → i < pos dor g := fun i hi => by
    rcases Nat.eq_zero_or_pos g with r | r <;> omega
  have hvle : v ≤ pos dor g := by
    rcases Nat.eq_zero_or_pos g with r | r <;> omega
  -- the letters
  by_cases hd1 : dd = 1
  · refine ⟨_, upd (upd (upd (upd tt (pos dor g) (nI (48 + a))) (pos dor g + 1) (nI (48 + bb))) (pos dor g + 2) (nI (48 + (1 + l)))) (pos dor g + 3) (nI 100), _, _, _, _, _, gal_d hG hg h (a := a) (b := bb) (l := 1 + l) (dd := decide (dd = 1)) (by omega) (by omega) hne (by omega) (by omega) (fun i hi => ?_) ?_ ?_ ?_ (fun _ => ?_) (fun q => ?_), ?_⟩
    · have := hvlt i hi
      simp (disch := omega) only [upd_n]
      exact hlo i hi
    · simp (disch := omega) only [upd_n, upd_s]
    · simp (disch := omega) only [upd_n, upd_s]
    · simp (disch := omega) only [upd_n, upd_s]
    · simp (disch := omega) only [upd_n, upd_s]
    · have : v < pos dor g := by omega
      simp (disch := omega) only [upd_n]
      exact hcom q
    · rw [hs, decide_eq_true hd1, if_pos rfl]
      have h10 : (b2i true ≤ 0) = False := eq_false (by decide)
      simp (disch := omega) only [f_L_mineText_b172, f_L_mineText_b245, ad1, ad11, ad21, ad31, inT, if_true, cl_e, upd_n, upd_s, nam_e, nI_1, ad48, h10, if_false]
      rfl
  · refine ⟨_, upd (upd (upd tt (pos dor g) (nI (48 + a))) (pos dor g + 1) (nI (48 + bb))) (pos dor g + 2) (nI (48 + (1 + l))), _, _, _, _, _, gal_d hG hg h (a := a) (b := bb) (l := 1 + l) (dd := decide (dd = 1)) (by omega) (by omega) hne (by omega) (by omega) (fun i hi => ?_) ?_ ?_ ?_ (fun q => absurd (of_decide_eq_true q) hd1) (fun q => ?_), ?_⟩
    · have := hvlt i hi
      simp (disch := omega) only [upd_n]
      exact hlo i hi
    · simp (disch := omega) only [upd_n, upd_s]
    · simp (disch := omega) only [upd_n, upd_s]
    · simp (disch := omega) only [upd_n, upd_s]
    · have : v < pos dor g := by omega
      simp (disch := omega) only [upd_n]
      exact hcom q
    · rw [hs, decide_eq_false hd1, if_neg (by decide)]
      have h10 : (b2i false ≤ 0) = True := eq_true (by decide)
      simp (disch := omega) only [f_L_mineText_b172, f_L_mineText_b245, ad1, ad11, ad21, ad31, inT, if_true, cl_e, upd_n, upd_s, nam_e, nI_1, ad48, h10, Nat.add_zero]
end MT
