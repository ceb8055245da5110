/-! the pure part: small things -/
def b2i (b : Bool) : Int32 := if b then 1 else 0
theorem tfF : (true = false) = False := eq_false (by decide)
theorem ftF : (false = true) = False := eq_false (by decide)
theorem nam_e {α β : Type} (e : α) (k : α → β) : nam e k = k e := rfl
theorem bnd_e {α β : Type} (a : α) (k : α → Option β) : Option.bind (some a) k = k a := rfl
theorem b2i_1 (b : Bool) : b2i b = 1 ↔ b = true := by cases b <;> decide
theorem b2i_0 (b : Bool) : b2i b = 0 ↔ b = false := by cases b <;> decide
theorem b2i_t : b2i true = 1 := rfl
theorem b2i_f : b2i false = 0 := rfl
theorem b2i_nI (b : Bool) : b2i b = nI (if b then 1 else 0) := by cases b <;> rfl
theorem b_1 (i : Nat) : bt 1 i = decide (i = 0) := by
  rcases Nat.lt_or_ge i 32 with h | h
  · exact (by decide +kernel : ∀ i, i < 32 → bt 1 i = decide (i = 0)) i h
  · rw [b_big h, decide_eq_false (by omega)]
theorem b_b2i (b : Bool) (i : Nat) : bt (b2i b) i = (b && decide (i = 0)) := by
  cases b
  · rw [b2i_f, b_0]; rfl
  · rw [b2i_t, b_1]; rfl
theorem bit_e {x : Int32} {n : Nat} (hn : n < 32) : (x >>> (nI n &&& 31)) &&& 1 = b2i (bt x n) := by
  apply b_ext
  intro i hi
  rw [b_and, b_sshr n hn x hi, b_1, b_b2i]
  by_cases h0 : i = 0
  · subst h0
    simp [hn]
  · simp [h0]
theorem one_shl {n i : Nat} (hn : n < 32) (hi : i < 32) : bt ((1 : Int32) <<< (nI n &&& 31)) i = decide (i = n) := by
  rw [b_shl n hn _ hi, b_1]
  by_cases h : i = n
  · subst h; simp
  · by_cases h2 : n ≤ i
    · have : ¬ i - n = 0 := by omega
      simp [h, h2, this]
    · simp [h, h2]
theorem fbit_e (x : Int32) {n : Nat} (hn : n < 32) : f_X10_bit x (nI n) = some (b2i (bt x n)) := by
  unfold f_X10_bit
  rw [bit_e hn]
/- numbers in conditions: to be used by simp with (disch := omega) -/
theorem leT {a b : Nat} (h : a ≤ b) (hb : b < 2 ^ 31) : (nI a ≤ nI b) = True := eq_true (nI_le h hb)
theorem leF {a b : Nat} (h : b < a) (ha : a < 2 ^ 31) : (nI a ≤ nI b) = False := eq_false (nI_ge h ha)
theorem ltT {a b : Nat} (h : a < b) (hb : b < 2 ^ 31) : (nI a < nI b) = True := eq_true (nI_lt h hb)
theorem ltF {a b : Nat} (h : b ≤ a) (ha : a < 2 ^ 31) : (nI a < nI b) = False := eq_false (nI_nlt h ha)
theorem eqT {a b : Nat} (h : a = b) : (nI a = nI b) = True := eq_true (congrArg nI h)
theorem eqF {a b : Nat} (h : a ≠ b) (ha : a < 2 ^ 31) (hb : b < 2 ^ 31) : (nI a = nI b) = False := eq_false (fun q => h ((nI_eq ha hb).mp q))
theorem inB_e {i N : Nat} (hi : i < 2 ^ 31) : inB (nI i) N ↔ i < N := by
  unfold inB
  rw [nI_clamp hi]
  constructor
  · intro h; omega
  · intro h q
    rcases q with q | q
    · exact nI_pos hi q
    · omega
theorem inT {i N : Nat} (h : i < N) (hi : i < 2 ^ 31) : (inB (nI i) N) = True := eq_true ((inB_e hi).mpr h)
theorem inF {i N : Nat} (h : N ≤ i) (hi : i < 2 ^ 31) : (inB (nI i) N) = False := eq_false (fun q => Nat.not_lt.mpr h ((inB_e hi).mp q))
theorem cl_e {i : Nat} (hi : i < 2 ^ 31) : (nI i).toNatClampNeg = i := nI_clamp hi
theorem m1_lt0 : ((-1 : Int32) < 0) = True := eq_true (by decide)
theorem nI_nm1 {i : Nat} (hi : i < 2 ^ 31) : (nI i = (-1 : Int32)) = False := eq_false (fun h => by
  have h1 := congrArg Int32.toInt h
  rw [nI_toInt hi] at h1
  have h2 : (-1 : Int32).toInt = -1 := by decide
  rw [h2] at h1
  omega)
theorem m1_nnI {i : Nat} (hi : i < 2 ^ 31) : ((-1 : Int32) = nI i) = False := by
  have := nI_nm1 hi
  exact eq_false (fun h => by rw [← h] at this; simp at this)
theorem upd_e (f : Nat → Int32) (k : Nat) (x : Int32) (j : Nat) : upd f k x j = if j = k then x else f j := rfl
theorem upd_s (f : Nat → Int32) (k : Nat) (x : Int32) : upd f k x k = x := if_pos rfl
theorem upd_n (f : Nat → Int32) {k j : Nat} (x : Int32) (h : j ≠ k) : upd f k x j = f j := if_neg h
theorem k0 : (0 : Int32) = nI 0 := rfl
theorem k1 : (1 : Int32) = nI 1 := rfl
theorem k2 : (2 : Int32) = nI 2 := rfl
theorem k3 : (3 : Int32) = nI 3 := rfl
theorem k4 : (4 : Int32) = nI 4 := rfl
theorem k5 : (5 : Int32) = nI 5 := rfl
theorem k6 : (6 : Int32) = nI 6 := rfl
theorem k7 : (7 : Int32) = nI 7 := rfl
theorem k8 : (8 : Int32) = nI 8 := rfl
theorem k9 : (9 : Int32) = nI 9 := rfl
theorem k10 : (10 : Int32) = nI 10 := rfl
theorem k11 : (11 : Int32) = nI 11 := rfl
theorem k12 : (12 : Int32) = nI 12 := rfl
theorem k13 : (13 : Int32) = nI 13 := rfl
theorem k19 : (19 : Int32) = nI 19 := rfl
theorem k20 : (20 : Int32) = nI 20 := rfl
theorem k21 : (21 : Int32) = nI 21 := rfl
theorem k31 : (31 : Int32) = nI 31 := rfl
theorem k41 : (41 : Int32) = nI 41 := rfl
theorem k51 : (51 : Int32) = nI 51 := rfl
theorem k52 : (52 : Int32) = nI 52 := rfl
/- a row of cells -/
theorem get_e {n i : Nat} (c : A32) (h : i < n) (hn : n < 2 ^ 31) : f_X8_get n c (nI i) = some (c i) := by
  unfold f_X8_get
  rw [if_neg (nI_pos (by omega)), if_neg (nI_ge h hn), if_pos ((inB_e (by omega)).mpr h), nI_clamp (by omega)]
theorem get_o {n i : Nat} (c : A32) (h : n ≤ i) (hi : i < 2 ^ 31) : f_X8_get n c (nI i) = some 0 := by
  unfold f_X8_get
  rw [if_neg (nI_pos hi), if_pos (nI_le h hi)]
theorem get_m (n : Nat) (c : A32) : f_X8_get n c (-1) = some 0 := by
  unfold f_X8_get
  rw [if_pos (by decide)]
theorem set_e {n i : Nat} (c : A32) (v : Int32) (h : i < n) (hn : n < 2 ^ 31) : f_X8_set n c (nI i) v = some (upd c i v) := by
  unfold f_X8_set
  rw [if_neg (nI_pos (by omega)), if_neg (nI_ge h hn), if_pos ((inB_e (by omega)).mpr h), nI_clamp (by omega)]
/- a loop of for's shape -/
theorem lpP {S R : Type} (f : Nat → S → Nat → Option R) (N : Nat) (Inv : Nat → S → Prop) (P : Option R → Prop)
    (hs : ∀ fu i s, i < N → Inv i s → (∃ s', Inv (i + 1) s' ∧ f (fu + 1) s i = f fu s' (i + 1)) ∨ P (f (fu + 1) s i))
    (he : ∀ fu s, Inv N s → P (f (fu + 1) s N)) : ∀ k i s fu, i + k = N → k < fu → Inv i s → P (f fu s i) := by
  intro k
  induction k with
  | zero =>
    intro i s fu h1 h2 h3
    have : i = N := by omega
    subst this
    obtain ⟨fu, rfl⟩ : ∃ q, fu = q + 1 := ⟨fu - 1, by omega⟩
    exact he fu s h3
  | succ k ih =>
    intro i s fu h1 h2 h3
    obtain ⟨fu, rfl⟩ : ∃ q, fu = q + 1 := ⟨fu - 1, by omega⟩
    rcases hs fu i s (by omega) h3 with ⟨s', h4, h5⟩ | h4
    · rw [h5]
      exact ih (i + 1) s' fu (by omega) (by omega) h4
    · exact h4
/-- without an early end -/
theorem lp {S R : Type} (f : Nat → S → Nat → Option R) (N : Nat) (Inv : Nat → S → Prop) (ex : S → Option R)
    (hs : ∀ fu i s, i < N → Inv i s → ∃ s', Inv (i + 1) s' ∧ f (fu + 1) s i = f fu s' (i + 1))
    (he : ∀ fu s, Inv N s → f (fu + 1) s N = ex s) {k i fu : Nat} {s : S} (h1 : i + k = N) (h2 : k < fu) (h3 : Inv i s) : ∃ s', Inv N s' ∧ f fu s i = ex s' :=
  lpP f N Inv (fun r => ∃ s', Inv N s' ∧ r = ex s') (fun fu i s a b => Or.inl (hs fu i s a b)) (fun fu s a => ⟨s, a, he fu s a⟩) k i s fu h1 h2 h3
theorem FU_lt {n : Nat} (h : n < 100000) : n < FU := h
/- literals -/
theorem ad1 (g : Nat) : (1 : Int32) + nI g = nI (1 + g) := nI_add 1 g
theorem ad7 (g : Nat) : (7 : Int32) + nI g = nI (7 + g) := nI_add 7 g
theorem ad11 (g : Nat) : (11 : Int32) + nI g = nI (11 + g) := nI_add 11 g
theorem ad13 (g : Nat) : (13 : Int32) + nI g = nI (13 + g) := nI_add 13 g
theorem ad21 (g : Nat) : (21 : Int32) + nI g = nI (21 + g) := nI_add 21 g
theorem ad31 (g : Nat) : (31 : Int32) + nI g = nI (31 + g) := nI_add 31 g
theorem ad41 (g : Nat) : (41 : Int32) + nI g = nI (41 + g) := nI_add 41 g
theorem ad52 (g : Nat) : (52 : Int32) + nI g = nI (52 + g) := nI_add 52 g
theorem ad47 (g : Nat) : (47 : Int32) + nI g = nI (47 + g) := nI_add 47 g
theorem ad48 (g : Nat) : (48 : Int32) + nI g = nI (48 + g) := nI_add 48 g
theorem cl0 : Int32.toNatClampNeg 0 = 0 := rfl
theorem cl1 : Int32.toNatClampNeg 1 = 1 := rfl
theorem cl51 : Int32.toNatClampNeg 51 = 51 := rfl
theorem cl19 : Int32.toNatClampNeg 19 = 19 := rfl
theorem cl20 : Int32.toNatClampNeg 20 = 20 := rfl
theorem cl21 : Int32.toNatClampNeg 21 = 21 := rfl
theorem cl13 : Int32.toNatClampNeg 13 = 13 := rfl
theorem in0 {N : Nat} (h : 0 < N) : (inB 0 N) = True := inT (i := 0) h (by decide)
theorem in51 : (inB 51 59) = True := eq_true (by decide)
theorem in19 : (inB 19 22) = True := eq_true (by decide)
theorem in20 : (inB 20 22) = True := eq_true (by decide)
theorem in21 : (inB 21 22) = True := eq_true (by decide)
theorem in13 : (inB 13 22) = True := eq_true (by decide)
theorem le7T {i : Nat} (h : 7 ≤ i) (hi : i < 2 ^ 31) : ((7 : Int32) ≤ nI i) = True := leT h hi
theorem le7F {i : Nat} (h : i < 7) : ((7 : Int32) ≤ nI i) = False := leF h (by decide)
theorem le10T {i : Nat} (h : 10 ≤ i) (hi : i < 2 ^ 31) : ((10 : Int32) ≤ nI i) = True := leT h hi
theorem le10F {i : Nat} (h : i < 10) : ((10 : Int32) ≤ nI i) = False := leF h (by decide)
theorem le0T {i : Nat} (h : i = 0) : (nI i ≤ 0) = True := by subst h; exact eq_true (by decide)
theorem le0F {i : Nat} (h : 0 < i) (hi : i < 2 ^ 31) : (nI i ≤ 0) = False := eq_false (nI_nle h hi)
theorem lt0F {i : Nat} (hi : i < 2 ^ 31) : (nI i < 0) = False := eq_false (nI_pos hi)
theorem eq0T {i : Nat} (h : i = 0) : (nI i = 0) = True := by subst h; exact eq_true rfl
theorem eq0F {i : Nat} (h : 0 < i) (hi : i < 2 ^ 31) : (nI i = 0) = False := eq_false (nI_ne0 h hi)
theorem eq1T {i : Nat} (h : i = 1) : (nI i = 1) = True := by subst h; exact eq_true rfl
theorem eq1F {i : Nat} (h : i ≠ 1) (hi : i < 2 ^ 31) : (nI i = 1) = False := eqF (b := 1) h hi (by decide)
theorem fb_ct_lt {p q : Nat → Bool} {n k : Nat} (h : ∀ j, j < n → p j = true → q j = true) (hk : k < n) (h1 : q k = true) (h2 : p k = false) : fb_ct p n < fb_ct q n := by
  have e1 : fb_ct (fun j => if j = k then true else p j) n + (if p k = true then 1 else 0) = fb_ct p n + 1 := fb_ct_upd p true hk
  rw [h2, if_neg (by decide)] at e1
  have e2 : fb_ct (fun j => if j = k then true else p j) n ≤ fb_ct q n := fb_ct_sub (fun j hj hp => by
    by_cases e : j = k
    · rw [e]; exact h1
    · rw [if_neg e] at hp; exact h j hj hp)
  omega
noncomputable def dcd (p : Prop) : Bool := @decide p (Classical.propDecidable p)
theorem dcd_t {p : Prop} : dcd p = true ↔ p := by unfold dcd; exact @decide_eq_true_iff p (Classical.propDecidable p)
theorem dcd_f {p : Prop} : dcd p = false ↔ ¬ p := by unfold dcd; exact @decide_eq_false_iff_not p (Classical.propDecidable p)
theorem bool_ext {a b : Bool} (h : a = true ↔ b = true) : a = b := by cases a <;> cases b <;> simp_all
theorem iteE {α : Type} {a b : Nat} (ha : a < 2 ^ 31) (hb : b < 2 ^ 31) (x y : α) : (if nI a = nI b then x else y) = (if a = b then x else y) := by
  by_cases q : a = b
  · rw [if_pos q, if_pos (congrArg nI q)]
  · rw [if_neg q, if_neg (fun h => q ((nI_eq ha hb).mp h))]
theorem iteL {α : Type} {a b : Nat} (ha : a < 2 ^ 31) (hb : b < 2 ^ 31) (x y : α) : (if nI a ≤ nI b then x else y) = (if a ≤ b then x else y) := by
  by_cases q : a ≤ b
  · rw [if_pos q, if_pos ((nI_leI ha hb).mpr q)]
  · rw [if_neg q, if_neg (fun h => q ((nI_leI ha hb).mp h))]
theorem iteT {α : Type} {a b : Nat} (ha : a < 2 ^ 31) (hb : b < 2 ^ 31) (x y : α) : (if nI a < nI b then x else y) = (if a < b then x else y) := by
  by_cases q : a < b
  · rw [if_pos q, if_pos ((nI_ltI ha hb).mpr q)]
  · rw [if_neg q, if_neg (fun h => q ((nI_ltI ha hb).mp h))]
