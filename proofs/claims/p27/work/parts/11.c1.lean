/-! least lengths: a table joined through every knot in turn -/
def mnO : Option Nat → Option Nat → Option Nat
  | none, y => y
  | some x, none => some x
  | some x, some y => if x ≤ y then some x else some y
def adO : Option Nat → Option Nat → Option Nat
  | some x, some y => some (x + y)
  | _, _ => none
abbrev Tab : Type := Nat → Nat → Option Nat
def phs (T : Tab) (k : Nat) : Tab := fun x y => mnO (T x y) (adO (T x k) (T k y))
def fw (T : Tab) : Nat → Tab
  | 0 => T
  | n + 1 => phs (fw T n) n
theorem mnO_none (x : Option Nat) : mnO x none = x := by cases x <;> rfl
theorem mnO_zero (y : Option Nat) : mnO (some 0) y = some 0 := by
  cases y with
  | none => rfl
  | some y => simp [mnO]
theorem mnO_self (x : Option Nat) : mnO x x = x := by
  cases x with
  | none => rfl
  | some x => simp [mnO]
theorem adO_zero (x : Option Nat) : adO (some 0) x = x := by
  cases x with
  | none => rfl
  | some x => exact congrArg some (Nat.zero_add x)
theorem mnO_c {x y : Option Nat} {c : Nat} (h : mnO x y = some c) : x = some c ∨ y = some c := by
  cases x with
  | none => exact Or.inr h
  | some x =>
    cases y with
    | none => exact Or.inl h
    | some y =>
      simp only [mnO] at h
      split at h
      · exact Or.inl h
      · exact Or.inr h
theorem mnO_l {x y : Option Nat} {a : Nat} (h : x = some a) : ∃ c, mnO x y = some c ∧ c ≤ a := by
  subst h
  cases y with
  | none => exact ⟨a, rfl, Nat.le_refl _⟩
  | some y =>
    simp only [mnO]
    split
    · exact ⟨a, rfl, Nat.le_refl _⟩
    · exact ⟨y, rfl, by omega⟩
theorem mnO_r {x y : Option Nat} {a : Nat} (h : y = some a) : ∃ c, mnO x y = some c ∧ c ≤ a := by
  subst h
  cases x with
  | none => exact ⟨a, rfl, Nat.le_refl _⟩
  | some x =>
    simp only [mnO]
    split
    · exact ⟨x, rfl, by assumption⟩
    · exact ⟨a, rfl, Nat.le_refl _⟩
theorem adO_c {x y : Option Nat} {c : Nat} (h : adO x y = some c) : ∃ a b, x = some a ∧ y = some b ∧ c = a + b := by
  cases x with
  | none => cases h
  | some a =>
    cases y with
    | none => cases h
    | some b => cases h; exact ⟨a, b, rfl, rfl, rfl⟩
theorem phs_c {T : Tab} {k u v c : Nat} (h : phs T k u v = some c) : T u v = some c ∨ ∃ a b, T u k = some a ∧ T k v = some b ∧ c = a + b := by
  rcases mnO_c h with q | q
  · exact Or.inl q
  · exact Or.inr (adO_c q)
theorem phs_l {T : Tab} {k u v a : Nat} (h : T u v = some a) : ∃ c, phs T k u v = some c ∧ c ≤ a := mnO_l h
theorem phs_r {T : Tab} {k u v a b : Nat} (h1 : T u k = some a) (h2 : T k v = some b) : ∃ c, phs T k u v = some c ∧ c ≤ a + b := mnO_r (by rw [h1, h2]; rfl)
theorem phs_0 {T : Tab} {k u : Nat} (h : T u u = some 0) : phs T k u u = some 0 := by
  unfold phs
  rw [h, mnO_zero]
theorem fw_0 {T : Tab} (h : ∀ u, u < 7 → T u u = some 0) : ∀ n u, u < 7 → fw T n u u = some 0 := by
  intro n
  induction n with
  | zero => exact h
  | succ n ih => exact fun u hu => phs_0 (ih u hu)
theorem fw_le {T : Tab} {u v a : Nat} (h : T u v = some a) : ∀ n, ∃ c, fw T n u v = some c ∧ c ≤ a := by
  intro n
  induction n with
  | zero => exact ⟨a, h, Nat.le_refl _⟩
  | succ n ih =>
    obtain ⟨c, h1, h2⟩ := ih
    obtain ⟨c', h3, h4⟩ := phs_l (k := n) h1
    exact ⟨c', h3, by omega⟩
/-- through any of the first n -/
theorem fw_tri {T : Tab} (h0 : ∀ u, u < 7 → T u u = some 0) : ∀ n, n ≤ 7 → ∀ w, w < n → ∀ u v a b, u < 7 → v < 7 → fw T n u w = some a → fw T n w v = some b → ∃ c, fw T n u v = some c ∧ c ≤ a + b := by
  intro n
  induction n with
  | zero => intro _ w hw; exact absurd hw (Nat.not_lt_zero w)
  | succ n ih =>
    intro hn w hw u v a b hu hv h1 h2
    have hd := fw_0 h0 n
    have tri := ih (by omega)
    have dn := hd n (by omega)
    -- through n itself
    have thr : ∀ x y a b, fw T n x n = some a → fw T n n y = some b → ∃ c, fw T (n + 1) x y = some c ∧ c ≤ a + b := fun x y a b q1 q2 => phs_r q1 q2
    by_cases hwn : w = n
    · subst hwn
      have e1 : fw T w u w = some a := by
        rcases phs_c h1 with q | ⟨x, y, q1, q2, q3⟩
        · exact q
        · rw [dn] at q2; cases q2; rw [q3]; exact q1
      have e2 : fw T w w v = some b := by
        rcases phs_c h2 with q | ⟨x, y, q1, q2, q3⟩
        · exact q
        · rw [dn] at q1; cases q1; rw [q3, Nat.zero_add]; exact q2
      exact thr u v a b e1 e2
    · have hw' : w < n := by omega
      rcases phs_c h1 with q | ⟨x, y, q1, q2, q3⟩ <;> rcases phs_c h2 with r | ⟨x', y', r1, r2, r3⟩
      · obtain ⟨c, c1, c2⟩ := tri w hw' u v a b hu hv q r
        obtain ⟨c', c3, c4⟩ := phs_l (k := n) c1
        exact ⟨c', c3, by omega⟩
      · obtain ⟨c, c1, c2⟩ := tri w hw' u n a x' hu (by omega) q r1
        obtain ⟨c', c3, c4⟩ := thr u v c y' c1 r2
        exact ⟨c', c3, by omega⟩
      · obtain ⟨c, c1, c2⟩ := tri w hw' n v y b (by omega) hv q2 r
        obtain ⟨c', c3, c4⟩ := thr u v x c q1 c1
        exact ⟨c', c3, by omega⟩
      · obtain ⟨c', c3, c4⟩ := thr u v x y' q1 r2
        exact ⟨c', c3, by omega⟩
/-- each length has a last step -/
theorem fw_last {T : Tab} {Ed : Nat → Nat → Nat → Prop} (h0 : ∀ u, u < 7 → T u u = some 0) (h1 : ∀ u v c, u < 7 → v < 7 → u ≠ v → T u v = some c → Ed u v c) (hE : ∀ u v l, Ed u v l → u < 7 ∧ v < 7) : ∀ n, n ≤ 7 → ∀ u v c, u < 7 → v < 7 → u ≠ v → fw T n u v = some c → ∃ w l a, Ed w v l ∧ fw T n u w = some a ∧ a + l ≤ c := by
  intro n
  induction n with
  | zero =>
    intro _ u v c hu hv hne h
    exact ⟨u, c, 0, h1 u v c hu hv hne h, h0 u hu, by omega⟩
  | succ n ih =>
    intro hn u v c hu hv hne h
    have hd := fw_0 h0 n
    rcases phs_c h with q | ⟨x, y, q1, q2, q3⟩
    · obtain ⟨w, l, a, b1, b2, b3⟩ := ih (by omega) u v c hu hv hne q
      obtain ⟨c', c1, c2⟩ := phs_l (k := n) b2
      exact ⟨w, l, c', b1, c1, by omega⟩
    · by_cases hvn : n = v
      · subst hvn
        rw [hd n hv] at q2
        cases q2
        obtain ⟨w, l, a, b1, b2, b3⟩ := ih (by omega) u n x hu hv hne q1
        obtain ⟨c', c1, c2⟩ := phs_l (k := n) b2
        exact ⟨w, l, c', b1, c1, by omega⟩
      · obtain ⟨w, l, a, b1, b2, b3⟩ := ih (by omega) n v y (by omega) hv hvn q2
        obtain ⟨c', c1, c2⟩ := phs_r q1 b2
        exact ⟨w, l, c', b1, c1, by omega⟩
theorem fw_bound {T : Tab} (hT : ∀ u v c, T u v = some c → c ≤ 9) : ∀ n u v c, fw T n u v = some c → c ≤ 9 * 2 ^ n := by
  intro n
  induction n with
  | zero => intro u v c h; have := hT u v c h; omega
  | succ n ih =>
    intro u v c h
    have e : 9 * 2 ^ (n + 1) = 9 * 2 ^ n + 9 * 2 ^ n := by rw [Nat.pow_succ]; omega
    rcases phs_c h with q | ⟨x, y, q1, q2, q3⟩
    · have := ih u v c q
      omega
    · have b1 := ih _ _ _ q1
      have b2 := ih _ _ _ q2
      omega
/-- what is least: it is 0 at u, it obeys the edges, each has a last step -/
def Lst (Ed : Nat → Nat → Nat → Prop) (u : Nat) (F : Nat → Option Nat) : Prop :=
  F u = some 0 ∧ (∀ w v l a, Ed w v l → F w = some a → ∃ c, F v = some c ∧ c ≤ a + l) ∧ ∀ v c, v < 7 → v ≠ u → F v = some c → ∃ w l a, Ed w v l ∧ F w = some a ∧ a + l = c
theorem fw_lst {T : Tab} {Ed : Nat → Nat → Nat → Prop} (h0 : ∀ u, u < 7 → T u u = some 0) (h1 : ∀ u v c, u < 7 → v < 7 → u ≠ v → T u v = some c → Ed u v c) (h2 : ∀ u v l, Ed u v l → ∃ c, T u v = some c ∧ c ≤ l) (hE : ∀ u v l, Ed u v l → u < 7 ∧ v < 7) {u : Nat} (hu : u < 7) : Lst Ed u (fw T 7 u) := by
  have ed : ∀ w v l a, Ed w v l → fw T 7 u w = some a → ∃ c, fw T 7 u v = some c ∧ c ≤ a + l := by
    intro w v l a he hf
    obtain ⟨hw, hv⟩ := hE w v l he
    obtain ⟨c, c1, c2⟩ := h2 w v l he
    obtain ⟨c', c3, c4⟩ := fw_le c1 7
    obtain ⟨c5, c6, c7⟩ := fw_tri h0 7 (Nat.le_refl _) w hw u v a c' hu hv hf c3
    exact ⟨c5, c6, by omega⟩
  refine ⟨fw_0 h0 7 u hu, ed, fun v c hv hne hf => ?_⟩
  obtain ⟨w, l, a, b1, b2, b3⟩ := fw_last h0 h1 hE 7 (Nat.le_refl _) u v c hu hv (Ne.symm hne) hf
  obtain ⟨c', c1, c2⟩ := ed w v l a b1 b2
  rw [hf] at c1
  cases c1
  exact ⟨w, l, a, b1, b2, by omega⟩
/-- nothing is farther than six times the longest edge -/
theorem lst_54 {Ed : Nat → Nat → Nat → Prop} {u : Nat} {F : Nat → Option Nat} (hu : u < 7) (hE : ∀ u v l, Ed u v l → u < 7 ∧ v < 7 ∧ 1 ≤ l ∧ l ≤ 9) (h : Lst Ed u F) {v c : Nat} (hv : v < 7) (hf : F v = some c) : c ≤ 54 := by
  refine Classical.byContradiction fun hx => ?_
  -- how many lie within x
  let cn : Nat → Nat := fun x => fb_ct (fun k => dcd (∃ a, F k = some a ∧ a ≤ x)) 7
  -- the least beyond x
  have step : ∀ x, x < c → cn x < cn (x + 9) := by
    intro x hxc
    have least : ∀ m, (∃ k a, k < 7 ∧ F k = some a ∧ x < a ∧ a ≤ x + m) → ∃ k a, k < 7 ∧ F k = some a ∧ x < a ∧ ∀ k' a', k' < 7 → F k' = some a' → x < a' → a ≤ a' := by
      intro m
      induction m with
      | zero => rintro ⟨k, a, _, _, h1, h2⟩; omega
      | succ m ih =>
        rintro ⟨k, a, h0, h1, h2, h3⟩
        by_cases q : ∃ k a, k < 7 ∧ F k = some a ∧ x < a ∧ a ≤ x + m
        · exact ih q
        · refine ⟨k, a, h0, h1, h2, fun k' a' b0 b1 b2 => ?_⟩
          refine Classical.byContradiction fun hlt => q ⟨k', a', b0, b1, b2, by omega⟩
    obtain ⟨k, a, a0, a1, a2, a3⟩ := least (c - x) ⟨v, c, hv, hf, hxc, by omega⟩
    have hku : k ≠ u := fun e => by
      subst e
      rw [h.1] at a1
      cases a1
      omega
    obtain ⟨w, l, b, b1, b2, b3⟩ := h.2.2 k a a0 hku a1
    obtain ⟨e1, e2, e3, e4⟩ := hE _ _ _ b1
    have hbx : b ≤ x := Classical.byContradiction fun q => by
      have := a3 w b e1 b2 (by omega)
      omega
    refine fb_ct_lt (k := k) (fun j hj hp => ?_) a0 ?_ ?_
    · obtain ⟨z, z1, z2⟩ := dcd_t.mp hp
      exact dcd_t.mpr ⟨z, z1, by omega⟩
    · exact dcd_t.mpr ⟨a, a1, by omega⟩
    · refine dcd_f.mpr ?_
      rintro ⟨z, z1, z2⟩
      rw [a1] at z1
      cases z1
      omega
  have c0 : 1 ≤ cn 0 := fb_ct_pos.mpr ⟨u, hu, dcd_t.mpr ⟨0, h.1, Nat.le_refl _⟩⟩
  have s1 := step 0 (by omega)
  have s2 := step 9 (by omega)
  have s3 := step 18 (by omega)
  have s4 := step 27 (by omega)
  have s5 := step 36 (by omega)
  have s6 := step 45 (by omega)
  have s7 := step 54 (by omega)
  have hle : cn (54 + 9) ≤ 7 := fb_ct_le _ 7
  simp only [Nat.zero_add, Nat.reduceAdd] at s1 s2 s3 s4 s5 s6 s7 hle
  omega
