/-! heights: how far shafts are, without the machine -/
section BALL
variable (G : Nat) (a b : Nat → Nat) (o S : Nat → Bool)
def Adj (u v : Nat) : Prop := ∃ g, g < G ∧ o g = true ∧ ((a g = u ∧ b g = v) ∨ (b g = u ∧ a g = v))
def Ball : Nat → Nat → Nat → Prop
  | 0, k, v => v = k
  | t + 1, k, v => Ball t k v ∨ ∃ u, Ball t k u ∧ Adj G a b o u v
def Hit (t k : Nat) : Prop := ∃ q, q < 7 ∧ Ball G a b o t k q ∧ S q = true
/-- q is one of the nearest shafts of k -/
def Nst (k q : Nat) : Prop := ∃ t, Ball G a b o t k q ∧ S q = true ∧ ∀ t', t' < t → ¬ Hit G a b o S t' k
variable {G a b o S}
theorem Adj.symm {u v : Nat} (h : Adj G a b o u v) : Adj G a b o v u := by
  obtain ⟨g, h1, h2, h3⟩ := h
  exact ⟨g, h1, h2, h3.elim (fun q => Or.inr ⟨q.2, q.1⟩) (fun q => Or.inl ⟨q.2, q.1⟩)⟩
theorem Adj.lt {u v : Nat} (h : Adj G a b o u v) (ha : ∀ g, g < G → a g < 7 ∧ b g < 7) : u < 7 ∧ v < 7 := by
  obtain ⟨g, h1, h2, h3⟩ := h
  have := ha g h1
  rcases h3 with ⟨rfl, rfl⟩ | ⟨rfl, rfl⟩
  · exact this
  · exact ⟨this.2, this.1⟩
theorem Ball.up {t k v : Nat} (h : Ball G a b o t k v) : Ball G a b o (t + 1) k v := Or.inl h
theorem Ball.mono {t k v : Nat} (h : Ball G a b o t k v) (n : Nat) : Ball G a b o (t + n) k v := by
  induction n with
  | zero => exact h
  | succ n ih => exact Ball.up ih
theorem Ball.le {t t' k v : Nat} (h : Ball G a b o t k v) (hl : t ≤ t') : Ball G a b o t' k v := by
  have := h.mono (t' - t)
  rwa [Nat.add_sub_cancel' hl] at this
theorem ball_left {t k v : Nat} : Ball G a b o (t + 1) k v ↔ Ball G a b o t k v ∨ ∃ u, Adj G a b o k u ∧ Ball G a b o t u v := by
  induction t generalizing v with
  | zero =>
    constructor
    · rintro (h | ⟨u, h1, h2⟩)
      · exact Or.inl h
      · have : u = k := h1
        subst this
        exact Or.inr ⟨v, h2, rfl⟩
    · rintro (h | ⟨u, h1, h2⟩)
      · exact Or.inl h
      · have : v = u := h2
        subst this
        exact Or.inr ⟨k, rfl, h1⟩
  | succ t ih =>
    constructor
    · rintro (h | ⟨u, h1, h2⟩)
      · exact Or.inl h
      · rcases ih.mp h1 with h3 | ⟨w, h3, h4⟩
        · exact Or.inl (Or.inr ⟨u, h3, h2⟩)
        · exact Or.inr ⟨w, h3, Or.inr ⟨u, h4, h2⟩⟩
    · rintro (h | ⟨u, h1, h2⟩)
      · exact Or.inl h
      · rcases h2 with h3 | ⟨w, h3, h4⟩
        · exact Or.inl (ih.mpr (Or.inr ⟨u, h1, h3⟩))
        · exact Or.inr ⟨w, ih.mpr (Or.inr ⟨u, h1, h3⟩), h4⟩
theorem Hit.le {t t' k : Nat} (h : Hit G a b o S t k) (hl : t ≤ t') : Hit G a b o S t' k := by
  obtain ⟨q, h1, h2, h3⟩ := h
  exact ⟨q, h1, h2.le hl, h3⟩
theorem hit_left {t k : Nat} : Hit G a b o S (t + 1) k ↔ Hit G a b o S t k ∨ ∃ u, Adj G a b o k u ∧ Hit G a b o S t u := by
  constructor
  · rintro ⟨q, h1, h2, h3⟩
    rcases ball_left.mp h2 with h4 | ⟨u, h4, h5⟩
    · exact Or.inl ⟨q, h1, h4, h3⟩
    · exact Or.inr ⟨u, h4, q, h1, h5, h3⟩
  · rintro (⟨q, h1, h2, h3⟩ | ⟨u, h4, q, h1, h5, h3⟩)
    · exact ⟨q, h1, h2.up, h3⟩
    · exact ⟨q, h1, ball_left.mpr (Or.inr ⟨u, h4, h5⟩), h3⟩
theorem hit_0 {k : Nat} (hk : k < 7) : Hit G a b o S 0 k ↔ S k = true := by
  constructor
  · rintro ⟨q, h1, h2, h3⟩
    have : q = k := h2
    subst this
    exact h3
  · intro h
    exact ⟨k, hk, rfl, h⟩
/-- q is nearest, at r or less -/
def NstR (G : Nat) (a b : Nat → Nat) (o S : Nat → Bool) (r k q : Nat) : Prop := ∃ t, t ≤ r ∧ Ball G a b o t k q ∧ S q = true ∧ ∀ t', t' < t → ¬ Hit G a b o S t' k
theorem nstR_0 {k q : Nat} : NstR G a b o S 0 k q ↔ q = k ∧ S q = true := by
  constructor
  · rintro ⟨t, h1, h2, h3, h4⟩
    have : t = 0 := by omega
    subst this
    exact ⟨h2, h3⟩
  · rintro ⟨h1, h2⟩
    exact ⟨0, Nat.le_refl _, h1, h2, fun t' h => by omega⟩
theorem nstR_hit {r k q : Nat} (hq : q < 7) (h : NstR G a b o S r k q) : Hit G a b o S r k := by
  obtain ⟨t, h1, h2, h3, h4⟩ := h
  exact ⟨q, hq, h2.le h1, h3⟩
theorem nstR_old {r k q : Nat} (h : Hit G a b o S r k) : NstR G a b o S (r + 1) k q ↔ NstR G a b o S r k q := by
  constructor
  · rintro ⟨t, h1, h2, h3, h4⟩
    by_cases ht : t ≤ r
    · exact ⟨t, ht, h2, h3, h4⟩
    · exact absurd h (h4 r (by omega))
  · rintro ⟨t, h1, h2, h3, h4⟩
    exact ⟨t, by omega, h2, h3, h4⟩
theorem nstR_new {r k q : Nat} (hq : q < 7) (h : ¬ Hit G a b o S r k) : NstR G a b o S (r + 1) k q ↔ ∃ u, Adj G a b o k u ∧ Hit G a b o S r u ∧ NstR G a b o S r u q := by
  constructor
  · rintro ⟨t, h1, h2, h3, h4⟩
    have h5 : Ball G a b o (r + 1) k q := h2.le h1
    rcases ball_left.mp h5 with h6 | ⟨u, h6, h7⟩
    · exact absurd ⟨q, hq, h6, h3⟩ h
    · refine ⟨u, h6, ⟨q, hq, h7, h3⟩, r, Nat.le_refl _, h7, h3, fun t' ht' hh => h ?_⟩
      exact Hit.le (hit_left.mpr (Or.inr ⟨u, h6, hh⟩)) (by omega)
  · rintro ⟨u, h1, h2, t, h3, h4, h5, h6⟩
    exact ⟨r + 1, Nat.le_refl _, ball_left.mpr (Or.inr ⟨u, h1, h4.le h3⟩), h5, fun t' ht' hh => h (Hit.le hh (by omega))⟩
theorem hit_stable {r : Nat} (ha : ∀ g, g < G → a g < 7 ∧ b g < 7) (h : ∀ k, k < 7 → Hit G a b o S (r + 1) k → Hit G a b o S r k) : ∀ t k, k < 7 → Hit G a b o S t k → Hit G a b o S r k := by
  intro t
  induction t with
  | zero => intro k hk hh; exact Hit.le hh (Nat.zero_le _)
  | succ t ih =>
    intro k hk hh
    rcases hit_left.mp hh with h1 | ⟨u, h1, h2⟩
    · exact ih k hk h1
    · exact h k hk (hit_left.mpr (Or.inr ⟨u, h1, ih u (h1.lt ha).2 h2⟩))
theorem nst_R {r k q : Nat} (hq : q < 7) (h : ∀ t, Hit G a b o S t k → Hit G a b o S r k) : Nst G a b o S k q ↔ NstR G a b o S r k q := by
  constructor
  · rintro ⟨t, h2, h3, h4⟩
    by_cases ht : t ≤ r
    · exact ⟨t, ht, h2, h3, h4⟩
    · exact absurd (h t ⟨q, hq, h2, h3⟩) (h4 r (by omega))
  · rintro ⟨t, _, h2, h3, h4⟩
    exact ⟨t, h2, h3, h4⟩
/-- the first ball with a shaft holds just the nearest ones -/
theorem nst_ball {t k q : Nat} (hq : q < 7) (h1 : Hit G a b o S t k) (h2 : ∀ t', t' < t → ¬ Hit G a b o S t' k) : Nst G a b o S k q ↔ Ball G a b o t k q ∧ S q = true := by
  constructor
  · rintro ⟨t1, h3, h4, h5⟩
    have e1 : ¬ t < t1 := fun h => h5 t h h1
    exact ⟨h3.le (by omega), h4⟩
  · rintro ⟨h3, h4⟩
    exact ⟨t, h3, h4, h2⟩
theorem nst_none {k q : Nat} (hq : q < 7) (h : ∀ t, ¬ Hit G a b o S t k) : ¬ Nst G a b o S k q := by
  rintro ⟨t, h1, h2, _⟩
  exact h t ⟨q, hq, h1, h2⟩
end BALL
