/-! the page is a mine -/
section RDR
variable {cl : A32} {G : Nat} {one two len dr : Nat → Nat} {dor : Nat → Bool} {S n : Nat} {kn : Nat → Nat}
/-- one gallery's letters -/
theorem rd_gal (hw : WF G one two len dr) (hX : TX cl G one two len dor dr S kn n) {g : Nat} (hg : g < G) (f sh : Int32) (fu : Nat) :
    f_X4_firstFault_b9 (nI n) cl (fu + (4 + (if dor g = true then 1 else 0))) 0 f (nI g) sh (nI (pos dor g)) = f_X4_firstFault_b9 (nI n) cl fu (if g + 1 < G then 0 else 5) (nI (48 + one g)) (nI (g + 1)) sh (nI (pos dor (g + 1))) := by
  obtain ⟨hn, -⟩ := tx_vals hw hX
  obtain ⟨x1, x2, x3, x4, x5, x6, x7⟩ := hX
  obtain ⟨⟨l1, l2, l3, l4⟩, l5⟩ := x1 g hg
  obtain ⟨w1, w2, w3, w4, w5⟩ := hw.2.1 g hg
  have hG := hw.1
  have hps : pos dor (g + 1) = pos dor g + 4 + (if dor g = true then 1 else 0) := rfl
  have hpm := pos_mono dor hg
  have hlt : pos dor (g + 1) ≤ pos dor G := by rw [hps]; exact hpm
  by_cases hd : dor g = true
  · rw [if_pos hd] at hps ⊢
    have l5' : cl (pos dor g + 4) = nI (if g + 1 < G then 44 else 59) := by rw [← l5, hps]; rfl
    rw [show fu + (4 + 1) = fu + 1 + 1 + 1 + 1 + 1 by omega, rd_step (by omega) hn l1 (tk0 w1 f _ _), rd_step (by omega) hn l2 (tk1 w1 w2 w3 _ _), rd_step (by omega) hn l3 (tk2 w4 w5 _ _ _), rd_step (by omega) hn (l4 hd) (tk3d _ _ _), hps]
    by_cases q : g + 1 < G
    · rw [if_pos q] at l5'
      rw [if_pos q, rd_step (by omega) hn l5' (tk4c (show g + 1 < 10 by omega) _ _)]
    · rw [if_neg q] at l5'
      rw [if_neg q, rd_step (by omega) hn l5' (tk4s _ _ _)]
  · rw [if_neg hd] at hps ⊢
    have l5' : cl (pos dor g + 3) = nI (if g + 1 < G then 44 else 59) := by rw [← l5, hps]; rfl
    rw [show fu + (4 + 0) = fu + 1 + 1 + 1 + 1 by omega, rd_step (by omega) hn l1 (tk0 w1 f _ _), rd_step (by omega) hn l2 (tk1 w1 w2 w3 _ _), rd_step (by omega) hn l3 (tk2 w4 w5 _ _ _), hps]
    by_cases q : g + 1 < G
    · rw [if_pos q] at l5'
      rw [if_pos q, rd_step (by omega) hn l5' (tk3c (show g + 1 < 10 by omega) _ _)]
    · rw [if_neg q] at l5'
      rw [if_neg q, rd_step (by omega) hn l5' (tk3s _ _ _)]
theorem rd_gals (hw : WF G one two len dr) (hX : TX cl G one two len dor dr S kn n) (f0 : Int32) : ∀ g, g ≤ G → ∃ f, ∀ fu, f_X4_firstFault_b9 (nI n) cl (fu + pos dor g) 0 f0 0 0 0 = f_X4_firstFault_b9 (nI n) cl fu (if g < G then 0 else 5) f (nI g) 0 (nI (pos dor g)) := by
  have hG := hw.1
  intro g
  induction g with
  | zero =>
    intro _
    refine ⟨f0, fun fu => ?_⟩
    rw [if_pos (by omega)]
    rfl
  | succ g ih =>
    intro hg
    obtain ⟨f, hf⟩ := ih (by omega)
    refine ⟨nI (48 + one g), fun fu => ?_⟩
    have hps : pos dor (g + 1) = pos dor g + 4 + (if dor g = true then 1 else 0) := rfl
    have h1 := hf (fu + (4 + (if dor g = true then 1 else 0)))
    rw [if_pos (show g < G by omega), rd_gal hw hX (by omega) f 0 fu] at h1
    rw [← h1, hps]
    congr 1
    omega
theorem rd_shafts (hw : WF G one two len dr) (hX : TX cl G one two len dor dr S kn n) (f0 : Int32) : ∀ k, k ≤ S → ∃ f sh, (∀ q, q < 32 → (bt sh q = true ↔ ∃ i, i < k ∧ kn i = q)) ∧ ∀ fu, f_X4_firstFault_b9 (nI n) cl (fu + (pos dor G + 2 * k)) 0 f0 0 0 0 = f_X4_firstFault_b9 (nI n) cl fu 5 f (nI G) sh (nI (pos dor G + 2 * k)) := by
  obtain ⟨hn, -⟩ := tx_vals hw hX
  have hX' := hX
  obtain ⟨x1, x2, x3, x4, x5, x6, x7⟩ := hX
  intro k
  induction k with
  | zero =>
    intro _
    obtain ⟨f, hf⟩ := rd_gals hw hX' f0 G (Nat.le_refl _)
    refine ⟨f, 0, fun q hq => ?_, fun fu => ?_⟩
    · simp [b_0]
    · have := hf fu
      rw [if_neg (Nat.lt_irrefl G)] at this
      exact this
  | succ k ih =>
    intro hk
    obtain ⟨f, sh, h1, h2⟩ := ih (by omega)
    obtain ⟨a1, a2, a3, a4, a5⟩ := x2 k (by omega)
    have hb : bt sh (kn k) = false := by
      cases hh : bt sh (kn k)
      · rfl
      · obtain ⟨i, i1, i2⟩ := (h1 _ (by omega)).mp hh
        exact absurd i2 (x3 i k i1 (by omega))
    refine ⟨f, sh ||| ((1 : Int32) <<< (nI (kn k) &&& 31)), fun q hq => ?_, fun fu => ?_⟩
    · rw [b_or, one_shl (by omega) hq, Bool.or_eq_true, decide_eq_true_eq, h1 q hq]
      constructor
      · rintro (⟨i, i1, i2⟩ | r)
        · exact ⟨i, by omega, i2⟩
        · exact ⟨k, by omega, r.symm⟩
      · rintro ⟨i, i1, i2⟩
        rcases Nat.lt_or_ge i k with r | r
        · exact Or.inl ⟨i, r, i2⟩
        · have : i = k := by omega
          subst this
          exact Or.inr i2.symm
    · have h3 := h2 (fu + 1 + 1)
      rw [rd_step (by omega) hn a1 (tk5 a3 hb _ _), rd_step (by omega) hn a2 (tk6 a4 a5 _ _ _)] at h3
      rw [show pos dor G + 2 * (k + 1) = pos dor G + 2 * k + 1 + 1 by omega, ← h3]
      congr 1
      omega
theorem fault_e (hw : WF G one two len dr) (hX : TX cl G one two len dor dr S kn n) (r0 f0 g0 s0 : Int32) : ∃ f sh, (∀ q, q < 32 → bt sh q = (decide (q < 7) && sft dr q)) ∧ f_X4_firstFault (nI n) cl r0 f0 g0 s0 = some (nI n, 5, f, nI G, sh) := by
  obtain ⟨hn, -⟩ := tx_vals hw hX
  obtain ⟨f, sh, h1, h2⟩ := rd_shafts hw hX f0 S (Nat.le_refl _)
  obtain ⟨x1, x2, x3, x4, x5, x6, x7⟩ := hX
  refine ⟨f, sh, fun q hq => bool_ext ?_, ?_⟩
  · rw [h1 q hq, Bool.and_eq_true, decide_eq_true_eq]
    unfold sft
    rw [decide_eq_true_eq]
    constructor
    · rintro ⟨i, i1, rfl⟩
      obtain ⟨a1, a2, a3, a4, a5⟩ := x2 i i1
      exact ⟨a3, by omega⟩
    · rintro ⟨b1, b2⟩
      exact x4 q b1 b2
  · unfold f_X4_firstFault f_X6_start
    rw [bnd_e]
    have h3 := h2 (FU - n)
    rw [← x7, Nat.sub_add_cancel (Nat.le_of_lt (FU_lt (by omega)))] at h3
    rw [show f_X4_firstFault_b9 (nI n) cl FU 0 f0 0 0 0 = f_X4_firstFault_b9 (nI n) cl (FU - n) 5 f (nI G) sh (nI n) from h3]
    obtain ⟨fu, hfu⟩ : ∃ q, FU - n = q + 1 := ⟨FU - n - 1, by have := FU_lt (n := n) (by omega); omega⟩
    rw [hfu, f_X4_firstFault_b9, if_pos (nI_le (Nat.le_refl n) (by omega))]
theorem isMine_e (hw : WF G one two len dr) (hX : TX cl G one two len dor dr S kn n) (r0 f0 g0 s0 : Int32) : ∃ y, f_X4_isMine (nI n) cl r0 f0 g0 s0 = some (1, y) := by
  obtain ⟨f, sh, h1, h2⟩ := fault_e hw hX r0 f0 g0 s0
  refine ⟨(5, f, nI G, sh), ?_⟩
  have hb : ∀ i, 7 ≤ i → i < 32 → bt sh i = false := fun i h3 h4 => by rw [h1 i h4, decide_eq_false (by omega)]; rfl
  have hc : fb_ct (bt sh) 7 = fb_ct (fun k => decide (0 < dr k)) 7 := fb_ct_cong (fun q hq => by rw [h1 q (by omega), decide_eq_true hq]; rfl)
  have h2' := hw.2.2.2
  have hl := fb_ct_le (bt sh) 7
  unfold f_X4_isMine f_X6_mayEnd
  rw [h2, bnd_e]
  rw [if_pos (show nI n = nI n from rfl), if_pos (show (5 : Int32) = 5 from rfl), bc_n (by decide) hb, bnd_e, if_neg (show ¬ nI (fb_ct (bt sh) 7) < 2 from nI_nlt (b := 2) (by omega) (by omega)), bnd_e, if_neg (by decide)]
end RDR
theorem digit_e {cl : A32} {i a : Nat} (hi : i < 66) (h : cl i = nI (48 + a)) : f_X4_digit cl (nI i) = some (nI a) := by
  unfold f_X4_digit
  rw [get_e cl hi (by decide), bnd_e, h, sub48]
theorem digit_d {cl : A32} {i r : Nat} (hi : i < 66) (hr : 1 ≤ r) (h : cl i = nI (47 + r)) : f_X4_digit cl (nI i) = some (nI (r - 1)) := digit_e hi (by rw [h]; congr 1; omega)
