/-! the mine, read -/
section RDM
variable {cl : A32} {G : Nat} {one two len dr : Nat → Nat} {dor : Nat → Bool} {S n : Nat} {kn : Nat → Nat}
theorem shafts_r (hw : WF G one two len dr) (hX : TX cl G one two len dor dr S kn n) (cs0 : Int32) (cdr0 : A32) : ∃ cs cdr, f_X5_readShafts cs0 cdr0 (nI n) cl (nI (pos dor G)) = some (cs, cdr) ∧ (∀ k, k < 7 → cdr k = dI (dr k)) ∧ ∀ q, q < 32 → bt cs q = (decide (q < 7) && sft dr q) := by
  obtain ⟨hn, -⟩ := tx_vals hw hX
  obtain ⟨x1, x2, x3, x4, x5, x6, x7⟩ := hX
  obtain ⟨c1, e1, h1⟩ := fill_e (n := 7) (by decide) cdr0 (-1)
  unfold f_X5_readShafts
  rw [e1, bnd_e]
  obtain ⟨⟨cs, cdr⟩, ⟨h2, h3, h4⟩, e2⟩ := lp (fun fu (s : Int32 × A32) k => f_X5_readShafts_b15 (nI n) cl fu s.1 s.2 (nI (pos dor G + 2 * k))) S
    (fun k s => (∀ q, q < 32 → (bt s.1 q = true ↔ ∃ i, i < k ∧ kn i = q)) ∧ (∀ i, i < k → s.2 (kn i) = nI (dr (kn i) - 1)) ∧ ∀ q, q < 7 → (∀ i, i < k → kn i ≠ q) → s.2 q = -1)
    (fun s => some s) (by
      rintro fu k ⟨cs, cdr⟩ hk ⟨h2, h3, h4⟩
      dsimp only at h2 h3 h4
      obtain ⟨a1, a2, a3, a4, a5⟩ := x2 k hk
      have d1 := digit_e (cl := cl) (show pos dor G + 2 * k < 66 by omega) a1
      have d2 := digit_d (cl := cl) (show pos dor G + 2 * k + 1 < 66 by omega) a4 a2
      refine ⟨(cs ||| ((1 : Int32) <<< (nI (kn k) &&& 31)), upd cdr (kn k) (nI (dr (kn k) - 1))), ⟨fun q hq => ?_, fun i hi => ?_, fun q hq hne => ?_⟩, ?_⟩
      · dsimp only
        rw [b_or, one_shl (by omega) hq, Bool.or_eq_true, decide_eq_true_eq, h2 q hq]
        constructor
        · rintro (⟨i, i1, i2⟩ | r)
          · exact ⟨i, by omega, i2⟩
          · exact ⟨k, by omega, r.symm⟩
        · rintro ⟨i, i1, i2⟩
          rcases Nat.lt_or_ge i k with r | r
          · exact Or.inl ⟨i, r, i2⟩
          · have : i = k := by omega
            subst this
            exact Or.inr i2.symm
      · dsimp only
        rcases Nat.lt_or_ge i k with r | r
        · rw [upd_n _ _ (x3 i k r hk)]
          exact h3 i r
        · have : i = k := by omega
          subst this
          rw [upd_s]
      · dsimp only
        rw [upd_n _ _ (Ne.symm (hne k (by omega)))]
        exact h4 q hq (fun i hi => hne i (by omega))
      · dsimp only
        rw [f_X5_readShafts_b15, nI_1, if_neg (nI_ge (show pos dor G + 2 * k + 1 < n by omega) (by omega)), d1, bnd_e, d2, bnd_e, set_e _ _ a3 (by decide), bnd_e, bnd_e, nam_e, nam_e, show nI (pos dor G + 2 * k) + 2 = nI (pos dor G + 2 * (k + 1)) from nI_add (pos dor G + 2 * k) 2]) (by
      rintro fu ⟨cs, cdr⟩ -
      dsimp only
      rw [f_X5_readShafts_b15, nI_1, if_pos (nI_le (show n ≤ pos dor G + 2 * S + 1 by omega) (by omega))]) (i := 0) (k := S) (fu := FU) (s := (0, c1)) (by omega) (FU_lt (by omega)) ⟨fun q hq => by simp [b_0], fun i hi => absurd hi (Nat.not_lt_zero i), fun q hq _ => h1 q hq⟩
  refine ⟨cs, cdr, e2, fun k hk => ?_, fun q hq => bool_ext ?_⟩
  · unfold dI
    by_cases r : dr k = 0
    · rw [if_pos r]
      exact h4 k hk (fun i hi hh => by
        have := (x2 i hi).2.2.2.1
        rw [hh] at this
        omega)
    · rw [if_neg r]
      obtain ⟨i, i1, rfl⟩ := x4 k hk (by omega)
      exact h3 i i1
  · rw [h2 q hq, Bool.and_eq_true, decide_eq_true_eq]
    unfold sft
    rw [decide_eq_true_eq]
    constructor
    · rintro ⟨i, i1, rfl⟩
      obtain ⟨a1, a2, a3, a4, a5⟩ := x2 i i1
      exact ⟨a3, by omega⟩
    · rintro ⟨b1, b2⟩
      exact x4 q b1 b2
theorem readFrom_e (hw : WF G one two len dr) (hX : TX cl G one two len dor dr S kn n) (cg0 cd0 cs0 : Int32) (c1 c2 c3 cdr0 : A32) :
    ∃ cd cs o1 o2 o3 cdr, f_X5_readFrom cg0 cd0 cs0 c1 c2 c3 cdr0 (nI n) cl = some (nI G, cd, cs, o1, o2, o3, cdr) ∧ MA (nI G) cd cs o1 o2 o3 cdr G one two len dor dr := by
  obtain ⟨hn, -⟩ := tx_vals hw hX
  obtain ⟨cs, cdr, es, hs1, hs2⟩ := shafts_r hw hX cs0 cdr0
  obtain ⟨x1, x2, x3, x4, x5, x6, x7⟩ := hX
  have hG := hw.1
  obtain ⟨⟨cd, o1, o2, o3⟩, ⟨h1, h2⟩, e⟩ := lp (fun fu (s : Int32 × A32 × A32 × A32) g => f_X5_readFrom_b14 cs0 cdr0 (nI n) cl fu (nI g) s.1 s.2.1 s.2.2.1 s.2.2.2 (nI (pos dor g)) (nI g)) G
    (fun g s => (∀ j, j < 32 → bt s.1 j = (decide (j < g) && dor j)) ∧ ∀ j, j < g → s.2.1 j = nI (one j) ∧ s.2.2.1 j = nI (two j) ∧ s.2.2.2 j = nI (len j))
    (fun s => f_X5_readFrom_b132 (nI G) s.1 cs0 s.2.1 s.2.2.1 s.2.2.2 cdr0 (nI n) cl (nI (pos dor G))) (by
      rintro fu g ⟨cd, o1, o2, o3⟩ hg ⟨h1, h2⟩
      dsimp only at h1 h2
      obtain ⟨⟨l1, l2, l3, l4⟩, l5⟩ := x1 g hg
      obtain ⟨w1, w2, w3, w4, w5⟩ := hw.2.1 g hg
      have hps : pos dor (g + 1) = pos dor g + 4 + (if dor g = true then 1 else 0) := rfl
      have hpm := pos_mono dor hg
      have hpl := pos_le dor G
      -- into the gallery
      have e39 : f_X5_readFrom_b14 cs0 cdr0 (nI n) cl (fu + 1) (nI g) cd o1 o2 o3 (nI (pos dor g)) (nI g) = f_X5_readFrom_b39 (f_X5_readFrom_b14 cs0 cdr0 (nI n) cl fu) (nI g) cd cs0 o1 o2 o3 cdr0 (nI n) cl (nI (pos dor g)) (nI g) := by
        rw [f_X5_readFrom_b14, if_neg (show ¬ (10 : Int32) ≤ nI g from nI_ge (b := 10) (by omega) (by decide))]
        rcases Nat.eq_zero_or_pos g with r | r
        · subst r
          rw [if_pos (show nI (pos dor 0) = 0 from rfl)]
        · obtain ⟨-, k5⟩ := x1 (g - 1) (by omega)
          rw [show g - 1 + 1 = g by omega, if_pos hg] at k5
          have hpg := pos_ge dor g
          rw [if_neg (nI_ne0 (n := pos dor g) (by omega) (by omega)), sub1 (show 1 ≤ pos dor g by omega), get_e cl (by omega) (by decide), bnd_e, k5, if_pos (show nI 44 = 44 from rfl)]
      have d1 := digit_e (cl := cl) (show pos dor g < 66 by omega) l1
      have d2 := digit_e (cl := cl) (show pos dor g + 1 < 66 by omega) l2
      have d3 := digit_e (cl := cl) (show pos dor g + 2 < 66 by omega) l3
      have rows : ∀ j, j < g + 1 → upd o1 g (nI (one g)) j = nI (one j) ∧ upd o2 g (nI (two g)) j = nI (two j) ∧ upd o3 g (nI (len g)) j = nI (len j) := by
        intro j hj
        by_cases r : j = g
        · subst r
          rw [upd_s, upd_s, upd_s]
          exact ⟨rfl, rfl, rfl⟩
        · rw [upd_n _ _ r, upd_n _ _ r, upd_n _ _ r]
          exact h2 j (by omega)
      dsimp only
      rw [e39]
      unfold f_X5_readFrom_b39
      rw [d1, bnd_e, set_e _ _ (by omega) (by decide), bnd_e, nI_1, d2, bnd_e, set_e _ _ (by omega) (by decide), bnd_e, show nI (pos dor g) + 2 = nI (pos dor g + 2) from nI_add _ 2, d3, bnd_e, set_e _ _ (by omega) (by decide), bnd_e, nam_e, nam_e, nI_1, show nI (pos dor g) + 3 = nI (pos dor g + 3) from nI_add _ 3, get_e cl (by omega) (by decide), bnd_e]
      by_cases hd : dor g = true
      · rw [if_pos hd] at hps
        refine ⟨(cd ||| ((1 : Int32) <<< (nI g &&& 31)), upd o1 g (nI (one g)), upd o2 g (nI (two g)), upd o3 g (nI (len g))), ⟨fun j hj => ?_, rows⟩, ?_⟩
        · dsimp only
          rw [b_or, one_shl (by omega) hj, h1 j hj]
          by_cases r : j = g
          · subst r
            simp [hd]
          · by_cases r2 : j < g
            · have r3 : j < g + 1 := by omega
              simp [r, r2, r3]
            · have r3 : ¬ j < g + 1 := by omega
              simp [r, r2, r3]
        · rw [l4 hd, if_pos (show nI 100 = 100 from rfl), nam_e, nam_e]
          unfold f_X5_readFrom_b123
          rw [nam_e, nam_e, nI_1, nI_1, nI_1, hps]
      · rw [if_neg hd] at hps
        have l5' : cl (pos dor g + 3) = nI (if g + 1 < G then 44 else 59) := by rw [← l5, hps]; rfl
        refine ⟨(cd, upd o1 g (nI (one g)), upd o2 g (nI (two g)), upd o3 g (nI (len g))), ⟨fun j hj => ?_, rows⟩, ?_⟩
        · dsimp only
          rw [h1 j hj]
          by_cases r : j = g
          · subst r
            simp [hd]
          · by_cases r2 : j < g
            · have r3 : j < g + 1 := by omega
              simp [r2, r3]
            · have r3 : ¬ j < g + 1 := by omega
              simp [r2, r3]
        · rw [l5', if_neg (by split <;> decide)]
          unfold f_X5_readFrom_b123
          rw [nam_e, nam_e, nI_1, nI_1, hps]) (by
      rintro fu ⟨cd, o1, o2, o3⟩ -
      dsimp only
      rw [f_X5_readFrom_b14]
      by_cases q : 10 ≤ G
      · rw [if_pos (show (10 : Int32) ≤ nI G from nI_le (a := 10) q (by omega))]
      · obtain ⟨-, k5⟩ := x1 (G - 1) (by omega)
        rw [show G - 1 + 1 = G by omega, if_neg (Nat.lt_irrefl G)] at k5
        have hpg := pos_ge dor G
        have hpl := pos_le dor G
        rw [if_neg (show ¬ (10 : Int32) ≤ nI G from nI_ge (b := 10) (by omega) (by decide)), if_neg (nI_ne0 (n := pos dor G) (by omega) (by omega)), sub1 (show 1 ≤ pos dor G by omega), get_e cl (by omega) (by decide), bnd_e, k5, if_neg (show ¬ nI 59 = 44 by decide)]) (i := 0) (k := G) (fu := FU) (s := (0, c1, c2, c3)) (by omega) (FU_lt (by omega)) ⟨fun j hj => by simp [b_0], fun j hj => absurd hj (Nat.not_lt_zero j)⟩
  refine ⟨cd, cs, o1, o2, o3, cdr, ?_, rfl, fun g hg => ⟨(h2 g hg).1, (h2 g hg).2.1, (h2 g hg).2.2, ?_⟩, hs1, hs2⟩
  · unfold f_X5_readFrom
    refine Eq.trans e ?_
    unfold f_X5_readFrom_b132
    rw [es, bnd_e]
  · have := h1 g (by omega)
    dsimp only at this
    rw [this, decide_eq_true hg, Bool.true_and]
set_option maxRecDepth 100000 in
theorem allG_all : ∀ G, G < 11 → ∀ g, g < G → bt (((1 : Int32) <<< (nI G &&& 31)) - 1) g = true := by decide +kernel
end RDM
