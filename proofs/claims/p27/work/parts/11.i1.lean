/-! the page: letters written, and read for faults -/
set_option maxRecDepth 100000 in
theorem lettersIn_all : ∀ v, v < 127 → v ≠ 0 → f_X4_lettersIn (Int32.toInt64 (nI v)) = some 1 := by decide +kernel
set_option maxRecDepth 100000 in
theorem byteOf_all : ∀ v, v < 127 → f_X4_byteOf (Int32.toInt64 (nI v)) 0 = some (nI v) := by decide +kernel
theorem letters_e {i v : Nat} (cl : A32) (hi : i < 66) (h1 : 1 ≤ v) (h2 : v < 127) : f_X10_letters (nI i) cl (Int32.toInt64 (nI v)) = some (nI (i + 1), nI (i + 1), upd cl i (nI v)) := by
  unfold f_X10_letters f_X4_append
  obtain ⟨fu, hfu⟩ : ∃ q, FU = q + 2 := ⟨99998, rfl⟩
  rw [lettersIn_all v h2 (by omega), bnd_e, if_neg (by decide), nI_1, if_pos (show nI (i + 1) ≤ 66 from nI_le (b := 66) (by omega) (by decide)), hfu]
  rw [f_X4_append_b3, if_neg (by decide), byteOf_all v h2, bnd_e, set_e _ _ hi (by decide), bnd_e, nam_e, nam_e, nI_1, f_X4_append_b3, if_pos (by decide), bnd_e]
theorem write_e {t cl : A32} {n : Nat} (hn : n ≤ 64) (ht : ∀ i, i < n → ∃ v, 1 ≤ v ∧ v < 127 ∧ t i = nI v) : ∃ cl', f_L_write 64 0 cl t (nI n) = some (1, nI n, cl') ∧ ∀ i, i < n → cl' i = t i := by
  obtain ⟨⟨l, c⟩, ⟨h1, h2⟩, e⟩ := lp (fun fu (s : Nat × A32) i => f_L_write_b2 64 t (nI n) fu (nI s.1) s.2 (nI i)) n (fun i s => s.1 = i ∧ ∀ j, j < i → s.2 j = t j) (fun s => some (1, nI s.1, s.2)) (by
      rintro fu i ⟨l, c⟩ hi ⟨h1, h2⟩
      dsimp only at h1 h2
      subst h1
      obtain ⟨v, v1, v2, hv⟩ := ht l hi
      refine ⟨(l + 1, upd c l (nI v)), ⟨rfl, fun j hj => ?_⟩, ?_⟩
      · dsimp only
        rw [upd_e]
        by_cases q : j = l
        · subst q; rw [if_pos rfl, hv]
        · rw [if_neg q]; exact h2 j (by omega)
      · simp (disch := omega) only [f_L_write_b2, leF, if_false, inT, if_true, cl_e, hv, letters_e, bnd_e, nI_1, nam_e]) (by
      rintro fu ⟨l, c⟩ -
      simp (disch := omega) only [f_L_write_b2, leT, if_true]) (i := 0) (k := n) (fu := FU) (s := (0, cl)) (by omega) (FU_lt (by omega)) ⟨rfl, fun j h => absurd h (Nat.not_lt_zero j)⟩
  dsimp only at h1 h2 e
  subst h1
  exact ⟨c, e, h2⟩
theorem tx_vals {t : A32} {G : Nat} {one two len dr : Nat → Nat} {dor : Nat → Bool} {S n : Nat} {kn : Nat → Nat} (hw : WF G one two len dr) (hX : TX t G one two len dor dr S kn n) : n ≤ 64 ∧ ∀ i, i < n → ∃ v, 1 ≤ v ∧ v < 127 ∧ t i = nI v := by
  obtain ⟨x1, x2, x3, x4, x5, x6, x7⟩ := hX
  have hG := hw.1
  have hpl := pos_le dor G
  refine ⟨by omega, ?_⟩
  have low : ∀ g, g ≤ G → ∀ i, i < pos dor g → ∃ v, 1 ≤ v ∧ v < 127 ∧ t i = nI v := by
    intro g
    induction g with
    | zero => intro _ i hi; exact absurd hi (Nat.not_lt_zero i)
    | succ g ih =>
      intro hg i hi
      rcases Nat.lt_or_ge i (pos dor g) with q | q
      · exact ih (by omega) i q
      · obtain ⟨⟨l1, l2, l3, l4⟩, l5⟩ := x1 g (by omega)
        obtain ⟨w1, w2, w3, w4, w5⟩ := hw.2.1 g (by omega)
        have hlast : ∃ v, 1 ≤ v ∧ v < 127 ∧ t (pos dor (g + 1) - 1) = nI v := by
          rw [l5]
          split
          · exact ⟨44, by decide, by decide, rfl⟩
          · exact ⟨59, by decide, by decide, rfl⟩
        have hps : pos dor (g + 1) = pos dor g + 4 + (if dor g = true then 1 else 0) := rfl
        by_cases r0 : i = pos dor g
        · rw [r0]; exact ⟨_, by omega, by omega, l1⟩
        · by_cases r1 : i = pos dor g + 1
          · rw [r1]; exact ⟨_, by omega, by omega, l2⟩
          · by_cases r2 : i = pos dor g + 2
            · rw [r2]; exact ⟨_, by omega, by omega, l3⟩
            · by_cases r3 : i = pos dor (g + 1) - 1
              · rw [r3]; exact hlast
              · by_cases hd : dor g = true
                · rw [if_pos hd] at hps
                  have : i = pos dor g + 3 := by omega
                  rw [this]
                  exact ⟨100, by decide, by decide, l4 hd⟩
                · rw [if_neg hd] at hps
                  omega
  intro i hi
  rcases Nat.lt_or_ge i (pos dor G) with q | q
  · exact low G (Nat.le_refl _) i q
  · obtain ⟨k, hk⟩ : ∃ k, i = pos dor G + 2 * k ∨ i = pos dor G + 2 * k + 1 := ⟨(i - pos dor G) / 2, by omega⟩
    obtain ⟨a1, a2, a3, a4, a5⟩ := x2 k (by omega)
    rcases hk with r | r
    · rw [r]; exact ⟨_, by omega, by omega, a1⟩
    · rw [r]; exact ⟨_, by omega, by omega, a2⟩
/- the reader, letter by letter -/
theorem sub48 (a : Nat) : nI (48 + a) - 48 = nI a := by
  have := pk_sub (a := 48 + a) (b := 48) (by omega)
  rw [Nat.add_sub_cancel_left] at this
  exact this
theorem tk0 {a : Nat} (ha : a < 7) (f g s : Int32) : f_X6_takes 0 f g s (nI (48 + a)) = some (1, 1, nI (48 + a), g, s) := by
  unfold f_X6_takes
  rw [if_pos rfl, sub48, isKnot_e ha, bnd_e, if_pos (Or.inr rfl)]
theorem tk1 {a b : Nat} (ha : a < 7) (hb : b < 7) (hab : a ≠ b) (g s : Int32) : f_X6_takes 1 (nI (48 + a)) g s (nI (48 + b)) = some (1, 2, nI (48 + a), g, s) := by
  unfold f_X6_takes
  rw [if_neg (by decide), if_pos rfl, sub48, isKnot_e hb, bnd_e, if_neg (by decide), if_neg (fun h => by have := (nI_eq (by omega) (by omega)).mp h; omega)]
theorem tk2 {l : Nat} (h1 : 1 ≤ l) (h9 : l ≤ 9) (f s : Int32) (g : Nat) : f_X6_takes 2 f (nI g) s (nI (48 + l)) = some (1, 3, f, nI (g + 1), s) := by
  unfold f_X6_takes
  rw [if_neg (by decide), if_neg (by decide), if_pos rfl, nam_e, nI_1, if_neg (show ¬ nI (48 + l) < 49 from nI_nlt (b := 49) (by omega) (by omega)), if_neg (show ¬ (57 : Int32) < nI (48 + l) from nI_nlt (a := 57) (by omega) (by decide))]
theorem tk3d (f g s : Int32) : f_X6_takes 3 f g s (nI 100) = some (1, 4, f, g, s) := by
  unfold f_X6_takes
  rw [if_neg (by decide), if_neg (by decide), if_neg (by decide), if_pos rfl, if_pos (show nI 100 = 100 from rfl)]
  rfl
theorem tk3c {g : Nat} (hg : g < 10) (f s : Int32) : f_X6_takes 3 f (nI g) s (nI 44) = some (1, 0, f, nI g, s) := by
  unfold f_X6_takes f_X6_takesBreak f_X6_takesBreak_b12 f_X6_takesBreak_b36
  rw [if_neg (by decide), if_neg (by decide), if_neg (by decide), if_pos rfl, if_neg (by decide), if_neg (by decide), if_neg (by decide), if_pos (show nI 44 = 44 from rfl), if_neg (show ¬ (10 : Int32) ≤ nI g from nI_ge (b := 10) hg (by decide)), bnd_e, if_neg (by decide)]
  rfl
theorem tk3s (g : Int32) (f s : Int32) : f_X6_takes 3 f g s (nI 59) = some (1, 5, f, g, s) := by
  unfold f_X6_takes f_X6_takesBreak f_X6_takesBreak_b12 f_X6_takesBreak_b36
  rw [if_neg (by decide), if_neg (by decide), if_neg (by decide), if_pos rfl, if_neg (by decide), if_pos (show nI 59 = 59 from rfl), if_pos (show nI 59 = 59 from rfl), bnd_e, if_neg (by decide)]
  rfl
theorem tk4c {g : Nat} (hg : g < 10) (f s : Int32) : f_X6_takes 4 f (nI g) s (nI 44) = some (1, 0, f, nI g, s) := by
  unfold f_X6_takes f_X6_takesBreak f_X6_takesBreak_b12 f_X6_takesBreak_b36
  rw [if_neg (by decide), if_neg (by decide), if_neg (by decide), if_neg (by decide), if_pos rfl, if_neg (by decide), if_neg (by decide), if_pos (show nI 44 = 44 from rfl), if_neg (show ¬ (10 : Int32) ≤ nI g from nI_ge (b := 10) hg (by decide)), bnd_e, if_pos (Or.inr rfl)]
theorem tk4s (g : Int32) (f s : Int32) : f_X6_takes 4 f g s (nI 59) = some (1, 5, f, g, s) := by
  unfold f_X6_takes f_X6_takesBreak f_X6_takesBreak_b12 f_X6_takesBreak_b36
  rw [if_neg (by decide), if_neg (by decide), if_neg (by decide), if_neg (by decide), if_pos rfl, if_pos (show nI 59 = 59 from rfl), if_pos (show nI 59 = 59 from rfl), bnd_e, if_pos (Or.inr rfl)]
theorem tk5 {q : Nat} (hq : q < 7) {s : Int32} (hs : bt s q = false) (f g : Int32) : f_X6_takes 5 f g s (nI (48 + q)) = some ((1 : Int32), (6 : Int32), f, g, s ||| ((1 : Int32) <<< (nI q &&& 31))) := by
  unfold f_X6_takes f_X6_takesShaft
  rw [if_neg (by decide), if_neg (by decide), if_neg (by decide), if_neg (by decide), if_neg (by decide), if_pos rfl, sub48, isKnot_e hq, bnd_e, if_neg (by decide), fbit_e _ (by omega), bnd_e, hs, b2i_f, if_neg (by decide), nam_e, bnd_e, if_pos (Or.inr rfl)]
theorem tk6 {r : Nat} (h1 : 1 ≤ r) (h2 : r ≤ 10) (f g s : Int32) : f_X6_takes 6 f g s (nI (47 + r)) = some (1, 5, f, g, s) := by
  unfold f_X6_takes
  rw [if_neg (by decide), if_neg (by decide), if_neg (by decide), if_neg (by decide), if_neg (by decide), if_neg (by decide), if_neg (show ¬ nI (47 + r) < 48 from nI_nlt (b := 48) (by omega) (by omega)), if_neg (show ¬ (57 : Int32) < nI (47 + r) from nI_nlt (a := 57) (by omega) (by decide))]
theorem rd_step {cl : A32} {n i : Nat} (hi : i < n) (hn : n ≤ 64) {due first gal sh c due' first' gal' sh' : Int32} (hc : cl i = c) (ht : f_X6_takes due first gal sh c = some (1, due', first', gal', sh')) (fu : Nat) :
    f_X4_firstFault_b9 (nI n) cl (fu + 1) due first gal sh (nI i) = f_X4_firstFault_b9 (nI n) cl fu due' first' gal' sh' (nI (i + 1)) := by
  rw [f_X4_firstFault_b9, if_neg (nI_ge hi (by omega)), get_e cl (by omega) (by decide), bnd_e, hc, ht, bnd_e, if_neg (show ¬ (1 : Int32) = 0 by decide), nam_e, nI_1]
