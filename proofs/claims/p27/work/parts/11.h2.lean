/-! the text: shafts; the whole of mineText -/
/-- shafts placed so far: k of them, behind e letters -/
def SI (d t : A32) (e k v : Nat) (kn dr : Nat → Nat) : Prop :=
  v = e + 2 * k ∧ (∀ q, q < 7 → d (52 + q) = nI (dr q)) ∧ (∀ i, i < k → t (e + 2 * i) = nI (48 + kn i) ∧ t (e + 2 * i + 1) = nI (47 + dr (kn i)) ∧ kn i < 7 ∧ 1 ≤ dr (kn i) ∧ dr (kn i) ≤ 10) ∧ (∀ i j, i < j → j < k → kn i ≠ kn j) ∧ ∀ q, q < 7 → 0 < dr q → ∃ i, i < k ∧ kn i = q
theorem free_e {kn dr : Nat → Nat} {k : Nat} (hk : k < 7) (h : ∀ q, q < 7 → 0 < dr q → ∃ i, i < k ∧ kn i = q) : ∃ q, q < 7 ∧ dr q = 0 := by
  refine Classical.byContradiction fun hx => ?_
  have h1 : ∀ q, q < 7 → ∃ i, i < k ∧ kn i = q := fun q hq => h q hq (Nat.pos_of_ne_zero (fun e => hx ⟨q, hq, e⟩))
  have hf : ∃ f : Nat → Nat, ∀ q, q < 7 → f q < k ∧ kn (f q) = q := ⟨fun q => if hq : q < 7 then Classical.choose (h1 q hq) else 0, fun q hq => by
    simp only [hq, dite_true]
    exact Classical.choose_spec (h1 q hq)⟩
  obtain ⟨f, hf⟩ := hf
  have := fb_holes k 7 f (fun i hi => (hf i hi).1) (fun i j hij hj e => by
    have a := (hf i (by omega)).2
    have b := (hf j hj).2
    rw [e] at a
    omega)
  omega
section SH
variable {n : Nat} {xs : A32}
/-- the search for a knot without a shaft -/
theorem find_e {d : A32} {dr : Nat → Nat} (hd : ∀ q, q < 7 → d (52 + q) = nI (dr q)) (h10 : ∀ q, q < 7 → dr q ≤ 10) (kk : A32 → A32 → Int32 → Int32 → Option (Int32 × A32 × A32)) (t : A32) (v5 v6 v8 v9 : Int32) : ∀ m q fu, q < 7 → m < fu → dr ((q + m) % 7) = 0 →
    ∃ q' fu', q' < 7 ∧ dr q' = 0 ∧ f_L_mineText_b342 kk 59 64 n xs d t (nI 0) v5 v6 v8 v9 fu (nI q) = f_L_mineText_b342 kk 59 64 n xs d t (nI 0) v5 v6 v8 v9 (fu' + 1) (nI q') := by
  intro m
  induction m with
  | zero =>
    intro q fu hq hfu h
    obtain ⟨fu, rfl⟩ : ∃ r, fu = r + 1 := ⟨fu - 1, by omega⟩
    rw [Nat.add_zero, Nat.mod_eq_of_lt hq] at h
    exact ⟨q, fu, hq, h, rfl⟩
  | succ m ih =>
    intro q fu hq hfu h
    obtain ⟨fu, rfl⟩ : ∃ r, fu = r + 1 := ⟨fu - 1, by omega⟩
    by_cases h0 : dr q = 0
    · exact ⟨q, fu, hq, h0, rfl⟩
    · have hq1 : (q + 1) % 7 < 7 := Nat.mod_lt _ (by decide)
      obtain ⟨q', fu', a1, a2, a3⟩ := ih ((q + 1) % 7) fu hq1 (by omega) (by
        rw [show ((q + 1) % 7 + m) % 7 = (q + (m + 1)) % 7 by omega]
        exact h)
      refine ⟨q', fu', a1, a2, ?_⟩
      rw [← a3]
      have hdq := hd q hq
      have hle := h10 q hq
      have hmod : nI (q + 1) - nI (q + 1) / 7 * 7 = nI ((q + 1) % 7) := by
        rw [k7, pk_rem (by omega) (by decide) (by decide)]
      simp (disch := omega) only [f_L_mineText_b342, ad52, inT, if_true, cl_e, hdq, le0F, if_false, nam_e, nI_1, hmod]
theorem shaft_step (hn : n ≤ 260) {d t : A32} {e k v : Nat} {kn dr : Nat → Nat} (he : e ≤ 50) (hk : k < 7) (h : SI d t e k v kn dr) (v5 : Int32) {S : Nat} (hS : k < S) (hS7 : S ≤ 7) (fu : Nat) :
    ∃ d' t' v' kn' dr', SI d' t' e (k + 1) v' kn' dr' ∧ (∀ i, i < 52 → d' i = d i) ∧ (∀ i, i < e → t' i = t i) ∧ f_L_mineText_b318 59 64 n xs (nI 0) v5 (nI S) (fu + 1) d t (nI v) (nI k) = f_L_mineText_b318 59 64 n xs (nI 0) v5 (nI S) fu d' t' (nI v') (nI (k + 1)) := by
  obtain ⟨hv, hd, hp, hne, hcov⟩ := h
  have h10 : ∀ q, q < 7 → dr q ≤ 10 := fun q hq => by
    rcases Nat.eq_zero_or_pos (dr q) with r | r
    · omega
    · obtain ⟨i, hi, rfl⟩ := hcov q hq r
      exact (hp i hi).2.2.2.2
  obtain ⟨q0, b1, b2⟩ := at_e (v5 >>> ((13 + (2 * nI k)) &&& 31)) (m := 7) (by decide) (by decide)
  obtain ⟨qf, f1, f2⟩ := free_e hk hcov
  obtain ⟨q, fu', c1, c2, c3⟩ := find_e (n := n) (xs := xs) hd h10 (f_L_mineText_b318 59 64 n xs (nI 0) v5 (nI S) fu) t v5 (nI v) (nI S) (nI k) ((qf + 7 - q0) % 7) q0 FU b1 (FU_lt (by omega)) (by
    rw [show (q0 + (qf + 7 - q0) % 7) % 7 = qf by omega]
    exact f2)
  obtain ⟨y, hy⟩ := cell_e n (by omega) xs 6 (by decide)
  obtain ⟨z, z1, z2⟩ := at_e (y >>> ((4 * nI k) &&& 31)) (m := 10) (by decide) (by decide)
  have hdq := hd q c1
  have hknne : ∀ i, i < k → kn i ≠ q := fun i hi hh => by
    have := (hp i hi).2.2.2.1
    rw [hh] at this
    omega
  refine ⟨upd d (52 + q) (nI (1 + z)), upd (upd t v (nI (48 + q))) (v + 1) (nI (47 + (1 + z))), v + 2, setF kn k q, setF dr q (1 + z), ⟨by omega, fun j hj => ?_, fun i hi => ?_, fun i j hij hj => ?_, fun j hj hpos => ?_⟩, fun i hi => upd_n _ _ (by omega), fun i hi => ?_, ?_⟩
  · rw [upd_e]
    by_cases r : j = q
    · subst r; rw [if_pos rfl, setF_s]
    · rw [if_neg (by omega), setF_n _ _ r]; exact hd j hj
  · by_cases r : i = k
    · subst r
      rw [setF_s, setF_s]
      refine ⟨?_, ?_, c1, by omega, by omega⟩
      · rw [← hv, upd_n _ _ (by omega), upd_s]
      · rw [← hv, upd_s]
    · have hik : i < k := by omega
      obtain ⟨a1, a2, a3, a4, a5⟩ := hp i hik
      rw [setF_n _ _ r, setF_n _ _ (hknne i hik)]
      refine ⟨?_, ?_, a3, a4, a5⟩
      · rw [upd_n _ _ (by omega), upd_n _ _ (by omega)]; exact a1
      · rw [upd_n _ _ (by omega), upd_n _ _ (by omega)]; exact a2
  · rw [setF_n _ _ (show i ≠ k by omega)]
    by_cases r : j = k
    · rw [r, setF_s]; exact hknne i (by omega)
    · rw [setF_n _ _ r]; exact hne i j hij (by omega)
  · by_cases r : j = q
    · exact ⟨k, by omega, by rw [setF_s]; exact r.symm⟩
    · rw [setF_n _ _ r] at hpos
      obtain ⟨i, i1, i2⟩ := hcov j hj hpos
      exact ⟨i, by omega, by rw [setF_n _ _ (show i ≠ k by omega)]; exact i2⟩
  · rw [upd_n _ _ (by omega), upd_n _ _ (by omega)]
  · have s1 : f_L_mineText_b318 59 64 n xs (nI 0) v5 (nI S) (fu + 1) d t (nI v) (nI k) = f_L_mineText_b342 (f_L_mineText_b318 59 64 n xs (nI 0) v5 (nI S) fu) 59 64 n xs d t (nI 0) v5 (nI v) (nI S) (nI k) FU (nI q0) := by
      have b2' : f_L_at (v5 >>> ((13 + (2 * nI k)) &&& 31)) 7 = some (nI q0) := b2
      simp (disch := omega) only [f_L_mineText_b318, leF, if_false, b2', bnd_e]
    rw [s1, c3]
    have h6 : (nI 0 + 6 : Int32) = nI 6 := rfl
    have hy' : f_L_cell n xs (nI 0 + 6) = some y := hy
    have z2' : f_L_at (y >>> ((4 * nI k) &&& 31)) 10 = some (nI z) := z2
    simp (disch := omega) only [f_L_mineText_b342, ad52, inT, if_true, cl_e, hdq, le0T, hy', bnd_e, z2', nam_e, nI_1, upd_s, ad1, ad48, ad47]
end SH
