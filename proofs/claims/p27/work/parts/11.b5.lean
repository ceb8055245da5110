/-! heights and flows, as the law reckons them -/
theorem ct_one : ∀ k, k < 7 → fb_ct (fun q => decide (q = k)) 7 = 1 := by decide
theorem sm_one {k n : Nat} (f : Nat → Nat) (hk : k < n) : fb_sm (fun q => if q = k then f k else 0) n = f k := by
  have h := fb_sm_upd (fun _ => 0) (f k) hk
  rw [fb_sm_const] at h
  omega
section LH2
variable {d : A32} {G : Nat} {one two len dr : Nat → Nat} {dor opn : Nat → Bool} {moon : Bool}
theorem L_h125 (hD : DA d G one two len dor opn moon dr) (hw : WF G one two len dr) (kk : Int32 → Int32 → Option Int32) (v3 v4 : Int32) :
    f_L_height_b125 kk 59 d v3 v4 FU 0 0 0 = (if fb_ct (fun q => bt v4 q && sft dr q) 7 = 0 then kk v4 (v3 + 1) else some (nI (fb_sm (fun q => if (bt v4 q && sft dr q) = true then sh moon dr q else 0) 7 / fb_ct (fun q => bt v4 q && sft dr q) 7))) := by
  obtain ⟨⟨s1, s2⟩, ⟨h1, h2, h3⟩, e⟩ := lp (fun fu (s : Int32 × Int32) i => f_L_height_b125 kk 59 d v3 v4 fu s.1 s.2 (nI i)) 7
    (fun i s => s.1 = nI (fb_ct (fun q => bt v4 q && sft dr q) i) ∧ s.2 = nI (fb_sm (fun q => if (bt v4 q && sft dr q) = true then sh moon dr q else 0) i) ∧ fb_sm (fun q => if (bt v4 q && sft dr q) = true then sh moon dr q else 0) i ≤ i * 120)
    (fun s => if s.1 ≤ 0 then kk v4 (v3 + 1) else if s.1 = 0 then none else some (s.2 / s.1)) (by
      rintro fu i ⟨s1, s2⟩ hi ⟨h1, h2, h3⟩
      try dsimp only at h1 h2
      subst h1 h2
      have hd := hw.2.2.1 i hi
      have e2 := hD.2.2.2 i hi
      by_cases hb : bt v4 i = true
      · by_cases hz : 0 < dr i
        · have hp : (bt v4 i && sft dr i) = true := by rw [hb]; exact decide_eq_true hz
          refine ⟨(nI (fb_ct (fun q => bt v4 q && sft dr q) i + 1), nI (fb_sm (fun q => if (bt v4 q && sft dr q) = true then sh moon dr q else 0) i + sh moon dr i)), ⟨?_, ?_, ?_⟩, ?_⟩
          · rw [fb_ct_succ]; simp only [hp, if_true]
          · rw [fb_sm_succ]; simp only [hp, if_true]
          · rw [fb_sm_succ]; simp only [hp, if_true]
            have := sh_le (moon := moon) hd
            omega
          · simp (disch := omega) only [f_L_height_b125, f_L_height_b169, le7F, if_false, bit_e, hb, b2i_0, ad52, inT, if_true, cl_e, e2, eq0F, nam_e, nI_1, L_shaft_e hD hi hz hd, bnd_e, nI_add, tfF]
        · have hp : (bt v4 i && sft dr i) = false := by rw [hb]; exact decide_eq_false hz
          refine ⟨(nI (fb_ct (fun q => bt v4 q && sft dr q) i), nI (fb_sm (fun q => if (bt v4 q && sft dr q) = true then sh moon dr q else 0) i)), ⟨?_, ?_, ?_⟩, ?_⟩
          · rw [fb_ct_succ]; simp only [hp, if_false, ftF, tfF, Nat.add_zero]
          · rw [fb_sm_succ]; simp only [hp, if_false, ftF, tfF, Nat.add_zero]
          · rw [fb_sm_succ]; simp only [hp, if_false, ftF, tfF, Nat.add_zero]
            omega
          · simp (disch := omega) only [f_L_height_b125, f_L_height_b169, le7F, if_false, bit_e, hb, b2i_0, ad52, inT, if_true, cl_e, e2, eq0T, nam_e, nI_1, tfF]
      · have hf : bt v4 i = false := by cases hh : bt v4 i <;> simp_all
        have hp : (bt v4 i && sft dr i) = false := by rw [hf]; rfl
        refine ⟨(nI (fb_ct (fun q => bt v4 q && sft dr q) i), nI (fb_sm (fun q => if (bt v4 q && sft dr q) = true then sh moon dr q else 0) i)), ⟨?_, ?_, ?_⟩, ?_⟩
        · rw [fb_ct_succ]; simp only [hp, if_false, ftF, tfF, Nat.add_zero]
        · rw [fb_sm_succ]; simp only [hp, if_false, ftF, tfF, Nat.add_zero]
        · rw [fb_sm_succ]; simp only [hp, if_false, ftF, tfF, Nat.add_zero]
          omega
        · simp (disch := omega) only [f_L_height_b125, f_L_height_b169, le7F, if_false, bit_e, hf, b2i_0, if_true, nam_e, nI_1]) (by
      rintro fu ⟨s1, s2⟩ -
      simp (disch := omega) only [f_L_height_b125, le7T, if_true, nam_e]) (i := 0) (k := 7) (fu := FU) (s := (0, 0)) rfl (FU_lt (by decide)) ⟨rfl, rfl, Nat.le_refl _⟩
  try dsimp only at h1 h2 e
  have hl := fb_ct_le (fun q => bt v4 q && sft dr q) 7
  rw [show f_L_height_b125 kk 59 d v3 v4 FU 0 0 0 = f_L_height_b125 kk 59 d v3 v4 FU 0 0 (nI 0) from rfl, e, h1, h2]
  by_cases h0 : fb_ct (fun q => bt v4 q && sft dr q) 7 = 0
  · rw [if_pos h0, h0]; rfl
  · rw [if_neg h0, if_neg (nI_nle (by omega) (by omega)), if_neg (nI_ne0 (by omega) (by omega)), pk_div (by omega) (by omega) (by omega)]
theorem hgt_shaft {k : Nat} (hk : k < 7) (h : 0 < dr k) : hgt G one two opn moon dr k = some (sh moon dr k) := by
  have e : ∀ q, q < 7 → nst G one two opn dr k q = decide (q = k) := fun q hq => bool_ext (by
    unfold nst
    rw [dcd_t, decide_eq_true_eq]
    have hs : sft dr k = true := decide_eq_true h
    constructor
    · rintro ⟨t, h2, h3, h4⟩
      have : t = 0 := by
        rcases Nat.eq_zero_or_pos t with q0 | q0
        · exact q0
        · exact absurd ((hit_0 hk).mpr hs) (h4 0 q0)
      subst this
      exact h2
    · rintro rfl
      exact ⟨0, rfl, hs, fun t' ht => absurd ht (Nat.not_lt_zero _)⟩)
  unfold hgt
  rw [fb_ct_cong e, ct_one k hk, if_neg (by decide)]
  rw [fb_sm_cong (g := fun q => if q = k then sh moon dr k else 0) (fun q hq => by
    rw [e q hq]
    by_cases h1 : q = k
    · subst h1; simp
    · simp [h1]), sm_one (fun q => sh moon dr q) hk, Nat.div_one]
theorem L_height_e (hD : DA d G one two len dor opn moon dr) (hw : WF G one two len dr) {k : Nat} (hk : k < 7) : f_L_height 59 d (nI k) = some (hI (hgt G one two opn moon dr k)) := by
  have hd := hw.2.2.1 k hk
  have e2 := hD.2.2.2 k hk
  by_cases hz : 0 < dr k
  · rw [hgt_shaft hk hz]
    unfold f_L_height
    simp (disch := omega) only [ad52, inT, if_true, cl_e, e2, le0F, if_false, L_shaft_e hD hk hz hd, bnd_e, hI]
  · have e1 : f_L_height 59 d (nI k) = f_L_height_b21 59 d FU (1 <<< (nI k &&& 31)) (nI 0) := by
      unfold f_L_height
      simp (disch := omega) only [ad52, inT, if_true, cl_e, e2, le0T, nam_e]
      rfl
    rw [e1]
    have hends := wf_ends hw
    refine lpP (fun fu (s : Int32) i => f_L_height_b21 59 d fu s (nI i)) 7
      (fun i s => (∀ v, v < 32 → (bt s v = true ↔ Ball G one two opn i k v)) ∧ ∀ t, t ≤ i → ¬ Hit G one two opn (sft dr) t k)
      (fun r => r = some (hI (hgt G one two opn moon dr k))) ?_ ?_ 7 0 _ FU rfl (FU_lt (by decide)) ?_
    · rintro fu i s hi ⟨h1, h2⟩
      obtain ⟨v4, g1, g2⟩ := L_h33 hD hw (f_L_height_b21 59 d fu) s (nI i)
      have g3 : f_L_height_b21 59 d (fu + 1) s (nI i) = f_L_height_b125 (f_L_height_b21 59 d fu) 59 d (nI i) v4 FU 0 0 0 := by
        rw [← g2]
        simp (disch := omega) only [f_L_height_b21, le7F, if_false]
        rfl
      have hball : ∀ v, v < 32 → (bt v4 v = true ↔ Ball G one two opn (i + 1) k v) := by
        intro v hv
        rw [g1 v hv, h1 v hv]
        show _ ↔ Ball G one two opn i k v ∨ ∃ u, Ball G one two opn i k u ∧ Adj G one two opn u v
        refine or_congr Iff.rfl ⟨?_, ?_⟩
        · rintro ⟨g, a1, a2, (⟨a3, a4⟩ | ⟨a3, a4⟩)⟩
          · have := hends g a1
            exact ⟨one g, (h1 _ (by omega)).mp a3, g, a1, a2, Or.inl ⟨rfl, a4⟩⟩
          · have := hends g a1
            exact ⟨two g, (h1 _ (by omega)).mp a3, g, a1, a2, Or.inr ⟨rfl, a4⟩⟩
        · rintro ⟨u, a0, g, a1, a2, (⟨a3, a4⟩ | ⟨a3, a4⟩)⟩
          · have := hends g a1
            subst a3
            exact ⟨g, a1, a2, Or.inl ⟨(h1 _ (by omega)).mpr a0, a4⟩⟩
          · have := hends g a1
            subst a3
            exact ⟨g, a1, a2, Or.inr ⟨(h1 _ (by omega)).mpr a0, a4⟩⟩
      try dsimp only
      rw [g3, L_h125 hD hw]
      by_cases hh : Hit G one two opn (sft dr) (i + 1) k
      · refine Or.inr ?_
        have hn : ∀ q, q < 7 → nst G one two opn dr k q = (bt v4 q && sft dr q) := fun q hq => bool_ext (by
          unfold nst
          rw [dcd_t, nst_ball hq hh (fun t' ht => h2 t' (by omega)), Bool.and_eq_true, hball q (by omega)])
        have hp : 0 < fb_ct (fun q => bt v4 q && sft dr q) 7 := by
          obtain ⟨q, hq, b1, b2⟩ := hh
          exact fb_ct_pos.mpr ⟨q, hq, by rw [Bool.and_eq_true]; exact ⟨(hball q (by omega)).mpr b1, b2⟩⟩
        rw [if_neg (by omega)]
        unfold hgt
        rw [fb_ct_cong hn, if_neg (by omega)]
        have hsm : fb_sm (fun q => if nst G one two opn dr k q = true then sh moon dr q else 0) 7 = fb_sm (fun q => if (bt v4 q && sft dr q) = true then sh moon dr q else 0) 7 := fb_sm_cong (fun q hq => by rw [hn q hq])
        rw [hsm]
        rfl
      · refine Or.inl ⟨v4, ⟨hball, fun t ht => ?_⟩, ?_⟩
        · rcases Nat.lt_or_ge t (i + 1) with q | q
          · exact h2 t (by omega)
          · have : t = i + 1 := by omega
            subst this
            exact hh
        · rw [if_pos (fb_ct_zero.mpr (fun q hq => by
            cases hx : (bt v4 q && sft dr q)
            · rfl
            · rw [Bool.and_eq_true] at hx
              exact absurd ⟨q, hq, (hball q (by omega)).mp hx.1, hx.2⟩ hh)), nI_1]
    · rintro fu s ⟨h1, h2⟩
      have hno : ∀ t, ¬ Hit G one two opn (sft dr) t k := fun t hh => h2 6 (by omega) (hit_6 hends (wf_shaft hw) t k hk hh)
      have hz0 : fb_ct (nst G one two opn dr k) 7 = 0 := fb_ct_zero.mpr (fun q hq => dcd_f.mpr (nst_none hq hno))
      unfold hgt
      rw [if_pos hz0]
      simp (disch := omega) only [f_L_height_b21, le7T, if_true, hI]
    · constructor
      · intro v hv
        rw [one_shl (by omega) hv, decide_eq_true_eq]
        exact Iff.rfl
      · intro t ht
        have : t = 0 := by omega
        subst this
        rw [hit_0 hk]
        unfold sft
        rw [decide_eq_true_eq]
        exact hz
theorem hI_lt0 {h : Option Nat} (hb : ∀ x, h = some x → x < 2 ^ 30) : hI h < 0 ↔ h = none := by
  cases h with
  | none => simp [hI]
  | some x =>
    have := hb x rfl
    simp only [hI, lt0F (i := x) (by omega)]
    simp
theorem L_into_e (hD : DA d G one two len dor opn moon dr) (hw : WF G one two len dr) {g : Nat} (hg : g < G) : f_L_into 59 d (nI g) = some (hI (flw G one two opn moon dr g)) := by
  obtain ⟨e1, e2, e3, e4, e5⟩ := hD.2.2.1 g hg
  obtain ⟨w1, w2, w3, -, -⟩ := hw.2.1 g hg
  have hG := hw.1
  unfold f_L_into f_L_into_b45 flw
  cases ho : opn g
  · simp (disch := omega) only [ad41, inT, if_true, cl_e, e5, ho, b2i_0]
    rfl
  · simp (disch := omega) only [ad41, ad1, ad11, inT, if_true, cl_e, e5, ho, b2i_0, e1, e2, L_height_e hD hw w1, L_height_e hD hw w2, bnd_e, tfF, if_false]
    have b1 : ∀ x, hgt G one two opn moon dr (one g) = some x → x < 2 ^ 30 := fun x h => hgt_lt' hw.2.2.1 h
    have b2 : ∀ x, hgt G one two opn moon dr (two g) = some x → x < 2 ^ 30 := fun x h => hgt_lt' hw.2.2.1 h
    generalize hgt G one two opn moon dr (one g) = h1 at b1
    generalize hgt G one two opn moon dr (two g) = h2 at b2
    cases h1 with
    | none => rw [if_pos ((hI_lt0 b1).mpr rfl)]; rfl
    | some x =>
      rw [if_neg (c := hI (some x) < 0) (by rw [hI_lt0 b1]; simp)]
      cases h2 with
      | none => rw [if_pos ((hI_lt0 b2).mpr rfl)]; rfl
      | some y =>
        have c1 := b1 x rfl
        have c2 := b2 y rfl
        rw [if_neg (c := hI (some y) < 0) (by rw [hI_lt0 b2]; simp)]
        have e1' : hI (some x) = hI (some y) ↔ x = y := by rw [hI_inj b1 b2]; simp
        have e2' : hI (some y) ≤ hI (some x) ↔ y ≤ x := nI_leI (by omega) (by omega)
        rw [show lowr (some x) (some y) (one g) (two g) = (if x = y then none else if x < y then some (one g) else some (two g)) from rfl]
        by_cases q : x = y
        · rw [if_pos (e1'.mpr q), if_pos q]; rfl
        · rw [if_neg (fun h => q (e1'.mp h)), if_neg q]
          by_cases q2 : x < y
          · rw [if_neg (fun h => by have := e2'.mp h; omega), if_pos q2]; rfl
          · rw [if_pos (e2'.mpr (by omega)), if_neg q2]; rfl
/-- the law's own row of flows -/
def LA (c : A32) (G : Nat) (fl : Nat → Option Nat) : Prop := ∀ g, g < 10 → c g = if g < G then hI (fl g) else -1
theorem L_air_e (hD : DA d G one two len dor opn moon dr) (hw : WF G one two len dr) : ∃ c, f_L_air 59 d = some c ∧ LA c G (flw G one two opn moon dr) := by
  have hG := hw.1
  have e0 := hD.1
  obtain ⟨c, hc, e⟩ := lp (fun fu (s : A32) i => f_L_air_b7 59 d fu s (nI i)) 10
    (fun i s => ∀ g, g < i → s g = if g < G then hI (flw G one two opn moon dr g) else -1) (fun s => some s) (by
      intro fu i s hi hs
      refine ⟨upd s i (if i < G then hI (flw G one two opn moon dr i) else -1), ?_, ?_⟩
      · intro g hg
        rw [upd_e]
        by_cases q : g = i
        · subst q; rw [if_pos rfl]
        · rw [if_neg q]; exact hs g (by omega)
      · by_cases hig : i < G
        · simp (disch := omega) only [f_L_air_b7, f_L_air_b31, le10F, if_false, in0, if_true, cl0, e0, leF, L_into_e hD hw hig, bnd_e, inT, nam_e, cl_e, nI_1, hig]
        · simp (disch := omega) only [f_L_air_b7, f_L_air_b31, le10F, if_false, in0, if_true, cl0, e0, leT, inT, nam_e, cl_e, nI_1, hig]) (by
      intro fu s _
      simp (disch := omega) only [f_L_air_b7, le10T, if_true]) (i := 0) (k := 10) (fu := FU) (s := fun _ => 0) rfl (FU_lt (by decide)) (fun g h => absurd h (Nat.not_lt_zero g))
  exact ⟨c, e, hc⟩
theorem L_breathes_e (hD : DA d G one two len dor opn moon dr) (hw : WF G one two len dr) {fl : Nat → Option Nat} (hfl : ∀ g x, g < G → fl g = some x → x < 7) {c : A32} (hc : LA c G fl) {k : Nat} (hk : k < 7) : f_L_breathes 59 10 d c (nI k) = some (b2i (dcd (brt G one two fl k))) := by
  have hG := hw.1
  have e0 := hD.1
  unfold f_L_breathes
  refine lpP (fun fu (s : Unit) i => f_L_breathes_b2 59 10 d c (nI k) fu (nI i)) G (fun i s => ∀ g, g < i → fl g ≠ none → ¬ (one g = k ∨ two g = k)) (fun r => r = some (b2i (dcd (brt G one two fl k)))) ?_ ?_ G 0 () FU (by omega) (FU_lt (by omega)) (fun g h => absurd h (Nat.not_lt_zero g))
  · intro fu i s hi hs
    obtain ⟨e1, e2, e3, e4, e5⟩ := hD.2.2.1 i hi
    obtain ⟨w1, w2, w3, -, -⟩ := hw.2.1 i hi
    have ec := hc i (by omega)
    rw [if_pos hi] at ec
    have hb : ∀ x, fl i = some x → x < 2 ^ 30 := fun x h => by have := hfl i x hi h; omega
    by_cases hf : fl i = none
    · refine Or.inl ⟨(), fun g hg hn => ?_, ?_⟩
      · rcases Nat.lt_or_ge g i with q | q
        · exact hs g q hn
        · have : g = i := by omega
          subst this
          exact absurd hf hn
      · have : (hI (fl i) < 0) = True := eq_true ((hI_lt0 hb).mpr hf)
        simp (disch := omega) only [f_L_breathes_b2, f_L_breathes_b36, in0, if_true, cl0, e0, leF, if_false, inT, cl_e, ec, this, nam_e, nI_1]
    · have hx : (hI (fl i) < 0) = False := eq_false (fun q => hf ((hI_lt0 hb).mp q))
      have hu : f_L_breathes_b2 59 10 d c (nI k) (fu + 1) (nI i) = (if nI (one i) = nI k then some 1 else if nI (two i) = nI k then some 1 else f_L_breathes_b2 59 10 d c (nI k) fu (nI (i + 1))) := by
        simp (disch := omega) only [f_L_breathes_b2, f_L_breathes_b36, in0, if_true, cl0, e0, leF, if_false, inT, cl_e, ec, hx, nam_e, nI_1, ad1, ad11, e1, e2]
      try dsimp only
      rw [hu, iteE (by omega) (by omega), iteE (by omega) (by omega)]
      by_cases h1 : one i = k
      · refine Or.inr ?_
        rw [if_pos h1, dcd_t.mpr ⟨i, hi, hf, Or.inl h1⟩]
        rfl
      · rw [if_neg h1]
        by_cases h2 : two i = k
        · refine Or.inr ?_
          rw [if_pos h2, dcd_t.mpr ⟨i, hi, hf, Or.inr h2⟩]
          rfl
        · rw [if_neg h2]
          refine Or.inl ⟨(), fun g hg hn => ?_, rfl⟩
          rcases Nat.lt_or_ge g i with q | q
          · exact hs g q hn
          · have : g = i := by omega
            subst this
            rintro (h | h)
            · exact h1 h
            · exact h2 h
  · intro fu s hs
    have : dcd (brt G one two fl k) = false := dcd_f.mpr (fun ⟨g, a1, a2, a3⟩ => hs g a1 a2 a3)
    try dsimp only
    rw [this]
    simp (disch := omega) only [f_L_breathes_b2, in0, if_true, cl0, e0, leT, b2i_f]
def brs (kd : Nat) : Nat := if kd = 2 then 1 else if kd = 3 then 2 else if kd = 4 then 6 else 4
theorem L_bears_e {kd : Nat} (h : kd < 5) : f_L_bears (nI kd) = some (nI (brs kd)) := by
  rcases (show kd = 0 ∨ kd = 1 ∨ kd = 2 ∨ kd = 3 ∨ kd = 4 by omega) with rfl | rfl | rfl | rfl | rfl <;> rfl
theorem L_other_e (hD : DA d G one two len dor opn moon dr) (hw : WF G one two len dr) {g k : Nat} (hg : g < G) (hk : k < 7) : f_L_other 59 d (nI g) (nI k) = some (nI (if one g = k then two g else one g)) := by
  obtain ⟨e1, e2, e3, e4, e5⟩ := hD.2.2.1 g hg
  obtain ⟨w1, w2, w3, -, -⟩ := hw.2.1 g hg
  have hG := hw.1
  unfold f_L_other
  simp (disch := omega) only [ad1, ad11, inT, if_true, cl_e, e1, e2]
  rw [iteE (by omega) (by omega)]
  split <;> rfl
end LH2
