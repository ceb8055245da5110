/-! smoke by the minute -/
def cut (m : Nat) : Option Nat → Option Nat
  | some c => if c ≤ m then some c else none
  | none => none
theorem cut_s {m c : Nat} {o : Option Nat} : cut m o = some c ↔ o = some c ∧ c ≤ m := by
  cases o with
  | none => simp [cut]
  | some x =>
    simp only [cut]
    constructor
    · intro h
      split at h
      · cases h; exact ⟨rfl, by assumption⟩
      · cases h
    · rintro ⟨h, h2⟩
      cases h
      exact if_pos h2
theorem cut_n {m : Nat} {o : Option Nat} : cut m o = none ↔ ∀ c, o = some c → m < c := by
  cases o with
  | none => simp [cut]
  | some x =>
    simp only [cut]
    constructor
    · intro h c hc
      cases hc
      split at h
      · cases h
      · omega
    · intro h
      exact if_neg (by have := h x rfl; omega)
theorem cut_big {m c : Nat} {o : Option Nat} (h : cut m o = some c) : c ≤ m := (cut_s.mp h).2
section SIM
variable {d a : A32} {G : Nat} {one two len dr : Nat → Nat} {dor opn : Nat → Bool} {moon : Bool} {fl F : Nat → Option Nat}
theorem LA.at {c : A32} (hG : G ≤ 10) (h : LA c G fl) {g : Nat} (hg : g < G) : c g = hI (fl g) := by rw [h g (by omega), if_pos hg]
/-- what the row of minutes is, when galleries before i are seen in minute m -/
def WI (w : A32) (G : Nat) (one two len : Nat → Nat) (fl F : Nat → Option Nat) (m i : Nat) : Prop :=
  ∀ k, k < 7 → ((∃ g, g < i ∧ fl g = some k ∧ ∃ x, F (if one g = k then two g else one g) = some x ∧ x + len g = m) ∧ cut (m - 1) (F k) = none → w k = nI m) ∧ (¬ ((∃ g, g < i ∧ fl g = some k ∧ ∃ x, F (if one g = k then two g else one g) = some x ∧ x + len g = m) ∧ cut (m - 1) (F k) = none) → w k = hI (cut (m - 1) (F k)))
theorem sim_minute (hD : DA d G one two len dor opn moon dr) (hw : WF G one two len dr) (hfl : ∀ g x, g < G → fl g = some x → one g = x ∨ two g = x) (ha : LA a G fl) {fire : Nat} (hL : Lst (Ed G one two len fl) fire F)
    (k46 : A32 → Int32 → Option Int32) (cg cs : Int32) (c1 c2 ci cl : A32) {m : Nat} (hm : 1 ≤ m) (hm2 : m < 60) {w : A32} (hwm : ∀ k, k < 7 → w k = hI (cut (m - 1) (F k))) :
    ∃ w', (∀ k, k < 7 → w' k = hI (cut m (F k))) ∧ f_L_smoke_b56 k46 59 cg cs c1 c2 ci cl d a (nI fire) (nI m) FU w 0 = k46 w' (nI (m + 1)) := by
  have hG := hw.1
  have e0 := hD.1
  obtain ⟨w', h1, e⟩ := lp (fun fu (s : A32) i => f_L_smoke_b56 k46 59 cg cs c1 c2 ci cl d a (nI fire) (nI m) fu s (nI i)) G
    (fun i s => WI s G one two len fl F m i) (fun s => k46 s (nI (m + 1))) (by
      intro fu i s hi hs
      obtain ⟨e1, e2, e3, e4, e5⟩ := hD.2.2.1 i hi
      obtain ⟨w1, w2, w3, w4, w5⟩ := hw.2.1 i hi
      have ea := ha.at (by omega) hi
      -- nothing changes
      have same : (∀ v, fl i = some v → ¬ ((∃ x, F (if one i = v then two i else one i) = some x ∧ x + len i = m) ∧ cut (m - 1) (F v) = none)) → WI s G one two len fl F m (i + 1) := by
        intro hno k hk
        have hiff : ((∃ g, g < i + 1 ∧ fl g = some k ∧ ∃ x, F (if one g = k then two g else one g) = some x ∧ x + len g = m) ∧ cut (m - 1) (F k) = none) ↔ ((∃ g, g < i ∧ fl g = some k ∧ ∃ x, F (if one g = k then two g else one g) = some x ∧ x + len g = m) ∧ cut (m - 1) (F k) = none) := by
          constructor
          · rintro ⟨⟨g, a1, a2, a3⟩, a4⟩
            rcases Nat.lt_or_ge g i with q | q
            · exact ⟨⟨g, q, a2, a3⟩, a4⟩
            · have : g = i := by omega
              subst this
              exact absurd ⟨a3, a4⟩ (hno k a2)
          · rintro ⟨⟨g, a1, a2, a3⟩, a4⟩
            exact ⟨⟨g, by omega, a2, a3⟩, a4⟩
        rw [hiff]
        exact hs k hk
      cases hf : fl i with
      | none =>
        rw [hf] at ea
        refine ⟨s, same (fun v hv => by rw [hf] at hv; cases hv), ?_⟩
        simp (disch := omega) only [f_L_smoke_b56, f_L_smoke_b140, in0, if_true, cl0, e0, leF, if_false, inT, cl_e, ea, hI, m1_lt0, nam_e, nI_1]
      | some v =>
        rw [hf] at ea
        have hv := hfl i v hi hf
        have hv7 : v < 7 := by rcases hv with rfl | rfl <;> assumption
        have hu7 : (if one i = v then two i else one i) < 7 := by split <;> assumption
        have hoth := L_other_e hD hw hi hv7
        obtain ⟨p1, p2⟩ := hs v hv7
        obtain ⟨r1, r2⟩ := hs (if one i = v then two i else one i) hu7
        have hother : ∀ P : Prop, P ∨ ¬ P := Classical.em
        -- up to b96
        have head : (∀ c, cut (m - 1) (F v) = some c → f_L_smoke_b56 k46 59 cg cs c1 c2 ci cl d a (nI fire) (nI m) (fu + 1) s (nI i) = f_L_smoke_b56 k46 59 cg cs c1 c2 ci cl d a (nI fire) (nI m) fu s (nI (i + 1))) := by
          intro c hc
          have hcb := cut_big hc
          have hsv : s v = nI c := by
            rw [p2 (fun q => by rw [hc] at q; cases q.2), hc]; rfl
          simp (disch := omega) only [f_L_smoke_b56, f_L_smoke_b140, in0, if_true, cl0, e0, leF, if_false, inT, cl_e, ea, hI, lt0F, hsv, nam_e, nI_1]
        have head2 : cut (m - 1) (F v) = none → f_L_smoke_b56 k46 59 cg cs c1 c2 ci cl d a (nI fire) (nI m) (fu + 1) s (nI i) = f_L_smoke_b96 k46 (f_L_smoke_b56 k46 59 cg cs c1 c2 ci cl d a (nI fire) (nI m) fu) 59 cg cs c1 c2 ci cl d a s (nI fire) (nI m) (nI i) := by
          intro hc
          rcases hother ((∃ g, g < i ∧ fl g = some v ∧ ∃ x, F (if one g = v then two g else one g) = some x ∧ x + len g = m) ∧ cut (m - 1) (F v) = none) with q | q
          · have hsv := p1 q
            simp (disch := omega) only [f_L_smoke_b56, in0, if_true, cl0, e0, leF, leT, if_false, inT, cl_e, ea, hI, lt0F, hsv]
          · have hsv : s v = -1 := by rw [p2 q, hc]; rfl
            simp (disch := omega) only [f_L_smoke_b56, in0, if_true, cl0, e0, leF, if_false, inT, cl_e, ea, hI, lt0F, hsv, m1_lt0]
        cases hc : cut (m - 1) (F v) with
        | some c =>
          refine ⟨s, same (fun v' hv' => by
            rw [hf] at hv'
            cases hv'
            rintro ⟨-, q⟩
            rw [hc] at q
            cases q), head c hc⟩
        | none =>
          -- the other end
          generalize hu : (if one i = v then two i else one i) = u at *
          rcases hother (∃ x, F u = some x ∧ x + len i = m) with ⟨x, hx1, hx2⟩ | hno
          · -- it comes
            have hcu : cut (m - 1) (F u) = some x := cut_s.mpr ⟨hx1, by omega⟩
            have hsu : s u = nI x := by
              rw [r2 (fun q => by rw [hcu] at q; cases q.2), hcu]; rfl
            refine ⟨upd s v (nI m), ?_, ?_⟩
            · intro k hk
              rw [upd_e]
              by_cases q : k = v
              · subst q
                rw [if_pos rfl]
                exact ⟨fun _ => rfl, fun q => absurd ⟨⟨i, by omega, hf, x, by rw [hu]; exact hx1, hx2⟩, hc⟩ q⟩
              · rw [if_neg q]
                obtain ⟨b1, b2⟩ := hs k hk
                refine ⟨fun q2 => b1 ?_, fun q2 => b2 (fun q3 => q2 ?_)⟩
                · obtain ⟨⟨g, a1, a2, a3⟩, a4⟩ := q2
                  refine ⟨⟨g, ?_, a2, a3⟩, a4⟩
                  rcases Nat.lt_or_ge g i with r | r
                  · exact r
                  · have : g = i := by omega
                    subst this
                    rw [hf] at a2
                    cases a2
                    exact absurd rfl q
                · obtain ⟨⟨g, a1, a2, a3⟩, a4⟩ := q3
                  exact ⟨⟨g, by omega, a2, a3⟩, a4⟩
            · try dsimp only
              rw [head2 hc]
              simp (disch := omega) only [f_L_smoke_b96, f_L_smoke_b140, inT, if_true, ea, hI, hoth, bnd_e, cl_e, hsu, nam_e, lt0F, if_false, ad21, e3, nI_add, eqT, nI_1]
          · refine ⟨s, same (fun v' hv' => by
              rw [hf] at hv'
              cases hv'
              rintro ⟨q, -⟩
              rw [hu] at q
              exact hno q), ?_⟩
            try dsimp only
            rw [head2 hc]
            rcases hother ((∃ g, g < i ∧ fl g = some u ∧ ∃ x, F (if one g = u then two g else one g) = some x ∧ x + len g = m) ∧ cut (m - 1) (F u) = none) with q | q
            · have hsu := r1 q
              simp (disch := omega) only [f_L_smoke_b96, f_L_smoke_b140, inT, if_true, ea, hI, hoth, bnd_e, cl_e, hsu, nam_e, lt0F, if_false, ad21, e3, nI_add, eqF, nI_1]
            · have hsu := r2 q
              cases hcu : cut (m - 1) (F u) with
              | none =>
                rw [hcu] at hsu
                simp (disch := omega) only [f_L_smoke_b96, f_L_smoke_b140, inT, if_true, ea, hI, hoth, bnd_e, cl_e, hsu, nam_e, m1_lt0, nI_1]
              | some x =>
                rw [hcu] at hsu
                have hcs := cut_s.mp hcu
                have hne : x + len i ≠ m := fun q => hno ⟨x, hcs.1, q⟩
                simp (disch := omega) only [f_L_smoke_b96, f_L_smoke_b140, inT, if_true, ea, hI, hoth, bnd_e, cl_e, hsu, nam_e, lt0F, if_false, ad21, e3, nI_add, eqF, nI_1]) (by
      intro fu s _
      simp (disch := omega) only [f_L_smoke_b56, in0, if_true, cl0, e0, leT, nam_e, nI_1]) (i := 0) (k := G) (fu := FU) (s := w) (by omega) (FU_lt (by omega)) (fun k hk => ⟨fun q => by
        obtain ⟨⟨g, a1, -⟩, -⟩ := q
        exact absurd a1 (Nat.not_lt_zero g), fun _ => hwm k hk⟩)
  refine ⟨w', fun k hk => ?_, e⟩
  obtain ⟨b1, b2⟩ := h1 k hk
  by_cases hF : F k = some m
  · rw [cut_s.mpr ⟨hF, Nat.le_refl m⟩]
    refine b1 ⟨?_, ?_⟩
    · have hkf : k ≠ fire := fun q => by
        subst q
        rw [hL.1] at hF
        cases hF
        omega
      obtain ⟨x, l, y, ⟨g, a1, a2, a3, a4⟩, a5, a6⟩ := hL.2.2 k m hk hkf hF
      exact ⟨g, a1, a2, y, by rw [a3]; exact a5, by omega⟩
    · refine cut_n.mpr (fun c hc => ?_)
      rw [hF] at hc
      cases hc
      omega
  · have hcc : cut m (F k) = cut (m - 1) (F k) := by
      cases hFk : F k with
      | none => rfl
      | some c =>
        have : c ≠ m := fun q => hF (by rw [hFk, q])
        simp only [cut]
        by_cases q : c ≤ m
        · rw [if_pos q, if_pos (by omega)]
        · rw [if_neg q, if_neg (by omega)]
    rw [hcc]
    refine b2 ?_
    rintro ⟨⟨g, a1, a2, x, a3, a4⟩, a5⟩
    obtain ⟨c, c1', c2'⟩ := hL.2.1 _ k (len g) x ⟨g, a1, a2, rfl, rfl⟩ a3
    have := cut_n.mp a5 c c1'
    have : c = m := by omega
    exact hF (by rw [c1', this])
theorem le60T {i : Nat} (h : 60 ≤ i) (hi : i < 2 ^ 31) : ((60 : Int32) ≤ nI i) = True := leT h hi
theorem le60F {i : Nat} (h : i < 60) : ((60 : Int32) ≤ nI i) = False := leF h (by decide)
/-- all minutes: the least lengths themselves -/
theorem sim_all (hD : DA d G one two len dor opn moon dr) (hw : WF G one two len dr) (hfl : ∀ g x, g < G → fl g = some x → one g = x ∨ two g = x) (ha : LA a G fl) {fire : Nat} (hfi : fire < 7) (hL : Lst (Ed G one two len fl) fire F) (cg cs : Int32) (c1 c2 ci cl : A32) :
    ∃ w, (∀ k, k < 7 → w k = hI (F k)) ∧ f_L_smoke_b14 59 cg cs c1 c2 ci cl d a (nI fire) FU (fun _ => 0) 0 = f_L_smoke_b155 59 cg cs c1 c2 ci cl d a w (nI fire) FU 0 := by
  have hed := ed_ok (len := len) hw hfl
  have hpos : ∀ k c, k < 7 → k ≠ fire → F k = some c → 0 < c := by
    intro k c hk hne hF
    obtain ⟨x, l, y, b1, b2, b3⟩ := hL.2.2 k c hk hne hF
    have := hed _ _ _ b1
    omega
  obtain ⟨w0, h0, e1⟩ := lp (fun fu (s : A32) i => f_L_smoke_b14 59 cg cs c1 c2 ci cl d a (nI fire) fu s (nI i)) 7
    (fun i s => ∀ k, k < i → s k = if k = fire then 0 else -1) (fun s => f_L_smoke_b46 59 cg cs c1 c2 ci cl d a (nI fire) FU s 1) (by
      intro fu i s hi hs
      refine ⟨upd s i (if i = fire then 0 else -1), fun k hk => ?_, ?_⟩
      · rw [upd_e]
        by_cases q : k = i
        · subst q; rw [if_pos rfl]
        · rw [if_neg q]; exact hs k (by omega)
      · by_cases q : i = fire
        · simp (disch := omega) only [f_L_smoke_b14, f_L_smoke_b36, le7F, if_false, eqT, if_true, inT, nam_e, cl_e, nI_1, q]
        · simp (disch := omega) only [f_L_smoke_b14, f_L_smoke_b36, le7F, if_false, eqF, inT, if_true, nam_e, cl_e, nI_1, q]) (by
      intro fu s _
      simp (disch := omega) only [f_L_smoke_b14, le7T, if_true]) (i := 0) (k := 7) (fu := FU) (s := fun _ => 0) rfl (FU_lt (by decide)) (fun k h => absurd h (Nat.not_lt_zero k))
  rw [show f_L_smoke_b14 59 cg cs c1 c2 ci cl d a (nI fire) FU (fun _ => 0) 0 = f_L_smoke_b14 59 cg cs c1 c2 ci cl d a (nI fire) FU (fun _ => 0) (nI 0) from rfl, e1]
  obtain ⟨w, h1, e2⟩ := lp (fun fu (s : A32) i => f_L_smoke_b46 59 cg cs c1 c2 ci cl d a (nI fire) fu s (nI i)) 60
    (fun i s => 1 ≤ i ∧ ∀ k, k < 7 → s k = hI (cut (i - 1) (F k))) (fun s => f_L_smoke_b155 59 cg cs c1 c2 ci cl d a s (nI fire) FU 0) (by
      rintro fu i s hi ⟨hi1, hs⟩
      obtain ⟨w', g1, g2⟩ := sim_minute hD hw hfl ha hL (f_L_smoke_b46 59 cg cs c1 c2 ci cl d a (nI fire) fu) cg cs c1 c2 ci cl hi1 hi hs
      refine ⟨w', ⟨by omega, g1⟩, ?_⟩
      simp (disch := omega) only [f_L_smoke_b46, le60F, if_false]
      exact g2) (by
      intro fu s _
      simp (disch := omega) only [f_L_smoke_b46, le60T, if_true]) (i := 1) (k := 59) (fu := FU) (s := w0) rfl (FU_lt (by decide)) ⟨Nat.le_refl _, fun k hk => by
        rw [h0 k hk]
        by_cases q : k = fire
        · subst q
          rw [if_pos rfl, hL.1]
          rfl
        · rw [if_neg q]
          have : cut (1 - 1) (F k) = none := cut_n.mpr (fun c hc => hpos k c hk q hc)
          rw [this]
          rfl⟩
  refine ⟨w, fun k hk => ?_, e2⟩
  rw [h1.2 k hk]
  have : cut (60 - 1) (F k) = F k := by
    cases hF : F k with
    | none => rfl
    | some c =>
      have := lst_54 hfi (fun u v l q => ⟨(hed u v l q).1, (hed u v l q).2.1, (hed u v l q).2.2.1, (hed u v l q).2.2.2.1⟩) hL hk hF
      exact if_pos (by omega)
  rw [this]
end SIM
