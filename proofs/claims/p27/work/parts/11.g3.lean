/-! walks, as the law does them -/
theorem subI0 {a b : Nat} (ha : a < 1000) (hb : b < 1000) : nI a - nI b = 0 ↔ a = b := by
  constructor
  · intro h
    have h1 := congrArg Int32.toInt h
    rw [pk_sub_toInt (by omega) (by omega)] at h1
    have e : (0 : Int32).toInt = 0 := by decide
    rw [e] at h1
    omega
  · rintro rfl
    exact Int32.sub_self _
theorem subI1 (a b : Nat) : nI a - nI b + (-1) = nI a - nI (b + 1) := by
  rw [← nI_1]
  simp only [Int32.sub_eq_add_neg, Int32.neg_add, Int32.add_assoc]
theorem cmp_self (x : Int64) : lg_cmp x x = 0 := by
  unfold lg_cmp
  rw [if_neg (fun h => by
    rw [gt_iff_lt, Int64.lt_iff_toInt_lt] at h
    omega), if_pos rfl]
theorem le22T {i : Nat} (h : 22 ≤ i) (hi : i < 2 ^ 31) : ((22 : Int32) ≤ nI i) = True := leT h hi
theorem le22F {i : Nat} (h : i < 22) : ((22 : Int32) ≤ nI i) = False := leF h (by decide)
section LW
variable {d a c : A32} {G : Nat} {one two len dr : Nat → Nat} {dor opn : Nat → Bool} {moon : Bool} {fl : Nat → Option Nat} {gas kind place : Nat → Nat} {outx : Int32} {M T q : Nat}
theorem PA.move {m x : Nat} (hP : PA c gas kind place outx M T) (hM : M ≤ 6) (hm : m < M) : PA (upd c (13 + m) (nI x)) gas kind (fun j => if j = m then x else place j) outx M T := by
  obtain ⟨p1, p2, p3, p4, p5⟩ := hP
  refine ⟨fun k hk => ?_, fun j hj => ⟨?_, ?_⟩, ?_, ?_, ?_⟩
  · rw [upd_n _ _ (by omega)]; exact p1 k hk
  · rw [upd_n _ _ (by omega)]; exact (p2 j hj).1
  · show upd c (13 + m) (nI x) (13 + j) = nI (if j = m then x else place j)
    rw [upd_e]
    by_cases r : j = m
    · subst r; rw [if_pos rfl, if_pos rfl]
    · rw [if_neg (by omega), if_neg r]; exact (p2 j hj).2
  · rw [upd_n _ _ (by omega)]; exact p3
  · rw [upd_n _ _ (by omega)]; exact p4
  · rw [upd_n _ _ (by omega)]; exact p5
set_option maxHeartbeats 4000000 in
theorem dreamL_e (hD : DA d G one two len dor opn moon dr) (hw : WF G one two len dr) (hP : PA c gas kind place outx M T) (hW : WM gas kind place outx M T) (hq : q < 2147483648)
    (cg : Int32) (cone ctwo : A32) (br csize : Int32) (ckinds : A32) (copen cmoon cout cgone : Int32) (cgas cplace : A32) (x1 x2 x3 x4 : Int32) (x5 x6 : A32) (x7 : Int32) (seed : Int32) {times i : Nat} (hi : i < times) (ht : times ≤ 60) (fu : Nat) :
    ∃ c', PA c' gas kind (dW M G one two opn (bt outx) place q).1 outx M T ∧ f_L_walks_b45 59 22 cg cone ctwo br csize ckinds copen cmoon cout cgone cgas cplace x1 x2 x3 x4 x5 x6 x7 d a (nI times) seed (fu + 1) c (lN q) (nI i) = f_L_walks_b299 (f_L_walks_b45 59 22 cg cone ctwo br csize ckinds copen cmoon cout cgone cgas cplace x1 x2 x3 x4 x5 x6 x7 d a (nI times) seed fu) 59 22 cg cone ctwo br csize ckinds copen cmoon cout cgone cgas cplace x1 x2 x3 x4 x5 x6 x7 d c' a (nI times) seed (lN (dW M G one two opn (bt outx) place q).2) (nI i) := by
  have hG := hw.1
  obtain ⟨hM6, hg9, hkp, hob, hT⟩ := hW
  have hP' := hP
  obtain ⟨p1, p2, p3, p4, p5⟩ := hP
  have e0 := hD.1
  by_cases h0 : M = 0
  · refine ⟨c, ?_, ?_⟩
    · unfold dW
      rw [if_pos h0]
      exact hP'
    · unfold dW
      rw [if_pos h0]
      simp (maxSteps := 4000000) (disch := omega) only [f_L_walks_b45, leF, if_false, in20, if_true, cl20, p4, le0T]
  · have hM0 : (lN M = (0 : Int64)) = False := eq_false (fun h => h0 ((pk_lEQ (a := M) (b := 0) (by omega) (by decide)).mp h))
    have hq1 := nxt_lt q
    have hm : nxt q / 65536 % M < M := Nat.mod_lt _ (by omega)
    -- to the counting
    have s1 : f_L_walks_b45 59 22 cg cone ctwo br csize ckinds copen cmoon cout cgone cgas cplace x1 x2 x3 x4 x5 x6 x7 d a (nI times) seed (fu + 1) c (lN q) (nI i) = f_L_walks_b97 (f_L_walks_b45 59 22 cg cone ctwo br csize ckinds copen cmoon cout cgone cgas cplace x1 x2 x3 x4 x5 x6 x7 d a (nI times) seed fu) 59 22 cg cone ctwo br csize ckinds copen cmoon cout cgone cgas cplace x1 x2 x3 x4 x5 x6 x7 d c a (nI times) seed (lN (nxt q)) (nI i) (nI (nxt q / 65536 % M)) FU 0 0 := by
      simp (maxSteps := 4000000) (disch := omega) only [f_L_walks_b45, leF, if_false, in20, if_true, cl20, p4, le0F, nxtL_e hq, nam_e, nI_l, hM0, drawL_e]
    rw [s1]
    unfold dW
    rw [if_neg h0]
    generalize nxt q / 65536 % M = m at *
    generalize (f_L_walks_b45 59 22 cg cone ctwo br csize ckinds copen cmoon cout cgone cgas cplace x1 x2 x3 x4 x5 x6 x7 d a (nI times) seed fu) = k45 at *
    obtain ⟨k1, k2⟩ := hkp m hm
    have c13 := (p2 m hm).2
    obtain ⟨v, hv, e⟩ := lp (fun fu (s : Int32) g => f_L_walks_b97 k45 59 22 cg cone ctwo br csize ckinds copen cmoon cout cgone cgas cplace x1 x2 x3 x4 x5 x6 x7 d c a (nI times) seed (lN (nxt q)) (nI i) (nI m) fu s (nI g)) G
      (fun g s => s = nI (fb_ct (wys one two opn (place m)) g))
      (fun s => f_L_walks_b97 k45 59 22 cg cone ctwo br csize ckinds copen cmoon cout cgone cgas cplace x1 x2 x3 x4 x5 x6 x7 d c a (nI times) seed (lN (nxt q)) (nI i) (nI m) 1 s (nI G)) (by
        rintro fu g s hg rfl
        refine ⟨nI (fb_ct (wys one two opn (place m)) (g + 1)), rfl, ?_⟩
        obtain ⟨e1, e2, e3, e4, e5⟩ := hD.2.2.1 g hg
        obtain ⟨w1, w2, w3, -, -⟩ := hw.2.1 g hg
        rw [fb_ct_succ]
        cases hop : opn g
        · have hwy : wys one two opn (place m) g = false := by unfold wys; rw [hop]; rfl
          simp (maxSteps := 4000000) (disch := omega) only [f_L_walks_b97, f_L_walks_b157, f_L_walks_b158, in0, cl0, e0, leF, if_true, if_false, ad41, inT, cl_e, e5, hop, b2i_1, ftF, hwy, Nat.add_zero, Int32.add_zero, nam_e, nI_1]
        · by_cases q1 : one g = place m
          · have hwy : wys one two opn (place m) g = true := by unfold wys; rw [hop, decide_eq_true (Or.inl q1)]; rfl
            simp (maxSteps := 4000000) (disch := omega) only [f_L_walks_b97, f_L_walks_b153, f_L_walks_b158, in0, cl0, e0, leF, if_true, if_false, ad41, ad1, ad13, inT, cl_e, e5, e1, c13, hop, b2i_1, eqT, hwy, nam_e, nI_1]
          · by_cases q2 : two g = place m
            · have hwy : wys one two opn (place m) g = true := by unfold wys; rw [hop, decide_eq_true (Or.inr q2)]; rfl
              simp (maxSteps := 4000000) (disch := omega) only [f_L_walks_b97, f_L_walks_b153, f_L_walks_b158, in0, cl0, e0, leF, if_true, if_false, ad41, ad1, ad11, ad13, inT, cl_e, e5, e1, e2, c13, hop, b2i_1, eqT, eqF, hwy, nam_e, nI_1]
            · have hwy : wys one two opn (place m) g = false := by unfold wys; rw [hop, decide_eq_false (fun h => h.elim q1 q2)]; rfl
              simp (maxSteps := 4000000) (disch := omega) only [f_L_walks_b97, f_L_walks_b157, f_L_walks_b158, in0, cl0, e0, leF, if_true, if_false, ad41, ad1, ad11, ad13, inT, cl_e, e5, e1, e2, c13, hop, b2i_1, eqF, ftF, hwy, Nat.add_zero, Int32.add_zero, nam_e, nI_1]) (by
        rintro fu s -
        simp (maxSteps := 4000000) (disch := omega) only [f_L_walks_b97, in0, cl0, e0, leT, if_true]) (i := 0) (k := G) (fu := FU) (s := 0) (by omega) (FU_lt (by omega)) rfl
    subst hv
    rw [show f_L_walks_b97 k45 59 22 cg cone ctwo br csize ckinds copen cmoon cout cgone cgas cplace x1 x2 x3 x4 x5 x6 x7 d c a (nI times) seed (lN (nxt q)) (nI i) (nI m) FU 0 0 = f_L_walks_b97 k45 59 22 cg cone ctwo br csize ckinds copen cmoon cout cgone cgas cplace x1 x2 x3 x4 x5 x6 x7 d c a (nI times) seed (lN (nxt q)) (nI i) (nI m) FU 0 (nI 0) from rfl, e]
    have hcl := fb_ct_le (wys one two opn (place m)) G
    cases hom : bt outx m
    · rw [if_neg (by decide)]
      by_cases hc : fb_ct (wys one two opn (place m)) G = 0
      · rw [if_pos hc]
        refine ⟨c, hP', ?_⟩
        simp (maxSteps := 4000000) (disch := omega) only [f_L_walks_b97, in0, cl0, e0, leT, if_true, in19, cl19, p3, bit_e, hom, b2i_0, le0T]
      · rw [if_neg hc]
        have hc0 : (lN (fb_ct (wys one two opn (place m)) G) = (0 : Int64)) = False := eq_false (fun h => hc ((pk_lEQ (b := 0) (by omega) (by decide)).mp h))
        have hq2 := nxt_lt (nxt q)
        have hwl : nxt (nxt q) / 65536 % fb_ct (wys one two opn (place m)) G < fb_ct (wys one two opn (place m)) G := Nat.mod_lt _ (by omega)
        have s2 : f_L_walks_b97 k45 59 22 cg cone ctwo br csize ckinds copen cmoon cout cgone cgas cplace x1 x2 x3 x4 x5 x6 x7 d c a (nI times) seed (lN (nxt q)) (nI i) (nI m) 1 (nI (fb_ct (wys one two opn (place m)) G)) (nI G) = f_L_walks_b227 k45 59 22 cg cone ctwo br csize ckinds copen cmoon cout cgone cgas cplace x1 x2 x3 x4 x5 x6 x7 d a (nI times) seed (lN (nxt (nxt q))) (nI i) (nI m) (nI (place m)) FU c (nI (nxt (nxt q) / 65536 % fb_ct (wys one two opn (place m)) G)) 0 := by
          simp (maxSteps := 4000000) (disch := omega) only [f_L_walks_b97, in0, cl0, e0, leT, if_true, in19, cl19, p3, bit_e, hom, b2i_0, le0F, if_false, nxtL_e hq1, nam_e, nI_l, hc0, drawL_e, ad13, inT, cl_e, c13]
        rw [s2]
        generalize nxt (nxt q) / 65536 % fb_ct (wys one two opn (place m)) G = w at *
        obtain ⟨g0, g1, g2, g3⟩ := fb_ct_kth (p := wys one two opn (place m)) (k := w) (n := G) hwl
        rw [kth_e g2 g3 G g1]
        have hw10 : w < 10 := by omega
        obtain ⟨⟨c', v'⟩, ⟨r1, r2⟩, e2⟩ := lp (fun fu (s : A32 × Int32) g => f_L_walks_b227 k45 59 22 cg cone ctwo br csize ckinds copen cmoon cout cgone cgas cplace x1 x2 x3 x4 x5 x6 x7 d a (nI times) seed (lN (nxt (nxt q))) (nI i) (nI m) (nI (place m)) fu s.1 s.2 (nI g)) G
          (fun g s => s.1 = (if g0 < g then upd c (13 + m) (nI (if one g0 = place m then two g0 else one g0)) else c) ∧ s.2 = nI w - nI (fb_ct (wys one two opn (place m)) g))
          (fun s => f_L_walks_b299 k45 59 22 cg cone ctwo br csize ckinds copen cmoon cout cgone cgas cplace x1 x2 x3 x4 x5 x6 x7 d s.1 a (nI times) seed (lN (nxt (nxt q))) (nI i)) (by
            rintro fu g ⟨cc, vv⟩ hg ⟨s1', s2'⟩
            dsimp only at s1' s2'
            subst s2'
            obtain ⟨e1, e2, e3, e4, e5⟩ := hD.2.2.1 g hg
            obtain ⟨w1, w2, w3, -, -⟩ := hw.2.1 g hg
            have hgl := fb_ct_le (wys one two opn (place m)) g
            have hoth := L_other_e hD hw hg k2
            -- a gallery that isn't a way, and one that is
            have noway : wys one two opn (place m) g = false → ∃ s' : A32 × Int32, (s'.1 = (if g0 < g + 1 then upd c (13 + m) (nI (if one g0 = place m then two g0 else one g0)) else c) ∧ s'.2 = nI w - nI (fb_ct (wys one two opn (place m)) (g + 1))) ∧ s' = (cc, nI w - nI (fb_ct (wys one two opn (place m)) g)) := by
              intro hwy
              refine ⟨_, ⟨?_, ?_⟩, rfl⟩
              · dsimp only
                rw [s1']
                have hne : g ≠ g0 := fun h => by subst h; rw [g2] at hwy; cases hwy
                by_cases r : g0 < g
                · rw [if_pos r, if_pos (show g0 < g + 1 by omega)]
                · rw [if_neg r, if_neg (show ¬ g0 < g + 1 by omega)]
              · dsimp only
                rw [fb_ct_succ, hwy]
                rfl
            have way : wys one two opn (place m) g = true → ∃ s' : A32 × Int32, (s'.1 = (if g0 < g + 1 then upd c (13 + m) (nI (if one g0 = place m then two g0 else one g0)) else c) ∧ s'.2 = nI w - nI (fb_ct (wys one two opn (place m)) (g + 1))) ∧ f_L_walks_b269 k45 (f_L_walks_b227 k45 59 22 cg cone ctwo br csize ckinds copen cmoon cout cgone cgas cplace x1 x2 x3 x4 x5 x6 x7 d a (nI times) seed (lN (nxt (nxt q))) (nI i) (nI m) (nI (place m)) fu) 59 22 cg cone ctwo br csize ckinds copen cmoon cout cgone cgas cplace x1 x2 x3 x4 x5 x6 x7 d cc a (nI times) seed (lN (nxt (nxt q))) (nI i) (nI m) (nI w - nI (fb_ct (wys one two opn (place m)) g)) (nI (place m)) (nI g) = f_L_walks_b227 k45 59 22 cg cone ctwo br csize ckinds copen cmoon cout cgone cgas cplace x1 x2 x3 x4 x5 x6 x7 d a (nI times) seed (lN (nxt (nxt q))) (nI i) (nI m) (nI (place m)) fu s'.1 s'.2 (nI (g + 1)) := by
              intro hwy
              have hct : fb_ct (wys one two opn (place m)) (g + 1) = fb_ct (wys one two opn (place m)) g + 1 := by rw [fb_ct_succ, hwy]; rfl
              by_cases r : g = g0
              · subst r
                have h00 : (nI w - nI (fb_ct (wys one two opn (place m)) g) = 0) = True := eq_true ((subI0 (by omega) (by omega)).mpr g3.symm)
                refine ⟨(upd c (13 + m) (nI (if one g = place m then two g else one g)), nI w - nI (fb_ct (wys one two opn (place m)) (g + 1))), ⟨?_, rfl⟩, ?_⟩
                · dsimp only
                  rw [if_pos (Nat.lt_succ_self g)]
                · rw [if_neg (Nat.lt_irrefl g)] at s1'
                  subst s1'
                  simp (maxSteps := 4000000) (disch := omega) only [f_L_walks_b269, f_L_walks_b293, h00, if_true, hoth, bnd_e, ad13, inT, cl_e, nam_e, nI_1, subI1, hct]
              · have h00 : (nI w - nI (fb_ct (wys one two opn (place m)) g) = 0) = False := eq_false (fun h => r (fb_ct_kth_one hwy g2 (by rw [g3]; exact ((subI0 (by omega) (by omega)).mp h).symm)))
                refine ⟨(cc, nI w - nI (fb_ct (wys one two opn (place m)) (g + 1))), ⟨?_, rfl⟩, ?_⟩
                · dsimp only
                  rw [s1']
                  by_cases r2 : g0 < g
                  · rw [if_pos r2, if_pos (show g0 < g + 1 by omega)]
                  · rw [if_neg r2, if_neg (show ¬ g0 < g + 1 by omega)]
                · simp (maxSteps := 4000000) (disch := omega) only [f_L_walks_b269, f_L_walks_b293, h00, if_false, nam_e, nI_1, subI1, hct]
            cases hop : opn g
            · have hwy : wys one two opn (place m) g = false := by unfold wys; rw [hop]; rfl
              obtain ⟨s', b1, rfl⟩ := noway hwy
              refine ⟨_, b1, ?_⟩
              simp (maxSteps := 4000000) (disch := omega) only [f_L_walks_b227, f_L_walks_b293, in0, cl0, e0, leF, if_true, if_false, ad41, inT, cl_e, e5, hop, b2i_1, ftF, nam_e, nI_1]
            · by_cases q1 : one g = place m
              · obtain ⟨s', b1, b2⟩ := way (by unfold wys; rw [hop, decide_eq_true (Or.inl q1)]; rfl)
                refine ⟨s', b1, ?_⟩
                rw [← b2]
                simp (maxSteps := 4000000) (disch := omega) only [f_L_walks_b227, in0, cl0, e0, leF, if_true, if_false, ad41, ad1, inT, cl_e, e5, e1, hop, b2i_1, eqT]
              · by_cases q2 : two g = place m
                · obtain ⟨s', b1, b2⟩ := way (by unfold wys; rw [hop, decide_eq_true (Or.inr q2)]; rfl)
                  refine ⟨s', b1, ?_⟩
                  rw [← b2]
                  simp (maxSteps := 4000000) (disch := omega) only [f_L_walks_b227, in0, cl0, e0, leF, if_true, if_false, ad41, ad1, ad11, inT, cl_e, e5, e1, e2, hop, b2i_1, eqT, eqF]
                · have hwy : wys one two opn (place m) g = false := by unfold wys; rw [hop, decide_eq_false (fun h => h.elim q1 q2)]; rfl
                  obtain ⟨s', b1, rfl⟩ := noway hwy
                  refine ⟨_, b1, ?_⟩
                  simp (maxSteps := 4000000) (disch := omega) only [f_L_walks_b227, f_L_walks_b293, in0, cl0, e0, leF, if_true, if_false, ad41, ad1, ad11, inT, cl_e, e5, e1, e2, hop, b2i_1, eqF, nam_e, nI_1]) (by
            rintro fu ⟨cc, vv⟩ -
            simp (maxSteps := 4000000) (disch := omega) only [f_L_walks_b227, in0, cl0, e0, leT, if_true]) (i := 0) (k := G) (fu := FU) (s := (c, nI w)) (by omega) (FU_lt (by omega)) ⟨by rw [if_neg (Nat.not_lt_zero _)], by
              show nI w = nI w - nI 0
              rw [show nI 0 = 0 from rfl, Int32.sub_zero]⟩
        dsimp only at r1 e2
        rw [if_pos g1] at r1
        subst r1
        refine ⟨_, hP'.move hM6 hm, ?_⟩
        exact e2
    · rw [if_pos rfl]
      refine ⟨c, hP', ?_⟩
      simp (maxSteps := 4000000) (disch := omega) only [f_L_walks_b97, in0, cl0, e0, leT, if_true, in19, cl19, p3, bit_e, hom, b2i_0, tfF, if_false]
end LW
