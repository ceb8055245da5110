/-! the law's smoke says true -/
theorem isRead_e {G : Nat} (h1 : 1 ≤ G) (h2 : G ≤ 10) : f_X5_isRead (nI G) = some 1 := by
  unfold f_X5_isRead
  rw [if_neg (nI_nle (by omega) (by omega))]
theorem isKnot_e {k : Nat} (h : k < 7) : f_X10_isKnot (nI k) = some 1 := by
  unfold f_X10_isKnot
  simp (disch := omega) only [lt0F, le7F, if_false]
theorem L_smoke_e {d : A32} {cg cdoors cshafts : Int32} {cone ctwo clen cdr ci csm ch : A32} {cbr : Int32} {G : Nat} {one two len dr : Nat → Nat} {dor opn : Nat → Bool} {moon : Bool}
    (hM : MA cg cdoors cshafts cone ctwo clen cdr G one two len dor dr) (hD : DA d G one two len dor opn moon dr) (hw : WF G one two len dr) (hA : AO cbr ch ci G one two opn moon dr) (hS : SO csm G one two len (flw G one two opn moon dr)) {fire : Nat} (hfi : fire < 7) :
    f_L_smoke 59 cg cshafts cone ctwo ci csm d (nI fire) = some 1 := by
  have hG := hw.1
  obtain ⟨a, ea, ha⟩ := L_air_e hD hw
  obtain ⟨F, hF, hT⟩ := hS
  have hci := hA.2.1
  have hfl : ∀ g x, g < G → flw G one two opn moon dr g = some x → one g = x ∨ two g = x := fun g x hg h => (flw_low hw hg h).1
  obtain ⟨w, hwk, e⟩ := sim_all hD hw hfl ha hfi (hF fire hfi) cg cshafts cone ctwo ci csm
  unfold f_L_smoke
  rw [ea, bnd_e, e]
  have one0 : ((1 : Int32) = 0) = False := eq_false (by decide)
  refine lpP (fun fu (s : Unit) i => f_L_smoke_b155 59 cg cshafts cone ctwo ci csm d a w (nI fire) fu (nI i)) 7 (fun i s => True) (fun r => r = some 1) ?_ ?_ 7 0 () FU rfl (FU_lt (by decide)) trivial
  · intro fu i s hi _
    refine Or.inl ⟨(), trivial, ?_⟩
    obtain ⟨r, v6, v7, w1, w2, w3⟩ := way_e (cl := csm) (w := w) hM hD hw ha hci (f_L_smoke_b155 59 cg cshafts cone ctwo ci csm d a w (nI fire) fu) (nI fire) (nI i) hi
    have esm : f_X10_smelt cg csm (nI fire) (nI i) = some (hI (F fire i)) := by
      unfold f_X10_smelt
      rw [hM.1, isRead_e hG.1 hG.2, bnd_e, if_neg (by decide), isKnot_e hfi, bnd_e, if_neg (by decide), isKnot_e hi, bnd_e, if_neg (by decide), btw_e hT hfi hi, bnd_e]
    have ewo : f_X10_wayOut cg cshafts cone ctwo ci (nI i) = some r := by
      unfold f_X10_wayOut
      rw [hM.1, isRead_e hG.1 hG.2, bnd_e, if_neg (by decide), isKnot_e hi, bnd_e, if_neg (by decide), ← hM.1, w1]
    have e1 : f_L_smoke_b155 59 cg cshafts cone ctwo ci csm d a w (nI fire) (fu + 1) (nI i) = f_L_smoke_b186 (f_L_smoke_b155 59 cg cshafts cone ctwo ci csm d a w (nI fire) fu) 59 cg cshafts cone ctwo ci csm d a w (nI fire) (nI i) FU (nI i) 0 := by
      simp (disch := omega) only [f_L_smoke_b155, le7F, if_false, esm, bnd_e, inT, if_true, cl_e, hwk i hi]
    try dsimp only
    rw [e1, w2]
    unfold f_L_smoke_b251
    rw [ewo, bnd_e]
    unfold f_L_smoke_b268
    by_cases q : (0 : Int32) ≤ v6
    · rw [if_pos q] at w3
      rw [if_pos q, if_pos w3.symm, nam_e, nI_1]
    · rw [if_neg q] at w3
      rw [if_neg q, if_pos w3.symm, nam_e, nI_1]
  · intro fu s _
    simp (disch := omega) only [f_L_smoke_b155, le7T, if_true]
