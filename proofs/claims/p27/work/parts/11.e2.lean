/-! what stands, stands -/
def CM (csize : Int32) (ckinds cplace cgas : A32) (cout cgone : Int32) (gas kind place : Nat → Nat) (outx : Int32) (M T : Nat) : Prop :=
  csize = nI M ∧ (∀ m, m < M → ckinds m = nI (kind m) ∧ cplace m = nI (place m)) ∧ (∀ k, k < 7 → cgas k = nI (gas k)) ∧ cout = outx ∧ cgone = nI T
theorem dI_sub (n : Nat) : nI n - 1 = dI n := by
  cases n with
  | zero => rfl
  | succ n => rw [nI_pred]; rfl
theorem hasG_e {G g : Nat} (hG : G ≤ 10) (hg : g < G) : f_X5_hasGallery (nI G) (nI g) = some 1 := by
  unfold f_X5_hasGallery
  simp (disch := omega) only [lt0F, leF, if_false]
theorem hasG_o {G g : Nat} (hG : G ≤ g) (hg : g < 1000) : f_X5_hasGallery (nI G) (nI g) = some 0 := by
  unfold f_X5_hasGallery
  simp (disch := omega) only [lt0F, leT, if_false, if_true]
theorem has_e {M m : Nat} (hM : M ≤ 6) (hm : m < M) : f_X1_has (nI M) (nI m) = some 1 := by
  unfold f_X1_has
  simp (disch := omega) only [lt0F, leF, if_false]
theorem has_o {M m : Nat} (hM : M ≤ m) (hm : m < 1000) : f_X1_has (nI M) (nI m) = some 0 := by
  unfold f_X1_has
  simp (disch := omega) only [lt0F, leT, if_false, if_true]
section STD
variable {d p a : A32} {cg cdoors cshafts : Int32} {cone ctwo clen cdr ci csm ch : A32} {cbr copen : Int32} {csize cout cgone : Int32} {ckinds cplace cgas : A32} {G : Nat} {one two len dr : Nat → Nat} {dor opn : Nat → Bool} {moon : Bool} {gas kind place : Nat → Nat} {outx : Int32} {M T : Nat}
theorem gal_e (hM : MA cg cdoors cshafts cone ctwo clen cdr G one two len dor dr) (hw : WF G one two len dr) (ho : ∀ g, g < G → bt copen g = opn g) {fl : Nat → Option Nat} (hci : ∀ g, g < G → ci g = hI (fl g)) {g : Nat} (hg : g < G) :
    f_X10_gallery cg cdoors cone ctwo clen ci copen (nI g) 0 = some (nI (one g)) ∧ f_X10_gallery cg cdoors cone ctwo clen ci copen (nI g) 1 = some (nI (two g)) ∧ f_X10_gallery cg cdoors cone ctwo clen ci copen (nI g) 2 = some (nI (len g)) ∧ f_X10_gallery cg cdoors cone ctwo clen ci copen (nI g) 3 = some (b2i (dor g)) ∧ f_X10_gallery cg cdoors cone ctwo clen ci copen (nI g) 4 = some (b2i (opn g)) ∧ f_X10_gallery cg cdoors cone ctwo clen ci copen (nI g) 5 = some (hI (fl g)) := by
  have hG := hw.1
  obtain ⟨m1, m2, m3, m4⟩ := hM.2.1 g hg
  have hh : f_X5_hasGallery cg (nI g) = some 1 := by rw [hM.1]; exact hasG_e hG.2 hg
  have h10 : g < 10 := by omega
  refine ⟨?_, ?_, ?_, ?_, ?_, ?_⟩ <;> unfold f_X10_gallery <;> rw [hh, bnd_e, if_neg (by decide)]
  · rw [if_pos rfl, get_e cone h10 (by decide), bnd_e, m1]
  · rw [if_neg (by decide), if_pos rfl, get_e ctwo h10 (by decide), bnd_e, m2]
  · rw [if_neg (by decide), if_neg (by decide), if_pos rfl, get_e clen h10 (by decide), bnd_e, m3]
  · rw [if_neg (by decide), if_neg (by decide), if_neg (by decide), if_pos rfl, fbit_e _ (by omega), bnd_e, m4]
  · rw [if_neg (by decide), if_neg (by decide), if_neg (by decide), if_neg (by decide), if_pos rfl, fbit_e _ (by omega), bnd_e, ho g hg]
  · rw [if_neg (by decide), if_neg (by decide), if_neg (by decide), if_neg (by decide), if_neg (by decide), if_pos rfl, get_e ci h10 (by decide), bnd_e, hci g hg]
theorem knot_e (hM : MA cg cdoors cshafts cone ctwo clen cdr G one two len dor dr) (hw : WF G one two len dr) (hA : AO cbr ch ci G one two opn moon dr) (hg : ∀ k, k < 7 → cgas k = nI (gas k)) {k : Nat} (hk : k < 7) :
    f_X10_knot cg cdr cbr ch cgas (nI k) 0 = some (dI (dr k)) ∧ f_X10_knot cg cdr cbr ch cgas (nI k) 1 = some (hI (hgt G one two opn moon dr k)) ∧ f_X10_knot cg cdr cbr ch cgas (nI k) 2 = some (b2i (dcd (brt G one two (flw G one two opn moon dr) k))) ∧ f_X10_knot cg cdr cbr ch cgas (nI k) 3 = some (nI (gas k)) := by
  have hG := hw.1
  have hh : f_X5_isRead cg = some 1 := by rw [hM.1]; exact isRead_e hG.1 hG.2
  have hb : bt cbr k = dcd (brt G one two (flw G one two opn moon dr) k) := bool_ext (by rw [hA.2.2 k (by omega), dcd_t])
  refine ⟨?_, ?_, ?_, ?_⟩ <;> unfold f_X10_knot <;> rw [hh, bnd_e, if_neg (by decide), isKnot_e hk, bnd_e, if_neg (by decide)]
  · rw [if_pos rfl, get_e cdr hk (by decide), bnd_e, hM.2.2.1 k hk]
  · rw [if_neg (by decide), if_pos rfl, get_e ch hk (by decide), bnd_e, hA.1 k hk]
  · rw [if_neg (by decide), if_neg (by decide), if_pos rfl, fbit_e _ (by omega), bnd_e, hb]
  · rw [if_neg (by decide), if_neg (by decide), if_neg (by decide), if_pos rfl, get_e cgas hk (by decide), bnd_e, hg k hk]
theorem about_e (hC : CM csize ckinds cplace cgas cout cgone gas kind place outx M T) (hW : WM gas kind place outx M T) {m : Nat} (hm : m < M) :
    f_X10_about csize ckinds cout cplace (nI m) 0 = some (nI (kind m)) ∧ f_X10_about csize ckinds cout cplace (nI m) 1 = some (nI (place m)) ∧ f_X10_about csize ckinds cout cplace (nI m) 2 = some (b2i (bt outx m)) ∧ f_X10_about csize ckinds cout cplace (nI m) 3 = some (nI (brs (kind m))) := by
  obtain ⟨c1, c2, c3, c4, c5⟩ := hC
  obtain ⟨hM6, hg9, hkp, hob, hT⟩ := hW
  obtain ⟨k1, k2⟩ := c2 m hm
  have hh : f_X1_has csize (nI m) = some 1 := by rw [c1]; exact has_e hM6 hm
  refine ⟨?_, ?_, ?_, ?_⟩ <;> unfold f_X10_about <;> rw [hh, bnd_e, if_neg (by decide)]
  · rw [if_pos rfl, get_e ckinds (by omega) (by decide), bnd_e, k1]
  · rw [if_neg (by decide), if_pos rfl, get_e cplace (by omega) (by decide), bnd_e, k2]
  · rw [if_neg (by decide), if_neg (by decide), if_pos rfl, fbit_e _ (by omega), bnd_e, c4]
  · rw [if_neg (by decide), if_neg (by decide), if_neg (by decide), if_pos rfl, bears_e hM6 (fun m hm => (c2 m hm).1) (fun m hm => (hkp m hm).1) hm, bnd_e]
theorem L_stands_e (mr dd pl : Int32) (hM : MA cg cdoors cshafts cone ctwo clen cdr G one two len dor dr) (hD : DA d G one two len dor opn moon dr) (hw : WF G one two len dr) (ho : ∀ g, g < G → bt copen g = opn g) (hA : AO cbr ch ci G one two opn moon dr)
    (hC : CM csize ckinds cplace cgas cout cgone gas kind place outx M T) (hP : PA p gas kind place outx M T) (hW : WM gas kind place outx M T) :
    f_L_stands 59 22 mr dd pl cg cdoors cshafts cone ctwo clen cdr cbr ch ci csize ckinds copen (b2i moon) cout cgone cgas cplace d p = some 1 := by
  have hG := hw.1
  obtain ⟨a, ea, ha⟩ := L_air_e hD hw
  have hfl : ∀ g x, g < G → flw G one two opn moon dr g = some x → x < 7 := fun g x hg h => flw_lt hw hg h
  obtain ⟨p1, p2, p3, p4, p5⟩ := hP
  have hM6 := hW.1
  have e0 := hD.1
  have e51 := hD.2.1
  unfold f_L_stands
  rw [ea, bnd_e]
  -- men and counts
  have part3 : f_L_stands_b217 59 22 mr dd pl cg cdoors cshafts csize ckinds (b2i moon) cout cgone cplace d p a FU 0 = some 1 := by
    refine lpP (fun fu (s : Unit) i => f_L_stands_b217 59 22 mr dd pl cg cdoors cshafts csize ckinds (b2i moon) cout cgone cplace d p a fu (nI i)) M (fun i s => True) (fun r => r = some 1) ?_ ?_ M 0 () FU (by omega) (FU_lt (by omega)) trivial
    · intro fu i s hi _
      refine Or.inl ⟨(), trivial, ?_⟩
      obtain ⟨a1, a2, a3, a4⟩ := about_e hC hW hi
      obtain ⟨b1, b2⟩ := p2 i hi
      have hb := L_bears_e (kd := kind i) (hW.2.2.1 i hi).1
      simp (disch := omega) only [f_L_stands_b217, in20, cl20, p4, leF, if_true, if_false, a1, a2, a3, a4, bnd_e, ad7, ad13, inT, cl_e, b1, b2, in19, cl19, p3, bit_e, hb, nam_e, nI_1]
    · intro fu s _
      have c3 : f_X10_count mr dd pl cg cdoors cshafts (nI M) (b2i moon) (nI T) 3 = some (nI M) := rfl
      have c4 : f_X10_count mr dd pl cg cdoors cshafts (nI M) (b2i moon) (nI T) 4 = some (b2i moon) := by cases moon <;> rfl
      have c5 : f_X10_count mr dd pl cg cdoors cshafts (nI M) (b2i moon) (nI T) 5 = some (nI T) := rfl
      simp (disch := omega) only [f_L_stands_b217, in20, cl20, p4, leT, if_true, hC.1, hC.2.2.2.2, c3, c4, c5, bnd_e, in51, cl51, e51, in21, cl21, p5]
  have part2 : f_L_stands_b125 59 22 mr dd pl cg cdoors cshafts cdr cbr ch csize ckinds (b2i moon) cout cgone cgas cplace d p a FU 0 = some 1 := by
    refine lpP (fun fu (s : Unit) i => f_L_stands_b125 59 22 mr dd pl cg cdoors cshafts cdr cbr ch csize ckinds (b2i moon) cout cgone cgas cplace d p a fu (nI i)) 7 (fun i s => True) (fun r => r = some 1) ?_ ?_ 7 0 () FU rfl (FU_lt (by decide)) trivial
    · intro fu i s hi _
      refine Or.inl ⟨(), trivial, ?_⟩
      obtain ⟨a1, a2, a3, a4⟩ := knot_e hM hw hA hC.2.2.1 hi
      have hh := L_height_e hD hw hi
      have hb := L_breathes_e hD hw hfl ha hi
      have hd := hD.2.2.2 i hi
      have one0 : ((1 : Int32) = 0) = False := eq_false (by decide)
      cases hbb : dcd (brt G one two (flw G one two opn moon dr) i)
      · rw [hbb] at a3 hb
        simp (disch := omega) only [f_L_stands_b125, f_L_stands_b189, le7F, if_false, a1, a2, a3, a4, bnd_e, ad52, inT, if_true, cl_e, hd, dI_sub, hh, hb, b2i_f, p1 i hi, nam_e, nI_1]
      · rw [hbb] at a3 hb
        simp (disch := omega) only [f_L_stands_b125, f_L_stands_b189, le7F, if_false, a1, a2, a3, a4, bnd_e, ad52, inT, if_true, cl_e, hd, dI_sub, hh, hb, b2i_t, one0, p1 i hi, nam_e, nI_1]
    · intro fu s _
      simp (disch := omega) only [f_L_stands_b125, le7T, if_true]
      exact part3
  refine lpP (fun fu (s : Unit) i => f_L_stands_b8 59 22 mr dd pl cg cdoors cshafts cone ctwo clen cdr cbr ch ci csize ckinds copen (b2i moon) cout cgone cgas cplace d p a fu (nI i)) G (fun i s => True) (fun r => r = some 1) ?_ ?_ G 0 () FU (by omega) (FU_lt (by omega)) trivial
  · intro fu i s hi _
    refine Or.inl ⟨(), trivial, ?_⟩
    obtain ⟨a1, a2, a3, a4, a5, a6⟩ := gal_e hM hw ho hA.2.1 hi
    obtain ⟨e1, e2, e3, e4, e5⟩ := hD.2.2.1 i hi
    have ec := ha.at hG.2 hi
    simp (disch := omega) only [f_L_stands_b8, in0, cl0, e0, leF, if_true, if_false, a1, a2, a3, a4, a5, a6, bnd_e, ad1, ad11, ad21, ad31, ad41, inT, cl_e, e1, e2, e3, e4, e5, ec, nam_e, nI_1]
  · intro fu s _
    try dsimp only
    rw [f_L_stands_b8, if_pos (show inB 0 59 by decide), if_pos (show d (Int32.toNatClampNeg 0) ≤ nI G by rw [cl0, e0]; exact nI_le (Nat.le_refl G) (by omega))]
    exact part2
end STD
