/-! a minute: the class's and the law's -/
def PA (p : A32) (gas kind place : Nat → Nat) (outx : Int32) (M T : Nat) : Prop :=
  (∀ k, k < 7 → p k = nI (gas k)) ∧ (∀ m, m < M → p (7 + m) = nI (kind m) ∧ p (13 + m) = nI (place m)) ∧ p 19 = outx ∧ p 20 = nI M ∧ p 21 = nI T
/-- men and gas are as they may be -/
def WM (gas kind place : Nat → Nat) (outx : Int32) (M T : Nat) : Prop :=
  M ≤ 6 ∧ (∀ k, k < 7 → gas k ≤ 9) ∧ (∀ m, m < M → kind m < 5 ∧ place m < 7) ∧ (∀ i, M ≤ i → i < 32 → bt outx i = false) ∧ T < 100000
def gas1 (br : Nat → Bool) (gas : Nat → Nat) (k : Nat) : Nat := if br k = true then 0 else if gas k + 1 < 9 then gas k + 1 else 9
def OutB (o o' : Int32) (gas kind place : Nat → Nat) (M : Nat) : Prop := ∀ i, i < 32 → bt o' i = (bt o i || (decide (i < M) && decide (brs (kind i) < gas (place i))))
theorem gas1_le {br : Nat → Bool} {gas : Nat → Nat} {k : Nat} : gas1 br gas k ≤ 9 := by
  unfold gas1
  split
  · omega
  · split <;> omega
theorem OutB.one {o o' o'' : Int32} {gas kind place : Nat → Nat} {M : Nat} (h : OutB o o' gas kind place M) (h' : OutB o o'' gas kind place M) : o' = o'' := b_ext (fun i hi => by rw [h i hi, h' i hi])
theorem brs_lt (k : Nat) : brs k ≤ 6 := by
  unfold brs
  split
  · omega
  · split
    · omega
    · split <;> omega
theorem bears_e {ck : A32} {kind : Nat → Nat} {M m : Nat} (hM : M ≤ 6) (hk : ∀ m, m < M → ck m = nI (kind m)) (h5 : ∀ m, m < M → kind m < 5) (hm : m < M) : f_X1_bears ck (nI m) = some (nI (brs (kind m))) := by
  unfold f_X1_bears
  rw [get_e ck (by omega) (by decide), bnd_e, hk m hm]
  have := h5 m hm
  rcases (show kind m = 0 ∨ kind m = 1 ∨ kind m = 2 ∨ kind m = 3 ∨ kind m = 4 by omega) with h | h | h | h | h <;> rw [h] <;> rfl
theorem pass_e {out br : Int32} {cgas cplace ckinds : A32} {gas kind place : Nat → Nat} {M T : Nat} {b : Nat → Bool} (hW : WM gas kind place out M T) (hg : ∀ k, k < 7 → cgas k = nI (gas k)) (hk : ∀ m, m < M → ckinds m = nI (kind m)) (hp : ∀ m, m < M → cplace m = nI (place m)) (hb : ∀ k, k < 7 → bt br k = b k) :
    ∃ out' cgas', f_X3_passMinute out (nI T) cgas cplace (nI M) ckinds br = some (out', nI (T + 1), cgas') ∧ (∀ k, k < 7 → cgas' k = nI (gas1 b gas k)) ∧ OutB out out' (gas1 b gas) kind place M := by
  obtain ⟨hM6, hg9, hkp, hob, hT⟩ := hW
  have one0 : ((1 : Int32) = 0) = False := eq_false (by decide)
  have zero1 : ((0 : Int32) = 1) = False := eq_false (by decide)
  obtain ⟨c1, ⟨h1, -⟩, e1⟩ := lp (fun fu (s : A32) i => f_X3_passMinute_b2 out (nI T) cplace (nI M) ckinds br fu s (nI i)) 7
    (fun i s => (∀ k, k < i → s k = nI (gas1 b gas k)) ∧ ∀ k, i ≤ k → k < 7 → s k = nI (gas k))
    (fun s => f_X3_passMinute_b64 (nI T) s cplace (nI M) ckinds FU out 0) (by
      rintro fu i s hi ⟨hs1, hs2⟩
      have hsi := hs2 i (Nat.le_refl _) hi
      have hg := hg9 i hi
      refine ⟨upd s i (nI (gas1 b gas i)), ⟨fun k hk => ?_, fun k hk hk7 => ?_⟩, ?_⟩
      · rw [upd_e]
        by_cases q : k = i
        · subst q; rw [if_pos rfl]
        · rw [if_neg q]; exact hs1 k (by omega)
      · rw [upd_e, if_neg (by omega)]
        exact hs2 k (by omega) hk7
      · cases hbi : b i
        · have hv : (if nI (gas i + 1) < 9 then nI (gas i + 1) else 9) = nI (gas1 b gas i) := by
            unfold gas1
            rw [hbi, k9, iteT (by omega) (by omega)]
            simp only [ftF, if_false]
            split <;> rfl
          simp (disch := omega) only [f_X3_passMinute_b2, f_X3_passMinute_b22, f_X3_passMinute_b53, le7F, if_false, fbit_e, hb i hi, hbi, bnd_e, b2i_f, zero1, if_true, get_e, hsi, hv, set_e, nam_e, nI_1]
        · have hv : (0 : Int32) = nI (gas1 b gas i) := by
            unfold gas1
            rw [hbi]
            rfl
          simp (disch := omega) only [f_X3_passMinute_b2, f_X3_passMinute_b22, f_X3_passMinute_b53, le7F, if_false, fbit_e, hb i hi, hbi, bnd_e, b2i_t, if_true, one0, set_e, nam_e, nI_1]
          rw [← hv]) (by
      intro fu s _
      simp (disch := omega) only [f_X3_passMinute_b2, le7T, if_true]) (i := 0) (k := 7) (fu := FU) (s := cgas) rfl (FU_lt (by decide)) ⟨fun k h => absurd h (Nat.not_lt_zero k), fun k _ hk => hg k hk⟩
  obtain ⟨out', h2, e2⟩ := lp (fun fu (s : Int32) i => f_X3_passMinute_b64 (nI T) c1 cplace (nI M) ckinds fu s (nI i)) M
    (fun i s => OutB out s (gas1 b gas) kind place i) (fun s => some (s, nI (T + 1), c1)) (by
      intro fu i s hi hs
      obtain ⟨q1, q2⟩ := hkp i hi
      have hb := bears_e hM6 hk (fun m hm => (hkp m hm).1) hi
      have hgl := gas1_le (br := b) (gas := gas) (k := place i)
      have hbl := brs_lt (kind i)
      have hc1 := h1 _ q2
      have hcp := hp i hi
      by_cases q : brs (kind i) < gas1 b gas (place i)
      · refine ⟨s ||| 1 <<< (nI i &&& 31), fun v hv => ?_, ?_⟩
        · rw [b_or, one_shl (by omega) hv, hs v hv]
          by_cases r : v = i
          · subst r
            simp [q]
          · by_cases r2 : v < i
            · have r3 : v < i + 1 := by omega
              simp [r, r2, r3]
            · have r3 : ¬ v < i + 1 := by omega
              simp [r, r2, r3]
        · simp (disch := omega) only [f_X3_passMinute_b64, f_X3_passMinute_b107, leF, if_false, get_e, bnd_e, hcp, hc1, hb, nam_e, nI_1]
      · refine ⟨s, fun v hv => ?_, ?_⟩
        · rw [hs v hv]
          by_cases r : v = i
          · subst r
            simp [q]
          · by_cases r2 : v < i
            · have r3 : v < i + 1 := by omega
              simp [r2, r3]
            · have r3 : ¬ v < i + 1 := by omega
              simp [r2, r3]
        · simp (disch := omega) only [f_X3_passMinute_b64, f_X3_passMinute_b107, leF, leT, if_false, if_true, get_e, bnd_e, hcp, hc1, hb, nam_e, nI_1]) (by
      intro fu s _
      simp (disch := omega) only [f_X3_passMinute_b64, leT, if_true, nam_e, nI_1]) (i := 0) (k := M) (fu := FU) (s := out) (by omega) (FU_lt (by omega)) (fun v hv => by simp)
  refine ⟨out', c1, ?_, h1, h2⟩
  unfold f_X3_passMinute
  rw [show f_X3_passMinute_b2 out (nI T) cplace (nI M) ckinds br FU cgas 0 = f_X3_passMinute_b2 out (nI T) cplace (nI M) ckinds br FU cgas (nI 0) from rfl, e1]
  exact e2
section LM
variable {d a p : A32} {G : Nat} {one two len dr : Nat → Nat} {dor opn : Nat → Bool} {moon : Bool} {fl : Nat → Option Nat} {gas kind place : Nat → Nat} {outx : Int32} {M T : Nat}
theorem L_minute_e (hD : DA d G one two len dor opn moon dr) (hw : WF G one two len dr) (hfl : ∀ g x, g < G → fl g = some x → x < 7) (ha : LA a G fl) (hP : PA p gas kind place outx M T) (hW : WM gas kind place outx M T) :
    ∃ n p' out', f_L_minute 59 10 22 d a p = some (nI n, p') ∧ PA p' (gas1 (fun k => dcd (brt G one two fl k)) gas) kind place out' M T ∧ OutB outx out' (gas1 (fun k => dcd (brt G one two fl k)) gas) kind place M ∧ fb_ct (bt outx) 6 + n = fb_ct (bt out') 6 := by
  obtain ⟨hM6, hg9, hkp, hob, hT⟩ := hW
  obtain ⟨p1, p2, p3, p4, p5⟩ := hP
  have zero1 : ((0 : Int32) = 1) = False := eq_false (by decide)
  let b : Nat → Bool := fun k => dcd (brt G one two fl k)
  obtain ⟨c1, ⟨h1, h2, h3⟩, e1⟩ := lp (fun fu (s : A32) i => f_L_minute_b2 59 10 22 d a fu s (nI i)) 7
    (fun i s => (∀ k, k < i → s k = nI (gas1 b gas k)) ∧ (∀ k, i ≤ k → k < 7 → s k = nI (gas k)) ∧ ∀ k, 7 ≤ k → s k = p k)
    (fun s => f_L_minute_b53 59 10 22 FU s 0 0) (by
      rintro fu i s hi ⟨hs1, hs2, hs3⟩
      have hsi := hs2 i (Nat.le_refl _) hi
      have hg := hg9 i hi
      have hbr := L_breathes_e hD hw hfl ha hi
      refine ⟨upd s i (nI (gas1 b gas i)), ⟨fun k hk => ?_, fun k hk hk7 => ?_, fun k hk => ?_⟩, ?_⟩
      · rw [upd_e]
        by_cases q : k = i
        · subst q; rw [if_pos rfl]
        · rw [if_neg q]; exact hs1 k (by omega)
      · rw [upd_e, if_neg (by omega)]
        exact hs2 k (by omega) hk7
      · rw [upd_e, if_neg (by omega)]
        exact hs3 k hk
      · cases hbi : b i
        · have hbi' : dcd (brt G one two fl i) = false := hbi
          have hv : nI (gas1 b gas i) = if 9 ≤ gas i then 9 else nI (gas i + 1) := by
            unfold gas1
            rw [hbi]
            simp only [ftF, tfF, if_false]
            by_cases q : 9 ≤ gas i
            · rw [if_pos q, if_neg (by omega)]; rfl
            · rw [if_neg q]
              by_cases q2 : gas i + 1 < 9
              · rw [if_pos q2]
              · rw [if_neg q2, show gas i + 1 = 9 by omega]
          rw [hv]
          by_cases q : 9 ≤ gas i
          · have q9 : ((9 : Int32) ≤ nI (gas i)) = True := leT (a := 9) q (by omega)
            simp (disch := omega) only [f_L_minute_b2, f_L_minute_b41, le7F, if_false, hbr, bnd_e, hbi', b2i_f, if_true, inT, cl_e, hsi, q9, nam_e, nI_1, q]
          · have q9 : ((9 : Int32) ≤ nI (gas i)) = False := leF (b := gas i) (a := 9) (by omega) (by decide)
            simp (disch := omega) only [f_L_minute_b2, f_L_minute_b41, le7F, if_false, hbr, bnd_e, hbi', b2i_f, if_true, inT, cl_e, hsi, q9, nam_e, nI_1, q]
        · have hbi' : dcd (brt G one two fl i) = true := hbi
          have one0 : ((1 : Int32) = 0) = False := eq_false (by decide)
          have hv : nI (gas1 b gas i) = 0 := by
            unfold gas1
            rw [hbi]
            rfl
          rw [hv]
          simp (disch := omega) only [f_L_minute_b2, f_L_minute_b41, le7F, if_false, hbr, bnd_e, hbi', b2i_t, one0, inT, if_true, cl_e, nam_e, nI_1]) (by
      intro fu s _
      simp (disch := omega) only [f_L_minute_b2, le7T, if_true]) (i := 0) (k := 7) (fu := FU) (s := p) rfl (FU_lt (by decide)) ⟨fun k h => absurd h (Nat.not_lt_zero k), fun k _ hk => p1 k hk, fun k _ => rfl⟩
  obtain ⟨⟨c2, n2⟩, ⟨g1, g2, o, g3, g4, n, g5, g6⟩, e2⟩ := lp (fun fu (s : A32 × Int32) i => f_L_minute_b53 59 10 22 fu s.1 s.2 (nI i)) M
    (fun i s => (∀ k, k < 7 → s.1 k = nI (gas1 b gas k)) ∧ (∀ k, 7 ≤ k → k ≠ 19 → s.1 k = p k) ∧ ∃ o, s.1 19 = o ∧ OutB outx o (gas1 b gas) kind place i ∧ ∃ n, s.2 = nI n ∧ fb_ct (bt outx) 6 + n = fb_ct (bt o) 6)
    (fun s => some (s.2, s.1)) (by
      rintro fu i ⟨c, n2⟩ hi ⟨g1, g2, o, g3, g4, n, g5, g6⟩
      try dsimp only at g1 g2 g3 g5
      subst g5
      obtain ⟨q1, q2⟩ := hkp i hi
      have hb := L_bears_e (kd := kind i) q1
      have hgl := gas1_le (br := b) (gas := gas) (k := place i)
      have hbl := brs_lt (kind i)
      have v20 : c 20 = nI M := by rw [g2 20 (by decide) (by decide), p4]
      have v7 : c (7 + i) = nI (kind i) := by rw [g2 _ (by omega) (by omega), (p2 i hi).1]
      have v13 : c (13 + i) = nI (place i) := by rw [g2 _ (by omega) (by omega), (p2 i hi).2]
      have vg := g1 _ q2
      have same : (bt o i = true ∨ ¬ brs (kind i) < gas1 b gas (place i)) → OutB outx o (gas1 b gas) kind place (i + 1) := by
        intro hh v hv
        rw [g4 v hv]
        by_cases r : v = i
        · subst r
          have := g4 v hv
          rcases hh with hh | hh
          · rw [hh] at this
            simp at this
            simp [this]
          · simp [hh]
        · by_cases r2 : v < i
          · have r3 : v < i + 1 := by omega
            simp [r2, r3]
          · have r3 : ¬ v < i + 1 := by omega
            simp [r2, r3]
      by_cases hbo : bt o i = true
      · refine ⟨(c, nI n), ⟨g1, g2, o, g3, same (Or.inl hbo), n, rfl, g6⟩, ?_⟩
        simp (disch := omega) only [f_L_minute_b53, f_L_minute_b114, in20, if_true, cl20, v20, leF, if_false, in19, cl19, g3, bit_e, hbo, b2i_1, nam_e, nI_1]
      · by_cases q : brs (kind i) < gas1 b gas (place i)
        · refine ⟨(upd c 19 (o ||| 1 <<< (nI i &&& 31)), nI (n + 1)), ⟨fun k hk => ?_, fun k hk hk19 => ?_, o ||| 1 <<< (nI i &&& 31), (by try dsimp only; exact upd_s _ _ _), fun v hv => ?_, n + 1, rfl, ?_⟩, ?_⟩
          · exact (upd_n c _ (by omega)).trans (g1 k hk)
          · exact (upd_n c _ hk19).trans (g2 k hk hk19)
          · rw [b_or, one_shl (by omega) hv, g4 v hv]
            by_cases r : v = i
            · subst r
              simp [q]
            · by_cases r2 : v < i
              · have r3 : v < i + 1 := by omega
                simp [r, r2, r3]
              · have r3 : ¬ v < i + 1 := by omega
                simp [r, r2, r3]
          · have hc : fb_ct (bt (o ||| 1 <<< (nI i &&& 31))) 6 = fb_ct (fun k => if k = i then true else bt o k) 6 := fb_ct_cong (fun k hk => by
              rw [b_or, one_shl (by omega) (by omega)]
              by_cases r : k = i
              · subst r; simp
              · simp [r])
            have hu := fb_ct_upd (bt o) true (i := i) (n := 6) (by omega)
            rw [if_neg hbo] at hu
            rw [hc]
            simp only [if_true] at hu
            omega
          · have hq : (nI (brs (kind i)) < nI (gas1 b gas (place i))) = True := ltT q (by omega)
            simp (disch := omega) only [f_L_minute_b53, f_L_minute_b114, in20, if_true, cl20, v20, leF, if_false, in19, cl19, g3, bit_e, hbo, b2i_1, ad13, ad7, inT, cl_e, v13, v7, hb, bnd_e, vg, hq, nam_e, nI_1, ftF, tfF]
        · refine ⟨(c, nI n), ⟨g1, g2, o, g3, same (Or.inr q), n, rfl, g6⟩, ?_⟩
          have hq : (nI (brs (kind i)) < nI (gas1 b gas (place i))) = False := ltF (by omega) (by omega)
          simp (disch := omega) only [f_L_minute_b53, f_L_minute_b114, in20, if_true, cl20, v20, leF, if_false, in19, cl19, g3, bit_e, hbo, b2i_1, ad13, ad7, inT, cl_e, v13, v7, hb, bnd_e, vg, hq, nam_e, nI_1, ftF, tfF]) (by
      rintro fu ⟨c, n2⟩ ⟨g1, g2, -⟩
      try dsimp only at g2
      have v20 : c 20 = nI M := by rw [g2 20 (by decide) (by decide), p4]
      simp (disch := omega) only [f_L_minute_b53, in20, if_true, cl20, v20, leT]) (i := 0) (k := M) (fu := FU) (s := (c1, 0)) (by omega) (FU_lt (by omega)) ⟨h1, fun k hk _ => h3 k hk, outx, (h3 19 (by decide)).trans p3, (fun v hv => by simp), 0, rfl, rfl⟩
  try dsimp only at g1 g2 g3 g5 e2
  subst g5
  refine ⟨n, c2, o, ?_, ⟨g1, fun m hm => ⟨?_, ?_⟩, g3, ?_, ?_⟩, g4, g6⟩
  · unfold f_L_minute
    rw [show f_L_minute_b2 59 10 22 d a FU p 0 = f_L_minute_b2 59 10 22 d a FU p (nI 0) from rfl, e1]
    exact e2
  · rw [g2 _ (by omega) (by omega)]; exact (p2 m hm).1
  · rw [g2 _ (by omega) (by omega)]; exact (p2 m hm).2
  · rw [g2 20 (by decide) (by decide)]; exact p4
  · rw [g2 21 (by decide) (by decide)]; exact p5
end LM
