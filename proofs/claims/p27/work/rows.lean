section
abbrev A32 : Type := Nat → Int32
abbrev inB (i : Int32) (n : Nat) : Prop := ¬ (i < 0 ∨ n ≤ i.toNatClampNeg)
def nam {α β : Type} (e : α) (k : α → β) : β := k e
def FU : Nat := 100000
end
section
def f_X8_set (n_me : Nat) (c_cells : A32) (v1 : Int32) (v2 : Int32) : Option (A32) := if v1 < 0 then some c_cells else if (nI n_me) ≤ v1 then some c_cells else if inB v1 n_me then some (upd c_cells (Int32.toNatClampNeg v1) v2) else none
def f_X10_bit (v0 : Int32) (v1 : Int32) : Option (Int32) := some ((v0 >>> (v1 &&& 31)) &&& 1)
def f_X8_get (n_me : Nat) (c_cells : A32) (v1 : Int32) : Option (Int32) := if v1 < 0 then some 0 else if (nI n_me) ≤ v1 then some 0 else if inB v1 n_me then some (c_cells v1.toNatClampNeg) else none
def f_X0_spread (c_nearest : A32) (v1 : Int32) (v2 : Int32) (v3 : Int32) : Option (Int32 × A32) := Option.bind (f_X10_bit v3 v1) fun z_1 => if z_1 = 0 then some (0, c_nearest) else Option.bind (f_X10_bit v3 v2) fun z_3 => if z_3 = 1 then some (0, c_nearest) else Option.bind (f_X8_get 7 c_nearest v2) fun z_5 => Option.bind (f_X8_get 7 c_nearest v1) fun z_6 => Option.bind (f_X8_set 7 c_nearest v2 (z_5 ||| z_6)) fun z_7 => some (1 <<< (v2 &&& 31), z_7)
def f_X0_findNearest_b126 (k38 : A32 → Int32 → Int32 → Option (A32)) (k51 : A32 → Int32 → Int32 → Option (A32)) (c_nearest : A32) (c_q1_galleries : Int32) (c_q1_one : A32) (c_q1_two : A32) (v2 : Int32) (v3 : Int32) (v4 : Int32) (v5 : Int32) (v6 : Int32) : Option (A32) := nam (v6 + 1) fun v6_1 => k51 c_nearest v5 v6_1
def f_X0_findNearest_b51 (k38 : A32 → Int32 → Int32 → Option (A32)) (c_q1_galleries : Int32) (c_q1_one : A32) (c_q1_two : A32) (v2 : Int32) (v3 : Int32) (v4 : Int32) : Nat → A32 → Int32 → Int32 → Option (A32)
  | 0, _, _, _ => none
  | fu + 1, c_nearest, v5, v6 => if c_q1_galleries ≤ v6 then if v5 = 0 then some c_nearest else nam (v3 ||| v5) fun v3_3 => nam (v4 + 1) fun v4_4 => k38 c_nearest v3_3 v4_4 else Option.bind (f_X10_bit v2 v6) fun z_5 => if z_5 = 1 then Option.bind (f_X8_get 10 c_q1_one v6) fun z_7 => Option.bind (f_X8_get 10 c_q1_two v6) fun z_8 => Option.bind (f_X0_spread c_nearest z_7 z_8 v3) fun z_9 => nam (v5 ||| z_9.1) fun v5_10 => Option.bind (f_X8_get 10 c_q1_two v6) fun z_11 => Option.bind (f_X8_get 10 c_q1_one v6) fun z_12 => Option.bind (f_X0_spread z_9.2 z_11 z_12 v3) fun z_13 => nam (v5_10 ||| z_13.1) fun v5_14 => f_X0_findNearest_b126 k38 (f_X0_findNearest_b51 k38 c_q1_galleries c_q1_one c_q1_two v2 v3 v4 fu) z_13.2 c_q1_galleries c_q1_one c_q1_two v2 v3 v4 v5_14 v6 else f_X0_findNearest_b126 k38 (f_X0_findNearest_b51 k38 c_q1_galleries c_q1_one c_q1_two v2 v3 v4 fu) c_nearest c_q1_galleries c_q1_one c_q1_two v2 v3 v4 v5 v6
def f_X0_findNearest_b38  (c_q1_galleries : Int32) (c_q1_one : A32) (c_q1_two : A32) (v2 : Int32) : Nat → A32 → Int32 → Int32 → Option (A32)
  | 0, _, _, _ => none
  | fu + 1, c_nearest, v3, v4 => if 7 ≤ v4 then some c_nearest else f_X0_findNearest_b51 (f_X0_findNearest_b38 c_q1_galleries c_q1_one c_q1_two v2 fu) c_q1_galleries c_q1_one c_q1_two v2 v3 v4 FU c_nearest 0 0
def f_X0_findNearest_b2  (c_q1_galleries : Int32) (c_q1_shafts : Int32) (c_q1_one : A32) (c_q1_two : A32) (v2 : Int32) : Nat → A32 → Int32 → Option (A32)
  | 0, _, _ => none
  | fu + 1, c_nearest, v3 => if 7 ≤ v3 then f_X0_findNearest_b38 c_q1_galleries c_q1_one c_q1_two v2 FU c_nearest c_q1_shafts 1 else Option.bind (f_X8_set 7 c_nearest v3 (c_q1_shafts &&& (1 <<< (v3 &&& 31)))) fun z_2 => nam (v3 + 1) fun v3_3 => (f_X0_findNearest_b2 c_q1_galleries c_q1_shafts c_q1_one c_q1_two v2 fu) z_2 v3_3
def f_X0_findNearest (c_nearest : A32) (c_q1_galleries : Int32) (c_q1_shafts : Int32) (c_q1_one : A32) (c_q1_two : A32) (v2 : Int32) : Option (A32) := f_X0_findNearest_b2 c_q1_galleries c_q1_shafts c_q1_one c_q1_two v2 FU c_nearest 0
def f_J6_bitCount_0f7a4 (v0 : Int32) : Option (Int32) := nam (v0 - ((UInt32.toInt32 (Int32.toUInt32 v0 >>> (Int32.toUInt32 1 &&& Int32.toUInt32 31))) &&& 1431655765)) fun v0_1 => nam ((v0_1 &&& 858993459) + ((UInt32.toInt32 (Int32.toUInt32 v0_1 >>> (Int32.toUInt32 2 &&& Int32.toUInt32 31))) &&& 858993459)) fun v0_2 => nam ((v0_2 + (UInt32.toInt32 (Int32.toUInt32 v0_2 >>> (Int32.toUInt32 4 &&& Int32.toUInt32 31)))) &&& 252645135) fun v0_3 => nam (v0_3 + (UInt32.toInt32 (Int32.toUInt32 v0_3 >>> (Int32.toUInt32 8 &&& Int32.toUInt32 31)))) fun v0_4 => nam (v0_4 + (UInt32.toInt32 (Int32.toUInt32 v0_4 >>> (Int32.toUInt32 16 &&& Int32.toUInt32 31)))) fun v0_5 => some (v0_5 &&& 63)
def f_X5_shaftHeight_b23  (t0 : Int32) (t1 : Int32) : Option (Int32) := some (t0 * t1)
def f_X5_shaftHeight (c_draught : A32) (v1 : Int32) (v2 : Int32) : Option (Int32) := Option.bind (f_X8_get 7 c_draught v1) fun z_1 => if v2 = 0 then f_X5_shaftHeight_b23 12 z_1 else f_X5_shaftHeight_b23 12 (9 - z_1)
def f_X0_heightOf_b46 (k17 : Int32 → Int32 → Option (Int32)) (c_q1_draught : A32) (v0 : Int32) (v2 : Int32) (v3 : Int32) (v4 : Int32) (v5 : Int32) : Option (Int32) := nam (v5 + 1) fun v5_1 => k17 v4 v5_1
def f_X0_heightOf_b17  (c_q1_draught : A32) (v0 : Int32) (v2 : Int32) (v3 : Int32) : Nat → Int32 → Int32 → Option (Int32)
  | 0, _, _ => none
  | fu + 1, v4, v5 => if 7 ≤ v5 then if v3 = 0 then none else some (v4 / v3) else Option.bind (f_X10_bit v0 v5) fun z_3 => if z_3 = 1 then Option.bind (f_X5_shaftHeight c_q1_draught v5 v2) fun z_5 => nam (v4 + z_5) fun v4_6 => f_X0_heightOf_b46 (f_X0_heightOf_b17 c_q1_draught v0 v2 v3 fu) c_q1_draught v0 v2 v3 v4_6 v5 else f_X0_heightOf_b46 (f_X0_heightOf_b17 c_q1_draught v0 v2 v3 fu) c_q1_draught v0 v2 v3 v4 v5
def f_X0_heightOf (c_q1_draught : A32) (v0 : Int32) (v2 : Int32) : Option (Int32) := Option.bind (f_J6_bitCount_0f7a4 v0) fun z_1 => if z_1 = 0 then some (-1) else f_X0_heightOf_b17 c_q1_draught v0 v2 z_1 FU 0 0
def f_X0_lower (c_height : A32) (v1 : Int32) (v2 : Int32) : Option (Int32) := Option.bind (f_X8_get 7 c_height v1) fun z_1 => Option.bind (f_X8_get 7 c_height v2) fun z_2 => if z_1 = z_2 then some (-1) else if z_1 = (-1) then some (-1) else if z_2 = (-1) then some (-1) else if z_2 ≤ z_1 then some v2 else some v1
def f_X0_findFlows_b92 (k7 : Int32 → A32 → Int32 → Option (Int32 × A32)) (c_breathing : Int32) (c_height : A32) (c_into : A32) (c_q1_galleries : Int32) (c_q1_one : A32) (c_q1_two : A32) (v2 : Int32) (v3 : Int32) : Option (Int32 × A32) := nam (v3 + 1) fun v3_1 => k7 c_breathing c_into v3_1
def f_X0_findFlows_b56 (k7 : Int32 → A32 → Int32 → Option (Int32 × A32)) (c_breathing : Int32) (c_height : A32) (c_into : A32) (c_q1_galleries : Int32) (c_q1_one : A32) (c_q1_two : A32) (t0 : Int32) (v2 : Int32) (v3 : Int32) (v4 : Int32) (v5 : Int32) : Option (Int32 × A32) := Option.bind (f_X8_set 10 c_into v3 t0) fun z_1 => if t0 = (-1) then f_X0_findFlows_b92 k7 c_breathing c_height z_1 c_q1_galleries c_q1_one c_q1_two v2 v3 else nam (c_breathing ||| ((1 <<< (v4 &&& 31)) ||| (1 <<< (v5 &&& 31)))) fun w_3 => f_X0_findFlows_b92 k7 w_3 c_height z_1 c_q1_galleries c_q1_one c_q1_two v2 v3
def f_X0_findFlows_b7  (c_height : A32) (c_q1_galleries : Int32) (c_q1_one : A32) (c_q1_two : A32) (v2 : Int32) : Nat → Int32 → A32 → Int32 → Option (Int32 × A32)
  | 0, _, _, _ => none
  | fu + 1, c_breathing, c_into, v3 => if c_q1_galleries ≤ v3 then some (c_breathing, c_into) else Option.bind (f_X8_get 10 c_q1_one v3) fun z_2 => Option.bind (f_X8_get 10 c_q1_two v3) fun z_3 => Option.bind (f_X10_bit v2 v3) fun z_4 => if z_4 = 1 then Option.bind (f_X0_lower c_height z_2 z_3) fun z_6 => f_X0_findFlows_b56 (f_X0_findFlows_b7 c_height c_q1_galleries c_q1_one c_q1_two v2 fu) c_breathing c_height c_into c_q1_galleries c_q1_one c_q1_two z_6 v2 v3 z_2 z_3 else f_X0_findFlows_b56 (f_X0_findFlows_b7 c_height c_q1_galleries c_q1_one c_q1_two v2 fu) c_breathing c_height c_into c_q1_galleries c_q1_one c_q1_two (-1) v2 v3 z_2 z_3
def f_X0_findFlows (c_breathing : Int32) (c_height : A32) (c_into : A32) (c_q1_galleries : Int32) (c_q1_one : A32) (c_q1_two : A32) (v2 : Int32) : Option (Int32 × A32) := f_X0_findFlows_b7 c_height c_q1_galleries c_q1_one c_q1_two v2 FU 0 c_into 0
def f_X0_blow_b9  (c_breathing : Int32) (c_into : A32) (c_nearest : A32) (c_q1_galleries : Int32) (c_q1_one : A32) (c_q1_two : A32) (c_q1_draught : A32) (v2 : Int32) (v3 : Int32) : Nat → A32 → Int32 → Option (Int32 × A32 × A32 × A32)
  | 0, _, _ => none
  | fu + 1, c_height, v4 => if 7 ≤ v4 then Option.bind (f_X0_findFlows c_breathing c_height c_into c_q1_galleries c_q1_one c_q1_two v2) fun z_2 => some (z_2.1, c_height, z_2.2, c_nearest) else Option.bind (f_X8_get 7 c_nearest v4) fun z_3 => Option.bind (f_X0_heightOf c_q1_draught z_3 v3) fun z_4 => Option.bind (f_X8_set 7 c_height v4 z_4) fun z_5 => nam (v4 + 1) fun v4_6 => (f_X0_blow_b9 c_breathing c_into c_nearest c_q1_galleries c_q1_one c_q1_two c_q1_draught v2 v3 fu) z_5 v4_6
def f_X0_blow (c_breathing : Int32) (c_height : A32) (c_into : A32) (c_nearest : A32) (c_q1_galleries : Int32) (c_q1_shafts : Int32) (c_q1_one : A32) (c_q1_two : A32) (c_q1_draught : A32) (v2 : Int32) (v3 : Int32) : Option (Int32 × A32 × A32 × A32) := Option.bind (f_X0_findNearest c_nearest c_q1_galleries c_q1_shafts c_q1_one c_q1_two v2) fun z_1 => f_X0_blow_b9 c_breathing c_into z_1 c_q1_galleries c_q1_one c_q1_two c_q1_draught v2 v3 FU c_height 0
def f_X0_firstInto_b2  (c_into : A32) (c_q1_galleries : Int32) (v2 : Int32) : Nat → Int32 → Option (Int32)
  | 0, _ => none
  | fu + 1, v3 => if c_q1_galleries ≤ v3 then some (-1) else Option.bind (f_X8_get 10 c_into v3) fun z_2 => if z_2 = v2 then some v3 else nam (v3 + 1) fun v3_4 => (f_X0_firstInto_b2 c_into c_q1_galleries v2 fu) v3_4
def f_X0_firstInto (c_into : A32) (c_q1_galleries : Int32) (v2 : Int32) : Option (Int32) := f_X0_firstInto_b2 c_into c_q1_galleries v2 FU 0
def f_X8_fill_b2  (n_me : Nat) (v1 : Int32) : Nat → A32 → Int32 → Option (A32)
  | 0, _, _ => none
  | fu + 1, c_cells, v2 => if (nI n_me) ≤ v2 then some c_cells else if inB v2 n_me then nam (v2 + 1) fun v2_2 => (f_X8_fill_b2 n_me v1 fu) (upd c_cells (Int32.toNatClampNeg v2) v1) v2_2 else none
def f_X8_fill (n_me : Nat) (c_cells : A32) (v1 : Int32) : Option (A32) := f_X8_fill_b2 n_me v1 FU c_cells 0
def f_X9_clear_b10   : Nat → A32 → Int32 → Option (A32)
  | 0, _, _ => none
  | fu + 1, c_lengths, v1 => if 7 ≤ v1 then some c_lengths else Option.bind (f_X8_set 49 c_lengths ((v1 * 7) + v1) 0) fun z_2 => nam (v1 + 1) fun v1_3 => (f_X9_clear_b10  fu) z_2 v1_3
def f_X9_clear (c_lengths : A32) : Option (A32) := Option.bind (f_X8_fill 49 c_lengths (-1)) fun z_1 => f_X9_clear_b10 FU z_1 0
def f_X5_otherEnd (c_one : A32) (c_two : A32) (v1 : Int32) (v2 : Int32) : Option (Int32) := Option.bind (f_X8_get 10 c_one v1) fun z_1 => if z_1 = v2 then Option.bind (f_X8_get 10 c_two v1) fun z_4 => some z_4 else Option.bind (f_X8_get 10 c_one v1) fun z_3 => some z_3
def f_X9_between (c_lengths : A32) (v1 : Int32) (v2 : Int32) : Option (Int32) := Option.bind (f_X8_get 49 c_lengths ((v1 * 7) + v2)) fun z_1 => some z_1
def f_X9_link_b20  (c_lengths : A32) (v1 : Int32) (v2 : Int32) (v3 : Int32) : Option (A32) := Option.bind (f_X8_set 49 c_lengths ((v1 * 7) + v2) v3) fun z_1 => some z_1
def f_X9_link (c_lengths : A32) (v1 : Int32) (v2 : Int32) (v3 : Int32) : Option (A32) := Option.bind (f_X9_between c_lengths v1 v2) fun z_1 => if z_1 = (-1) then f_X9_link_b20 c_lengths v1 v2 v3 else if z_1 ≤ v3 then some c_lengths else f_X9_link_b20 c_lengths v1 v2 v3
def f_X9_joinWays_b64 (k2 : A32 → Int32 → Option (A32)) (k10 : A32 → Int32 → Option (A32)) (k26 : A32 → Int32 → Option (A32)) (c_lengths : A32) (v1 : Int32) (v2 : Int32) (v3 : Int32) (v4 : Int32) : Option (A32) := nam (v4 + 1) fun v4_1 => k26 c_lengths v4_1
def f_X9_joinWays_b70 (k2 : A32 → Int32 → Option (A32)) (k10 : A32 → Int32 → Option (A32)) (c_lengths : A32) (v1 : Int32) (v2 : Int32) : Option (A32) := nam (v2 + 1) fun v2_1 => k10 c_lengths v2_1
def f_X9_joinWays_b26 (k2 : A32 → Int32 → Option (A32)) (k10 : A32 → Int32 → Option (A32)) (v1 : Int32) (v2 : Int32) (v3 : Int32) : Nat → A32 → Int32 → Option (A32)
  | 0, _, _ => none
  | fu + 1, c_lengths, v4 => if 7 ≤ v4 then f_X9_joinWays_b70 k2 k10 c_lengths v1 v2 else if v3 = (-1) then f_X9_joinWays_b70 k2 k10 c_lengths v1 v2 else Option.bind (f_X9_between c_lengths v1 v4) fun z_3 => if z_3 = (-1) then f_X9_joinWays_b64 k2 k10 (f_X9_joinWays_b26 k2 k10 v1 v2 v3 fu) c_lengths v1 v2 v3 v4 else Option.bind (f_X9_link c_lengths v2 v4 (v3 + z_3)) fun z_5 => f_X9_joinWays_b64 k2 k10 (f_X9_joinWays_b26 k2 k10 v1 v2 v3 fu) z_5 v1 v2 v3 v4
def f_X9_joinWays_b10 (k2 : A32 → Int32 → Option (A32)) (v1 : Int32) : Nat → A32 → Int32 → Option (A32)
  | 0, _, _ => none
  | fu + 1, c_lengths, v2 => if 7 ≤ v2 then nam (v1 + 1) fun v1_2 => k2 c_lengths v1_2 else Option.bind (f_X9_between c_lengths v2 v1) fun z_3 => f_X9_joinWays_b26 k2 (f_X9_joinWays_b10 k2 v1 fu) v1 v2 z_3 FU c_lengths 0
def f_X9_joinWays_b2   : Nat → A32 → Int32 → Option (A32)
  | 0, _, _ => none
  | fu + 1, c_lengths, v1 => if 7 ≤ v1 then some c_lengths else f_X9_joinWays_b10 (f_X9_joinWays_b2  fu) v1 FU c_lengths 0
def f_X9_joinWays (c_lengths : A32) : Option (A32) := f_X9_joinWays_b2 FU c_lengths 0
def f_X0_carrySmoke_b51 (k6 : A32 → Int32 → Option (A32)) (c_into : A32) (c_q1_galleries : Int32) (c_q1_one : A32) (c_q1_two : A32) (c_q1_length : A32) (c_q2_lengths : A32) (v3 : Int32) : Option (A32) := nam (v3 + 1) fun v3_1 => k6 c_q2_lengths v3_1
def f_X0_carrySmoke_b6  (c_into : A32) (c_q1_galleries : Int32) (c_q1_one : A32) (c_q1_two : A32) (c_q1_length : A32) : Nat → A32 → Int32 → Option (A32)
  | 0, _, _ => none
  | fu + 1, c_q2_lengths, v3 => if c_q1_galleries ≤ v3 then Option.bind (f_X9_joinWays c_q2_lengths) fun z_2 => some z_2 else Option.bind (f_X8_get 10 c_into v3) fun z_3 => if z_3 = (-1) then f_X0_carrySmoke_b51 (f_X0_carrySmoke_b6 c_into c_q1_galleries c_q1_one c_q1_two c_q1_length fu) c_into c_q1_galleries c_q1_one c_q1_two c_q1_length c_q2_lengths v3 else Option.bind (f_X5_otherEnd c_q1_one c_q1_two v3 z_3) fun z_5 => Option.bind (f_X8_get 10 c_q1_length v3) fun z_6 => Option.bind (f_X9_link c_q2_lengths z_5 z_3 z_6) fun z_7 => f_X0_carrySmoke_b51 (f_X0_carrySmoke_b6 c_into c_q1_galleries c_q1_one c_q1_two c_q1_length fu) c_into c_q1_galleries c_q1_one c_q1_two c_q1_length z_7 v3
def f_X0_carrySmoke (c_into : A32) (c_q1_galleries : Int32) (c_q1_one : A32) (c_q1_two : A32) (c_q1_length : A32) (c_q2_lengths : A32) : Option (A32) := Option.bind (f_X9_clear c_q2_lengths) fun z_1 => f_X0_carrySmoke_b6 c_into c_q1_galleries c_q1_one c_q1_two c_q1_length FU z_1 0
def f_X1_isKind (v0 : Int32) : Option (Int32) := if v0 < 0 then some 0 else if 4 < v0 then some 0 else some 1
def f_X1_has (c_size : Int32) (v1 : Int32) : Option (Int32) := if v1 < 0 then some 0 else if c_size ≤ v1 then some 0 else some 1
def f_X1_isOf_b28   : Option (Int32) := some 1
def f_X1_isOf (c_kinds : A32) (v1 : Int32) (v2 : Int32) : Option (Int32) := Option.bind (f_X8_get 6 c_kinds v1) fun z_1 => if v2 = 0 then f_X1_isOf_b28  else if v2 = z_1 then f_X1_isOf_b28  else if v2 = 1 then if z_1 = 4 then f_X1_isOf_b28  else some 0 else some 0
def f_X1_bears (c_kinds : A32) (v1 : Int32) : Option (Int32) := Option.bind (f_X8_get 6 c_kinds v1) fun z_1 => if z_1 = 2 then some 1 else if z_1 = 3 then some 2 else if z_1 = 4 then some 6 else some 4
def f_X2_draw (c_seed : Int32) (v1 : Int32) : Option (Int32 × Int32) := nam (Int64.toInt32 (((1103515245 * (Int32.toInt64 c_seed)) + 12345) - ((1103515245 * (Int32.toInt64 c_seed)) + 12345) / 2147483648 * 2147483648)) fun w_1 => if v1 ≤ 0 then some (0, w_1) else if v1 = 0 then none else some ((w_1 / 65536) - (w_1 / 65536) / v1 * v1, w_1)
def f_X3_begin (c_open : Int32) (c_moon : Int32) (c_out : Int32) (c_gone : Int32) (c_gas : A32) (v1 : Int32) : Option (Int32 × Int32 × Int32 × Int32 × A32) := Option.bind (f_X8_fill 7 c_gas 0) fun z_1 => some (v1, 0, 0, 0, z_1)
def f_X8_copyFrom_b2  (n_me : Nat) (n_q1 : Nat) (c_q1 : A32) : Nat → A32 → Int32 → Option (A32)
  | 0, _, _ => none
  | fu + 1, c_cells, v2 => if (nI n_me) ≤ v2 then some c_cells else Option.bind (f_X8_get n_q1 c_q1 v2) fun z_2 => if inB v2 n_me then nam (v2 + 1) fun v2_3 => (f_X8_copyFrom_b2 n_me n_q1 c_q1 fu) (upd c_cells (Int32.toNatClampNeg v2) z_2) v2_3 else none
def f_X8_copyFrom (n_me : Nat) (n_q1 : Nat) (c_cells : A32) (c_q1 : A32) : Option (A32) := f_X8_copyFrom_b2 n_me n_q1 c_q1 FU c_cells 0
def f_X3_copyFrom (c_open : Int32) (c_moon : Int32) (c_out : Int32) (c_gone : Int32) (c_gas : A32) (c_place : A32) (c_q1_open : Int32) (c_q1_moon : Int32) (c_q1_out : Int32) (c_q1_gone : Int32) (c_q1_gas : A32) (c_q1_place : A32) : Option (Int32 × Int32 × Int32 × Int32 × A32 × A32) := if c_q1_moon = 0 ∨ c_q1_moon = 1 then Option.bind (f_X8_copyFrom 7 7 c_gas c_q1_gas) fun z_2 => Option.bind (f_X8_copyFrom 6 6 c_place c_q1_place) fun z_3 => some (c_q1_open, c_q1_moon, c_q1_out, c_q1_gone, z_2, z_3) else none
def f_X3_passMinute_b53 (k2 : A32 → Int32 → Option (Int32 × Int32 × A32)) (c_out : Int32) (c_gone : Int32) (c_gas : A32) (c_place : A32) (c_q1_size : Int32) (c_q1_kinds : A32) (t1 : Int32) (t2 : Int32) (v2 : Int32) (v3 : Int32) : Option (Int32 × Int32 × A32) := Option.bind (f_X8_set 7 c_gas t1 t2) fun z_1 => nam (v3 + 1) fun v3_2 => k2 z_1 v3_2
def f_X3_passMinute_b22 (k2 : A32 → Int32 → Option (Int32 × Int32 × A32)) (c_out : Int32) (c_gone : Int32) (c_gas : A32) (c_place : A32) (c_q1_size : Int32) (c_q1_kinds : A32) (t0 : Int32) (v2 : Int32) (v3 : Int32) : Option (Int32 × Int32 × A32) := if t0 = 0 then Option.bind (f_X8_get 7 c_gas v3) fun z_2 => f_X3_passMinute_b53 k2 c_out c_gone c_gas c_place c_q1_size c_q1_kinds v3 (if (z_2 + 1) < 9 then z_2 + 1 else 9) v2 v3 else f_X3_passMinute_b53 k2 c_out c_gone c_gas c_place c_q1_size c_q1_kinds v3 0 v2 v3
def f_X3_passMinute_b107 (k64 : Int32 → Int32 → Option (Int32 × Int32 × A32)) (c_out : Int32) (c_gone : Int32) (c_gas : A32) (c_place : A32) (c_q1_size : Int32) (c_q1_kinds : A32) (v3 : Int32) : Option (Int32 × Int32 × A32) := nam (v3 + 1) fun v3_1 => k64 c_out v3_1
def f_X3_passMinute_b64  (c_gone : Int32) (c_gas : A32) (c_place : A32) (c_q1_size : Int32) (c_q1_kinds : A32) : Nat → Int32 → Int32 → Option (Int32 × Int32 × A32)
  | 0, _, _ => none
  | fu + 1, c_out, v3 => if c_q1_size ≤ v3 then nam (c_gone + 1) fun w_2 => some (c_out, w_2, c_gas) else Option.bind (f_X8_get 6 c_place v3) fun z_3 => Option.bind (f_X8_get 7 c_gas z_3) fun z_4 => Option.bind (f_X1_bears c_q1_kinds v3) fun z_5 => if z_4 ≤ z_5 then f_X3_passMinute_b107 (f_X3_passMinute_b64 c_gone c_gas c_place c_q1_size c_q1_kinds fu) c_out c_gone c_gas c_place c_q1_size c_q1_kinds v3 else nam (c_out ||| (1 <<< (v3 &&& 31))) fun w_7 => f_X3_passMinute_b107 (f_X3_passMinute_b64 c_gone c_gas c_place c_q1_size c_q1_kinds fu) w_7 c_gone c_gas c_place c_q1_size c_q1_kinds v3
def f_X3_passMinute_b2  (c_out : Int32) (c_gone : Int32) (c_place : A32) (c_q1_size : Int32) (c_q1_kinds : A32) (v2 : Int32) : Nat → A32 → Int32 → Option (Int32 × Int32 × A32)
  | 0, _, _ => none
  | fu + 1, c_gas, v3 => if 7 ≤ v3 then f_X3_passMinute_b64 c_gone c_gas c_place c_q1_size c_q1_kinds FU c_out 0 else Option.bind (f_X10_bit v2 v3) fun z_2 => if z_2 = 1 then f_X3_passMinute_b22 (f_X3_passMinute_b2 c_out c_gone c_place c_q1_size c_q1_kinds v2 fu) c_out c_gone c_gas c_place c_q1_size c_q1_kinds 1 v2 v3 else f_X3_passMinute_b22 (f_X3_passMinute_b2 c_out c_gone c_place c_q1_size c_q1_kinds v2 fu) c_out c_gone c_gas c_place c_q1_size c_q1_kinds 0 v2 v3
def f_X3_passMinute (c_out : Int32) (c_gone : Int32) (c_gas : A32) (c_place : A32) (c_q1_size : Int32) (c_q1_kinds : A32) (v2 : Int32) : Option (Int32 × Int32 × A32) := f_X3_passMinute_b2 c_out c_gone c_place c_q1_size c_q1_kinds v2 FU c_gas 0
def f_X4_byteOf (v0 : Int64) (v2 : Int32) : Option (Int32) := some (Int64.toInt32 ((UInt64.toInt64 (Int64.toUInt64 v0 >>> (Int64.toUInt64 (Int32.toInt64 (8 * v2)) &&& Int64.toUInt64 63))) &&& 255))
def f_X4_lettersIn_b44 (k4 : Int32 → Int32 → Option (Int32)) (v0 : Int64) (v2 : Int32) (v3 : Int32) : Option (Int32) := nam (v3 + 1) fun v3_1 => k4 v2 v3_1
def f_X4_lettersIn_b36 (k4 : Int32 → Int32 → Option (Int32)) (v0 : Int64) (v2 : Int32) (v3 : Int32) (v4 : Int32) : Option (Int32) := if v4 = 0 then f_X4_lettersIn_b44 k4 v0 v2 v3 else nam (v2 + 1) fun v2_2 => f_X4_lettersIn_b44 k4 v0 v2_2 v3
def f_X4_lettersIn_b4  (v0 : Int64) : Nat → Int32 → Int32 → Option (Int32)
  | 0, _, _ => none
  | fu + 1, v2, v3 => if 8 ≤ v3 then some v2 else Option.bind (f_X4_byteOf v0 v3) fun z_2 => if 126 < z_2 then some (-1) else if z_2 = 0 then f_X4_lettersIn_b36 (f_X4_lettersIn_b4 v0 fu) v0 v2 v3 z_2 else if v3 ≤ v2 then f_X4_lettersIn_b36 (f_X4_lettersIn_b4 v0 fu) v0 v2 v3 z_2 else some (-1)
def f_X4_lettersIn (v0 : Int64) : Option (Int32) := f_X4_lettersIn_b4 v0 FU 0 0
def f_X4_append_b3  (v1 : Int64) (v3 : Int32) : Nat → Int32 → A32 → Int32 → Option (Int32 × A32)
  | 0, _, _, _ => none
  | fu + 1, c_length, c_letters, v4 => if v3 ≤ v4 then some (c_length, c_letters) else Option.bind (f_X4_byteOf v1 v4) fun z_2 => Option.bind (f_X8_set 66 c_letters c_length z_2) fun z_3 => nam (c_length + 1) fun w_4 => nam (v4 + 1) fun v4_5 => (f_X4_append_b3 v1 v3 fu) w_4 z_3 v4_5
def f_X4_append (c_length : Int32) (c_letters : A32) (v1 : Int64) (v3 : Int32) : Option (Int32 × A32) := f_X4_append_b3 v1 v3 FU c_length c_letters 0
def f_X6_start (c_due : Int32) (c_galleries : Int32) (c_shafts : Int32) : Option (Int32 × Int32 × Int32) := some (0, 0, 0)
def f_X10_isKnot (v0 : Int32) : Option (Int32) := if v0 < 0 then some 0 else if 7 ≤ v0 then some 0 else some 1
def f_X6_takesShaft (c_due : Int32) (c_shafts : Int32) (v1 : Int32) : Option (Int32 × Int32 × Int32) := Option.bind (f_X10_isKnot v1) fun z_1 => if z_1 = 0 then some (0, c_due, c_shafts) else Option.bind (f_X10_bit c_shafts v1) fun z_3 => if z_3 = 1 then some (0, c_due, c_shafts) else nam (c_shafts ||| (1 <<< (v1 &&& 31))) fun w_5 => some (1, 6, w_5)
def f_X6_takesBreak_b36  (c_due : Int32) : Option (Int32 × Int32) := some (1, c_due)
def f_X6_takesBreak_b12  (c_due : Int32) (c_galleries : Int32) (t1 : Int32) (v1 : Int32) : Option (Int32 × Int32) := if v1 = 59 then f_X6_takesBreak_b36 t1 else if v1 = 44 then if 10 ≤ c_galleries then some (0, t1) else f_X6_takesBreak_b36 t1 else some (0, t1)
def f_X6_takesBreak (c_due : Int32) (c_galleries : Int32) (v1 : Int32) : Option (Int32 × Int32) := if v1 = 59 then f_X6_takesBreak_b12 c_due c_galleries 5 v1 else f_X6_takesBreak_b12 c_due c_galleries 0 v1
def f_X6_takes_b143  (c_due : Int32) (c_first : Int32) (c_galleries : Int32) (c_shafts : Int32) : Option (Int32 × Int32 × Int32 × Int32 × Int32) := some (1, c_due, c_first, c_galleries, c_shafts)
def f_X6_takes (c_due : Int32) (c_first : Int32) (c_galleries : Int32) (c_shafts : Int32) (v1 : Int32) : Option (Int32 × Int32 × Int32 × Int32 × Int32) := if c_due = 0 then Option.bind (f_X10_isKnot (v1 - 48)) fun z_2 => if z_2 = 0 ∨ z_2 = 1 then some (z_2, 1, v1, c_galleries, c_shafts) else none else if c_due = 1 then Option.bind (f_X10_isKnot (v1 - 48)) fun z_5 => if z_5 = 0 then some (0, 2, c_first, c_galleries, c_shafts) else if v1 = c_first then some (0, 2, c_first, c_galleries, c_shafts) else some (1, 2, c_first, c_galleries, c_shafts) else if c_due = 2 then nam (c_galleries + 1) fun w_9 => if v1 < 49 then some (0, 3, c_first, w_9, c_shafts) else if 57 < v1 then some (0, 3, c_first, w_9, c_shafts) else some (1, 3, c_first, w_9, c_shafts) else if c_due = 3 then if v1 = 100 then f_X6_takes_b143 4 c_first c_galleries c_shafts else Option.bind (f_X6_takesBreak 4 c_galleries v1) fun z_14 => if z_14.1 = 0 then some (0, z_14.2, c_first, c_galleries, c_shafts) else f_X6_takes_b143 z_14.2 c_first c_galleries c_shafts else if c_due = 4 then Option.bind (f_X6_takesBreak c_due c_galleries v1) fun z_17 => if z_17.1 = 0 ∨ z_17.1 = 1 then some (z_17.1, z_17.2, c_first, c_galleries, c_shafts) else none else if c_due = 5 then Option.bind (f_X6_takesShaft c_due c_shafts (v1 - 48)) fun z_20 => if z_20.1 = 0 ∨ z_20.1 = 1 then some (z_20.1, z_20.2.1, c_first, c_galleries, z_20.2.2) else none else if v1 < 48 then some (0, 5, c_first, c_galleries, c_shafts) else if 57 < v1 then some (0, 5, c_first, c_galleries, c_shafts) else some (1, 5, c_first, c_galleries, c_shafts)
def f_X4_firstFault_b9  (c_length : Int32) (c_letters : A32) : Nat → Int32 → Int32 → Int32 → Int32 → Int32 → Option (Int32 × Int32 × Int32 × Int32 × Int32)
  | 0, _, _, _, _, _ => none
  | fu + 1, c_reader_due, c_reader_first, c_reader_galleries, c_reader_shafts, v1 => if c_length ≤ v1 then some (c_length, c_reader_due, c_reader_first, c_reader_galleries, c_reader_shafts) else Option.bind (f_X8_get 66 c_letters v1) fun z_2 => Option.bind (f_X6_takes c_reader_due c_reader_first c_reader_galleries c_reader_shafts z_2) fun z_3 => if z_3.1 = 0 then some (v1, z_3.2.1, z_3.2.2.1, z_3.2.2.2.1, z_3.2.2.2.2) else nam (v1 + 1) fun v1_5 => (f_X4_firstFault_b9 c_length c_letters fu) z_3.2.1 z_3.2.2.1 z_3.2.2.2.1 z_3.2.2.2.2 v1_5
def f_X4_firstFault (c_length : Int32) (c_letters : A32) (c_reader_due : Int32) (c_reader_first : Int32) (c_reader_galleries : Int32) (c_reader_shafts : Int32) : Option (Int32 × Int32 × Int32 × Int32 × Int32) := Option.bind (f_X6_start c_reader_due c_reader_galleries c_reader_shafts) fun z_1 => f_X4_firstFault_b9 c_length c_letters FU z_1.1 c_reader_first z_1.2.1 z_1.2.2 0
def f_X6_mayEnd (c_due : Int32) (c_shafts : Int32) : Option (Int32) := if c_due = 5 then Option.bind (f_J6_bitCount_0f7a4 c_shafts) fun z_2 => if z_2 < 2 then some 0 else some 1 else some 0
def f_X4_isMine (c_length : Int32) (c_letters : A32) (c_reader_due : Int32) (c_reader_first : Int32) (c_reader_galleries : Int32) (c_reader_shafts : Int32) : Option (Int32 × Int32 × Int32 × Int32 × Int32) := Option.bind (f_X4_firstFault c_length c_letters c_reader_due c_reader_first c_reader_galleries c_reader_shafts) fun z_1 => if z_1.1 = c_length then Option.bind (f_X6_mayEnd z_1.2.1 z_1.2.2.2.2) fun z_3 => if z_3 = 0 then some (0, z_1.2.1, z_1.2.2.1, z_1.2.2.2.1, z_1.2.2.2.2) else some (1, z_1.2.1, z_1.2.2.1, z_1.2.2.2.1, z_1.2.2.2.2) else some (0, z_1.2.1, z_1.2.2.1, z_1.2.2.2.1, z_1.2.2.2.2)
def f_X4_digit (c_letters : A32) (v1 : Int32) : Option (Int32) := Option.bind (f_X8_get 66 c_letters v1) fun z_1 => some (z_1 - 48)
def f_X5_isRead (c_galleries : Int32) : Option (Int32) := if c_galleries ≤ 0 then some 0 else some 1
def f_X5_hasGallery (c_galleries : Int32) (v1 : Int32) : Option (Int32) := if v1 < 0 then some 0 else if c_galleries ≤ v1 then some 0 else some 1
def f_X5_isShaft (c_shafts : Int32) (v1 : Int32) : Option (Int32) := Option.bind (f_X10_bit c_shafts v1) fun z_1 => if z_1 = 1 then some 1 else some 0
def f_X5_allGalleries (c_galleries : Int32) : Option (Int32) := some ((1 <<< (c_galleries &&& 31)) - 1)
def f_X5_readShafts_b15  (c_q1_length : Int32) (c_q1_letters : A32) : Nat → Int32 → A32 → Int32 → Option (Int32 × A32)
  | 0, _, _, _ => none
  | fu + 1, c_shafts, c_draught, v3 => if c_q1_length ≤ (v3 + 1) then some (c_shafts, c_draught) else Option.bind (f_X4_digit c_q1_letters v3) fun z_2 => Option.bind (f_X4_digit c_q1_letters (v3 + 1)) fun z_3 => Option.bind (f_X8_set 7 c_draught z_2 z_3) fun z_4 => Option.bind (f_X4_digit c_q1_letters v3) fun z_5 => nam (c_shafts ||| (1 <<< (z_5 &&& 31))) fun w_6 => nam (v3 + 2) fun v3_7 => (f_X5_readShafts_b15 c_q1_length c_q1_letters fu) w_6 z_4 v3_7
def f_X5_readShafts (c_shafts : Int32) (c_draught : A32) (c_q1_length : Int32) (c_q1_letters : A32) (v2 : Int32) : Option (Int32 × A32) := Option.bind (f_X8_fill 7 c_draught (-1)) fun z_1 => f_X5_readShafts_b15 c_q1_length c_q1_letters FU 0 z_1 v2
def f_X5_readFrom_b123 (k14 : Int32 → Int32 → A32 → A32 → A32 → Int32 → Int32 → Option (Int32 × Int32 × Int32 × A32 × A32 × A32 × A32)) (c_galleries : Int32) (c_doors : Int32) (c_shafts : Int32) (c_one : A32) (c_two : A32) (c_length : A32) (c_draught : A32) (c_q1_length : Int32) (c_q1_letters : A32) (v2 : Int32) (v3 : Int32) : Option (Int32 × Int32 × Int32 × A32 × A32 × A32 × A32) := nam (v2 + 1) fun v2_1 => nam (v3 + 1) fun v3_2 => k14 c_galleries c_doors c_one c_two c_length v2_1 v3_2
def f_X5_readFrom_b39 (k14 : Int32 → Int32 → A32 → A32 → A32 → Int32 → Int32 → Option (Int32 × Int32 × Int32 × A32 × A32 × A32 × A32)) (c_galleries : Int32) (c_doors : Int32) (c_shafts : Int32) (c_one : A32) (c_two : A32) (c_length : A32) (c_draught : A32) (c_q1_length : Int32) (c_q1_letters : A32) (v2 : Int32) (v3 : Int32) : Option (Int32 × Int32 × Int32 × A32 × A32 × A32 × A32) := Option.bind (f_X4_digit c_q1_letters v2) fun z_1 => Option.bind (f_X8_set 10 c_one v3 z_1) fun z_2 => Option.bind (f_X4_digit c_q1_letters (v2 + 1)) fun z_3 => Option.bind (f_X8_set 10 c_two v3 z_3) fun z_4 => Option.bind (f_X4_digit c_q1_letters (v2 + 2)) fun z_5 => Option.bind (f_X8_set 10 c_length v3 z_5) fun z_6 => nam (c_galleries + 1) fun w_7 => nam (v2 + 3) fun v2_8 => Option.bind (f_X8_get 66 c_q1_letters v2_8) fun z_9 => if z_9 = 100 then nam (c_doors ||| (1 <<< (v3 &&& 31))) fun w_11 => nam (v2_8 + 1) fun v2_12 => f_X5_readFrom_b123 k14 w_7 w_11 c_shafts z_2 z_4 z_6 c_draught c_q1_length c_q1_letters v2_12 v3 else f_X5_readFrom_b123 k14 w_7 c_doors c_shafts z_2 z_4 z_6 c_draught c_q1_length c_q1_letters v2_8 v3
def f_X5_readFrom_b132  (c_galleries : Int32) (c_doors : Int32) (c_shafts : Int32) (c_one : A32) (c_two : A32) (c_length : A32) (c_draught : A32) (c_q1_length : Int32) (c_q1_letters : A32) (v2 : Int32) : Option (Int32 × Int32 × Int32 × A32 × A32 × A32 × A32) := Option.bind (f_X5_readShafts c_shafts c_draught c_q1_length c_q1_letters v2) fun z_1 => some (c_galleries, c_doors, z_1.1, c_one, c_two, c_length, z_1.2)
def f_X5_readFrom_b14  (c_shafts : Int32) (c_draught : A32) (c_q1_length : Int32) (c_q1_letters : A32) : Nat → Int32 → Int32 → A32 → A32 → A32 → Int32 → Int32 → Option (Int32 × Int32 × Int32 × A32 × A32 × A32 × A32)
  | 0, _, _, _, _, _, _, _ => none
  | fu + 1, c_galleries, c_doors, c_one, c_two, c_length, v2, v3 => if 10 ≤ v3 then f_X5_readFrom_b132 c_galleries c_doors c_shafts c_one c_two c_length c_draught c_q1_length c_q1_letters v2 else if v2 = 0 then f_X5_readFrom_b39 (f_X5_readFrom_b14 c_shafts c_draught c_q1_length c_q1_letters fu) c_galleries c_doors c_shafts c_one c_two c_length c_draught c_q1_length c_q1_letters v2 v3 else Option.bind (f_X8_get 66 c_q1_letters (v2 - 1)) fun z_3 => if z_3 = 44 then f_X5_readFrom_b39 (f_X5_readFrom_b14 c_shafts c_draught c_q1_length c_q1_letters fu) c_galleries c_doors c_shafts c_one c_two c_length c_draught c_q1_length c_q1_letters v2 v3 else f_X5_readFrom_b132 c_galleries c_doors c_shafts c_one c_two c_length c_draught c_q1_length c_q1_letters v2
def f_X5_readFrom (c_galleries : Int32) (c_doors : Int32) (c_shafts : Int32) (c_one : A32) (c_two : A32) (c_length : A32) (c_draught : A32) (c_q1_length : Int32) (c_q1_letters : A32) : Option (Int32 × Int32 × Int32 × A32 × A32 × A32 × A32) := f_X5_readFrom_b14 c_shafts c_draught c_q1_length c_q1_letters FU 0 0 c_one c_two c_length 0 0
def f_X5_isAt_b24   : Option (Int32) := some 1
def f_X5_isAt (c_one : A32) (c_two : A32) (v1 : Int32) (v2 : Int32) : Option (Int32) := Option.bind (f_X8_get 10 c_one v1) fun z_1 => if z_1 = v2 then f_X5_isAt_b24  else Option.bind (f_X8_get 10 c_two v1) fun z_3 => if z_3 = v2 then f_X5_isAt_b24  else some 0
def f_X5_galleriesAt_b33 (k5 : Int32 → Int32 → Option (Int32)) (c_galleries : Int32) (c_one : A32) (c_two : A32) (v1 : Int32) (v2 : Int32) (v3 : Int32) (v4 : Int32) : Option (Int32) := nam (v4 + 1) fun v4_1 => k5 v3 v4_1
def f_X5_galleriesAt_b5  (c_galleries : Int32) (c_one : A32) (c_two : A32) (v1 : Int32) (v2 : Int32) : Nat → Int32 → Int32 → Option (Int32)
  | 0, _, _ => none
  | fu + 1, v3, v4 => if c_galleries ≤ v4 then some v3 else Option.bind (f_X5_isAt c_one c_two v4 v1) fun z_2 => if z_2 = 0 then f_X5_galleriesAt_b33 (f_X5_galleriesAt_b5 c_galleries c_one c_two v1 v2 fu) c_galleries c_one c_two v1 v2 v3 v4 else nam (v3 ||| (v2 &&& (1 <<< (v4 &&& 31)))) fun v3_4 => f_X5_galleriesAt_b33 (f_X5_galleriesAt_b5 c_galleries c_one c_two v1 v2 fu) c_galleries c_one c_two v1 v2 v3_4 v4
def f_X5_galleriesAt (c_galleries : Int32) (c_one : A32) (c_two : A32) (v1 : Int32) (v2 : Int32) : Option (Int32) := f_X5_galleriesAt_b5 c_galleries c_one c_two v1 v2 FU 0 0
def f_X8_sum_b4  (n_me : Nat) (c_cells : A32) : Nat → Int32 → Int32 → Option (Int32)
  | 0, _, _ => none
  | fu + 1, v1, v2 => if (nI n_me) ≤ v2 then some v1 else if inB v2 n_me then nam (v1 + (c_cells v2.toNatClampNeg)) fun v1_2 => nam (v2 + 1) fun v2_3 => (f_X8_sum_b4 n_me c_cells fu) v1_2 v2_3 else none
def f_X8_sum (n_me : Nat) (c_cells : A32) : Option (Int32) := f_X8_sum_b4 n_me c_cells FU 0 0
def f_X10_letters (c_page_length : Int32) (c_page_letters : A32) (v1 : Int64) : Option (Int32 × Int32 × A32) := Option.bind (f_X4_lettersIn v1) fun z_1 => if z_1 = (-1) then some ((-102), c_page_length, c_page_letters) else if (c_page_length + z_1) ≤ 66 then Option.bind (f_X4_append c_page_length c_page_letters v1 z_1) fun z_4 => some (z_4.1, z_4.1, z_4.2) else some ((-104), c_page_length, c_page_letters)
def f_X10_fault (c_page_length : Int32) (c_page_letters : A32) (c_page_reader_due : Int32) (c_page_reader_first : Int32) (c_page_reader_galleries : Int32) (c_page_reader_shafts : Int32) : Option (Int32 × Int32 × Int32 × Int32 × Int32) := Option.bind (f_X4_firstFault c_page_length c_page_letters c_page_reader_due c_page_reader_first c_page_reader_galleries c_page_reader_shafts) fun z_1 => some (z_1.1, z_1.2.1, z_1.2.2.1, z_1.2.2.2.1, z_1.2.2.2.2)
def f_X10_windChanges (c_plan_galleries : Int32) (c_plan_shafts : Int32) (c_plan_one : A32) (c_plan_two : A32) (c_plan_length : A32) (c_plan_draught : A32) (c_air_breathing : Int32) (c_air_height : A32) (c_air_into : A32) (c_air_nearest : A32) (c_smoke_lengths : A32) (c_now_open : Int32) (c_now_moon : Int32) : Option (Int32 × A32 × A32 × A32 × A32) := Option.bind (f_X0_blow c_air_breathing c_air_height c_air_into c_air_nearest c_plan_galleries c_plan_shafts c_plan_one c_plan_two c_plan_draught c_now_open c_now_moon) fun z_1 => Option.bind (f_X0_carrySmoke z_1.2.2.1 c_plan_galleries c_plan_one c_plan_two c_plan_length c_smoke_lengths) fun z_2 => some (z_1.1, z_1.2.1, z_1.2.2.1, z_1.2.2.2, z_2)
def f_X10_mine (c_minesRead : Int32) (c_page_length : Int32) (c_page_letters : A32) (c_page_reader_due : Int32) (c_page_reader_first : Int32) (c_page_reader_galleries : Int32) (c_page_reader_shafts : Int32) (c_plan_galleries : Int32) (c_plan_doors : Int32) (c_plan_shafts : Int32) (c_plan_one : A32) (c_plan_two : A32) (c_plan_length : A32) (c_plan_draught : A32) (c_air_breathing : Int32) (c_air_height : A32) (c_air_into : A32) (c_air_nearest : A32) (c_smoke_lengths : A32) (c_crew_size : Int32) (c_now_open : Int32) (c_now_moon : Int32) (c_now_out : Int32) (c_now_gone : Int32) (c_now_gas : A32) : Option (Int32 × Int32 × Int32 × Int32 × Int32 × Int32 × Int32 × Int32 × Int32 × Int32 × A32 × A32 × A32 × A32 × Int32 × A32 × A32 × A32 × A32 × Int32 × Int32 × Int32 × Int32 × Int32 × A32) := Option.bind (f_X4_isMine c_page_length c_page_letters c_page_reader_due c_page_reader_first c_page_reader_galleries c_page_reader_shafts) fun z_1 => if z_1.1 = 0 then some ((-103), c_minesRead, c_page_length, z_1.2.1, z_1.2.2.1, z_1.2.2.2.1, z_1.2.2.2.2, c_plan_galleries, c_plan_doors, c_plan_shafts, c_plan_one, c_plan_two, c_plan_length, c_plan_draught, c_air_breathing, c_air_height, c_air_into, c_air_nearest, c_smoke_lengths, c_crew_size, c_now_open, c_now_moon, c_now_out, c_now_gone, c_now_gas) else Option.bind (f_X5_readFrom c_plan_galleries c_plan_doors c_plan_shafts c_plan_one c_plan_two c_plan_length c_plan_draught c_page_length c_page_letters) fun z_3 => Option.bind (f_X5_allGalleries z_3.1) fun z_4 => Option.bind (f_X3_begin c_now_open c_now_moon c_now_out c_now_gone c_now_gas z_4) fun z_5 => nam (c_minesRead + 1) fun w_6 => Option.bind (f_X10_windChanges z_3.1 z_3.2.2.1 z_3.2.2.2.1 z_3.2.2.2.2.1 z_3.2.2.2.2.2.1 z_3.2.2.2.2.2.2 c_air_breathing c_air_height c_air_into c_air_nearest c_smoke_lengths z_5.1 z_5.2.1) fun z_7 => some (z_3.1, w_6, 0, z_1.2.1, z_1.2.2.1, z_1.2.2.2.1, z_1.2.2.2.2, z_3.1, z_3.2.1, z_3.2.2.1, z_3.2.2.2.1, z_3.2.2.2.2.1, z_3.2.2.2.2.2.1, z_3.2.2.2.2.2.2, z_7.1, z_7.2.1, z_7.2.2.1, z_7.2.2.2.1, z_7.2.2.2.2, 0, z_5.1, z_5.2.1, z_5.2.2.1, z_5.2.2.2.1, z_5.2.2.2.2)
def f_X10_gallery (c_plan_galleries : Int32) (c_plan_doors : Int32) (c_plan_one : A32) (c_plan_two : A32) (c_plan_length : A32) (c_air_into : A32) (c_now_open : Int32) (v1 : Int32) (v2 : Int32) : Option (Int32) := Option.bind (f_X5_hasGallery c_plan_galleries v1) fun z_1 => if z_1 = 0 then some (-101) else if v2 = 0 then Option.bind (f_X8_get 10 c_plan_one v1) fun z_4 => some z_4 else if v2 = 1 then Option.bind (f_X8_get 10 c_plan_two v1) fun z_6 => some z_6 else if v2 = 2 then Option.bind (f_X8_get 10 c_plan_length v1) fun z_8 => some z_8 else if v2 = 3 then Option.bind (f_X10_bit c_plan_doors v1) fun z_10 => some z_10 else if v2 = 4 then Option.bind (f_X10_bit c_now_open v1) fun z_12 => some z_12 else if v2 = 5 then Option.bind (f_X8_get 10 c_air_into v1) fun z_14 => some z_14 else some (-102)
def f_X10_knot (c_plan_galleries : Int32) (c_plan_draught : A32) (c_air_breathing : Int32) (c_air_height : A32) (c_now_gas : A32) (v1 : Int32) (v2 : Int32) : Option (Int32) := Option.bind (f_X5_isRead c_plan_galleries) fun z_1 => if z_1 = 0 then some (-101) else Option.bind (f_X10_isKnot v1) fun z_3 => if z_3 = 0 then some (-101) else if v2 = 0 then Option.bind (f_X8_get 7 c_plan_draught v1) fun z_6 => some z_6 else if v2 = 1 then Option.bind (f_X8_get 7 c_air_height v1) fun z_8 => some z_8 else if v2 = 2 then Option.bind (f_X10_bit c_air_breathing v1) fun z_10 => some z_10 else if v2 = 3 then Option.bind (f_X8_get 7 c_now_gas v1) fun z_12 => some z_12 else some (-102)
def f_X10_door_b78  (c_plan_galleries : Int32) (c_plan_shafts : Int32) (c_plan_one : A32) (c_plan_two : A32) (c_plan_length : A32) (c_plan_draught : A32) (c_air_breathing : Int32) (c_air_height : A32) (c_air_into : A32) (c_air_nearest : A32) (c_smoke_lengths : A32) (c_now_open : Int32) (c_now_moon : Int32) (t1 : Int32) (v3 : Int32) : Option (Int32 × Int32 × A32 × A32 × A32 × A32 × Int32) := Option.bind (f_X10_windChanges c_plan_galleries c_plan_shafts c_plan_one c_plan_two c_plan_length c_plan_draught c_air_breathing c_air_height c_air_into c_air_nearest c_smoke_lengths t1 c_now_moon) fun z_1 => some (v3, z_1.1, z_1.2.1, z_1.2.2.1, z_1.2.2.2.1, z_1.2.2.2.2, t1)
def f_X10_door (c_plan_galleries : Int32) (c_plan_doors : Int32) (c_plan_shafts : Int32) (c_plan_one : A32) (c_plan_two : A32) (c_plan_length : A32) (c_plan_draught : A32) (c_air_breathing : Int32) (c_air_height : A32) (c_air_into : A32) (c_air_nearest : A32) (c_smoke_lengths : A32) (c_now_open : Int32) (c_now_moon : Int32) (v1 : Int32) (v2 : Int32) : Option (Int32 × Int32 × A32 × A32 × A32 × A32 × Int32) := Option.bind (f_X5_hasGallery c_plan_galleries v1) fun z_1 => if z_1 = 0 then some ((-101), c_air_breathing, c_air_height, c_air_into, c_air_nearest, c_smoke_lengths, c_now_open) else Option.bind (f_X10_bit c_plan_doors v1) fun z_3 => if z_3 = 0 then some ((-103), c_air_breathing, c_air_height, c_air_into, c_air_nearest, c_smoke_lengths, c_now_open) else Option.bind (f_X10_bit c_now_open v1) fun z_5 => if v2 = 0 then f_X10_door_b78 c_plan_galleries c_plan_shafts c_plan_one c_plan_two c_plan_length c_plan_draught c_air_breathing c_air_height c_air_into c_air_nearest c_smoke_lengths c_now_open c_now_moon (c_now_open &&& ((1 <<< (v1 &&& 31)) ^^^ (-1))) z_5 else f_X10_door_b78 c_plan_galleries c_plan_shafts c_plan_one c_plan_two c_plan_length c_plan_draught c_air_breathing c_air_height c_air_into c_air_nearest c_smoke_lengths c_now_open c_now_moon (c_now_open ||| (1 <<< (v1 &&& 31))) z_5
def f_X10_turn_b32  (c_plan_galleries : Int32) (c_plan_shafts : Int32) (c_plan_one : A32) (c_plan_two : A32) (c_plan_length : A32) (c_plan_draught : A32) (c_air_breathing : Int32) (c_air_height : A32) (c_air_into : A32) (c_air_nearest : A32) (c_smoke_lengths : A32) (c_now_open : Int32) (c_now_moon : Int32) (t1 : Int32) : Option (Int32 × Int32 × A32 × A32 × A32 × A32 × Int32) := if t1 = 0 ∨ t1 = 1 then Option.bind (f_X10_windChanges c_plan_galleries c_plan_shafts c_plan_one c_plan_two c_plan_length c_plan_draught c_air_breathing c_air_height c_air_into c_air_nearest c_smoke_lengths c_now_open t1) fun z_2 => if t1 = 0 then some (0, z_2.1, z_2.2.1, z_2.2.2.1, z_2.2.2.2.1, z_2.2.2.2.2, t1) else some (1, z_2.1, z_2.2.1, z_2.2.2.1, z_2.2.2.2.1, z_2.2.2.2.2, t1) else none
def f_X10_turn (c_plan_galleries : Int32) (c_plan_shafts : Int32) (c_plan_one : A32) (c_plan_two : A32) (c_plan_length : A32) (c_plan_draught : A32) (c_air_breathing : Int32) (c_air_height : A32) (c_air_into : A32) (c_air_nearest : A32) (c_smoke_lengths : A32) (c_now_open : Int32) (c_now_moon : Int32) : Option (Int32 × Int32 × A32 × A32 × A32 × A32 × Int32) := Option.bind (f_X5_isRead c_plan_galleries) fun z_1 => if z_1 = 0 then some ((-103), c_air_breathing, c_air_height, c_air_into, c_air_nearest, c_smoke_lengths, c_now_moon) else if c_now_moon = 0 then f_X10_turn_b32 c_plan_galleries c_plan_shafts c_plan_one c_plan_two c_plan_length c_plan_draught c_air_breathing c_air_height c_air_into c_air_nearest c_smoke_lengths c_now_open c_now_moon 1 else f_X10_turn_b32 c_plan_galleries c_plan_shafts c_plan_one c_plan_two c_plan_length c_plan_draught c_air_breathing c_air_height c_air_into c_air_nearest c_smoke_lengths c_now_open c_now_moon 0
def f_X10_man (c_plan_galleries : Int32) (c_crew_size : Int32) (c_crew_kinds : A32) (c_now_place : A32) (v1 : Int32) (v2 : Int32) : Option (Int32 × Int32 × A32 × A32) := Option.bind (f_X5_isRead c_plan_galleries) fun z_1 => if z_1 = 0 then some ((-103), c_crew_size, c_crew_kinds, c_now_place) else Option.bind (f_X1_isKind v1) fun z_3 => if z_3 = 0 then some ((-102), c_crew_size, c_crew_kinds, c_now_place) else Option.bind (f_X10_isKnot v2) fun z_5 => if z_5 = 0 then some ((-101), c_crew_size, c_crew_kinds, c_now_place) else if c_crew_size < 6 then Option.bind (f_X8_set 6 c_crew_kinds c_crew_size v1) fun z_8 => nam (c_crew_size + 1) fun w_9 => Option.bind (f_X8_set 6 c_now_place c_crew_size v2) fun z_10 => some (c_crew_size, w_9, z_8, z_10) else some ((-104), c_crew_size, c_crew_kinds, c_now_place)
def f_X10_about (c_crew_size : Int32) (c_crew_kinds : A32) (c_now_out : Int32) (c_now_place : A32) (v1 : Int32) (v2 : Int32) : Option (Int32) := Option.bind (f_X1_has c_crew_size v1) fun z_1 => if z_1 = 0 then some (-101) else if v2 = 0 then Option.bind (f_X8_get 6 c_crew_kinds v1) fun z_4 => some z_4 else if v2 = 1 then Option.bind (f_X8_get 6 c_now_place v1) fun z_6 => some z_6 else if v2 = 2 then Option.bind (f_X10_bit c_now_out v1) fun z_8 => some z_8 else if v2 = 3 then Option.bind (f_X1_bears c_crew_kinds v1) fun z_10 => some z_10 else some (-102)
def f_X10_as (c_crew_size : Int32) (c_crew_kinds : A32) (v1 : Int32) (v2 : Int32) : Option (Int32) := Option.bind (f_X1_has c_crew_size v1) fun z_1 => if z_1 = 0 then some (-101) else Option.bind (f_X1_isKind v2) fun z_3 => if z_3 = 0 then some (-102) else Option.bind (f_X1_isOf c_crew_kinds v1 v2) fun z_5 => if z_5 = 0 then some (-1) else some v1
def f_X10_walk_b68  (c_plan_one : A32) (c_plan_two : A32) (c_now_out : Int32) (c_now_place : A32) (t0 : Int32) (v1 : Int32) (v2 : Int32) (v3 : Int32) : Option (Int32 × A32) := Option.bind (f_X10_bit c_now_out v1) fun z_1 => if z_1 = 1 then some ((-103), c_now_place) else Option.bind (f_X5_isAt c_plan_one c_plan_two v2 v3) fun z_3 => if z_3 = 0 then some ((-103), c_now_place) else if t0 = 0 then Option.bind (f_X5_otherEnd c_plan_one c_plan_two v2 v3) fun z_6 => Option.bind (f_X8_set 6 c_now_place v1 z_6) fun z_7 => some (z_6, z_7) else some ((-103), c_now_place)
def f_X10_walk_b67  (c_plan_one : A32) (c_plan_two : A32) (c_now_out : Int32) (c_now_place : A32) (v1 : Int32) (v2 : Int32) (v3 : Int32) : Option (Int32 × A32) := f_X10_walk_b68 c_plan_one c_plan_two c_now_out c_now_place 0 v1 v2 v3
def f_X10_walk (c_plan_galleries : Int32) (c_plan_one : A32) (c_plan_two : A32) (c_crew_size : Int32) (c_crew_kinds : A32) (c_now_open : Int32) (c_now_out : Int32) (c_now_place : A32) (v1 : Int32) (v2 : Int32) : Option (Int32 × A32) := Option.bind (f_X1_has c_crew_size v1) fun z_1 => if z_1 = 0 then some ((-101), c_now_place) else Option.bind (f_X5_hasGallery c_plan_galleries v2) fun z_3 => if z_3 = 0 then some ((-101), c_now_place) else Option.bind (f_X8_get 6 c_now_place v1) fun z_5 => Option.bind (f_X10_bit c_now_open v2) fun z_6 => if z_6 = 0 then Option.bind (f_X1_isOf c_crew_kinds v1 3) fun z_8 => if z_8 = 0 then f_X10_walk_b68 c_plan_one c_plan_two c_now_out c_now_place 1 v1 v2 z_5 else f_X10_walk_b67 c_plan_one c_plan_two c_now_out c_now_place v1 v2 z_5 else f_X10_walk_b67 c_plan_one c_plan_two c_now_out c_now_place v1 v2 z_5
def f_X10_minutes_b40  (c_air_breathing : Int32) (c_crew_size : Int32) (c_crew_kinds : A32) (c_now_place : A32) (v1 : Int32) (v2 : Int32) : Nat → Int32 → Int32 → A32 → Int32 → Option (Int32 × Int32 × Int32 × A32)
  | 0, _, _, _, _ => none
  | fu + 1, c_now_out, c_now_gone, c_now_gas, v3 => if v1 ≤ v3 then Option.bind (f_J6_bitCount_0f7a4 c_now_out) fun z_2 => some (z_2 - v2, c_now_out, c_now_gone, c_now_gas) else Option.bind (f_X3_passMinute c_now_out c_now_gone c_now_gas c_now_place c_crew_size c_crew_kinds c_air_breathing) fun z_3 => nam (v3 + 1) fun v3_4 => (f_X10_minutes_b40 c_air_breathing c_crew_size c_crew_kinds c_now_place v1 v2 fu) z_3.1 z_3.2.1 z_3.2.2 v3_4
def f_X10_minutes (c_plan_galleries : Int32) (c_air_breathing : Int32) (c_crew_size : Int32) (c_crew_kinds : A32) (c_now_out : Int32) (c_now_gone : Int32) (c_now_gas : A32) (c_now_place : A32) (v1 : Int32) : Option (Int32 × Int32 × Int32 × A32) := if v1 < 1 then some ((-102), c_now_out, c_now_gone, c_now_gas) else if v1 ≤ 60 then Option.bind (f_X5_isRead c_plan_galleries) fun z_3 => if z_3 = 0 then some ((-103), c_now_out, c_now_gone, c_now_gas) else Option.bind (f_J6_bitCount_0f7a4 c_now_out) fun z_5 => f_X10_minutes_b40 c_air_breathing c_crew_size c_crew_kinds c_now_place v1 z_5 FU c_now_out c_now_gone c_now_gas 0 else some ((-102), c_now_out, c_now_gone, c_now_gas)
def f_X10_smelt (c_plan_galleries : Int32) (c_smoke_lengths : A32) (v1 : Int32) (v2 : Int32) : Option (Int32) := Option.bind (f_X5_isRead c_plan_galleries) fun z_1 => if z_1 = 0 then some (-103) else Option.bind (f_X10_isKnot v1) fun z_3 => if z_3 = 0 then some (-101) else Option.bind (f_X10_isKnot v2) fun z_5 => if z_5 = 0 then some (-101) else Option.bind (f_X9_between c_smoke_lengths v1 v2) fun z_7 => some z_7
def f_X10_wayOut_b27  (c_plan_galleries : Int32) (c_plan_shafts : Int32) (c_plan_one : A32) (c_plan_two : A32) (c_air_into : A32) : Nat → Int32 → Int32 → Option (Int32)
  | 0, _, _ => none
  | fu + 1, v2, v3 => if 7 ≤ v3 then some (-1) else Option.bind (f_X5_isShaft c_plan_shafts v2) fun z_2 => if z_2 = 0 then Option.bind (f_X0_firstInto c_air_into c_plan_galleries v2) fun z_4 => if z_4 = (-1) then some (-1) else Option.bind (f_X5_otherEnd c_plan_one c_plan_two z_4 v2) fun z_6 => nam (v3 + 1) fun v3_7 => (f_X10_wayOut_b27 c_plan_galleries c_plan_shafts c_plan_one c_plan_two c_air_into fu) z_6 v3_7 else some v3
def f_X10_wayOut (c_plan_galleries : Int32) (c_plan_shafts : Int32) (c_plan_one : A32) (c_plan_two : A32) (c_air_into : A32) (v1 : Int32) : Option (Int32) := Option.bind (f_X5_isRead c_plan_galleries) fun z_1 => if z_1 = 0 then some (-103) else Option.bind (f_X10_isKnot v1) fun z_3 => if z_3 = 0 then some (-101) else f_X10_wayOut_b27 c_plan_galleries c_plan_shafts c_plan_one c_plan_two c_air_into FU v1 0
def f_J6_numberOfTrailingZeros_0f7a4_b74  (v0 : Int32) (v1 : Int32) : Option (Int32) := some (v1 + (UInt32.toInt32 (Int32.toUInt32 v0 >>> (Int32.toUInt32 1 &&& Int32.toUInt32 31))))
def f_J6_numberOfTrailingZeros_0f7a4_b62  (v0 : Int32) (v1 : Int32) : Option (Int32) := if v0 ≤ 4 then f_J6_numberOfTrailingZeros_0f7a4_b74 v0 v1 else nam (v1 + 2) fun v1_2 => nam (UInt32.toInt32 (Int32.toUInt32 v0 >>> (Int32.toUInt32 2 &&& Int32.toUInt32 31))) fun v0_3 => f_J6_numberOfTrailingZeros_0f7a4_b74 v0_3 v1_2
def f_J6_numberOfTrailingZeros_0f7a4_b49  (v0 : Int32) (v1 : Int32) : Option (Int32) := if v0 ≤ 16 then f_J6_numberOfTrailingZeros_0f7a4_b62 v0 v1 else nam (v1 + 4) fun v1_2 => nam (UInt32.toInt32 (Int32.toUInt32 v0 >>> (Int32.toUInt32 4 &&& Int32.toUInt32 31))) fun v0_3 => f_J6_numberOfTrailingZeros_0f7a4_b62 v0_3 v1_2
def f_J6_numberOfTrailingZeros_0f7a4_b34  (v0 : Int32) (v1 : Int32) : Option (Int32) := if v0 ≤ 256 then f_J6_numberOfTrailingZeros_0f7a4_b49 v0 v1 else nam (v1 + 8) fun v1_2 => nam (UInt32.toInt32 (Int32.toUInt32 v0 >>> (Int32.toUInt32 8 &&& Int32.toUInt32 31))) fun v0_3 => f_J6_numberOfTrailingZeros_0f7a4_b49 v0_3 v1_2
def f_J6_numberOfTrailingZeros_0f7a4 (v0 : Int32) : Option (Int32) := nam ((v0 ^^^ (-1)) &&& (v0 - 1)) fun v0_1 => if 0 < v0_1 then if v0_1 ≤ 65536 then f_J6_numberOfTrailingZeros_0f7a4_b34 v0_1 1 else nam (1 + 16) fun v1_4 => nam (UInt32.toInt32 (Int32.toUInt32 v0_1 >>> (Int32.toUInt32 16 &&& Int32.toUInt32 31))) fun v0_5 => f_J6_numberOfTrailingZeros_0f7a4_b34 v0_5 v1_4 else some (v0_1 &&& 32)
def f_X10_placeOfBit_b4  (v1 : Int32) : Nat → Int32 → Int32 → Option (Int32)
  | 0, _, _ => none
  | fu + 1, v2, v3 => if v1 ≤ v3 then Option.bind (f_J6_numberOfTrailingZeros_0f7a4 v2) fun z_2 => some z_2 else nam (v2 &&& (v2 - 1)) fun v2_3 => nam (v3 + 1) fun v3_4 => (f_X10_placeOfBit_b4 v1 fu) v2_3 v3_4
def f_X10_placeOfBit (v0 : Int32) (v1 : Int32) : Option (Int32) := f_X10_placeOfBit_b4 v1 FU v0 0
def f_X10_dreamWalk (c_plan_galleries : Int32) (c_plan_one : A32) (c_plan_two : A32) (c_crew_size : Int32) (c_dream_open : Int32) (c_dream_out : Int32) (c_dream_place : A32) (c_draws_seed : Int32) : Option (A32 × Int32) := if c_crew_size = 0 then some (c_dream_place, c_draws_seed) else Option.bind (f_X2_draw c_draws_seed c_crew_size) fun z_2 => Option.bind (f_X10_bit c_dream_out z_2.1) fun z_3 => if z_3 = 1 then some (c_dream_place, z_2.2) else Option.bind (f_X8_get 6 c_dream_place z_2.1) fun z_5 => Option.bind (f_X5_galleriesAt c_plan_galleries c_plan_one c_plan_two z_5 c_dream_open) fun z_6 => if z_6 = 0 then some (c_dream_place, z_2.2) else Option.bind (f_J6_bitCount_0f7a4 z_6) fun z_8 => Option.bind (f_X2_draw z_2.2 z_8) fun z_9 => Option.bind (f_X10_placeOfBit z_6 z_9.1) fun z_10 => Option.bind (f_X5_otherEnd c_plan_one c_plan_two z_10 z_5) fun z_11 => Option.bind (f_X8_set 6 c_dream_place z_2.1 z_11) fun z_12 => some (z_12, z_9.2)
def f_X10_walks_b62  (c_plan_galleries : Int32) (c_plan_one : A32) (c_plan_two : A32) (c_air_breathing : Int32) (c_crew_size : Int32) (c_crew_kinds : A32) (c_dream_open : Int32) (c_dream_moon : Int32) (v1 : Int32) (v3 : Int32) : Nat → Int32 → Int32 → A32 → A32 → Int32 → Int32 → Option (Int32 × Int32 × Int32 × Int32 × Int32 × A32 × A32 × Int32)
  | 0, _, _, _, _, _, _ => none
  | fu + 1, c_dream_out, c_dream_gone, c_dream_gas, c_dream_place, c_draws_seed, v4 => if v1 ≤ v4 then if v3 = 0 then Option.bind (f_J6_bitCount_0f7a4 c_dream_out) fun z_3 => some (z_3, c_dream_open, c_dream_moon, c_dream_out, c_dream_gone, c_dream_gas, c_dream_place, c_draws_seed) else if v3 = 1 then Option.bind (f_X1_has c_crew_size 0) fun z_5 => if z_5 = 0 then some ((-1), c_dream_open, c_dream_moon, c_dream_out, c_dream_gone, c_dream_gas, c_dream_place, c_draws_seed) else Option.bind (f_X8_get 6 c_dream_place 0) fun z_7 => some (z_7, c_dream_open, c_dream_moon, c_dream_out, c_dream_gone, c_dream_gas, c_dream_place, c_draws_seed) else if v3 = 2 then Option.bind (f_X8_sum 7 c_dream_gas) fun z_9 => some (z_9, c_dream_open, c_dream_moon, c_dream_out, c_dream_gone, c_dream_gas, c_dream_place, c_draws_seed) else some (c_draws_seed, c_dream_open, c_dream_moon, c_dream_out, c_dream_gone, c_dream_gas, c_dream_place, c_draws_seed) else Option.bind (f_X10_dreamWalk c_plan_galleries c_plan_one c_plan_two c_crew_size c_dream_open c_dream_out c_dream_place c_draws_seed) fun z_10 => Option.bind (f_X3_passMinute c_dream_out c_dream_gone c_dream_gas z_10.1 c_crew_size c_crew_kinds c_air_breathing) fun z_11 => nam (v4 + 1) fun v4_12 => (f_X10_walks_b62 c_plan_galleries c_plan_one c_plan_two c_air_breathing c_crew_size c_crew_kinds c_dream_open c_dream_moon v1 v3 fu) z_11.1 z_11.2.1 z_11.2.2 z_10.1 z_10.2 v4_12
def f_X10_walks (c_plan_galleries : Int32) (c_plan_one : A32) (c_plan_two : A32) (c_air_breathing : Int32) (c_crew_size : Int32) (c_crew_kinds : A32) (c_now_open : Int32) (c_now_moon : Int32) (c_now_out : Int32) (c_now_gone : Int32) (c_now_gas : A32) (c_now_place : A32) (c_dream_open : Int32) (c_dream_moon : Int32) (c_dream_out : Int32) (c_dream_gone : Int32) (c_dream_gas : A32) (c_dream_place : A32) (c_draws_seed : Int32) (v1 : Int32) (v2 : Int32) (v3 : Int32) : Option (Int32 × Int32 × Int32 × Int32 × Int32 × A32 × A32 × Int32) := Option.bind (f_X5_isRead c_plan_galleries) fun z_1 => if z_1 = 0 then some ((-103), c_dream_open, c_dream_moon, c_dream_out, c_dream_gone, c_dream_gas, c_dream_place, c_draws_seed) else if v1 < 1 then some ((-102), c_dream_open, c_dream_moon, c_dream_out, c_dream_gone, c_dream_gas, c_dream_place, c_draws_seed) else if 60 < v1 then some ((-102), c_dream_open, c_dream_moon, c_dream_out, c_dream_gone, c_dream_gas, c_dream_place, c_draws_seed) else if v2 < 0 then some ((-102), c_dream_open, c_dream_moon, c_dream_out, c_dream_gone, c_dream_gas, c_dream_place, c_draws_seed) else if v3 < 0 then some ((-102), c_dream_open, c_dream_moon, c_dream_out, c_dream_gone, c_dream_gas, c_dream_place, c_draws_seed) else if v3 ≤ 3 then Option.bind (f_X3_copyFrom c_dream_open c_dream_moon c_dream_out c_dream_gone c_dream_gas c_dream_place c_now_open c_now_moon c_now_out c_now_gone c_now_gas c_now_place) fun z_8 => f_X10_walks_b62 c_plan_galleries c_plan_one c_plan_two c_air_breathing c_crew_size c_crew_kinds z_8.1 z_8.2.1 v1 v3 FU z_8.2.2.1 z_8.2.2.2.1 z_8.2.2.2.2.1 z_8.2.2.2.2.2 v2 0 else some ((-102), c_dream_open, c_dream_moon, c_dream_out, c_dream_gone, c_dream_gas, c_dream_place, c_draws_seed)
def f_X10_count (c_minesRead : Int32) (c_doorsDone : Int32) (c_page_length : Int32) (c_plan_galleries : Int32) (c_plan_doors : Int32) (c_plan_shafts : Int32) (c_crew_size : Int32) (c_now_moon : Int32) (c_now_gone : Int32) (v1 : Int32) : Option (Int32) := if v1 = 0 then some c_plan_galleries else if v1 = 1 then Option.bind (f_J6_bitCount_0f7a4 c_plan_doors) fun z_3 => some z_3 else if v1 = 2 then Option.bind (f_J6_bitCount_0f7a4 c_plan_shafts) fun z_5 => some z_5 else if v1 = 3 then some c_crew_size else if v1 = 4 then if c_now_moon = 0 then some 0 else some 1 else if v1 = 5 then some c_now_gone else if v1 = 6 then some c_page_length else if v1 = 7 then some c_minesRead else if v1 = 8 then some c_doorsDone else some (-102)
def f_L_cell (n_q0 : Nat) (c_q0 : A32) (v1 : Int32) : Option (Int32) := if (nI n_q0) ≤ v1 then some (747796405 * (v1 + 1)) else if inB v1 n_q0 then some (c_q0 (Int32.toNatClampNeg v1)) else none
def f_L_at (v0 : Int32) (v1 : Int32) : Option (Int32) := if v1 = 0 then none else some ((UInt32.toInt32 (Int32.toUInt32 v0 >>> (Int32.toUInt32 1 &&& Int32.toUInt32 31))) - (UInt32.toInt32 (Int32.toUInt32 v0 >>> (Int32.toUInt32 1 &&& Int32.toUInt32 31))) / v1 * v1)
def f_L_mineText_b245 (k41 : A32 → A32 → Int32 → Int32 → Option (Int32 × A32 × A32)) (n_q3 : Nat) (n_q4 : Nat) (n_q0 : Nat) (c_q0 : A32) (c_q3 : A32) (c_q4 : A32) (v1 : Int32) (v5 : Int32) (v6 : Int32) (v7 : Int32) (v8 : Int32) : Option (Int32 × A32 × A32) := nam (v8 + 1) fun v8_1 => k41 c_q3 c_q4 v6 v8_1
def f_L_mineText_b172 (k41 : A32 → A32 → Int32 → Int32 → Option (Int32 × A32 × A32)) (n_q3 : Nat) (n_q4 : Nat) (n_q0 : Nat) (c_q0 : A32) (c_q3 : A32) (c_q4 : A32) (v1 : Int32) (v5 : Int32) (v6 : Int32) (v7 : Int32) (v8 : Int32) : Option (Int32 × A32 × A32) := nam (v6 + 1) fun v6_1 => if inB (1 + v8) n_q3 then if inB v6 n_q4 then nam (v6_1 + 1) fun v6_2 => if inB (11 + v8) n_q3 then if inB v6_1 n_q4 then nam (v6_2 + 1) fun v6_3 => if inB (21 + v8) n_q3 then if inB v6_2 n_q4 then if inB (31 + v8) n_q3 then if (c_q3 (31 + v8).toNatClampNeg) ≤ 0 then f_L_mineText_b245 k41 n_q3 n_q4 n_q0 c_q0 c_q3 (upd (upd (upd c_q4 (Int32.toNatClampNeg v6) (48 + (c_q3 (1 + v8).toNatClampNeg))) (Int32.toNatClampNeg v6_1) (48 + (c_q3 (11 + v8).toNatClampNeg))) (Int32.toNatClampNeg v6_2) (48 + (c_q3 (21 + v8).toNatClampNeg))) v1 v5 v6_3 v7 v8 else nam (v6_3 + 1) fun v6_5 => if inB v6_3 n_q4 then f_L_mineText_b245 k41 n_q3 n_q4 n_q0 c_q0 c_q3 (upd (upd (upd (upd c_q4 (Int32.toNatClampNeg v6) (48 + (c_q3 (1 + v8).toNatClampNeg))) (Int32.toNatClampNeg v6_1) (48 + (c_q3 (11 + v8).toNatClampNeg))) (Int32.toNatClampNeg v6_2) (48 + (c_q3 (21 + v8).toNatClampNeg))) (Int32.toNatClampNeg v6_3) 100) v1 v5 v6_5 v7 v8 else none else none else none else none else none else none else none else none
def f_L_mineText_b342 (k318 : A32 → A32 → Int32 → Int32 → Option (Int32 × A32 × A32)) (n_q3 : Nat) (n_q4 : Nat) (n_q0 : Nat) (c_q0 : A32) (c_q3 : A32) (c_q4 : A32) (v1 : Int32) (v5 : Int32) (v6 : Int32) (v8 : Int32) (v9 : Int32) : Nat → Int32 → Option (Int32 × A32 × A32)
  | 0, _ => none
  | fu + 1, v10 => if inB (52 + v10) n_q3 then if (c_q3 (52 + v10).toNatClampNeg) ≤ 0 then Option.bind (f_L_cell n_q0 c_q0 (v1 + 6)) fun z_2 => Option.bind (f_L_at (z_2 >>> ((4 * v9) &&& 31)) 10) fun z_3 => if inB (52 + v10) n_q3 then nam (v6 + 1) fun v6_4 => if inB v6 n_q4 then nam (v6_4 + 1) fun v6_5 => if inB (52 + v10) n_q3 then if inB v6_4 n_q4 then nam (v9 + 1) fun v9_6 => k318 (upd c_q3 (Int32.toNatClampNeg (52 + v10)) (1 + z_3)) (upd (upd c_q4 (Int32.toNatClampNeg v6) (48 + v10)) (Int32.toNatClampNeg v6_4) (47 + ((upd c_q3 (Int32.toNatClampNeg (52 + v10)) (1 + z_3)) (52 + v10).toNatClampNeg))) v6_5 v9_6 else none else none else none else none else nam ((v10 + 1) - (v10 + 1) / 7 * 7) fun v10_7 => (f_L_mineText_b342 k318 n_q3 n_q4 n_q0 c_q0 c_q3 c_q4 v1 v5 v6 v8 v9 fu) v10_7 else none
def f_L_mineText_b318  (n_q3 : Nat) (n_q4 : Nat) (n_q0 : Nat) (c_q0 : A32) (v1 : Int32) (v5 : Int32) (v8 : Int32) : Nat → A32 → A32 → Int32 → Int32 → Option (Int32 × A32 × A32)
  | 0, _, _, _, _ => none
  | fu + 1, c_q3, c_q4, v6, v9 => if v8 ≤ v9 then some (v6, c_q3, c_q4) else Option.bind (f_L_at (v5 >>> ((13 + (2 * v9)) &&& 31)) 7) fun z_2 => f_L_mineText_b342 (f_L_mineText_b318 n_q3 n_q4 n_q0 c_q0 v1 v5 v8 fu) n_q3 n_q4 n_q0 c_q0 c_q3 c_q4 v1 v5 v6 v8 v9 FU z_2
def f_L_mineText_b294  (n_q3 : Nat) (n_q4 : Nat) (n_q0 : Nat) (c_q0 : A32) (c_q4 : A32) (v1 : Int32) (v5 : Int32) (v6 : Int32) (v8 : Int32) : Nat → A32 → Int32 → Option (Int32 × A32 × A32)
  | 0, _, _ => none
  | fu + 1, c_q3, v9 => if 7 ≤ v9 then f_L_mineText_b318 n_q3 n_q4 n_q0 c_q0 v1 v5 v8 FU c_q3 c_q4 v6 0 else if inB (52 + v9) n_q3 then nam (v9 + 1) fun v9_2 => (f_L_mineText_b294 n_q3 n_q4 n_q0 c_q0 c_q4 v1 v5 v6 v8 fu) (upd c_q3 (Int32.toNatClampNeg (52 + v9)) 0) v9_2 else none
def f_L_mineText_b285  (n_q3 : Nat) (n_q4 : Nat) (n_q0 : Nat) (c_q0 : A32) (c_q3 : A32) (c_q4 : A32) (t0 : Int32) (t1 : Int32) (t2 : Int32) (v1 : Int32) (v5 : Int32) (v6 : Int32) : Option (Int32 × A32 × A32) := Option.bind (f_L_at t1 t2) fun z_1 => nam (t0 + z_1) fun v8_2 => f_L_mineText_b294 n_q3 n_q4 n_q0 c_q0 c_q4 v1 v5 v6 v8_2 FU c_q3 0
def f_L_mineText_b41  (n_q3 : Nat) (n_q4 : Nat) (n_q0 : Nat) (c_q0 : A32) (v1 : Int32) (v5 : Int32) (v7 : Int32) : Nat → A32 → A32 → Int32 → Int32 → Option (Int32 × A32 × A32)
  | 0, _, _, _, _ => none
  | fu + 1, c_q3, c_q4, v6, v8 => if inB 0 n_q3 then if (c_q3 (Int32.toNatClampNeg 0)) ≤ v8 then nam (v6 + 1) fun v6_2 => if inB v6 n_q4 then Option.bind (f_L_at (v5 >>> (12 &&& 31)) 3) fun z_3 => if z_3 = 0 then f_L_mineText_b285 n_q3 n_q4 n_q0 c_q0 c_q3 (upd c_q4 (Int32.toNatClampNeg v6) 59) 2 (v5 >>> (7 &&& 31)) 6 v1 v5 v6_2 else f_L_mineText_b285 n_q3 n_q4 n_q0 c_q0 c_q3 (upd c_q4 (Int32.toNatClampNeg v6) 59) 2 (v5 >>> (7 &&& 31)) 2 v1 v5 v6_2 else none else Option.bind (f_L_cell n_q0 c_q0 ((v1 + 1) + (v8 - v8 / 5 * 5))) fun z_5 => nam (z_5 >>> ((12 * (v8 / 5)) &&& 31)) fun v9_6 => Option.bind (f_L_at v9_6 v7) fun z_7 => if inB (1 + v8) n_q3 then if inB (1 + v8) n_q3 then Option.bind (f_L_at (v9_6 >>> (3 &&& 31)) (v7 - 1)) fun z_8 => if v7 = 0 then none else if inB (11 + v8) n_q3 then Option.bind (f_L_at (v9_6 >>> (6 &&& 31)) 9) fun z_10 => if inB (21 + v8) n_q3 then Option.bind (f_L_at (v9_6 >>> (10 &&& 31)) 2) fun z_11 => if inB (31 + v8) n_q3 then if inB (41 + v8) n_q3 then if v8 ≤ 0 then f_L_mineText_b172 (f_L_mineText_b41 n_q3 n_q4 n_q0 c_q0 v1 v5 v7 fu) n_q3 n_q4 n_q0 c_q0 (upd (upd (upd (upd (upd c_q3 (Int32.toNatClampNeg (1 + v8)) z_7) (Int32.toNatClampNeg (11 + v8)) (((((upd c_q3 (Int32.toNatClampNeg (1 + v8)) z_7) (1 + v8).toNatClampNeg) + 1) + z_8) - ((((upd c_q3 (Int32.toNatClampNeg (1 + v8)) z_7) (1 + v8).toNatClampNeg) + 1) + z_8) / v7 * v7)) (Int32.toNatClampNeg (21 + v8)) (1 + z_10)) (Int32.toNatClampNeg (31 + v8)) z_11) (Int32.toNatClampNeg (41 + v8)) 1) c_q4 v1 v5 v6 v7 v8 else nam (v6 + 1) fun v6_13 => if inB v6 n_q4 then f_L_mineText_b172 (f_L_mineText_b41 n_q3 n_q4 n_q0 c_q0 v1 v5 v7 fu) n_q3 n_q4 n_q0 c_q0 (upd (upd (upd (upd (upd c_q3 (Int32.toNatClampNeg (1 + v8)) z_7) (Int32.toNatClampNeg (11 + v8)) (((((upd c_q3 (Int32.toNatClampNeg (1 + v8)) z_7) (1 + v8).toNatClampNeg) + 1) + z_8) - ((((upd c_q3 (Int32.toNatClampNeg (1 + v8)) z_7) (1 + v8).toNatClampNeg) + 1) + z_8) / v7 * v7)) (Int32.toNatClampNeg (21 + v8)) (1 + z_10)) (Int32.toNatClampNeg (31 + v8)) z_11) (Int32.toNatClampNeg (41 + v8)) 1) (upd c_q4 (Int32.toNatClampNeg v6) 44) v1 v5 v6_13 v7 v8 else none else none else none else none else none else none else none else none
def f_L_mineText (n_q3 : Nat) (n_q4 : Nat) (n_q0 : Nat) (c_q0 : A32) (c_q3 : A32) (c_q4 : A32) (v1 : Int32) (v2 : Int32) : Option (Int32 × A32 × A32) := Option.bind (f_L_cell n_q0 c_q0 v1) fun z_1 => Option.bind (f_L_at z_1 5) fun z_2 => nam (3 + z_2) fun v7_3 => Option.bind (f_L_at (z_1 >>> (3 &&& 31)) v2) fun z_4 => if inB 0 n_q3 then if inB 51 n_q3 then f_L_mineText_b41 n_q3 n_q4 n_q0 c_q0 v1 z_1 v7_3 FU (upd (upd c_q3 (Int32.toNatClampNeg 0) (1 + z_4)) (Int32.toNatClampNeg 51) 0) c_q4 0 0 else none else none
def f_L_write_b2  (n_q1 : Nat) (c_q1 : A32) (v2 : Int32) : Nat → Int32 → A32 → Int32 → Option (Int32 × Int32 × A32)
  | 0, _, _, _ => none
  | fu + 1, c_q0_page_length, c_q0_page_letters, v3 => if v2 ≤ v3 then some (1, c_q0_page_length, c_q0_page_letters) else if inB v3 n_q1 then Option.bind (f_X10_letters c_q0_page_length c_q0_page_letters (Int32.toInt64 (c_q1 v3.toNatClampNeg))) fun z_2 => if z_2.1 = (v3 + 1) then nam (v3 + 1) fun v3_4 => (f_L_write_b2 n_q1 c_q1 v2 fu) z_2.2.1 z_2.2.2 v3_4 else some (0, z_2.2.1, z_2.2.2) else none
def f_L_write (n_q1 : Nat) (c_q0_page_length : Int32) (c_q0_page_letters : A32) (c_q1 : A32) (v2 : Int32) : Option (Int32 × Int32 × A32) := f_L_write_b2 n_q1 c_q1 v2 FU c_q0_page_length c_q0_page_letters 0
def f_L_men_b22  (n_q4 : Nat) (n_q1 : Nat) (c_q1 : A32) (c_q0_plan_galleries : Int32) (v2 : Int32) (v5 : Int32) : Nat → Int32 → A32 → A32 → A32 → Int32 → Option (Int32 × Int32 × A32 × A32 × A32)
  | 0, _, _, _, _, _ => none
  | fu + 1, c_q0_crew_size, c_q0_crew_kinds, c_q0_now_place, c_q4, v6 => if v5 ≤ v6 then some (1, c_q0_crew_size, c_q0_crew_kinds, c_q0_now_place, c_q4) else Option.bind (f_L_cell n_q1 c_q1 v2) fun z_2 => Option.bind (f_L_at (z_2 >>> ((3 + (4 * v6)) &&& 31)) 5) fun z_3 => if inB (7 + v6) n_q4 then Option.bind (f_L_cell n_q1 c_q1 (v2 + 1)) fun z_4 => Option.bind (f_L_at (z_4 >>> ((4 * v6) &&& 31)) 7) fun z_5 => if inB (13 + v6) n_q4 then if inB (7 + v6) n_q4 then if inB (13 + v6) n_q4 then Option.bind (f_X10_man c_q0_plan_galleries c_q0_crew_size c_q0_crew_kinds c_q0_now_place ((upd (upd c_q4 (Int32.toNatClampNeg (7 + v6)) z_3) (Int32.toNatClampNeg (13 + v6)) z_5) (7 + v6).toNatClampNeg) ((upd (upd c_q4 (Int32.toNatClampNeg (7 + v6)) z_3) (Int32.toNatClampNeg (13 + v6)) z_5) (13 + v6).toNatClampNeg)) fun z_6 => if z_6.1 = v6 then if inB 20 n_q4 then if inB 20 n_q4 then nam (v6 + 1) fun v6_8 => (f_L_men_b22 n_q4 n_q1 c_q1 c_q0_plan_galleries v2 v5 fu) z_6.2.1 z_6.2.2.1 z_6.2.2.2 (upd (upd (upd c_q4 (Int32.toNatClampNeg (7 + v6)) z_3) (Int32.toNatClampNeg (13 + v6)) z_5) (Int32.toNatClampNeg 20) (((upd (upd c_q4 (Int32.toNatClampNeg (7 + v6)) z_3) (Int32.toNatClampNeg (13 + v6)) z_5) (Int32.toNatClampNeg 20)) + 1)) v6_8 else none else none else some (0, z_6.2.1, z_6.2.2.1, z_6.2.2.2, upd (upd c_q4 (Int32.toNatClampNeg (7 + v6)) z_3) (Int32.toNatClampNeg (13 + v6)) z_5) else none else none else none else none
def f_L_men (n_q4 : Nat) (n_q1 : Nat) (c_q1 : A32) (c_q0_plan_galleries : Int32) (c_q0_crew_size : Int32) (c_q0_crew_kinds : A32) (c_q0_now_place : A32) (c_q4 : A32) (v2 : Int32) (v3 : Int32) : Option (Int32 × Int32 × A32 × A32 × A32) := Option.bind (f_L_cell n_q1 c_q1 v2) fun z_1 => Option.bind (f_L_at z_1 (v3 + 1)) fun z_2 => if inB 20 n_q4 then f_L_men_b22 n_q4 n_q1 c_q1 c_q0_plan_galleries v2 z_2 FU c_q0_crew_size c_q0_crew_kinds c_q0_now_place (upd c_q4 (Int32.toNatClampNeg 20) 0) 0 else none
def f_L_shaft_b30  (n_q0 : Nat) (t0 : Int32) (t1 : Int32) : Option (Int32) := some (t0 * t1)
def f_L_shaft (n_q0 : Nat) (c_q0 : A32) (v1 : Int32) : Option (Int32) := if inB 51 n_q0 then if (c_q0 (Int32.toNatClampNeg 51)) = 1 then if inB (52 + v1) n_q0 then f_L_shaft_b30 n_q0 12 (10 - (c_q0 (52 + v1).toNatClampNeg)) else none else if inB (52 + v1) n_q0 then f_L_shaft_b30 n_q0 12 ((c_q0 (52 + v1).toNatClampNeg) - 1) else none else none
def f_L_height_b110 (k21 : Int32 → Int32 → Option (Int32)) (k33 : Int32 → Int32 → Option (Int32)) (n_q0 : Nat) (c_q0 : A32) (v2 : Int32) (v3 : Int32) (v4 : Int32) (v5 : Int32) : Option (Int32) := nam (v5 + 1) fun v5_1 => k33 v4 v5_1
def f_L_height_b82 (k21 : Int32 → Int32 → Option (Int32)) (k33 : Int32 → Int32 → Option (Int32)) (n_q0 : Nat) (c_q0 : A32) (v2 : Int32) (v3 : Int32) (v4 : Int32) (v5 : Int32) : Option (Int32) := if inB (11 + v5) n_q0 then if ((v2 >>> ((c_q0 (11 + v5).toNatClampNeg) &&& 31)) &&& 1) = 1 then if inB (1 + v5) n_q0 then nam (v4 ||| (1 <<< ((c_q0 (1 + v5).toNatClampNeg) &&& 31))) fun v4_2 => f_L_height_b110 k21 k33 n_q0 c_q0 v2 v3 v4_2 v5 else none else f_L_height_b110 k21 k33 n_q0 c_q0 v2 v3 v4 v5 else none
def f_L_height_b169 (k21 : Int32 → Int32 → Option (Int32)) (k125 : Int32 → Int32 → Int32 → Option (Int32)) (n_q0 : Nat) (c_q0 : A32) (v3 : Int32) (v4 : Int32) (v5 : Int32) (v6 : Int32) (v7 : Int32) : Option (Int32) := nam (v7 + 1) fun v7_1 => k125 v5 v6 v7_1
def f_L_height_b125 (k21 : Int32 → Int32 → Option (Int32)) (n_q0 : Nat) (c_q0 : A32) (v3 : Int32) (v4 : Int32) : Nat → Int32 → Int32 → Int32 → Option (Int32)
  | 0, _, _, _ => none
  | fu + 1, v5, v6, v7 => if 7 ≤ v7 then if v5 ≤ 0 then nam (v3 + 1) fun v3_3 => k21 v4 v3_3 else if v5 = 0 then none else some (v6 / v5) else if ((v4 >>> (v7 &&& 31)) &&& 1) = 0 then f_L_height_b169 k21 (f_L_height_b125 k21 n_q0 c_q0 v3 v4 fu) n_q0 c_q0 v3 v4 v5 v6 v7 else if inB (52 + v7) n_q0 then if (c_q0 (52 + v7).toNatClampNeg) = 0 then f_L_height_b169 k21 (f_L_height_b125 k21 n_q0 c_q0 v3 v4 fu) n_q0 c_q0 v3 v4 v5 v6 v7 else nam (v5 + 1) fun v5_7 => Option.bind (f_L_shaft n_q0 c_q0 v7) fun z_8 => nam (v6 + z_8) fun v6_9 => f_L_height_b169 k21 (f_L_height_b125 k21 n_q0 c_q0 v3 v4 fu) n_q0 c_q0 v3 v4 v5_7 v6_9 v7 else none
def f_L_height_b33 (k21 : Int32 → Int32 → Option (Int32)) (n_q0 : Nat) (c_q0 : A32) (v2 : Int32) (v3 : Int32) : Nat → Int32 → Int32 → Option (Int32)
  | 0, _, _ => none
  | fu + 1, v4, v5 => if inB 0 n_q0 then if (c_q0 (Int32.toNatClampNeg 0)) ≤ v5 then f_L_height_b125 k21 n_q0 c_q0 v3 v4 FU 0 0 0 else if inB (41 + v5) n_q0 then if (c_q0 (41 + v5).toNatClampNeg) = 0 then f_L_height_b110 k21 (f_L_height_b33 k21 n_q0 c_q0 v2 v3 fu) n_q0 c_q0 v2 v3 v4 v5 else if inB (1 + v5) n_q0 then if ((v2 >>> ((c_q0 (1 + v5).toNatClampNeg) &&& 31)) &&& 1) = 1 then if inB (11 + v5) n_q0 then nam (v4 ||| (1 <<< ((c_q0 (11 + v5).toNatClampNeg) &&& 31))) fun v4_4 => f_L_height_b82 k21 (f_L_height_b33 k21 n_q0 c_q0 v2 v3 fu) n_q0 c_q0 v2 v3 v4_4 v5 else none else f_L_height_b82 k21 (f_L_height_b33 k21 n_q0 c_q0 v2 v3 fu) n_q0 c_q0 v2 v3 v4 v5 else none else none else none
def f_L_height_b21  (n_q0 : Nat) (c_q0 : A32) : Nat → Int32 → Int32 → Option (Int32)
  | 0, _, _ => none
  | fu + 1, v2, v3 => if 7 ≤ v3 then some (-1) else f_L_height_b33 (f_L_height_b21 n_q0 c_q0 fu) n_q0 c_q0 v2 v3 FU v2 0
def f_L_height (n_q0 : Nat) (c_q0 : A32) (v1 : Int32) : Option (Int32) := if inB (52 + v1) n_q0 then if (c_q0 (52 + v1).toNatClampNeg) ≤ 0 then nam (1 <<< (v1 &&& 31)) fun v2_2 => f_L_height_b21 n_q0 c_q0 FU v2_2 0 else Option.bind (f_L_shaft n_q0 c_q0 v1) fun z_3 => some z_3 else none
def f_L_into_b45  (n_q0 : Nat) : Option (Int32) := some (-1)
def f_L_into (n_q0 : Nat) (c_q0 : A32) (v1 : Int32) : Option (Int32) := if inB (41 + v1) n_q0 then if (c_q0 (41 + v1).toNatClampNeg) = 0 then some (-1) else if inB (1 + v1) n_q0 then Option.bind (f_L_height n_q0 c_q0 (c_q0 (1 + v1).toNatClampNeg)) fun z_2 => if inB (11 + v1) n_q0 then Option.bind (f_L_height n_q0 c_q0 (c_q0 (11 + v1).toNatClampNeg)) fun z_3 => if z_2 < 0 then f_L_into_b45 n_q0 else if z_3 < 0 then f_L_into_b45 n_q0 else if z_2 = z_3 then f_L_into_b45 n_q0 else if z_3 ≤ z_2 then if inB (11 + v1) n_q0 then some (c_q0 (11 + v1).toNatClampNeg) else none else if inB (1 + v1) n_q0 then some (c_q0 (1 + v1).toNatClampNeg) else none else none else none else none
def f_L_other (n_q0 : Nat) (c_q0 : A32) (v1 : Int32) (v2 : Int32) : Option (Int32) := if inB (1 + v1) n_q0 then if (c_q0 (1 + v1).toNatClampNeg) = v2 then if inB (11 + v1) n_q0 then some (c_q0 (11 + v1).toNatClampNeg) else none else if inB (1 + v1) n_q0 then some (c_q0 (1 + v1).toNatClampNeg) else none else none
def f_L_air_b31 (k7 : A32 → Int32 → Option (A32)) (n_q0 : Nat) (c_q0 : A32) (c_n2 : A32) (t1 : Int32) (t2 : Int32) (v2 : Int32) : Option (A32) := if inB t1 10 then nam (v2 + 1) fun v2_1 => k7 (upd c_n2 (Int32.toNatClampNeg t1) t2) v2_1 else none
def f_L_air_b7  (n_q0 : Nat) (c_q0 : A32) : Nat → A32 → Int32 → Option (A32)
  | 0, _, _ => none
  | fu + 1, c_n2, v2 => if 10 ≤ v2 then some c_n2 else if inB 0 n_q0 then if (c_q0 (Int32.toNatClampNeg 0)) ≤ v2 then f_L_air_b31 (f_L_air_b7 n_q0 c_q0 fu) n_q0 c_q0 c_n2 v2 (-1) v2 else Option.bind (f_L_into n_q0 c_q0 v2) fun z_3 => f_L_air_b31 (f_L_air_b7 n_q0 c_q0 fu) n_q0 c_q0 c_n2 v2 z_3 v2 else none
def f_L_air (n_q0 : Nat) (c_q0 : A32) : Option (A32) := f_L_air_b7 n_q0 c_q0 FU (fun _ => 0) 0
def f_L_breathes_b36 (k2 : Int32 → Option (Int32)) (n_q0 : Nat) (n_q1 : Nat) (c_q0 : A32) (c_q1 : A32) (v2 : Int32) (v3 : Int32) : Option (Int32) := nam (v3 + 1) fun v3_1 => k2 v3_1
def f_L_breathes_b2  (n_q0 : Nat) (n_q1 : Nat) (c_q0 : A32) (c_q1 : A32) (v2 : Int32) : Nat → Int32 → Option (Int32)
  | 0, _ => none
  | fu + 1, v3 => if inB 0 n_q0 then if (c_q0 (Int32.toNatClampNeg 0)) ≤ v3 then some 0 else if inB v3 n_q1 then if (c_q1 v3.toNatClampNeg) < 0 then f_L_breathes_b36 (f_L_breathes_b2 n_q0 n_q1 c_q0 c_q1 v2 fu) n_q0 n_q1 c_q0 c_q1 v2 v3 else if inB (1 + v3) n_q0 then if (c_q0 (1 + v3).toNatClampNeg) = v2 then some 1 else if inB (11 + v3) n_q0 then if (c_q0 (11 + v3).toNatClampNeg) = v2 then some 1 else f_L_breathes_b36 (f_L_breathes_b2 n_q0 n_q1 c_q0 c_q1 v2 fu) n_q0 n_q1 c_q0 c_q1 v2 v3 else none else none else none else none
def f_L_breathes (n_q0 : Nat) (n_q1 : Nat) (c_q0 : A32) (c_q1 : A32) (v2 : Int32) : Option (Int32) := f_L_breathes_b2 n_q0 n_q1 c_q0 c_q1 v2 FU 0
def f_L_bears (v0 : Int32) : Option (Int32) := if v0 = 2 then some 1 else if v0 = 3 then some 2 else if v0 = 4 then some 6 else some 4
def f_L_minute_b41 (k2 : A32 → Int32 → Option (Int32 × A32)) (n_q0 : Nat) (n_q1 : Nat) (n_q2 : Nat) (c_q0 : A32) (c_q1 : A32) (c_q2 : A32) (t1 : Int32) (t2 : Int32) (v3 : Int32) : Option (Int32 × A32) := if inB t1 n_q2 then nam (v3 + 1) fun v3_1 => k2 (upd c_q2 (Int32.toNatClampNeg t1) t2) v3_1 else none
def f_L_minute_b114 (k53 : A32 → Int32 → Int32 → Option (Int32 × A32)) (n_q0 : Nat) (n_q1 : Nat) (n_q2 : Nat) (c_q2 : A32) (v3 : Int32) (v4 : Int32) : Option (Int32 × A32) := nam (v4 + 1) fun v4_1 => k53 c_q2 v3 v4_1
def f_L_minute_b53  (n_q0 : Nat) (n_q1 : Nat) (n_q2 : Nat) : Nat → A32 → Int32 → Int32 → Option (Int32 × A32)
  | 0, _, _, _ => none
  | fu + 1, c_q2, v3, v4 => if inB 20 n_q2 then if (c_q2 (Int32.toNatClampNeg 20)) ≤ v4 then some (v3, c_q2) else if inB 19 n_q2 then if (((c_q2 (Int32.toNatClampNeg 19)) >>> (v4 &&& 31)) &&& 1) = 1 then f_L_minute_b114 (f_L_minute_b53 n_q0 n_q1 n_q2 fu) n_q0 n_q1 n_q2 c_q2 v3 v4 else if inB (13 + v4) n_q2 then if inB (c_q2 (13 + v4).toNatClampNeg) n_q2 then if inB (7 + v4) n_q2 then Option.bind (f_L_bears (c_q2 (7 + v4).toNatClampNeg)) fun z_3 => if z_3 < (c_q2 (c_q2 (13 + v4).toNatClampNeg).toNatClampNeg) then if inB 19 n_q2 then if inB 19 n_q2 then nam (v3 + 1) fun v3_5 => f_L_minute_b114 (f_L_minute_b53 n_q0 n_q1 n_q2 fu) n_q0 n_q1 n_q2 (upd c_q2 (Int32.toNatClampNeg 19) ((c_q2 (Int32.toNatClampNeg 19)) ||| (1 <<< (v4 &&& 31)))) v3_5 v4 else none else none else f_L_minute_b114 (f_L_minute_b53 n_q0 n_q1 n_q2 fu) n_q0 n_q1 n_q2 c_q2 v3 v4 else none else none else none else none else none
def f_L_minute_b2  (n_q0 : Nat) (n_q1 : Nat) (n_q2 : Nat) (c_q0 : A32) (c_q1 : A32) : Nat → A32 → Int32 → Option (Int32 × A32)
  | 0, _, _ => none
  | fu + 1, c_q2, v3 => if 7 ≤ v3 then f_L_minute_b53 n_q0 n_q1 n_q2 FU c_q2 0 0 else Option.bind (f_L_breathes n_q0 n_q1 c_q0 c_q1 v3) fun z_2 => if z_2 = 0 then if inB v3 n_q2 then if 9 ≤ (c_q2 v3.toNatClampNeg) then f_L_minute_b41 (f_L_minute_b2 n_q0 n_q1 n_q2 c_q0 c_q1 fu) n_q0 n_q1 n_q2 c_q0 c_q1 c_q2 v3 9 v3 else if inB v3 n_q2 then f_L_minute_b41 (f_L_minute_b2 n_q0 n_q1 n_q2 c_q0 c_q1 fu) n_q0 n_q1 n_q2 c_q0 c_q1 c_q2 v3 ((c_q2 v3.toNatClampNeg) + 1) v3 else none else none else f_L_minute_b41 (f_L_minute_b2 n_q0 n_q1 n_q2 c_q0 c_q1 fu) n_q0 n_q1 n_q2 c_q0 c_q1 c_q2 v3 0 v3
def f_L_minute (n_q0 : Nat) (n_q1 : Nat) (n_q2 : Nat) (c_q0 : A32) (c_q1 : A32) (c_q2 : A32) : Option (Int32 × A32) := f_L_minute_b2 n_q0 n_q1 n_q2 c_q0 c_q1 FU c_q2 0
def f_L_stands_b189 (k125 : Int32 → Option (Int32)) (n_q1 : Nat) (n_q2 : Nat) (c_q0_minesRead : Int32) (c_q0_doorsDone : Int32) (c_q0_page_length : Int32) (c_q0_plan_galleries : Int32) (c_q0_plan_doors : Int32) (c_q0_plan_shafts : Int32) (c_q0_plan_draught : A32) (c_q0_air_breathing : Int32) (c_q0_air_height : A32) (c_q0_crew_size : Int32) (c_q0_crew_kinds : A32) (c_q0_now_moon : Int32) (c_q0_now_out : Int32) (c_q0_now_gone : Int32) (c_q0_now_gas : A32) (c_q0_now_place : A32) (c_q1 : A32) (c_q2 : A32) (c_n1 : A32) (t0 : Int32) (t1 : Int32) (v4 : Int32) : Option (Int32) := if t0 = t1 then Option.bind (f_X10_knot c_q0_plan_galleries c_q0_plan_draught c_q0_air_breathing c_q0_air_height c_q0_now_gas v4 3) fun z_2 => if inB v4 n_q2 then if z_2 = (c_q2 v4.toNatClampNeg) then nam (v4 + 1) fun v4_4 => k125 v4_4 else some 0 else none else some 0
def f_L_stands_b217  (n_q1 : Nat) (n_q2 : Nat) (c_q0_minesRead : Int32) (c_q0_doorsDone : Int32) (c_q0_page_length : Int32) (c_q0_plan_galleries : Int32) (c_q0_plan_doors : Int32) (c_q0_plan_shafts : Int32) (c_q0_crew_size : Int32) (c_q0_crew_kinds : A32) (c_q0_now_moon : Int32) (c_q0_now_out : Int32) (c_q0_now_gone : Int32) (c_q0_now_place : A32) (c_q1 : A32) (c_q2 : A32) (c_n1 : A32) : Nat → Int32 → Option (Int32)
  | 0, _ => none
  | fu + 1, v4 => if inB 20 n_q2 then if (c_q2 (Int32.toNatClampNeg 20)) ≤ v4 then Option.bind (f_X10_count c_q0_minesRead c_q0_doorsDone c_q0_page_length c_q0_plan_galleries c_q0_plan_doors c_q0_plan_shafts c_q0_crew_size c_q0_now_moon c_q0_now_gone 3) fun z_2 => if inB 20 n_q2 then if z_2 = (c_q2 (Int32.toNatClampNeg 20)) then Option.bind (f_X10_count c_q0_minesRead c_q0_doorsDone c_q0_page_length c_q0_plan_galleries c_q0_plan_doors c_q0_plan_shafts c_q0_crew_size c_q0_now_moon c_q0_now_gone 4) fun z_4 => if inB 51 n_q1 then if z_4 = (c_q1 (Int32.toNatClampNeg 51)) then Option.bind (f_X10_count c_q0_minesRead c_q0_doorsDone c_q0_page_length c_q0_plan_galleries c_q0_plan_doors c_q0_plan_shafts c_q0_crew_size c_q0_now_moon c_q0_now_gone 5) fun z_6 => if inB 21 n_q2 then if z_6 = (c_q2 (Int32.toNatClampNeg 21)) then some 1 else some 0 else none else some 0 else none else some 0 else none else Option.bind (f_X10_about c_q0_crew_size c_q0_crew_kinds c_q0_now_out c_q0_now_place v4 0) fun z_8 => if inB (7 + v4) n_q2 then if z_8 = (c_q2 (7 + v4).toNatClampNeg) then Option.bind (f_X10_about c_q0_crew_size c_q0_crew_kinds c_q0_now_out c_q0_now_place v4 1) fun z_10 => if inB (13 + v4) n_q2 then if z_10 = (c_q2 (13 + v4).toNatClampNeg) then Option.bind (f_X10_about c_q0_crew_size c_q0_crew_kinds c_q0_now_out c_q0_now_place v4 2) fun z_12 => if inB 19 n_q2 then if z_12 = (((c_q2 (Int32.toNatClampNeg 19)) >>> (v4 &&& 31)) &&& 1) then Option.bind (f_X10_about c_q0_crew_size c_q0_crew_kinds c_q0_now_out c_q0_now_place v4 3) fun z_14 => if inB (7 + v4) n_q2 then Option.bind (f_L_bears (c_q2 (7 + v4).toNatClampNeg)) fun z_15 => if z_14 = z_15 then nam (v4 + 1) fun v4_17 => (f_L_stands_b217 n_q1 n_q2 c_q0_minesRead c_q0_doorsDone c_q0_page_length c_q0_plan_galleries c_q0_plan_doors c_q0_plan_shafts c_q0_crew_size c_q0_crew_kinds c_q0_now_moon c_q0_now_out c_q0_now_gone c_q0_now_place c_q1 c_q2 c_n1 fu) v4_17 else some 0 else none else some 0 else none else some 0 else none else some 0 else none else none
def f_L_stands_b125  (n_q1 : Nat) (n_q2 : Nat) (c_q0_minesRead : Int32) (c_q0_doorsDone : Int32) (c_q0_page_length : Int32) (c_q0_plan_galleries : Int32) (c_q0_plan_doors : Int32) (c_q0_plan_shafts : Int32) (c_q0_plan_draught : A32) (c_q0_air_breathing : Int32) (c_q0_air_height : A32) (c_q0_crew_size : Int32) (c_q0_crew_kinds : A32) (c_q0_now_moon : Int32) (c_q0_now_out : Int32) (c_q0_now_gone : Int32) (c_q0_now_gas : A32) (c_q0_now_place : A32) (c_q1 : A32) (c_q2 : A32) (c_n1 : A32) : Nat → Int32 → Option (Int32)
  | 0, _ => none
  | fu + 1, v4 => if 7 ≤ v4 then f_L_stands_b217 n_q1 n_q2 c_q0_minesRead c_q0_doorsDone c_q0_page_length c_q0_plan_galleries c_q0_plan_doors c_q0_plan_shafts c_q0_crew_size c_q0_crew_kinds c_q0_now_moon c_q0_now_out c_q0_now_gone c_q0_now_place c_q1 c_q2 c_n1 FU 0 else Option.bind (f_X10_knot c_q0_plan_galleries c_q0_plan_draught c_q0_air_breathing c_q0_air_height c_q0_now_gas v4 0) fun z_2 => if inB (52 + v4) n_q1 then if z_2 = ((c_q1 (52 + v4).toNatClampNeg) - 1) then Option.bind (f_X10_knot c_q0_plan_galleries c_q0_plan_draught c_q0_air_breathing c_q0_air_height c_q0_now_gas v4 1) fun z_4 => Option.bind (f_L_height n_q1 c_q1 v4) fun z_5 => if z_4 = z_5 then Option.bind (f_X10_knot c_q0_plan_galleries c_q0_plan_draught c_q0_air_breathing c_q0_air_height c_q0_now_gas v4 2) fun z_7 => Option.bind (f_L_breathes n_q1 10 c_q1 c_n1 v4) fun z_8 => if z_8 = 0 then f_L_stands_b189 (f_L_stands_b125 n_q1 n_q2 c_q0_minesRead c_q0_doorsDone c_q0_page_length c_q0_plan_galleries c_q0_plan_doors c_q0_plan_shafts c_q0_plan_draught c_q0_air_breathing c_q0_air_height c_q0_crew_size c_q0_crew_kinds c_q0_now_moon c_q0_now_out c_q0_now_gone c_q0_now_gas c_q0_now_place c_q1 c_q2 c_n1 fu) n_q1 n_q2 c_q0_minesRead c_q0_doorsDone c_q0_page_length c_q0_plan_galleries c_q0_plan_doors c_q0_plan_shafts c_q0_plan_draught c_q0_air_breathing c_q0_air_height c_q0_crew_size c_q0_crew_kinds c_q0_now_moon c_q0_now_out c_q0_now_gone c_q0_now_gas c_q0_now_place c_q1 c_q2 c_n1 z_7 0 v4 else f_L_stands_b189 (f_L_stands_b125 n_q1 n_q2 c_q0_minesRead c_q0_doorsDone c_q0_page_length c_q0_plan_galleries c_q0_plan_doors c_q0_plan_shafts c_q0_plan_draught c_q0_air_breathing c_q0_air_height c_q0_crew_size c_q0_crew_kinds c_q0_now_moon c_q0_now_out c_q0_now_gone c_q0_now_gas c_q0_now_place c_q1 c_q2 c_n1 fu) n_q1 n_q2 c_q0_minesRead c_q0_doorsDone c_q0_page_length c_q0_plan_galleries c_q0_plan_doors c_q0_plan_shafts c_q0_plan_draught c_q0_air_breathing c_q0_air_height c_q0_crew_size c_q0_crew_kinds c_q0_now_moon c_q0_now_out c_q0_now_gone c_q0_now_gas c_q0_now_place c_q1 c_q2 c_n1 z_7 1 v4 else some 0 else some 0 else none
def f_L_stands_b8  (n_q1 : Nat) (n_q2 : Nat) (c_q0_minesRead : Int32) (c_q0_doorsDone : Int32) (c_q0_page_length : Int32) (c_q0_plan_galleries : Int32) (c_q0_plan_doors : Int32) (c_q0_plan_shafts : Int32) (c_q0_plan_one : A32) (c_q0_plan_two : A32) (c_q0_plan_length : A32) (c_q0_plan_draught : A32) (c_q0_air_breathing : Int32) (c_q0_air_height : A32) (c_q0_air_into : A32) (c_q0_crew_size : Int32) (c_q0_crew_kinds : A32) (c_q0_now_open : Int32) (c_q0_now_moon : Int32) (c_q0_now_out : Int32) (c_q0_now_gone : Int32) (c_q0_now_gas : A32) (c_q0_now_place : A32) (c_q1 : A32) (c_q2 : A32) (c_n1 : A32) : Nat → Int32 → Option (Int32)
  | 0, _ => none
  | fu + 1, v4 => if inB 0 n_q1 then if (c_q1 (Int32.toNatClampNeg 0)) ≤ v4 then f_L_stands_b125 n_q1 n_q2 c_q0_minesRead c_q0_doorsDone c_q0_page_length c_q0_plan_galleries c_q0_plan_doors c_q0_plan_shafts c_q0_plan_draught c_q0_air_breathing c_q0_air_height c_q0_crew_size c_q0_crew_kinds c_q0_now_moon c_q0_now_out c_q0_now_gone c_q0_now_gas c_q0_now_place c_q1 c_q2 c_n1 FU 0 else Option.bind (f_X10_gallery c_q0_plan_galleries c_q0_plan_doors c_q0_plan_one c_q0_plan_two c_q0_plan_length c_q0_air_into c_q0_now_open v4 0) fun z_2 => if inB (1 + v4) n_q1 then if z_2 = (c_q1 (1 + v4).toNatClampNeg) then Option.bind (f_X10_gallery c_q0_plan_galleries c_q0_plan_doors c_q0_plan_one c_q0_plan_two c_q0_plan_length c_q0_air_into c_q0_now_open v4 1) fun z_4 => if inB (11 + v4) n_q1 then if z_4 = (c_q1 (11 + v4).toNatClampNeg) then Option.bind (f_X10_gallery c_q0_plan_galleries c_q0_plan_doors c_q0_plan_one c_q0_plan_two c_q0_plan_length c_q0_air_into c_q0_now_open v4 2) fun z_6 => if inB (21 + v4) n_q1 then if z_6 = (c_q1 (21 + v4).toNatClampNeg) then Option.bind (f_X10_gallery c_q0_plan_galleries c_q0_plan_doors c_q0_plan_one c_q0_plan_two c_q0_plan_length c_q0_air_into c_q0_now_open v4 3) fun z_8 => if inB (31 + v4) n_q1 then if z_8 = (c_q1 (31 + v4).toNatClampNeg) then Option.bind (f_X10_gallery c_q0_plan_galleries c_q0_plan_doors c_q0_plan_one c_q0_plan_two c_q0_plan_length c_q0_air_into c_q0_now_open v4 4) fun z_10 => if inB (41 + v4) n_q1 then if z_10 = (c_q1 (41 + v4).toNatClampNeg) then Option.bind (f_X10_gallery c_q0_plan_galleries c_q0_plan_doors c_q0_plan_one c_q0_plan_two c_q0_plan_length c_q0_air_into c_q0_now_open v4 5) fun z_12 => if inB v4 10 then if z_12 = (c_n1 v4.toNatClampNeg) then nam (v4 + 1) fun v4_14 => (f_L_stands_b8 n_q1 n_q2 c_q0_minesRead c_q0_doorsDone c_q0_page_length c_q0_plan_galleries c_q0_plan_doors c_q0_plan_shafts c_q0_plan_one c_q0_plan_two c_q0_plan_length c_q0_plan_draught c_q0_air_breathing c_q0_air_height c_q0_air_into c_q0_crew_size c_q0_crew_kinds c_q0_now_open c_q0_now_moon c_q0_now_out c_q0_now_gone c_q0_now_gas c_q0_now_place c_q1 c_q2 c_n1 fu) v4_14 else some 0 else none else some 0 else none else some 0 else none else some 0 else none else some 0 else none else some 0 else none else none
def f_L_stands (n_q1 : Nat) (n_q2 : Nat) (c_q0_minesRead : Int32) (c_q0_doorsDone : Int32) (c_q0_page_length : Int32) (c_q0_plan_galleries : Int32) (c_q0_plan_doors : Int32) (c_q0_plan_shafts : Int32) (c_q0_plan_one : A32) (c_q0_plan_two : A32) (c_q0_plan_length : A32) (c_q0_plan_draught : A32) (c_q0_air_breathing : Int32) (c_q0_air_height : A32) (c_q0_air_into : A32) (c_q0_crew_size : Int32) (c_q0_crew_kinds : A32) (c_q0_now_open : Int32) (c_q0_now_moon : Int32) (c_q0_now_out : Int32) (c_q0_now_gone : Int32) (c_q0_now_gas : A32) (c_q0_now_place : A32) (c_q1 : A32) (c_q2 : A32) : Option (Int32) := Option.bind (f_L_air n_q1 c_q1) fun z_1 => f_L_stands_b8 n_q1 n_q2 c_q0_minesRead c_q0_doorsDone c_q0_page_length c_q0_plan_galleries c_q0_plan_doors c_q0_plan_shafts c_q0_plan_one c_q0_plan_two c_q0_plan_length c_q0_plan_draught c_q0_air_breathing c_q0_air_height c_q0_air_into c_q0_crew_size c_q0_crew_kinds c_q0_now_open c_q0_now_moon c_q0_now_out c_q0_now_gone c_q0_now_gas c_q0_now_place c_q1 c_q2 z_1 FU 0
def f_L_smoke_b36 (k14 : A32 → Int32 → Option (Int32)) (n_q1 : Nat) (c_q0_plan_galleries : Int32) (c_q0_plan_shafts : Int32) (c_q0_plan_one : A32) (c_q0_plan_two : A32) (c_q0_air_into : A32) (c_q0_smoke_lengths : A32) (c_q1 : A32) (c_n1 : A32) (c_n7 : A32) (t1 : Int32) (t2 : Int32) (v2 : Int32) (v5 : Int32) : Option (Int32) := if inB t1 7 then nam (v5 + 1) fun v5_1 => k14 (upd c_n7 (Int32.toNatClampNeg t1) t2) v5_1 else none
def f_L_smoke_b140 (k46 : A32 → Int32 → Option (Int32)) (k56 : A32 → Int32 → Option (Int32)) (n_q1 : Nat) (c_q0_plan_galleries : Int32) (c_q0_plan_shafts : Int32) (c_q0_plan_one : A32) (c_q0_plan_two : A32) (c_q0_air_into : A32) (c_q0_smoke_lengths : A32) (c_q1 : A32) (c_n1 : A32) (c_n7 : A32) (v2 : Int32) (v5 : Int32) (v6 : Int32) : Option (Int32) := nam (v6 + 1) fun v6_1 => k56 c_n7 v6_1
def f_L_smoke_b96 (k46 : A32 → Int32 → Option (Int32)) (k56 : A32 → Int32 → Option (Int32)) (n_q1 : Nat) (c_q0_plan_galleries : Int32) (c_q0_plan_shafts : Int32) (c_q0_plan_one : A32) (c_q0_plan_two : A32) (c_q0_air_into : A32) (c_q0_smoke_lengths : A32) (c_q1 : A32) (c_n1 : A32) (c_n7 : A32) (v2 : Int32) (v5 : Int32) (v6 : Int32) : Option (Int32) := if inB v6 10 then Option.bind (f_L_other n_q1 c_q1 v6 (c_n1 v6.toNatClampNeg)) fun z_1 => if inB z_1 7 then nam (c_n7 z_1.toNatClampNeg) fun v7_2 => if v7_2 < 0 then f_L_smoke_b140 k46 k56 n_q1 c_q0_plan_galleries c_q0_plan_shafts c_q0_plan_one c_q0_plan_two c_q0_air_into c_q0_smoke_lengths c_q1 c_n1 c_n7 v2 v5 v6 else if inB (21 + v6) n_q1 then if (v7_2 + (c_q1 (21 + v6).toNatClampNeg)) = v5 then if inB v6 10 then if inB (c_n1 v6.toNatClampNeg) 7 then f_L_smoke_b140 k46 k56 n_q1 c_q0_plan_galleries c_q0_plan_shafts c_q0_plan_one c_q0_plan_two c_q0_air_into c_q0_smoke_lengths c_q1 c_n1 (upd c_n7 (Int32.toNatClampNeg (c_n1 v6.toNatClampNeg)) v5) v2 v5 v6 else none else none else f_L_smoke_b140 k46 k56 n_q1 c_q0_plan_galleries c_q0_plan_shafts c_q0_plan_one c_q0_plan_two c_q0_air_into c_q0_smoke_lengths c_q1 c_n1 c_n7 v2 v5 v6 else none else none else none
def f_L_smoke_b56 (k46 : A32 → Int32 → Option (Int32)) (n_q1 : Nat) (c_q0_plan_galleries : Int32) (c_q0_plan_shafts : Int32) (c_q0_plan_one : A32) (c_q0_plan_two : A32) (c_q0_air_into : A32) (c_q0_smoke_lengths : A32) (c_q1 : A32) (c_n1 : A32) (v2 : Int32) (v5 : Int32) : Nat → A32 → Int32 → Option (Int32)
  | 0, _, _ => none
  | fu + 1, c_n7, v6 => if inB 0 n_q1 then if (c_q1 (Int32.toNatClampNeg 0)) ≤ v6 then nam (v5 + 1) fun v5_2 => k46 c_n7 v5_2 else if inB v6 10 then if (c_n1 v6.toNatClampNeg) < 0 then f_L_smoke_b140 k46 (f_L_smoke_b56 k46 n_q1 c_q0_plan_galleries c_q0_plan_shafts c_q0_plan_one c_q0_plan_two c_q0_air_into c_q0_smoke_lengths c_q1 c_n1 v2 v5 fu) n_q1 c_q0_plan_galleries c_q0_plan_shafts c_q0_plan_one c_q0_plan_two c_q0_air_into c_q0_smoke_lengths c_q1 c_n1 c_n7 v2 v5 v6 else if inB v6 10 then if inB (c_n1 v6.toNatClampNeg) 7 then if (c_n7 (c_n1 v6.toNatClampNeg).toNatClampNeg) < 0 then f_L_smoke_b96 k46 (f_L_smoke_b56 k46 n_q1 c_q0_plan_galleries c_q0_plan_shafts c_q0_plan_one c_q0_plan_two c_q0_air_into c_q0_smoke_lengths c_q1 c_n1 v2 v5 fu) n_q1 c_q0_plan_galleries c_q0_plan_shafts c_q0_plan_one c_q0_plan_two c_q0_air_into c_q0_smoke_lengths c_q1 c_n1 c_n7 v2 v5 v6 else if inB v6 10 then if inB (c_n1 v6.toNatClampNeg) 7 then if v5 ≤ (c_n7 (c_n1 v6.toNatClampNeg).toNatClampNeg) then f_L_smoke_b96 k46 (f_L_smoke_b56 k46 n_q1 c_q0_plan_galleries c_q0_plan_shafts c_q0_plan_one c_q0_plan_two c_q0_air_into c_q0_smoke_lengths c_q1 c_n1 v2 v5 fu) n_q1 c_q0_plan_galleries c_q0_plan_shafts c_q0_plan_one c_q0_plan_two c_q0_air_into c_q0_smoke_lengths c_q1 c_n1 c_n7 v2 v5 v6 else f_L_smoke_b140 k46 (f_L_smoke_b56 k46 n_q1 c_q0_plan_galleries c_q0_plan_shafts c_q0_plan_one c_q0_plan_two c_q0_air_into c_q0_smoke_lengths c_q1 c_n1 v2 v5 fu) n_q1 c_q0_plan_galleries c_q0_plan_shafts c_q0_plan_one c_q0_plan_two c_q0_air_into c_q0_smoke_lengths c_q1 c_n1 c_n7 v2 v5 v6 else none else none else none else none else none else none
def f_L_smoke_b235 (k155 : Int32 → Option (Int32)) (k186 : Int32 → Int32 → Option (Int32)) (k211 : Int32 → Int32 → Option (Int32)) (n_q1 : Nat) (c_q0_plan_galleries : Int32) (c_q0_plan_shafts : Int32) (c_q0_plan_one : A32) (c_q0_plan_two : A32) (c_q0_air_into : A32) (c_q0_smoke_lengths : A32) (c_q1 : A32) (c_n1 : A32) (c_n7 : A32) (v2 : Int32) (v5 : Int32) (v6 : Int32) (v7 : Int32) (v8 : Int32) (v9 : Int32) : Option (Int32) := nam (v9 + (-1)) fun v9_1 => k211 v8 v9_1
def f_L_smoke_b211 (k155 : Int32 → Option (Int32)) (k186 : Int32 → Int32 → Option (Int32)) (n_q1 : Nat) (c_q0_plan_galleries : Int32) (c_q0_plan_shafts : Int32) (c_q0_plan_one : A32) (c_q0_plan_two : A32) (c_q0_air_into : A32) (c_q0_smoke_lengths : A32) (c_q1 : A32) (c_n1 : A32) (c_n7 : A32) (v2 : Int32) (v5 : Int32) (v6 : Int32) (v7 : Int32) : Nat → Int32 → Int32 → Option (Int32)
  | 0, _, _ => none
  | fu + 1, v8, v9 => if v9 < 0 then nam (v7 + 1) fun v7_2 => k186 v8 v7_2 else if inB v9 10 then if (c_n1 v9.toNatClampNeg) = v6 then Option.bind (f_L_other n_q1 c_q1 v9 v6) fun z_4 => f_L_smoke_b235 k155 k186 (f_L_smoke_b211 k155 k186 n_q1 c_q0_plan_galleries c_q0_plan_shafts c_q0_plan_one c_q0_plan_two c_q0_air_into c_q0_smoke_lengths c_q1 c_n1 c_n7 v2 v5 v6 v7 fu) n_q1 c_q0_plan_galleries c_q0_plan_shafts c_q0_plan_one c_q0_plan_two c_q0_air_into c_q0_smoke_lengths c_q1 c_n1 c_n7 v2 v5 v6 v7 z_4 v9 else f_L_smoke_b235 k155 k186 (f_L_smoke_b211 k155 k186 n_q1 c_q0_plan_galleries c_q0_plan_shafts c_q0_plan_one c_q0_plan_two c_q0_air_into c_q0_smoke_lengths c_q1 c_n1 c_n7 v2 v5 v6 v7 fu) n_q1 c_q0_plan_galleries c_q0_plan_shafts c_q0_plan_one c_q0_plan_two c_q0_air_into c_q0_smoke_lengths c_q1 c_n1 c_n7 v2 v5 v6 v7 v8 v9 else none
def f_L_smoke_b268 (k155 : Int32 → Option (Int32)) (n_q1 : Nat) (c_q0_plan_galleries : Int32) (c_q0_plan_shafts : Int32) (c_q0_plan_one : A32) (c_q0_plan_two : A32) (c_q0_air_into : A32) (c_q0_smoke_lengths : A32) (c_q1 : A32) (c_n1 : A32) (c_n7 : A32) (t0 : Int32) (t1 : Int32) (v2 : Int32) (v5 : Int32) : Option (Int32) := if t0 = t1 then nam (v5 + 1) fun v5_2 => k155 v5_2 else some 0
def f_L_smoke_b251 (k155 : Int32 → Option (Int32)) (n_q1 : Nat) (c_q0_plan_galleries : Int32) (c_q0_plan_shafts : Int32) (c_q0_plan_one : A32) (c_q0_plan_two : A32) (c_q0_air_into : A32) (c_q0_smoke_lengths : A32) (c_q1 : A32) (c_n1 : A32) (c_n7 : A32) (v2 : Int32) (v5 : Int32) (v6 : Int32) (v7 : Int32) : Option (Int32) := Option.bind (f_X10_wayOut c_q0_plan_galleries c_q0_plan_shafts c_q0_plan_one c_q0_plan_two c_q0_air_into v5) fun z_1 => if 0 ≤ v6 then f_L_smoke_b268 k155 n_q1 c_q0_plan_galleries c_q0_plan_shafts c_q0_plan_one c_q0_plan_two c_q0_air_into c_q0_smoke_lengths c_q1 c_n1 c_n7 z_1 v7 v2 v5 else f_L_smoke_b268 k155 n_q1 c_q0_plan_galleries c_q0_plan_shafts c_q0_plan_one c_q0_plan_two c_q0_air_into c_q0_smoke_lengths c_q1 c_n1 c_n7 z_1 (-1) v2 v5
def f_L_smoke_b186 (k155 : Int32 → Option (Int32)) (n_q1 : Nat) (c_q0_plan_galleries : Int32) (c_q0_plan_shafts : Int32) (c_q0_plan_one : A32) (c_q0_plan_two : A32) (c_q0_air_into : A32) (c_q0_smoke_lengths : A32) (c_q1 : A32) (c_n1 : A32) (c_n7 : A32) (v2 : Int32) (v5 : Int32) : Nat → Int32 → Int32 → Option (Int32)
  | 0, _, _ => none
  | fu + 1, v6, v7 => if v6 < 0 then f_L_smoke_b251 k155 n_q1 c_q0_plan_galleries c_q0_plan_shafts c_q0_plan_one c_q0_plan_two c_q0_air_into c_q0_smoke_lengths c_q1 c_n1 c_n7 v2 v5 v6 v7 else if inB (52 + v6) n_q1 then if (c_q1 (52 + v6).toNatClampNeg) = 0 then if inB 0 n_q1 then nam ((c_q1 (Int32.toNatClampNeg 0)) - 1) fun v9_3 => f_L_smoke_b211 k155 (f_L_smoke_b186 k155 n_q1 c_q0_plan_galleries c_q0_plan_shafts c_q0_plan_one c_q0_plan_two c_q0_air_into c_q0_smoke_lengths c_q1 c_n1 c_n7 v2 v5 fu) n_q1 c_q0_plan_galleries c_q0_plan_shafts c_q0_plan_one c_q0_plan_two c_q0_air_into c_q0_smoke_lengths c_q1 c_n1 c_n7 v2 v5 v6 v7 FU (-1) v9_3 else none else f_L_smoke_b251 k155 n_q1 c_q0_plan_galleries c_q0_plan_shafts c_q0_plan_one c_q0_plan_two c_q0_air_into c_q0_smoke_lengths c_q1 c_n1 c_n7 v2 v5 v6 v7 else none
def f_L_smoke_b155  (n_q1 : Nat) (c_q0_plan_galleries : Int32) (c_q0_plan_shafts : Int32) (c_q0_plan_one : A32) (c_q0_plan_two : A32) (c_q0_air_into : A32) (c_q0_smoke_lengths : A32) (c_q1 : A32) (c_n1 : A32) (c_n7 : A32) (v2 : Int32) : Nat → Int32 → Option (Int32)
  | 0, _ => none
  | fu + 1, v5 => if 7 ≤ v5 then some 1 else Option.bind (f_X10_smelt c_q0_plan_galleries c_q0_smoke_lengths v2 v5) fun z_2 => if inB v5 7 then if z_2 = (c_n7 v5.toNatClampNeg) then f_L_smoke_b186 (f_L_smoke_b155 n_q1 c_q0_plan_galleries c_q0_plan_shafts c_q0_plan_one c_q0_plan_two c_q0_air_into c_q0_smoke_lengths c_q1 c_n1 c_n7 v2 fu) n_q1 c_q0_plan_galleries c_q0_plan_shafts c_q0_plan_one c_q0_plan_two c_q0_air_into c_q0_smoke_lengths c_q1 c_n1 c_n7 v2 v5 FU v5 0 else some 0 else none
def f_L_smoke_b46  (n_q1 : Nat) (c_q0_plan_galleries : Int32) (c_q0_plan_shafts : Int32) (c_q0_plan_one : A32) (c_q0_plan_two : A32) (c_q0_air_into : A32) (c_q0_smoke_lengths : A32) (c_q1 : A32) (c_n1 : A32) (v2 : Int32) : Nat → A32 → Int32 → Option (Int32)
  | 0, _, _ => none
  | fu + 1, c_n7, v5 => if 60 ≤ v5 then f_L_smoke_b155 n_q1 c_q0_plan_galleries c_q0_plan_shafts c_q0_plan_one c_q0_plan_two c_q0_air_into c_q0_smoke_lengths c_q1 c_n1 c_n7 v2 FU 0 else f_L_smoke_b56 (f_L_smoke_b46 n_q1 c_q0_plan_galleries c_q0_plan_shafts c_q0_plan_one c_q0_plan_two c_q0_air_into c_q0_smoke_lengths c_q1 c_n1 v2 fu) n_q1 c_q0_plan_galleries c_q0_plan_shafts c_q0_plan_one c_q0_plan_two c_q0_air_into c_q0_smoke_lengths c_q1 c_n1 v2 v5 FU c_n7 0
def f_L_smoke_b14  (n_q1 : Nat) (c_q0_plan_galleries : Int32) (c_q0_plan_shafts : Int32) (c_q0_plan_one : A32) (c_q0_plan_two : A32) (c_q0_air_into : A32) (c_q0_smoke_lengths : A32) (c_q1 : A32) (c_n1 : A32) (v2 : Int32) : Nat → A32 → Int32 → Option (Int32)
  | 0, _, _ => none
  | fu + 1, c_n7, v5 => if 7 ≤ v5 then f_L_smoke_b46 n_q1 c_q0_plan_galleries c_q0_plan_shafts c_q0_plan_one c_q0_plan_two c_q0_air_into c_q0_smoke_lengths c_q1 c_n1 v2 FU c_n7 1 else if v5 = v2 then f_L_smoke_b36 (f_L_smoke_b14 n_q1 c_q0_plan_galleries c_q0_plan_shafts c_q0_plan_one c_q0_plan_two c_q0_air_into c_q0_smoke_lengths c_q1 c_n1 v2 fu) n_q1 c_q0_plan_galleries c_q0_plan_shafts c_q0_plan_one c_q0_plan_two c_q0_air_into c_q0_smoke_lengths c_q1 c_n1 c_n7 v5 0 v2 v5 else f_L_smoke_b36 (f_L_smoke_b14 n_q1 c_q0_plan_galleries c_q0_plan_shafts c_q0_plan_one c_q0_plan_two c_q0_air_into c_q0_smoke_lengths c_q1 c_n1 v2 fu) n_q1 c_q0_plan_galleries c_q0_plan_shafts c_q0_plan_one c_q0_plan_two c_q0_air_into c_q0_smoke_lengths c_q1 c_n1 c_n7 v5 (-1) v2 v5
def f_L_smoke (n_q1 : Nat) (c_q0_plan_galleries : Int32) (c_q0_plan_shafts : Int32) (c_q0_plan_one : A32) (c_q0_plan_two : A32) (c_q0_air_into : A32) (c_q0_smoke_lengths : A32) (c_q1 : A32) (v2 : Int32) : Option (Int32) := Option.bind (f_L_air n_q1 c_q1) fun z_1 => f_L_smoke_b14 n_q1 c_q0_plan_galleries c_q0_plan_shafts c_q0_plan_one c_q0_plan_two c_q0_air_into c_q0_smoke_lengths c_q1 z_1 v2 FU (fun _ => 0) 0
def f_L_walks_b158 (k45 : A32 → Int64 → Int32 → Option (Int32 × Int32 × Int32 × Int32 × Int32 × A32 × A32 × Int32)) (k97 : Int32 → Int32 → Option (Int32 × Int32 × Int32 × Int32 × Int32 × A32 × A32 × Int32)) (n_q1 : Nat) (n_q2 : Nat) (c_q0_plan_galleries : Int32) (c_q0_plan_one : A32) (c_q0_plan_two : A32) (c_q0_air_breathing : Int32) (c_q0_crew_size : Int32) (c_q0_crew_kinds : A32) (c_q0_now_open : Int32) (c_q0_now_moon : Int32) (c_q0_now_out : Int32) (c_q0_now_gone : Int32) (c_q0_now_gas : A32) (c_q0_now_place : A32) (c_q0_dream_open : Int32) (c_q0_dream_moon : Int32) (c_q0_dream_out : Int32) (c_q0_dream_gone : Int32) (c_q0_dream_gas : A32) (c_q0_dream_place : A32) (c_q0_draws_seed : Int32) (c_q1 : A32) (c_n2 : A32) (c_n32 : A32) (t0 : Int32) (t1 : Int32) (v3 : Int32) (v4 : Int32) (v7 : Int64) (v9 : Int32) (v10 : Int32) (v12 : Int32) : Option (Int32 × Int32 × Int32 × Int32 × Int32 × A32 × A32 × Int32) := nam (t0 + t1) fun v11_1 => nam (v12 + 1) fun v12_2 => k97 v11_1 v12_2
def f_L_walks_b153 (k45 : A32 → Int64 → Int32 → Option (Int32 × Int32 × Int32 × Int32 × Int32 × A32 × A32 × Int32)) (k97 : Int32 → Int32 → Option (Int32 × Int32 × Int32 × Int32 × Int32 × A32 × A32 × Int32)) (n_q1 : Nat) (n_q2 : Nat) (c_q0_plan_galleries : Int32) (c_q0_plan_one : A32) (c_q0_plan_two : A32) (c_q0_air_breathing : Int32) (c_q0_crew_size : Int32) (c_q0_crew_kinds : A32) (c_q0_now_open : Int32) (c_q0_now_moon : Int32) (c_q0_now_out : Int32) (c_q0_now_gone : Int32) (c_q0_now_gas : A32) (c_q0_now_place : A32) (c_q0_dream_open : Int32) (c_q0_dream_moon : Int32) (c_q0_dream_out : Int32) (c_q0_dream_gone : Int32) (c_q0_dream_gas : A32) (c_q0_dream_place : A32) (c_q0_draws_seed : Int32) (c_q1 : A32) (c_n2 : A32) (c_n32 : A32) (t0 : Int32) (v3 : Int32) (v4 : Int32) (v7 : Int64) (v9 : Int32) (v10 : Int32) (v12 : Int32) : Option (Int32 × Int32 × Int32 × Int32 × Int32 × A32 × A32 × Int32) := f_L_walks_b158 k45 k97 n_q1 n_q2 c_q0_plan_galleries c_q0_plan_one c_q0_plan_two c_q0_air_breathing c_q0_crew_size c_q0_crew_kinds c_q0_now_open c_q0_now_moon c_q0_now_out c_q0_now_gone c_q0_now_gas c_q0_now_place c_q0_dream_open c_q0_dream_moon c_q0_dream_out c_q0_dream_gone c_q0_dream_gas c_q0_dream_place c_q0_draws_seed c_q1 c_n2 c_n32 t0 1 v3 v4 v7 v9 v10 v12
def f_L_walks_b157 (k45 : A32 → Int64 → Int32 → Option (Int32 × Int32 × Int32 × Int32 × Int32 × A32 × A32 × Int32)) (k97 : Int32 → Int32 → Option (Int32 × Int32 × Int32 × Int32 × Int32 × A32 × A32 × Int32)) (n_q1 : Nat) (n_q2 : Nat) (c_q0_plan_galleries : Int32) (c_q0_plan_one : A32) (c_q0_plan_two : A32) (c_q0_air_breathing : Int32) (c_q0_crew_size : Int32) (c_q0_crew_kinds : A32) (c_q0_now_open : Int32) (c_q0_now_moon : Int32) (c_q0_now_out : Int32) (c_q0_now_gone : Int32) (c_q0_now_gas : A32) (c_q0_now_place : A32) (c_q0_dream_open : Int32) (c_q0_dream_moon : Int32) (c_q0_dream_out : Int32) (c_q0_dream_gone : Int32) (c_q0_dream_gas : A32) (c_q0_dream_place : A32) (c_q0_draws_seed : Int32) (c_q1 : A32) (c_n2 : A32) (c_n32 : A32) (t0 : Int32) (v3 : Int32) (v4 : Int32) (v7 : Int64) (v9 : Int32) (v10 : Int32) (v12 : Int32) : Option (Int32 × Int32 × Int32 × Int32 × Int32 × A32 × A32 × Int32) := f_L_walks_b158 k45 k97 n_q1 n_q2 c_q0_plan_galleries c_q0_plan_one c_q0_plan_two c_q0_air_breathing c_q0_crew_size c_q0_crew_kinds c_q0_now_open c_q0_now_moon c_q0_now_out c_q0_now_gone c_q0_now_gas c_q0_now_place c_q0_dream_open c_q0_dream_moon c_q0_dream_out c_q0_dream_gone c_q0_dream_gas c_q0_dream_place c_q0_draws_seed c_q1 c_n2 c_n32 t0 0 v3 v4 v7 v9 v10 v12
def f_L_walks_b293 (k45 : A32 → Int64 → Int32 → Option (Int32 × Int32 × Int32 × Int32 × Int32 × A32 × A32 × Int32)) (k227 : A32 → Int32 → Int32 → Option (Int32 × Int32 × Int32 × Int32 × Int32 × A32 × A32 × Int32)) (n_q1 : Nat) (n_q2 : Nat) (c_q0_plan_galleries : Int32) (c_q0_plan_one : A32) (c_q0_plan_two : A32) (c_q0_air_breathing : Int32) (c_q0_crew_size : Int32) (c_q0_crew_kinds : A32) (c_q0_now_open : Int32) (c_q0_now_moon : Int32) (c_q0_now_out : Int32) (c_q0_now_gone : Int32) (c_q0_now_gas : A32) (c_q0_now_place : A32) (c_q0_dream_open : Int32) (c_q0_dream_moon : Int32) (c_q0_dream_out : Int32) (c_q0_dream_gone : Int32) (c_q0_dream_gas : A32) (c_q0_dream_place : A32) (c_q0_draws_seed : Int32) (c_q1 : A32) (c_n2 : A32) (c_n32 : A32) (v3 : Int32) (v4 : Int32) (v7 : Int64) (v9 : Int32) (v10 : Int32) (v12 : Int32) (v13 : Int32) (v14 : Int32) : Option (Int32 × Int32 × Int32 × Int32 × Int32 × A32 × A32 × Int32) := nam (v14 + 1) fun v14_1 => k227 c_n2 v12 v14_1
def f_L_walks_b269 (k45 : A32 → Int64 → Int32 → Option (Int32 × Int32 × Int32 × Int32 × Int32 × A32 × A32 × Int32)) (k227 : A32 → Int32 → Int32 → Option (Int32 × Int32 × Int32 × Int32 × Int32 × A32 × A32 × Int32)) (n_q1 : Nat) (n_q2 : Nat) (c_q0_plan_galleries : Int32) (c_q0_plan_one : A32) (c_q0_plan_two : A32) (c_q0_air_breathing : Int32) (c_q0_crew_size : Int32) (c_q0_crew_kinds : A32) (c_q0_now_open : Int32) (c_q0_now_moon : Int32) (c_q0_now_out : Int32) (c_q0_now_gone : Int32) (c_q0_now_gas : A32) (c_q0_now_place : A32) (c_q0_dream_open : Int32) (c_q0_dream_moon : Int32) (c_q0_dream_out : Int32) (c_q0_dream_gone : Int32) (c_q0_dream_gas : A32) (c_q0_dream_place : A32) (c_q0_draws_seed : Int32) (c_q1 : A32) (c_n2 : A32) (c_n32 : A32) (v3 : Int32) (v4 : Int32) (v7 : Int64) (v9 : Int32) (v10 : Int32) (v12 : Int32) (v13 : Int32) (v14 : Int32) : Option (Int32 × Int32 × Int32 × Int32 × Int32 × A32 × A32 × Int32) := nam (v12 + (-1)) fun v12_1 => if v12 = 0 then Option.bind (f_L_other n_q1 c_q1 v14 v13) fun z_3 => if inB (13 + v10) 22 then f_L_walks_b293 k45 k227 n_q1 n_q2 c_q0_plan_galleries c_q0_plan_one c_q0_plan_two c_q0_air_breathing c_q0_crew_size c_q0_crew_kinds c_q0_now_open c_q0_now_moon c_q0_now_out c_q0_now_gone c_q0_now_gas c_q0_now_place c_q0_dream_open c_q0_dream_moon c_q0_dream_out c_q0_dream_gone c_q0_dream_gas c_q0_dream_place c_q0_draws_seed c_q1 (upd c_n2 (Int32.toNatClampNeg (13 + v10)) z_3) c_n32 v3 v4 v7 v9 v10 v12_1 v13 v14 else none else f_L_walks_b293 k45 k227 n_q1 n_q2 c_q0_plan_galleries c_q0_plan_one c_q0_plan_two c_q0_air_breathing c_q0_crew_size c_q0_crew_kinds c_q0_now_open c_q0_now_moon c_q0_now_out c_q0_now_gone c_q0_now_gas c_q0_now_place c_q0_dream_open c_q0_dream_moon c_q0_dream_out c_q0_dream_gone c_q0_dream_gas c_q0_dream_place c_q0_draws_seed c_q1 c_n2 c_n32 v3 v4 v7 v9 v10 v12_1 v13 v14
def f_L_walks_b299 (k45 : A32 → Int64 → Int32 → Option (Int32 × Int32 × Int32 × Int32 × Int32 × A32 × A32 × Int32)) (n_q1 : Nat) (n_q2 : Nat) (c_q0_plan_galleries : Int32) (c_q0_plan_one : A32) (c_q0_plan_two : A32) (c_q0_air_breathing : Int32) (c_q0_crew_size : Int32) (c_q0_crew_kinds : A32) (c_q0_now_open : Int32) (c_q0_now_moon : Int32) (c_q0_now_out : Int32) (c_q0_now_gone : Int32) (c_q0_now_gas : A32) (c_q0_now_place : A32) (c_q0_dream_open : Int32) (c_q0_dream_moon : Int32) (c_q0_dream_out : Int32) (c_q0_dream_gone : Int32) (c_q0_dream_gas : A32) (c_q0_dream_place : A32) (c_q0_draws_seed : Int32) (c_q1 : A32) (c_n2 : A32) (c_n32 : A32) (v3 : Int32) (v4 : Int32) (v7 : Int64) (v9 : Int32) : Option (Int32 × Int32 × Int32 × Int32 × Int32 × A32 × A32 × Int32) := Option.bind (f_L_minute n_q1 10 22 c_q1 c_n32 c_n2) fun z_1 => nam (v9 + 1) fun v9_2 => k45 z_1.2 v7 v9_2
def f_L_walks_b227 (k45 : A32 → Int64 → Int32 → Option (Int32 × Int32 × Int32 × Int32 × Int32 × A32 × A32 × Int32)) (n_q1 : Nat) (n_q2 : Nat) (c_q0_plan_galleries : Int32) (c_q0_plan_one : A32) (c_q0_plan_two : A32) (c_q0_air_breathing : Int32) (c_q0_crew_size : Int32) (c_q0_crew_kinds : A32) (c_q0_now_open : Int32) (c_q0_now_moon : Int32) (c_q0_now_out : Int32) (c_q0_now_gone : Int32) (c_q0_now_gas : A32) (c_q0_now_place : A32) (c_q0_dream_open : Int32) (c_q0_dream_moon : Int32) (c_q0_dream_out : Int32) (c_q0_dream_gone : Int32) (c_q0_dream_gas : A32) (c_q0_dream_place : A32) (c_q0_draws_seed : Int32) (c_q1 : A32) (c_n32 : A32) (v3 : Int32) (v4 : Int32) (v7 : Int64) (v9 : Int32) (v10 : Int32) (v13 : Int32) : Nat → A32 → Int32 → Int32 → Option (Int32 × Int32 × Int32 × Int32 × Int32 × A32 × A32 × Int32)
  | 0, _, _, _ => none
  | fu + 1, c_n2, v12, v14 => if inB 0 n_q1 then if (c_q1 (Int32.toNatClampNeg 0)) ≤ v14 then f_L_walks_b299 k45 n_q1 n_q2 c_q0_plan_galleries c_q0_plan_one c_q0_plan_two c_q0_air_breathing c_q0_crew_size c_q0_crew_kinds c_q0_now_open c_q0_now_moon c_q0_now_out c_q0_now_gone c_q0_now_gas c_q0_now_place c_q0_dream_open c_q0_dream_moon c_q0_dream_out c_q0_dream_gone c_q0_dream_gas c_q0_dream_place c_q0_draws_seed c_q1 c_n2 c_n32 v3 v4 v7 v9 else if inB (41 + v14) n_q1 then if (c_q1 (41 + v14).toNatClampNeg) = 1 then if inB (1 + v14) n_q1 then if (c_q1 (1 + v14).toNatClampNeg) = v13 then f_L_walks_b269 k45 (f_L_walks_b227 k45 n_q1 n_q2 c_q0_plan_galleries c_q0_plan_one c_q0_plan_two c_q0_air_breathing c_q0_crew_size c_q0_crew_kinds c_q0_now_open c_q0_now_moon c_q0_now_out c_q0_now_gone c_q0_now_gas c_q0_now_place c_q0_dream_open c_q0_dream_moon c_q0_dream_out c_q0_dream_gone c_q0_dream_gas c_q0_dream_place c_q0_draws_seed c_q1 c_n32 v3 v4 v7 v9 v10 v13 fu) n_q1 n_q2 c_q0_plan_galleries c_q0_plan_one c_q0_plan_two c_q0_air_breathing c_q0_crew_size c_q0_crew_kinds c_q0_now_open c_q0_now_moon c_q0_now_out c_q0_now_gone c_q0_now_gas c_q0_now_place c_q0_dream_open c_q0_dream_moon c_q0_dream_out c_q0_dream_gone c_q0_dream_gas c_q0_dream_place c_q0_draws_seed c_q1 c_n2 c_n32 v3 v4 v7 v9 v10 v12 v13 v14 else if inB (11 + v14) n_q1 then if (c_q1 (11 + v14).toNatClampNeg) = v13 then f_L_walks_b269 k45 (f_L_walks_b227 k45 n_q1 n_q2 c_q0_plan_galleries c_q0_plan_one c_q0_plan_two c_q0_air_breathing c_q0_crew_size c_q0_crew_kinds c_q0_now_open c_q0_now_moon c_q0_now_out c_q0_now_gone c_q0_now_gas c_q0_now_place c_q0_dream_open c_q0_dream_moon c_q0_dream_out c_q0_dream_gone c_q0_dream_gas c_q0_dream_place c_q0_draws_seed c_q1 c_n32 v3 v4 v7 v9 v10 v13 fu) n_q1 n_q2 c_q0_plan_galleries c_q0_plan_one c_q0_plan_two c_q0_air_breathing c_q0_crew_size c_q0_crew_kinds c_q0_now_open c_q0_now_moon c_q0_now_out c_q0_now_gone c_q0_now_gas c_q0_now_place c_q0_dream_open c_q0_dream_moon c_q0_dream_out c_q0_dream_gone c_q0_dream_gas c_q0_dream_place c_q0_draws_seed c_q1 c_n2 c_n32 v3 v4 v7 v9 v10 v12 v13 v14 else f_L_walks_b293 k45 (f_L_walks_b227 k45 n_q1 n_q2 c_q0_plan_galleries c_q0_plan_one c_q0_plan_two c_q0_air_breathing c_q0_crew_size c_q0_crew_kinds c_q0_now_open c_q0_now_moon c_q0_now_out c_q0_now_gone c_q0_now_gas c_q0_now_place c_q0_dream_open c_q0_dream_moon c_q0_dream_out c_q0_dream_gone c_q0_dream_gas c_q0_dream_place c_q0_draws_seed c_q1 c_n32 v3 v4 v7 v9 v10 v13 fu) n_q1 n_q2 c_q0_plan_galleries c_q0_plan_one c_q0_plan_two c_q0_air_breathing c_q0_crew_size c_q0_crew_kinds c_q0_now_open c_q0_now_moon c_q0_now_out c_q0_now_gone c_q0_now_gas c_q0_now_place c_q0_dream_open c_q0_dream_moon c_q0_dream_out c_q0_dream_gone c_q0_dream_gas c_q0_dream_place c_q0_draws_seed c_q1 c_n2 c_n32 v3 v4 v7 v9 v10 v12 v13 v14 else none else none else f_L_walks_b293 k45 (f_L_walks_b227 k45 n_q1 n_q2 c_q0_plan_galleries c_q0_plan_one c_q0_plan_two c_q0_air_breathing c_q0_crew_size c_q0_crew_kinds c_q0_now_open c_q0_now_moon c_q0_now_out c_q0_now_gone c_q0_now_gas c_q0_now_place c_q0_dream_open c_q0_dream_moon c_q0_dream_out c_q0_dream_gone c_q0_dream_gas c_q0_dream_place c_q0_draws_seed c_q1 c_n32 v3 v4 v7 v9 v10 v13 fu) n_q1 n_q2 c_q0_plan_galleries c_q0_plan_one c_q0_plan_two c_q0_air_breathing c_q0_crew_size c_q0_crew_kinds c_q0_now_open c_q0_now_moon c_q0_now_out c_q0_now_gone c_q0_now_gas c_q0_now_place c_q0_dream_open c_q0_dream_moon c_q0_dream_out c_q0_dream_gone c_q0_dream_gas c_q0_dream_place c_q0_draws_seed c_q1 c_n2 c_n32 v3 v4 v7 v9 v10 v12 v13 v14 else none else none
def f_L_walks_b97 (k45 : A32 → Int64 → Int32 → Option (Int32 × Int32 × Int32 × Int32 × Int32 × A32 × A32 × Int32)) (n_q1 : Nat) (n_q2 : Nat) (c_q0_plan_galleries : Int32) (c_q0_plan_one : A32) (c_q0_plan_two : A32) (c_q0_air_breathing : Int32) (c_q0_crew_size : Int32) (c_q0_crew_kinds : A32) (c_q0_now_open : Int32) (c_q0_now_moon : Int32) (c_q0_now_out : Int32) (c_q0_now_gone : Int32) (c_q0_now_gas : A32) (c_q0_now_place : A32) (c_q0_dream_open : Int32) (c_q0_dream_moon : Int32) (c_q0_dream_out : Int32) (c_q0_dream_gone : Int32) (c_q0_dream_gas : A32) (c_q0_dream_place : A32) (c_q0_draws_seed : Int32) (c_q1 : A32) (c_n2 : A32) (c_n32 : A32) (v3 : Int32) (v4 : Int32) (v7 : Int64) (v9 : Int32) (v10 : Int32) : Nat → Int32 → Int32 → Option (Int32 × Int32 × Int32 × Int32 × Int32 × A32 × A32 × Int32)
  | 0, _, _ => none
  | fu + 1, v11, v12 => if inB 0 n_q1 then if (c_q1 (Int32.toNatClampNeg 0)) ≤ v12 then if inB 19 22 then if (((c_n2 (Int32.toNatClampNeg 19)) >>> (v10 &&& 31)) &&& 1) = 0 then if v11 ≤ 0 then f_L_walks_b299 k45 n_q1 n_q2 c_q0_plan_galleries c_q0_plan_one c_q0_plan_two c_q0_air_breathing c_q0_crew_size c_q0_crew_kinds c_q0_now_open c_q0_now_moon c_q0_now_out c_q0_now_gone c_q0_now_gas c_q0_now_place c_q0_dream_open c_q0_dream_moon c_q0_dream_out c_q0_dream_gone c_q0_dream_gas c_q0_dream_place c_q0_draws_seed c_q1 c_n2 c_n32 v3 v4 v7 v9 else nam (((v7 * 1103515245) + 12345) - ((v7 * 1103515245) + 12345) / 2147483648 * 2147483648) fun v7_4 => if Int32.toInt64 v11 = 0 then none else nam (Int64.toInt32 ((v7_4 / 65536) - (v7_4 / 65536) / (Int32.toInt64 v11) * (Int32.toInt64 v11))) fun v12_6 => if inB (13 + v10) 22 then nam (c_n2 (13 + v10).toNatClampNeg) fun v13_7 => f_L_walks_b227 k45 n_q1 n_q2 c_q0_plan_galleries c_q0_plan_one c_q0_plan_two c_q0_air_breathing c_q0_crew_size c_q0_crew_kinds c_q0_now_open c_q0_now_moon c_q0_now_out c_q0_now_gone c_q0_now_gas c_q0_now_place c_q0_dream_open c_q0_dream_moon c_q0_dream_out c_q0_dream_gone c_q0_dream_gas c_q0_dream_place c_q0_draws_seed c_q1 c_n32 v3 v4 v7_4 v9 v10 v13_7 FU c_n2 v12_6 0 else none else f_L_walks_b299 k45 n_q1 n_q2 c_q0_plan_galleries c_q0_plan_one c_q0_plan_two c_q0_air_breathing c_q0_crew_size c_q0_crew_kinds c_q0_now_open c_q0_now_moon c_q0_now_out c_q0_now_gone c_q0_now_gas c_q0_now_place c_q0_dream_open c_q0_dream_moon c_q0_dream_out c_q0_dream_gone c_q0_dream_gas c_q0_dream_place c_q0_draws_seed c_q1 c_n2 c_n32 v3 v4 v7 v9 else none else if inB (41 + v12) n_q1 then if (c_q1 (41 + v12).toNatClampNeg) = 1 then if inB (1 + v12) n_q1 then if inB (13 + v10) 22 then if (c_q1 (1 + v12).toNatClampNeg) = (c_n2 (13 + v10).toNatClampNeg) then f_L_walks_b153 k45 (f_L_walks_b97 k45 n_q1 n_q2 c_q0_plan_galleries c_q0_plan_one c_q0_plan_two c_q0_air_breathing c_q0_crew_size c_q0_crew_kinds c_q0_now_open c_q0_now_moon c_q0_now_out c_q0_now_gone c_q0_now_gas c_q0_now_place c_q0_dream_open c_q0_dream_moon c_q0_dream_out c_q0_dream_gone c_q0_dream_gas c_q0_dream_place c_q0_draws_seed c_q1 c_n2 c_n32 v3 v4 v7 v9 v10 fu) n_q1 n_q2 c_q0_plan_galleries c_q0_plan_one c_q0_plan_two c_q0_air_breathing c_q0_crew_size c_q0_crew_kinds c_q0_now_open c_q0_now_moon c_q0_now_out c_q0_now_gone c_q0_now_gas c_q0_now_place c_q0_dream_open c_q0_dream_moon c_q0_dream_out c_q0_dream_gone c_q0_dream_gas c_q0_dream_place c_q0_draws_seed c_q1 c_n2 c_n32 v11 v3 v4 v7 v9 v10 v12 else if inB (11 + v12) n_q1 then if inB (13 + v10) 22 then if (c_q1 (11 + v12).toNatClampNeg) = (c_n2 (13 + v10).toNatClampNeg) then f_L_walks_b153 k45 (f_L_walks_b97 k45 n_q1 n_q2 c_q0_plan_galleries c_q0_plan_one c_q0_plan_two c_q0_air_breathing c_q0_crew_size c_q0_crew_kinds c_q0_now_open c_q0_now_moon c_q0_now_out c_q0_now_gone c_q0_now_gas c_q0_now_place c_q0_dream_open c_q0_dream_moon c_q0_dream_out c_q0_dream_gone c_q0_dream_gas c_q0_dream_place c_q0_draws_seed c_q1 c_n2 c_n32 v3 v4 v7 v9 v10 fu) n_q1 n_q2 c_q0_plan_galleries c_q0_plan_one c_q0_plan_two c_q0_air_breathing c_q0_crew_size c_q0_crew_kinds c_q0_now_open c_q0_now_moon c_q0_now_out c_q0_now_gone c_q0_now_gas c_q0_now_place c_q0_dream_open c_q0_dream_moon c_q0_dream_out c_q0_dream_gone c_q0_dream_gas c_q0_dream_place c_q0_draws_seed c_q1 c_n2 c_n32 v11 v3 v4 v7 v9 v10 v12 else f_L_walks_b157 k45 (f_L_walks_b97 k45 n_q1 n_q2 c_q0_plan_galleries c_q0_plan_one c_q0_plan_two c_q0_air_breathing c_q0_crew_size c_q0_crew_kinds c_q0_now_open c_q0_now_moon c_q0_now_out c_q0_now_gone c_q0_now_gas c_q0_now_place c_q0_dream_open c_q0_dream_moon c_q0_dream_out c_q0_dream_gone c_q0_dream_gas c_q0_dream_place c_q0_draws_seed c_q1 c_n2 c_n32 v3 v4 v7 v9 v10 fu) n_q1 n_q2 c_q0_plan_galleries c_q0_plan_one c_q0_plan_two c_q0_air_breathing c_q0_crew_size c_q0_crew_kinds c_q0_now_open c_q0_now_moon c_q0_now_out c_q0_now_gone c_q0_now_gas c_q0_now_place c_q0_dream_open c_q0_dream_moon c_q0_dream_out c_q0_dream_gone c_q0_dream_gas c_q0_dream_place c_q0_draws_seed c_q1 c_n2 c_n32 v11 v3 v4 v7 v9 v10 v12 else none else none else none else none else f_L_walks_b157 k45 (f_L_walks_b97 k45 n_q1 n_q2 c_q0_plan_galleries c_q0_plan_one c_q0_plan_two c_q0_air_breathing c_q0_crew_size c_q0_crew_kinds c_q0_now_open c_q0_now_moon c_q0_now_out c_q0_now_gone c_q0_now_gas c_q0_now_place c_q0_dream_open c_q0_dream_moon c_q0_dream_out c_q0_dream_gone c_q0_dream_gas c_q0_dream_place c_q0_draws_seed c_q1 c_n2 c_n32 v3 v4 v7 v9 v10 fu) n_q1 n_q2 c_q0_plan_galleries c_q0_plan_one c_q0_plan_two c_q0_air_breathing c_q0_crew_size c_q0_crew_kinds c_q0_now_open c_q0_now_moon c_q0_now_out c_q0_now_gone c_q0_now_gas c_q0_now_place c_q0_dream_open c_q0_dream_moon c_q0_dream_out c_q0_dream_gone c_q0_dream_gas c_q0_dream_place c_q0_draws_seed c_q1 c_n2 c_n32 v11 v3 v4 v7 v9 v10 v12 else none else none
def f_L_walks_b399  (n_q1 : Nat) (n_q2 : Nat) (c_q0_plan_galleries : Int32) (c_q0_plan_one : A32) (c_q0_plan_two : A32) (c_q0_air_breathing : Int32) (c_q0_crew_size : Int32) (c_q0_crew_kinds : A32) (c_q0_now_open : Int32) (c_q0_now_moon : Int32) (c_q0_now_out : Int32) (c_q0_now_gone : Int32) (c_q0_now_gas : A32) (c_q0_now_place : A32) (c_q0_dream_open : Int32) (c_q0_dream_moon : Int32) (c_q0_dream_out : Int32) (c_q0_dream_gone : Int32) (c_q0_dream_gas : A32) (c_q0_dream_place : A32) (c_q0_draws_seed : Int32) (c_n2 : A32) (c_n32 : A32) (t0 : Int32) (t1 : Int32) (v3 : Int32) (v4 : Int32) (v7 : Int64) (v10 : Int32) : Option (Int32 × Int32 × Int32 × Int32 × Int32 × A32 × A32 × Int32) := if t0 = t1 then Option.bind (f_X10_walks c_q0_plan_galleries c_q0_plan_one c_q0_plan_two c_q0_air_breathing c_q0_crew_size c_q0_crew_kinds c_q0_now_open c_q0_now_moon c_q0_now_out c_q0_now_gone c_q0_now_gas c_q0_now_place c_q0_dream_open c_q0_dream_moon c_q0_dream_out c_q0_dream_gone c_q0_dream_gas c_q0_dream_place c_q0_draws_seed v3 v4 2) fun z_2 => if z_2.1 = v10 then Option.bind (f_X10_walks c_q0_plan_galleries c_q0_plan_one c_q0_plan_two c_q0_air_breathing c_q0_crew_size c_q0_crew_kinds c_q0_now_open c_q0_now_moon c_q0_now_out c_q0_now_gone c_q0_now_gas c_q0_now_place z_2.2.1 z_2.2.2.1 z_2.2.2.2.1 z_2.2.2.2.2.1 z_2.2.2.2.2.2.1 z_2.2.2.2.2.2.2.1 z_2.2.2.2.2.2.2.2 v3 v4 3) fun z_4 => if (lg_cmp (Int32.toInt64 z_4.1) v7) = 0 then some (1, z_4.2.1, z_4.2.2.1, z_4.2.2.2.1, z_4.2.2.2.2.1, z_4.2.2.2.2.2.1, z_4.2.2.2.2.2.2.1, z_4.2.2.2.2.2.2.2) else some (0, z_4.2.1, z_4.2.2.1, z_4.2.2.2.1, z_4.2.2.2.2.1, z_4.2.2.2.2.2.1, z_4.2.2.2.2.2.2.1, z_4.2.2.2.2.2.2.2) else some (0, z_2.2.1, z_2.2.2.1, z_2.2.2.2.1, z_2.2.2.2.2.1, z_2.2.2.2.2.2.1, z_2.2.2.2.2.2.2.1, z_2.2.2.2.2.2.2.2) else some (0, c_q0_dream_open, c_q0_dream_moon, c_q0_dream_out, c_q0_dream_gone, c_q0_dream_gas, c_q0_dream_place, c_q0_draws_seed)
def f_L_walks_b323  (n_q1 : Nat) (n_q2 : Nat) (c_q0_plan_galleries : Int32) (c_q0_plan_one : A32) (c_q0_plan_two : A32) (c_q0_air_breathing : Int32) (c_q0_crew_size : Int32) (c_q0_crew_kinds : A32) (c_q0_now_open : Int32) (c_q0_now_moon : Int32) (c_q0_now_out : Int32) (c_q0_now_gone : Int32) (c_q0_now_gas : A32) (c_q0_now_place : A32) (c_q0_dream_open : Int32) (c_q0_dream_moon : Int32) (c_q0_dream_out : Int32) (c_q0_dream_gone : Int32) (c_q0_dream_gas : A32) (c_q0_dream_place : A32) (c_q0_draws_seed : Int32) (c_n2 : A32) (c_n32 : A32) (v3 : Int32) (v4 : Int32) (v7 : Int64) : Nat → Int32 → Int32 → Int32 → Option (Int32 × Int32 × Int32 × Int32 × Int32 × A32 × A32 × Int32)
  | 0, _, _, _ => none
  | fu + 1, v9, v10, v11 => if 7 ≤ v11 then Option.bind (f_X10_walks c_q0_plan_galleries c_q0_plan_one c_q0_plan_two c_q0_air_breathing c_q0_crew_size c_q0_crew_kinds c_q0_now_open c_q0_now_moon c_q0_now_out c_q0_now_gone c_q0_now_gas c_q0_now_place c_q0_dream_open c_q0_dream_moon c_q0_dream_out c_q0_dream_gone c_q0_dream_gas c_q0_dream_place c_q0_draws_seed v3 v4 0) fun z_2 => if z_2.1 = v9 then Option.bind (f_X10_walks c_q0_plan_galleries c_q0_plan_one c_q0_plan_two c_q0_air_breathing c_q0_crew_size c_q0_crew_kinds c_q0_now_open c_q0_now_moon c_q0_now_out c_q0_now_gone c_q0_now_gas c_q0_now_place z_2.2.1 z_2.2.2.1 z_2.2.2.2.1 z_2.2.2.2.2.1 z_2.2.2.2.2.2.1 z_2.2.2.2.2.2.2.1 z_2.2.2.2.2.2.2.2 v3 v4 1) fun z_4 => if inB 20 22 then if (c_n2 (Int32.toNatClampNeg 20)) = 0 then f_L_walks_b399 n_q1 n_q2 c_q0_plan_galleries c_q0_plan_one c_q0_plan_two c_q0_air_breathing c_q0_crew_size c_q0_crew_kinds c_q0_now_open c_q0_now_moon c_q0_now_out c_q0_now_gone c_q0_now_gas c_q0_now_place z_4.2.1 z_4.2.2.1 z_4.2.2.2.1 z_4.2.2.2.2.1 z_4.2.2.2.2.2.1 z_4.2.2.2.2.2.2.1 z_4.2.2.2.2.2.2.2 c_n2 c_n32 z_4.1 (-1) v3 v4 v7 v10 else if inB 13 22 then f_L_walks_b399 n_q1 n_q2 c_q0_plan_galleries c_q0_plan_one c_q0_plan_two c_q0_air_breathing c_q0_crew_size c_q0_crew_kinds c_q0_now_open c_q0_now_moon c_q0_now_out c_q0_now_gone c_q0_now_gas c_q0_now_place z_4.2.1 z_4.2.2.1 z_4.2.2.2.1 z_4.2.2.2.2.1 z_4.2.2.2.2.2.1 z_4.2.2.2.2.2.2.1 z_4.2.2.2.2.2.2.2 c_n2 c_n32 z_4.1 (c_n2 (Int32.toNatClampNeg 13)) v3 v4 v7 v10 else none else none else some (0, z_2.2.1, z_2.2.2.1, z_2.2.2.2.1, z_2.2.2.2.2.1, z_2.2.2.2.2.2.1, z_2.2.2.2.2.2.2.1, z_2.2.2.2.2.2.2.2) else if inB 19 22 then nam (v9 + (((c_n2 (Int32.toNatClampNeg 19)) >>> (v11 &&& 31)) &&& 1)) fun v9_6 => if inB v11 22 then nam (v10 + (c_n2 v11.toNatClampNeg)) fun v10_7 => nam (v11 + 1) fun v11_8 => (f_L_walks_b323 n_q1 n_q2 c_q0_plan_galleries c_q0_plan_one c_q0_plan_two c_q0_air_breathing c_q0_crew_size c_q0_crew_kinds c_q0_now_open c_q0_now_moon c_q0_now_out c_q0_now_gone c_q0_now_gas c_q0_now_place c_q0_dream_open c_q0_dream_moon c_q0_dream_out c_q0_dream_gone c_q0_dream_gas c_q0_dream_place c_q0_draws_seed c_n2 c_n32 v3 v4 v7 fu) v9_6 v10_7 v11_8 else none else none
def f_L_walks_b45  (n_q1 : Nat) (n_q2 : Nat) (c_q0_plan_galleries : Int32) (c_q0_plan_one : A32) (c_q0_plan_two : A32) (c_q0_air_breathing : Int32) (c_q0_crew_size : Int32) (c_q0_crew_kinds : A32) (c_q0_now_open : Int32) (c_q0_now_moon : Int32) (c_q0_now_out : Int32) (c_q0_now_gone : Int32) (c_q0_now_gas : A32) (c_q0_now_place : A32) (c_q0_dream_open : Int32) (c_q0_dream_moon : Int32) (c_q0_dream_out : Int32) (c_q0_dream_gone : Int32) (c_q0_dream_gas : A32) (c_q0_dream_place : A32) (c_q0_draws_seed : Int32) (c_q1 : A32) (c_n32 : A32) (v3 : Int32) (v4 : Int32) : Nat → A32 → Int64 → Int32 → Option (Int32 × Int32 × Int32 × Int32 × Int32 × A32 × A32 × Int32)
  | 0, _, _, _ => none
  | fu + 1, c_n2, v7, v9 => if v3 ≤ v9 then f_L_walks_b323 n_q1 n_q2 c_q0_plan_galleries c_q0_plan_one c_q0_plan_two c_q0_air_breathing c_q0_crew_size c_q0_crew_kinds c_q0_now_open c_q0_now_moon c_q0_now_out c_q0_now_gone c_q0_now_gas c_q0_now_place c_q0_dream_open c_q0_dream_moon c_q0_dream_out c_q0_dream_gone c_q0_dream_gas c_q0_dream_place c_q0_draws_seed c_n2 c_n32 v3 v4 v7 FU 0 0 0 else if inB 20 22 then if (c_n2 (Int32.toNatClampNeg 20)) ≤ 0 then f_L_walks_b299 (f_L_walks_b45 n_q1 n_q2 c_q0_plan_galleries c_q0_plan_one c_q0_plan_two c_q0_air_breathing c_q0_crew_size c_q0_crew_kinds c_q0_now_open c_q0_now_moon c_q0_now_out c_q0_now_gone c_q0_now_gas c_q0_now_place c_q0_dream_open c_q0_dream_moon c_q0_dream_out c_q0_dream_gone c_q0_dream_gas c_q0_dream_place c_q0_draws_seed c_q1 c_n32 v3 v4 fu) n_q1 n_q2 c_q0_plan_galleries c_q0_plan_one c_q0_plan_two c_q0_air_breathing c_q0_crew_size c_q0_crew_kinds c_q0_now_open c_q0_now_moon c_q0_now_out c_q0_now_gone c_q0_now_gas c_q0_now_place c_q0_dream_open c_q0_dream_moon c_q0_dream_out c_q0_dream_gone c_q0_dream_gas c_q0_dream_place c_q0_draws_seed c_q1 c_n2 c_n32 v3 v4 v7 v9 else nam (((v7 * 1103515245) + 12345) - ((v7 * 1103515245) + 12345) / 2147483648 * 2147483648) fun v7_3 => if inB 20 22 then if Int32.toInt64 (c_n2 (Int32.toNatClampNeg 20)) = 0 then none else nam (Int64.toInt32 ((v7_3 / 65536) - (v7_3 / 65536) / (Int32.toInt64 (c_n2 (Int32.toNatClampNeg 20))) * (Int32.toInt64 (c_n2 (Int32.toNatClampNeg 20))))) fun v10_5 => f_L_walks_b97 (f_L_walks_b45 n_q1 n_q2 c_q0_plan_galleries c_q0_plan_one c_q0_plan_two c_q0_air_breathing c_q0_crew_size c_q0_crew_kinds c_q0_now_open c_q0_now_moon c_q0_now_out c_q0_now_gone c_q0_now_gas c_q0_now_place c_q0_dream_open c_q0_dream_moon c_q0_dream_out c_q0_dream_gone c_q0_dream_gas c_q0_dream_place c_q0_draws_seed c_q1 c_n32 v3 v4 fu) n_q1 n_q2 c_q0_plan_galleries c_q0_plan_one c_q0_plan_two c_q0_air_breathing c_q0_crew_size c_q0_crew_kinds c_q0_now_open c_q0_now_moon c_q0_now_out c_q0_now_gone c_q0_now_gas c_q0_now_place c_q0_dream_open c_q0_dream_moon c_q0_dream_out c_q0_dream_gone c_q0_dream_gas c_q0_dream_place c_q0_draws_seed c_q1 c_n2 c_n32 v3 v4 v7_3 v9 v10_5 FU 0 0 else none else none
def f_L_walks_b9  (n_q1 : Nat) (n_q2 : Nat) (c_q0_plan_galleries : Int32) (c_q0_plan_one : A32) (c_q0_plan_two : A32) (c_q0_air_breathing : Int32) (c_q0_crew_size : Int32) (c_q0_crew_kinds : A32) (c_q0_now_open : Int32) (c_q0_now_moon : Int32) (c_q0_now_out : Int32) (c_q0_now_gone : Int32) (c_q0_now_gas : A32) (c_q0_now_place : A32) (c_q0_dream_open : Int32) (c_q0_dream_moon : Int32) (c_q0_dream_out : Int32) (c_q0_dream_gone : Int32) (c_q0_dream_gas : A32) (c_q0_dream_place : A32) (c_q0_draws_seed : Int32) (c_q1 : A32) (c_q2 : A32) (v3 : Int32) (v4 : Int32) : Nat → A32 → Int32 → Option (Int32 × Int32 × Int32 × Int32 × Int32 × A32 × A32 × Int32)
  | 0, _, _ => none
  | fu + 1, c_n2, v6 => if 22 ≤ v6 then Option.bind (f_L_air n_q1 c_q1) fun z_2 => nam (Int32.toInt64 v4) fun v7_3 => f_L_walks_b45 n_q1 n_q2 c_q0_plan_galleries c_q0_plan_one c_q0_plan_two c_q0_air_breathing c_q0_crew_size c_q0_crew_kinds c_q0_now_open c_q0_now_moon c_q0_now_out c_q0_now_gone c_q0_now_gas c_q0_now_place c_q0_dream_open c_q0_dream_moon c_q0_dream_out c_q0_dream_gone c_q0_dream_gas c_q0_dream_place c_q0_draws_seed c_q1 z_2 v3 v4 FU c_n2 v7_3 0 else if inB v6 n_q2 then if inB v6 22 then nam (v6 + 1) fun v6_4 => (f_L_walks_b9 n_q1 n_q2 c_q0_plan_galleries c_q0_plan_one c_q0_plan_two c_q0_air_breathing c_q0_crew_size c_q0_crew_kinds c_q0_now_open c_q0_now_moon c_q0_now_out c_q0_now_gone c_q0_now_gas c_q0_now_place c_q0_dream_open c_q0_dream_moon c_q0_dream_out c_q0_dream_gone c_q0_dream_gas c_q0_dream_place c_q0_draws_seed c_q1 c_q2 v3 v4 fu) (upd c_n2 (Int32.toNatClampNeg v6) (c_q2 v6.toNatClampNeg)) v6_4 else none else none
def f_L_walks (n_q1 : Nat) (n_q2 : Nat) (c_q0_plan_galleries : Int32) (c_q0_plan_one : A32) (c_q0_plan_two : A32) (c_q0_air_breathing : Int32) (c_q0_crew_size : Int32) (c_q0_crew_kinds : A32) (c_q0_now_open : Int32) (c_q0_now_moon : Int32) (c_q0_now_out : Int32) (c_q0_now_gone : Int32) (c_q0_now_gas : A32) (c_q0_now_place : A32) (c_q0_dream_open : Int32) (c_q0_dream_moon : Int32) (c_q0_dream_out : Int32) (c_q0_dream_gone : Int32) (c_q0_dream_gas : A32) (c_q0_dream_place : A32) (c_q0_draws_seed : Int32) (c_q1 : A32) (c_q2 : A32) (v3 : Int32) (v4 : Int32) : Option (Int32 × Int32 × Int32 × Int32 × Int32 × A32 × A32 × Int32) := f_L_walks_b9 n_q1 n_q2 c_q0_plan_galleries c_q0_plan_one c_q0_plan_two c_q0_air_breathing c_q0_crew_size c_q0_crew_kinds c_q0_now_open c_q0_now_moon c_q0_now_out c_q0_now_gone c_q0_now_gas c_q0_now_place c_q0_dream_open c_q0_dream_moon c_q0_dream_out c_q0_dream_gone c_q0_dream_gas c_q0_dream_place c_q0_draws_seed c_q1 c_q2 v3 v4 FU (fun _ => 0) 0
def f_L_law_b159 (k93 : Int32 → Option (Int32)) (k105 : Int32 → Option (Int32)) (n_q0 : Nat) (c_q0 : A32) (c_n0_minesRead : Int32) (c_n0_doorsDone : Int32) (c_n0_page_length : Int32) (c_n0_page_letters : A32) (c_n0_page_reader_due : Int32) (c_n0_page_reader_first : Int32) (c_n0_page_reader_galleries : Int32) (c_n0_page_reader_shafts : Int32) (c_n0_plan_galleries : Int32) (c_n0_plan_doors : Int32) (c_n0_plan_shafts : Int32) (c_n0_plan_one : A32) (c_n0_plan_two : A32) (c_n0_plan_length : A32) (c_n0_plan_draught : A32) (c_n0_air_breathing : Int32) (c_n0_air_height : A32) (c_n0_air_into : A32) (c_n0_air_nearest : A32) (c_n0_smoke_lengths : A32) (c_n0_crew_size : Int32) (c_n0_crew_kinds : A32) (c_n0_now_open : Int32) (c_n0_now_moon : Int32) (c_n0_now_out : Int32) (c_n0_now_gone : Int32) (c_n0_now_gas : A32) (c_n0_now_place : A32) (c_n0_dream_open : Int32) (c_n0_dream_moon : Int32) (c_n0_dream_out : Int32) (c_n0_dream_gone : Int32) (c_n0_dream_gas : A32) (c_n0_dream_place : A32) (c_n0_draws_seed : Int32) (c_n10 : A32) (c_n15 : A32) (c_n20 : A32) (t0 : Int32) (t1 : Int32) (v6 : Int32) (v7 : Int32) : Option (Int32) := if t0 = t1 then nam (v7 + 1) fun v7_2 => k105 v7_2 else some 0
def f_L_law_b153 (k93 : Int32 → Option (Int32)) (k105 : Int32 → Option (Int32)) (n_q0 : Nat) (c_q0 : A32) (c_n0_minesRead : Int32) (c_n0_doorsDone : Int32) (c_n0_page_length : Int32) (c_n0_page_letters : A32) (c_n0_page_reader_due : Int32) (c_n0_page_reader_first : Int32) (c_n0_page_reader_galleries : Int32) (c_n0_page_reader_shafts : Int32) (c_n0_plan_galleries : Int32) (c_n0_plan_doors : Int32) (c_n0_plan_shafts : Int32) (c_n0_plan_one : A32) (c_n0_plan_two : A32) (c_n0_plan_length : A32) (c_n0_plan_draught : A32) (c_n0_air_breathing : Int32) (c_n0_air_height : A32) (c_n0_air_into : A32) (c_n0_air_nearest : A32) (c_n0_smoke_lengths : A32) (c_n0_crew_size : Int32) (c_n0_crew_kinds : A32) (c_n0_now_open : Int32) (c_n0_now_moon : Int32) (c_n0_now_out : Int32) (c_n0_now_gone : Int32) (c_n0_now_gas : A32) (c_n0_now_place : A32) (c_n0_dream_open : Int32) (c_n0_dream_moon : Int32) (c_n0_dream_out : Int32) (c_n0_dream_gone : Int32) (c_n0_dream_gas : A32) (c_n0_dream_place : A32) (c_n0_draws_seed : Int32) (c_n10 : A32) (c_n15 : A32) (c_n20 : A32) (t0 : Int32) (v6 : Int32) (v7 : Int32) : Option (Int32) := f_L_law_b159 k93 k105 n_q0 c_q0 c_n0_minesRead c_n0_doorsDone c_n0_page_length c_n0_page_letters c_n0_page_reader_due c_n0_page_reader_first c_n0_page_reader_galleries c_n0_page_reader_shafts c_n0_plan_galleries c_n0_plan_doors c_n0_plan_shafts c_n0_plan_one c_n0_plan_two c_n0_plan_length c_n0_plan_draught c_n0_air_breathing c_n0_air_height c_n0_air_into c_n0_air_nearest c_n0_smoke_lengths c_n0_crew_size c_n0_crew_kinds c_n0_now_open c_n0_now_moon c_n0_now_out c_n0_now_gone c_n0_now_gas c_n0_now_place c_n0_dream_open c_n0_dream_moon c_n0_dream_out c_n0_dream_gone c_n0_dream_gas c_n0_dream_place c_n0_draws_seed c_n10 c_n15 c_n20 t0 v6 v6 v7
def f_L_law_b158 (k93 : Int32 → Option (Int32)) (k105 : Int32 → Option (Int32)) (n_q0 : Nat) (c_q0 : A32) (c_n0_minesRead : Int32) (c_n0_doorsDone : Int32) (c_n0_page_length : Int32) (c_n0_page_letters : A32) (c_n0_page_reader_due : Int32) (c_n0_page_reader_first : Int32) (c_n0_page_reader_galleries : Int32) (c_n0_page_reader_shafts : Int32) (c_n0_plan_galleries : Int32) (c_n0_plan_doors : Int32) (c_n0_plan_shafts : Int32) (c_n0_plan_one : A32) (c_n0_plan_two : A32) (c_n0_plan_length : A32) (c_n0_plan_draught : A32) (c_n0_air_breathing : Int32) (c_n0_air_height : A32) (c_n0_air_into : A32) (c_n0_air_nearest : A32) (c_n0_smoke_lengths : A32) (c_n0_crew_size : Int32) (c_n0_crew_kinds : A32) (c_n0_now_open : Int32) (c_n0_now_moon : Int32) (c_n0_now_out : Int32) (c_n0_now_gone : Int32) (c_n0_now_gas : A32) (c_n0_now_place : A32) (c_n0_dream_open : Int32) (c_n0_dream_moon : Int32) (c_n0_dream_out : Int32) (c_n0_dream_gone : Int32) (c_n0_dream_gas : A32) (c_n0_dream_place : A32) (c_n0_draws_seed : Int32) (c_n10 : A32) (c_n15 : A32) (c_n20 : A32) (t0 : Int32) (v6 : Int32) (v7 : Int32) : Option (Int32) := f_L_law_b159 k93 k105 n_q0 c_q0 c_n0_minesRead c_n0_doorsDone c_n0_page_length c_n0_page_letters c_n0_page_reader_due c_n0_page_reader_first c_n0_page_reader_galleries c_n0_page_reader_shafts c_n0_plan_galleries c_n0_plan_doors c_n0_plan_shafts c_n0_plan_one c_n0_plan_two c_n0_plan_length c_n0_plan_draught c_n0_air_breathing c_n0_air_height c_n0_air_into c_n0_air_nearest c_n0_smoke_lengths c_n0_crew_size c_n0_crew_kinds c_n0_now_open c_n0_now_moon c_n0_now_out c_n0_now_gone c_n0_now_gas c_n0_now_place c_n0_dream_open c_n0_dream_moon c_n0_dream_out c_n0_dream_gone c_n0_dream_gas c_n0_dream_place c_n0_draws_seed c_n10 c_n15 c_n20 t0 (-1) v6 v7
def f_L_law_b105 (k93 : Int32 → Option (Int32)) (n_q0 : Nat) (c_q0 : A32) (c_n0_minesRead : Int32) (c_n0_doorsDone : Int32) (c_n0_page_length : Int32) (c_n0_page_letters : A32) (c_n0_page_reader_due : Int32) (c_n0_page_reader_first : Int32) (c_n0_page_reader_galleries : Int32) (c_n0_page_reader_shafts : Int32) (c_n0_plan_galleries : Int32) (c_n0_plan_doors : Int32) (c_n0_plan_shafts : Int32) (c_n0_plan_one : A32) (c_n0_plan_two : A32) (c_n0_plan_length : A32) (c_n0_plan_draught : A32) (c_n0_air_breathing : Int32) (c_n0_air_height : A32) (c_n0_air_into : A32) (c_n0_air_nearest : A32) (c_n0_smoke_lengths : A32) (c_n0_crew_size : Int32) (c_n0_crew_kinds : A32) (c_n0_now_open : Int32) (c_n0_now_moon : Int32) (c_n0_now_out : Int32) (c_n0_now_gone : Int32) (c_n0_now_gas : A32) (c_n0_now_place : A32) (c_n0_dream_open : Int32) (c_n0_dream_moon : Int32) (c_n0_dream_out : Int32) (c_n0_dream_gone : Int32) (c_n0_dream_gas : A32) (c_n0_dream_place : A32) (c_n0_draws_seed : Int32) (c_n10 : A32) (c_n15 : A32) (c_n20 : A32) (v6 : Int32) : Nat → Int32 → Option (Int32)
  | 0, _ => none
  | fu + 1, v7 => if 5 ≤ v7 then nam (v6 + 1) fun v6_2 => k93 v6_2 else Option.bind (f_X10_as c_n0_crew_size c_n0_crew_kinds v6 v7) fun z_3 => if v7 = 0 then f_L_law_b153 k93 (f_L_law_b105 k93 n_q0 c_q0 c_n0_minesRead c_n0_doorsDone c_n0_page_length c_n0_page_letters c_n0_page_reader_due c_n0_page_reader_first c_n0_page_reader_galleries c_n0_page_reader_shafts c_n0_plan_galleries c_n0_plan_doors c_n0_plan_shafts c_n0_plan_one c_n0_plan_two c_n0_plan_length c_n0_plan_draught c_n0_air_breathing c_n0_air_height c_n0_air_into c_n0_air_nearest c_n0_smoke_lengths c_n0_crew_size c_n0_crew_kinds c_n0_now_open c_n0_now_moon c_n0_now_out c_n0_now_gone c_n0_now_gas c_n0_now_place c_n0_dream_open c_n0_dream_moon c_n0_dream_out c_n0_dream_gone c_n0_dream_gas c_n0_dream_place c_n0_draws_seed c_n10 c_n15 c_n20 v6 fu) n_q0 c_q0 c_n0_minesRead c_n0_doorsDone c_n0_page_length c_n0_page_letters c_n0_page_reader_due c_n0_page_reader_first c_n0_page_reader_galleries c_n0_page_reader_shafts c_n0_plan_galleries c_n0_plan_doors c_n0_plan_shafts c_n0_plan_one c_n0_plan_two c_n0_plan_length c_n0_plan_draught c_n0_air_breathing c_n0_air_height c_n0_air_into c_n0_air_nearest c_n0_smoke_lengths c_n0_crew_size c_n0_crew_kinds c_n0_now_open c_n0_now_moon c_n0_now_out c_n0_now_gone c_n0_now_gas c_n0_now_place c_n0_dream_open c_n0_dream_moon c_n0_dream_out c_n0_dream_gone c_n0_dream_gas c_n0_dream_place c_n0_draws_seed c_n10 c_n15 c_n20 z_3 v6 v7 else if inB (7 + v6) 22 then if v7 = (c_n15 (7 + v6).toNatClampNeg) then f_L_law_b153 k93 (f_L_law_b105 k93 n_q0 c_q0 c_n0_minesRead c_n0_doorsDone c_n0_page_length c_n0_page_letters c_n0_page_reader_due c_n0_page_reader_first c_n0_page_reader_galleries c_n0_page_reader_shafts c_n0_plan_galleries c_n0_plan_doors c_n0_plan_shafts c_n0_plan_one c_n0_plan_two c_n0_plan_length c_n0_plan_draught c_n0_air_breathing c_n0_air_height c_n0_air_into c_n0_air_nearest c_n0_smoke_lengths c_n0_crew_size c_n0_crew_kinds c_n0_now_open c_n0_now_moon c_n0_now_out c_n0_now_gone c_n0_now_gas c_n0_now_place c_n0_dream_open c_n0_dream_moon c_n0_dream_out c_n0_dream_gone c_n0_dream_gas c_n0_dream_place c_n0_draws_seed c_n10 c_n15 c_n20 v6 fu) n_q0 c_q0 c_n0_minesRead c_n0_doorsDone c_n0_page_length c_n0_page_letters c_n0_page_reader_due c_n0_page_reader_first c_n0_page_reader_galleries c_n0_page_reader_shafts c_n0_plan_galleries c_n0_plan_doors c_n0_plan_shafts c_n0_plan_one c_n0_plan_two c_n0_plan_length c_n0_plan_draught c_n0_air_breathing c_n0_air_height c_n0_air_into c_n0_air_nearest c_n0_smoke_lengths c_n0_crew_size c_n0_crew_kinds c_n0_now_open c_n0_now_moon c_n0_now_out c_n0_now_gone c_n0_now_gas c_n0_now_place c_n0_dream_open c_n0_dream_moon c_n0_dream_out c_n0_dream_gone c_n0_dream_gas c_n0_dream_place c_n0_draws_seed c_n10 c_n15 c_n20 z_3 v6 v7 else if v7 = 1 then if inB (7 + v6) 22 then if (c_n15 (7 + v6).toNatClampNeg) = 4 then f_L_law_b153 k93 (f_L_law_b105 k93 n_q0 c_q0 c_n0_minesRead c_n0_doorsDone c_n0_page_length c_n0_page_letters c_n0_page_reader_due c_n0_page_reader_first c_n0_page_reader_galleries c_n0_page_reader_shafts c_n0_plan_galleries c_n0_plan_doors c_n0_plan_shafts c_n0_plan_one c_n0_plan_two c_n0_plan_length c_n0_plan_draught c_n0_air_breathing c_n0_air_height c_n0_air_into c_n0_air_nearest c_n0_smoke_lengths c_n0_crew_size c_n0_crew_kinds c_n0_now_open c_n0_now_moon c_n0_now_out c_n0_now_gone c_n0_now_gas c_n0_now_place c_n0_dream_open c_n0_dream_moon c_n0_dream_out c_n0_dream_gone c_n0_dream_gas c_n0_dream_place c_n0_draws_seed c_n10 c_n15 c_n20 v6 fu) n_q0 c_q0 c_n0_minesRead c_n0_doorsDone c_n0_page_length c_n0_page_letters c_n0_page_reader_due c_n0_page_reader_first c_n0_page_reader_galleries c_n0_page_reader_shafts c_n0_plan_galleries c_n0_plan_doors c_n0_plan_shafts c_n0_plan_one c_n0_plan_two c_n0_plan_length c_n0_plan_draught c_n0_air_breathing c_n0_air_height c_n0_air_into c_n0_air_nearest c_n0_smoke_lengths c_n0_crew_size c_n0_crew_kinds c_n0_now_open c_n0_now_moon c_n0_now_out c_n0_now_gone c_n0_now_gas c_n0_now_place c_n0_dream_open c_n0_dream_moon c_n0_dream_out c_n0_dream_gone c_n0_dream_gas c_n0_dream_place c_n0_draws_seed c_n10 c_n15 c_n20 z_3 v6 v7 else f_L_law_b158 k93 (f_L_law_b105 k93 n_q0 c_q0 c_n0_minesRead c_n0_doorsDone c_n0_page_length c_n0_page_letters c_n0_page_reader_due c_n0_page_reader_first c_n0_page_reader_galleries c_n0_page_reader_shafts c_n0_plan_galleries c_n0_plan_doors c_n0_plan_shafts c_n0_plan_one c_n0_plan_two c_n0_plan_length c_n0_plan_draught c_n0_air_breathing c_n0_air_height c_n0_air_into c_n0_air_nearest c_n0_smoke_lengths c_n0_crew_size c_n0_crew_kinds c_n0_now_open c_n0_now_moon c_n0_now_out c_n0_now_gone c_n0_now_gas c_n0_now_place c_n0_dream_open c_n0_dream_moon c_n0_dream_out c_n0_dream_gone c_n0_dream_gas c_n0_dream_place c_n0_draws_seed c_n10 c_n15 c_n20 v6 fu) n_q0 c_q0 c_n0_minesRead c_n0_doorsDone c_n0_page_length c_n0_page_letters c_n0_page_reader_due c_n0_page_reader_first c_n0_page_reader_galleries c_n0_page_reader_shafts c_n0_plan_galleries c_n0_plan_doors c_n0_plan_shafts c_n0_plan_one c_n0_plan_two c_n0_plan_length c_n0_plan_draught c_n0_air_breathing c_n0_air_height c_n0_air_into c_n0_air_nearest c_n0_smoke_lengths c_n0_crew_size c_n0_crew_kinds c_n0_now_open c_n0_now_moon c_n0_now_out c_n0_now_gone c_n0_now_gas c_n0_now_place c_n0_dream_open c_n0_dream_moon c_n0_dream_out c_n0_dream_gone c_n0_dream_gas c_n0_dream_place c_n0_draws_seed c_n10 c_n15 c_n20 z_3 v6 v7 else none else f_L_law_b158 k93 (f_L_law_b105 k93 n_q0 c_q0 c_n0_minesRead c_n0_doorsDone c_n0_page_length c_n0_page_letters c_n0_page_reader_due c_n0_page_reader_first c_n0_page_reader_galleries c_n0_page_reader_shafts c_n0_plan_galleries c_n0_plan_doors c_n0_plan_shafts c_n0_plan_one c_n0_plan_two c_n0_plan_length c_n0_plan_draught c_n0_air_breathing c_n0_air_height c_n0_air_into c_n0_air_nearest c_n0_smoke_lengths c_n0_crew_size c_n0_crew_kinds c_n0_now_open c_n0_now_moon c_n0_now_out c_n0_now_gone c_n0_now_gas c_n0_now_place c_n0_dream_open c_n0_dream_moon c_n0_dream_out c_n0_dream_gone c_n0_dream_gas c_n0_dream_place c_n0_draws_seed c_n10 c_n15 c_n20 v6 fu) n_q0 c_q0 c_n0_minesRead c_n0_doorsDone c_n0_page_length c_n0_page_letters c_n0_page_reader_due c_n0_page_reader_first c_n0_page_reader_galleries c_n0_page_reader_shafts c_n0_plan_galleries c_n0_plan_doors c_n0_plan_shafts c_n0_plan_one c_n0_plan_two c_n0_plan_length c_n0_plan_draught c_n0_air_breathing c_n0_air_height c_n0_air_into c_n0_air_nearest c_n0_smoke_lengths c_n0_crew_size c_n0_crew_kinds c_n0_now_open c_n0_now_moon c_n0_now_out c_n0_now_gone c_n0_now_gas c_n0_now_place c_n0_dream_open c_n0_dream_moon c_n0_dream_out c_n0_dream_gone c_n0_dream_gas c_n0_dream_place c_n0_draws_seed c_n10 c_n15 c_n20 z_3 v6 v7 else none
def f_L_law_b758 (k179 : Int32 → A32 → A32 → A32 → A32 → Int32 → Int32 → Int32 → Int32 → A32 → A32 → Int32 → Int32 → Int32 → Int32 → A32 → A32 → Int32 → A32 → A32 → Int32 → Option (Int32)) (n_q0 : Nat) (c_q0 : A32) (c_n0_minesRead : Int32) (c_n0_doorsDone : Int32) (c_n0_page_length : Int32) (c_n0_page_letters : A32) (c_n0_page_reader_due : Int32) (c_n0_page_reader_first : Int32) (c_n0_page_reader_galleries : Int32) (c_n0_page_reader_shafts : Int32) (c_n0_plan_galleries : Int32) (c_n0_plan_doors : Int32) (c_n0_plan_shafts : Int32) (c_n0_plan_one : A32) (c_n0_plan_two : A32) (c_n0_plan_length : A32) (c_n0_plan_draught : A32) (c_n0_air_breathing : Int32) (c_n0_air_height : A32) (c_n0_air_into : A32) (c_n0_air_nearest : A32) (c_n0_smoke_lengths : A32) (c_n0_crew_size : Int32) (c_n0_crew_kinds : A32) (c_n0_now_open : Int32) (c_n0_now_moon : Int32) (c_n0_now_out : Int32) (c_n0_now_gone : Int32) (c_n0_now_gas : A32) (c_n0_now_place : A32) (c_n0_dream_open : Int32) (c_n0_dream_moon : Int32) (c_n0_dream_out : Int32) (c_n0_dream_gone : Int32) (c_n0_dream_gas : A32) (c_n0_dream_place : A32) (c_n0_draws_seed : Int32) (c_n10 : A32) (c_n15 : A32) (c_n20 : A32) (v6 : Int32) : Option (Int32) := Option.bind (f_L_stands 59 22 c_n0_minesRead c_n0_doorsDone c_n0_page_length c_n0_plan_galleries c_n0_plan_doors c_n0_plan_shafts c_n0_plan_one c_n0_plan_two c_n0_plan_length c_n0_plan_draught c_n0_air_breathing c_n0_air_height c_n0_air_into c_n0_crew_size c_n0_crew_kinds c_n0_now_open c_n0_now_moon c_n0_now_out c_n0_now_gone c_n0_now_gas c_n0_now_place c_n10 c_n15) fun z_1 => if z_1 = 0 then some 0 else nam (v6 + 1) fun v6_3 => k179 c_n0_air_breathing c_n0_air_height c_n0_air_into c_n0_air_nearest c_n0_smoke_lengths c_n0_now_open c_n0_now_moon c_n0_now_out c_n0_now_gone c_n0_now_gas c_n0_now_place c_n0_dream_open c_n0_dream_moon c_n0_dream_out c_n0_dream_gone c_n0_dream_gas c_n0_dream_place c_n0_draws_seed c_n10 c_n15 v6_3
def f_L_law_b331 (k179 : Int32 → A32 → A32 → A32 → A32 → Int32 → Int32 → Int32 → Int32 → A32 → A32 → Int32 → Int32 → Int32 → Int32 → A32 → A32 → Int32 → A32 → A32 → Int32 → Option (Int32)) (n_q0 : Nat) (c_q0 : A32) (c_n0_minesRead : Int32) (c_n0_doorsDone : Int32) (c_n0_page_length : Int32) (c_n0_page_letters : A32) (c_n0_page_reader_due : Int32) (c_n0_page_reader_first : Int32) (c_n0_page_reader_galleries : Int32) (c_n0_page_reader_shafts : Int32) (c_n0_plan_galleries : Int32) (c_n0_plan_doors : Int32) (c_n0_plan_shafts : Int32) (c_n0_plan_one : A32) (c_n0_plan_two : A32) (c_n0_plan_length : A32) (c_n0_plan_draught : A32) (c_n0_air_breathing : Int32) (c_n0_air_height : A32) (c_n0_air_into : A32) (c_n0_air_nearest : A32) (c_n0_smoke_lengths : A32) (c_n0_crew_size : Int32) (c_n0_crew_kinds : A32) (c_n0_now_open : Int32) (c_n0_now_moon : Int32) (c_n0_now_out : Int32) (c_n0_now_gone : Int32) (c_n0_now_gas : A32) (c_n0_now_place : A32) (c_n0_dream_open : Int32) (c_n0_dream_moon : Int32) (c_n0_dream_out : Int32) (c_n0_dream_gone : Int32) (c_n0_dream_gas : A32) (c_n0_dream_place : A32) (c_n0_draws_seed : Int32) (c_n10 : A32) (c_n15 : A32) (c_n20 : A32) (v6 : Int32) : Option (Int32) := f_L_law_b758 k179 n_q0 c_q0 c_n0_minesRead c_n0_doorsDone c_n0_page_length c_n0_page_letters c_n0_page_reader_due c_n0_page_reader_first c_n0_page_reader_galleries c_n0_page_reader_shafts c_n0_plan_galleries c_n0_plan_doors c_n0_plan_shafts c_n0_plan_one c_n0_plan_two c_n0_plan_length c_n0_plan_draught c_n0_air_breathing c_n0_air_height c_n0_air_into c_n0_air_nearest c_n0_smoke_lengths c_n0_crew_size c_n0_crew_kinds c_n0_now_open c_n0_now_moon c_n0_now_out c_n0_now_gone c_n0_now_gas c_n0_now_place c_n0_dream_open c_n0_dream_moon c_n0_dream_out c_n0_dream_gone c_n0_dream_gas c_n0_dream_place c_n0_draws_seed c_n10 c_n15 c_n20 v6
def f_L_law_b330 (k179 : Int32 → A32 → A32 → A32 → A32 → Int32 → Int32 → Int32 → Int32 → A32 → A32 → Int32 → Int32 → Int32 → Int32 → A32 → A32 → Int32 → A32 → A32 → Int32 → Option (Int32)) (n_q0 : Nat) (c_q0 : A32) (c_n0_minesRead : Int32) (c_n0_doorsDone : Int32) (c_n0_page_length : Int32) (c_n0_page_letters : A32) (c_n0_page_reader_due : Int32) (c_n0_page_reader_first : Int32) (c_n0_page_reader_galleries : Int32) (c_n0_page_reader_shafts : Int32) (c_n0_plan_galleries : Int32) (c_n0_plan_doors : Int32) (c_n0_plan_shafts : Int32) (c_n0_plan_one : A32) (c_n0_plan_two : A32) (c_n0_plan_length : A32) (c_n0_plan_draught : A32) (c_n0_air_breathing : Int32) (c_n0_air_height : A32) (c_n0_air_into : A32) (c_n0_air_nearest : A32) (c_n0_smoke_lengths : A32) (c_n0_crew_size : Int32) (c_n0_crew_kinds : A32) (c_n0_now_open : Int32) (c_n0_now_moon : Int32) (c_n0_now_out : Int32) (c_n0_now_gone : Int32) (c_n0_now_gas : A32) (c_n0_now_place : A32) (c_n0_dream_open : Int32) (c_n0_dream_moon : Int32) (c_n0_dream_out : Int32) (c_n0_dream_gone : Int32) (c_n0_dream_gas : A32) (c_n0_dream_place : A32) (c_n0_draws_seed : Int32) (c_n10 : A32) (c_n15 : A32) (c_n20 : A32) (t1 : Int32) (t2 : Int32) (v6 : Int32) : Option (Int32) := if inB t1 59 then f_L_law_b331 k179 n_q0 c_q0 c_n0_minesRead c_n0_doorsDone c_n0_page_length c_n0_page_letters c_n0_page_reader_due c_n0_page_reader_first c_n0_page_reader_galleries c_n0_page_reader_shafts c_n0_plan_galleries c_n0_plan_doors c_n0_plan_shafts c_n0_plan_one c_n0_plan_two c_n0_plan_length c_n0_plan_draught c_n0_air_breathing c_n0_air_height c_n0_air_into c_n0_air_nearest c_n0_smoke_lengths c_n0_crew_size c_n0_crew_kinds c_n0_now_open c_n0_now_moon c_n0_now_out c_n0_now_gone c_n0_now_gas c_n0_now_place c_n0_dream_open c_n0_dream_moon c_n0_dream_out c_n0_dream_gone c_n0_dream_gas c_n0_dream_place c_n0_draws_seed (upd c_n10 (Int32.toNatClampNeg t1) t2) c_n15 c_n20 v6 else none
def f_L_law_b298 (k179 : Int32 → A32 → A32 → A32 → A32 → Int32 → Int32 → Int32 → Int32 → A32 → A32 → Int32 → Int32 → Int32 → Int32 → A32 → A32 → Int32 → A32 → A32 → Int32 → Option (Int32)) (n_q0 : Nat) (c_q0 : A32) (c_n0_minesRead : Int32) (c_n0_doorsDone : Int32) (c_n0_page_length : Int32) (c_n0_page_letters : A32) (c_n0_page_reader_due : Int32) (c_n0_page_reader_first : Int32) (c_n0_page_reader_galleries : Int32) (c_n0_page_reader_shafts : Int32) (c_n0_plan_galleries : Int32) (c_n0_plan_doors : Int32) (c_n0_plan_shafts : Int32) (c_n0_plan_one : A32) (c_n0_plan_two : A32) (c_n0_plan_length : A32) (c_n0_plan_draught : A32) (c_n0_air_breathing : Int32) (c_n0_air_height : A32) (c_n0_air_into : A32) (c_n0_air_nearest : A32) (c_n0_smoke_lengths : A32) (c_n0_crew_size : Int32) (c_n0_crew_kinds : A32) (c_n0_now_open : Int32) (c_n0_now_moon : Int32) (c_n0_now_out : Int32) (c_n0_now_gone : Int32) (c_n0_now_gas : A32) (c_n0_now_place : A32) (c_n0_dream_open : Int32) (c_n0_dream_moon : Int32) (c_n0_dream_out : Int32) (c_n0_dream_gone : Int32) (c_n0_dream_gas : A32) (c_n0_dream_place : A32) (c_n0_draws_seed : Int32) (c_n10 : A32) (c_n15 : A32) (c_n20 : A32) (t0 : Int32) (t1 : Int32) (v6 : Int32) (v9 : Int32) (v11 : Int32) : Option (Int32) := if t0 = t1 then if inB (31 + v9) 59 then if (c_n10 (31 + v9).toNatClampNeg) = 1 then if v11 = 0 then f_L_law_b330 k179 n_q0 c_q0 c_n0_minesRead c_n0_doorsDone c_n0_page_length c_n0_page_letters c_n0_page_reader_due c_n0_page_reader_first c_n0_page_reader_galleries c_n0_page_reader_shafts c_n0_plan_galleries c_n0_plan_doors c_n0_plan_shafts c_n0_plan_one c_n0_plan_two c_n0_plan_length c_n0_plan_draught c_n0_air_breathing c_n0_air_height c_n0_air_into c_n0_air_nearest c_n0_smoke_lengths c_n0_crew_size c_n0_crew_kinds c_n0_now_open c_n0_now_moon c_n0_now_out c_n0_now_gone c_n0_now_gas c_n0_now_place c_n0_dream_open c_n0_dream_moon c_n0_dream_out c_n0_dream_gone c_n0_dream_gas c_n0_dream_place c_n0_draws_seed c_n10 c_n15 c_n20 (41 + v9) 0 v6 else f_L_law_b330 k179 n_q0 c_q0 c_n0_minesRead c_n0_doorsDone c_n0_page_length c_n0_page_letters c_n0_page_reader_due c_n0_page_reader_first c_n0_page_reader_galleries c_n0_page_reader_shafts c_n0_plan_galleries c_n0_plan_doors c_n0_plan_shafts c_n0_plan_one c_n0_plan_two c_n0_plan_length c_n0_plan_draught c_n0_air_breathing c_n0_air_height c_n0_air_into c_n0_air_nearest c_n0_smoke_lengths c_n0_crew_size c_n0_crew_kinds c_n0_now_open c_n0_now_moon c_n0_now_out c_n0_now_gone c_n0_now_gas c_n0_now_place c_n0_dream_open c_n0_dream_moon c_n0_dream_out c_n0_dream_gone c_n0_dream_gas c_n0_dream_place c_n0_draws_seed c_n10 c_n15 c_n20 (41 + v9) 1 v6 else f_L_law_b331 k179 n_q0 c_q0 c_n0_minesRead c_n0_doorsDone c_n0_page_length c_n0_page_letters c_n0_page_reader_due c_n0_page_reader_first c_n0_page_reader_galleries c_n0_page_reader_shafts c_n0_plan_galleries c_n0_plan_doors c_n0_plan_shafts c_n0_plan_one c_n0_plan_two c_n0_plan_length c_n0_plan_draught c_n0_air_breathing c_n0_air_height c_n0_air_into c_n0_air_nearest c_n0_smoke_lengths c_n0_crew_size c_n0_crew_kinds c_n0_now_open c_n0_now_moon c_n0_now_out c_n0_now_gone c_n0_now_gas c_n0_now_place c_n0_dream_open c_n0_dream_moon c_n0_dream_out c_n0_dream_gone c_n0_dream_gas c_n0_dream_place c_n0_draws_seed c_n10 c_n15 c_n20 v6 else none else some 0
def f_L_law_b266 (k179 : Int32 → A32 → A32 → A32 → A32 → Int32 → Int32 → Int32 → Int32 → A32 → A32 → Int32 → Int32 → Int32 → Int32 → A32 → A32 → Int32 → A32 → A32 → Int32 → Option (Int32)) (n_q0 : Nat) (c_q0 : A32) (c_n0_minesRead : Int32) (c_n0_doorsDone : Int32) (c_n0_page_length : Int32) (c_n0_page_letters : A32) (c_n0_page_reader_due : Int32) (c_n0_page_reader_first : Int32) (c_n0_page_reader_galleries : Int32) (c_n0_page_reader_shafts : Int32) (c_n0_plan_galleries : Int32) (c_n0_plan_doors : Int32) (c_n0_plan_shafts : Int32) (c_n0_plan_one : A32) (c_n0_plan_two : A32) (c_n0_plan_length : A32) (c_n0_plan_draught : A32) (c_n0_air_breathing : Int32) (c_n0_air_height : A32) (c_n0_air_into : A32) (c_n0_air_nearest : A32) (c_n0_smoke_lengths : A32) (c_n0_crew_size : Int32) (c_n0_crew_kinds : A32) (c_n0_now_open : Int32) (c_n0_now_moon : Int32) (c_n0_now_out : Int32) (c_n0_now_gone : Int32) (c_n0_now_gas : A32) (c_n0_now_place : A32) (c_n0_dream_open : Int32) (c_n0_dream_moon : Int32) (c_n0_dream_out : Int32) (c_n0_dream_gone : Int32) (c_n0_dream_gas : A32) (c_n0_dream_place : A32) (c_n0_draws_seed : Int32) (c_n10 : A32) (c_n15 : A32) (c_n20 : A32) (t0 : Int32) (v6 : Int32) (v9 : Int32) : Option (Int32) := Option.bind (f_X10_door c_n0_plan_galleries c_n0_plan_doors c_n0_plan_shafts c_n0_plan_one c_n0_plan_two c_n0_plan_length c_n0_plan_draught c_n0_air_breathing c_n0_air_height c_n0_air_into c_n0_air_nearest c_n0_smoke_lengths c_n0_now_open c_n0_now_moon v9 t0) fun z_1 => if inB (31 + v9) 59 then if (c_n10 (31 + v9).toNatClampNeg) = 0 then f_L_law_b298 k179 n_q0 c_q0 c_n0_minesRead c_n0_doorsDone c_n0_page_length c_n0_page_letters c_n0_page_reader_due c_n0_page_reader_first c_n0_page_reader_galleries c_n0_page_reader_shafts c_n0_plan_galleries c_n0_plan_doors c_n0_plan_shafts c_n0_plan_one c_n0_plan_two c_n0_plan_length c_n0_plan_draught z_1.2.1 z_1.2.2.1 z_1.2.2.2.1 z_1.2.2.2.2.1 z_1.2.2.2.2.2.1 c_n0_crew_size c_n0_crew_kinds z_1.2.2.2.2.2.2 c_n0_now_moon c_n0_now_out c_n0_now_gone c_n0_now_gas c_n0_now_place c_n0_dream_open c_n0_dream_moon c_n0_dream_out c_n0_dream_gone c_n0_dream_gas c_n0_dream_place c_n0_draws_seed c_n10 c_n15 c_n20 z_1.1 (-103) v6 v9 t0 else if inB (41 + v9) 59 then f_L_law_b298 k179 n_q0 c_q0 c_n0_minesRead c_n0_doorsDone c_n0_page_length c_n0_page_letters c_n0_page_reader_due c_n0_page_reader_first c_n0_page_reader_galleries c_n0_page_reader_shafts c_n0_plan_galleries c_n0_plan_doors c_n0_plan_shafts c_n0_plan_one c_n0_plan_two c_n0_plan_length c_n0_plan_draught z_1.2.1 z_1.2.2.1 z_1.2.2.2.1 z_1.2.2.2.2.1 z_1.2.2.2.2.2.1 c_n0_crew_size c_n0_crew_kinds z_1.2.2.2.2.2.2 c_n0_now_moon c_n0_now_out c_n0_now_gone c_n0_now_gas c_n0_now_place c_n0_dream_open c_n0_dream_moon c_n0_dream_out c_n0_dream_gone c_n0_dream_gas c_n0_dream_place c_n0_draws_seed c_n10 c_n15 c_n20 z_1.1 (c_n10 (41 + v9).toNatClampNeg) v6 v9 t0 else none else none
def f_L_law_b375 (k179 : Int32 → A32 → A32 → A32 → A32 → Int32 → Int32 → Int32 → Int32 → A32 → A32 → Int32 → Int32 → Int32 → Int32 → A32 → A32 → Int32 → A32 → A32 → Int32 → Option (Int32)) (n_q0 : Nat) (c_q0 : A32) (c_n0_minesRead : Int32) (c_n0_doorsDone : Int32) (c_n0_page_length : Int32) (c_n0_page_letters : A32) (c_n0_page_reader_due : Int32) (c_n0_page_reader_first : Int32) (c_n0_page_reader_galleries : Int32) (c_n0_page_reader_shafts : Int32) (c_n0_plan_galleries : Int32) (c_n0_plan_doors : Int32) (c_n0_plan_shafts : Int32) (c_n0_plan_one : A32) (c_n0_plan_two : A32) (c_n0_plan_length : A32) (c_n0_plan_draught : A32) (c_n0_air_breathing : Int32) (c_n0_air_height : A32) (c_n0_air_into : A32) (c_n0_air_nearest : A32) (c_n0_smoke_lengths : A32) (c_n0_crew_size : Int32) (c_n0_crew_kinds : A32) (c_n0_now_open : Int32) (c_n0_now_moon : Int32) (c_n0_now_out : Int32) (c_n0_now_gone : Int32) (c_n0_now_gas : A32) (c_n0_now_place : A32) (c_n0_dream_open : Int32) (c_n0_dream_moon : Int32) (c_n0_dream_out : Int32) (c_n0_dream_gone : Int32) (c_n0_dream_gas : A32) (c_n0_dream_place : A32) (c_n0_draws_seed : Int32) (c_n10 : A32) (c_n15 : A32) (c_n20 : A32) (v6 : Int32) (v7 : Int32) : Option (Int32) := Option.bind (f_L_at (v7 >>> (12 &&& 31)) 7) fun z_1 => Option.bind (f_L_smoke 59 c_n0_plan_galleries c_n0_plan_shafts c_n0_plan_one c_n0_plan_two c_n0_air_into c_n0_smoke_lengths c_n10 z_1) fun z_2 => if z_2 = 0 then some 0 else f_L_law_b758 k179 n_q0 c_q0 c_n0_minesRead c_n0_doorsDone c_n0_page_length c_n0_page_letters c_n0_page_reader_due c_n0_page_reader_first c_n0_page_reader_galleries c_n0_page_reader_shafts c_n0_plan_galleries c_n0_plan_doors c_n0_plan_shafts c_n0_plan_one c_n0_plan_two c_n0_plan_length c_n0_plan_draught c_n0_air_breathing c_n0_air_height c_n0_air_into c_n0_air_nearest c_n0_smoke_lengths c_n0_crew_size c_n0_crew_kinds c_n0_now_open c_n0_now_moon c_n0_now_out c_n0_now_gone c_n0_now_gas c_n0_now_place c_n0_dream_open c_n0_dream_moon c_n0_dream_out c_n0_dream_gone c_n0_dream_gas c_n0_dream_place c_n0_draws_seed c_n10 c_n15 c_n20 v6
def f_L_law_b616 (k179 : Int32 → A32 → A32 → A32 → A32 → Int32 → Int32 → Int32 → Int32 → A32 → A32 → Int32 → Int32 → Int32 → Int32 → A32 → A32 → Int32 → A32 → A32 → Int32 → Option (Int32)) (n_q0 : Nat) (c_q0 : A32) (c_n0_minesRead : Int32) (c_n0_doorsDone : Int32) (c_n0_page_length : Int32) (c_n0_page_letters : A32) (c_n0_page_reader_due : Int32) (c_n0_page_reader_first : Int32) (c_n0_page_reader_galleries : Int32) (c_n0_page_reader_shafts : Int32) (c_n0_plan_galleries : Int32) (c_n0_plan_doors : Int32) (c_n0_plan_shafts : Int32) (c_n0_plan_one : A32) (c_n0_plan_two : A32) (c_n0_plan_length : A32) (c_n0_plan_draught : A32) (c_n0_air_breathing : Int32) (c_n0_air_height : A32) (c_n0_air_into : A32) (c_n0_air_nearest : A32) (c_n0_smoke_lengths : A32) (c_n0_crew_size : Int32) (c_n0_crew_kinds : A32) (c_n0_now_open : Int32) (c_n0_now_moon : Int32) (c_n0_now_out : Int32) (c_n0_now_gone : Int32) (c_n0_now_gas : A32) (c_n0_now_place : A32) (c_n0_dream_open : Int32) (c_n0_dream_moon : Int32) (c_n0_dream_out : Int32) (c_n0_dream_gone : Int32) (c_n0_dream_gas : A32) (c_n0_dream_place : A32) (c_n0_draws_seed : Int32) (c_n10 : A32) (c_n15 : A32) (c_n20 : A32) (t0 : Int32) (t1 : Int32) (v6 : Int32) : Option (Int32) := if t0 = t1 then f_L_law_b758 k179 n_q0 c_q0 c_n0_minesRead c_n0_doorsDone c_n0_page_length c_n0_page_letters c_n0_page_reader_due c_n0_page_reader_first c_n0_page_reader_galleries c_n0_page_reader_shafts c_n0_plan_galleries c_n0_plan_doors c_n0_plan_shafts c_n0_plan_one c_n0_plan_two c_n0_plan_length c_n0_plan_draught c_n0_air_breathing c_n0_air_height c_n0_air_into c_n0_air_nearest c_n0_smoke_lengths c_n0_crew_size c_n0_crew_kinds c_n0_now_open c_n0_now_moon c_n0_now_out c_n0_now_gone c_n0_now_gas c_n0_now_place c_n0_dream_open c_n0_dream_moon c_n0_dream_out c_n0_dream_gone c_n0_dream_gas c_n0_dream_place c_n0_draws_seed c_n10 c_n15 c_n20 v6 else some 0
def f_L_law_b591 (k179 : Int32 → A32 → A32 → A32 → A32 → Int32 → Int32 → Int32 → Int32 → A32 → A32 → Int32 → Int32 → Int32 → Int32 → A32 → A32 → Int32 → A32 → A32 → Int32 → Option (Int32)) (n_q0 : Nat) (c_q0 : A32) (c_n0_minesRead : Int32) (c_n0_doorsDone : Int32) (c_n0_page_length : Int32) (c_n0_page_letters : A32) (c_n0_page_reader_due : Int32) (c_n0_page_reader_first : Int32) (c_n0_page_reader_galleries : Int32) (c_n0_page_reader_shafts : Int32) (c_n0_plan_galleries : Int32) (c_n0_plan_doors : Int32) (c_n0_plan_shafts : Int32) (c_n0_plan_one : A32) (c_n0_plan_two : A32) (c_n0_plan_length : A32) (c_n0_plan_draught : A32) (c_n0_air_breathing : Int32) (c_n0_air_height : A32) (c_n0_air_into : A32) (c_n0_air_nearest : A32) (c_n0_smoke_lengths : A32) (c_n0_crew_size : Int32) (c_n0_crew_kinds : A32) (c_n0_now_open : Int32) (c_n0_now_moon : Int32) (c_n0_now_out : Int32) (c_n0_now_gone : Int32) (c_n0_now_gas : A32) (c_n0_now_place : A32) (c_n0_dream_open : Int32) (c_n0_dream_moon : Int32) (c_n0_dream_out : Int32) (c_n0_dream_gone : Int32) (c_n0_dream_gas : A32) (c_n0_dream_place : A32) (c_n0_draws_seed : Int32) (c_n10 : A32) (c_n15 : A32) (c_n20 : A32) (v6 : Int32) (v9 : Int32) (v10 : Int32) (v12 : Int32) : Option (Int32) := Option.bind (f_X10_walk c_n0_plan_galleries c_n0_plan_one c_n0_plan_two c_n0_crew_size c_n0_crew_kinds c_n0_now_open c_n0_now_out c_n0_now_place v10 v9) fun z_1 => if v12 = 0 then f_L_law_b616 k179 n_q0 c_q0 c_n0_minesRead c_n0_doorsDone c_n0_page_length c_n0_page_letters c_n0_page_reader_due c_n0_page_reader_first c_n0_page_reader_galleries c_n0_page_reader_shafts c_n0_plan_galleries c_n0_plan_doors c_n0_plan_shafts c_n0_plan_one c_n0_plan_two c_n0_plan_length c_n0_plan_draught c_n0_air_breathing c_n0_air_height c_n0_air_into c_n0_air_nearest c_n0_smoke_lengths c_n0_crew_size c_n0_crew_kinds c_n0_now_open c_n0_now_moon c_n0_now_out c_n0_now_gone c_n0_now_gas z_1.2 c_n0_dream_open c_n0_dream_moon c_n0_dream_out c_n0_dream_gone c_n0_dream_gas c_n0_dream_place c_n0_draws_seed c_n10 c_n15 c_n20 z_1.1 (-103) v6 else if inB (13 + v10) 22 then f_L_law_b616 k179 n_q0 c_q0 c_n0_minesRead c_n0_doorsDone c_n0_page_length c_n0_page_letters c_n0_page_reader_due c_n0_page_reader_first c_n0_page_reader_galleries c_n0_page_reader_shafts c_n0_plan_galleries c_n0_plan_doors c_n0_plan_shafts c_n0_plan_one c_n0_plan_two c_n0_plan_length c_n0_plan_draught c_n0_air_breathing c_n0_air_height c_n0_air_into c_n0_air_nearest c_n0_smoke_lengths c_n0_crew_size c_n0_crew_kinds c_n0_now_open c_n0_now_moon c_n0_now_out c_n0_now_gone c_n0_now_gas z_1.2 c_n0_dream_open c_n0_dream_moon c_n0_dream_out c_n0_dream_gone c_n0_dream_gas c_n0_dream_place c_n0_draws_seed c_n10 c_n15 c_n20 z_1.1 (c_n15 (13 + v10).toNatClampNeg) v6 else none
def f_L_law_b564 (k179 : Int32 → A32 → A32 → A32 → A32 → Int32 → Int32 → Int32 → Int32 → A32 → A32 → Int32 → Int32 → Int32 → Int32 → A32 → A32 → Int32 → A32 → A32 → Int32 → Option (Int32)) (n_q0 : Nat) (c_q0 : A32) (c_n0_minesRead : Int32) (c_n0_doorsDone : Int32) (c_n0_page_length : Int32) (c_n0_page_letters : A32) (c_n0_page_reader_due : Int32) (c_n0_page_reader_first : Int32) (c_n0_page_reader_galleries : Int32) (c_n0_page_reader_shafts : Int32) (c_n0_plan_galleries : Int32) (c_n0_plan_doors : Int32) (c_n0_plan_shafts : Int32) (c_n0_plan_one : A32) (c_n0_plan_two : A32) (c_n0_plan_length : A32) (c_n0_plan_draught : A32) (c_n0_air_breathing : Int32) (c_n0_air_height : A32) (c_n0_air_into : A32) (c_n0_air_nearest : A32) (c_n0_smoke_lengths : A32) (c_n0_crew_size : Int32) (c_n0_crew_kinds : A32) (c_n0_now_open : Int32) (c_n0_now_moon : Int32) (c_n0_now_out : Int32) (c_n0_now_gone : Int32) (c_n0_now_gas : A32) (c_n0_now_place : A32) (c_n0_dream_open : Int32) (c_n0_dream_moon : Int32) (c_n0_dream_out : Int32) (c_n0_dream_gone : Int32) (c_n0_dream_gas : A32) (c_n0_dream_place : A32) (c_n0_draws_seed : Int32) (c_n10 : A32) (c_n15 : A32) (c_n20 : A32) (t0 : Int32) (v6 : Int32) (v9 : Int32) (v10 : Int32) : Option (Int32) := if t0 = 0 then f_L_law_b591 k179 n_q0 c_q0 c_n0_minesRead c_n0_doorsDone c_n0_page_length c_n0_page_letters c_n0_page_reader_due c_n0_page_reader_first c_n0_page_reader_galleries c_n0_page_reader_shafts c_n0_plan_galleries c_n0_plan_doors c_n0_plan_shafts c_n0_plan_one c_n0_plan_two c_n0_plan_length c_n0_plan_draught c_n0_air_breathing c_n0_air_height c_n0_air_into c_n0_air_nearest c_n0_smoke_lengths c_n0_crew_size c_n0_crew_kinds c_n0_now_open c_n0_now_moon c_n0_now_out c_n0_now_gone c_n0_now_gas c_n0_now_place c_n0_dream_open c_n0_dream_moon c_n0_dream_out c_n0_dream_gone c_n0_dream_gas c_n0_dream_place c_n0_draws_seed c_n10 c_n15 c_n20 v6 v9 v10 t0 else if inB (13 + v10) 22 then Option.bind (f_L_other 59 c_n10 v9 (c_n15 (13 + v10).toNatClampNeg)) fun z_2 => if inB (13 + v10) 22 then f_L_law_b591 k179 n_q0 c_q0 c_n0_minesRead c_n0_doorsDone c_n0_page_length c_n0_page_letters c_n0_page_reader_due c_n0_page_reader_first c_n0_page_reader_galleries c_n0_page_reader_shafts c_n0_plan_galleries c_n0_plan_doors c_n0_plan_shafts c_n0_plan_one c_n0_plan_two c_n0_plan_length c_n0_plan_draught c_n0_air_breathing c_n0_air_height c_n0_air_into c_n0_air_nearest c_n0_smoke_lengths c_n0_crew_size c_n0_crew_kinds c_n0_now_open c_n0_now_moon c_n0_now_out c_n0_now_gone c_n0_now_gas c_n0_now_place c_n0_dream_open c_n0_dream_moon c_n0_dream_out c_n0_dream_gone c_n0_dream_gas c_n0_dream_place c_n0_draws_seed c_n10 (upd c_n15 (Int32.toNatClampNeg (13 + v10)) z_2) c_n20 v6 v9 v10 t0 else none else none
def f_L_law_b559 (k179 : Int32 → A32 → A32 → A32 → A32 → Int32 → Int32 → Int32 → Int32 → A32 → A32 → Int32 → Int32 → Int32 → Int32 → A32 → A32 → Int32 → A32 → A32 → Int32 → Option (Int32)) (n_q0 : Nat) (c_q0 : A32) (c_n0_minesRead : Int32) (c_n0_doorsDone : Int32) (c_n0_page_length : Int32) (c_n0_page_letters : A32) (c_n0_page_reader_due : Int32) (c_n0_page_reader_first : Int32) (c_n0_page_reader_galleries : Int32) (c_n0_page_reader_shafts : Int32) (c_n0_plan_galleries : Int32) (c_n0_plan_doors : Int32) (c_n0_plan_shafts : Int32) (c_n0_plan_one : A32) (c_n0_plan_two : A32) (c_n0_plan_length : A32) (c_n0_plan_draught : A32) (c_n0_air_breathing : Int32) (c_n0_air_height : A32) (c_n0_air_into : A32) (c_n0_air_nearest : A32) (c_n0_smoke_lengths : A32) (c_n0_crew_size : Int32) (c_n0_crew_kinds : A32) (c_n0_now_open : Int32) (c_n0_now_moon : Int32) (c_n0_now_out : Int32) (c_n0_now_gone : Int32) (c_n0_now_gas : A32) (c_n0_now_place : A32) (c_n0_dream_open : Int32) (c_n0_dream_moon : Int32) (c_n0_dream_out : Int32) (c_n0_dream_gone : Int32) (c_n0_dream_gas : A32) (c_n0_dream_place : A32) (c_n0_draws_seed : Int32) (c_n10 : A32) (c_n15 : A32) (c_n20 : A32) (v6 : Int32) (v9 : Int32) (v10 : Int32) : Option (Int32) := f_L_law_b564 k179 n_q0 c_q0 c_n0_minesRead c_n0_doorsDone c_n0_page_length c_n0_page_letters c_n0_page_reader_due c_n0_page_reader_first c_n0_page_reader_galleries c_n0_page_reader_shafts c_n0_plan_galleries c_n0_plan_doors c_n0_plan_shafts c_n0_plan_one c_n0_plan_two c_n0_plan_length c_n0_plan_draught c_n0_air_breathing c_n0_air_height c_n0_air_into c_n0_air_nearest c_n0_smoke_lengths c_n0_crew_size c_n0_crew_kinds c_n0_now_open c_n0_now_moon c_n0_now_out c_n0_now_gone c_n0_now_gas c_n0_now_place c_n0_dream_open c_n0_dream_moon c_n0_dream_out c_n0_dream_gone c_n0_dream_gas c_n0_dream_place c_n0_draws_seed c_n10 c_n15 c_n20 1 v6 v9 v10
def f_L_law_b563 (k179 : Int32 → A32 → A32 → A32 → A32 → Int32 → Int32 → Int32 → Int32 → A32 → A32 → Int32 → Int32 → Int32 → Int32 → A32 → A32 → Int32 → A32 → A32 → Int32 → Option (Int32)) (n_q0 : Nat) (c_q0 : A32) (c_n0_minesRead : Int32) (c_n0_doorsDone : Int32) (c_n0_page_length : Int32) (c_n0_page_letters : A32) (c_n0_page_reader_due : Int32) (c_n0_page_reader_first : Int32) (c_n0_page_reader_galleries : Int32) (c_n0_page_reader_shafts : Int32) (c_n0_plan_galleries : Int32) (c_n0_plan_doors : Int32) (c_n0_plan_shafts : Int32) (c_n0_plan_one : A32) (c_n0_plan_two : A32) (c_n0_plan_length : A32) (c_n0_plan_draught : A32) (c_n0_air_breathing : Int32) (c_n0_air_height : A32) (c_n0_air_into : A32) (c_n0_air_nearest : A32) (c_n0_smoke_lengths : A32) (c_n0_crew_size : Int32) (c_n0_crew_kinds : A32) (c_n0_now_open : Int32) (c_n0_now_moon : Int32) (c_n0_now_out : Int32) (c_n0_now_gone : Int32) (c_n0_now_gas : A32) (c_n0_now_place : A32) (c_n0_dream_open : Int32) (c_n0_dream_moon : Int32) (c_n0_dream_out : Int32) (c_n0_dream_gone : Int32) (c_n0_dream_gas : A32) (c_n0_dream_place : A32) (c_n0_draws_seed : Int32) (c_n10 : A32) (c_n15 : A32) (c_n20 : A32) (v6 : Int32) (v9 : Int32) (v10 : Int32) : Option (Int32) := f_L_law_b564 k179 n_q0 c_q0 c_n0_minesRead c_n0_doorsDone c_n0_page_length c_n0_page_letters c_n0_page_reader_due c_n0_page_reader_first c_n0_page_reader_galleries c_n0_page_reader_shafts c_n0_plan_galleries c_n0_plan_doors c_n0_plan_shafts c_n0_plan_one c_n0_plan_two c_n0_plan_length c_n0_plan_draught c_n0_air_breathing c_n0_air_height c_n0_air_into c_n0_air_nearest c_n0_smoke_lengths c_n0_crew_size c_n0_crew_kinds c_n0_now_open c_n0_now_moon c_n0_now_out c_n0_now_gone c_n0_now_gas c_n0_now_place c_n0_dream_open c_n0_dream_moon c_n0_dream_out c_n0_dream_gone c_n0_dream_gas c_n0_dream_place c_n0_draws_seed c_n10 c_n15 c_n20 0 v6 v9 v10
def f_L_law_b518 (k179 : Int32 → A32 → A32 → A32 → A32 → Int32 → Int32 → Int32 → Int32 → A32 → A32 → Int32 → Int32 → Int32 → Int32 → A32 → A32 → Int32 → A32 → A32 → Int32 → Option (Int32)) (n_q0 : Nat) (c_q0 : A32) (c_n0_minesRead : Int32) (c_n0_doorsDone : Int32) (c_n0_page_length : Int32) (c_n0_page_letters : A32) (c_n0_page_reader_due : Int32) (c_n0_page_reader_first : Int32) (c_n0_page_reader_galleries : Int32) (c_n0_page_reader_shafts : Int32) (c_n0_plan_galleries : Int32) (c_n0_plan_doors : Int32) (c_n0_plan_shafts : Int32) (c_n0_plan_one : A32) (c_n0_plan_two : A32) (c_n0_plan_length : A32) (c_n0_plan_draught : A32) (c_n0_air_breathing : Int32) (c_n0_air_height : A32) (c_n0_air_into : A32) (c_n0_air_nearest : A32) (c_n0_smoke_lengths : A32) (c_n0_crew_size : Int32) (c_n0_crew_kinds : A32) (c_n0_now_open : Int32) (c_n0_now_moon : Int32) (c_n0_now_out : Int32) (c_n0_now_gone : Int32) (c_n0_now_gas : A32) (c_n0_now_place : A32) (c_n0_dream_open : Int32) (c_n0_dream_moon : Int32) (c_n0_dream_out : Int32) (c_n0_dream_gone : Int32) (c_n0_dream_gas : A32) (c_n0_dream_place : A32) (c_n0_draws_seed : Int32) (c_n10 : A32) (c_n15 : A32) (c_n20 : A32) (t0 : Int32) (v6 : Int32) (v9 : Int32) (v10 : Int32) : Option (Int32) := if t0 = 0 then f_L_law_b563 k179 n_q0 c_q0 c_n0_minesRead c_n0_doorsDone c_n0_page_length c_n0_page_letters c_n0_page_reader_due c_n0_page_reader_first c_n0_page_reader_galleries c_n0_page_reader_shafts c_n0_plan_galleries c_n0_plan_doors c_n0_plan_shafts c_n0_plan_one c_n0_plan_two c_n0_plan_length c_n0_plan_draught c_n0_air_breathing c_n0_air_height c_n0_air_into c_n0_air_nearest c_n0_smoke_lengths c_n0_crew_size c_n0_crew_kinds c_n0_now_open c_n0_now_moon c_n0_now_out c_n0_now_gone c_n0_now_gas c_n0_now_place c_n0_dream_open c_n0_dream_moon c_n0_dream_out c_n0_dream_gone c_n0_dream_gas c_n0_dream_place c_n0_draws_seed c_n10 c_n15 c_n20 v6 v9 v10 else if inB 19 22 then if (((c_n15 (Int32.toNatClampNeg 19)) >>> (v10 &&& 31)) &&& 1) = 0 then if inB (41 + v9) 59 then if (c_n10 (41 + v9).toNatClampNeg) = 1 then f_L_law_b559 k179 n_q0 c_q0 c_n0_minesRead c_n0_doorsDone c_n0_page_length c_n0_page_letters c_n0_page_reader_due c_n0_page_reader_first c_n0_page_reader_galleries c_n0_page_reader_shafts c_n0_plan_galleries c_n0_plan_doors c_n0_plan_shafts c_n0_plan_one c_n0_plan_two c_n0_plan_length c_n0_plan_draught c_n0_air_breathing c_n0_air_height c_n0_air_into c_n0_air_nearest c_n0_smoke_lengths c_n0_crew_size c_n0_crew_kinds c_n0_now_open c_n0_now_moon c_n0_now_out c_n0_now_gone c_n0_now_gas c_n0_now_place c_n0_dream_open c_n0_dream_moon c_n0_dream_out c_n0_dream_gone c_n0_dream_gas c_n0_dream_place c_n0_draws_seed c_n10 c_n15 c_n20 v6 v9 v10 else if inB (7 + v10) 22 then if (c_n15 (7 + v10).toNatClampNeg) = 3 then f_L_law_b559 k179 n_q0 c_q0 c_n0_minesRead c_n0_doorsDone c_n0_page_length c_n0_page_letters c_n0_page_reader_due c_n0_page_reader_first c_n0_page_reader_galleries c_n0_page_reader_shafts c_n0_plan_galleries c_n0_plan_doors c_n0_plan_shafts c_n0_plan_one c_n0_plan_two c_n0_plan_length c_n0_plan_draught c_n0_air_breathing c_n0_air_height c_n0_air_into c_n0_air_nearest c_n0_smoke_lengths c_n0_crew_size c_n0_crew_kinds c_n0_now_open c_n0_now_moon c_n0_now_out c_n0_now_gone c_n0_now_gas c_n0_now_place c_n0_dream_open c_n0_dream_moon c_n0_dream_out c_n0_dream_gone c_n0_dream_gas c_n0_dream_place c_n0_draws_seed c_n10 c_n15 c_n20 v6 v9 v10 else f_L_law_b563 k179 n_q0 c_q0 c_n0_minesRead c_n0_doorsDone c_n0_page_length c_n0_page_letters c_n0_page_reader_due c_n0_page_reader_first c_n0_page_reader_galleries c_n0_page_reader_shafts c_n0_plan_galleries c_n0_plan_doors c_n0_plan_shafts c_n0_plan_one c_n0_plan_two c_n0_plan_length c_n0_plan_draught c_n0_air_breathing c_n0_air_height c_n0_air_into c_n0_air_nearest c_n0_smoke_lengths c_n0_crew_size c_n0_crew_kinds c_n0_now_open c_n0_now_moon c_n0_now_out c_n0_now_gone c_n0_now_gas c_n0_now_place c_n0_dream_open c_n0_dream_moon c_n0_dream_out c_n0_dream_gone c_n0_dream_gas c_n0_dream_place c_n0_draws_seed c_n10 c_n15 c_n20 v6 v9 v10 else none else none else f_L_law_b563 k179 n_q0 c_q0 c_n0_minesRead c_n0_doorsDone c_n0_page_length c_n0_page_letters c_n0_page_reader_due c_n0_page_reader_first c_n0_page_reader_galleries c_n0_page_reader_shafts c_n0_plan_galleries c_n0_plan_doors c_n0_plan_shafts c_n0_plan_one c_n0_plan_two c_n0_plan_length c_n0_plan_draught c_n0_air_breathing c_n0_air_height c_n0_air_into c_n0_air_nearest c_n0_smoke_lengths c_n0_crew_size c_n0_crew_kinds c_n0_now_open c_n0_now_moon c_n0_now_out c_n0_now_gone c_n0_now_gas c_n0_now_place c_n0_dream_open c_n0_dream_moon c_n0_dream_out c_n0_dream_gone c_n0_dream_gas c_n0_dream_place c_n0_draws_seed c_n10 c_n15 c_n20 v6 v9 v10 else none
def f_L_law_b513 (k179 : Int32 → A32 → A32 → A32 → A32 → Int32 → Int32 → Int32 → Int32 → A32 → A32 → Int32 → Int32 → Int32 → Int32 → A32 → A32 → Int32 → A32 → A32 → Int32 → Option (Int32)) (n_q0 : Nat) (c_q0 : A32) (c_n0_minesRead : Int32) (c_n0_doorsDone : Int32) (c_n0_page_length : Int32) (c_n0_page_letters : A32) (c_n0_page_reader_due : Int32) (c_n0_page_reader_first : Int32) (c_n0_page_reader_galleries : Int32) (c_n0_page_reader_shafts : Int32) (c_n0_plan_galleries : Int32) (c_n0_plan_doors : Int32) (c_n0_plan_shafts : Int32) (c_n0_plan_one : A32) (c_n0_plan_two : A32) (c_n0_plan_length : A32) (c_n0_plan_draught : A32) (c_n0_air_breathing : Int32) (c_n0_air_height : A32) (c_n0_air_into : A32) (c_n0_air_nearest : A32) (c_n0_smoke_lengths : A32) (c_n0_crew_size : Int32) (c_n0_crew_kinds : A32) (c_n0_now_open : Int32) (c_n0_now_moon : Int32) (c_n0_now_out : Int32) (c_n0_now_gone : Int32) (c_n0_now_gas : A32) (c_n0_now_place : A32) (c_n0_dream_open : Int32) (c_n0_dream_moon : Int32) (c_n0_dream_out : Int32) (c_n0_dream_gone : Int32) (c_n0_dream_gas : A32) (c_n0_dream_place : A32) (c_n0_draws_seed : Int32) (c_n10 : A32) (c_n15 : A32) (c_n20 : A32) (v6 : Int32) (v9 : Int32) (v10 : Int32) : Option (Int32) := f_L_law_b518 k179 n_q0 c_q0 c_n0_minesRead c_n0_doorsDone c_n0_page_length c_n0_page_letters c_n0_page_reader_due c_n0_page_reader_first c_n0_page_reader_galleries c_n0_page_reader_shafts c_n0_plan_galleries c_n0_plan_doors c_n0_plan_shafts c_n0_plan_one c_n0_plan_two c_n0_plan_length c_n0_plan_draught c_n0_air_breathing c_n0_air_height c_n0_air_into c_n0_air_nearest c_n0_smoke_lengths c_n0_crew_size c_n0_crew_kinds c_n0_now_open c_n0_now_moon c_n0_now_out c_n0_now_gone c_n0_now_gas c_n0_now_place c_n0_dream_open c_n0_dream_moon c_n0_dream_out c_n0_dream_gone c_n0_dream_gas c_n0_dream_place c_n0_draws_seed c_n10 c_n15 c_n20 1 v6 v9 v10
def f_L_law_b480 (k179 : Int32 → A32 → A32 → A32 → A32 → Int32 → Int32 → Int32 → Int32 → A32 → A32 → Int32 → Int32 → Int32 → Int32 → A32 → A32 → Int32 → A32 → A32 → Int32 → Option (Int32)) (n_q0 : Nat) (c_q0 : A32) (c_n0_minesRead : Int32) (c_n0_doorsDone : Int32) (c_n0_page_length : Int32) (c_n0_page_letters : A32) (c_n0_page_reader_due : Int32) (c_n0_page_reader_first : Int32) (c_n0_page_reader_galleries : Int32) (c_n0_page_reader_shafts : Int32) (c_n0_plan_galleries : Int32) (c_n0_plan_doors : Int32) (c_n0_plan_shafts : Int32) (c_n0_plan_one : A32) (c_n0_plan_two : A32) (c_n0_plan_length : A32) (c_n0_plan_draught : A32) (c_n0_air_breathing : Int32) (c_n0_air_height : A32) (c_n0_air_into : A32) (c_n0_air_nearest : A32) (c_n0_smoke_lengths : A32) (c_n0_crew_size : Int32) (c_n0_crew_kinds : A32) (c_n0_now_open : Int32) (c_n0_now_moon : Int32) (c_n0_now_out : Int32) (c_n0_now_gone : Int32) (c_n0_now_gas : A32) (c_n0_now_place : A32) (c_n0_dream_open : Int32) (c_n0_dream_moon : Int32) (c_n0_dream_out : Int32) (c_n0_dream_gone : Int32) (c_n0_dream_gas : A32) (c_n0_dream_place : A32) (c_n0_draws_seed : Int32) (c_n10 : A32) (c_n15 : A32) (c_n20 : A32) (v6 : Int32) (v9 : Int32) (v10 : Int32) : Option (Int32) := if inB (1 + v9) 59 then if inB (13 + v10) 22 then if (c_n10 (1 + v9).toNatClampNeg) = (c_n15 (13 + v10).toNatClampNeg) then f_L_law_b513 k179 n_q0 c_q0 c_n0_minesRead c_n0_doorsDone c_n0_page_length c_n0_page_letters c_n0_page_reader_due c_n0_page_reader_first c_n0_page_reader_galleries c_n0_page_reader_shafts c_n0_plan_galleries c_n0_plan_doors c_n0_plan_shafts c_n0_plan_one c_n0_plan_two c_n0_plan_length c_n0_plan_draught c_n0_air_breathing c_n0_air_height c_n0_air_into c_n0_air_nearest c_n0_smoke_lengths c_n0_crew_size c_n0_crew_kinds c_n0_now_open c_n0_now_moon c_n0_now_out c_n0_now_gone c_n0_now_gas c_n0_now_place c_n0_dream_open c_n0_dream_moon c_n0_dream_out c_n0_dream_gone c_n0_dream_gas c_n0_dream_place c_n0_draws_seed c_n10 c_n15 c_n20 v6 v9 v10 else if inB (11 + v9) 59 then if inB (13 + v10) 22 then if (c_n10 (11 + v9).toNatClampNeg) = (c_n15 (13 + v10).toNatClampNeg) then f_L_law_b513 k179 n_q0 c_q0 c_n0_minesRead c_n0_doorsDone c_n0_page_length c_n0_page_letters c_n0_page_reader_due c_n0_page_reader_first c_n0_page_reader_galleries c_n0_page_reader_shafts c_n0_plan_galleries c_n0_plan_doors c_n0_plan_shafts c_n0_plan_one c_n0_plan_two c_n0_plan_length c_n0_plan_draught c_n0_air_breathing c_n0_air_height c_n0_air_into c_n0_air_nearest c_n0_smoke_lengths c_n0_crew_size c_n0_crew_kinds c_n0_now_open c_n0_now_moon c_n0_now_out c_n0_now_gone c_n0_now_gas c_n0_now_place c_n0_dream_open c_n0_dream_moon c_n0_dream_out c_n0_dream_gone c_n0_dream_gas c_n0_dream_place c_n0_draws_seed c_n10 c_n15 c_n20 v6 v9 v10 else f_L_law_b518 k179 n_q0 c_q0 c_n0_minesRead c_n0_doorsDone c_n0_page_length c_n0_page_letters c_n0_page_reader_due c_n0_page_reader_first c_n0_page_reader_galleries c_n0_page_reader_shafts c_n0_plan_galleries c_n0_plan_doors c_n0_plan_shafts c_n0_plan_one c_n0_plan_two c_n0_plan_length c_n0_plan_draught c_n0_air_breathing c_n0_air_height c_n0_air_into c_n0_air_nearest c_n0_smoke_lengths c_n0_crew_size c_n0_crew_kinds c_n0_now_open c_n0_now_moon c_n0_now_out c_n0_now_gone c_n0_now_gas c_n0_now_place c_n0_dream_open c_n0_dream_moon c_n0_dream_out c_n0_dream_gone c_n0_dream_gas c_n0_dream_place c_n0_draws_seed c_n10 c_n15 c_n20 0 v6 v9 v10 else none else none else none else none
def f_L_law_b411 (k179 : Int32 → A32 → A32 → A32 → A32 → Int32 → Int32 → Int32 → Int32 → A32 → A32 → Int32 → Int32 → Int32 → Int32 → A32 → A32 → Int32 → A32 → A32 → Int32 → Option (Int32)) (n_q0 : Nat) (c_q0 : A32) (c_n0_minesRead : Int32) (c_n0_doorsDone : Int32) (c_n0_page_length : Int32) (c_n0_page_letters : A32) (c_n0_page_reader_due : Int32) (c_n0_page_reader_first : Int32) (c_n0_page_reader_galleries : Int32) (c_n0_page_reader_shafts : Int32) (c_n0_plan_galleries : Int32) (c_n0_plan_doors : Int32) (c_n0_plan_shafts : Int32) (c_n0_plan_one : A32) (c_n0_plan_two : A32) (c_n0_plan_length : A32) (c_n0_plan_draught : A32) (c_n0_air_breathing : Int32) (c_n0_air_height : A32) (c_n0_air_into : A32) (c_n0_air_nearest : A32) (c_n0_smoke_lengths : A32) (c_n0_crew_size : Int32) (c_n0_crew_kinds : A32) (c_n0_now_open : Int32) (c_n0_now_moon : Int32) (c_n0_now_out : Int32) (c_n0_now_gone : Int32) (c_n0_now_gas : A32) (c_n0_now_place : A32) (c_n0_dream_open : Int32) (c_n0_dream_moon : Int32) (c_n0_dream_out : Int32) (c_n0_dream_gone : Int32) (c_n0_dream_gas : A32) (c_n0_dream_place : A32) (c_n0_draws_seed : Int32) (c_n10 : A32) (c_n15 : A32) (c_n20 : A32) (v6 : Int32) (v7 : Int32) (v10 : Int32) : Nat → Int32 → Int32 → Option (Int32)
  | 0, _, _ => none
  | fu + 1, v9, v11 => if inB 0 59 then if (c_n10 (Int32.toNatClampNeg 0)) ≤ v11 then f_L_law_b480 k179 n_q0 c_q0 c_n0_minesRead c_n0_doorsDone c_n0_page_length c_n0_page_letters c_n0_page_reader_due c_n0_page_reader_first c_n0_page_reader_galleries c_n0_page_reader_shafts c_n0_plan_galleries c_n0_plan_doors c_n0_plan_shafts c_n0_plan_one c_n0_plan_two c_n0_plan_length c_n0_plan_draught c_n0_air_breathing c_n0_air_height c_n0_air_into c_n0_air_nearest c_n0_smoke_lengths c_n0_crew_size c_n0_crew_kinds c_n0_now_open c_n0_now_moon c_n0_now_out c_n0_now_gone c_n0_now_gas c_n0_now_place c_n0_dream_open c_n0_dream_moon c_n0_dream_out c_n0_dream_gone c_n0_dream_gas c_n0_dream_place c_n0_draws_seed c_n10 c_n15 c_n20 v6 v9 v10 else Option.bind (f_L_at (v7 >>> (10 &&& 31)) 4) fun z_2 => if z_2 ≤ 0 then f_L_law_b480 k179 n_q0 c_q0 c_n0_minesRead c_n0_doorsDone c_n0_page_length c_n0_page_letters c_n0_page_reader_due c_n0_page_reader_first c_n0_page_reader_galleries c_n0_page_reader_shafts c_n0_plan_galleries c_n0_plan_doors c_n0_plan_shafts c_n0_plan_one c_n0_plan_two c_n0_plan_length c_n0_plan_draught c_n0_air_breathing c_n0_air_height c_n0_air_into c_n0_air_nearest c_n0_smoke_lengths c_n0_crew_size c_n0_crew_kinds c_n0_now_open c_n0_now_moon c_n0_now_out c_n0_now_gone c_n0_now_gas c_n0_now_place c_n0_dream_open c_n0_dream_moon c_n0_dream_out c_n0_dream_gone c_n0_dream_gas c_n0_dream_place c_n0_draws_seed c_n10 c_n15 c_n20 v6 v9 v10 else if inB (1 + v9) 59 then if inB (13 + v10) 22 then if (c_n10 (1 + v9).toNatClampNeg) = (c_n15 (13 + v10).toNatClampNeg) then f_L_law_b480 k179 n_q0 c_q0 c_n0_minesRead c_n0_doorsDone c_n0_page_length c_n0_page_letters c_n0_page_reader_due c_n0_page_reader_first c_n0_page_reader_galleries c_n0_page_reader_shafts c_n0_plan_galleries c_n0_plan_doors c_n0_plan_shafts c_n0_plan_one c_n0_plan_two c_n0_plan_length c_n0_plan_draught c_n0_air_breathing c_n0_air_height c_n0_air_into c_n0_air_nearest c_n0_smoke_lengths c_n0_crew_size c_n0_crew_kinds c_n0_now_open c_n0_now_moon c_n0_now_out c_n0_now_gone c_n0_now_gas c_n0_now_place c_n0_dream_open c_n0_dream_moon c_n0_dream_out c_n0_dream_gone c_n0_dream_gas c_n0_dream_place c_n0_draws_seed c_n10 c_n15 c_n20 v6 v9 v10 else if inB (11 + v9) 59 then if inB (13 + v10) 22 then if (c_n10 (11 + v9).toNatClampNeg) = (c_n15 (13 + v10).toNatClampNeg) then f_L_law_b480 k179 n_q0 c_q0 c_n0_minesRead c_n0_doorsDone c_n0_page_length c_n0_page_letters c_n0_page_reader_due c_n0_page_reader_first c_n0_page_reader_galleries c_n0_page_reader_shafts c_n0_plan_galleries c_n0_plan_doors c_n0_plan_shafts c_n0_plan_one c_n0_plan_two c_n0_plan_length c_n0_plan_draught c_n0_air_breathing c_n0_air_height c_n0_air_into c_n0_air_nearest c_n0_smoke_lengths c_n0_crew_size c_n0_crew_kinds c_n0_now_open c_n0_now_moon c_n0_now_out c_n0_now_gone c_n0_now_gas c_n0_now_place c_n0_dream_open c_n0_dream_moon c_n0_dream_out c_n0_dream_gone c_n0_dream_gas c_n0_dream_place c_n0_draws_seed c_n10 c_n15 c_n20 v6 v9 v10 else if inB 0 59 then if c_n10 (Int32.toNatClampNeg 0) = 0 then none else nam ((v9 + 1) - (v9 + 1) / (c_n10 (Int32.toNatClampNeg 0)) * (c_n10 (Int32.toNatClampNeg 0))) fun v9_7 => nam (v11 + 1) fun v11_8 => (f_L_law_b411 k179 n_q0 c_q0 c_n0_minesRead c_n0_doorsDone c_n0_page_length c_n0_page_letters c_n0_page_reader_due c_n0_page_reader_first c_n0_page_reader_galleries c_n0_page_reader_shafts c_n0_plan_galleries c_n0_plan_doors c_n0_plan_shafts c_n0_plan_one c_n0_plan_two c_n0_plan_length c_n0_plan_draught c_n0_air_breathing c_n0_air_height c_n0_air_into c_n0_air_nearest c_n0_smoke_lengths c_n0_crew_size c_n0_crew_kinds c_n0_now_open c_n0_now_moon c_n0_now_out c_n0_now_gone c_n0_now_gas c_n0_now_place c_n0_dream_open c_n0_dream_moon c_n0_dream_out c_n0_dream_gone c_n0_dream_gas c_n0_dream_place c_n0_draws_seed c_n10 c_n15 c_n20 v6 v7 v10 fu) v9_7 v11_8 else none else none else none else none else none else none
def f_L_law_b673 (k179 : Int32 → A32 → A32 → A32 → A32 → Int32 → Int32 → Int32 → Int32 → A32 → A32 → Int32 → Int32 → Int32 → Int32 → A32 → A32 → Int32 → A32 → A32 → Int32 → Option (Int32)) (n_q0 : Nat) (c_q0 : A32) (c_n0_minesRead : Int32) (c_n0_doorsDone : Int32) (c_n0_page_length : Int32) (c_n0_page_letters : A32) (c_n0_page_reader_due : Int32) (c_n0_page_reader_first : Int32) (c_n0_page_reader_galleries : Int32) (c_n0_page_reader_shafts : Int32) (c_n0_plan_galleries : Int32) (c_n0_plan_doors : Int32) (c_n0_plan_shafts : Int32) (c_n0_plan_one : A32) (c_n0_plan_two : A32) (c_n0_plan_length : A32) (c_n0_plan_draught : A32) (c_n0_air_breathing : Int32) (c_n0_air_height : A32) (c_n0_air_into : A32) (c_n0_air_nearest : A32) (c_n0_smoke_lengths : A32) (c_n0_crew_size : Int32) (c_n0_crew_kinds : A32) (c_n0_now_open : Int32) (c_n0_now_moon : Int32) (c_n0_now_out : Int32) (c_n0_now_gone : Int32) (c_n0_now_gas : A32) (c_n0_now_place : A32) (c_n0_dream_open : Int32) (c_n0_dream_moon : Int32) (c_n0_dream_out : Int32) (c_n0_dream_gone : Int32) (c_n0_dream_gas : A32) (c_n0_dream_place : A32) (c_n0_draws_seed : Int32) (c_n10 : A32) (c_n20 : A32) (c_n665 : A32) (v6 : Int32) (v11 : Int32) : Nat → A32 → Int32 → Int32 → Option (Int32)
  | 0, _, _, _ => none
  | fu + 1, c_n15, v12, v14 => if v11 ≤ v14 then if inB 21 22 then if inB 21 22 then Option.bind (f_X10_minutes c_n0_plan_galleries c_n0_air_breathing c_n0_crew_size c_n0_crew_kinds c_n0_now_out c_n0_now_gone c_n0_now_gas c_n0_now_place v11) fun z_2 => if z_2.1 = v12 then f_L_law_b758 k179 n_q0 c_q0 c_n0_minesRead c_n0_doorsDone c_n0_page_length c_n0_page_letters c_n0_page_reader_due c_n0_page_reader_first c_n0_page_reader_galleries c_n0_page_reader_shafts c_n0_plan_galleries c_n0_plan_doors c_n0_plan_shafts c_n0_plan_one c_n0_plan_two c_n0_plan_length c_n0_plan_draught c_n0_air_breathing c_n0_air_height c_n0_air_into c_n0_air_nearest c_n0_smoke_lengths c_n0_crew_size c_n0_crew_kinds c_n0_now_open c_n0_now_moon z_2.2.1 z_2.2.2.1 z_2.2.2.2 c_n0_now_place c_n0_dream_open c_n0_dream_moon c_n0_dream_out c_n0_dream_gone c_n0_dream_gas c_n0_dream_place c_n0_draws_seed c_n10 (upd c_n15 (Int32.toNatClampNeg 21) ((c_n15 (Int32.toNatClampNeg 21)) + v11)) c_n20 v6 else some 0 else none else none else Option.bind (f_L_minute 59 10 22 c_n10 c_n665 c_n15) fun z_4 => nam (v12 + z_4.1) fun v12_5 => nam (v14 + 1) fun v14_6 => (f_L_law_b673 k179 n_q0 c_q0 c_n0_minesRead c_n0_doorsDone c_n0_page_length c_n0_page_letters c_n0_page_reader_due c_n0_page_reader_first c_n0_page_reader_galleries c_n0_page_reader_shafts c_n0_plan_galleries c_n0_plan_doors c_n0_plan_shafts c_n0_plan_one c_n0_plan_two c_n0_plan_length c_n0_plan_draught c_n0_air_breathing c_n0_air_height c_n0_air_into c_n0_air_nearest c_n0_smoke_lengths c_n0_crew_size c_n0_crew_kinds c_n0_now_open c_n0_now_moon c_n0_now_out c_n0_now_gone c_n0_now_gas c_n0_now_place c_n0_dream_open c_n0_dream_moon c_n0_dream_out c_n0_dream_gone c_n0_dream_gas c_n0_dream_place c_n0_draws_seed c_n10 c_n20 c_n665 v6 v11 fu) z_4.2 v12_5 v14_6
def f_L_law_b655 (k179 : Int32 → A32 → A32 → A32 → A32 → Int32 → Int32 → Int32 → Int32 → A32 → A32 → Int32 → Int32 → Int32 → Int32 → A32 → A32 → Int32 → A32 → A32 → Int32 → Option (Int32)) (n_q0 : Nat) (c_q0 : A32) (c_n0_minesRead : Int32) (c_n0_doorsDone : Int32) (c_n0_page_length : Int32) (c_n0_page_letters : A32) (c_n0_page_reader_due : Int32) (c_n0_page_reader_first : Int32) (c_n0_page_reader_galleries : Int32) (c_n0_page_reader_shafts : Int32) (c_n0_plan_galleries : Int32) (c_n0_plan_doors : Int32) (c_n0_plan_shafts : Int32) (c_n0_plan_one : A32) (c_n0_plan_two : A32) (c_n0_plan_length : A32) (c_n0_plan_draught : A32) (c_n0_air_breathing : Int32) (c_n0_air_height : A32) (c_n0_air_into : A32) (c_n0_air_nearest : A32) (c_n0_smoke_lengths : A32) (c_n0_crew_size : Int32) (c_n0_crew_kinds : A32) (c_n0_now_open : Int32) (c_n0_now_moon : Int32) (c_n0_now_out : Int32) (c_n0_now_gone : Int32) (c_n0_now_gas : A32) (c_n0_now_place : A32) (c_n0_dream_open : Int32) (c_n0_dream_moon : Int32) (c_n0_dream_out : Int32) (c_n0_dream_gone : Int32) (c_n0_dream_gas : A32) (c_n0_dream_place : A32) (c_n0_draws_seed : Int32) (c_n10 : A32) (c_n15 : A32) (c_n20 : A32) (t0 : Int32) (t1 : Int32) (t2 : Int32) (v6 : Int32) : Option (Int32) := Option.bind (f_L_at t1 t2) fun z_1 => nam (t0 + z_1) fun v11_2 => Option.bind (f_L_air 59 c_n10) fun z_3 => f_L_law_b673 k179 n_q0 c_q0 c_n0_minesRead c_n0_doorsDone c_n0_page_length c_n0_page_letters c_n0_page_reader_due c_n0_page_reader_first c_n0_page_reader_galleries c_n0_page_reader_shafts c_n0_plan_galleries c_n0_plan_doors c_n0_plan_shafts c_n0_plan_one c_n0_plan_two c_n0_plan_length c_n0_plan_draught c_n0_air_breathing c_n0_air_height c_n0_air_into c_n0_air_nearest c_n0_smoke_lengths c_n0_crew_size c_n0_crew_kinds c_n0_now_open c_n0_now_moon c_n0_now_out c_n0_now_gone c_n0_now_gas c_n0_now_place c_n0_dream_open c_n0_dream_moon c_n0_dream_out c_n0_dream_gone c_n0_dream_gas c_n0_dream_place c_n0_draws_seed c_n10 c_n20 z_3 v6 v11_2 FU c_n15 0 0
def f_L_law_b624 (k179 : Int32 → A32 → A32 → A32 → A32 → Int32 → Int32 → Int32 → Int32 → A32 → A32 → Int32 → Int32 → Int32 → Int32 → A32 → A32 → Int32 → A32 → A32 → Int32 → Option (Int32)) (n_q0 : Nat) (c_q0 : A32) (c_n0_minesRead : Int32) (c_n0_doorsDone : Int32) (c_n0_page_length : Int32) (c_n0_page_letters : A32) (c_n0_page_reader_due : Int32) (c_n0_page_reader_first : Int32) (c_n0_page_reader_galleries : Int32) (c_n0_page_reader_shafts : Int32) (c_n0_plan_galleries : Int32) (c_n0_plan_doors : Int32) (c_n0_plan_shafts : Int32) (c_n0_plan_one : A32) (c_n0_plan_two : A32) (c_n0_plan_length : A32) (c_n0_plan_draught : A32) (c_n0_air_breathing : Int32) (c_n0_air_height : A32) (c_n0_air_into : A32) (c_n0_air_nearest : A32) (c_n0_smoke_lengths : A32) (c_n0_crew_size : Int32) (c_n0_crew_kinds : A32) (c_n0_now_open : Int32) (c_n0_now_moon : Int32) (c_n0_now_out : Int32) (c_n0_now_gone : Int32) (c_n0_now_gas : A32) (c_n0_now_place : A32) (c_n0_dream_open : Int32) (c_n0_dream_moon : Int32) (c_n0_dream_out : Int32) (c_n0_dream_gone : Int32) (c_n0_dream_gas : A32) (c_n0_dream_place : A32) (c_n0_draws_seed : Int32) (c_n10 : A32) (c_n15 : A32) (c_n20 : A32) (v6 : Int32) (v7 : Int32) (v8 : Int32) : Option (Int32) := if 7 ≤ v8 then Option.bind (f_L_at (v7 >>> (10 &&& 31)) 60) fun z_2 => Option.bind (f_L_cell n_q0 c_q0 (21 + v6)) fun z_3 => Option.bind (f_L_walks 59 22 c_n0_plan_galleries c_n0_plan_one c_n0_plan_two c_n0_air_breathing c_n0_crew_size c_n0_crew_kinds c_n0_now_open c_n0_now_moon c_n0_now_out c_n0_now_gone c_n0_now_gas c_n0_now_place c_n0_dream_open c_n0_dream_moon c_n0_dream_out c_n0_dream_gone c_n0_dream_gas c_n0_dream_place c_n0_draws_seed c_n10 c_n15 (1 + z_2) (z_3 &&& 2147483647)) fun z_4 => if z_4.1 = 0 then some 0 else f_L_law_b758 k179 n_q0 c_q0 c_n0_minesRead c_n0_doorsDone c_n0_page_length c_n0_page_letters c_n0_page_reader_due c_n0_page_reader_first c_n0_page_reader_galleries c_n0_page_reader_shafts c_n0_plan_galleries c_n0_plan_doors c_n0_plan_shafts c_n0_plan_one c_n0_plan_two c_n0_plan_length c_n0_plan_draught c_n0_air_breathing c_n0_air_height c_n0_air_into c_n0_air_nearest c_n0_smoke_lengths c_n0_crew_size c_n0_crew_kinds c_n0_now_open c_n0_now_moon c_n0_now_out c_n0_now_gone c_n0_now_gas c_n0_now_place z_4.2.1 z_4.2.2.1 z_4.2.2.2.1 z_4.2.2.2.2.1 z_4.2.2.2.2.2.1 z_4.2.2.2.2.2.2.1 z_4.2.2.2.2.2.2.2 c_n10 c_n15 c_n20 v6 else Option.bind (f_L_at (v7 >>> (16 &&& 31)) 5) fun z_6 => if z_6 = 0 then f_L_law_b655 k179 n_q0 c_q0 c_n0_minesRead c_n0_doorsDone c_n0_page_length c_n0_page_letters c_n0_page_reader_due c_n0_page_reader_first c_n0_page_reader_galleries c_n0_page_reader_shafts c_n0_plan_galleries c_n0_plan_doors c_n0_plan_shafts c_n0_plan_one c_n0_plan_two c_n0_plan_length c_n0_plan_draught c_n0_air_breathing c_n0_air_height c_n0_air_into c_n0_air_nearest c_n0_smoke_lengths c_n0_crew_size c_n0_crew_kinds c_n0_now_open c_n0_now_moon c_n0_now_out c_n0_now_gone c_n0_now_gas c_n0_now_place c_n0_dream_open c_n0_dream_moon c_n0_dream_out c_n0_dream_gone c_n0_dream_gas c_n0_dream_place c_n0_draws_seed c_n10 c_n15 c_n20 1 (v7 >>> (10 &&& 31)) 60 v6 else f_L_law_b655 k179 n_q0 c_q0 c_n0_minesRead c_n0_doorsDone c_n0_page_length c_n0_page_letters c_n0_page_reader_due c_n0_page_reader_first c_n0_page_reader_galleries c_n0_page_reader_shafts c_n0_plan_galleries c_n0_plan_doors c_n0_plan_shafts c_n0_plan_one c_n0_plan_two c_n0_plan_length c_n0_plan_draught c_n0_air_breathing c_n0_air_height c_n0_air_into c_n0_air_nearest c_n0_smoke_lengths c_n0_crew_size c_n0_crew_kinds c_n0_now_open c_n0_now_moon c_n0_now_out c_n0_now_gone c_n0_now_gas c_n0_now_place c_n0_dream_open c_n0_dream_moon c_n0_dream_out c_n0_dream_gone c_n0_dream_gas c_n0_dream_place c_n0_draws_seed c_n10 c_n15 c_n20 1 (v7 >>> (10 &&& 31)) 3 v6
def f_L_law_b241 (k179 : Int32 → A32 → A32 → A32 → A32 → Int32 → Int32 → Int32 → Int32 → A32 → A32 → Int32 → Int32 → Int32 → Int32 → A32 → A32 → Int32 → A32 → A32 → Int32 → Option (Int32)) (n_q0 : Nat) (c_q0 : A32) (c_n0_minesRead : Int32) (c_n0_doorsDone : Int32) (c_n0_page_length : Int32) (c_n0_page_letters : A32) (c_n0_page_reader_due : Int32) (c_n0_page_reader_first : Int32) (c_n0_page_reader_galleries : Int32) (c_n0_page_reader_shafts : Int32) (c_n0_plan_galleries : Int32) (c_n0_plan_doors : Int32) (c_n0_plan_shafts : Int32) (c_n0_plan_one : A32) (c_n0_plan_two : A32) (c_n0_plan_length : A32) (c_n0_plan_draught : A32) (c_n0_air_breathing : Int32) (c_n0_air_height : A32) (c_n0_air_into : A32) (c_n0_air_nearest : A32) (c_n0_smoke_lengths : A32) (c_n0_crew_size : Int32) (c_n0_crew_kinds : A32) (c_n0_now_open : Int32) (c_n0_now_moon : Int32) (c_n0_now_out : Int32) (c_n0_now_gone : Int32) (c_n0_now_gas : A32) (c_n0_now_place : A32) (c_n0_dream_open : Int32) (c_n0_dream_moon : Int32) (c_n0_dream_out : Int32) (c_n0_dream_gone : Int32) (c_n0_dream_gas : A32) (c_n0_dream_place : A32) (c_n0_draws_seed : Int32) (c_n10 : A32) (c_n15 : A32) (c_n20 : A32) (t0 : Int32) (v6 : Int32) (v7 : Int32) (v8 : Int32) (v9 : Int32) : Option (Int32) := if 2 ≤ v8 then if v8 = 2 then Option.bind (f_L_at (v7 >>> (10 &&& 31)) 3) fun z_5 => if z_5 = 0 then if inB 51 59 then if inB 51 59 then Option.bind (f_X10_turn c_n0_plan_galleries c_n0_plan_shafts c_n0_plan_one c_n0_plan_two c_n0_plan_length c_n0_plan_draught c_n0_air_breathing c_n0_air_height c_n0_air_into c_n0_air_nearest c_n0_smoke_lengths c_n0_now_open c_n0_now_moon) fun z_7 => if inB 51 59 then if z_7.1 = ((upd c_n10 (Int32.toNatClampNeg 51) (1 - (c_n10 (Int32.toNatClampNeg 51)))) (Int32.toNatClampNeg 51)) then f_L_law_b375 k179 n_q0 c_q0 c_n0_minesRead c_n0_doorsDone c_n0_page_length c_n0_page_letters c_n0_page_reader_due c_n0_page_reader_first c_n0_page_reader_galleries c_n0_page_reader_shafts c_n0_plan_galleries c_n0_plan_doors c_n0_plan_shafts c_n0_plan_one c_n0_plan_two c_n0_plan_length c_n0_plan_draught z_7.2.1 z_7.2.2.1 z_7.2.2.2.1 z_7.2.2.2.2.1 z_7.2.2.2.2.2.1 c_n0_crew_size c_n0_crew_kinds c_n0_now_open z_7.2.2.2.2.2.2 c_n0_now_out c_n0_now_gone c_n0_now_gas c_n0_now_place c_n0_dream_open c_n0_dream_moon c_n0_dream_out c_n0_dream_gone c_n0_dream_gas c_n0_dream_place c_n0_draws_seed (upd c_n10 (Int32.toNatClampNeg 51) (1 - (c_n10 (Int32.toNatClampNeg 51)))) c_n15 c_n20 v6 v7 else some 0 else none else none else none else f_L_law_b375 k179 n_q0 c_q0 c_n0_minesRead c_n0_doorsDone c_n0_page_length c_n0_page_letters c_n0_page_reader_due c_n0_page_reader_first c_n0_page_reader_galleries c_n0_page_reader_shafts c_n0_plan_galleries c_n0_plan_doors c_n0_plan_shafts c_n0_plan_one c_n0_plan_two c_n0_plan_length c_n0_plan_draught c_n0_air_breathing c_n0_air_height c_n0_air_into c_n0_air_nearest c_n0_smoke_lengths c_n0_crew_size c_n0_crew_kinds c_n0_now_open c_n0_now_moon c_n0_now_out c_n0_now_gone c_n0_now_gas c_n0_now_place c_n0_dream_open c_n0_dream_moon c_n0_dream_out c_n0_dream_gone c_n0_dream_gas c_n0_dream_place c_n0_draws_seed c_n10 c_n15 c_n20 v6 v7 else if 5 ≤ v8 then f_L_law_b624 k179 n_q0 c_q0 c_n0_minesRead c_n0_doorsDone c_n0_page_length c_n0_page_letters c_n0_page_reader_due c_n0_page_reader_first c_n0_page_reader_galleries c_n0_page_reader_shafts c_n0_plan_galleries c_n0_plan_doors c_n0_plan_shafts c_n0_plan_one c_n0_plan_two c_n0_plan_length c_n0_plan_draught c_n0_air_breathing c_n0_air_height c_n0_air_into c_n0_air_nearest c_n0_smoke_lengths c_n0_crew_size c_n0_crew_kinds c_n0_now_open c_n0_now_moon c_n0_now_out c_n0_now_gone c_n0_now_gas c_n0_now_place c_n0_dream_open c_n0_dream_moon c_n0_dream_out c_n0_dream_gone c_n0_dream_gas c_n0_dream_place c_n0_draws_seed c_n10 c_n15 c_n20 v6 v7 v8 else if inB 20 22 then if (c_n15 (Int32.toNatClampNeg 20)) ≤ 0 then f_L_law_b624 k179 n_q0 c_q0 c_n0_minesRead c_n0_doorsDone c_n0_page_length c_n0_page_letters c_n0_page_reader_due c_n0_page_reader_first c_n0_page_reader_galleries c_n0_page_reader_shafts c_n0_plan_galleries c_n0_plan_doors c_n0_plan_shafts c_n0_plan_one c_n0_plan_two c_n0_plan_length c_n0_plan_draught c_n0_air_breathing c_n0_air_height c_n0_air_into c_n0_air_nearest c_n0_smoke_lengths c_n0_crew_size c_n0_crew_kinds c_n0_now_open c_n0_now_moon c_n0_now_out c_n0_now_gone c_n0_now_gas c_n0_now_place c_n0_dream_open c_n0_dream_moon c_n0_dream_out c_n0_dream_gone c_n0_dream_gas c_n0_dream_place c_n0_draws_seed c_n10 c_n15 c_n20 v6 v7 v8 else f_L_law_b411 k179 n_q0 c_q0 c_n0_minesRead c_n0_doorsDone c_n0_page_length c_n0_page_letters c_n0_page_reader_due c_n0_page_reader_first c_n0_page_reader_galleries c_n0_page_reader_shafts c_n0_plan_galleries c_n0_plan_doors c_n0_plan_shafts c_n0_plan_one c_n0_plan_two c_n0_plan_length c_n0_plan_draught c_n0_air_breathing c_n0_air_height c_n0_air_into c_n0_air_nearest c_n0_smoke_lengths c_n0_crew_size c_n0_crew_kinds c_n0_now_open c_n0_now_moon c_n0_now_out c_n0_now_gone c_n0_now_gas c_n0_now_place c_n0_dream_open c_n0_dream_moon c_n0_dream_out c_n0_dream_gone c_n0_dream_gas c_n0_dream_place c_n0_draws_seed c_n10 c_n15 c_n20 v6 v7 t0 FU v9 0 else none else Option.bind (f_L_at (v7 >>> (10 &&& 31)) 2) fun z_9 => if z_9 = 0 then f_L_law_b266 k179 n_q0 c_q0 c_n0_minesRead c_n0_doorsDone c_n0_page_length c_n0_page_letters c_n0_page_reader_due c_n0_page_reader_first c_n0_page_reader_galleries c_n0_page_reader_shafts c_n0_plan_galleries c_n0_plan_doors c_n0_plan_shafts c_n0_plan_one c_n0_plan_two c_n0_plan_length c_n0_plan_draught c_n0_air_breathing c_n0_air_height c_n0_air_into c_n0_air_nearest c_n0_smoke_lengths c_n0_crew_size c_n0_crew_kinds c_n0_now_open c_n0_now_moon c_n0_now_out c_n0_now_gone c_n0_now_gas c_n0_now_place c_n0_dream_open c_n0_dream_moon c_n0_dream_out c_n0_dream_gone c_n0_dream_gas c_n0_dream_place c_n0_draws_seed c_n10 c_n15 c_n20 1 v6 v9 else f_L_law_b266 k179 n_q0 c_q0 c_n0_minesRead c_n0_doorsDone c_n0_page_length c_n0_page_letters c_n0_page_reader_due c_n0_page_reader_first c_n0_page_reader_galleries c_n0_page_reader_shafts c_n0_plan_galleries c_n0_plan_doors c_n0_plan_shafts c_n0_plan_one c_n0_plan_two c_n0_plan_length c_n0_plan_draught c_n0_air_breathing c_n0_air_height c_n0_air_into c_n0_air_nearest c_n0_smoke_lengths c_n0_crew_size c_n0_crew_kinds c_n0_now_open c_n0_now_moon c_n0_now_out c_n0_now_gone c_n0_now_gas c_n0_now_place c_n0_dream_open c_n0_dream_moon c_n0_dream_out c_n0_dream_gone c_n0_dream_gas c_n0_dream_place c_n0_draws_seed c_n10 c_n15 c_n20 0 v6 v9
def f_L_law_b1052  (n_q0 : Nat) (c_q0 : A32) (c_n0_minesRead : Int32) (c_n0_page_length : Int32) (c_n0_page_letters : A32) (c_n0_page_reader_due : Int32) (c_n0_page_reader_first : Int32) (c_n0_page_reader_galleries : Int32) (c_n0_page_reader_shafts : Int32) (c_n0_plan_galleries : Int32) (c_n0_plan_doors : Int32) (c_n0_plan_shafts : Int32) (c_n0_plan_one : A32) (c_n0_plan_two : A32) (c_n0_plan_length : A32) (c_n0_plan_draught : A32) (c_n0_air_breathing : Int32) (c_n0_air_height : A32) (c_n0_air_into : A32) (c_n0_air_nearest : A32) (c_n0_smoke_lengths : A32) (c_n0_crew_size : Int32) (c_n0_crew_kinds : A32) (c_n0_now_open : Int32) (c_n0_now_moon : Int32) (c_n0_now_out : Int32) (c_n0_now_gone : Int32) (c_n0_now_gas : A32) (c_n0_now_place : A32) (c_n0_dream_open : Int32) (c_n0_dream_moon : Int32) (c_n0_dream_out : Int32) (c_n0_dream_gone : Int32) (c_n0_dream_gas : A32) (c_n0_dream_place : A32) (c_n0_draws_seed : Int32) (c_n10 : A32) (c_n15 : A32) (c_n20 : A32) : Option (Int32) := some 1
def f_L_law_b943  (n_q0 : Nat) (c_q0 : A32) (c_n0_minesRead : Int32) (c_n0_page_length : Int32) (c_n0_page_letters : A32) (c_n0_page_reader_due : Int32) (c_n0_page_reader_first : Int32) (c_n0_page_reader_galleries : Int32) (c_n0_page_reader_shafts : Int32) (c_n0_plan_galleries : Int32) (c_n0_plan_doors : Int32) (c_n0_plan_shafts : Int32) (c_n0_plan_one : A32) (c_n0_plan_two : A32) (c_n0_plan_length : A32) (c_n0_plan_draught : A32) (c_n0_air_breathing : Int32) (c_n0_air_height : A32) (c_n0_air_into : A32) (c_n0_air_nearest : A32) (c_n0_smoke_lengths : A32) (c_n0_crew_size : Int32) (c_n0_crew_kinds : A32) (c_n0_now_open : Int32) (c_n0_now_moon : Int32) (c_n0_now_out : Int32) (c_n0_now_gone : Int32) (c_n0_now_gas : A32) (c_n0_now_place : A32) (c_n0_dream_open : Int32) (c_n0_dream_moon : Int32) (c_n0_dream_out : Int32) (c_n0_dream_gone : Int32) (c_n0_dream_gas : A32) (c_n0_dream_place : A32) (c_n0_draws_seed : Int32) (c_n10 : A32) (c_n15 : A32) (c_n20 : A32) (v7 : Int32) : Option (Int32) := Option.bind (f_X10_minutes c_n0_plan_galleries c_n0_air_breathing c_n0_crew_size c_n0_crew_kinds c_n0_now_out c_n0_now_gone c_n0_now_gas c_n0_now_place 0) fun z_1 => if z_1.1 = (-102) then Option.bind (f_X10_minutes c_n0_plan_galleries c_n0_air_breathing c_n0_crew_size c_n0_crew_kinds z_1.2.1 z_1.2.2.1 z_1.2.2.2 c_n0_now_place 61) fun z_3 => if z_3.1 = (-102) then Option.bind (f_X10_smelt c_n0_plan_galleries c_n0_smoke_lengths 7 0) fun z_5 => if z_5 = (-101) then Option.bind (f_X10_smelt c_n0_plan_galleries c_n0_smoke_lengths 0 (-1)) fun z_7 => if z_7 = (-101) then Option.bind (f_X10_wayOut c_n0_plan_galleries c_n0_plan_shafts c_n0_plan_one c_n0_plan_two c_n0_air_into 7) fun z_9 => if z_9 = (-101) then Option.bind (f_X10_walks c_n0_plan_galleries c_n0_plan_one c_n0_plan_two c_n0_air_breathing c_n0_crew_size c_n0_crew_kinds c_n0_now_open c_n0_now_moon z_3.2.1 z_3.2.2.1 z_3.2.2.2 c_n0_now_place c_n0_dream_open c_n0_dream_moon c_n0_dream_out c_n0_dream_gone c_n0_dream_gas c_n0_dream_place c_n0_draws_seed 0 0 0) fun z_11 => if z_11.1 = (-102) then Option.bind (f_X10_walks c_n0_plan_galleries c_n0_plan_one c_n0_plan_two c_n0_air_breathing c_n0_crew_size c_n0_crew_kinds c_n0_now_open c_n0_now_moon z_3.2.1 z_3.2.2.1 z_3.2.2.2 c_n0_now_place z_11.2.1 z_11.2.2.1 z_11.2.2.2.1 z_11.2.2.2.2.1 z_11.2.2.2.2.2.1 z_11.2.2.2.2.2.2.1 z_11.2.2.2.2.2.2.2 1 (-1) 0) fun z_13 => if z_13.1 = (-102) then Option.bind (f_X10_walks c_n0_plan_galleries c_n0_plan_one c_n0_plan_two c_n0_air_breathing c_n0_crew_size c_n0_crew_kinds c_n0_now_open c_n0_now_moon z_3.2.1 z_3.2.2.1 z_3.2.2.2 c_n0_now_place z_13.2.1 z_13.2.2.1 z_13.2.2.2.1 z_13.2.2.2.2.1 z_13.2.2.2.2.2.1 z_13.2.2.2.2.2.2.1 z_13.2.2.2.2.2.2.2 1 0 4) fun z_15 => if z_15.1 = (-102) then if v7 < 6 then f_L_law_b1052 n_q0 c_q0 c_n0_minesRead c_n0_page_length c_n0_page_letters c_n0_page_reader_due c_n0_page_reader_first c_n0_page_reader_galleries c_n0_page_reader_shafts c_n0_plan_galleries c_n0_plan_doors c_n0_plan_shafts c_n0_plan_one c_n0_plan_two c_n0_plan_length c_n0_plan_draught c_n0_air_breathing c_n0_air_height c_n0_air_into c_n0_air_nearest c_n0_smoke_lengths c_n0_crew_size c_n0_crew_kinds c_n0_now_open c_n0_now_moon z_3.2.1 z_3.2.2.1 z_3.2.2.2 c_n0_now_place z_15.2.1 z_15.2.2.1 z_15.2.2.2.1 z_15.2.2.2.2.1 z_15.2.2.2.2.2.1 z_15.2.2.2.2.2.2.1 z_15.2.2.2.2.2.2.2 c_n10 c_n15 c_n20 else Option.bind (f_X10_man c_n0_plan_galleries c_n0_crew_size c_n0_crew_kinds c_n0_now_place 0 0) fun z_18 => if z_18.1 = (-104) then f_L_law_b1052 n_q0 c_q0 c_n0_minesRead c_n0_page_length c_n0_page_letters c_n0_page_reader_due c_n0_page_reader_first c_n0_page_reader_galleries c_n0_page_reader_shafts c_n0_plan_galleries c_n0_plan_doors c_n0_plan_shafts c_n0_plan_one c_n0_plan_two c_n0_plan_length c_n0_plan_draught c_n0_air_breathing c_n0_air_height c_n0_air_into c_n0_air_nearest c_n0_smoke_lengths z_18.2.1 z_18.2.2.1 c_n0_now_open c_n0_now_moon z_3.2.1 z_3.2.2.1 z_3.2.2.2 z_18.2.2.2 z_15.2.1 z_15.2.2.1 z_15.2.2.2.1 z_15.2.2.2.2.1 z_15.2.2.2.2.2.1 z_15.2.2.2.2.2.2.1 z_15.2.2.2.2.2.2.2 c_n10 c_n15 c_n20 else some 0 else some 0 else some 0 else some 0 else some 0 else some 0 else some 0 else some 0 else some 0
def f_L_law_b179  (n_q0 : Nat) (c_q0 : A32) (c_n0_minesRead : Int32) (c_n0_doorsDone : Int32) (c_n0_page_length : Int32) (c_n0_page_letters : A32) (c_n0_page_reader_due : Int32) (c_n0_page_reader_first : Int32) (c_n0_page_reader_galleries : Int32) (c_n0_page_reader_shafts : Int32) (c_n0_plan_galleries : Int32) (c_n0_plan_doors : Int32) (c_n0_plan_shafts : Int32) (c_n0_plan_one : A32) (c_n0_plan_two : A32) (c_n0_plan_length : A32) (c_n0_plan_draught : A32) (c_n0_crew_size : Int32) (c_n0_crew_kinds : A32) (c_n20 : A32) : Nat → Int32 → A32 → A32 → A32 → A32 → Int32 → Int32 → Int32 → Int32 → A32 → A32 → Int32 → Int32 → Int32 → Int32 → A32 → A32 → Int32 → A32 → A32 → Int32 → Option (Int32)
  | 0, _, _, _, _, _, _, _, _, _, _, _, _, _, _, _, _, _, _, _, _, _ => none
  | fu + 1, c_n0_air_breathing, c_n0_air_height, c_n0_air_into, c_n0_air_nearest, c_n0_smoke_lengths, c_n0_now_open, c_n0_now_moon, c_n0_now_out, c_n0_now_gone, c_n0_now_gas, c_n0_now_place, c_n0_dream_open, c_n0_dream_moon, c_n0_dream_out, c_n0_dream_gone, c_n0_dream_gas, c_n0_dream_place, c_n0_draws_seed, c_n10, c_n15, v6 => if 12 ≤ v6 then if inB 0 59 then nam (c_n10 (Int32.toNatClampNeg 0)) fun v6_2 => if inB 20 22 then nam (c_n15 (Int32.toNatClampNeg 20)) fun v7_3 => Option.bind (f_X10_gallery c_n0_plan_galleries c_n0_plan_doors c_n0_plan_one c_n0_plan_two c_n0_plan_length c_n0_air_into c_n0_now_open v6_2 0) fun z_4 => if z_4 = (-101) then Option.bind (f_X10_gallery c_n0_plan_galleries c_n0_plan_doors c_n0_plan_one c_n0_plan_two c_n0_plan_length c_n0_air_into c_n0_now_open 0 6) fun z_6 => if z_6 = (-102) then Option.bind (f_X10_knot c_n0_plan_galleries c_n0_plan_draught c_n0_air_breathing c_n0_air_height c_n0_now_gas 7 0) fun z_8 => if z_8 = (-101) then Option.bind (f_X10_knot c_n0_plan_galleries c_n0_plan_draught c_n0_air_breathing c_n0_air_height c_n0_now_gas 0 4) fun z_10 => if z_10 = (-102) then Option.bind (f_X10_door c_n0_plan_galleries c_n0_plan_doors c_n0_plan_shafts c_n0_plan_one c_n0_plan_two c_n0_plan_length c_n0_plan_draught c_n0_air_breathing c_n0_air_height c_n0_air_into c_n0_air_nearest c_n0_smoke_lengths c_n0_now_open c_n0_now_moon v6_2 1) fun z_12 => if z_12.1 = (-101) then Option.bind (f_X10_man c_n0_plan_galleries c_n0_crew_size c_n0_crew_kinds c_n0_now_place 5 0) fun z_14 => if z_14.1 = (-102) then Option.bind (f_X10_man c_n0_plan_galleries z_14.2.1 z_14.2.2.1 z_14.2.2.2 0 7) fun z_16 => if z_16.1 = (-101) then Option.bind (f_X10_about z_16.2.1 z_16.2.2.1 c_n0_now_out z_16.2.2.2 v7_3 0) fun z_18 => if z_18 = (-101) then Option.bind (f_X10_as z_16.2.1 z_16.2.2.1 v7_3 0) fun z_20 => if z_20 = (-101) then Option.bind (f_X10_walk c_n0_plan_galleries c_n0_plan_one c_n0_plan_two z_16.2.1 z_16.2.2.1 z_12.2.2.2.2.2.2 c_n0_now_out z_16.2.2.2 v7_3 0) fun z_22 => if z_22.1 = (-101) then if v7_3 = 0 then f_L_law_b943 n_q0 c_q0 c_n0_minesRead c_n0_page_length c_n0_page_letters c_n0_page_reader_due c_n0_page_reader_first c_n0_page_reader_galleries c_n0_page_reader_shafts c_n0_plan_galleries c_n0_plan_doors c_n0_plan_shafts c_n0_plan_one c_n0_plan_two c_n0_plan_length c_n0_plan_draught z_12.2.1 z_12.2.2.1 z_12.2.2.2.1 z_12.2.2.2.2.1 z_12.2.2.2.2.2.1 z_16.2.1 z_16.2.2.1 z_12.2.2.2.2.2.2 c_n0_now_moon c_n0_now_out c_n0_now_gone c_n0_now_gas z_22.2 c_n0_dream_open c_n0_dream_moon c_n0_dream_out c_n0_dream_gone c_n0_dream_gas c_n0_dream_place c_n0_draws_seed c_n10 c_n15 c_n20 v7_3 else Option.bind (f_X10_walk c_n0_plan_galleries c_n0_plan_one c_n0_plan_two z_16.2.1 z_16.2.2.1 z_12.2.2.2.2.2.2 c_n0_now_out z_22.2 0 v6_2) fun z_25 => if z_25.1 = (-101) then Option.bind (f_X10_about z_16.2.1 z_16.2.2.1 c_n0_now_out z_25.2 0 4) fun z_27 => if z_27 = (-102) then Option.bind (f_X10_as z_16.2.1 z_16.2.2.1 0 5) fun z_29 => if z_29 = (-102) then f_L_law_b943 n_q0 c_q0 c_n0_minesRead c_n0_page_length c_n0_page_letters c_n0_page_reader_due c_n0_page_reader_first c_n0_page_reader_galleries c_n0_page_reader_shafts c_n0_plan_galleries c_n0_plan_doors c_n0_plan_shafts c_n0_plan_one c_n0_plan_two c_n0_plan_length c_n0_plan_draught z_12.2.1 z_12.2.2.1 z_12.2.2.2.1 z_12.2.2.2.2.1 z_12.2.2.2.2.2.1 z_16.2.1 z_16.2.2.1 z_12.2.2.2.2.2.2 c_n0_now_moon c_n0_now_out c_n0_now_gone c_n0_now_gas z_25.2 c_n0_dream_open c_n0_dream_moon c_n0_dream_out c_n0_dream_gone c_n0_dream_gas c_n0_dream_place c_n0_draws_seed c_n10 c_n15 c_n20 v7_3 else some 0 else some 0 else some 0 else some 0 else some 0 else some 0 else some 0 else some 0 else some 0 else some 0 else some 0 else some 0 else some 0 else none else none else Option.bind (f_L_cell n_q0 c_q0 (9 + v6)) fun z_31 => Option.bind (f_L_at z_31 8) fun z_32 => if inB 0 59 then Option.bind (f_L_at (z_31 >>> (3 &&& 31)) (c_n10 (Int32.toNatClampNeg 0))) fun z_33 => if inB 20 22 then if (c_n15 (Int32.toNatClampNeg 20)) = 0 then f_L_law_b241 (f_L_law_b179 n_q0 c_q0 c_n0_minesRead c_n0_doorsDone c_n0_page_length c_n0_page_letters c_n0_page_reader_due c_n0_page_reader_first c_n0_page_reader_galleries c_n0_page_reader_shafts c_n0_plan_galleries c_n0_plan_doors c_n0_plan_shafts c_n0_plan_one c_n0_plan_two c_n0_plan_length c_n0_plan_draught c_n0_crew_size c_n0_crew_kinds c_n20 fu) n_q0 c_q0 c_n0_minesRead c_n0_doorsDone c_n0_page_length c_n0_page_letters c_n0_page_reader_due c_n0_page_reader_first c_n0_page_reader_galleries c_n0_page_reader_shafts c_n0_plan_galleries c_n0_plan_doors c_n0_plan_shafts c_n0_plan_one c_n0_plan_two c_n0_plan_length c_n0_plan_draught c_n0_air_breathing c_n0_air_height c_n0_air_into c_n0_air_nearest c_n0_smoke_lengths c_n0_crew_size c_n0_crew_kinds c_n0_now_open c_n0_now_moon c_n0_now_out c_n0_now_gone c_n0_now_gas c_n0_now_place c_n0_dream_open c_n0_dream_moon c_n0_dream_out c_n0_dream_gone c_n0_dream_gas c_n0_dream_place c_n0_draws_seed c_n10 c_n15 c_n20 0 v6 z_31 z_32 z_33 else if inB 20 22 then Option.bind (f_L_at (z_31 >>> (7 &&& 31)) (c_n15 (Int32.toNatClampNeg 20))) fun z_35 => f_L_law_b241 (f_L_law_b179 n_q0 c_q0 c_n0_minesRead c_n0_doorsDone c_n0_page_length c_n0_page_letters c_n0_page_reader_due c_n0_page_reader_first c_n0_page_reader_galleries c_n0_page_reader_shafts c_n0_plan_galleries c_n0_plan_doors c_n0_plan_shafts c_n0_plan_one c_n0_plan_two c_n0_plan_length c_n0_plan_draught c_n0_crew_size c_n0_crew_kinds c_n20 fu) n_q0 c_q0 c_n0_minesRead c_n0_doorsDone c_n0_page_length c_n0_page_letters c_n0_page_reader_due c_n0_page_reader_first c_n0_page_reader_galleries c_n0_page_reader_shafts c_n0_plan_galleries c_n0_plan_doors c_n0_plan_shafts c_n0_plan_one c_n0_plan_two c_n0_plan_length c_n0_plan_draught c_n0_air_breathing c_n0_air_height c_n0_air_into c_n0_air_nearest c_n0_smoke_lengths c_n0_crew_size c_n0_crew_kinds c_n0_now_open c_n0_now_moon c_n0_now_out c_n0_now_gone c_n0_now_gas c_n0_now_place c_n0_dream_open c_n0_dream_moon c_n0_dream_out c_n0_dream_gone c_n0_dream_gas c_n0_dream_place c_n0_draws_seed c_n10 c_n15 c_n20 z_35 v6 z_31 z_32 z_33 else none else none else none
def f_L_law_b93  (n_q0 : Nat) (c_q0 : A32) (c_n0_minesRead : Int32) (c_n0_doorsDone : Int32) (c_n0_page_length : Int32) (c_n0_page_letters : A32) (c_n0_page_reader_due : Int32) (c_n0_page_reader_first : Int32) (c_n0_page_reader_galleries : Int32) (c_n0_page_reader_shafts : Int32) (c_n0_plan_galleries : Int32) (c_n0_plan_doors : Int32) (c_n0_plan_shafts : Int32) (c_n0_plan_one : A32) (c_n0_plan_two : A32) (c_n0_plan_length : A32) (c_n0_plan_draught : A32) (c_n0_air_breathing : Int32) (c_n0_air_height : A32) (c_n0_air_into : A32) (c_n0_air_nearest : A32) (c_n0_smoke_lengths : A32) (c_n0_crew_size : Int32) (c_n0_crew_kinds : A32) (c_n0_now_open : Int32) (c_n0_now_moon : Int32) (c_n0_now_out : Int32) (c_n0_now_gone : Int32) (c_n0_now_gas : A32) (c_n0_now_place : A32) (c_n0_dream_open : Int32) (c_n0_dream_moon : Int32) (c_n0_dream_out : Int32) (c_n0_dream_gone : Int32) (c_n0_dream_gas : A32) (c_n0_dream_place : A32) (c_n0_draws_seed : Int32) (c_n10 : A32) (c_n15 : A32) (c_n20 : A32) : Nat → Int32 → Option (Int32)
  | 0, _ => none
  | fu + 1, v6 => if inB 20 22 then if (c_n15 (Int32.toNatClampNeg 20)) ≤ v6 then f_L_law_b179 n_q0 c_q0 c_n0_minesRead c_n0_doorsDone c_n0_page_length c_n0_page_letters c_n0_page_reader_due c_n0_page_reader_first c_n0_page_reader_galleries c_n0_page_reader_shafts c_n0_plan_galleries c_n0_plan_doors c_n0_plan_shafts c_n0_plan_one c_n0_plan_two c_n0_plan_length c_n0_plan_draught c_n0_crew_size c_n0_crew_kinds c_n20 FU c_n0_air_breathing c_n0_air_height c_n0_air_into c_n0_air_nearest c_n0_smoke_lengths c_n0_now_open c_n0_now_moon c_n0_now_out c_n0_now_gone c_n0_now_gas c_n0_now_place c_n0_dream_open c_n0_dream_moon c_n0_dream_out c_n0_dream_gone c_n0_dream_gas c_n0_dream_place c_n0_draws_seed c_n10 c_n15 0 else f_L_law_b105 (f_L_law_b93 n_q0 c_q0 c_n0_minesRead c_n0_doorsDone c_n0_page_length c_n0_page_letters c_n0_page_reader_due c_n0_page_reader_first c_n0_page_reader_galleries c_n0_page_reader_shafts c_n0_plan_galleries c_n0_plan_doors c_n0_plan_shafts c_n0_plan_one c_n0_plan_two c_n0_plan_length c_n0_plan_draught c_n0_air_breathing c_n0_air_height c_n0_air_into c_n0_air_nearest c_n0_smoke_lengths c_n0_crew_size c_n0_crew_kinds c_n0_now_open c_n0_now_moon c_n0_now_out c_n0_now_gone c_n0_now_gas c_n0_now_place c_n0_dream_open c_n0_dream_moon c_n0_dream_out c_n0_dream_gone c_n0_dream_gas c_n0_dream_place c_n0_draws_seed c_n10 c_n15 c_n20 fu) n_q0 c_q0 c_n0_minesRead c_n0_doorsDone c_n0_page_length c_n0_page_letters c_n0_page_reader_due c_n0_page_reader_first c_n0_page_reader_galleries c_n0_page_reader_shafts c_n0_plan_galleries c_n0_plan_doors c_n0_plan_shafts c_n0_plan_one c_n0_plan_two c_n0_plan_length c_n0_plan_draught c_n0_air_breathing c_n0_air_height c_n0_air_into c_n0_air_nearest c_n0_smoke_lengths c_n0_crew_size c_n0_crew_kinds c_n0_now_open c_n0_now_moon c_n0_now_out c_n0_now_gone c_n0_now_gas c_n0_now_place c_n0_dream_open c_n0_dream_moon c_n0_dream_out c_n0_dream_gone c_n0_dream_gas c_n0_dream_place c_n0_draws_seed c_n10 c_n15 c_n20 v6 FU 0 else none
def f_L_law_b8  (n_q0 : Nat) (c_q0 : A32) (c_n0_minesRead : Int32) (c_n0_doorsDone : Int32) (c_n0_page_length : Int32) (c_n0_page_letters : A32) (c_n0_page_reader_due : Int32) (c_n0_page_reader_first : Int32) (c_n0_page_reader_galleries : Int32) (c_n0_page_reader_shafts : Int32) (c_n0_plan_galleries : Int32) (c_n0_plan_doors : Int32) (c_n0_plan_shafts : Int32) (c_n0_plan_one : A32) (c_n0_plan_two : A32) (c_n0_plan_length : A32) (c_n0_plan_draught : A32) (c_n0_air_breathing : Int32) (c_n0_air_height : A32) (c_n0_air_into : A32) (c_n0_air_nearest : A32) (c_n0_smoke_lengths : A32) (c_n0_crew_size : Int32) (c_n0_crew_kinds : A32) (c_n0_now_open : Int32) (c_n0_now_moon : Int32) (c_n0_now_out : Int32) (c_n0_now_gone : Int32) (c_n0_now_gas : A32) (c_n0_now_place : A32) (c_n0_dream_open : Int32) (c_n0_dream_moon : Int32) (c_n0_dream_out : Int32) (c_n0_dream_gone : Int32) (c_n0_dream_gas : A32) (c_n0_dream_place : A32) (c_n0_draws_seed : Int32) : Option (Int32) := Option.bind (f_L_mineText 59 64 n_q0 c_q0 (fun _ => 0) (fun _ => 0) 0 10) fun z_1 => Option.bind (f_L_write 64 c_n0_page_length c_n0_page_letters z_1.2.2 z_1.1) fun z_2 => if z_2.1 = 0 then some 0 else Option.bind (f_X10_fault z_2.2.1 z_2.2.2 c_n0_page_reader_due c_n0_page_reader_first c_n0_page_reader_galleries c_n0_page_reader_shafts) fun z_4 => if z_4.1 = z_1.1 then Option.bind (f_X10_mine c_n0_minesRead z_2.2.1 z_2.2.2 z_4.2.1 z_4.2.2.1 z_4.2.2.2.1 z_4.2.2.2.2 c_n0_plan_galleries c_n0_plan_doors c_n0_plan_shafts c_n0_plan_one c_n0_plan_two c_n0_plan_length c_n0_plan_draught c_n0_air_breathing c_n0_air_height c_n0_air_into c_n0_air_nearest c_n0_smoke_lengths c_n0_crew_size c_n0_now_open c_n0_now_moon c_n0_now_out c_n0_now_gone c_n0_now_gas) fun z_6 => if inB 0 59 then if z_6.1 = (z_1.2.1 (Int32.toNatClampNeg 0)) then Option.bind (f_L_men 22 n_q0 c_q0 z_6.2.2.2.2.2.2.2.1 z_6.2.2.2.2.2.2.2.2.2.2.2.2.2.2.2.2.2.2.2.1 c_n0_crew_kinds c_n0_now_place (fun _ => 0) 7 6) fun z_8 => if z_8.1 = 0 then some 0 else Option.bind (f_L_stands 59 22 z_6.2.1 c_n0_doorsDone z_6.2.2.1 z_6.2.2.2.2.2.2.2.1 z_6.2.2.2.2.2.2.2.2.1 z_6.2.2.2.2.2.2.2.2.2.1 z_6.2.2.2.2.2.2.2.2.2.2.1 z_6.2.2.2.2.2.2.2.2.2.2.2.1 z_6.2.2.2.2.2.2.2.2.2.2.2.2.1 z_6.2.2.2.2.2.2.2.2.2.2.2.2.2.1 z_6.2.2.2.2.2.2.2.2.2.2.2.2.2.2.1 z_6.2.2.2.2.2.2.2.2.2.2.2.2.2.2.2.1 z_6.2.2.2.2.2.2.2.2.2.2.2.2.2.2.2.2.1 z_8.2.1 z_8.2.2.1 z_6.2.2.2.2.2.2.2.2.2.2.2.2.2.2.2.2.2.2.2.2.1 z_6.2.2.2.2.2.2.2.2.2.2.2.2.2.2.2.2.2.2.2.2.2.1 z_6.2.2.2.2.2.2.2.2.2.2.2.2.2.2.2.2.2.2.2.2.2.2.1 z_6.2.2.2.2.2.2.2.2.2.2.2.2.2.2.2.2.2.2.2.2.2.2.2.1 z_6.2.2.2.2.2.2.2.2.2.2.2.2.2.2.2.2.2.2.2.2.2.2.2.2 z_8.2.2.2.1 z_1.2.1 z_8.2.2.2.2) fun z_10 => if z_10 = 0 then some 0 else f_L_law_b93 n_q0 c_q0 z_6.2.1 c_n0_doorsDone z_6.2.2.1 z_2.2.2 z_6.2.2.2.1 z_6.2.2.2.2.1 z_6.2.2.2.2.2.1 z_6.2.2.2.2.2.2.1 z_6.2.2.2.2.2.2.2.1 z_6.2.2.2.2.2.2.2.2.1 z_6.2.2.2.2.2.2.2.2.2.1 z_6.2.2.2.2.2.2.2.2.2.2.1 z_6.2.2.2.2.2.2.2.2.2.2.2.1 z_6.2.2.2.2.2.2.2.2.2.2.2.2.1 z_6.2.2.2.2.2.2.2.2.2.2.2.2.2.1 z_6.2.2.2.2.2.2.2.2.2.2.2.2.2.2.1 z_6.2.2.2.2.2.2.2.2.2.2.2.2.2.2.2.1 z_6.2.2.2.2.2.2.2.2.2.2.2.2.2.2.2.2.1 z_6.2.2.2.2.2.2.2.2.2.2.2.2.2.2.2.2.2.1 z_6.2.2.2.2.2.2.2.2.2.2.2.2.2.2.2.2.2.2.1 z_8.2.1 z_8.2.2.1 z_6.2.2.2.2.2.2.2.2.2.2.2.2.2.2.2.2.2.2.2.2.1 z_6.2.2.2.2.2.2.2.2.2.2.2.2.2.2.2.2.2.2.2.2.2.1 z_6.2.2.2.2.2.2.2.2.2.2.2.2.2.2.2.2.2.2.2.2.2.2.1 z_6.2.2.2.2.2.2.2.2.2.2.2.2.2.2.2.2.2.2.2.2.2.2.2.1 z_6.2.2.2.2.2.2.2.2.2.2.2.2.2.2.2.2.2.2.2.2.2.2.2.2 z_8.2.2.2.1 c_n0_dream_open c_n0_dream_moon c_n0_dream_out c_n0_dream_gone c_n0_dream_gas c_n0_dream_place c_n0_draws_seed z_1.2.1 z_8.2.2.2.2 z_1.2.2 FU 0 else some 0 else none else some 0
end
section
/-! ===== Int32 by its bits: bt x i ===== -/
def bt (x : Int32) (i : Nat) : Bool := x.toBitVec.getLsbD i
theorem b_ext {x y : Int32} (h : ∀ i, i < 32 → bt x i = bt y i) : x = y := Int32.toBitVec_inj.mp (BitVec.eq_of_getLsbD_eq (fun i hi => h i hi))
theorem b_or (x y : Int32) (i : Nat) : bt (x ||| y) i = (bt x i || bt y i) := by unfold bt; rw [Int32.toBitVec_or, BitVec.getLsbD_or]
theorem b_and (x y : Int32) (i : Nat) : bt (x &&& y) i = (bt x i && bt y i) := by unfold bt; rw [Int32.toBitVec_and, BitVec.getLsbD_and]
theorem b_xor (x y : Int32) (i : Nat) : bt (x ^^^ y) i = (bt x i ^^ bt y i) := by unfold bt; rw [Int32.toBitVec_xor, BitVec.getLsbD_xor]
theorem b_big {x : Int32} {i : Nat} (h : 32 ≤ i) : bt x i = false := BitVec.getLsbD_of_ge _ _ h
theorem b_255 (i : Nat) : bt 255 i = decide (i < 8) := by
  rcases Nat.lt_or_ge i 32 with h | h
  · exact (by decide +kernel : ∀ i, i < 32 → bt 255 i = decide (i < 8)) i h
  · rw [b_big h, decide_eq_false (by omega)]
theorem b_65535 (i : Nat) : bt 65535 i = decide (i < 16) := by
  rcases Nat.lt_or_ge i 32 with h | h
  · exact (by decide +kernel : ∀ i, i < 32 → bt 65535 i = decide (i < 16)) i h
  · rw [b_big h, decide_eq_false (by omega)]
theorem b_m1 : ∀ i, i < 32 → bt (-1) i = true := by decide +kernel
theorem b_0 (i : Nat) : bt 0 i = false := BitVec.getLsbD_zero
theorem s_l : ∀ n, n < 32 → ((nI n &&& 31).toBitVec.smod 32).toNat = n := by decide +kernel
theorem s_u : ∀ n, n < 32 → (((nI n).toUInt32 &&& Int32.toUInt32 31).toBitVec % 32).toNat = n := by decide +kernel
theorem b_shl (n : Nat) (hn : n < 32) (x : Int32) {i : Nat} (hi : i < 32) : bt (x <<< (nI n &&& 31)) i = (decide (n ≤ i) && bt x (i - n)) := by
  unfold bt
  rw [Int32.toBitVec_shiftLeft]
  show (x.toBitVec <<< ((nI n &&& 31).toBitVec.smod 32).toNat).getLsbD i = _
  rw [s_l n hn, BitVec.getLsbD_shiftLeft]
  rcases Nat.lt_or_ge i n with h | h
  · simp [h, Nat.not_le.mpr h]
  · simp [hi, h, Nat.not_lt.mpr h]
theorem b_ushr (n : Nat) (hn : n < 32) (x : Int32) (i : Nat) : bt ((x.toUInt32 >>> ((nI n).toUInt32 &&& Int32.toUInt32 31)).toInt32) i = bt x (n + i) := by
  show (x.toUInt32 >>> ((nI n).toUInt32 &&& Int32.toUInt32 31)).toBitVec.getLsbD i = x.toUInt32.toBitVec.getLsbD (n + i)
  rw [UInt32.toBitVec_shiftRight]
  show (x.toUInt32.toBitVec >>> (((nI n).toUInt32 &&& Int32.toUInt32 31).toBitVec % 32).toNat).getLsbD i = _
  rw [s_u n hn, BitVec.getLsbD_ushiftRight]
theorem b_sshr (n : Nat) (hn : n < 32) (x : Int32) {i : Nat} (hi : i < 32) : bt (x >>> (nI n &&& 31)) i = if n + i < 32 then bt x (n + i) else bt x 31 := by
  unfold bt
  rw [Int32.toBitVec_shiftRight]
  show (x.toBitVec.sshiftRight ((nI n &&& 31).toBitVec.smod 32).toNat).getLsbD i = _
  rw [s_l n hn, BitVec.getLsbD_sshiftRight, BitVec.msb_eq_getLsbD_last]
  simp [hi]
/-! ===== drawers: more things than places ===== -/
theorem fb_holes : ∀ (m n : Nat) (f : Nat → Nat), (∀ i, i < n → f i < m) → (∀ i j, i < j → j < n → f i ≠ f j) → n ≤ m := by
  intro m
  induction m with
  | zero =>
    intro n f h1 _
    rcases Nat.eq_zero_or_pos n with h | h
    · omega
    · exact absurd (h1 0 h) (Nat.not_lt_zero _)
  | succ m ih =>
    intro n f h1 h2
    by_cases hx : ∃ i, i < n ∧ f i = m
    · obtain ⟨a, ha, hfa⟩ := hx
      have hg := ih (n - 1) (fun i => if i < a then f i else f (i + 1)) (by
        intro i hi
        by_cases q : i < a
        · simp only [if_pos q]
          have b1 := h1 i (by omega)
          have b2 := h2 i a q ha
          omega
        · simp only [if_neg q]
          have b1 := h1 (i + 1) (by omega)
          have b2 := h2 a (i + 1) (by omega) (by omega)
          omega) (by
        intro i j hij hj
        by_cases q : i < a
        · by_cases r : j < a
          · simp only [if_pos q, if_pos r]
            exact h2 i j hij (by omega)
          · simp only [if_pos q, if_neg r]
            exact h2 i (j + 1) (by omega) (by omega)
        · have r : ¬ j < a := by omega
          simp only [if_neg q, if_neg r]
          exact h2 (i + 1) (j + 1) (by omega) (by omega))
      omega
    · have hg := ih n f (fun i hi => by
        have b1 := h1 i hi
        have b2 : f i ≠ m := fun e => hx ⟨i, hi, e⟩
        omega) h2
      omega
/-- two of them in one place -/
theorem fb_twice {m n : Nat} {f : Nat → Nat} (h : ∀ i, i < n → f i < m) (hm : m < n) : ∃ i j, i < j ∧ j < n ∧ f i = f j := by
  refine Classical.byContradiction fun hx => ?_
  have := fb_holes m n f h (fun i j hij hj e => hx ⟨i, j, hij, hj, e⟩)
  omega
/-- as many as places, none twice: each place is taken -/
theorem fb_onto {n : Nat} {f : Nat → Nat} (h : ∀ i, i < n → f i < n) (h2 : ∀ i j, i < j → j < n → f i ≠ f j) {y : Nat} (hy : y < n) : ∃ i, i < n ∧ f i = y := by
  refine Classical.byContradiction fun hx => ?_
  have hne : ∀ i, i < n → f i ≠ y := fun i hi e => hx ⟨i, hi, e⟩
  have := fb_holes (n - 1) n (fun i => if f i < y then f i else f i - 1) (by
    intro i hi
    have b1 := h i hi
    have b2 := hne i hi
    by_cases q : f i < y
    · simp only [if_pos q]; omega
    · simp only [if_neg q]; omega) (by
    intro i j hij hj
    have b1 := hne i (by omega)
    have b2 := hne j hj
    have b3 := h2 i j hij hj
    by_cases q : f i < y
    · by_cases r : f j < y
      · simp only [if_pos q, if_pos r]; exact b3
      · simp only [if_pos q, if_neg r]; omega
    · by_cases r : f j < y
      · simp only [if_neg q, if_pos r]; omega
      · simp only [if_neg q, if_neg r]; omega)
  omega
/-! ===== how many places have a property ===== -/
def fb_ct (p : Nat → Bool) : Nat → Nat
  | 0 => 0
  | n + 1 => fb_ct p n + (if p n then 1 else 0)
theorem fb_ct_succ (p : Nat → Bool) (n : Nat) : fb_ct p (n + 1) = fb_ct p n + (if p n then 1 else 0) := rfl
theorem fb_ct_le (p : Nat → Bool) : ∀ n, fb_ct p n ≤ n
  | 0 => Nat.le_refl _
  | n + 1 => by
    have h := fb_ct_le p n
    rw [fb_ct_succ]
    split <;> omega
theorem fb_ct_step (p : Nat → Bool) (m : Nat) : ∀ n, fb_ct p m ≤ fb_ct p (m + n)
  | 0 => Nat.le_refl _
  | n + 1 => by
    have h := fb_ct_step p m n
    show fb_ct p m ≤ fb_ct p (m + n + 1)
    rw [fb_ct_succ]
    omega
theorem fb_ct_mono (p : Nat → Bool) {m n : Nat} (h : m ≤ n) : fb_ct p m ≤ fb_ct p n := by
  have := fb_ct_step p m (n - m)
  rwa [Nat.add_sub_cancel' h] at this
theorem fb_ct_cong {p q : Nat → Bool} : ∀ {n : Nat}, (∀ k, k < n → p k = q k) → fb_ct p n = fb_ct q n
  | 0, _ => rfl
  | n + 1, h => by
    rw [fb_ct_succ, fb_ct_succ, fb_ct_cong (fun k hk => h k (by omega)), h n (by omega)]
/-- one place changed -/
theorem fb_ct_out (p : Nat → Bool) (b : Bool) {i n : Nat} (h : n ≤ i) : fb_ct (fun k => if k = i then b else p k) n = fb_ct p n :=
  fb_ct_cong fun k hk => if_neg (by omega)
theorem fb_ct_upd (p : Nat → Bool) (b : Bool) {i : Nat} : ∀ {n : Nat}, i < n → fb_ct (fun k => if k = i then b else p k) n + (if p i then 1 else 0) = fb_ct p n + (if b then 1 else 0)
  | 0, h => absurd h (Nat.not_lt_zero i)
  | n + 1, h => by
    rw [fb_ct_succ, fb_ct_succ]
    rcases Nat.lt_or_ge i n with q | q
    · have := fb_ct_upd p b q
      have e : (if n = i then b else p n) = p n := if_neg (by omega)
      rw [e]
      omega
    · have e : i = n := by omega
      subst e
      rw [fb_ct_out p b (Nat.le_refl _)]
      simp only [if_true]
      omega
theorem fb_ct_sub {p q : Nat → Bool} : ∀ {n : Nat}, (∀ k, k < n → p k = true → q k = true) → fb_ct p n ≤ fb_ct q n
  | 0, _ => Nat.le_refl _
  | n + 1, h => by
    have h1 := fb_ct_sub (n := n) (p := p) (q := q) (fun k hk => h k (by omega))
    have h2 := h n (by omega)
    rw [fb_ct_succ, fb_ct_succ]
    cases hp : p n <;> cases hq : q n <;> simp_all <;> omega
theorem fb_ct_or {p q : Nat → Bool} : ∀ {n : Nat}, (∀ k, k < n → ¬ (p k = true ∧ q k = true)) → fb_ct (fun k => p k || q k) n = fb_ct p n + fb_ct q n
  | 0, _ => rfl
  | n + 1, h => by
    have h1 := fb_ct_or (n := n) (p := p) (q := q) (fun k hk => h k (by omega))
    have h2 := h n (by omega)
    rw [fb_ct_succ, fb_ct_succ, fb_ct_succ, h1]
    cases hp : p n <;> cases hq : q n <;> simp_all <;> omega
theorem fb_ct_not (p : Nat → Bool) : ∀ n, fb_ct p n + fb_ct (fun k => !p k) n = n
  | 0 => rfl
  | n + 1 => by
    have h := fb_ct_not p n
    rw [fb_ct_succ, fb_ct_succ]
    cases p n <;> simp <;> omega
theorem fb_ct_split (p : Nat → Bool) (m : Nat) : ∀ n, fb_ct p (m + n) = fb_ct p m + fb_ct (fun k => p (m + k)) n
  | 0 => rfl
  | n + 1 => by
    have h := fb_ct_split p m n
    show fb_ct p (m + n + 1) = _
    rw [fb_ct_succ, fb_ct_succ, h, Nat.add_assoc]
theorem fb_ct_zero {p : Nat → Bool} : ∀ {n : Nat}, fb_ct p n = 0 ↔ ∀ k, k < n → p k = false
  | 0 => ⟨fun _ k hk => absurd hk (Nat.not_lt_zero k), fun _ => rfl⟩
  | n + 1 => by
    have h := fb_ct_zero (p := p) (n := n)
    rw [fb_ct_succ]
    constructor
    · intro e k hk
      have e1 : fb_ct p n = 0 := by omega
      rcases Nat.lt_or_ge k n with q | q
      · exact h.mp e1 k q
      · have ek : k = n := by omega
        subst ek
        cases hp : p k
        · rfl
        · simp [hp] at e
    · intro a
      rw [h.mpr (fun k hk => a k (by omega)), a n (by omega)]
      rfl
theorem fb_ct_pos {p : Nat → Bool} {n : Nat} : 0 < fb_ct p n ↔ ∃ k, k < n ∧ p k = true := by
  constructor
  · intro h
    refine Classical.byContradiction fun hx => ?_
    have := fb_ct_zero.mpr (fun k hk => by
      cases hp : p k
      · rfl
      · exact absurd ⟨k, hk, hp⟩ hx : ∀ k, k < n → p k = false)
    omega
  · rintro ⟨k, hk, hp⟩
    rcases Nat.eq_zero_or_pos (fb_ct p n) with e | e
    · have := fb_ct_zero.mp e k hk
      rw [this] at hp
      cases hp
    · exact e
theorem fb_ct_all {p : Nat → Bool} {n : Nat} : fb_ct p n = n ↔ ∀ k, k < n → p k = true := by
  have h := fb_ct_not p n
  constructor
  · intro e k hk
    have z : fb_ct (fun k => !p k) n = 0 := by omega
    have := fb_ct_zero.mp z k hk
    cases hp : p k
    · simp [hp] at this
    · rfl
  · intro a
    have z : fb_ct (fun k => !p k) n = 0 := fb_ct_zero.mpr (fun k hk => by simp [a k hk])
    omega
/-- the k-th place with the property -/
theorem fb_ct_kth {p : Nat → Bool} {k : Nat} : ∀ {n : Nat}, k < fb_ct p n → ∃ i, i < n ∧ p i = true ∧ fb_ct p i = k
  | 0, h => absurd h (Nat.not_lt_zero k)
  | n + 1, h => by
    rcases Nat.lt_or_ge k (fb_ct p n) with q | q
    · obtain ⟨i, h1, h2⟩ := fb_ct_kth q
      exact ⟨i, by omega, h2⟩
    · rw [fb_ct_succ] at h
      cases hp : p n
      · simp [hp] at h; omega
      · simp [hp] at h
        exact ⟨n, by omega, hp, by omega⟩
theorem fb_ct_kth_one {p : Nat → Bool} {i j : Nat} (hi : p i = true) (hj : p j = true) (e : fb_ct p i = fb_ct p j) : i = j := by
  have key : ∀ a b : Nat, a < b → p a = true → fb_ct p a < fb_ct p b := by
    intro a b hab ha
    have h := fb_ct_mono p (show a + 1 ≤ b from hab)
    rw [fb_ct_succ, ha] at h
    simp at h
    omega
  rcases Nat.lt_trichotomy i j with q | q | q
  · have := key i j q hi; omega
  · exact q
  · have := key j i q hj; omega
/-! ===== sums over a range: one place changed, parts, bounds ===== -/
def fb_sm (f : Nat → Nat) : Nat → Nat
  | 0 => 0
  | n + 1 => fb_sm f n + f n
theorem fb_sm_succ (f : Nat → Nat) (n : Nat) : fb_sm f (n + 1) = fb_sm f n + f n := rfl
theorem fb_sm_cong {f g : Nat → Nat} : ∀ {n : Nat}, (∀ k, k < n → f k = g k) → fb_sm f n = fb_sm g n
  | 0, _ => rfl
  | n + 1, h => by rw [fb_sm_succ, fb_sm_succ, fb_sm_cong (fun k hk => h k (by omega)), h n (by omega)]
theorem fb_sm_out (f : Nat → Nat) (v : Nat) {i n : Nat} (h : n ≤ i) : fb_sm (fun k => if k = i then v else f k) n = fb_sm f n :=
  fb_sm_cong fun k hk => if_neg (by omega)
theorem fb_sm_upd (f : Nat → Nat) (v : Nat) {i : Nat} : ∀ {n : Nat}, i < n → fb_sm (fun k => if k = i then v else f k) n + f i = fb_sm f n + v
  | 0, h => absurd h (Nat.not_lt_zero i)
  | n + 1, h => by
    rw [fb_sm_succ, fb_sm_succ]
    rcases Nat.lt_or_ge i n with q | q
    · have := fb_sm_upd f v q
      have e : (if n = i then v else f n) = f n := if_neg (by omega)
      rw [e]
      omega
    · have e : i = n := by omega
      subst e
      rw [fb_sm_out f v (Nat.le_refl _)]
      simp only [if_true]
      omega
theorem fb_sm_add (f g : Nat → Nat) : ∀ n, fb_sm (fun k => f k + g k) n = fb_sm f n + fb_sm g n
  | 0 => rfl
  | n + 1 => by
    have h := fb_sm_add f g n
    rw [fb_sm_succ, fb_sm_succ, fb_sm_succ, h]
    omega
theorem fb_sm_le {f g : Nat → Nat} : ∀ {n : Nat}, (∀ k, k < n → f k ≤ g k) → fb_sm f n ≤ fb_sm g n
  | 0, _ => Nat.le_refl _
  | n + 1, h => by
    have h1 := fb_sm_le (n := n) (f := f) (g := g) (fun k hk => h k (by omega))
    have h2 := h n (by omega)
    rw [fb_sm_succ, fb_sm_succ]
    omega
theorem fb_sm_const (c : Nat) : ∀ n, fb_sm (fun _ => c) n = n * c
  | 0 => by rw [Nat.zero_mul]; rfl
  | n + 1 => by rw [fb_sm_succ, fb_sm_const c n, Nat.succ_mul]
theorem fb_sm_bound {f : Nat → Nat} {c n : Nat} (h : ∀ k, k < n → f k ≤ c) : fb_sm f n ≤ n * c := by
  rw [← fb_sm_const c n]
  exact fb_sm_le h
theorem fb_sm_mono (f : Nat → Nat) (m : Nat) : ∀ n, fb_sm f m ≤ fb_sm f (m + n)
  | 0 => Nat.le_refl _
  | n + 1 => by
    have h := fb_sm_mono f m n
    show fb_sm f m ≤ fb_sm f (m + n + 1)
    rw [fb_sm_succ]
    omega
theorem fb_sm_part (f : Nat → Nat) {i n : Nat} (h : i < n) : fb_sm f i + f i ≤ fb_sm f n := by
  have := fb_sm_mono f (i + 1) (n - (i + 1))
  rw [fb_sm_succ, show i + 1 + (n - (i + 1)) = n by omega] at this
  exact this
theorem fb_sm_split (f : Nat → Nat) (m : Nat) : ∀ n, fb_sm f (m + n) = fb_sm f m + fb_sm (fun k => f (m + k)) n
  | 0 => rfl
  | n + 1 => by
    have h := fb_sm_split f m n
    show fb_sm f (m + n + 1) = _
    rw [fb_sm_succ, fb_sm_succ, h, Nat.add_assoc]
theorem fb_sm_zero {f : Nat → Nat} {n : Nat} (h : fb_sm f n = 0) : ∀ k, k < n → f k = 0 := fun k hk => by
  have := fb_sm_part f hk
  omega
/-! ===== the least, the first, the best so far; that there is one alone ===== -/
theorem fb_first {p : Nat → Prop} [DecidablePred p] : ∀ {n : Nat}, (∃ i, i < n ∧ p i) → ∃ i, i < n ∧ p i ∧ ∀ j, j < i → ¬ p j
  | 0, h => by obtain ⟨i, hi, -⟩ := h; exact absurd hi (Nat.not_lt_zero i)
  | n + 1, h => by
    by_cases q : ∃ i, i < n ∧ p i
    · obtain ⟨i, h1, h2⟩ := fb_first q
      exact ⟨i, by omega, h2⟩
    · obtain ⟨i, h1, h2⟩ := h
      have e : i = n := by
        rcases Nat.lt_or_ge i n with r | r
        · exact absurd ⟨i, r, h2⟩ q
        · omega
      subst e
      exact ⟨i, by omega, h2, fun j hj hp => q ⟨j, hj, hp⟩⟩
theorem fb_first_one {p : Nat → Prop} {i j : Nat} (hi : p i) (hi2 : ∀ k, k < i → ¬ p k) (hj : p j) (hj2 : ∀ k, k < j → ¬ p k) : i = j := by
  rcases Nat.lt_trichotomy i j with q | q | q
  · exact absurd hi (hj2 i q)
  · exact q
  · exact absurd hj (hi2 j q)
theorem fb_last {p : Nat → Prop} [DecidablePred p] : ∀ {n : Nat}, (∃ i, i < n ∧ p i) → ∃ i, i < n ∧ p i ∧ ∀ j, i < j → j < n → ¬ p j
  | 0, h => by obtain ⟨i, hi, -⟩ := h; exact absurd hi (Nat.not_lt_zero i)
  | n + 1, h => by
    by_cases q : p n
    · exact ⟨n, by omega, q, fun j h1 h2 => by omega⟩
    · obtain ⟨i, h1, h2⟩ := h
      have hi : i < n := by
        rcases Nat.lt_or_ge i n with r | r
        · exact r
        · have e : i = n := by omega
          subst e
          exact absurd h2 q
      obtain ⟨i2, a1, a2, a3⟩ := fb_last (n := n) ⟨i, hi, h2⟩
      refine ⟨i2, by omega, a2, fun j b1 b2 => ?_⟩
      rcases Nat.lt_or_ge j n with r | r
      · exact a3 j b1 r
      · have e : j = n := by omega
        subst e
        exact q
/-- the first greatest -/
theorem fb_best (f : Nat → Int) : ∀ {n : Nat}, 0 < n → ∃ i, i < n ∧ (∀ j, j < n → f j ≤ f i) ∧ ∀ j, j < i → f j < f i
  | 0, h => absurd h (Nat.lt_irrefl 0)
  | 1, _ => ⟨0, by omega, fun j hj => by have e : j = 0 := by omega
                                         subst e; exact Int.le_refl _, fun j hj => absurd hj (Nat.not_lt_zero j)⟩
  | n + 2, _ => by
    obtain ⟨i, h1, h2, h3⟩ := fb_best f (n := n + 1) (by omega)
    by_cases q : f i < f (n + 1)
    · refine ⟨n + 1, by omega, fun j hj => ?_, fun j hj => ?_⟩
      · rcases Nat.lt_or_ge j (n + 1) with r | r
        · have := h2 j r; omega
        · have e : j = n + 1 := by omega
          subst e; exact Int.le_refl _
      · have := h2 j hj; omega
    · refine ⟨i, by omega, fun j hj => ?_, h3⟩
      rcases Nat.lt_or_ge j (n + 1) with r | r
      · exact h2 j r
      · have e : j = n + 1 := by omega
        subst e; omega
theorem fb_best_one {f : Nat → Int} {n i j : Nat} (hi : i < n) (hi2 : ∀ k, k < n → f k ≤ f i) (hi3 : ∀ k, k < i → f k < f i) (hj : j < n) (hj2 : ∀ k, k < n → f k ≤ f j) (hj3 : ∀ k, k < j → f k < f j) : i = j := by
  rcases Nat.lt_trichotomy i j with q | q | q
  · have a := hj3 i q
    have b := hi2 j hj
    omega
  · exact q
  · have a := hi3 j q
    have b := hj2 i hi
    omega
/-- the first least -/
theorem fb_low (f : Nat → Int) {n : Nat} (h : 0 < n) : ∃ i, i < n ∧ (∀ j, j < n → f i ≤ f j) ∧ ∀ j, j < i → f i < f j := by
  obtain ⟨i, h1, h2, h3⟩ := fb_best (fun k => -f k) h
  exact ⟨i, h1, fun j hj => by have := h2 j hj; omega, fun j hj => by have := h3 j hj; omega⟩
end
section
/-! the pure part: small things -/
def b2i (b : Bool) : Int32 := if b then 1 else 0
theorem tfF : (true = false) = False := eq_false (by decide)
theorem ftF : (false = true) = False := eq_false (by decide)
theorem nam_e {α β : Type} (e : α) (k : α → β) : nam e k = k e := rfl
theorem bnd_e {α β : Type} (a : α) (k : α → Option β) : Option.bind (some a) k = k a := rfl
theorem b2i_1 (b : Bool) : b2i b = 1 ↔ b = true := by cases b <;> decide
theorem b2i_0 (b : Bool) : b2i b = 0 ↔ b = false := by cases b <;> decide
theorem b2i_t : b2i true = 1 := rfl
theorem b2i_f : b2i false = 0 := rfl
theorem b2i_nI (b : Bool) : b2i b = nI (if b then 1 else 0) := by cases b <;> rfl
theorem b_1 (i : Nat) : bt 1 i = decide (i = 0) := by
  rcases Nat.lt_or_ge i 32 with h | h
  · exact (by decide +kernel : ∀ i, i < 32 → bt 1 i = decide (i = 0)) i h
  · rw [b_big h, decide_eq_false (by omega)]
theorem b_b2i (b : Bool) (i : Nat) : bt (b2i b) i = (b && decide (i = 0)) := by
  cases b
  · rw [b2i_f, b_0]; rfl
  · rw [b2i_t, b_1]; rfl
theorem bit_e {x : Int32} {n : Nat} (hn : n < 32) : (x >>> (nI n &&& 31)) &&& 1 = b2i (bt x n) := by
  apply b_ext
  intro i hi
  rw [b_and, b_sshr n hn x hi, b_1, b_b2i]
  by_cases h0 : i = 0
  · subst h0
    simp [hn]
  · simp [h0]
theorem one_shl {n i : Nat} (hn : n < 32) (hi : i < 32) : bt ((1 : Int32) <<< (nI n &&& 31)) i = decide (i = n) := by
  rw [b_shl n hn _ hi, b_1]
  by_cases h : i = n
  · subst h; simp
  · by_cases h2 : n ≤ i
    · have : ¬ i - n = 0 := by omega
      simp [h, h2, this]
    · simp [h, h2]
theorem fbit_e (x : Int32) {n : Nat} (hn : n < 32) : f_X10_bit x (nI n) = some (b2i (bt x n)) := by
  unfold f_X10_bit
  rw [bit_e hn]
/- numbers in conditions: to be used by simp with (disch := omega) -/
theorem leT {a b : Nat} (h : a ≤ b) (hb : b < 2 ^ 31) : (nI a ≤ nI b) = True := eq_true (nI_le h hb)
theorem leF {a b : Nat} (h : b < a) (ha : a < 2 ^ 31) : (nI a ≤ nI b) = False := eq_false (nI_ge h ha)
theorem ltT {a b : Nat} (h : a < b) (hb : b < 2 ^ 31) : (nI a < nI b) = True := eq_true (nI_lt h hb)
theorem ltF {a b : Nat} (h : b ≤ a) (ha : a < 2 ^ 31) : (nI a < nI b) = False := eq_false (nI_nlt h ha)
theorem eqT {a b : Nat} (h : a = b) : (nI a = nI b) = True := eq_true (congrArg nI h)
theorem eqF {a b : Nat} (h : a ≠ b) (ha : a < 2 ^ 31) (hb : b < 2 ^ 31) : (nI a = nI b) = False := eq_false (fun q => h ((nI_eq ha hb).mp q))
theorem inB_e {i N : Nat} (hi : i < 2 ^ 31) : inB (nI i) N ↔ i < N := by
  unfold inB
  rw [nI_clamp hi]
  constructor
  · intro h; omega
  · intro h q
    rcases q with q | q
    · exact nI_pos hi q
    · omega
theorem inT {i N : Nat} (h : i < N) (hi : i < 2 ^ 31) : (inB (nI i) N) = True := eq_true ((inB_e hi).mpr h)
theorem inF {i N : Nat} (h : N ≤ i) (hi : i < 2 ^ 31) : (inB (nI i) N) = False := eq_false (fun q => Nat.not_lt.mpr h ((inB_e hi).mp q))
theorem cl_e {i : Nat} (hi : i < 2 ^ 31) : (nI i).toNatClampNeg = i := nI_clamp hi
theorem m1_lt0 : ((-1 : Int32) < 0) = True := eq_true (by decide)
theorem nI_nm1 {i : Nat} (hi : i < 2 ^ 31) : (nI i = (-1 : Int32)) = False := eq_false (fun h => by
  have h1 := congrArg Int32.toInt h
  rw [nI_toInt hi] at h1
  have h2 : (-1 : Int32).toInt = -1 := by decide
  rw [h2] at h1
  omega)
theorem m1_nnI {i : Nat} (hi : i < 2 ^ 31) : ((-1 : Int32) = nI i) = False := by
  have := nI_nm1 hi
  exact eq_false (fun h => by rw [← h] at this; simp at this)
theorem upd_e (f : Nat → Int32) (k : Nat) (x : Int32) (j : Nat) : upd f k x j = if j = k then x else f j := rfl
theorem upd_s (f : Nat → Int32) (k : Nat) (x : Int32) : upd f k x k = x := if_pos rfl
theorem upd_n (f : Nat → Int32) {k j : Nat} (x : Int32) (h : j ≠ k) : upd f k x j = f j := if_neg h
theorem k0 : (0 : Int32) = nI 0 := rfl
theorem k1 : (1 : Int32) = nI 1 := rfl
theorem k2 : (2 : Int32) = nI 2 := rfl
theorem k3 : (3 : Int32) = nI 3 := rfl
theorem k4 : (4 : Int32) = nI 4 := rfl
theorem k5 : (5 : Int32) = nI 5 := rfl
theorem k6 : (6 : Int32) = nI 6 := rfl
theorem k7 : (7 : Int32) = nI 7 := rfl
theorem k8 : (8 : Int32) = nI 8 := rfl
theorem k9 : (9 : Int32) = nI 9 := rfl
theorem k10 : (10 : Int32) = nI 10 := rfl
theorem k11 : (11 : Int32) = nI 11 := rfl
theorem k12 : (12 : Int32) = nI 12 := rfl
theorem k13 : (13 : Int32) = nI 13 := rfl
theorem k19 : (19 : Int32) = nI 19 := rfl
theorem k20 : (20 : Int32) = nI 20 := rfl
theorem k21 : (21 : Int32) = nI 21 := rfl
theorem k31 : (31 : Int32) = nI 31 := rfl
theorem k41 : (41 : Int32) = nI 41 := rfl
theorem k51 : (51 : Int32) = nI 51 := rfl
theorem k52 : (52 : Int32) = nI 52 := rfl
/- a row of cells -/
theorem get_e {n i : Nat} (c : A32) (h : i < n) (hn : n < 2 ^ 31) : f_X8_get n c (nI i) = some (c i) := by
  unfold f_X8_get
  rw [if_neg (nI_pos (by omega)), if_neg (nI_ge h hn), if_pos ((inB_e (by omega)).mpr h), nI_clamp (by omega)]
theorem get_o {n i : Nat} (c : A32) (h : n ≤ i) (hi : i < 2 ^ 31) : f_X8_get n c (nI i) = some 0 := by
  unfold f_X8_get
  rw [if_neg (nI_pos hi), if_pos (nI_le h hi)]
theorem get_m (n : Nat) (c : A32) : f_X8_get n c (-1) = some 0 := by
  unfold f_X8_get
  rw [if_pos (by decide)]
theorem set_e {n i : Nat} (c : A32) (v : Int32) (h : i < n) (hn : n < 2 ^ 31) : f_X8_set n c (nI i) v = some (upd c i v) := by
  unfold f_X8_set
  rw [if_neg (nI_pos (by omega)), if_neg (nI_ge h hn), if_pos ((inB_e (by omega)).mpr h), nI_clamp (by omega)]
/- a loop of for's shape -/
theorem lpP {S R : Type} (f : Nat → S → Nat → Option R) (N : Nat) (Inv : Nat → S → Prop) (P : Option R → Prop)
    (hs : ∀ fu i s, i < N → Inv i s → (∃ s', Inv (i + 1) s' ∧ f (fu + 1) s i = f fu s' (i + 1)) ∨ P (f (fu + 1) s i))
    (he : ∀ fu s, Inv N s → P (f (fu + 1) s N)) : ∀ k i s fu, i + k = N → k < fu → Inv i s → P (f fu s i) := by
  intro k
  induction k with
  | zero =>
    intro i s fu h1 h2 h3
    have : i = N := by omega
    subst this
    obtain ⟨fu, rfl⟩ : ∃ q, fu = q + 1 := ⟨fu - 1, by omega⟩
    exact he fu s h3
  | succ k ih =>
    intro i s fu h1 h2 h3
    obtain ⟨fu, rfl⟩ : ∃ q, fu = q + 1 := ⟨fu - 1, by omega⟩
    rcases hs fu i s (by omega) h3 with ⟨s', h4, h5⟩ | h4
    · rw [h5]
      exact ih (i + 1) s' fu (by omega) (by omega) h4
    · exact h4
/-- without an early end -/
theorem lp {S R : Type} (f : Nat → S → Nat → Option R) (N : Nat) (Inv : Nat → S → Prop) (ex : S → Option R)
    (hs : ∀ fu i s, i < N → Inv i s → ∃ s', Inv (i + 1) s' ∧ f (fu + 1) s i = f fu s' (i + 1))
    (he : ∀ fu s, Inv N s → f (fu + 1) s N = ex s) {k i fu : Nat} {s : S} (h1 : i + k = N) (h2 : k < fu) (h3 : Inv i s) : ∃ s', Inv N s' ∧ f fu s i = ex s' :=
  lpP f N Inv (fun r => ∃ s', Inv N s' ∧ r = ex s') (fun fu i s a b => Or.inl (hs fu i s a b)) (fun fu s a => ⟨s, a, he fu s a⟩) k i s fu h1 h2 h3
theorem FU_lt {n : Nat} (h : n < 100000) : n < FU := h
/- literals -/
theorem ad1 (g : Nat) : (1 : Int32) + nI g = nI (1 + g) := nI_add 1 g
theorem ad7 (g : Nat) : (7 : Int32) + nI g = nI (7 + g) := nI_add 7 g
theorem ad11 (g : Nat) : (11 : Int32) + nI g = nI (11 + g) := nI_add 11 g
theorem ad13 (g : Nat) : (13 : Int32) + nI g = nI (13 + g) := nI_add 13 g
theorem ad21 (g : Nat) : (21 : Int32) + nI g = nI (21 + g) := nI_add 21 g
theorem ad31 (g : Nat) : (31 : Int32) + nI g = nI (31 + g) := nI_add 31 g
theorem ad41 (g : Nat) : (41 : Int32) + nI g = nI (41 + g) := nI_add 41 g
theorem ad52 (g : Nat) : (52 : Int32) + nI g = nI (52 + g) := nI_add 52 g
theorem ad47 (g : Nat) : (47 : Int32) + nI g = nI (47 + g) := nI_add 47 g
theorem ad48 (g : Nat) : (48 : Int32) + nI g = nI (48 + g) := nI_add 48 g
theorem cl0 : Int32.toNatClampNeg 0 = 0 := rfl
theorem cl1 : Int32.toNatClampNeg 1 = 1 := rfl
theorem cl51 : Int32.toNatClampNeg 51 = 51 := rfl
theorem cl19 : Int32.toNatClampNeg 19 = 19 := rfl
theorem cl20 : Int32.toNatClampNeg 20 = 20 := rfl
theorem cl21 : Int32.toNatClampNeg 21 = 21 := rfl
theorem cl13 : Int32.toNatClampNeg 13 = 13 := rfl
theorem in0 {N : Nat} (h : 0 < N) : (inB 0 N) = True := inT (i := 0) h (by decide)
theorem in51 : (inB 51 59) = True := eq_true (by decide)
theorem in19 : (inB 19 22) = True := eq_true (by decide)
theorem in20 : (inB 20 22) = True := eq_true (by decide)
theorem in21 : (inB 21 22) = True := eq_true (by decide)
theorem in13 : (inB 13 22) = True := eq_true (by decide)
theorem le7T {i : Nat} (h : 7 ≤ i) (hi : i < 2 ^ 31) : ((7 : Int32) ≤ nI i) = True := leT h hi
theorem le7F {i : Nat} (h : i < 7) : ((7 : Int32) ≤ nI i) = False := leF h (by decide)
theorem le10T {i : Nat} (h : 10 ≤ i) (hi : i < 2 ^ 31) : ((10 : Int32) ≤ nI i) = True := leT h hi
theorem le10F {i : Nat} (h : i < 10) : ((10 : Int32) ≤ nI i) = False := leF h (by decide)
theorem le0T {i : Nat} (h : i = 0) : (nI i ≤ 0) = True := by subst h; exact eq_true (by decide)
theorem le0F {i : Nat} (h : 0 < i) (hi : i < 2 ^ 31) : (nI i ≤ 0) = False := eq_false (nI_nle h hi)
theorem lt0F {i : Nat} (hi : i < 2 ^ 31) : (nI i < 0) = False := eq_false (nI_pos hi)
theorem eq0T {i : Nat} (h : i = 0) : (nI i = 0) = True := by subst h; exact eq_true rfl
theorem eq0F {i : Nat} (h : 0 < i) (hi : i < 2 ^ 31) : (nI i = 0) = False := eq_false (nI_ne0 h hi)
theorem eq1T {i : Nat} (h : i = 1) : (nI i = 1) = True := by subst h; exact eq_true rfl
theorem eq1F {i : Nat} (h : i ≠ 1) (hi : i < 2 ^ 31) : (nI i = 1) = False := eqF (b := 1) h hi (by decide)
theorem fb_ct_lt {p q : Nat → Bool} {n k : Nat} (h : ∀ j, j < n → p j = true → q j = true) (hk : k < n) (h1 : q k = true) (h2 : p k = false) : fb_ct p n < fb_ct q n := by
  have e1 : fb_ct (fun j => if j = k then true else p j) n + (if p k = true then 1 else 0) = fb_ct p n + 1 := fb_ct_upd p true hk
  rw [h2, if_neg (by decide)] at e1
  have e2 : fb_ct (fun j => if j = k then true else p j) n ≤ fb_ct q n := fb_ct_sub (fun j hj hp => by
    by_cases e : j = k
    · rw [e]; exact h1
    · rw [if_neg e] at hp; exact h j hj hp)
  omega
noncomputable def dcd (p : Prop) : Bool := @decide p (Classical.propDecidable p)
theorem dcd_t {p : Prop} : dcd p = true ↔ p := by unfold dcd; exact @decide_eq_true_iff p (Classical.propDecidable p)
theorem dcd_f {p : Prop} : dcd p = false ↔ ¬ p := by unfold dcd; exact @decide_eq_false_iff_not p (Classical.propDecidable p)
theorem bool_ext {a b : Bool} (h : a = true ↔ b = true) : a = b := by cases a <;> cases b <;> simp_all
theorem iteE {α : Type} {a b : Nat} (ha : a < 2 ^ 31) (hb : b < 2 ^ 31) (x y : α) : (if nI a = nI b then x else y) = (if a = b then x else y) := by
  by_cases q : a = b
  · rw [if_pos q, if_pos (congrArg nI q)]
  · rw [if_neg q, if_neg (fun h => q ((nI_eq ha hb).mp h))]
theorem iteL {α : Type} {a b : Nat} (ha : a < 2 ^ 31) (hb : b < 2 ^ 31) (x y : α) : (if nI a ≤ nI b then x else y) = (if a ≤ b then x else y) := by
  by_cases q : a ≤ b
  · rw [if_pos q, if_pos ((nI_leI ha hb).mpr q)]
  · rw [if_neg q, if_neg (fun h => q ((nI_leI ha hb).mp h))]
theorem iteT {α : Type} {a b : Nat} (ha : a < 2 ^ 31) (hb : b < 2 ^ 31) (x y : α) : (if nI a < nI b then x else y) = (if a < b then x else y) := by
  by_cases q : a < b
  · rw [if_pos q, if_pos ((nI_ltI ha hb).mpr q)]
  · rw [if_neg q, if_neg (fun h => q ((nI_ltI ha hb).mp h))]
end
section
/-! heights: how far shafts are, without the machine -/
section BALL
variable (G : Nat) (a b : Nat → Nat) (o S : Nat → Bool)
def Adj (u v : Nat) : Prop := ∃ g, g < G ∧ o g = true ∧ ((a g = u ∧ b g = v) ∨ (b g = u ∧ a g = v))
def Ball : Nat → Nat → Nat → Prop
  | 0, k, v => v = k
  | t + 1, k, v => Ball t k v ∨ ∃ u, Ball t k u ∧ Adj G a b o u v
def Hit (t k : Nat) : Prop := ∃ q, q < 7 ∧ Ball G a b o t k q ∧ S q = true
/-- q is one of the nearest shafts of k -/
def Nst (k q : Nat) : Prop := ∃ t, Ball G a b o t k q ∧ S q = true ∧ ∀ t', t' < t → ¬ Hit G a b o S t' k
variable {G a b o S}
theorem Adj.symm {u v : Nat} (h : Adj G a b o u v) : Adj G a b o v u := by
  obtain ⟨g, h1, h2, h3⟩ := h
  exact ⟨g, h1, h2, h3.elim (fun q => Or.inr ⟨q.2, q.1⟩) (fun q => Or.inl ⟨q.2, q.1⟩)⟩
theorem Adj.lt {u v : Nat} (h : Adj G a b o u v) (ha : ∀ g, g < G → a g < 7 ∧ b g < 7) : u < 7 ∧ v < 7 := by
  obtain ⟨g, h1, h2, h3⟩ := h
  have := ha g h1
  rcases h3 with ⟨rfl, rfl⟩ | ⟨rfl, rfl⟩
  · exact this
  · exact ⟨this.2, this.1⟩
theorem Ball.up {t k v : Nat} (h : Ball G a b o t k v) : Ball G a b o (t + 1) k v := Or.inl h
theorem Ball.mono {t k v : Nat} (h : Ball G a b o t k v) (n : Nat) : Ball G a b o (t + n) k v := by
  induction n with
  | zero => exact h
  | succ n ih => exact Ball.up ih
theorem Ball.le {t t' k v : Nat} (h : Ball G a b o t k v) (hl : t ≤ t') : Ball G a b o t' k v := by
  have := h.mono (t' - t)
  rwa [Nat.add_sub_cancel' hl] at this
theorem ball_left {t k v : Nat} : Ball G a b o (t + 1) k v ↔ Ball G a b o t k v ∨ ∃ u, Adj G a b o k u ∧ Ball G a b o t u v := by
  induction t generalizing v with
  | zero =>
    constructor
    · rintro (h | ⟨u, h1, h2⟩)
      · exact Or.inl h
      · have : u = k := h1
        subst this
        exact Or.inr ⟨v, h2, rfl⟩
    · rintro (h | ⟨u, h1, h2⟩)
      · exact Or.inl h
      · have : v = u := h2
        subst this
        exact Or.inr ⟨k, rfl, h1⟩
  | succ t ih =>
    constructor
    · rintro (h | ⟨u, h1, h2⟩)
      · exact Or.inl h
      · rcases ih.mp h1 with h3 | ⟨w, h3, h4⟩
        · exact Or.inl (Or.inr ⟨u, h3, h2⟩)
        · exact Or.inr ⟨w, h3, Or.inr ⟨u, h4, h2⟩⟩
    · rintro (h | ⟨u, h1, h2⟩)
      · exact Or.inl h
      · rcases h2 with h3 | ⟨w, h3, h4⟩
        · exact Or.inl (ih.mpr (Or.inr ⟨u, h1, h3⟩))
        · exact Or.inr ⟨w, ih.mpr (Or.inr ⟨u, h1, h3⟩), h4⟩
theorem Hit.le {t t' k : Nat} (h : Hit G a b o S t k) (hl : t ≤ t') : Hit G a b o S t' k := by
  obtain ⟨q, h1, h2, h3⟩ := h
  exact ⟨q, h1, h2.le hl, h3⟩
theorem hit_left {t k : Nat} : Hit G a b o S (t + 1) k ↔ Hit G a b o S t k ∨ ∃ u, Adj G a b o k u ∧ Hit G a b o S t u := by
  constructor
  · rintro ⟨q, h1, h2, h3⟩
    rcases ball_left.mp h2 with h4 | ⟨u, h4, h5⟩
    · exact Or.inl ⟨q, h1, h4, h3⟩
    · exact Or.inr ⟨u, h4, q, h1, h5, h3⟩
  · rintro (⟨q, h1, h2, h3⟩ | ⟨u, h4, q, h1, h5, h3⟩)
    · exact ⟨q, h1, h2.up, h3⟩
    · exact ⟨q, h1, ball_left.mpr (Or.inr ⟨u, h4, h5⟩), h3⟩
theorem hit_0 {k : Nat} (hk : k < 7) : Hit G a b o S 0 k ↔ S k = true := by
  constructor
  · rintro ⟨q, h1, h2, h3⟩
    have : q = k := h2
    subst this
    exact h3
  · intro h
    exact ⟨k, hk, rfl, h⟩
/-- q is nearest, at r or less -/
def NstR (G : Nat) (a b : Nat → Nat) (o S : Nat → Bool) (r k q : Nat) : Prop := ∃ t, t ≤ r ∧ Ball G a b o t k q ∧ S q = true ∧ ∀ t', t' < t → ¬ Hit G a b o S t' k
theorem nstR_0 {k q : Nat} : NstR G a b o S 0 k q ↔ q = k ∧ S q = true := by
  constructor
  · rintro ⟨t, h1, h2, h3, h4⟩
    have : t = 0 := by omega
    subst this
    exact ⟨h2, h3⟩
  · rintro ⟨h1, h2⟩
    exact ⟨0, Nat.le_refl _, h1, h2, fun t' h => by omega⟩
theorem nstR_hit {r k q : Nat} (hq : q < 7) (h : NstR G a b o S r k q) : Hit G a b o S r k := by
  obtain ⟨t, h1, h2, h3, h4⟩ := h
  exact ⟨q, hq, h2.le h1, h3⟩
theorem nstR_old {r k q : Nat} (h : Hit G a b o S r k) : NstR G a b o S (r + 1) k q ↔ NstR G a b o S r k q := by
  constructor
  · rintro ⟨t, h1, h2, h3, h4⟩
    by_cases ht : t ≤ r
    · exact ⟨t, ht, h2, h3, h4⟩
    · exact absurd h (h4 r (by omega))
  · rintro ⟨t, h1, h2, h3, h4⟩
    exact ⟨t, by omega, h2, h3, h4⟩
theorem nstR_new {r k q : Nat} (hq : q < 7) (h : ¬ Hit G a b o S r k) : NstR G a b o S (r + 1) k q ↔ ∃ u, Adj G a b o k u ∧ Hit G a b o S r u ∧ NstR G a b o S r u q := by
  constructor
  · rintro ⟨t, h1, h2, h3, h4⟩
    have h5 : Ball G a b o (r + 1) k q := h2.le h1
    rcases ball_left.mp h5 with h6 | ⟨u, h6, h7⟩
    · exact absurd ⟨q, hq, h6, h3⟩ h
    · refine ⟨u, h6, ⟨q, hq, h7, h3⟩, r, Nat.le_refl _, h7, h3, fun t' ht' hh => h ?_⟩
      exact Hit.le (hit_left.mpr (Or.inr ⟨u, h6, hh⟩)) (by omega)
  · rintro ⟨u, h1, h2, t, h3, h4, h5, h6⟩
    exact ⟨r + 1, Nat.le_refl _, ball_left.mpr (Or.inr ⟨u, h1, h4.le h3⟩), h5, fun t' ht' hh => h (Hit.le hh (by omega))⟩
theorem hit_stable {r : Nat} (ha : ∀ g, g < G → a g < 7 ∧ b g < 7) (h : ∀ k, k < 7 → Hit G a b o S (r + 1) k → Hit G a b o S r k) : ∀ t k, k < 7 → Hit G a b o S t k → Hit G a b o S r k := by
  intro t
  induction t with
  | zero => intro k hk hh; exact Hit.le hh (Nat.zero_le _)
  | succ t ih =>
    intro k hk hh
    rcases hit_left.mp hh with h1 | ⟨u, h1, h2⟩
    · exact ih k hk h1
    · exact h k hk (hit_left.mpr (Or.inr ⟨u, h1, ih u (h1.lt ha).2 h2⟩))
theorem nst_R {r k q : Nat} (hq : q < 7) (h : ∀ t, Hit G a b o S t k → Hit G a b o S r k) : Nst G a b o S k q ↔ NstR G a b o S r k q := by
  constructor
  · rintro ⟨t, h2, h3, h4⟩
    by_cases ht : t ≤ r
    · exact ⟨t, ht, h2, h3, h4⟩
    · exact absurd (h t ⟨q, hq, h2, h3⟩) (h4 r (by omega))
  · rintro ⟨t, _, h2, h3, h4⟩
    exact ⟨t, h2, h3, h4⟩
/-- the first ball with a shaft holds just the nearest ones -/
theorem nst_ball {t k q : Nat} (hq : q < 7) (h1 : Hit G a b o S t k) (h2 : ∀ t', t' < t → ¬ Hit G a b o S t' k) : Nst G a b o S k q ↔ Ball G a b o t k q ∧ S q = true := by
  constructor
  · rintro ⟨t1, h3, h4, h5⟩
    have e1 : ¬ t < t1 := fun h => h5 t h h1
    exact ⟨h3.le (by omega), h4⟩
  · rintro ⟨h3, h4⟩
    exact ⟨t, h3, h4, h2⟩
theorem nst_none {k q : Nat} (hq : q < 7) (h : ∀ t, ¬ Hit G a b o S t k) : ¬ Nst G a b o S k q := by
  rintro ⟨t, h1, h2, _⟩
  exact h t ⟨q, hq, h1, h2⟩
end BALL
end
section
/-! heights: as the law reckons them -/
def WF (G : Nat) (one two len dr : Nat → Nat) : Prop := (1 ≤ G ∧ G ≤ 10) ∧ (∀ g, g < G → one g < 7 ∧ two g < 7 ∧ one g ≠ two g ∧ 1 ≤ len g ∧ len g ≤ 9) ∧ (∀ k, k < 7 → dr k ≤ 10) ∧ 2 ≤ fb_ct (fun k => decide (0 < dr k)) 7
def DA (d : A32) (G : Nat) (one two len : Nat → Nat) (dor opn : Nat → Bool) (moon : Bool) (dr : Nat → Nat) : Prop :=
  d 0 = nI G ∧ d 51 = b2i moon ∧ (∀ g, g < G → d (1 + g) = nI (one g) ∧ d (11 + g) = nI (two g) ∧ d (21 + g) = nI (len g) ∧ d (31 + g) = b2i (dor g) ∧ d (41 + g) = b2i (opn g)) ∧ ∀ k, k < 7 → d (52 + k) = nI (dr k)
def sh (moon : Bool) (dr : Nat → Nat) (q : Nat) : Nat := 12 * (if moon then 10 - dr q else dr q - 1)
def sft (dr : Nat → Nat) (k : Nat) : Bool := decide (0 < dr k)
noncomputable def nst (G : Nat) (one two : Nat → Nat) (opn : Nat → Bool) (dr : Nat → Nat) (k q : Nat) : Bool := dcd (Nst G one two opn (sft dr) k q)
noncomputable def hgt (G : Nat) (one two : Nat → Nat) (opn : Nat → Bool) (moon : Bool) (dr : Nat → Nat) (k : Nat) : Option Nat :=
  if fb_ct (nst G one two opn dr k) 7 = 0 then none else some (fb_sm (fun q => if nst G one two opn dr k q then sh moon dr q else 0) 7 / fb_ct (nst G one two opn dr k) 7)
def hI : Option Nat → Int32
  | none => -1
  | some n => nI n
theorem hit_6 {G : Nat} {a b : Nat → Nat} {o S : Nat → Bool} (ha : ∀ g, g < G → a g < 7 ∧ b g < 7) (hS : ∃ q, q < 7 ∧ S q = true) : ∀ t k, k < 7 → Hit G a b o S t k → Hit G a b o S 6 k := by
  intro t k hk hh
  by_cases h : ∃ r, r < 6 ∧ ∀ k, k < 7 → Hit G a b o S (r + 1) k → Hit G a b o S r k
  · obtain ⟨r, h1, h2⟩ := h
    exact (hit_stable ha h2 t k hk hh).le (by omega)
  · have h1 : ∀ r, r < 6 → ∃ k, k < 7 ∧ Hit G a b o S (r + 1) k ∧ ¬ Hit G a b o S r k := by
      intro r hr
      refine Classical.byContradiction fun hx => h ⟨r, hr, fun k hk h2 => Classical.byContradiction fun h3 => hx ⟨k, hk, h2, h3⟩⟩
    have h2 : ∀ r, r ≤ 6 → r + 1 ≤ fb_ct (fun k => dcd (Hit G a b o S r k)) 7 := by
      intro r
      induction r with
      | zero =>
        intro _
        obtain ⟨q, hq, hs⟩ := hS
        exact fb_ct_pos.mpr ⟨q, hq, dcd_t.mpr ((hit_0 hq).mpr hs)⟩
      | succ r ih =>
        intro hr
        have e1 := ih (by omega)
        obtain ⟨k, hk, h3, h4⟩ := h1 r (by omega)
        have e2 := fb_ct_lt (p := fun k => dcd (Hit G a b o S r k)) (q := fun k => dcd (Hit G a b o S (r + 1) k)) (n := 7) (k := k) (fun j hj hp => dcd_t.mpr ((dcd_t.mp hp).le (by omega))) hk (dcd_t.mpr h3) (dcd_f.mpr h4)
        omega
    have h3 := h2 6 (by omega)
    have h4 := fb_ct_le (fun k => dcd (Hit G a b o S 6 k)) 7
    exact dcd_t.mp (fb_ct_all.mp (Nat.le_antisymm h4 h3) k hk)
theorem sh_le {moon : Bool} {dr : Nat → Nat} {q : Nat} (h : dr q ≤ 10) : sh moon dr q ≤ 120 := by
  unfold sh
  cases moon <;> simp <;> omega
theorem L_shaft_e {d : A32} {G : Nat} {one two len dr : Nat → Nat} {dor opn : Nat → Bool} {moon : Bool} (hD : DA d G one two len dor opn moon dr) {q : Nat} (hq : q < 7) (h1 : 0 < dr q) (h2 : dr q ≤ 10) : f_L_shaft 59 d (nI q) = some (nI (sh moon dr q)) := by
  have e1 := hD.2.1
  have e2 := hD.2.2.2 q hq
  unfold f_L_shaft f_L_shaft_b30 sh
  cases moon
  · simp (disch := omega) only [in51, cl51, e1, b2i_1, ad52, inT, cl_e, e2, if_true, if_false]
    rw [k1, k12, pk_sub h1, pk_mul]
    rfl
  · simp (disch := omega) only [in51, cl51, e1, b2i_1, ad52, inT, cl_e, e2, if_true, if_false]
    rw [k10, k12, pk_sub h2, pk_mul]
section LH
variable {d : A32} {G : Nat} {one two len dr : Nat → Nat} {dor opn : Nat → Bool} {moon : Bool}
/-- one more ring of knots -/
theorem L_h33 (hD : DA d G one two len dor opn moon dr) (hw : WF G one two len dr) (kk : Int32 → Int32 → Option Int32) (v2 v3 : Int32) :
    ∃ v4, (∀ v, v < 32 → (bt v4 v = true ↔ bt v2 v = true ∨ ∃ g, g < G ∧ opn g = true ∧ ((bt v2 (one g) = true ∧ two g = v) ∨ (bt v2 (two g) = true ∧ one g = v)))) ∧ f_L_height_b33 kk 59 d v2 v3 FU v2 (nI 0) = f_L_height_b125 kk 59 d v3 v4 FU 0 0 0 := by
  have hG := hw.1
  refine lp (fun fu (s : Int32) i => f_L_height_b33 kk 59 d v2 v3 fu s (nI i)) G (fun i s => ∀ v, v < 32 → (bt s v = true ↔ bt v2 v = true ∨ ∃ g, g < i ∧ opn g = true ∧ ((bt v2 (one g) = true ∧ two g = v) ∨ (bt v2 (two g) = true ∧ one g = v)))) (fun s => f_L_height_b125 kk 59 d v3 s FU 0 0 0) ?_ ?_ (i := 0) (k := G) (by omega) (FU_lt (by omega)) ?_
  · intro fu i s hi hs
    obtain ⟨e1, e2, e3, e4, e5⟩ := hD.2.2.1 i hi
    obtain ⟨w1, w2, w3, -, -⟩ := hw.2.1 i hi
    have e0 := hD.1
    have one32 : ∀ v, v < 32 → bt (s ||| 1 <<< (nI (two i) &&& 31)) v = (bt s v || decide (v = two i)) := fun v hv => by rw [b_or, one_shl (by omega) hv]
    cases ho : opn i
    · refine ⟨s, fun v hv => ?_, ?_⟩
      · rw [hs v hv]
        refine or_congr Iff.rfl ⟨fun ⟨g, a1, a2, a3⟩ => ⟨g, by omega, a2, a3⟩, fun ⟨g, a1, a2, a3⟩ => ⟨g, ?_, a2, a3⟩⟩
        rcases Nat.lt_or_ge g i with q | q
        · exact q
        · have : g = i := by omega
          subst this
          rw [ho] at a2; cases a2
      · simp (disch := omega) only [f_L_height_b33, f_L_height_b110, in0, cl0, e0, leF, ad41, inT, cl_e, e5, ho, b2i_0, if_true, if_false, nam_e, nI_1]
    · -- open: both ends
      have h32 : ∀ (s1 : Int32) (x : Nat), x < 7 → ∀ v, v < 32 → (bt (s1 ||| 1 <<< (nI x &&& 31)) v = true ↔ bt s1 v = true ∨ x = v) := fun s1 x hx v hv => by
        rw [b_or, one_shl (by omega) hv]
        simp only [Bool.or_eq_true, decide_eq_true_eq]
        exact or_congr Iff.rfl eq_comm
      have st : ∀ s', (∀ v, v < 32 → (bt s' v = true ↔ bt s v = true ∨ ((bt v2 (one i) = true ∧ two i = v) ∨ (bt v2 (two i) = true ∧ one i = v)))) → ∀ v, v < 32 → (bt s' v = true ↔ bt v2 v = true ∨ ∃ g, g < i + 1 ∧ opn g = true ∧ ((bt v2 (one g) = true ∧ two g = v) ∨ (bt v2 (two g) = true ∧ one g = v))) := by
        intro s' hs' v hv
        rw [hs' v hv, hs v hv]
        constructor
        · rintro ((a1 | ⟨g, a1, a2, a3⟩) | a1)
          · exact Or.inl a1
          · exact Or.inr ⟨g, by omega, a2, a3⟩
          · exact Or.inr ⟨i, by omega, ho, a1⟩
        · rintro (a1 | ⟨g, a1, a2, a3⟩)
          · exact Or.inl (Or.inl a1)
          · rcases Nat.lt_or_ge g i with q | q
            · exact Or.inl (Or.inr ⟨g, q, a2, a3⟩)
            · have : g = i := by omega
              subst this
              exact Or.inr a3
      by_cases q1 : bt v2 (one i) = true <;> by_cases q2 : bt v2 (two i) = true
      · refine ⟨(s ||| (1 <<< (nI (two i) &&& 31))) ||| (1 <<< (nI (one i) &&& 31)), st _ (fun v hv => ?_), by simp (disch := omega) only [f_L_height_b33, f_L_height_b82, f_L_height_b110, in0, cl0, e0, leF, ad41, ad1, ad11, inT, cl_e, e1, e2, e5, ho, b2i_0, b2i_1, if_true, if_false, nam_e, nI_1, bit_e, q1, q2, ftF, tfF]⟩
        rw [h32 _ _ w1 v hv, h32 _ _ w2 v hv]
        simp [q1, q2, or_assoc]
      · refine ⟨s ||| (1 <<< (nI (two i) &&& 31)), st _ (fun v hv => ?_), by simp (disch := omega) only [f_L_height_b33, f_L_height_b82, f_L_height_b110, in0, cl0, e0, leF, ad41, ad1, ad11, inT, cl_e, e1, e2, e5, ho, b2i_0, b2i_1, if_true, if_false, nam_e, nI_1, bit_e, q1, q2, ftF, tfF]⟩
        rw [h32 _ _ w2 v hv]
        simp [q1, q2]
      · refine ⟨s ||| (1 <<< (nI (one i) &&& 31)), st _ (fun v hv => ?_), by simp (disch := omega) only [f_L_height_b33, f_L_height_b82, f_L_height_b110, in0, cl0, e0, leF, ad41, ad1, ad11, inT, cl_e, e1, e2, e5, ho, b2i_0, b2i_1, if_true, if_false, nam_e, nI_1, bit_e, q1, q2, ftF, tfF]⟩
        rw [h32 _ _ w1 v hv]
        simp [q1, q2]
      · refine ⟨s, st _ (fun v hv => ?_), by simp (disch := omega) only [f_L_height_b33, f_L_height_b82, f_L_height_b110, in0, cl0, e0, leF, ad41, ad1, ad11, inT, cl_e, e1, e2, e5, ho, b2i_0, b2i_1, if_true, if_false, nam_e, nI_1, bit_e, q1, q2, ftF, tfF]⟩
        simp [q1, q2]
  · intro fu s hs
    have e0 := hD.1
    simp (disch := omega) only [f_L_height_b33, in0, cl0, e0, leT, if_true]
  · intro v hv
    simp
end LH
end
section
/-! heights: as the class reckons them -/
def dI (n : Nat) : Int32 := if n = 0 then -1 else nI (n - 1)
/-- the plan as the class holds it -/
def MA (cg cdoors cshafts : Int32) (cone ctwo clen cdr : A32) (G : Nat) (one two len : Nat → Nat) (dor : Nat → Bool) (dr : Nat → Nat) : Prop :=
  cg = nI G ∧ (∀ g, g < G → cone g = nI (one g) ∧ ctwo g = nI (two g) ∧ clen g = nI (len g) ∧ bt cdoors g = dor g) ∧ (∀ k, k < 7 → cdr k = dI (dr k)) ∧ (∀ v, v < 32 → bt cshafts v = (decide (v < 7) && sft dr v))
theorem bt_lt {x : Int32} {n : Nat} (hn : n ≤ 31) (h : ∀ i, n ≤ i → i < 32 → bt x i = false) : ∃ m, m < 2 ^ n ∧ x = nI m := by
  refine ⟨x.toBitVec.toNat, Nat.lt_pow_two_of_testBit _ (fun i hi => ?_), Int32.toBitVec_inj.mp (by show _ = BitVec.ofNat 32 _; simp)⟩
  rcases Nat.lt_or_ge i 32 with q | q
  · exact h i hi q
  · exact b_big q
set_option maxRecDepth 100000 in
theorem bc_all : ∀ m, m < 1024 → f_J6_bitCount_0f7a4 (nI m) = some (nI (fb_ct (bt (nI m)) 10)) := by decide +kernel
theorem bc_e {x : Int32} (h : ∀ i, 10 ≤ i → i < 32 → bt x i = false) : f_J6_bitCount_0f7a4 x = some (nI (fb_ct (bt x) 10)) := by
  obtain ⟨m, hm, rfl⟩ := bt_lt (by decide) h
  exact bc_all m hm
theorem ct_cut {p : Nat → Bool} {m n : Nat} (hmn : m ≤ n) (h : ∀ i, m ≤ i → i < n → p i = false) : fb_ct p n = fb_ct p m := by
  have e := fb_ct_split p m (n - m)
  rw [Nat.add_sub_cancel' hmn] at e
  rw [e, fb_ct_zero.mpr (fun k hk => h (m + k) (by omega) (by omega))]
  rfl
theorem bc_n {x : Int32} {n : Nat} (hn : n ≤ 10) (h : ∀ i, n ≤ i → i < 32 → bt x i = false) : f_J6_bitCount_0f7a4 x = some (nI (fb_ct (bt x) n)) := by
  rw [bc_e (fun i h1 h2 => h i (by omega) h2), ct_cut hn (fun i h1 h2 => h i h1 (by omega))]
theorem dI_p {n : Nat} (h : 0 < n) : dI n = nI (n - 1) := if_neg (by omega)
theorem shH_e {cdr : A32} {dr : Nat → Nat} {moon : Bool} {q : Nat} (hq : q < 7) (hc : cdr q = dI (dr q)) (h1 : 0 < dr q) (h2 : dr q ≤ 10) : f_X5_shaftHeight cdr (nI q) (b2i moon) = some (nI (sh moon dr q)) := by
  unfold f_X5_shaftHeight f_X5_shaftHeight_b23 sh
  rw [get_e cdr hq (by decide), bnd_e, hc, dI_p h1]
  cases moon
  · rw [b2i_f, if_pos rfl, k12, pk_mul]; rfl
  · rw [b2i_t, if_neg (by decide), k9, pk_sub (by omega), k12, pk_mul]
    simp only [if_true]
    congr 3
    omega
section CH
variable {cg cdoors cshafts : Int32} {cone ctwo clen cdr : A32} {G : Nat} {one two len dr : Nat → Nat} {dor opn : Nat → Bool} {moon : Bool}
theorem hO_e (hM : MA cg cdoors cshafts cone ctwo clen cdr G one two len dor dr) (hw : WF G one two len dr) {x : Int32} {k : Nat} (hx : ∀ v, v < 32 → bt x v = (decide (v < 7) && nst G one two opn dr k v)) : f_X0_heightOf cdr x (b2i moon) = some (hI (hgt G one two opn moon dr k)) := by
  have hb : ∀ i, 7 ≤ i → i < 32 → bt x i = false := fun i h1 h2 => by rw [hx i h2, decide_eq_false (by omega)]; rfl
  have e7 : ∀ i, i < 7 → bt x i = nst G one two opn dr k i := fun i h1 => by rw [hx i (by omega), decide_eq_true h1]; rfl
  have ec : fb_ct (bt x) 7 = fb_ct (nst G one two opn dr k) 7 := fb_ct_cong e7
  have hl := fb_ct_le (bt x) 7
  unfold f_X0_heightOf hgt
  rw [bc_n (by decide) hb, bnd_e, ← ec]
  by_cases h0 : fb_ct (bt x) 7 = 0
  · rw [if_pos h0, h0]; rfl
  · rw [if_neg h0]
    simp (disch := omega) only [eq0F, if_false]
    obtain ⟨s', hs', e⟩ := lp (fun fu (s : Int32) i => f_X0_heightOf_b17 cdr x (b2i moon) (nI (fb_ct (bt x) 7)) fu s (nI i)) 7
      (fun i s => s = nI (fb_sm (fun q => if nst G one two opn dr k q then sh moon dr q else 0) i) ∧ fb_sm (fun q => if nst G one two opn dr k q then sh moon dr q else 0) i ≤ i * 120)
      (fun s => some (s / nI (fb_ct (bt x) 7))) (by
        rintro fu i s hi ⟨rfl, hs⟩
        have hd := hw.2.2.1 i hi
        have hc := hM.2.2.1 i hi
        by_cases hn : nst G one two opn dr k i = true
        · have hp : 0 < dr i := by
            obtain ⟨t, _, h3, _⟩ := dcd_t.mp hn
            exact of_decide_eq_true h3
          refine ⟨nI (fb_sm (fun q => if nst G one two opn dr k q then sh moon dr q else 0) i + sh moon dr i), ⟨?_, ?_⟩, ?_⟩
          · rw [fb_sm_succ]; simp only [hn, if_true]
          · rw [fb_sm_succ]; simp only [hn, if_true]
            have := sh_le (moon := moon) hd
            omega
          · simp (disch := omega) only [f_X0_heightOf_b17, f_X0_heightOf_b46, le7F, if_false, fbit_e, e7, hn, bnd_e, b2i_t, if_true, shH_e hi hc hp hd, nam_e, nI_add, nI_1]
        · refine ⟨nI (fb_sm (fun q => if nst G one two opn dr k q then sh moon dr q else 0) i), ⟨?_, ?_⟩, ?_⟩
          · rw [fb_sm_succ]; simp only [hn, if_false, Nat.add_zero, ftF, tfF]
          · rw [fb_sm_succ]; simp only [hn, if_false, Nat.add_zero, ftF, tfF]
            omega
          · have hf : nst G one two opn dr k i = false := by cases hh : nst G one two opn dr k i <;> simp_all
            have h01 : ((0 : Int32) = 1) = False := eq_false (by decide)
            simp (disch := omega) only [f_X0_heightOf_b17, f_X0_heightOf_b46, le7F, if_false, fbit_e, e7, hf, bnd_e, b2i_f, h01, nam_e, nI_1]) (by
        rintro fu s ⟨rfl, hs⟩
        simp (disch := omega) only [f_X0_heightOf_b17, le7T, if_true, eq0F, if_false]) (i := 0) (k := 7) (fu := FU) (s := 0) rfl (FU_lt (by decide)) ⟨rfl, Nat.le_refl _⟩
    rw [show f_X0_heightOf_b17 cdr x (b2i moon) (nI (fb_ct (bt x) 7)) FU 0 0 = f_X0_heightOf_b17 cdr x (b2i moon) (nI (fb_ct (bt x) 7)) FU 0 (nI 0) from rfl, e, hs'.1, pk_div (by omega) (by omega) (by omega)]
    rfl
/-- one gallery, one way -/
theorem spr_e {cn : A32} {reached : Int32} {f t : Nat} (hf : f < 7) (ht : t < 7) : f_X0_spread cn (nI f) (nI t) reached = some (if bt reached f = true ∧ bt reached t = false then (1 <<< (nI t &&& 31), upd cn t (cn t ||| cn f)) else (0, cn)) := by
  unfold f_X0_spread
  rw [fbit_e _ (by omega), bnd_e, fbit_e _ (by omega), get_e cn ht (by decide), get_e cn hf (by decide), bnd_e, bnd_e, bnd_e, set_e cn _ ht (by decide), bnd_e]
  cases h1 : bt reached f <;> cases h2 : bt reached t <;> simp [b2i]
/-- one round -/
theorem near_r (hM : MA cg cdoors cshafts cone ctwo clen cdr G one two len dor dr) (hw : WF G one two len dr) {vo : Int32} (hvo : ∀ g, g < G → bt vo g = opn g) (kk : A32 → Int32 → Int32 → Option A32) (reached : Int32) (r4 : Int32) (n0 : A32) :
    ∃ s : A32 × Int32, (∀ k v, k < 7 → v < 32 → (bt (s.1 k) v = true ↔ bt (n0 k) v = true ∨ (bt reached k = false ∧ ∃ u, Adj G one two opn u k ∧ bt reached u = true ∧ bt (n0 u) v = true))) ∧ (∀ v, v < 32 → (bt s.2 v = true ↔ ∃ u, Adj G one two opn u v ∧ bt reached u = true ∧ bt reached v = false)) ∧
      f_X0_findNearest_b51 kk cg cone ctwo vo reached r4 FU n0 0 0 = (if s.2 = 0 then some s.1 else kk s.1 (reached ||| s.2) (r4 + 1)) := by
  obtain ⟨s, ⟨h1, h2⟩, e⟩ := lp (fun fu (s : A32 × Int32) i => f_X0_findNearest_b51 kk cg cone ctwo vo reached r4 fu s.1 s.2 (nI i)) G
    (fun i s => (∀ k v, k < 7 → v < 32 → (bt (s.1 k) v = true ↔ bt (n0 k) v = true ∨ (bt reached k = false ∧ ∃ u, (∃ g, g < i ∧ opn g = true ∧ ((one g = u ∧ two g = k) ∨ (two g = u ∧ one g = k))) ∧ bt reached u = true ∧ bt (n0 u) v = true))) ∧ (∀ v, v < 32 → (bt s.2 v = true ↔ ∃ u, (∃ g, g < i ∧ opn g = true ∧ ((one g = u ∧ two g = v) ∨ (two g = u ∧ one g = v))) ∧ bt reached u = true ∧ bt reached v = false)))
    (fun s => if s.2 = 0 then some s.1 else kk s.1 (reached ||| s.2) (r4 + 1)) (by
      rintro fu i ⟨cn, fr⟩ hi ⟨hs1, hs2⟩
      try dsimp only at hs1 hs2
      obtain ⟨m1, m2, m3, m4⟩ := hM.2.1 i hi
      obtain ⟨w1, w2, w3, -, -⟩ := hw.2.1 i hi
      have hG := hw.1
      have e0 := hM.1
      have e3 := hvo i hi
      by_cases ho : opn i = true
      · -- open
        have key : ∀ s' : A32 × Int32, (∀ k v, k < 7 → v < 32 → (bt (s'.1 k) v = true ↔ bt (cn k) v = true ∨ (bt reached k = false ∧ ∃ u, ((one i = u ∧ two i = k) ∨ (two i = u ∧ one i = k)) ∧ bt reached u = true ∧ bt (n0 u) v = true))) → (∀ v, v < 32 → (bt s'.2 v = true ↔ bt fr v = true ∨ ∃ u, ((one i = u ∧ two i = v) ∨ (two i = u ∧ one i = v)) ∧ bt reached u = true ∧ bt reached v = false)) →
            (∀ k v, k < 7 → v < 32 → (bt (s'.1 k) v = true ↔ bt (n0 k) v = true ∨ (bt reached k = false ∧ ∃ u, (∃ g, g < i + 1 ∧ opn g = true ∧ ((one g = u ∧ two g = k) ∨ (two g = u ∧ one g = k))) ∧ bt reached u = true ∧ bt (n0 u) v = true))) ∧ (∀ v, v < 32 → (bt s'.2 v = true ↔ ∃ u, (∃ g, g < i + 1 ∧ opn g = true ∧ ((one g = u ∧ two g = v) ∨ (two g = u ∧ one g = v))) ∧ bt reached u = true ∧ bt reached v = false)) := by
          intro s' k1 k2
          constructor
          · intro k v hk hv
            rw [k1 k v hk hv, hs1 k v hk hv]
            constructor
            · rintro ((a | ⟨a1, u, ⟨g, b1, b2, b3⟩, b4⟩) | ⟨a1, u, b3, b4⟩)
              · exact Or.inl a
              · exact Or.inr ⟨a1, u, ⟨g, by omega, b2, b3⟩, b4⟩
              · exact Or.inr ⟨a1, u, ⟨i, by omega, ho, b3⟩, b4⟩
            · rintro (a | ⟨a1, u, ⟨g, b1, b2, b3⟩, b4⟩)
              · exact Or.inl (Or.inl a)
              · rcases Nat.lt_or_ge g i with q | q
                · exact Or.inl (Or.inr ⟨a1, u, ⟨g, q, b2, b3⟩, b4⟩)
                · have : g = i := by omega
                  subst this
                  exact Or.inr ⟨a1, u, b3, b4⟩
          · intro v hv
            rw [k2 v hv, hs2 v hv]
            constructor
            · rintro (⟨u, ⟨g, b1, b2, b3⟩, b4⟩ | ⟨u, b3, b4⟩)
              · exact ⟨u, ⟨g, by omega, b2, b3⟩, b4⟩
              · exact ⟨u, ⟨i, by omega, ho, b3⟩, b4⟩
            · rintro ⟨u, ⟨g, b1, b2, b3⟩, b4⟩
              rcases Nat.lt_or_ge g i with q | q
              · exact Or.inl ⟨u, ⟨g, q, b2, b3⟩, b4⟩
              · have : g = i := by omega
                subst this
                exact Or.inr ⟨u, b3, b4⟩
        have hold : ∀ k v, k < 7 → v < 32 → bt reached k = true → bt (cn k) v = bt (n0 k) v := by
          intro k v hk hv hr
          refine bool_ext ?_
          rw [hs1 k v hk hv, hr]
          simp
        cases r1 : bt reached (one i) <;> cases r2 : bt reached (two i)
        · refine ⟨(cn, fr), key _ ?_ ?_, ?_⟩
          · intro k v hk hv
            constructor
            · exact Or.inl
            · rintro (h | ⟨h1, u, (⟨rfl, rfl⟩ | ⟨rfl, rfl⟩), h2, h3⟩)
              · exact h
              · rw [r1] at h2; cases h2
              · rw [r2] at h2; cases h2
          · intro v hv
            constructor
            · exact Or.inl
            · rintro (h | ⟨u, (⟨rfl, rfl⟩ | ⟨rfl, rfl⟩), h2, h3⟩)
              · exact h
              · rw [r1] at h2; cases h2
              · rw [r2] at h2; cases h2
          · simp (disch := omega) only [f_X0_findNearest_b51, f_X0_findNearest_b126, e0, leF, if_false, fbit_e, e3, ho, bnd_e, b2i_t, if_true, get_e, m1, m2, spr_e, r1, r2, ftF, tfF, false_and, nam_e, Int32.or_zero, nI_1]
        · refine ⟨(upd cn (one i) (cn (one i) ||| cn (two i)), fr ||| 1 <<< (nI (one i) &&& 31)), key _ ?_ ?_, ?_⟩
          · intro k v hk hv
            try dsimp only
            rw [upd_e]
            by_cases hk1 : k = one i
            · subst hk1
              rw [if_pos rfl, b_or, Bool.or_eq_true, hold _ v w2 hv r2]
              constructor
              · rintro (h | h)
                · exact Or.inl h
                · exact Or.inr ⟨r1, two i, Or.inr ⟨rfl, rfl⟩, r2, h⟩
              · rintro (h | ⟨h1, u, (⟨rfl, h4⟩ | ⟨rfl, h4⟩), h2, h3⟩)
                · exact Or.inl h
                · exact absurd h4.symm w3
                · exact Or.inr h3
            · rw [if_neg hk1]
              constructor
              · exact Or.inl
              · rintro (h | ⟨h1, u, (⟨rfl, h4⟩ | ⟨rfl, h4⟩), h2, h3⟩)
                · exact h
                · rw [r1] at h2; cases h2
                · exact absurd h4.symm hk1
          · intro v hv
            try dsimp only
            rw [b_or, one_shl (by omega) hv, Bool.or_eq_true, decide_eq_true_eq]
            constructor
            · rintro (h | h)
              · exact Or.inl h
              · subst h; exact Or.inr ⟨two i, Or.inr ⟨rfl, rfl⟩, r2, r1⟩
            · rintro (h | ⟨u, (⟨rfl, h4⟩ | ⟨rfl, h4⟩), h2, h3⟩)
              · exact Or.inl h
              · rw [r1] at h2; cases h2
              · exact Or.inr h4.symm
          · simp (disch := omega) only [f_X0_findNearest_b51, f_X0_findNearest_b126, e0, leF, if_false, fbit_e, e3, ho, bnd_e, b2i_t, if_true, get_e, m1, m2, spr_e, r1, r2, ftF, tfF, false_and, and_self, nam_e, Int32.or_zero, nI_1]
        · refine ⟨(upd cn (two i) (cn (two i) ||| cn (one i)), fr ||| 1 <<< (nI (two i) &&& 31)), key _ ?_ ?_, ?_⟩
          · intro k v hk hv
            try dsimp only
            rw [upd_e]
            by_cases hk1 : k = two i
            · subst hk1
              rw [if_pos rfl, b_or, Bool.or_eq_true, hold _ v w1 hv r1]
              constructor
              · rintro (h | h)
                · exact Or.inl h
                · exact Or.inr ⟨r2, one i, Or.inl ⟨rfl, rfl⟩, r1, h⟩
              · rintro (h | ⟨h1, u, (⟨rfl, h4⟩ | ⟨rfl, h4⟩), h2, h3⟩)
                · exact Or.inl h
                · exact Or.inr h3
                · exact absurd h4 w3
            · rw [if_neg hk1]
              constructor
              · exact Or.inl
              · rintro (h | ⟨h1, u, (⟨rfl, h4⟩ | ⟨rfl, h4⟩), h2, h3⟩)
                · exact h
                · exact absurd h4.symm hk1
                · rw [r2] at h2; cases h2
          · intro v hv
            try dsimp only
            rw [b_or, one_shl (by omega) hv, Bool.or_eq_true, decide_eq_true_eq]
            constructor
            · rintro (h | h)
              · exact Or.inl h
              · subst h; exact Or.inr ⟨one i, Or.inl ⟨rfl, rfl⟩, r1, r2⟩
            · rintro (h | ⟨u, (⟨rfl, h4⟩ | ⟨rfl, h4⟩), h2, h3⟩)
              · exact Or.inl h
              · exact Or.inr h4.symm
              · rw [r2] at h2; cases h2
          · have ht : (true = false) = False := eq_false (by decide)
            simp (disch := omega) only [f_X0_findNearest_b51, f_X0_findNearest_b126, e0, leF, if_false, fbit_e, e3, ho, bnd_e, b2i_t, if_true, get_e, m1, m2, spr_e, r1, r2, ftF, tfF, false_and, and_self, nam_e, Int32.or_zero, nI_1, ht, and_false]
        · refine ⟨(cn, fr), key _ ?_ ?_, ?_⟩
          · intro k v hk hv
            constructor
            · exact Or.inl
            · rintro (h | ⟨h1, u, (⟨rfl, rfl⟩ | ⟨rfl, rfl⟩), h2, h3⟩)
              · exact h
              · rw [r2] at h1; cases h1
              · rw [r1] at h1; cases h1
          · intro v hv
            constructor
            · exact Or.inl
            · rintro (h | ⟨u, (⟨rfl, rfl⟩ | ⟨rfl, rfl⟩), h2, h3⟩)
              · exact h
              · rw [r2] at h3; cases h3
              · rw [r1] at h3; cases h3
          · have ht : (true = false) = False := eq_false (by decide)
            simp (disch := omega) only [f_X0_findNearest_b51, f_X0_findNearest_b126, e0, leF, if_false, fbit_e, e3, ho, bnd_e, b2i_t, if_true, get_e, m1, m2, spr_e, r1, r2, ht, and_false, nam_e, Int32.or_zero, nI_1]
      · -- shut
        have hf : opn i = false := by cases hh : opn i <;> simp_all
        have h01 : ((0 : Int32) = 1) = False := eq_false (by decide)
        refine ⟨(cn, fr), ⟨?_, ?_⟩, ?_⟩
        · intro k v hk hv
          try dsimp only
          rw [hs1 k v hk hv]
          refine or_congr Iff.rfl (and_congr Iff.rfl (exists_congr fun u => and_congr ?_ Iff.rfl))
          exact ⟨fun ⟨g, a1, a2, a3⟩ => ⟨g, by omega, a2, a3⟩, fun ⟨g, a1, a2, a3⟩ => ⟨g, by
            rcases Nat.lt_or_ge g i with q | q
            · exact q
            · have : g = i := by omega
              subst this
              exact absurd a2 ho, a2, a3⟩⟩
        · intro v hv
          try dsimp only
          rw [hs2 v hv]
          refine exists_congr fun u => and_congr ?_ Iff.rfl
          exact ⟨fun ⟨g, a1, a2, a3⟩ => ⟨g, by omega, a2, a3⟩, fun ⟨g, a1, a2, a3⟩ => ⟨g, by
            rcases Nat.lt_or_ge g i with q | q
            · exact q
            · have : g = i := by omega
              subst this
              exact absurd a2 ho, a2, a3⟩⟩
        · simp (disch := omega) only [f_X0_findNearest_b51, f_X0_findNearest_b126, e0, leF, if_false, fbit_e, e3, hf, bnd_e, b2i_f, h01, nam_e, nI_1]) (by
      rintro fu ⟨cn, fr⟩ -
      have e0 := hM.1
      have hG := hw.1
      simp (disch := omega) only [f_X0_findNearest_b51, e0, leT, if_true, nam_e]) (i := 0) (k := G) (fu := FU) (s := (n0, 0)) (by omega) (FU_lt (by have := hw.1; omega)) (by
      constructor
      · intro k v hk hv
        simp
      · intro v hv
        simp [b_0])
  refine ⟨s, ?_, ?_, e⟩
  · intro k v hk hv
    exact h1 k v hk hv
  · intro v hv
    exact h2 v hv
end CH
end
section
/-! air, as the class blows it -/
def lowr : Option Nat → Option Nat → Nat → Nat → Option Nat
  | some x, some y, a, b => if x = y then none else if x < y then some a else some b
  | _, _, _, _ => none
noncomputable def flw (G : Nat) (one two : Nat → Nat) (opn : Nat → Bool) (moon : Bool) (dr : Nat → Nat) (g : Nat) : Option Nat :=
  if opn g = true then lowr (hgt G one two opn moon dr (one g)) (hgt G one two opn moon dr (two g)) (one g) (two g) else none
def brt (G : Nat) (one two : Nat → Nat) (fl : Nat → Option Nat) (k : Nat) : Prop := ∃ g, g < G ∧ fl g ≠ none ∧ (one g = k ∨ two g = k)
/-- the air as the class holds it -/
def AO (cbr : Int32) (ch ci : A32) (G : Nat) (one two : Nat → Nat) (opn : Nat → Bool) (moon : Bool) (dr : Nat → Nat) : Prop :=
  (∀ k, k < 7 → ch k = hI (hgt G one two opn moon dr k)) ∧ (∀ g, g < G → ci g = hI (flw G one two opn moon dr g)) ∧ ∀ v, v < 32 → (bt cbr v = true ↔ brt G one two (flw G one two opn moon dr) v)
theorem hgt_lt {G : Nat} {one two dr : Nat → Nat} {opn : Nat → Bool} {moon : Bool} {k x : Nat} (hd : ∀ k, k < 7 → dr k ≤ 10) (h : hgt G one two opn moon dr k = some x) : x ≤ 840 := by
  unfold hgt at h
  split at h
  · cases h
  · cases h
    refine Nat.le_trans (Nat.div_le_self _ _) ?_
    refine fb_sm_bound (c := 120) (fun q hq => ?_)
    split
    · exact sh_le (hd q hq)
    · omega
theorem hgt_lt' {G : Nat} {one two dr : Nat → Nat} {opn : Nat → Bool} {moon : Bool} {k x : Nat} (hd : ∀ k, k < 7 → dr k ≤ 10) (h : hgt G one two opn moon dr k = some x) : x < 2 ^ 30 := by
  have := hgt_lt hd h
  omega
theorem hI_nn {h : Option Nat} (hb : ∀ x, h = some x → x < 2 ^ 30) : hI h = -1 ↔ h = none := by
  cases h with
  | none => simp [hI]
  | some x =>
    have := hb x rfl
    simp only [hI, nI_nm1 (i := x) (by omega)]
    simp
theorem hI_inj {h h' : Option Nat} (hb : ∀ x, h = some x → x < 2 ^ 30) (hb' : ∀ x, h' = some x → x < 2 ^ 30) : hI h = hI h' ↔ h = h' := by
  cases h with
  | none => rw [show hI none = (-1 : Int32) from rfl, eq_comm, hI_nn hb', eq_comm]
  | some x =>
    cases h' with
    | none => rw [show hI none = (-1 : Int32) from rfl, hI_nn hb]
    | some y =>
      have h1 := hb x rfl
      have h2 := hb' y rfl
      simp only [hI]
      rw [nI_eq (by omega) (by omega)]
      simp
section AIR
variable {cg cdoors cshafts : Int32} {cone ctwo clen cdr : A32} {G : Nat} {one two len dr : Nat → Nat} {dor opn : Nat → Bool} {moon : Bool}
theorem wf_ends (hw : WF G one two len dr) : ∀ g, g < G → one g < 7 ∧ two g < 7 := fun g hg => ⟨(hw.2.1 g hg).1, (hw.2.1 g hg).2.1⟩
theorem wf_shaft (hw : WF G one two len dr) : ∃ q, q < 7 ∧ sft dr q = true := fb_ct_pos.mp (Nat.lt_of_lt_of_le (by decide) hw.2.2.2)
theorem near_e (hM : MA cg cdoors cshafts cone ctwo clen cdr G one two len dor dr) (hw : WF G one two len dr) {vo : Int32} (hvo : ∀ g, g < G → bt vo g = opn g) (cn0 : A32) :
    ∃ cn, f_X0_findNearest cn0 cg cshafts cone ctwo vo = some cn ∧ ∀ k v, k < 7 → v < 32 → bt (cn k) v = (decide (v < 7) && nst G one two opn dr k v) := by
  obtain ⟨c1, h1, e1⟩ := lp (fun fu (s : A32) i => f_X0_findNearest_b2 cg cshafts cone ctwo vo fu s (nI i)) 7
    (fun i s => ∀ k v, k < i → v < 32 → bt (s k) v = (bt cshafts v && decide (v = k)))
    (fun s => f_X0_findNearest_b38 cg cone ctwo vo FU s cshafts 1) (by
      intro fu i s hi hs
      refine ⟨upd s i (cshafts &&& (1 <<< (nI i &&& 31))), ?_, ?_⟩
      · intro k v hk hv
        rw [upd_e]
        by_cases q : k = i
        · subst q; rw [if_pos rfl, b_and, one_shl (by omega) hv]
        · rw [if_neg q]; exact hs k v (by omega) hv
      · simp (disch := omega) only [f_X0_findNearest_b2, le7F, if_false, set_e, bnd_e, nam_e, nI_1]) (by
      intro fu s _
      simp (disch := omega) only [f_X0_findNearest_b2, le7T, if_true]) (i := 0) (k := 7) (fu := FU) (s := cn0) rfl (FU_lt (by decide)) (fun k v h _ => absurd h (Nat.not_lt_zero k))
  unfold f_X0_findNearest
  rw [show f_X0_findNearest_b2 cg cshafts cone ctwo vo FU cn0 0 = f_X0_findNearest_b2 cg cshafts cone ctwo vo FU cn0 (nI 0) from rfl, e1]
  have hends := wf_ends hw
  have hsh := hM.2.2.2
  refine lpP (fun fu (s : A32 × Int32) i => f_X0_findNearest_b38 cg cone ctwo vo fu s.1 s.2 (nI i)) 7
    (fun i s => 1 ≤ i ∧ (∀ k, k < 7 → (bt s.2 k = true ↔ Hit G one two opn (sft dr) (i - 1) k)) ∧ (∀ v, 7 ≤ v → v < 32 → bt s.2 v = false) ∧ ∀ k v, k < 7 → v < 32 → (bt (s.1 k) v = true ↔ v < 7 ∧ NstR G one two opn (sft dr) (i - 1) k v))
    (fun r => ∃ cn, r = some cn ∧ ∀ k v, k < 7 → v < 32 → bt (cn k) v = (decide (v < 7) && nst G one two opn dr k v)) ?_ ?_ 6 1 (c1, cshafts) FU rfl (FU_lt (by decide)) ?_
  · rintro fu i ⟨n0, reached⟩ hi ⟨hi1, hr1, hr2, hn⟩
    try dsimp only at hr1 hr2 hn
    obtain ⟨r, rfl⟩ : ∃ r, i = r + 1 := ⟨i - 1, by omega⟩
    rw [Nat.add_sub_cancel] at hr1 hn
    obtain ⟨s, g1, g2, e⟩ := near_r hM hw hvo (f_X0_findNearest_b38 cg cone ctwo vo fu) reached (nI (r + 1)) n0
    have eq : f_X0_findNearest_b38 cg cone ctwo vo (fu + 1) n0 reached (nI (r + 1)) = (if s.2 = 0 then some s.1 else f_X0_findNearest_b38 cg cone ctwo vo fu s.1 (reached ||| s.2) (nI (r + 2))) := by
      simp (disch := omega) only [f_X0_findNearest_b38, le7F, if_false]
      rw [e, nI_1]
    have hrf : ∀ k, k < 7 → (bt reached k = false ↔ ¬ Hit G one two opn (sft dr) r k) := fun k hk => by
      rw [← hr1 k hk]; cases bt reached k <;> simp
    have hfresh : ∀ k, k < 7 → (bt s.2 k = true ↔ ¬ Hit G one two opn (sft dr) r k ∧ Hit G one two opn (sft dr) (r + 1) k) := by
      intro k hk
      rw [g2 k (by omega)]
      constructor
      · rintro ⟨u, a1, a2, a3⟩
        have hu := (a1.lt hends).1
        exact ⟨(hrf k hk).mp a3, hit_left.mpr (Or.inr ⟨u, a1.symm, (hr1 u hu).mp a2⟩)⟩
      · rintro ⟨a1, a2⟩
        rcases hit_left.mp a2 with a3 | ⟨u, a3, a4⟩
        · exact absurd a3 a1
        · exact ⟨u, a3.symm, (hr1 u (a3.lt hends).2).mpr a4, (hrf k hk).mpr a1⟩
    try dsimp only
    rw [eq]
    by_cases h0 : s.2 = 0
    · refine Or.inr ?_
      rw [if_pos h0]
      refine ⟨s.1, rfl, fun k v hk hv => bool_ext ?_⟩
      have hst : ∀ k, k < 7 → Hit G one two opn (sft dr) (r + 1) k → Hit G one two opn (sft dr) r k := fun k hk hh => Classical.byContradiction fun hx => by
        have := (hfresh k hk).mpr ⟨hx, hh⟩
        rw [h0, b_0] at this
        cases this
      rw [g1 k v hk hv, Bool.and_eq_true, decide_eq_true_eq]
      have hno : ¬ (bt reached k = false ∧ ∃ u, Adj G one two opn u k ∧ bt reached u = true ∧ bt (n0 u) v = true) := by
        rintro ⟨a1, u, a2, a3, -⟩
        have := (g2 k (by omega)).mpr ⟨u, a2, a3, a1⟩
        rw [h0, b_0] at this
        cases this
      rw [or_iff_left hno, hn k v hk hv]
      refine and_congr_right fun hv7 => ?_
      unfold nst
      rw [dcd_t, nst_R hv7 (fun t hh => hit_stable hends hst t k hk hh)]
    · refine Or.inl ?_
      rw [if_neg h0]
      refine ⟨(s.1, reached ||| s.2), ⟨by omega, ?_, ?_, ?_⟩, rfl⟩
      · intro k hk
        try dsimp only
        rw [b_or, Bool.or_eq_true, hr1 k hk, hfresh k hk, show r + 1 + 1 - 1 = r + 1 from rfl]
        constructor
        · rintro (a | a)
          · exact a.le (by omega)
          · exact a.2
        · intro a
          by_cases q : Hit G one two opn (sft dr) r k
          · exact Or.inl q
          · exact Or.inr ⟨q, a⟩
      · intro v h7 hv
        try dsimp only
        rw [b_or, hr2 v h7 hv, Bool.false_or]
        cases hb : bt s.2 v
        · rfl
        · obtain ⟨u, a1, -⟩ := (g2 v hv).mp hb
          have := (a1.lt hends).2
          omega
      · intro k v hk hv
        try dsimp only
        rw [g1 k v hk hv, show r + 1 + 1 - 1 = r + 1 from rfl]
        by_cases hv7 : v < 7
        · by_cases q : Hit G one two opn (sft dr) r k
          · have qt := (hr1 k hk).mpr q
            rw [nstR_old q, hn k v hk hv, qt]
            simp
          · have hno : ¬ NstR G one two opn (sft dr) r k v := fun hx => q (nstR_hit hv7 hx)
            rw [hn k v hk hv, nstR_new hv7 q]
            have qf := (hrf k hk).mpr q
            constructor
            · rintro (⟨-, a⟩ | ⟨-, u, a1, a2, a3⟩)
              · exact absurd a hno
              · have hu := (a1.lt hends).1
                exact ⟨hv7, u, a1.symm, (hr1 u hu).mp a2, ((hn u v hu hv).mp a3).2⟩
            · rintro ⟨-, u, a1, a2, a3⟩
              have hu := (a1.lt hends).2
              exact Or.inr ⟨qf, u, a1.symm, (hr1 u hu).mpr a2, (hn u v hu hv).mpr ⟨hv7, a3⟩⟩
        · constructor
          · rintro (a | ⟨-, u, a1, -, a3⟩)
            · exact absurd ((hn k v hk hv).mp a).1 hv7
            · exact absurd ((hn u v (a1.lt hends).1 hv).mp a3).1 hv7
          · rintro ⟨a, -⟩
            exact absurd a hv7
  · rintro fu ⟨n0, reached⟩ ⟨hi1, hr1, hr2, hn⟩
    try dsimp only at hr1 hr2 hn
    refine ⟨n0, ?_, fun k v hk hv => bool_ext ?_⟩
    · simp (disch := omega) only [f_X0_findNearest_b38, le7T, if_true]
    · rw [hn k v hk hv, Bool.and_eq_true, decide_eq_true_eq]
      refine and_congr_right fun hv7 => ?_
      unfold nst
      rw [dcd_t, nst_R hv7 (fun t hh => hit_6 hends (wf_shaft hw) t k hk hh)]
  · refine ⟨Nat.le_refl _, ?_, ?_, ?_⟩
    · intro k hk
      try dsimp only
      rw [hsh k (by omega), hit_0 hk]
      simp [hk]
    · intro v h7 hv
      try dsimp only
      rw [hsh v hv, decide_eq_false (by omega)]
      rfl
    · intro k v hk hv
      try dsimp only
      rw [h1 k v hk hv, hsh v hv, nstR_0]
      simp only [Bool.and_eq_true, decide_eq_true_eq]
      constructor
      · rintro ⟨⟨a1, a2⟩, a3⟩
        exact ⟨a1, a3, a2⟩
      · rintro ⟨a1, a3, a2⟩
        exact ⟨⟨a1, a2⟩, a3⟩
theorem lower_e {ch : A32} {a b : Nat} {h1 h2 : Option Nat} (ha : a < 7) (hb : b < 7) (e1 : ch a = hI h1) (e2 : ch b = hI h2) (b1 : ∀ x, h1 = some x → x < 2 ^ 30) (b2 : ∀ x, h2 = some x → x < 2 ^ 30) : f_X0_lower ch (nI a) (nI b) = some (hI (lowr h1 h2 a b)) := by
  unfold f_X0_lower
  rw [get_e ch ha (by decide), get_e ch hb (by decide), bnd_e, bnd_e, e1, e2]
  cases h1 with
  | none =>
    by_cases q : hI none = hI h2
    · rw [if_pos q]; rfl
    · rw [if_neg q, if_pos (show hI none = -1 from rfl)]; rfl
  | some x =>
    have c1 := b1 x rfl
    cases h2 with
    | none =>
      rw [if_neg (by rw [hI_inj b1 b2]; simp), if_neg (by rw [hI_nn b1]; simp), if_pos (show hI none = -1 from rfl)]
      rfl
    | some y =>
      have c2 := b2 y rfl
      rw [if_neg (c := hI (some x) = -1) (by rw [hI_nn b1]; simp), if_neg (c := hI (some y) = -1) (by rw [hI_nn b2]; simp)]
      have e1 : hI (some x) = hI (some y) ↔ x = y := by rw [hI_inj b1 b2]; simp
      have e2 : hI (some y) ≤ hI (some x) ↔ y ≤ x := nI_leI (by omega) (by omega)
      rw [show lowr (some x) (some y) a b = (if x = y then none else if x < y then some a else some b) from rfl]
      by_cases q : x = y
      · rw [if_pos (e1.mpr q), if_pos q]; rfl
      · rw [if_neg (fun h => q (e1.mp h)), if_neg q]
        by_cases q2 : x < y
        · rw [if_neg (fun h => by have := e2.mp h; omega), if_pos q2]; rfl
        · rw [if_pos (e2.mpr (by omega)), if_neg q2]; rfl
theorem lowr_lt {h1 h2 : Option Nat} {a b x : Nat} (ha : a < 7) (hb : b < 7) (h : lowr h1 h2 a b = some x) : x < 7 := by
  cases h1 with
  | none => cases h
  | some y =>
    cases h2 with
    | none => cases h
    | some z =>
      simp only [lowr] at h
      split at h
      · cases h
      · split at h <;> cases h <;> assumption
theorem flw_lt (hw : WF G one two len dr) {g x : Nat} (hg : g < G) (h : flw G one two opn moon dr g = some x) : x < 7 := by
  unfold flw at h
  split at h
  · exact lowr_lt (wf_ends hw g hg).1 (wf_ends hw g hg).2 h
  · cases h
theorem flows_e (hM : MA cg cdoors cshafts cone ctwo clen cdr G one two len dor dr) (hw : WF G one two len dr) {vo : Int32} (hvo : ∀ g, g < G → bt vo g = opn g) {ch : A32} (hch : ∀ k, k < 7 → ch k = hI (hgt G one two opn moon dr k)) (cbr0 : Int32) (ci0 : A32) :
    ∃ cbr ci, f_X0_findFlows cbr0 ch ci0 cg cone ctwo vo = some (cbr, ci) ∧ AO cbr ch ci G one two opn moon dr := by
  have hG := hw.1
  have e0 := hM.1
  obtain ⟨⟨cbr, ci⟩, ⟨h1, h2⟩, e⟩ := lp (fun fu (s : Int32 × A32) i => f_X0_findFlows_b7 ch cg cone ctwo vo fu s.1 s.2 (nI i)) G
    (fun i s => (∀ g, g < i → s.2 g = hI (flw G one two opn moon dr g)) ∧ ∀ v, v < 32 → (bt s.1 v = true ↔ ∃ g, g < i ∧ flw G one two opn moon dr g ≠ none ∧ (one g = v ∨ two g = v)))
    (fun s => some s) (by
      rintro fu i ⟨br, ci⟩ hi ⟨hs1, hs2⟩
      try dsimp only at hs1 hs2
      obtain ⟨m1, m2, m3, m4⟩ := hM.2.1 i hi
      obtain ⟨w1, w2, w3, -, -⟩ := hw.2.1 i hi
      have e3 := hvo i hi
      have hl := lower_e w1 w2 (hch _ w1) (hch _ w2) (fun x h => hgt_lt' hw.2.2.1 h) (fun x h => hgt_lt' hw.2.2.1 h)
      have hx : ∀ x, flw G one two opn moon dr i = some x → x ≤ 840 := fun x h => by have := flw_lt hw hi h; omega
      have hrow : ∀ g, g < i + 1 → upd ci i (hI (flw G one two opn moon dr i)) g = hI (flw G one two opn moon dr g) := by
        intro g hg
        rw [upd_e]
        by_cases q : g = i
        · subst q; rw [if_pos rfl]
        · rw [if_neg q]; exact hs1 g (by omega)
      have e56 : f_X0_findFlows_b7 ch cg cone ctwo vo (fu + 1) br ci (nI i) = f_X0_findFlows_b56 (f_X0_findFlows_b7 ch cg cone ctwo vo fu) br ch ci cg cone ctwo (hI (flw G one two opn moon dr i)) vo (nI i) (nI (one i)) (nI (two i)) := by
        cases ho : opn i
        · have h01 : ((0 : Int32) = 1) = False := eq_false (by decide)
          simp (disch := omega) only [f_X0_findFlows_b7, e0, leF, if_false, get_e, bnd_e, m1, m2, fbit_e, e3, ho, b2i_f, h01]
          rw [show flw G one two opn moon dr i = none from if_neg (by rw [ho]; decide)]
          rfl
        · simp (disch := omega) only [f_X0_findFlows_b7, e0, leF, if_false, get_e, bnd_e, m1, m2, fbit_e, e3, ho, b2i_t, if_true, hl]
          rw [show flw G one two opn moon dr i = lowr (hgt G one two opn moon dr (one i)) (hgt G one two opn moon dr (two i)) (one i) (two i) from if_pos ho]
      try dsimp only
      rw [e56]
      cases hf : flw G one two opn moon dr i with
      | none =>
        refine ⟨(br, upd ci i (hI none)), ⟨fun g hg => by rw [← hf]; exact hrow g hg, fun v hv => ?_⟩, ?_⟩
        · rw [hs2 v hv]
          exact ⟨fun ⟨g, a1, a2, a3⟩ => ⟨g, by omega, a2, a3⟩, fun ⟨g, a1, a2, a3⟩ => ⟨g, by
            rcases Nat.lt_or_ge g i with q | q
            · exact q
            · have : g = i := by omega
              subst this
              exact absurd hf a2, a2, a3⟩⟩
        · simp (disch := omega) only [f_X0_findFlows_b56, f_X0_findFlows_b92, set_e, bnd_e, hI, if_true, nam_e, nI_1]
      | some x =>
        have hx7 := flw_lt hw hi hf
        refine ⟨(br ||| ((1 <<< (nI (one i) &&& 31)) ||| (1 <<< (nI (two i) &&& 31))), upd ci i (hI (some x))), ⟨fun g hg => by rw [← hf]; exact hrow g hg, fun v hv => ?_⟩, ?_⟩
        · rw [b_or, b_or, one_shl (by omega) hv, one_shl (by omega) hv, Bool.or_eq_true, Bool.or_eq_true, decide_eq_true_eq, decide_eq_true_eq, hs2 v hv]
          constructor
          · rintro (⟨g, a1, a2, a3⟩ | a)
            · exact ⟨g, by omega, a2, a3⟩
            · exact ⟨i, by omega, by rw [hf]; simp, a.elim (fun q => Or.inl q.symm) (fun q => Or.inr q.symm)⟩
          · rintro ⟨g, a1, a2, a3⟩
            rcases Nat.lt_or_ge g i with q | q
            · exact Or.inl ⟨g, q, a2, a3⟩
            · have : g = i := by omega
              subst this
              exact Or.inr (a3.elim (fun q => Or.inl q.symm) (fun q => Or.inr q.symm))
        · simp (disch := omega) only [f_X0_findFlows_b56, f_X0_findFlows_b92, set_e, bnd_e, hI, nI_nm1, if_false, nam_e, nI_1]) (by
      rintro fu ⟨br, ci⟩ -
      simp (disch := omega) only [f_X0_findFlows_b7, e0, leT, if_true]) (i := 0) (k := G) (fu := FU) (s := (0, ci0)) (by omega) (FU_lt (by omega)) (by
      constructor
      · intro g hg
        exact absurd hg (Nat.not_lt_zero g)
      · intro v hv
        simp [b_0])
  refine ⟨cbr, ci, ?_, hch, h1, h2⟩
  unfold f_X0_findFlows
  exact e
theorem blow_e (hM : MA cg cdoors cshafts cone ctwo clen cdr G one two len dor dr) (hw : WF G one two len dr) {vo : Int32} (hvo : ∀ g, g < G → bt vo g = opn g) (cbr0 : Int32) (ch0 ci0 cn0 : A32) :
    ∃ cbr ch ci cn, f_X0_blow cbr0 ch0 ci0 cn0 cg cshafts cone ctwo cdr vo (b2i moon) = some (cbr, ch, ci, cn) ∧ AO cbr ch ci G one two opn moon dr := by
  obtain ⟨cn, en, hn⟩ := near_e hM hw hvo cn0
  obtain ⟨ch, hch, e⟩ := lp (fun fu (s : A32) i => f_X0_blow_b9 cbr0 ci0 cn cg cone ctwo cdr vo (b2i moon) fu s (nI i)) 7
    (fun i s => ∀ k, k < i → s k = hI (hgt G one two opn moon dr k))
    (fun s => Option.bind (f_X0_findFlows cbr0 s ci0 cg cone ctwo vo) fun z => some (z.1, s, z.2, cn)) (by
      intro fu i s hi hs
      refine ⟨upd s i (hI (hgt G one two opn moon dr i)), ?_, ?_⟩
      · intro k hk
        rw [upd_e]
        by_cases q : k = i
        · subst q; rw [if_pos rfl]
        · rw [if_neg q]; exact hs k (by omega)
      · have hh := hO_e (moon := moon) hM hw (fun v hv => hn i v hi hv)
        simp (disch := omega) only [f_X0_blow_b9, le7F, if_false, get_e, bnd_e, hh, set_e, nam_e, nI_1]) (by
      intro fu s _
      simp (disch := omega) only [f_X0_blow_b9, le7T, if_true]) (i := 0) (k := 7) (fu := FU) (s := ch0) rfl (FU_lt (by decide)) (fun k h => absurd h (Nat.not_lt_zero k))
  obtain ⟨cbr, ci, ef, ha⟩ := flows_e hM hw hvo hch cbr0 ci0
  refine ⟨cbr, ch, ci, cn, ?_, ha⟩
  unfold f_X0_blow
  rw [en, bnd_e]
  rw [show f_X0_blow_b9 cbr0 ci0 cn cg cone ctwo cdr vo (b2i moon) FU ch0 0 = f_X0_blow_b9 cbr0 ci0 cn cg cone ctwo cdr vo (b2i moon) FU ch0 (nI 0) from rfl, e, ef, bnd_e]
end AIR
end
section
/-! heights and flows, as the law reckons them -/
theorem ct_one : ∀ k, k < 7 → fb_ct (fun q => decide (q = k)) 7 = 1 := by decide
theorem sm_one {k n : Nat} (f : Nat → Nat) (hk : k < n) : fb_sm (fun q => if q = k then f k else 0) n = f k := by
  have h := fb_sm_upd (fun _ => 0) (f k) hk
  rw [fb_sm_const] at h
  omega
section LH2
variable {d : A32} {G : Nat} {one two len dr : Nat → Nat} {dor opn : Nat → Bool} {moon : Bool}
theorem L_h125 (hD : DA d G one two len dor opn moon dr) (hw : WF G one two len dr) (kk : Int32 → Int32 → Option Int32) (v3 v4 : Int32) :
    f_L_height_b125 kk 59 d v3 v4 FU 0 0 0 = (if fb_ct (fun q => bt v4 q && sft dr q) 7 = 0 then kk v4 (v3 + 1) else some (nI (fb_sm (fun q => if (bt v4 q && sft dr q) = true then sh moon dr q else 0) 7 / fb_ct (fun q => bt v4 q && sft dr q) 7))) := by
  obtain ⟨⟨s1, s2⟩, ⟨h1, h2, h3⟩, e⟩ := lp (fun fu (s : Int32 × Int32) i => f_L_height_b125 kk 59 d v3 v4 fu s.1 s.2 (nI i)) 7
    (fun i s => s.1 = nI (fb_ct (fun q => bt v4 q && sft dr q) i) ∧ s.2 = nI (fb_sm (fun q => if (bt v4 q && sft dr q) = true then sh moon dr q else 0) i) ∧ fb_sm (fun q => if (bt v4 q && sft dr q) = true then sh moon dr q else 0) i ≤ i * 120)
    (fun s => if s.1 ≤ 0 then kk v4 (v3 + 1) else if s.1 = 0 then none else some (s.2 / s.1)) (by
      rintro fu i ⟨s1, s2⟩ hi ⟨h1, h2, h3⟩
      try dsimp only at h1 h2
      subst h1 h2
      have hd := hw.2.2.1 i hi
      have e2 := hD.2.2.2 i hi
      by_cases hb : bt v4 i = true
      · by_cases hz : 0 < dr i
        · have hp : (bt v4 i && sft dr i) = true := by rw [hb]; exact decide_eq_true hz
          refine ⟨(nI (fb_ct (fun q => bt v4 q && sft dr q) i + 1), nI (fb_sm (fun q => if (bt v4 q && sft dr q) = true then sh moon dr q else 0) i + sh moon dr i)), ⟨?_, ?_, ?_⟩, ?_⟩
          · rw [fb_ct_succ]; simp only [hp, if_true]
          · rw [fb_sm_succ]; simp only [hp, if_true]
          · rw [fb_sm_succ]; simp only [hp, if_true]
            have := sh_le (moon := moon) hd
            omega
          · simp (disch := omega) only [f_L_height_b125, f_L_height_b169, le7F, if_false, bit_e, hb, b2i_0, ad52, inT, if_true, cl_e, e2, eq0F, nam_e, nI_1, L_shaft_e hD hi hz hd, bnd_e, nI_add, tfF]
        · have hp : (bt v4 i && sft dr i) = false := by rw [hb]; exact decide_eq_false hz
          refine ⟨(nI (fb_ct (fun q => bt v4 q && sft dr q) i), nI (fb_sm (fun q => if (bt v4 q && sft dr q) = true then sh moon dr q else 0) i)), ⟨?_, ?_, ?_⟩, ?_⟩
          · rw [fb_ct_succ]; simp only [hp, if_false, ftF, tfF, Nat.add_zero]
          · rw [fb_sm_succ]; simp only [hp, if_false, ftF, tfF, Nat.add_zero]
          · rw [fb_sm_succ]; simp only [hp, if_false, ftF, tfF, Nat.add_zero]
            omega
          · simp (disch := omega) only [f_L_height_b125, f_L_height_b169, le7F, if_false, bit_e, hb, b2i_0, ad52, inT, if_true, cl_e, e2, eq0T, nam_e, nI_1, tfF]
      · have hf : bt v4 i = false := by cases hh : bt v4 i <;> simp_all
        have hp : (bt v4 i && sft dr i) = false := by rw [hf]; rfl
        refine ⟨(nI (fb_ct (fun q => bt v4 q && sft dr q) i), nI (fb_sm (fun q => if (bt v4 q && sft dr q) = true then sh moon dr q else 0) i)), ⟨?_, ?_, ?_⟩, ?_⟩
        · rw [fb_ct_succ]; simp only [hp, if_false, ftF, tfF, Nat.add_zero]
        · rw [fb_sm_succ]; simp only [hp, if_false, ftF, tfF, Nat.add_zero]
        · rw [fb_sm_succ]; simp only [hp, if_false, ftF, tfF, Nat.add_zero]
          omega
        · simp (disch := omega) only [f_L_height_b125, f_L_height_b169, le7F, if_false, bit_e, hf, b2i_0, if_true, nam_e, nI_1]) (by
      rintro fu ⟨s1, s2⟩ -
      simp (disch := omega) only [f_L_height_b125, le7T, if_true, nam_e]) (i := 0) (k := 7) (fu := FU) (s := (0, 0)) rfl (FU_lt (by decide)) ⟨rfl, rfl, Nat.le_refl _⟩
  try dsimp only at h1 h2 e
  have hl := fb_ct_le (fun q => bt v4 q && sft dr q) 7
  rw [show f_L_height_b125 kk 59 d v3 v4 FU 0 0 0 = f_L_height_b125 kk 59 d v3 v4 FU 0 0 (nI 0) from rfl, e, h1, h2]
  by_cases h0 : fb_ct (fun q => bt v4 q && sft dr q) 7 = 0
  · rw [if_pos h0, h0]; rfl
  · rw [if_neg h0, if_neg (nI_nle (by omega) (by omega)), if_neg (nI_ne0 (by omega) (by omega)), pk_div (by omega) (by omega) (by omega)]
theorem hgt_shaft {k : Nat} (hk : k < 7) (h : 0 < dr k) : hgt G one two opn moon dr k = some (sh moon dr k) := by
  have e : ∀ q, q < 7 → nst G one two opn dr k q = decide (q = k) := fun q hq => bool_ext (by
    unfold nst
    rw [dcd_t, decide_eq_true_eq]
    have hs : sft dr k = true := decide_eq_true h
    constructor
    · rintro ⟨t, h2, h3, h4⟩
      have : t = 0 := by
        rcases Nat.eq_zero_or_pos t with q0 | q0
        · exact q0
        · exact absurd ((hit_0 hk).mpr hs) (h4 0 q0)
      subst this
      exact h2
    · rintro rfl
      exact ⟨0, rfl, hs, fun t' ht => absurd ht (Nat.not_lt_zero _)⟩)
  unfold hgt
  rw [fb_ct_cong e, ct_one k hk, if_neg (by decide)]
  rw [fb_sm_cong (g := fun q => if q = k then sh moon dr k else 0) (fun q hq => by
    rw [e q hq]
    by_cases h1 : q = k
    · subst h1; simp
    · simp [h1]), sm_one (fun q => sh moon dr q) hk, Nat.div_one]
theorem L_height_e (hD : DA d G one two len dor opn moon dr) (hw : WF G one two len dr) {k : Nat} (hk : k < 7) : f_L_height 59 d (nI k) = some (hI (hgt G one two opn moon dr k)) := by
  have hd := hw.2.2.1 k hk
  have e2 := hD.2.2.2 k hk
  by_cases hz : 0 < dr k
  · rw [hgt_shaft hk hz]
    unfold f_L_height
    simp (disch := omega) only [ad52, inT, if_true, cl_e, e2, le0F, if_false, L_shaft_e hD hk hz hd, bnd_e, hI]
  · have e1 : f_L_height 59 d (nI k) = f_L_height_b21 59 d FU (1 <<< (nI k &&& 31)) (nI 0) := by
      unfold f_L_height
      simp (disch := omega) only [ad52, inT, if_true, cl_e, e2, le0T, nam_e]
      rfl
    rw [e1]
    have hends := wf_ends hw
    refine lpP (fun fu (s : Int32) i => f_L_height_b21 59 d fu s (nI i)) 7
      (fun i s => (∀ v, v < 32 → (bt s v = true ↔ Ball G one two opn i k v)) ∧ ∀ t, t ≤ i → ¬ Hit G one two opn (sft dr) t k)
      (fun r => r = some (hI (hgt G one two opn moon dr k))) ?_ ?_ 7 0 _ FU rfl (FU_lt (by decide)) ?_
    · rintro fu i s hi ⟨h1, h2⟩
      obtain ⟨v4, g1, g2⟩ := L_h33 hD hw (f_L_height_b21 59 d fu) s (nI i)
      have g3 : f_L_height_b21 59 d (fu + 1) s (nI i) = f_L_height_b125 (f_L_height_b21 59 d fu) 59 d (nI i) v4 FU 0 0 0 := by
        rw [← g2]
        simp (disch := omega) only [f_L_height_b21, le7F, if_false]
        rfl
      have hball : ∀ v, v < 32 → (bt v4 v = true ↔ Ball G one two opn (i + 1) k v) := by
        intro v hv
        rw [g1 v hv, h1 v hv]
        show _ ↔ Ball G one two opn i k v ∨ ∃ u, Ball G one two opn i k u ∧ Adj G one two opn u v
        refine or_congr Iff.rfl ⟨?_, ?_⟩
        · rintro ⟨g, a1, a2, (⟨a3, a4⟩ | ⟨a3, a4⟩)⟩
          · have := hends g a1
            exact ⟨one g, (h1 _ (by omega)).mp a3, g, a1, a2, Or.inl ⟨rfl, a4⟩⟩
          · have := hends g a1
            exact ⟨two g, (h1 _ (by omega)).mp a3, g, a1, a2, Or.inr ⟨rfl, a4⟩⟩
        · rintro ⟨u, a0, g, a1, a2, (⟨a3, a4⟩ | ⟨a3, a4⟩)⟩
          · have := hends g a1
            subst a3
            exact ⟨g, a1, a2, Or.inl ⟨(h1 _ (by omega)).mpr a0, a4⟩⟩
          · have := hends g a1
            subst a3
            exact ⟨g, a1, a2, Or.inr ⟨(h1 _ (by omega)).mpr a0, a4⟩⟩
      try dsimp only
      rw [g3, L_h125 hD hw]
      by_cases hh : Hit G one two opn (sft dr) (i + 1) k
      · refine Or.inr ?_
        have hn : ∀ q, q < 7 → nst G one two opn dr k q = (bt v4 q && sft dr q) := fun q hq => bool_ext (by
          unfold nst
          rw [dcd_t, nst_ball hq hh (fun t' ht => h2 t' (by omega)), Bool.and_eq_true, hball q (by omega)])
        have hp : 0 < fb_ct (fun q => bt v4 q && sft dr q) 7 := by
          obtain ⟨q, hq, b1, b2⟩ := hh
          exact fb_ct_pos.mpr ⟨q, hq, by rw [Bool.and_eq_true]; exact ⟨(hball q (by omega)).mpr b1, b2⟩⟩
        rw [if_neg (by omega)]
        unfold hgt
        rw [fb_ct_cong hn, if_neg (by omega)]
        have hsm : fb_sm (fun q => if nst G one two opn dr k q = true then sh moon dr q else 0) 7 = fb_sm (fun q => if (bt v4 q && sft dr q) = true then sh moon dr q else 0) 7 := fb_sm_cong (fun q hq => by rw [hn q hq])
        rw [hsm]
        rfl
      · refine Or.inl ⟨v4, ⟨hball, fun t ht => ?_⟩, ?_⟩
        · rcases Nat.lt_or_ge t (i + 1) with q | q
          · exact h2 t (by omega)
          · have : t = i + 1 := by omega
            subst this
            exact hh
        · rw [if_pos (fb_ct_zero.mpr (fun q hq => by
            cases hx : (bt v4 q && sft dr q)
            · rfl
            · rw [Bool.and_eq_true] at hx
              exact absurd ⟨q, hq, (hball q (by omega)).mp hx.1, hx.2⟩ hh)), nI_1]
    · rintro fu s ⟨h1, h2⟩
      have hno : ∀ t, ¬ Hit G one two opn (sft dr) t k := fun t hh => h2 6 (by omega) (hit_6 hends (wf_shaft hw) t k hk hh)
      have hz0 : fb_ct (nst G one two opn dr k) 7 = 0 := fb_ct_zero.mpr (fun q hq => dcd_f.mpr (nst_none hq hno))
      unfold hgt
      rw [if_pos hz0]
      simp (disch := omega) only [f_L_height_b21, le7T, if_true, hI]
    · constructor
      · intro v hv
        rw [one_shl (by omega) hv, decide_eq_true_eq]
        exact Iff.rfl
      · intro t ht
        have : t = 0 := by omega
        subst this
        rw [hit_0 hk]
        unfold sft
        rw [decide_eq_true_eq]
        exact hz
theorem hI_lt0 {h : Option Nat} (hb : ∀ x, h = some x → x < 2 ^ 30) : hI h < 0 ↔ h = none := by
  cases h with
  | none => simp [hI]
  | some x =>
    have := hb x rfl
    simp only [hI, lt0F (i := x) (by omega)]
    simp
theorem L_into_e (hD : DA d G one two len dor opn moon dr) (hw : WF G one two len dr) {g : Nat} (hg : g < G) : f_L_into 59 d (nI g) = some (hI (flw G one two opn moon dr g)) := by
  obtain ⟨e1, e2, e3, e4, e5⟩ := hD.2.2.1 g hg
  obtain ⟨w1, w2, w3, -, -⟩ := hw.2.1 g hg
  have hG := hw.1
  unfold f_L_into f_L_into_b45 flw
  cases ho : opn g
  · simp (disch := omega) only [ad41, inT, if_true, cl_e, e5, ho, b2i_0]
    rfl
  · simp (disch := omega) only [ad41, ad1, ad11, inT, if_true, cl_e, e5, ho, b2i_0, e1, e2, L_height_e hD hw w1, L_height_e hD hw w2, bnd_e, tfF, if_false]
    have b1 : ∀ x, hgt G one two opn moon dr (one g) = some x → x < 2 ^ 30 := fun x h => hgt_lt' hw.2.2.1 h
    have b2 : ∀ x, hgt G one two opn moon dr (two g) = some x → x < 2 ^ 30 := fun x h => hgt_lt' hw.2.2.1 h
    generalize hgt G one two opn moon dr (one g) = h1 at b1
    generalize hgt G one two opn moon dr (two g) = h2 at b2
    cases h1 with
    | none => rw [if_pos ((hI_lt0 b1).mpr rfl)]; rfl
    | some x =>
      rw [if_neg (c := hI (some x) < 0) (by rw [hI_lt0 b1]; simp)]
      cases h2 with
      | none => rw [if_pos ((hI_lt0 b2).mpr rfl)]; rfl
      | some y =>
        have c1 := b1 x rfl
        have c2 := b2 y rfl
        rw [if_neg (c := hI (some y) < 0) (by rw [hI_lt0 b2]; simp)]
        have e1' : hI (some x) = hI (some y) ↔ x = y := by rw [hI_inj b1 b2]; simp
        have e2' : hI (some y) ≤ hI (some x) ↔ y ≤ x := nI_leI (by omega) (by omega)
        rw [show lowr (some x) (some y) (one g) (two g) = (if x = y then none else if x < y then some (one g) else some (two g)) from rfl]
        by_cases q : x = y
        · rw [if_pos (e1'.mpr q), if_pos q]; rfl
        · rw [if_neg (fun h => q (e1'.mp h)), if_neg q]
          by_cases q2 : x < y
          · rw [if_neg (fun h => by have := e2'.mp h; omega), if_pos q2]; rfl
          · rw [if_pos (e2'.mpr (by omega)), if_neg q2]; rfl
/-- the law's own row of flows -/
def LA (c : A32) (G : Nat) (fl : Nat → Option Nat) : Prop := ∀ g, g < 10 → c g = if g < G then hI (fl g) else -1
theorem L_air_e (hD : DA d G one two len dor opn moon dr) (hw : WF G one two len dr) : ∃ c, f_L_air 59 d = some c ∧ LA c G (flw G one two opn moon dr) := by
  have hG := hw.1
  have e0 := hD.1
  obtain ⟨c, hc, e⟩ := lp (fun fu (s : A32) i => f_L_air_b7 59 d fu s (nI i)) 10
    (fun i s => ∀ g, g < i → s g = if g < G then hI (flw G one two opn moon dr g) else -1) (fun s => some s) (by
      intro fu i s hi hs
      refine ⟨upd s i (if i < G then hI (flw G one two opn moon dr i) else -1), ?_, ?_⟩
      · intro g hg
        rw [upd_e]
        by_cases q : g = i
        · subst q; rw [if_pos rfl]
        · rw [if_neg q]; exact hs g (by omega)
      · by_cases hig : i < G
        · simp (disch := omega) only [f_L_air_b7, f_L_air_b31, le10F, if_false, in0, if_true, cl0, e0, leF, L_into_e hD hw hig, bnd_e, inT, nam_e, cl_e, nI_1, hig]
        · simp (disch := omega) only [f_L_air_b7, f_L_air_b31, le10F, if_false, in0, if_true, cl0, e0, leT, inT, nam_e, cl_e, nI_1, hig]) (by
      intro fu s _
      simp (disch := omega) only [f_L_air_b7, le10T, if_true]) (i := 0) (k := 10) (fu := FU) (s := fun _ => 0) rfl (FU_lt (by decide)) (fun g h => absurd h (Nat.not_lt_zero g))
  exact ⟨c, e, hc⟩
theorem L_breathes_e (hD : DA d G one two len dor opn moon dr) (hw : WF G one two len dr) {fl : Nat → Option Nat} (hfl : ∀ g x, g < G → fl g = some x → x < 7) {c : A32} (hc : LA c G fl) {k : Nat} (hk : k < 7) : f_L_breathes 59 10 d c (nI k) = some (b2i (dcd (brt G one two fl k))) := by
  have hG := hw.1
  have e0 := hD.1
  unfold f_L_breathes
  refine lpP (fun fu (s : Unit) i => f_L_breathes_b2 59 10 d c (nI k) fu (nI i)) G (fun i s => ∀ g, g < i → fl g ≠ none → ¬ (one g = k ∨ two g = k)) (fun r => r = some (b2i (dcd (brt G one two fl k)))) ?_ ?_ G 0 () FU (by omega) (FU_lt (by omega)) (fun g h => absurd h (Nat.not_lt_zero g))
  · intro fu i s hi hs
    obtain ⟨e1, e2, e3, e4, e5⟩ := hD.2.2.1 i hi
    obtain ⟨w1, w2, w3, -, -⟩ := hw.2.1 i hi
    have ec := hc i (by omega)
    rw [if_pos hi] at ec
    have hb : ∀ x, fl i = some x → x < 2 ^ 30 := fun x h => by have := hfl i x hi h; omega
    by_cases hf : fl i = none
    · refine Or.inl ⟨(), fun g hg hn => ?_, ?_⟩
      · rcases Nat.lt_or_ge g i with q | q
        · exact hs g q hn
        · have : g = i := by omega
          subst this
          exact absurd hf hn
      · have : (hI (fl i) < 0) = True := eq_true ((hI_lt0 hb).mpr hf)
        simp (disch := omega) only [f_L_breathes_b2, f_L_breathes_b36, in0, if_true, cl0, e0, leF, if_false, inT, cl_e, ec, this, nam_e, nI_1]
    · have hx : (hI (fl i) < 0) = False := eq_false (fun q => hf ((hI_lt0 hb).mp q))
      have hu : f_L_breathes_b2 59 10 d c (nI k) (fu + 1) (nI i) = (if nI (one i) = nI k then some 1 else if nI (two i) = nI k then some 1 else f_L_breathes_b2 59 10 d c (nI k) fu (nI (i + 1))) := by
        simp (disch := omega) only [f_L_breathes_b2, f_L_breathes_b36, in0, if_true, cl0, e0, leF, if_false, inT, cl_e, ec, hx, nam_e, nI_1, ad1, ad11, e1, e2]
      try dsimp only
      rw [hu, iteE (by omega) (by omega), iteE (by omega) (by omega)]
      by_cases h1 : one i = k
      · refine Or.inr ?_
        rw [if_pos h1, dcd_t.mpr ⟨i, hi, hf, Or.inl h1⟩]
        rfl
      · rw [if_neg h1]
        by_cases h2 : two i = k
        · refine Or.inr ?_
          rw [if_pos h2, dcd_t.mpr ⟨i, hi, hf, Or.inr h2⟩]
          rfl
        · rw [if_neg h2]
          refine Or.inl ⟨(), fun g hg hn => ?_, rfl⟩
          rcases Nat.lt_or_ge g i with q | q
          · exact hs g q hn
          · have : g = i := by omega
            subst this
            rintro (h | h)
            · exact h1 h
            · exact h2 h
  · intro fu s hs
    have : dcd (brt G one two fl k) = false := dcd_f.mpr (fun ⟨g, a1, a2, a3⟩ => hs g a1 a2 a3)
    try dsimp only
    rw [this]
    simp (disch := omega) only [f_L_breathes_b2, in0, if_true, cl0, e0, leT, b2i_f]
def brs (kd : Nat) : Nat := if kd = 2 then 1 else if kd = 3 then 2 else if kd = 4 then 6 else 4
theorem L_bears_e {kd : Nat} (h : kd < 5) : f_L_bears (nI kd) = some (nI (brs kd)) := by
  rcases (show kd = 0 ∨ kd = 1 ∨ kd = 2 ∨ kd = 3 ∨ kd = 4 by omega) with rfl | rfl | rfl | rfl | rfl <;> rfl
theorem L_other_e (hD : DA d G one two len dor opn moon dr) (hw : WF G one two len dr) {g k : Nat} (hg : g < G) (hk : k < 7) : f_L_other 59 d (nI g) (nI k) = some (nI (if one g = k then two g else one g)) := by
  obtain ⟨e1, e2, e3, e4, e5⟩ := hD.2.2.1 g hg
  obtain ⟨w1, w2, w3, -, -⟩ := hw.2.1 g hg
  have hG := hw.1
  unfold f_L_other
  simp (disch := omega) only [ad1, ad11, inT, if_true, cl_e, e1, e2]
  rw [iteE (by omega) (by omega)]
  split <;> rfl
end LH2
end
section
/-! least lengths: a table joined through every knot in turn -/
def mnO : Option Nat → Option Nat → Option Nat
  | none, y => y
  | some x, none => some x
  | some x, some y => if x ≤ y then some x else some y
def adO : Option Nat → Option Nat → Option Nat
  | some x, some y => some (x + y)
  | _, _ => none
abbrev Tab : Type := Nat → Nat → Option Nat
def phs (T : Tab) (k : Nat) : Tab := fun x y => mnO (T x y) (adO (T x k) (T k y))
def fw (T : Tab) : Nat → Tab
  | 0 => T
  | n + 1 => phs (fw T n) n
theorem mnO_none (x : Option Nat) : mnO x none = x := by cases x <;> rfl
theorem mnO_zero (y : Option Nat) : mnO (some 0) y = some 0 := by
  cases y with
  | none => rfl
  | some y => simp [mnO]
theorem mnO_self (x : Option Nat) : mnO x x = x := by
  cases x with
  | none => rfl
  | some x => simp [mnO]
theorem adO_zero (x : Option Nat) : adO (some 0) x = x := by
  cases x with
  | none => rfl
  | some x => exact congrArg some (Nat.zero_add x)
theorem mnO_c {x y : Option Nat} {c : Nat} (h : mnO x y = some c) : x = some c ∨ y = some c := by
  cases x with
  | none => exact Or.inr h
  | some x =>
    cases y with
    | none => exact Or.inl h
    | some y =>
      simp only [mnO] at h
      split at h
      · exact Or.inl h
      · exact Or.inr h
theorem mnO_l {x y : Option Nat} {a : Nat} (h : x = some a) : ∃ c, mnO x y = some c ∧ c ≤ a := by
  subst h
  cases y with
  | none => exact ⟨a, rfl, Nat.le_refl _⟩
  | some y =>
    simp only [mnO]
    split
    · exact ⟨a, rfl, Nat.le_refl _⟩
    · exact ⟨y, rfl, by omega⟩
theorem mnO_r {x y : Option Nat} {a : Nat} (h : y = some a) : ∃ c, mnO x y = some c ∧ c ≤ a := by
  subst h
  cases x with
  | none => exact ⟨a, rfl, Nat.le_refl _⟩
  | some x =>
    simp only [mnO]
    split
    · exact ⟨x, rfl, by assumption⟩
    · exact ⟨a, rfl, Nat.le_refl _⟩
theorem adO_c {x y : Option Nat} {c : Nat} (h : adO x y = some c) : ∃ a b, x = some a ∧ y = some b ∧ c = a + b := by
  cases x with
  | none => cases h
  | some a =>
    cases y with
    | none => cases h
    | some b => cases h; exact ⟨a, b, rfl, rfl, rfl⟩
theorem phs_c {T : Tab} {k u v c : Nat} (h : phs T k u v = some c) : T u v = some c ∨ ∃ a b, T u k = some a ∧ T k v = some b ∧ c = a + b := by
  rcases mnO_c h with q | q
  · exact Or.inl q
  · exact Or.inr (adO_c q)
theorem phs_l {T : Tab} {k u v a : Nat} (h : T u v = some a) : ∃ c, phs T k u v = some c ∧ c ≤ a := mnO_l h
theorem phs_r {T : Tab} {k u v a b : Nat} (h1 : T u k = some a) (h2 : T k v = some b) : ∃ c, phs T k u v = some c ∧ c ≤ a + b := mnO_r (by rw [h1, h2]; rfl)
theorem phs_0 {T : Tab} {k u : Nat} (h : T u u = some 0) : phs T k u u = some 0 := by
  unfold phs
  rw [h, mnO_zero]
theorem fw_0 {T : Tab} (h : ∀ u, u < 7 → T u u = some 0) : ∀ n u, u < 7 → fw T n u u = some 0 := by
  intro n
  induction n with
  | zero => exact h
  | succ n ih => exact fun u hu => phs_0 (ih u hu)
theorem fw_le {T : Tab} {u v a : Nat} (h : T u v = some a) : ∀ n, ∃ c, fw T n u v = some c ∧ c ≤ a := by
  intro n
  induction n with
  | zero => exact ⟨a, h, Nat.le_refl _⟩
  | succ n ih =>
    obtain ⟨c, h1, h2⟩ := ih
    obtain ⟨c', h3, h4⟩ := phs_l (k := n) h1
    exact ⟨c', h3, by omega⟩
/-- through any of the first n -/
theorem fw_tri {T : Tab} (h0 : ∀ u, u < 7 → T u u = some 0) : ∀ n, n ≤ 7 → ∀ w, w < n → ∀ u v a b, u < 7 → v < 7 → fw T n u w = some a → fw T n w v = some b → ∃ c, fw T n u v = some c ∧ c ≤ a + b := by
  intro n
  induction n with
  | zero => intro _ w hw; exact absurd hw (Nat.not_lt_zero w)
  | succ n ih =>
    intro hn w hw u v a b hu hv h1 h2
    have hd := fw_0 h0 n
    have tri := ih (by omega)
    have dn := hd n (by omega)
    -- through n itself
    have thr : ∀ x y a b, fw T n x n = some a → fw T n n y = some b → ∃ c, fw T (n + 1) x y = some c ∧ c ≤ a + b := fun x y a b q1 q2 => phs_r q1 q2
    by_cases hwn : w = n
    · subst hwn
      have e1 : fw T w u w = some a := by
        rcases phs_c h1 with q | ⟨x, y, q1, q2, q3⟩
        · exact q
        · rw [dn] at q2; cases q2; rw [q3]; exact q1
      have e2 : fw T w w v = some b := by
        rcases phs_c h2 with q | ⟨x, y, q1, q2, q3⟩
        · exact q
        · rw [dn] at q1; cases q1; rw [q3, Nat.zero_add]; exact q2
      exact thr u v a b e1 e2
    · have hw' : w < n := by omega
      rcases phs_c h1 with q | ⟨x, y, q1, q2, q3⟩ <;> rcases phs_c h2 with r | ⟨x', y', r1, r2, r3⟩
      · obtain ⟨c, c1, c2⟩ := tri w hw' u v a b hu hv q r
        obtain ⟨c', c3, c4⟩ := phs_l (k := n) c1
        exact ⟨c', c3, by omega⟩
      · obtain ⟨c, c1, c2⟩ := tri w hw' u n a x' hu (by omega) q r1
        obtain ⟨c', c3, c4⟩ := thr u v c y' c1 r2
        exact ⟨c', c3, by omega⟩
      · obtain ⟨c, c1, c2⟩ := tri w hw' n v y b (by omega) hv q2 r
        obtain ⟨c', c3, c4⟩ := thr u v x c q1 c1
        exact ⟨c', c3, by omega⟩
      · obtain ⟨c', c3, c4⟩ := thr u v x y' q1 r2
        exact ⟨c', c3, by omega⟩
/-- each length has a last step -/
theorem fw_last {T : Tab} {Ed : Nat → Nat → Nat → Prop} (h0 : ∀ u, u < 7 → T u u = some 0) (h1 : ∀ u v c, u < 7 → v < 7 → u ≠ v → T u v = some c → Ed u v c) (hE : ∀ u v l, Ed u v l → u < 7 ∧ v < 7) : ∀ n, n ≤ 7 → ∀ u v c, u < 7 → v < 7 → u ≠ v → fw T n u v = some c → ∃ w l a, Ed w v l ∧ fw T n u w = some a ∧ a + l ≤ c := by
  intro n
  induction n with
  | zero =>
    intro _ u v c hu hv hne h
    exact ⟨u, c, 0, h1 u v c hu hv hne h, h0 u hu, by omega⟩
  | succ n ih =>
    intro hn u v c hu hv hne h
    have hd := fw_0 h0 n
    rcases phs_c h with q | ⟨x, y, q1, q2, q3⟩
    · obtain ⟨w, l, a, b1, b2, b3⟩ := ih (by omega) u v c hu hv hne q
      obtain ⟨c', c1, c2⟩ := phs_l (k := n) b2
      exact ⟨w, l, c', b1, c1, by omega⟩
    · by_cases hvn : n = v
      · subst hvn
        rw [hd n hv] at q2
        cases q2
        obtain ⟨w, l, a, b1, b2, b3⟩ := ih (by omega) u n x hu hv hne q1
        obtain ⟨c', c1, c2⟩ := phs_l (k := n) b2
        exact ⟨w, l, c', b1, c1, by omega⟩
      · obtain ⟨w, l, a, b1, b2, b3⟩ := ih (by omega) n v y (by omega) hv hvn q2
        obtain ⟨c', c1, c2⟩ := phs_r q1 b2
        exact ⟨w, l, c', b1, c1, by omega⟩
theorem fw_bound {T : Tab} (hT : ∀ u v c, T u v = some c → c ≤ 9) : ∀ n u v c, fw T n u v = some c → c ≤ 9 * 2 ^ n := by
  intro n
  induction n with
  | zero => intro u v c h; have := hT u v c h; omega
  | succ n ih =>
    intro u v c h
    have e : 9 * 2 ^ (n + 1) = 9 * 2 ^ n + 9 * 2 ^ n := by rw [Nat.pow_succ]; omega
    rcases phs_c h with q | ⟨x, y, q1, q2, q3⟩
    · have := ih u v c q
      omega
    · have b1 := ih _ _ _ q1
      have b2 := ih _ _ _ q2
      omega
/-- what is least: it is 0 at u, it obeys the edges, each has a last step -/
def Lst (Ed : Nat → Nat → Nat → Prop) (u : Nat) (F : Nat → Option Nat) : Prop :=
  F u = some 0 ∧ (∀ w v l a, Ed w v l → F w = some a → ∃ c, F v = some c ∧ c ≤ a + l) ∧ ∀ v c, v < 7 → v ≠ u → F v = some c → ∃ w l a, Ed w v l ∧ F w = some a ∧ a + l = c
theorem fw_lst {T : Tab} {Ed : Nat → Nat → Nat → Prop} (h0 : ∀ u, u < 7 → T u u = some 0) (h1 : ∀ u v c, u < 7 → v < 7 → u ≠ v → T u v = some c → Ed u v c) (h2 : ∀ u v l, Ed u v l → ∃ c, T u v = some c ∧ c ≤ l) (hE : ∀ u v l, Ed u v l → u < 7 ∧ v < 7) {u : Nat} (hu : u < 7) : Lst Ed u (fw T 7 u) := by
  have ed : ∀ w v l a, Ed w v l → fw T 7 u w = some a → ∃ c, fw T 7 u v = some c ∧ c ≤ a + l := by
    intro w v l a he hf
    obtain ⟨hw, hv⟩ := hE w v l he
    obtain ⟨c, c1, c2⟩ := h2 w v l he
    obtain ⟨c', c3, c4⟩ := fw_le c1 7
    obtain ⟨c5, c6, c7⟩ := fw_tri h0 7 (Nat.le_refl _) w hw u v a c' hu hv hf c3
    exact ⟨c5, c6, by omega⟩
  refine ⟨fw_0 h0 7 u hu, ed, fun v c hv hne hf => ?_⟩
  obtain ⟨w, l, a, b1, b2, b3⟩ := fw_last h0 h1 hE 7 (Nat.le_refl _) u v c hu hv (Ne.symm hne) hf
  obtain ⟨c', c1, c2⟩ := ed w v l a b1 b2
  rw [hf] at c1
  cases c1
  exact ⟨w, l, a, b1, b2, by omega⟩
/-- nothing is farther than six times the longest edge -/
theorem lst_54 {Ed : Nat → Nat → Nat → Prop} {u : Nat} {F : Nat → Option Nat} (hu : u < 7) (hE : ∀ u v l, Ed u v l → u < 7 ∧ v < 7 ∧ 1 ≤ l ∧ l ≤ 9) (h : Lst Ed u F) {v c : Nat} (hv : v < 7) (hf : F v = some c) : c ≤ 54 := by
  refine Classical.byContradiction fun hx => ?_
  -- how many lie within x
  let cn : Nat → Nat := fun x => fb_ct (fun k => dcd (∃ a, F k = some a ∧ a ≤ x)) 7
  -- the least beyond x
  have step : ∀ x, x < c → cn x < cn (x + 9) := by
    intro x hxc
    have least : ∀ m, (∃ k a, k < 7 ∧ F k = some a ∧ x < a ∧ a ≤ x + m) → ∃ k a, k < 7 ∧ F k = some a ∧ x < a ∧ ∀ k' a', k' < 7 → F k' = some a' → x < a' → a ≤ a' := by
      intro m
      induction m with
      | zero => rintro ⟨k, a, _, _, h1, h2⟩; omega
      | succ m ih =>
        rintro ⟨k, a, h0, h1, h2, h3⟩
        by_cases q : ∃ k a, k < 7 ∧ F k = some a ∧ x < a ∧ a ≤ x + m
        · exact ih q
        · refine ⟨k, a, h0, h1, h2, fun k' a' b0 b1 b2 => ?_⟩
          refine Classical.byContradiction fun hlt => q ⟨k', a', b0, b1, b2, by omega⟩
    obtain ⟨k, a, a0, a1, a2, a3⟩ := least (c - x) ⟨v, c, hv, hf, hxc, by omega⟩
    have hku : k ≠ u := fun e => by
      subst e
      rw [h.1] at a1
      cases a1
      omega
    obtain ⟨w, l, b, b1, b2, b3⟩ := h.2.2 k a a0 hku a1
    obtain ⟨e1, e2, e3, e4⟩ := hE _ _ _ b1
    have hbx : b ≤ x := Classical.byContradiction fun q => by
      have := a3 w b e1 b2 (by omega)
      omega
    refine fb_ct_lt (k := k) (fun j hj hp => ?_) a0 ?_ ?_
    · obtain ⟨z, z1, z2⟩ := dcd_t.mp hp
      exact dcd_t.mpr ⟨z, z1, by omega⟩
    · exact dcd_t.mpr ⟨a, a1, by omega⟩
    · refine dcd_f.mpr ?_
      rintro ⟨z, z1, z2⟩
      rw [a1] at z1
      cases z1
      omega
  have c0 : 1 ≤ cn 0 := fb_ct_pos.mpr ⟨u, hu, dcd_t.mpr ⟨0, h.1, Nat.le_refl _⟩⟩
  have s1 := step 0 (by omega)
  have s2 := step 9 (by omega)
  have s3 := step 18 (by omega)
  have s4 := step 27 (by omega)
  have s5 := step 36 (by omega)
  have s6 := step 45 (by omega)
  have s7 := step 54 (by omega)
  have hle : cn (54 + 9) ≤ 7 := fb_ct_le _ 7
  simp only [Nat.zero_add, Nat.reduceAdd] at s1 s2 s3 s4 s5 s6 s7 hle
  omega
end
section
/-! the class's table of lengths -/
theorem fill_e {n : Nat} (hn : n < 1000) (c : A32) (v : Int32) : ∃ c', f_X8_fill n c v = some c' ∧ ∀ i, i < n → c' i = v := by
  obtain ⟨c', h, e⟩ := lp (fun fu (s : A32) i => f_X8_fill_b2 n v fu s (nI i)) n (fun i s => ∀ j, j < i → s j = v) (fun s => some s) (by
      intro fu i s hi hs
      refine ⟨upd s i v, fun j hj => ?_, ?_⟩
      · rw [upd_e]
        by_cases q : j = i
        · rw [if_pos q]
        · rw [if_neg q]; exact hs j (by omega)
      · simp (disch := omega) only [f_X8_fill_b2, leF, if_false, inT, if_true, cl_e, nam_e, nI_1]) (by
      intro fu s _
      simp (disch := omega) only [f_X8_fill_b2, leT, if_true]) (i := 0) (k := n) (fu := FU) (s := c) (by omega) (FU_lt (by omega)) (fun j h => absurd h (Nat.not_lt_zero j))
  exact ⟨c', e, h⟩
def TA (c : A32) (T : Tab) : Prop := ∀ u v, u < 7 → v < 7 → c (u * 7 + v) = hI (T u v)
theorem ix7 (u v : Nat) : nI u * 7 + nI v = nI (u * 7 + v) := by rw [k7, pk_mul, nI_add]
theorem TA.put {c : A32} {T T' : Tab} {u v : Nat} {z : Option Nat} (h : TA c T) (hu : u < 7) (hv : v < 7) (h1 : T' u v = z) (h2 : ∀ x y, x < 7 → y < 7 → ¬ (x = u ∧ y = v) → T' x y = T x y) : TA (upd c (u * 7 + v) (hI z)) T' := by
  intro x y hx hy
  rw [upd_e]
  by_cases q : x = u ∧ y = v
  · obtain ⟨rfl, rfl⟩ := q
    rw [if_pos rfl, h1]
  · rw [if_neg (by omega), h2 x y hx hy q]
    exact h x y hx hy
theorem btw_e {c : A32} {T : Tab} (h : TA c T) {u v : Nat} (hu : u < 7) (hv : v < 7) : f_X9_between c (nI u) (nI v) = some (hI (T u v)) := by
  unfold f_X9_between
  rw [ix7, get_e c (by omega) (by decide), bnd_e, h u v hu hv]
theorem link_e {c : A32} {T T' : Tab} (h : TA c T) {u v l : Nat} (hu : u < 7) (hv : v < 7) (hb : ∀ x, T u v = some x → x < 2 ^ 30) (hl : l < 2 ^ 30) (h1 : T' u v = mnO (T u v) (some l)) (h2 : ∀ x y, x < 7 → y < 7 → ¬ (x = u ∧ y = v) → T' x y = T x y) :
    ∃ c', f_X9_link c (nI u) (nI v) (nI l) = some c' ∧ TA c' T' := by
  have hset : f_X9_link_b20 c (nI u) (nI v) (nI l) = some (upd c (u * 7 + v) (hI (some l))) := by
    unfold f_X9_link_b20
    rw [ix7, set_e c _ (by omega) (by decide), bnd_e]
    rfl
  unfold f_X9_link
  rw [btw_e h hu hv, bnd_e, hset]
  cases hT : T u v with
  | none =>
    rw [if_pos (show hI none = -1 from rfl)]
    rw [hT] at h1
    exact ⟨_, rfl, h.put hu hv h1 h2⟩
  | some x =>
    have hx := hb x hT
    rw [if_neg (by rw [hI_nn (fun y e => by cases e; exact hx)]; simp)]
    rw [show hI (some x) = nI x from rfl, iteL (by omega) (by omega)]
    rw [hT] at h1
    by_cases q : x ≤ l
    · rw [if_pos q]
      refine ⟨c, rfl, fun a b ha hb' => ?_⟩
      by_cases q2 : a = u ∧ b = v
      · obtain ⟨rfl, rfl⟩ := q2
        rw [h1, h a b ha hb', hT]
        simp only [mnO, if_pos q]
      · rw [h2 a b ha hb' q2]
        exact h a b ha hb'
    · rw [if_neg q]
      refine ⟨_, rfl, h.put hu hv ?_ h2⟩
      rw [h1]
      simp only [mnO, if_neg q]
/-- one row of a phase -/
theorem row_e {c : A32} {T : Tab} (h : TA c T) {k u : Nat} (hk : k < 7) (hu : u < 7) (h0 : T k k = some 0) (hb : ∀ x y z, T x y = some z → z < 2 ^ 20) (k2 k10 : A32 → Int32 → Option A32) :
    ∃ c', f_X9_joinWays_b26 k2 k10 (nI k) (nI u) (hI (T u k)) FU c 0 = k10 c' (nI (u + 1)) ∧ TA c' (fun x y => if x = u then mnO (T x y) (adO (T x k) (T k y)) else T x y) := by
  cases hT : T u k with
  | none =>
    refine ⟨c, ?_, fun x y hx hy => ?_⟩
    · obtain ⟨fu, hfu⟩ : ∃ q, FU = q + 1 := ⟨99999, rfl⟩
      rw [hfu, show f_X9_joinWays_b26 k2 k10 (nI k) (nI u) (hI none) (fu + 1) c 0 = f_X9_joinWays_b26 k2 k10 (nI k) (nI u) (hI none) (fu + 1) c (nI 0) from rfl]
      simp (disch := omega) only [f_X9_joinWays_b26, f_X9_joinWays_b70, le7F, if_false, hI, if_true, nam_e, nI_1]
    · try dsimp only
      by_cases q : x = u
      · subst q
        rw [if_pos rfl, hT, show adO none (T k y) = none from rfl, mnO_none]
        exact h x y hx hy
      · rw [if_neg q]
        exact h x y hx hy
  | some a =>
    have ha := hb _ _ _ hT
    have hna : (nI a = (-1 : Int32)) = False := nI_nm1 (by omega)
    obtain ⟨c', h1, e⟩ := lp (fun fu (s : A32) i => f_X9_joinWays_b26 k2 k10 (nI k) (nI u) (nI a) fu s (nI i)) 7
      (fun i s => TA s (fun x y => if x = u ∧ y < i then mnO (T x y) (adO (T x k) (T k y)) else T x y))
      (fun s => k10 s (nI (u + 1))) (by
        intro fu i s hi hs
        have hkT : (if k = u ∧ i < i then mnO (T k i) (adO (T k k) (T k i)) else T k i) = T k i := if_neg (fun q => by omega)
        have hb1 := btw_e hs hk hi
        rw [hkT] at hb1
        cases hTk : T k i with
        | none =>
          refine ⟨s, fun x y hx hy => ?_, ?_⟩
          · rw [hs x y hx hy]
            try dsimp only
            by_cases q : x = u ∧ y = i
            · obtain ⟨rfl, rfl⟩ := q
              rw [if_neg (fun q => by omega), if_pos ⟨rfl, by omega⟩, hTk, show adO (T x k) none = none from by cases T x k <;> rfl, mnO_none]
            · by_cases q2 : x = u ∧ y < i
              · rw [if_pos q2, if_pos ⟨q2.1, by omega⟩]
              · rw [if_neg q2, if_neg (fun q3 => by omega)]
          · rw [hTk] at hb1
            simp (disch := omega) only [f_X9_joinWays_b26, f_X9_joinWays_b64, le7F, if_false, hna, hb1, bnd_e, hI, if_true, nam_e, nI_1]
        | some b =>
          have hbb := hb _ _ _ hTk
          rw [hTk] at hb1
          have hnb : (nI b = (-1 : Int32)) = False := nI_nm1 (by omega)
          have huT : (if u = u ∧ i < i then mnO (T u i) (adO (T u k) (T k i)) else T u i) = T u i := if_neg (fun q => by omega)
          obtain ⟨c', e1, e2⟩ := link_e (T' := fun x y => if x = u ∧ y < i + 1 then mnO (T x y) (adO (T x k) (T k y)) else T x y) (l := a + b) hs hu hi (fun x q => by rw [huT] at q; have := hb _ _ _ q; omega) (by omega)
            (by rw [huT, if_pos ⟨rfl, by omega⟩, hT, hTk]; rfl)
            (fun x y hx hy q => by
              by_cases q2 : x = u ∧ y < i
              · rw [if_pos q2, if_pos ⟨q2.1, by omega⟩]
              · rw [if_neg q2, if_neg (fun q3 => by omega)])
          refine ⟨c', e2, ?_⟩
          simp (disch := omega) only [f_X9_joinWays_b26, f_X9_joinWays_b64, le7F, if_false, hna, hb1, bnd_e, hI, hnb, nI_add, e1, nam_e, nI_1]) (by
        intro fu s _
        simp (disch := omega) only [f_X9_joinWays_b26, f_X9_joinWays_b70, le7T, if_true, nam_e, nI_1]) (i := 0) (k := 7) (fu := FU) (s := c) rfl (FU_lt (by decide)) (fun x y hx hy => by
          try dsimp only
          rw [if_neg (fun q => by omega)]
          exact h x y hx hy)
    refine ⟨c', e, fun x y hx hy => ?_⟩
    rw [h1 x y hx hy]
    try dsimp only
    by_cases q : x = u
    · rw [if_pos ⟨q, hy⟩, if_pos q]
    · rw [if_neg (fun q2 => q q2.1), if_neg q]
theorem phs_e {c : A32} {T : Tab} (h : TA c T) {k : Nat} (hk : k < 7) (h0 : T k k = some 0) (hb : ∀ x y z, T x y = some z → z < 2 ^ 19) (k2 : A32 → Int32 → Option A32) :
    ∃ c', f_X9_joinWays_b10 k2 (nI k) FU c 0 = k2 c' (nI (k + 1)) ∧ TA c' (phs T k) := by
  obtain ⟨c', h1, e⟩ := lp (fun fu (s : A32) i => f_X9_joinWays_b10 k2 (nI k) fu s (nI i)) 7
    (fun i s => TA s (fun x y => if x < i then phs T k x y else T x y)) (fun s => k2 s (nI (k + 1))) (by
      intro fu i s hi hs
      let Ti : Tab := fun x y => if x < i then phs T k x y else T x y
      have hkk : ∀ y, Ti k y = T k y := fun y => by
        show (if k < i then phs T k k y else T k y) = T k y
        split
        · unfold phs
          rw [h0, adO_zero, mnO_self]
        · rfl
      have hii : ∀ y, Ti i y = T i y := fun y => if_neg (Nat.lt_irrefl i)
      obtain ⟨c', e1, e2⟩ := row_e (T := Ti) hs hk hi (by rw [hkk]; exact h0) (fun x y z q => by
        have q : (if x < i then phs T k x y else T x y) = some z := q
        split at q
        · rcases phs_c q with r | ⟨a, b, r1, r2, r3⟩
          · have := hb _ _ _ r; omega
          · have := hb _ _ _ r1; have := hb _ _ _ r2; omega
        · have := hb _ _ _ q; omega) k2 (f_X9_joinWays_b10 k2 (nI k) fu)
      have hbt := btw_e hs hi hk
      refine ⟨c', fun x y hx hy => ?_, ?_⟩
      · rw [e2 x y hx hy]
        try dsimp only
        by_cases q : x = i
        · subst q
          rw [if_pos rfl, if_pos (Nat.lt_succ_self x), hii, hii, hkk]
          rfl
        · rw [if_neg q]
          show hI (if x < i then phs T k x y else T x y) = _
          by_cases q2 : x < i
          · rw [if_pos q2, if_pos (by omega)]
          · rw [if_neg q2, if_neg (by omega)]
      · simp (disch := omega) only [f_X9_joinWays_b10, le7F, if_false, hbt, bnd_e]
        exact e1) (by
      intro fu s _
      simp (disch := omega) only [f_X9_joinWays_b10, le7T, if_true, nam_e, nI_1]) (i := 0) (k := 7) (fu := FU) (s := c) rfl (FU_lt (by decide)) (fun x y hx hy => by
        try dsimp only
        rw [if_neg (Nat.not_lt_zero x)]
        exact h x y hx hy)
  refine ⟨c', e, fun x y hx hy => ?_⟩
  rw [h1 x y hx hy]
  try dsimp only
  rw [if_pos hx]
theorem join_e {c : A32} {T : Tab} (h : TA c T) (h0 : ∀ u, u < 7 → T u u = some 0) (hb : ∀ x y z, T x y = some z → z ≤ 9) : ∃ c', f_X9_joinWays c = some c' ∧ TA c' (fw T 7) := by
  have p7 : ∀ n, n < 7 → 2 ^ n ≤ 64 := by decide
  obtain ⟨c', h1, e⟩ := lp (fun fu (s : A32) i => f_X9_joinWays_b2 fu s (nI i)) 7 (fun i s => TA s (fw T i)) (fun s => some s) (by
      intro fu i s hi hs
      obtain ⟨c', e1, e2⟩ := phs_e hs hi (fw_0 h0 i i hi) (fun x y z q => by
        have b1 := fw_bound hb i x y z q
        have b2 := p7 i hi
        omega) (f_X9_joinWays_b2 fu)
      refine ⟨c', e2, ?_⟩
      simp (disch := omega) only [f_X9_joinWays_b2, le7F, if_false]
      exact e1) (by
      intro fu s _
      simp (disch := omega) only [f_X9_joinWays_b2, le7T, if_true]) (i := 0) (k := 7) (fu := FU) (s := c) rfl (FU_lt (by decide)) h
  exact ⟨c', e, h1⟩
theorem clear_e (c : A32) : ∃ c', f_X9_clear c = some c' ∧ TA c' (fun u v => if u = v then some 0 else none) := by
  obtain ⟨c1, e1, h1⟩ := fill_e (n := 49) (by decide) c (-1)
  unfold f_X9_clear
  rw [e1, bnd_e]
  obtain ⟨c', h2, e⟩ := lp (fun fu (s : A32) i => f_X9_clear_b10 fu s (nI i)) 7 (fun i s => TA s (fun u v => if u = v ∧ u < i then some 0 else none)) (fun s => some s) (by
      intro fu i s hi hs
      refine ⟨upd s (i * 7 + i) (hI (some 0)), hs.put hi hi (if_pos ⟨rfl, by omega⟩) (fun x y hx hy q => ?_), ?_⟩
      · by_cases q2 : x = y ∧ x < i
        · rw [if_pos q2, if_pos ⟨q2.1, by omega⟩]
        · rw [if_neg q2, if_neg (fun q3 => by omega)]
      · simp (disch := omega) only [f_X9_clear_b10, le7F, if_false, ix7, set_e, bnd_e, nam_e, nI_1]
        rfl) (by
      intro fu s _
      simp (disch := omega) only [f_X9_clear_b10, le7T, if_true]) (i := 0) (k := 7) (fu := FU) (s := c1) rfl (FU_lt (by decide)) (fun x y hx hy => by
        try dsimp only
        rw [if_neg (fun q => by omega)]
        exact h1 _ (by omega))
  refine ⟨c', e, fun x y hx hy => ?_⟩
  rw [h2 x y hx hy]
  try dsimp only
  by_cases q : x = y
  · rw [if_pos ⟨q, hx⟩, if_pos q]
  · rw [if_neg (fun q2 => q q2.1), if_neg q]
/-- an edge of the air -/
def Ed (G : Nat) (one two len : Nat → Nat) (fl : Nat → Option Nat) (w v l : Nat) : Prop := ∃ g, g < G ∧ fl g = some v ∧ (if one g = v then two g else one g) = w ∧ len g = l
/-- the smoke's table as the class holds it -/
def SO (c : A32) (G : Nat) (one two len : Nat → Nat) (fl : Nat → Option Nat) : Prop := ∃ F : Tab, (∀ u, u < 7 → Lst (Ed G one two len fl) u (F u)) ∧ TA c F
section SMK
variable {cg cdoors cshafts : Int32} {cone ctwo clen cdr : A32} {G : Nat} {one two len dr : Nat → Nat} {dor : Nat → Bool} {fl : Nat → Option Nat}
theorem ed_ok (hw : WF G one two len dr) (hfl : ∀ g x, g < G → fl g = some x → one g = x ∨ two g = x) : ∀ u v l, Ed G one two len fl u v l → u < 7 ∧ v < 7 ∧ 1 ≤ l ∧ l ≤ 9 ∧ u ≠ v := by
  rintro u v l ⟨g, a1, a2, a3, a4⟩
  obtain ⟨w1, w2, w3, w4, w5⟩ := hw.2.1 g a1
  rcases hfl g v a1 a2 with q | q
  · rw [if_pos q] at a3
    omega
  · rw [if_neg (by omega)] at a3
    omega
theorem oth_e (hM : MA cg cdoors cshafts cone ctwo clen cdr G one two len dor dr) (hw : WF G one two len dr) {g k : Nat} (hg : g < G) (hk : k < 7) : f_X5_otherEnd cone ctwo (nI g) (nI k) = some (nI (if one g = k then two g else one g)) := by
  obtain ⟨m1, m2, m3, m4⟩ := hM.2.1 g hg
  obtain ⟨w1, w2, w3, -, -⟩ := hw.2.1 g hg
  have hG := hw.1
  unfold f_X5_otherEnd
  rw [get_e cone (by omega) (by decide), get_e ctwo (by omega) (by decide), bnd_e, bnd_e, bnd_e, m1, m2, iteE (by omega) (by omega)]
  split <;> rfl
theorem carry_e (hM : MA cg cdoors cshafts cone ctwo clen cdr G one two len dor dr) (hw : WF G one two len dr) (hfl : ∀ g x, g < G → fl g = some x → one g = x ∨ two g = x) {ci : A32} (hci : ∀ g, g < G → ci g = hI (fl g)) (c0 : A32) :
    ∃ c, f_X0_carrySmoke ci cg cone ctwo clen c0 = some c ∧ SO c G one two len fl := by
  have hG := hw.1
  have e0 := hM.1
  obtain ⟨c1, e1, h1⟩ := clear_e c0
  unfold f_X0_carrySmoke
  rw [e1, bnd_e]
  have init : ∃ T : Tab, TA c1 T ∧ (∀ u, u < 7 → T u u = some 0) ∧ (∀ u v l, u < 7 → v < 7 → u ≠ v → T u v = some l → ∃ g, g < 0 ∧ fl g = some v ∧ (if one g = v then two g else one g) = u ∧ len g = l) ∧ (∀ g v, g < 0 → fl g = some v → ∃ c, T (if one g = v then two g else one g) v = some c ∧ c ≤ len g) ∧ ∀ x y z, T x y = some z → z ≤ 9 := by
    refine ⟨fun u v => if u = v then some 0 else none, h1, ?_, ?_, ?_, ?_⟩
    · intro u _
      simp
    · intro u v l _ _ hne hT
      simp [hne] at hT
    · intro g v hg _
      exact absurd hg (Nat.not_lt_zero g)
    · intro x y z hz
      by_cases q : x = y
      · simp [q] at hz
        omega
      · simp [q] at hz
  obtain ⟨c2, ⟨T, t1, t2, t3, t4, t5⟩, e⟩ := lp (fun fu (s : A32) i => f_X0_carrySmoke_b6 ci cg cone ctwo clen fu s (nI i)) G
    (fun i s => ∃ T : Tab, TA s T ∧ (∀ u, u < 7 → T u u = some 0) ∧ (∀ u v l, u < 7 → v < 7 → u ≠ v → T u v = some l → ∃ g, g < i ∧ fl g = some v ∧ (if one g = v then two g else one g) = u ∧ len g = l) ∧ (∀ g v, g < i → fl g = some v → ∃ c, T (if one g = v then two g else one g) v = some c ∧ c ≤ len g) ∧ ∀ x y z, T x y = some z → z ≤ 9)
    (fun s => f_X9_joinWays s) (by
      rintro fu i s hi ⟨T, t1, t2, t3, t4, t5⟩
      obtain ⟨m1, m2, m3, m4⟩ := hM.2.1 i hi
      obtain ⟨w1, w2, w3, w4, w5⟩ := hw.2.1 i hi
      have ec := hci i hi
      cases hf : fl i with
      | none =>
        rw [hf] at ec
        refine ⟨s, ⟨T, t1, t2, fun u v l hu hv hne hT => ?_, fun g v hg hv => ?_, t5⟩, ?_⟩
        · obtain ⟨g, a1, a2⟩ := t3 u v l hu hv hne hT
          exact ⟨g, by omega, a2⟩
        · rcases Nat.lt_or_ge g i with q | q
          · exact t4 g v q hv
          · have : g = i := by omega
            subst this
            rw [hf] at hv
            cases hv
        · simp (disch := omega) only [f_X0_carrySmoke_b6, f_X0_carrySmoke_b51, e0, leF, if_false, get_e, ec, bnd_e, hI, if_true, nam_e, nI_1]
      | some v =>
        rw [hf] at ec
        have hv := hfl i v hi hf
        have hv7 : v < 7 := by rcases hv with rfl | rfl <;> assumption
        have hu7 : (if one i = v then two i else one i) < 7 := by split <;> assumption
        have hne : (if one i = v then two i else one i) ≠ v := by
          by_cases q : one i = v
          · rw [if_pos q]; omega
          · rw [if_neg q]; exact q
        have hoth := oth_e hM hw hi hv7
        generalize hu : (if one i = v then two i else one i) = u at *
        have hmn : ∀ z, mnO (T u v) (some (len i)) = some z → T u v = some z ∨ z = len i := fun z hz => (mnO_c hz).imp id (fun q => by cases q; rfl)
        obtain ⟨c', l1, l2⟩ := link_e (T' := fun x y => if x = u ∧ y = v then mnO (T x y) (some (len i)) else T x y) (l := len i) t1 hu7 hv7 (fun x q => by have := t5 _ _ _ q; omega) (by omega) (if_pos ⟨rfl, rfl⟩) (fun x y hx hy q => if_neg q)
        refine ⟨c', ⟨_, l2, fun x hx => ?_, fun x y l hx hy hxy hT => ?_, fun g y hg hy => ?_, fun x y z hz => ?_⟩, ?_⟩
        · rw [if_neg (fun q => hne (q.1.symm.trans q.2))]
          exact t2 x hx
        · by_cases q : x = u ∧ y = v
          · obtain ⟨rfl, rfl⟩ := q
            rw [if_pos ⟨rfl, rfl⟩] at hT
            rcases hmn l hT with r | r
            · obtain ⟨g, a1, a2⟩ := t3 _ _ l hx hy hxy r
              exact ⟨g, by omega, a2⟩
            · exact ⟨i, by omega, hf, hu, r.symm⟩
          · rw [if_neg q] at hT
            obtain ⟨g, a1, a2⟩ := t3 _ _ l hx hy hxy hT
            exact ⟨g, by omega, a2⟩
        · rcases Nat.lt_or_ge g i with q | q
          · obtain ⟨c, b1, b2⟩ := t4 g y q hy
            by_cases r : (if one g = y then two g else one g) = u ∧ y = v
            · rw [if_pos r]
              obtain ⟨c'', b3, b4⟩ := mnO_l (y := some (len i)) b1
              exact ⟨c'', b3, by omega⟩
            · rw [if_neg r]
              exact ⟨c, b1, b2⟩
          · have : g = i := by omega
            subst this
            rw [hf] at hy
            cases hy
            rw [hu, if_pos ⟨rfl, rfl⟩]
            exact mnO_r rfl
        · by_cases q : x = u ∧ y = v
          · obtain ⟨rfl, rfl⟩ := q
            rw [if_pos ⟨rfl, rfl⟩] at hz
            rcases hmn z hz with r | r
            · exact t5 _ _ _ r
            · omega
          · rw [if_neg q] at hz
            exact t5 _ _ _ hz
        · have hn1 : (nI v = (-1 : Int32)) = False := nI_nm1 (by omega)
          simp (disch := omega) only [f_X0_carrySmoke_b6, f_X0_carrySmoke_b51, e0, leF, if_false, get_e, ec, bnd_e, hI, hn1, hoth, m3, l1, nam_e, nI_1]) (by
      intro fu s _
      simp (disch := omega) only [f_X0_carrySmoke_b6, e0, leT, if_true]
      cases f_X9_joinWays s <;> rfl) (i := 0) (k := G) (fu := FU) (s := c1) (by omega) (FU_lt (by omega))
    init
  rw [show f_X0_carrySmoke_b6 ci cg cone ctwo clen FU c1 0 = f_X0_carrySmoke_b6 ci cg cone ctwo clen FU c1 (nI 0) from rfl, e]
  obtain ⟨c3, e3, h3⟩ := join_e t1 t2 t5
  refine ⟨c3, e3, fw T 7, fun u hu => ?_, h3⟩
  have hed := ed_ok hw hfl
  refine fw_lst (Ed := Ed G one two len fl) t2 t3 ?_ (fun u v l q => ⟨(hed u v l q).1, (hed u v l q).2.1⟩) hu
  rintro a b l ⟨g, a1, a2, a3, a4⟩
  obtain ⟨c, b1, b2⟩ := t4 g b a1 a2
  rw [a3] at b1
  exact ⟨c, b1, by omega⟩
end SMK
end
section
/-! smoke by the minute -/
def cut (m : Nat) : Option Nat → Option Nat
  | some c => if c ≤ m then some c else none
  | none => none
theorem cut_s {m c : Nat} {o : Option Nat} : cut m o = some c ↔ o = some c ∧ c ≤ m := by
  cases o with
  | none => simp [cut]
  | some x =>
    simp only [cut]
    constructor
    · intro h
      split at h
      · cases h; exact ⟨rfl, by assumption⟩
      · cases h
    · rintro ⟨h, h2⟩
      cases h
      exact if_pos h2
theorem cut_n {m : Nat} {o : Option Nat} : cut m o = none ↔ ∀ c, o = some c → m < c := by
  cases o with
  | none => simp [cut]
  | some x =>
    simp only [cut]
    constructor
    · intro h c hc
      cases hc
      split at h
      · cases h
      · omega
    · intro h
      exact if_neg (by have := h x rfl; omega)
theorem cut_big {m c : Nat} {o : Option Nat} (h : cut m o = some c) : c ≤ m := (cut_s.mp h).2
section SIM
variable {d a : A32} {G : Nat} {one two len dr : Nat → Nat} {dor opn : Nat → Bool} {moon : Bool} {fl F : Nat → Option Nat}
theorem LA.at {c : A32} (hG : G ≤ 10) (h : LA c G fl) {g : Nat} (hg : g < G) : c g = hI (fl g) := by rw [h g (by omega), if_pos hg]
/-- what the row of minutes is, when galleries before i are seen in minute m -/
def WI (w : A32) (G : Nat) (one two len : Nat → Nat) (fl F : Nat → Option Nat) (m i : Nat) : Prop :=
  ∀ k, k < 7 → ((∃ g, g < i ∧ fl g = some k ∧ ∃ x, F (if one g = k then two g else one g) = some x ∧ x + len g = m) ∧ cut (m - 1) (F k) = none → w k = nI m) ∧ (¬ ((∃ g, g < i ∧ fl g = some k ∧ ∃ x, F (if one g = k then two g else one g) = some x ∧ x + len g = m) ∧ cut (m - 1) (F k) = none) → w k = hI (cut (m - 1) (F k)))
theorem sim_minute (hD : DA d G one two len dor opn moon dr) (hw : WF G one two len dr) (hfl : ∀ g x, g < G → fl g = some x → one g = x ∨ two g = x) (ha : LA a G fl) {fire : Nat} (hL : Lst (Ed G one two len fl) fire F)
    (k46 : A32 → Int32 → Option Int32) (cg cs : Int32) (c1 c2 ci cl : A32) {m : Nat} (hm : 1 ≤ m) (hm2 : m < 60) {w : A32} (hwm : ∀ k, k < 7 → w k = hI (cut (m - 1) (F k))) :
    ∃ w', (∀ k, k < 7 → w' k = hI (cut m (F k))) ∧ f_L_smoke_b56 k46 59 cg cs c1 c2 ci cl d a (nI fire) (nI m) FU w 0 = k46 w' (nI (m + 1)) := by
  have hG := hw.1
  have e0 := hD.1
  obtain ⟨w', h1, e⟩ := lp (fun fu (s : A32) i => f_L_smoke_b56 k46 59 cg cs c1 c2 ci cl d a (nI fire) (nI m) fu s (nI i)) G
    (fun i s => WI s G one two len fl F m i) (fun s => k46 s (nI (m + 1))) (by
      intro fu i s hi hs
      obtain ⟨e1, e2, e3, e4, e5⟩ := hD.2.2.1 i hi
      obtain ⟨w1, w2, w3, w4, w5⟩ := hw.2.1 i hi
      have ea := ha.at (by omega) hi
      -- nothing changes
      have same : (∀ v, fl i = some v → ¬ ((∃ x, F (if one i = v then two i else one i) = some x ∧ x + len i = m) ∧ cut (m - 1) (F v) = none)) → WI s G one two len fl F m (i + 1) := by
        intro hno k hk
        have hiff : ((∃ g, g < i + 1 ∧ fl g = some k ∧ ∃ x, F (if one g = k then two g else one g) = some x ∧ x + len g = m) ∧ cut (m - 1) (F k) = none) ↔ ((∃ g, g < i ∧ fl g = some k ∧ ∃ x, F (if one g = k then two g else one g) = some x ∧ x + len g = m) ∧ cut (m - 1) (F k) = none) := by
          constructor
          · rintro ⟨⟨g, a1, a2, a3⟩, a4⟩
            rcases Nat.lt_or_ge g i with q | q
            · exact ⟨⟨g, q, a2, a3⟩, a4⟩
            · have : g = i := by omega
              subst this
              exact absurd ⟨a3, a4⟩ (hno k a2)
          · rintro ⟨⟨g, a1, a2, a3⟩, a4⟩
            exact ⟨⟨g, by omega, a2, a3⟩, a4⟩
        rw [hiff]
        exact hs k hk
      cases hf : fl i with
      | none =>
        rw [hf] at ea
        refine ⟨s, same (fun v hv => by rw [hf] at hv; cases hv), ?_⟩
        simp (disch := omega) only [f_L_smoke_b56, f_L_smoke_b140, in0, if_true, cl0, e0, leF, if_false, inT, cl_e, ea, hI, m1_lt0, nam_e, nI_1]
      | some v =>
        rw [hf] at ea
        have hv := hfl i v hi hf
        have hv7 : v < 7 := by rcases hv with rfl | rfl <;> assumption
        have hu7 : (if one i = v then two i else one i) < 7 := by split <;> assumption
        have hoth := L_other_e hD hw hi hv7
        obtain ⟨p1, p2⟩ := hs v hv7
        obtain ⟨r1, r2⟩ := hs (if one i = v then two i else one i) hu7
        have hother : ∀ P : Prop, P ∨ ¬ P := Classical.em
        -- up to b96
        have head : (∀ c, cut (m - 1) (F v) = some c → f_L_smoke_b56 k46 59 cg cs c1 c2 ci cl d a (nI fire) (nI m) (fu + 1) s (nI i) = f_L_smoke_b56 k46 59 cg cs c1 c2 ci cl d a (nI fire) (nI m) fu s (nI (i + 1))) := by
          intro c hc
          have hcb := cut_big hc
          have hsv : s v = nI c := by
            rw [p2 (fun q => by rw [hc] at q; cases q.2), hc]; rfl
          simp (disch := omega) only [f_L_smoke_b56, f_L_smoke_b140, in0, if_true, cl0, e0, leF, if_false, inT, cl_e, ea, hI, lt0F, hsv, nam_e, nI_1]
        have head2 : cut (m - 1) (F v) = none → f_L_smoke_b56 k46 59 cg cs c1 c2 ci cl d a (nI fire) (nI m) (fu + 1) s (nI i) = f_L_smoke_b96 k46 (f_L_smoke_b56 k46 59 cg cs c1 c2 ci cl d a (nI fire) (nI m) fu) 59 cg cs c1 c2 ci cl d a s (nI fire) (nI m) (nI i) := by
          intro hc
          rcases hother ((∃ g, g < i ∧ fl g = some v ∧ ∃ x, F (if one g = v then two g else one g) = some x ∧ x + len g = m) ∧ cut (m - 1) (F v) = none) with q | q
          · have hsv := p1 q
            simp (disch := omega) only [f_L_smoke_b56, in0, if_true, cl0, e0, leF, leT, if_false, inT, cl_e, ea, hI, lt0F, hsv]
          · have hsv : s v = -1 := by rw [p2 q, hc]; rfl
            simp (disch := omega) only [f_L_smoke_b56, in0, if_true, cl0, e0, leF, if_false, inT, cl_e, ea, hI, lt0F, hsv, m1_lt0]
        cases hc : cut (m - 1) (F v) with
        | some c =>
          refine ⟨s, same (fun v' hv' => by
            rw [hf] at hv'
            cases hv'
            rintro ⟨-, q⟩
            rw [hc] at q
            cases q), head c hc⟩
        | none =>
          -- the other end
          generalize hu : (if one i = v then two i else one i) = u at *
          rcases hother (∃ x, F u = some x ∧ x + len i = m) with ⟨x, hx1, hx2⟩ | hno
          · -- it comes
            have hcu : cut (m - 1) (F u) = some x := cut_s.mpr ⟨hx1, by omega⟩
            have hsu : s u = nI x := by
              rw [r2 (fun q => by rw [hcu] at q; cases q.2), hcu]; rfl
            refine ⟨upd s v (nI m), ?_, ?_⟩
            · intro k hk
              rw [upd_e]
              by_cases q : k = v
              · subst q
                rw [if_pos rfl]
                exact ⟨fun _ => rfl, fun q => absurd ⟨⟨i, by omega, hf, x, by rw [hu]; exact hx1, hx2⟩, hc⟩ q⟩
              · rw [if_neg q]
                obtain ⟨b1, b2⟩ := hs k hk
                refine ⟨fun q2 => b1 ?_, fun q2 => b2 (fun q3 => q2 ?_)⟩
                · obtain ⟨⟨g, a1, a2, a3⟩, a4⟩ := q2
                  refine ⟨⟨g, ?_, a2, a3⟩, a4⟩
                  rcases Nat.lt_or_ge g i with r | r
                  · exact r
                  · have : g = i := by omega
                    subst this
                    rw [hf] at a2
                    cases a2
                    exact absurd rfl q
                · obtain ⟨⟨g, a1, a2, a3⟩, a4⟩ := q3
                  exact ⟨⟨g, by omega, a2, a3⟩, a4⟩
            · try dsimp only
              rw [head2 hc]
              simp (disch := omega) only [f_L_smoke_b96, f_L_smoke_b140, inT, if_true, ea, hI, hoth, bnd_e, cl_e, hsu, nam_e, lt0F, if_false, ad21, e3, nI_add, eqT, nI_1]
          · refine ⟨s, same (fun v' hv' => by
              rw [hf] at hv'
              cases hv'
              rintro ⟨q, -⟩
              rw [hu] at q
              exact hno q), ?_⟩
            try dsimp only
            rw [head2 hc]
            rcases hother ((∃ g, g < i ∧ fl g = some u ∧ ∃ x, F (if one g = u then two g else one g) = some x ∧ x + len g = m) ∧ cut (m - 1) (F u) = none) with q | q
            · have hsu := r1 q
              simp (disch := omega) only [f_L_smoke_b96, f_L_smoke_b140, inT, if_true, ea, hI, hoth, bnd_e, cl_e, hsu, nam_e, lt0F, if_false, ad21, e3, nI_add, eqF, nI_1]
            · have hsu := r2 q
              cases hcu : cut (m - 1) (F u) with
              | none =>
                rw [hcu] at hsu
                simp (disch := omega) only [f_L_smoke_b96, f_L_smoke_b140, inT, if_true, ea, hI, hoth, bnd_e, cl_e, hsu, nam_e, m1_lt0, nI_1]
              | some x =>
                rw [hcu] at hsu
                have hcs := cut_s.mp hcu
                have hne : x + len i ≠ m := fun q => hno ⟨x, hcs.1, q⟩
                simp (disch := omega) only [f_L_smoke_b96, f_L_smoke_b140, inT, if_true, ea, hI, hoth, bnd_e, cl_e, hsu, nam_e, lt0F, if_false, ad21, e3, nI_add, eqF, nI_1]) (by
      intro fu s _
      simp (disch := omega) only [f_L_smoke_b56, in0, if_true, cl0, e0, leT, nam_e, nI_1]) (i := 0) (k := G) (fu := FU) (s := w) (by omega) (FU_lt (by omega)) (fun k hk => ⟨fun q => by
        obtain ⟨⟨g, a1, -⟩, -⟩ := q
        exact absurd a1 (Nat.not_lt_zero g), fun _ => hwm k hk⟩)
  refine ⟨w', fun k hk => ?_, e⟩
  obtain ⟨b1, b2⟩ := h1 k hk
  by_cases hF : F k = some m
  · rw [cut_s.mpr ⟨hF, Nat.le_refl m⟩]
    refine b1 ⟨?_, ?_⟩
    · have hkf : k ≠ fire := fun q => by
        subst q
        rw [hL.1] at hF
        cases hF
        omega
      obtain ⟨x, l, y, ⟨g, a1, a2, a3, a4⟩, a5, a6⟩ := hL.2.2 k m hk hkf hF
      exact ⟨g, a1, a2, y, by rw [a3]; exact a5, by omega⟩
    · refine cut_n.mpr (fun c hc => ?_)
      rw [hF] at hc
      cases hc
      omega
  · have hcc : cut m (F k) = cut (m - 1) (F k) := by
      cases hFk : F k with
      | none => rfl
      | some c =>
        have : c ≠ m := fun q => hF (by rw [hFk, q])
        simp only [cut]
        by_cases q : c ≤ m
        · rw [if_pos q, if_pos (by omega)]
        · rw [if_neg q, if_neg (by omega)]
    rw [hcc]
    refine b2 ?_
    rintro ⟨⟨g, a1, a2, x, a3, a4⟩, a5⟩
    obtain ⟨c, c1', c2'⟩ := hL.2.1 _ k (len g) x ⟨g, a1, a2, rfl, rfl⟩ a3
    have := cut_n.mp a5 c c1'
    have : c = m := by omega
    exact hF (by rw [c1', this])
theorem le60T {i : Nat} (h : 60 ≤ i) (hi : i < 2 ^ 31) : ((60 : Int32) ≤ nI i) = True := leT h hi
theorem le60F {i : Nat} (h : i < 60) : ((60 : Int32) ≤ nI i) = False := leF h (by decide)
/-- all minutes: the least lengths themselves -/
theorem sim_all (hD : DA d G one two len dor opn moon dr) (hw : WF G one two len dr) (hfl : ∀ g x, g < G → fl g = some x → one g = x ∨ two g = x) (ha : LA a G fl) {fire : Nat} (hfi : fire < 7) (hL : Lst (Ed G one two len fl) fire F) (cg cs : Int32) (c1 c2 ci cl : A32) :
    ∃ w, (∀ k, k < 7 → w k = hI (F k)) ∧ f_L_smoke_b14 59 cg cs c1 c2 ci cl d a (nI fire) FU (fun _ => 0) 0 = f_L_smoke_b155 59 cg cs c1 c2 ci cl d a w (nI fire) FU 0 := by
  have hed := ed_ok (len := len) hw hfl
  have hpos : ∀ k c, k < 7 → k ≠ fire → F k = some c → 0 < c := by
    intro k c hk hne hF
    obtain ⟨x, l, y, b1, b2, b3⟩ := hL.2.2 k c hk hne hF
    have := hed _ _ _ b1
    omega
  obtain ⟨w0, h0, e1⟩ := lp (fun fu (s : A32) i => f_L_smoke_b14 59 cg cs c1 c2 ci cl d a (nI fire) fu s (nI i)) 7
    (fun i s => ∀ k, k < i → s k = if k = fire then 0 else -1) (fun s => f_L_smoke_b46 59 cg cs c1 c2 ci cl d a (nI fire) FU s 1) (by
      intro fu i s hi hs
      refine ⟨upd s i (if i = fire then 0 else -1), fun k hk => ?_, ?_⟩
      · rw [upd_e]
        by_cases q : k = i
        · subst q; rw [if_pos rfl]
        · rw [if_neg q]; exact hs k (by omega)
      · by_cases q : i = fire
        · simp (disch := omega) only [f_L_smoke_b14, f_L_smoke_b36, le7F, if_false, eqT, if_true, inT, nam_e, cl_e, nI_1, q]
        · simp (disch := omega) only [f_L_smoke_b14, f_L_smoke_b36, le7F, if_false, eqF, inT, if_true, nam_e, cl_e, nI_1, q]) (by
      intro fu s _
      simp (disch := omega) only [f_L_smoke_b14, le7T, if_true]) (i := 0) (k := 7) (fu := FU) (s := fun _ => 0) rfl (FU_lt (by decide)) (fun k h => absurd h (Nat.not_lt_zero k))
  rw [show f_L_smoke_b14 59 cg cs c1 c2 ci cl d a (nI fire) FU (fun _ => 0) 0 = f_L_smoke_b14 59 cg cs c1 c2 ci cl d a (nI fire) FU (fun _ => 0) (nI 0) from rfl, e1]
  obtain ⟨w, h1, e2⟩ := lp (fun fu (s : A32) i => f_L_smoke_b46 59 cg cs c1 c2 ci cl d a (nI fire) fu s (nI i)) 60
    (fun i s => 1 ≤ i ∧ ∀ k, k < 7 → s k = hI (cut (i - 1) (F k))) (fun s => f_L_smoke_b155 59 cg cs c1 c2 ci cl d a s (nI fire) FU 0) (by
      rintro fu i s hi ⟨hi1, hs⟩
      obtain ⟨w', g1, g2⟩ := sim_minute hD hw hfl ha hL (f_L_smoke_b46 59 cg cs c1 c2 ci cl d a (nI fire) fu) cg cs c1 c2 ci cl hi1 hi hs
      refine ⟨w', ⟨by omega, g1⟩, ?_⟩
      simp (disch := omega) only [f_L_smoke_b46, le60F, if_false]
      exact g2) (by
      intro fu s _
      simp (disch := omega) only [f_L_smoke_b46, le60T, if_true]) (i := 1) (k := 59) (fu := FU) (s := w0) rfl (FU_lt (by decide)) ⟨Nat.le_refl _, fun k hk => by
        rw [h0 k hk]
        by_cases q : k = fire
        · subst q
          rw [if_pos rfl, hL.1]
          rfl
        · rw [if_neg q]
          have : cut (1 - 1) (F k) = none := cut_n.mpr (fun c hc => hpos k c hk q hc)
          rw [this]
          rfl⟩
  refine ⟨w, fun k hk => ?_, e2⟩
  rw [h1.2 k hk]
  have : cut (60 - 1) (F k) = F k := by
    cases hF : F k with
    | none => rfl
    | some c =>
      have := lst_54 hfi (fun u v l q => ⟨(hed u v l q).1, (hed u v l q).2.1, (hed u v l q).2.2.1, (hed u v l q).2.2.2.1⟩) hL hk hF
      exact if_pos (by omega)
  rw [this]
end SIM
end
section
/-! ways out against the wind -/
def FI (fl : Nat → Option Nat) (G k : Nat) (o : Option Nat) : Prop :=
  (∀ g, o = some g → g < G ∧ fl g = some k ∧ ∀ g', g' < g → fl g' ≠ some k) ∧ (o = none → ∀ g, g < G → fl g ≠ some k)
theorem FI.one {fl : Nat → Option Nat} {G k : Nat} {o o' : Option Nat} (h : FI fl G k o) (h' : FI fl G k o') : o = o' := by
  cases o with
  | none =>
    cases o' with
    | none => rfl
    | some g => exact absurd (h'.1 g rfl).2.1 (h.2 rfl g (h'.1 g rfl).1)
  | some g =>
    obtain ⟨a1, a2, a3⟩ := h.1 g rfl
    cases o' with
    | none => exact absurd a2 (h'.2 rfl g a1)
    | some g' =>
      obtain ⟨b1, b2, b3⟩ := h'.1 g' rfl
      rcases Nat.lt_trichotomy g g' with q | q | q
      · exact absurd a2 (b3 g q)
      · rw [q]
      · exact absurd b2 (a3 g' q)
theorem flw_low {G : Nat} {one two len dr : Nat → Nat} {opn : Nat → Bool} {moon : Bool} (hw : WF G one two len dr) {g k : Nat} (hg : g < G) (h : flw G one two opn moon dr g = some k) :
    (one g = k ∨ two g = k) ∧ ∃ x y, hgt G one two opn moon dr k = some x ∧ hgt G one two opn moon dr (if one g = k then two g else one g) = some y ∧ x < y := by
  obtain ⟨w1, w2, w3, -, -⟩ := hw.2.1 g hg
  unfold flw at h
  split at h
  · cases h1 : hgt G one two opn moon dr (one g) with
    | none => rw [h1] at h; cases h
    | some x =>
      cases h2 : hgt G one two opn moon dr (two g) with
      | none => rw [h1, h2] at h; cases h
      | some y =>
        rw [h1, h2] at h
        simp only [lowr] at h
        split at h
        · cases h
        · split at h
          · cases h
            refine ⟨Or.inl rfl, x, y, h1, ?_, by assumption⟩
            rw [if_pos rfl]
            exact h2
          · cases h
            refine ⟨Or.inr rfl, y, x, h2, ?_, by omega⟩
            rw [if_neg w3]
            exact h1
  · cases h
section WAY
variable {d a : A32} {cg cdoors cshafts : Int32} {cone ctwo clen cdr ci cl w : A32} {G : Nat} {one two len dr : Nat → Nat} {dor opn : Nat → Bool} {moon : Bool} {fl : Nat → Option Nat}
theorem first_e (h0 : cg = nI G) (hG : G ≤ 10) (hci : ∀ g, g < G → ci g = hI (fl g)) (hfl : ∀ g x, g < G → fl g = some x → x < 7) {k : Nat} (hk : k < 7) : ∃ o, FI fl G k o ∧ f_X0_firstInto ci cg (nI k) = some (hI o) := by
  unfold f_X0_firstInto
  refine lpP (fun fu (s : Unit) i => f_X0_firstInto_b2 ci cg (nI k) fu (nI i)) G (fun i s => ∀ g, g < i → fl g ≠ some k) (fun r => ∃ o, FI fl G k o ∧ r = some (hI o)) ?_ ?_ G 0 () FU (by omega) (FU_lt (by omega)) (fun g h => absurd h (Nat.not_lt_zero g))
  · intro fu i s hi hs
    have ec := hci i hi
    have hb : ∀ x, fl i = some x → x < 2 ^ 30 := fun x h => by have := hfl i x hi h; omega
    have hu : f_X0_firstInto_b2 ci cg (nI k) (fu + 1) (nI i) = if hI (fl i) = nI k then some (nI i) else f_X0_firstInto_b2 ci cg (nI k) fu (nI (i + 1)) := by
      simp (disch := omega) only [f_X0_firstInto_b2, h0, leF, if_false, get_e, bnd_e, ec, nam_e, nI_1]
    have hd : hI (fl i) = nI k ↔ fl i = some k := by
      rw [show nI k = hI (some k) from rfl]
      exact hI_inj hb (fun x h => by cases h; omega)
    try dsimp only
    rw [hu]
    by_cases q : fl i = some k
    · refine Or.inr ⟨some i, ⟨fun g hg => ?_, fun h => by cases h⟩, ?_⟩
      · cases hg
        exact ⟨hi, q, hs⟩
      · rw [if_pos (hd.mpr q)]
        rfl
    · refine Or.inl ⟨(), fun g hg => ?_, ?_⟩
      · rcases Nat.lt_or_ge g i with r | r
        · exact hs g r
        · have : g = i := by omega
          subst this
          exact q
      · rw [if_neg (fun r => q (hd.mp r))]
  · intro fu s hs
    refine ⟨none, ⟨fun g h => (by cases h), fun _ => hs⟩, ?_⟩
    simp (disch := omega) only [f_X0_firstInto_b2, h0, leT, if_true, hI]
def oe (one two : Nat → Nat) (k : Nat) : Option Nat → Int32
  | none => -1
  | some g => nI (if one g = k then two g else one g)
theorem down_e (hD : DA d G one two len dor opn moon dr) (hw : WF G one two len dr) (ha : LA a G fl) (hfl : ∀ g x, g < G → fl g = some x → x < 7) {k : Nat} (hk : k < 7) (k155 : Int32 → Option Int32) (k186 : Int32 → Int32 → Option Int32) (cg cs : Int32) (c1 c2 ci cl w : A32) (v2 v5 : Int32) (j : Nat) :
    ∃ o, FI fl G k o ∧ f_L_smoke_b211 k155 k186 59 cg cs c1 c2 ci cl d a w v2 v5 (nI k) (nI j) FU (-1) (dI G) = k186 (oe one two k o) (nI (j + 1)) := by
  have hG := hw.1
  have key : ∀ i, i ≤ G → ∀ fu o, i < fu → ((∀ g, o = some g → i ≤ g ∧ g < G ∧ fl g = some k ∧ ∀ g', i ≤ g' → g' < g → fl g' ≠ some k) ∧ (o = none → ∀ g, i ≤ g → g < G → fl g ≠ some k)) →
      ∃ o', FI fl G k o' ∧ f_L_smoke_b211 k155 k186 59 cg cs c1 c2 ci cl d a w v2 v5 (nI k) (nI j) fu (oe one two k o) (dI i) = k186 (oe one two k o') (nI (j + 1)) := by
    intro i
    induction i with
    | zero =>
      intro _ fu o hfu ho
      obtain ⟨fu, rfl⟩ : ∃ q, fu = q + 1 := ⟨fu - 1, by omega⟩
      refine ⟨o, ⟨fun g hg => ?_, fun h g hg => ho.2 h g (Nat.zero_le _) hg⟩, ?_⟩
      · obtain ⟨-, b1, b2, b3⟩ := ho.1 g hg
        exact ⟨b1, b2, fun g' h => b3 g' (Nat.zero_le _) h⟩
      · rw [show dI 0 = -1 from rfl]
        simp (disch := omega) only [f_L_smoke_b211, m1_lt0, if_true, nam_e, nI_1]
    | succ i ih =>
      intro hi fu o hfu ho
      obtain ⟨fu, rfl⟩ : ∃ q, fu = q + 1 := ⟨fu - 1, by omega⟩
      have ea := ha.at (by omega) (show i < G by omega)
      have hdec : nI i + -1 = dI i := by
        cases i with
        | zero => rfl
        | succ i => rw [pk_m1, dI, if_neg (by omega)]; rfl
      have hb : ∀ x, fl i = some x → x < 2 ^ 30 := fun x h => by have := hfl i x (by omega) h; omega
      have hd : hI (fl i) = nI k ↔ fl i = some k := by
        rw [show nI k = hI (some k) from rfl]
        exact hI_inj hb (fun x h => by cases h; omega)
      rw [show dI (i + 1) = nI i from rfl]
      by_cases q : fl i = some k
      · have hq : (hI (fl i) = nI k) = True := eq_true (hd.mpr q)
        obtain ⟨o', h1, h2⟩ := ih (by omega) fu (some i) (by omega) ⟨fun g hg => by
          cases hg
          exact ⟨Nat.le_refl _, by omega, q, fun g' h1 h2 => by omega⟩, fun h => by cases h⟩
        refine ⟨o', h1, ?_⟩
        rw [← h2]
        simp (disch := omega) only [f_L_smoke_b211, f_L_smoke_b235, lt0F, if_false, inT, if_true, cl_e, ea, hq, L_other_e hD hw (show i < G by omega) hk, bnd_e, nam_e, hdec, oe]
      · have hq : (hI (fl i) = nI k) = False := eq_false (fun r => q (hd.mp r))
        obtain ⟨o', h1, h2⟩ := ih (by omega) fu o (by omega) ⟨fun g hg => by
          obtain ⟨b0, b1, b2, b3⟩ := ho.1 g hg
          refine ⟨by omega, b1, b2, fun g' c1 c2 => ?_⟩
          rcases Nat.lt_or_ge i g' with r | r
          · exact b3 g' r c2
          · have : g' = i := by omega
            subst this
            exact q, fun h g b1 b2 => by
          rcases Nat.lt_or_ge i g with r | r
          · exact ho.2 h g r b2
          · have : g = i := by omega
            subst this
            exact q⟩
        refine ⟨o', h1, ?_⟩
        rw [← h2]
        simp (disch := omega) only [f_L_smoke_b211, f_L_smoke_b235, lt0F, if_false, inT, if_true, cl_e, ea, hq, nam_e, hdec]
  exact key G (Nat.le_refl _) FU none (FU_lt (by omega)) ⟨fun g h => (by cases h), fun _ g h1 h2 => absurd h1 (by omega)⟩
noncomputable def mu (G : Nat) (one two : Nat → Nat) (opn : Nat → Bool) (moon : Bool) (dr : Nat → Nat) (k : Nat) : Nat :=
  fb_ct (fun q => dcd (∃ x y, hgt G one two opn moon dr k = some x ∧ hgt G one two opn moon dr q = some y ∧ x < y)) 7
theorem mu_lt {k u x y : Nat} (hu : u < 7) (h1 : hgt G one two opn moon dr k = some x) (h2 : hgt G one two opn moon dr u = some y) (h3 : x < y) : mu G one two opn moon dr u < mu G one two opn moon dr k := by
  unfold mu
  refine fb_ct_lt (k := u) (fun j hj hp => ?_) hu (dcd_t.mpr ⟨x, y, h1, h2, h3⟩) (dcd_f.mpr ?_)
  · obtain ⟨z, t, b1, b2, b3⟩ := dcd_t.mp hp
    rw [h2] at b1
    cases b1
    exact dcd_t.mpr ⟨x, t, h1, b2, by omega⟩
  · rintro ⟨z, t, b1, b2, b3⟩
    rw [b1] at b2
    cases b2
    omega
theorem isS_e (hM : MA cg cdoors cshafts cone ctwo clen cdr G one two len dor dr) {k : Nat} (hk : k < 7) : f_X5_isShaft cshafts (nI k) = some (b2i (sft dr k)) := by
  unfold f_X5_isShaft
  rw [fbit_e _ (by omega), bnd_e, hM.2.2.2 k (by omega), decide_eq_true hk, Bool.true_and]
  cases sft dr k <;> rfl
theorem way_e (hM : MA cg cdoors cshafts cone ctwo clen cdr G one two len dor dr) (hD : DA d G one two len dor opn moon dr) (hw : WF G one two len dr) (ha : LA a G (flw G one two opn moon dr)) (hci : ∀ g, g < G → ci g = hI (flw G one two opn moon dr g)) (k155 : Int32 → Option Int32) (v2 v5 : Int32) {k : Nat} (hk : k < 7) :
    ∃ r v6 v7, f_X10_wayOut_b27 cg cshafts cone ctwo ci FU (nI k) 0 = some r ∧ f_L_smoke_b186 k155 59 cg cshafts cone ctwo ci cl d a w v2 v5 FU (nI k) 0 = f_L_smoke_b251 k155 59 cg cshafts cone ctwo ci cl d a w v2 v5 v6 v7 ∧ (if (0 : Int32) ≤ v6 then v7 else -1) = r := by
  have hG := hw.1
  have hfl : ∀ g x, g < G → flw G one two opn moon dr g = some x → x < 7 := fun g x hg h => flw_lt hw hg h
  have key : ∀ n, ∀ at' j fu fu', at' < 7 → mu G one two opn moon dr at' ≤ n → n + j ≤ 6 → n + 2 < fu → n + 2 < fu' → ∃ r v6 v7, f_X10_wayOut_b27 cg cshafts cone ctwo ci fu' (nI at') (nI j) = some r ∧ f_L_smoke_b186 k155 59 cg cshafts cone ctwo ci cl d a w v2 v5 fu (nI at') (nI j) = f_L_smoke_b251 k155 59 cg cshafts cone ctwo ci cl d a w v2 v5 v6 v7 ∧ (if (0 : Int32) ≤ v6 then v7 else -1) = r := by
    intro n
    induction n using Nat.strongRecOn with
    | _ n ih =>
      intro at' j fu fu' hat hmu hnj hfu hfu'
      obtain ⟨fu, rfl⟩ : ∃ q, fu = q + 2 := ⟨fu - 2, by omega⟩
      obtain ⟨fu', rfl⟩ : ∃ q, fu' = q + 2 := ⟨fu' - 2, by omega⟩
      have hiS := isS_e hM hat
      have e2 := hD.2.2.2 at' hat
      have hdr := hw.2.2.1 at' hat
      by_cases hs : 0 < dr at'
      · -- a shaft
        have hst : sft dr at' = true := decide_eq_true hs
        refine ⟨nI j, nI at', nI j, ?_, ?_, ?_⟩
        · simp (disch := omega) only [f_X10_wayOut_b27, le7F, if_false, hiS, hst, bnd_e, b2i_0, tfF]
        · simp (disch := omega) only [f_L_smoke_b186, lt0F, if_false, ad52, inT, if_true, cl_e, e2, eq0F]
        · rw [if_pos (nI_pos' (by omega))]
      · have hst : sft dr at' = false := decide_eq_false hs
        obtain ⟨o, ho, ef⟩ := first_e hM.1 (by omega) hci hfl hat
        obtain ⟨o', ho', ed⟩ := down_e hD hw ha hfl hat k155 (f_L_smoke_b186 k155 59 cg cshafts cone ctwo ci cl d a w v2 v5 (fu + 1)) cg cshafts cone ctwo ci cl w v2 v5 j
        have hoo := FI.one ho' ho
        subst hoo
        have elaw : f_L_smoke_b186 k155 59 cg cshafts cone ctwo ci cl d a w v2 v5 (fu + 2) (nI at') (nI j) = f_L_smoke_b186 k155 59 cg cshafts cone ctwo ci cl d a w v2 v5 (fu + 1) (oe one two at' o') (nI (j + 1)) := by
          rw [← ed]
          have hdG : nI G - 1 = dI G := by
            obtain ⟨m, rfl⟩ : ∃ m, G = m + 1 := ⟨G - 1, by omega⟩
            rw [nI_pred]
            rfl
          simp (disch := omega) only [f_L_smoke_b186, lt0F, if_false, ad52, inT, if_true, cl_e, e2, eq0T, in0, cl0, hD.1, hdG, nam_e]
        cases o' with
        | none =>
          refine ⟨-1, -1, nI (j + 1), ?_, ?_, ?_⟩
          · simp (disch := omega) only [f_X10_wayOut_b27, le7F, if_false, hiS, hst, bnd_e, b2i_0, if_true, ef, hI]
          · rw [elaw]
            simp (disch := omega) only [f_L_smoke_b186, oe, m1_lt0, if_true]
          · rw [if_neg (by decide)]
        | some g =>
          obtain ⟨b1, b2, b3⟩ := ho.1 g rfl
          obtain ⟨c1, x, y, c2, c3, c4⟩ := flw_low hw b1 b2
          obtain ⟨w1, w2, w3, -, -⟩ := hw.2.1 g b1
          have hu7 : (if one g = at' then two g else one g) < 7 := by split <;> assumption
          have hlt := mu_lt (G := G) (one := one) (two := two) (opn := opn) (moon := moon) (dr := dr) hu7 c2 c3 c4
          have ecl : f_X10_wayOut_b27 cg cshafts cone ctwo ci (fu' + 2) (nI at') (nI j) = f_X10_wayOut_b27 cg cshafts cone ctwo ci (fu' + 1) (nI (if one g = at' then two g else one g)) (nI (j + 1)) := by
            have hng : (nI g = (-1 : Int32)) = False := nI_nm1 (by omega)
            simp (disch := omega) only [f_X10_wayOut_b27, le7F, if_false, hiS, hst, bnd_e, b2i_0, if_true, ef, hI, hng, oth_e hM hw b1 hat, nam_e, nI_1]
          rw [ecl, elaw]
          exact ih (n - 1) (by omega) _ _ _ _ hu7 (by omega) (by omega) (by omega) (by omega)
  have hm6 : mu G one two opn moon dr k ≤ 6 := by
    have h1 : mu G one two opn moon dr k < 7 := by
      have hle : mu G one two opn moon dr k ≤ 7 := fb_ct_le _ 7
      refine Nat.lt_of_le_of_ne hle (fun e => ?_)
      have := fb_ct_all.mp e k hk
      obtain ⟨z, t, b1, b2, b3⟩ := dcd_t.mp this
      rw [b1] at b2
      cases b2
      omega
    omega
  exact key 6 k 0 FU FU hk hm6 (by omega) (FU_lt (by omega)) (FU_lt (by omega))
end WAY
end
section
/-! the law's smoke says true -/
theorem isRead_e {G : Nat} (h1 : 1 ≤ G) (h2 : G ≤ 10) : f_X5_isRead (nI G) = some 1 := by
  unfold f_X5_isRead
  rw [if_neg (nI_nle (by omega) (by omega))]
theorem isKnot_e {k : Nat} (h : k < 7) : f_X10_isKnot (nI k) = some 1 := by
  unfold f_X10_isKnot
  simp (disch := omega) only [lt0F, le7F, if_false]
theorem L_smoke_e {d : A32} {cg cdoors cshafts : Int32} {cone ctwo clen cdr ci csm ch : A32} {cbr : Int32} {G : Nat} {one two len dr : Nat → Nat} {dor opn : Nat → Bool} {moon : Bool}
    (hM : MA cg cdoors cshafts cone ctwo clen cdr G one two len dor dr) (hD : DA d G one two len dor opn moon dr) (hw : WF G one two len dr) (hA : AO cbr ch ci G one two opn moon dr) (hS : SO csm G one two len (flw G one two opn moon dr)) {fire : Nat} (hfi : fire < 7) :
    f_L_smoke 59 cg cshafts cone ctwo ci csm d (nI fire) = some 1 := by
  have hG := hw.1
  obtain ⟨a, ea, ha⟩ := L_air_e hD hw
  obtain ⟨F, hF, hT⟩ := hS
  have hci := hA.2.1
  have hfl : ∀ g x, g < G → flw G one two opn moon dr g = some x → one g = x ∨ two g = x := fun g x hg h => (flw_low hw hg h).1
  obtain ⟨w, hwk, e⟩ := sim_all hD hw hfl ha hfi (hF fire hfi) cg cshafts cone ctwo ci csm
  unfold f_L_smoke
  rw [ea, bnd_e, e]
  have one0 : ((1 : Int32) = 0) = False := eq_false (by decide)
  refine lpP (fun fu (s : Unit) i => f_L_smoke_b155 59 cg cshafts cone ctwo ci csm d a w (nI fire) fu (nI i)) 7 (fun i s => True) (fun r => r = some 1) ?_ ?_ 7 0 () FU rfl (FU_lt (by decide)) trivial
  · intro fu i s hi _
    refine Or.inl ⟨(), trivial, ?_⟩
    obtain ⟨r, v6, v7, w1, w2, w3⟩ := way_e (cl := csm) (w := w) hM hD hw ha hci (f_L_smoke_b155 59 cg cshafts cone ctwo ci csm d a w (nI fire) fu) (nI fire) (nI i) hi
    have esm : f_X10_smelt cg csm (nI fire) (nI i) = some (hI (F fire i)) := by
      unfold f_X10_smelt
      rw [hM.1, isRead_e hG.1 hG.2, bnd_e, if_neg (by decide), isKnot_e hfi, bnd_e, if_neg (by decide), isKnot_e hi, bnd_e, if_neg (by decide), btw_e hT hfi hi, bnd_e]
    have ewo : f_X10_wayOut cg cshafts cone ctwo ci (nI i) = some r := by
      unfold f_X10_wayOut
      rw [hM.1, isRead_e hG.1 hG.2, bnd_e, if_neg (by decide), isKnot_e hi, bnd_e, if_neg (by decide), ← hM.1, w1]
    have e1 : f_L_smoke_b155 59 cg cshafts cone ctwo ci csm d a w (nI fire) (fu + 1) (nI i) = f_L_smoke_b186 (f_L_smoke_b155 59 cg cshafts cone ctwo ci csm d a w (nI fire) fu) 59 cg cshafts cone ctwo ci csm d a w (nI fire) (nI i) FU (nI i) 0 := by
      simp (disch := omega) only [f_L_smoke_b155, le7F, if_false, esm, bnd_e, inT, if_true, cl_e, hwk i hi]
    try dsimp only
    rw [e1, w2]
    unfold f_L_smoke_b251
    rw [ewo, bnd_e]
    unfold f_L_smoke_b268
    by_cases q : (0 : Int32) ≤ v6
    · rw [if_pos q] at w3
      rw [if_pos q, if_pos w3.symm, nam_e, nI_1]
    · rw [if_neg q] at w3
      rw [if_neg q, if_pos w3.symm, nam_e, nI_1]
  · intro fu s _
    simp (disch := omega) only [f_L_smoke_b155, le7T, if_true]
end
section
/-! a minute: the class's and the law's -/
def PA (p : A32) (gas kind place : Nat → Nat) (outx : Int32) (M T : Nat) : Prop :=
  (∀ k, k < 7 → p k = nI (gas k)) ∧ (∀ m, m < M → p (7 + m) = nI (kind m) ∧ p (13 + m) = nI (place m)) ∧ p 19 = outx ∧ p 20 = nI M ∧ p 21 = nI T
/-- men and gas are as they may be -/
def WM (gas kind place : Nat → Nat) (outx : Int32) (M T : Nat) : Prop :=
  M ≤ 6 ∧ (∀ k, k < 7 → gas k ≤ 9) ∧ (∀ m, m < M → kind m < 5 ∧ place m < 7) ∧ (∀ i, M ≤ i → i < 32 → bt outx i = false) ∧ T < 100000
def gas1 (br : Nat → Bool) (gas : Nat → Nat) (k : Nat) : Nat := if br k = true then 0 else if gas k + 1 < 9 then gas k + 1 else 9
def OutB (o o' : Int32) (gas kind place : Nat → Nat) (M : Nat) : Prop := ∀ i, i < 32 → bt o' i = (bt o i || (decide (i < M) && decide (brs (kind i) < gas (place i))))
theorem gas1_le {br : Nat → Bool} {gas : Nat → Nat} {k : Nat} : gas1 br gas k ≤ 9 := by
  unfold gas1
  split
  · omega
  · split <;> omega
theorem OutB.one {o o' o'' : Int32} {gas kind place : Nat → Nat} {M : Nat} (h : OutB o o' gas kind place M) (h' : OutB o o'' gas kind place M) : o' = o'' := b_ext (fun i hi => by rw [h i hi, h' i hi])
theorem brs_lt (k : Nat) : brs k ≤ 6 := by
  unfold brs
  split
  · omega
  · split
    · omega
    · split <;> omega
theorem bears_e {ck : A32} {kind : Nat → Nat} {M m : Nat} (hM : M ≤ 6) (hk : ∀ m, m < M → ck m = nI (kind m)) (h5 : ∀ m, m < M → kind m < 5) (hm : m < M) : f_X1_bears ck (nI m) = some (nI (brs (kind m))) := by
  unfold f_X1_bears
  rw [get_e ck (by omega) (by decide), bnd_e, hk m hm]
  have := h5 m hm
  rcases (show kind m = 0 ∨ kind m = 1 ∨ kind m = 2 ∨ kind m = 3 ∨ kind m = 4 by omega) with h | h | h | h | h <;> rw [h] <;> rfl
theorem pass_e {out br : Int32} {cgas cplace ckinds : A32} {gas kind place : Nat → Nat} {M T : Nat} {b : Nat → Bool} (hW : WM gas kind place out M T) (hg : ∀ k, k < 7 → cgas k = nI (gas k)) (hk : ∀ m, m < M → ckinds m = nI (kind m)) (hp : ∀ m, m < M → cplace m = nI (place m)) (hb : ∀ k, k < 7 → bt br k = b k) :
    ∃ out' cgas', f_X3_passMinute out (nI T) cgas cplace (nI M) ckinds br = some (out', nI (T + 1), cgas') ∧ (∀ k, k < 7 → cgas' k = nI (gas1 b gas k)) ∧ OutB out out' (gas1 b gas) kind place M := by
  obtain ⟨hM6, hg9, hkp, hob, hT⟩ := hW
  have one0 : ((1 : Int32) = 0) = False := eq_false (by decide)
  have zero1 : ((0 : Int32) = 1) = False := eq_false (by decide)
  obtain ⟨c1, ⟨h1, -⟩, e1⟩ := lp (fun fu (s : A32) i => f_X3_passMinute_b2 out (nI T) cplace (nI M) ckinds br fu s (nI i)) 7
    (fun i s => (∀ k, k < i → s k = nI (gas1 b gas k)) ∧ ∀ k, i ≤ k → k < 7 → s k = nI (gas k))
    (fun s => f_X3_passMinute_b64 (nI T) s cplace (nI M) ckinds FU out 0) (by
      rintro fu i s hi ⟨hs1, hs2⟩
      have hsi := hs2 i (Nat.le_refl _) hi
      have hg := hg9 i hi
      refine ⟨upd s i (nI (gas1 b gas i)), ⟨fun k hk => ?_, fun k hk hk7 => ?_⟩, ?_⟩
      · rw [upd_e]
        by_cases q : k = i
        · subst q; rw [if_pos rfl]
        · rw [if_neg q]; exact hs1 k (by omega)
      · rw [upd_e, if_neg (by omega)]
        exact hs2 k (by omega) hk7
      · cases hbi : b i
        · have hv : (if nI (gas i + 1) < 9 then nI (gas i + 1) else 9) = nI (gas1 b gas i) := by
            unfold gas1
            rw [hbi, k9, iteT (by omega) (by omega)]
            simp only [ftF, if_false]
            split <;> rfl
          simp (disch := omega) only [f_X3_passMinute_b2, f_X3_passMinute_b22, f_X3_passMinute_b53, le7F, if_false, fbit_e, hb i hi, hbi, bnd_e, b2i_f, zero1, if_true, get_e, hsi, hv, set_e, nam_e, nI_1]
        · have hv : (0 : Int32) = nI (gas1 b gas i) := by
            unfold gas1
            rw [hbi]
            rfl
          simp (disch := omega) only [f_X3_passMinute_b2, f_X3_passMinute_b22, f_X3_passMinute_b53, le7F, if_false, fbit_e, hb i hi, hbi, bnd_e, b2i_t, if_true, one0, set_e, nam_e, nI_1]
          rw [← hv]) (by
      intro fu s _
      simp (disch := omega) only [f_X3_passMinute_b2, le7T, if_true]) (i := 0) (k := 7) (fu := FU) (s := cgas) rfl (FU_lt (by decide)) ⟨fun k h => absurd h (Nat.not_lt_zero k), fun k _ hk => hg k hk⟩
  obtain ⟨out', h2, e2⟩ := lp (fun fu (s : Int32) i => f_X3_passMinute_b64 (nI T) c1 cplace (nI M) ckinds fu s (nI i)) M
    (fun i s => OutB out s (gas1 b gas) kind place i) (fun s => some (s, nI (T + 1), c1)) (by
      intro fu i s hi hs
      obtain ⟨q1, q2⟩ := hkp i hi
      have hb := bears_e hM6 hk (fun m hm => (hkp m hm).1) hi
      have hgl := gas1_le (br := b) (gas := gas) (k := place i)
      have hbl := brs_lt (kind i)
      have hc1 := h1 _ q2
      have hcp := hp i hi
      by_cases q : brs (kind i) < gas1 b gas (place i)
      · refine ⟨s ||| 1 <<< (nI i &&& 31), fun v hv => ?_, ?_⟩
        · rw [b_or, one_shl (by omega) hv, hs v hv]
          by_cases r : v = i
          · subst r
            simp [q]
          · by_cases r2 : v < i
            · have r3 : v < i + 1 := by omega
              simp [r, r2, r3]
            · have r3 : ¬ v < i + 1 := by omega
              simp [r, r2, r3]
        · simp (disch := omega) only [f_X3_passMinute_b64, f_X3_passMinute_b107, leF, if_false, get_e, bnd_e, hcp, hc1, hb, nam_e, nI_1]
      · refine ⟨s, fun v hv => ?_, ?_⟩
        · rw [hs v hv]
          by_cases r : v = i
          · subst r
            simp [q]
          · by_cases r2 : v < i
            · have r3 : v < i + 1 := by omega
              simp [r2, r3]
            · have r3 : ¬ v < i + 1 := by omega
              simp [r2, r3]
        · simp (disch := omega) only [f_X3_passMinute_b64, f_X3_passMinute_b107, leF, leT, if_false, if_true, get_e, bnd_e, hcp, hc1, hb, nam_e, nI_1]) (by
      intro fu s _
      simp (disch := omega) only [f_X3_passMinute_b64, leT, if_true, nam_e, nI_1]) (i := 0) (k := M) (fu := FU) (s := out) (by omega) (FU_lt (by omega)) (fun v hv => by simp)
  refine ⟨out', c1, ?_, h1, h2⟩
  unfold f_X3_passMinute
  rw [show f_X3_passMinute_b2 out (nI T) cplace (nI M) ckinds br FU cgas 0 = f_X3_passMinute_b2 out (nI T) cplace (nI M) ckinds br FU cgas (nI 0) from rfl, e1]
  exact e2
section LM
variable {d a p : A32} {G : Nat} {one two len dr : Nat → Nat} {dor opn : Nat → Bool} {moon : Bool} {fl : Nat → Option Nat} {gas kind place : Nat → Nat} {outx : Int32} {M T : Nat}
theorem L_minute_e (hD : DA d G one two len dor opn moon dr) (hw : WF G one two len dr) (hfl : ∀ g x, g < G → fl g = some x → x < 7) (ha : LA a G fl) (hP : PA p gas kind place outx M T) (hW : WM gas kind place outx M T) :
    ∃ n p' out', f_L_minute 59 10 22 d a p = some (nI n, p') ∧ PA p' (gas1 (fun k => dcd (brt G one two fl k)) gas) kind place out' M T ∧ OutB outx out' (gas1 (fun k => dcd (brt G one two fl k)) gas) kind place M ∧ fb_ct (bt outx) 6 + n = fb_ct (bt out') 6 := by
  obtain ⟨hM6, hg9, hkp, hob, hT⟩ := hW
  obtain ⟨p1, p2, p3, p4, p5⟩ := hP
  have zero1 : ((0 : Int32) = 1) = False := eq_false (by decide)
  let b : Nat → Bool := fun k => dcd (brt G one two fl k)
  obtain ⟨c1, ⟨h1, h2, h3⟩, e1⟩ := lp (fun fu (s : A32) i => f_L_minute_b2 59 10 22 d a fu s (nI i)) 7
    (fun i s => (∀ k, k < i → s k = nI (gas1 b gas k)) ∧ (∀ k, i ≤ k → k < 7 → s k = nI (gas k)) ∧ ∀ k, 7 ≤ k → s k = p k)
    (fun s => f_L_minute_b53 59 10 22 FU s 0 0) (by
      rintro fu i s hi ⟨hs1, hs2, hs3⟩
      have hsi := hs2 i (Nat.le_refl _) hi
      have hg := hg9 i hi
      have hbr := L_breathes_e hD hw hfl ha hi
      refine ⟨upd s i (nI (gas1 b gas i)), ⟨fun k hk => ?_, fun k hk hk7 => ?_, fun k hk => ?_⟩, ?_⟩
      · rw [upd_e]
        by_cases q : k = i
        · subst q; rw [if_pos rfl]
        · rw [if_neg q]; exact hs1 k (by omega)
      · rw [upd_e, if_neg (by omega)]
        exact hs2 k (by omega) hk7
      · rw [upd_e, if_neg (by omega)]
        exact hs3 k hk
      · cases hbi : b i
        · have hbi' : dcd (brt G one two fl i) = false := hbi
          have hv : nI (gas1 b gas i) = if 9 ≤ gas i then 9 else nI (gas i + 1) := by
            unfold gas1
            rw [hbi]
            simp only [ftF, tfF, if_false]
            by_cases q : 9 ≤ gas i
            · rw [if_pos q, if_neg (by omega)]; rfl
            · rw [if_neg q]
              by_cases q2 : gas i + 1 < 9
              · rw [if_pos q2]
              · rw [if_neg q2, show gas i + 1 = 9 by omega]
          rw [hv]
          by_cases q : 9 ≤ gas i
          · have q9 : ((9 : Int32) ≤ nI (gas i)) = True := leT (a := 9) q (by omega)
            simp (disch := omega) only [f_L_minute_b2, f_L_minute_b41, le7F, if_false, hbr, bnd_e, hbi', b2i_f, if_true, inT, cl_e, hsi, q9, nam_e, nI_1, q]
          · have q9 : ((9 : Int32) ≤ nI (gas i)) = False := leF (b := gas i) (a := 9) (by omega) (by decide)
            simp (disch := omega) only [f_L_minute_b2, f_L_minute_b41, le7F, if_false, hbr, bnd_e, hbi', b2i_f, if_true, inT, cl_e, hsi, q9, nam_e, nI_1, q]
        · have hbi' : dcd (brt G one two fl i) = true := hbi
          have one0 : ((1 : Int32) = 0) = False := eq_false (by decide)
          have hv : nI (gas1 b gas i) = 0 := by
            unfold gas1
            rw [hbi]
            rfl
          rw [hv]
          simp (disch := omega) only [f_L_minute_b2, f_L_minute_b41, le7F, if_false, hbr, bnd_e, hbi', b2i_t, one0, inT, if_true, cl_e, nam_e, nI_1]) (by
      intro fu s _
      simp (disch := omega) only [f_L_minute_b2, le7T, if_true]) (i := 0) (k := 7) (fu := FU) (s := p) rfl (FU_lt (by decide)) ⟨fun k h => absurd h (Nat.not_lt_zero k), fun k _ hk => p1 k hk, fun k _ => rfl⟩
  obtain ⟨⟨c2, n2⟩, ⟨g1, g2, o, g3, g4, n, g5, g6⟩, e2⟩ := lp (fun fu (s : A32 × Int32) i => f_L_minute_b53 59 10 22 fu s.1 s.2 (nI i)) M
    (fun i s => (∀ k, k < 7 → s.1 k = nI (gas1 b gas k)) ∧ (∀ k, 7 ≤ k → k ≠ 19 → s.1 k = p k) ∧ ∃ o, s.1 19 = o ∧ OutB outx o (gas1 b gas) kind place i ∧ ∃ n, s.2 = nI n ∧ fb_ct (bt outx) 6 + n = fb_ct (bt o) 6)
    (fun s => some (s.2, s.1)) (by
      rintro fu i ⟨c, n2⟩ hi ⟨g1, g2, o, g3, g4, n, g5, g6⟩
      try dsimp only at g1 g2 g3 g5
      subst g5
      obtain ⟨q1, q2⟩ := hkp i hi
      have hb := L_bears_e (kd := kind i) q1
      have hgl := gas1_le (br := b) (gas := gas) (k := place i)
      have hbl := brs_lt (kind i)
      have v20 : c 20 = nI M := by rw [g2 20 (by decide) (by decide), p4]
      have v7 : c (7 + i) = nI (kind i) := by rw [g2 _ (by omega) (by omega), (p2 i hi).1]
      have v13 : c (13 + i) = nI (place i) := by rw [g2 _ (by omega) (by omega), (p2 i hi).2]
      have vg := g1 _ q2
      have same : (bt o i = true ∨ ¬ brs (kind i) < gas1 b gas (place i)) → OutB outx o (gas1 b gas) kind place (i + 1) := by
        intro hh v hv
        rw [g4 v hv]
        by_cases r : v = i
        · subst r
          have := g4 v hv
          rcases hh with hh | hh
          · rw [hh] at this
            simp at this
            simp [this]
          · simp [hh]
        · by_cases r2 : v < i
          · have r3 : v < i + 1 := by omega
            simp [r2, r3]
          · have r3 : ¬ v < i + 1 := by omega
            simp [r2, r3]
      by_cases hbo : bt o i = true
      · refine ⟨(c, nI n), ⟨g1, g2, o, g3, same (Or.inl hbo), n, rfl, g6⟩, ?_⟩
        simp (disch := omega) only [f_L_minute_b53, f_L_minute_b114, in20, if_true, cl20, v20, leF, if_false, in19, cl19, g3, bit_e, hbo, b2i_1, nam_e, nI_1]
      · by_cases q : brs (kind i) < gas1 b gas (place i)
        · refine ⟨(upd c 19 (o ||| 1 <<< (nI i &&& 31)), nI (n + 1)), ⟨fun k hk => ?_, fun k hk hk19 => ?_, o ||| 1 <<< (nI i &&& 31), (by try dsimp only; exact upd_s _ _ _), fun v hv => ?_, n + 1, rfl, ?_⟩, ?_⟩
          · exact (upd_n c _ (by omega)).trans (g1 k hk)
          · exact (upd_n c _ hk19).trans (g2 k hk hk19)
          · rw [b_or, one_shl (by omega) hv, g4 v hv]
            by_cases r : v = i
            · subst r
              simp [q]
            · by_cases r2 : v < i
              · have r3 : v < i + 1 := by omega
                simp [r, r2, r3]
              · have r3 : ¬ v < i + 1 := by omega
                simp [r, r2, r3]
          · have hc : fb_ct (bt (o ||| 1 <<< (nI i &&& 31))) 6 = fb_ct (fun k => if k = i then true else bt o k) 6 := fb_ct_cong (fun k hk => by
              rw [b_or, one_shl (by omega) (by omega)]
              by_cases r : k = i
              · subst r; simp
              · simp [r])
            have hu := fb_ct_upd (bt o) true (i := i) (n := 6) (by omega)
            rw [if_neg hbo] at hu
            rw [hc]
            simp only [if_true] at hu
            omega
          · have hq : (nI (brs (kind i)) < nI (gas1 b gas (place i))) = True := ltT q (by omega)
            simp (disch := omega) only [f_L_minute_b53, f_L_minute_b114, in20, if_true, cl20, v20, leF, if_false, in19, cl19, g3, bit_e, hbo, b2i_1, ad13, ad7, inT, cl_e, v13, v7, hb, bnd_e, vg, hq, nam_e, nI_1, ftF, tfF]
        · refine ⟨(c, nI n), ⟨g1, g2, o, g3, same (Or.inr q), n, rfl, g6⟩, ?_⟩
          have hq : (nI (brs (kind i)) < nI (gas1 b gas (place i))) = False := ltF (by omega) (by omega)
          simp (disch := omega) only [f_L_minute_b53, f_L_minute_b114, in20, if_true, cl20, v20, leF, if_false, in19, cl19, g3, bit_e, hbo, b2i_1, ad13, ad7, inT, cl_e, v13, v7, hb, bnd_e, vg, hq, nam_e, nI_1, ftF, tfF]) (by
      rintro fu ⟨c, n2⟩ ⟨g1, g2, -⟩
      try dsimp only at g2
      have v20 : c 20 = nI M := by rw [g2 20 (by decide) (by decide), p4]
      simp (disch := omega) only [f_L_minute_b53, in20, if_true, cl20, v20, leT]) (i := 0) (k := M) (fu := FU) (s := (c1, 0)) (by omega) (FU_lt (by omega)) ⟨h1, fun k hk _ => h3 k hk, outx, (h3 19 (by decide)).trans p3, (fun v hv => by simp), 0, rfl, rfl⟩
  try dsimp only at g1 g2 g3 g5 e2
  subst g5
  refine ⟨n, c2, o, ?_, ⟨g1, fun m hm => ⟨?_, ?_⟩, g3, ?_, ?_⟩, g4, g6⟩
  · unfold f_L_minute
    rw [show f_L_minute_b2 59 10 22 d a FU p 0 = f_L_minute_b2 59 10 22 d a FU p (nI 0) from rfl, e1]
    exact e2
  · rw [g2 _ (by omega) (by omega)]; exact (p2 m hm).1
  · rw [g2 _ (by omega) (by omega)]; exact (p2 m hm).2
  · rw [g2 20 (by decide) (by decide)]; exact p4
  · rw [g2 21 (by decide) (by decide)]; exact p5
end LM
end
section
/-! what stands, stands -/
def CM (csize : Int32) (ckinds cplace cgas : A32) (cout cgone : Int32) (gas kind place : Nat → Nat) (outx : Int32) (M T : Nat) : Prop :=
  csize = nI M ∧ (∀ m, m < M → ckinds m = nI (kind m) ∧ cplace m = nI (place m)) ∧ (∀ k, k < 7 → cgas k = nI (gas k)) ∧ cout = outx ∧ cgone = nI T
theorem dI_sub (n : Nat) : nI n - 1 = dI n := by
  cases n with
  | zero => rfl
  | succ n => rw [nI_pred]; rfl
theorem hasG_e {G g : Nat} (hG : G ≤ 10) (hg : g < G) : f_X5_hasGallery (nI G) (nI g) = some 1 := by
  unfold f_X5_hasGallery
  simp (disch := omega) only [lt0F, leF, if_false]
theorem hasG_o {G g : Nat} (hG : G ≤ g) (hg : g < 1000) : f_X5_hasGallery (nI G) (nI g) = some 0 := by
  unfold f_X5_hasGallery
  simp (disch := omega) only [lt0F, leT, if_false, if_true]
theorem has_e {M m : Nat} (hM : M ≤ 6) (hm : m < M) : f_X1_has (nI M) (nI m) = some 1 := by
  unfold f_X1_has
  simp (disch := omega) only [lt0F, leF, if_false]
theorem has_o {M m : Nat} (hM : M ≤ m) (hm : m < 1000) : f_X1_has (nI M) (nI m) = some 0 := by
  unfold f_X1_has
  simp (disch := omega) only [lt0F, leT, if_false, if_true]
section STD
variable {d p a : A32} {cg cdoors cshafts : Int32} {cone ctwo clen cdr ci csm ch : A32} {cbr copen : Int32} {csize cout cgone : Int32} {ckinds cplace cgas : A32} {G : Nat} {one two len dr : Nat → Nat} {dor opn : Nat → Bool} {moon : Bool} {gas kind place : Nat → Nat} {outx : Int32} {M T : Nat}
theorem gal_e (hM : MA cg cdoors cshafts cone ctwo clen cdr G one two len dor dr) (hw : WF G one two len dr) (ho : ∀ g, g < G → bt copen g = opn g) {fl : Nat → Option Nat} (hci : ∀ g, g < G → ci g = hI (fl g)) {g : Nat} (hg : g < G) :
    f_X10_gallery cg cdoors cone ctwo clen ci copen (nI g) 0 = some (nI (one g)) ∧ f_X10_gallery cg cdoors cone ctwo clen ci copen (nI g) 1 = some (nI (two g)) ∧ f_X10_gallery cg cdoors cone ctwo clen ci copen (nI g) 2 = some (nI (len g)) ∧ f_X10_gallery cg cdoors cone ctwo clen ci copen (nI g) 3 = some (b2i (dor g)) ∧ f_X10_gallery cg cdoors cone ctwo clen ci copen (nI g) 4 = some (b2i (opn g)) ∧ f_X10_gallery cg cdoors cone ctwo clen ci copen (nI g) 5 = some (hI (fl g)) := by
  have hG := hw.1
  obtain ⟨m1, m2, m3, m4⟩ := hM.2.1 g hg
  have hh : f_X5_hasGallery cg (nI g) = some 1 := by rw [hM.1]; exact hasG_e hG.2 hg
  have h10 : g < 10 := by omega
  refine ⟨?_, ?_, ?_, ?_, ?_, ?_⟩ <;> unfold f_X10_gallery <;> rw [hh, bnd_e, if_neg (by decide)]
  · rw [if_pos rfl, get_e cone h10 (by decide), bnd_e, m1]
  · rw [if_neg (by decide), if_pos rfl, get_e ctwo h10 (by decide), bnd_e, m2]
  · rw [if_neg (by decide), if_neg (by decide), if_pos rfl, get_e clen h10 (by decide), bnd_e, m3]
  · rw [if_neg (by decide), if_neg (by decide), if_neg (by decide), if_pos rfl, fbit_e _ (by omega), bnd_e, m4]
  · rw [if_neg (by decide), if_neg (by decide), if_neg (by decide), if_neg (by decide), if_pos rfl, fbit_e _ (by omega), bnd_e, ho g hg]
  · rw [if_neg (by decide), if_neg (by decide), if_neg (by decide), if_neg (by decide), if_neg (by decide), if_pos rfl, get_e ci h10 (by decide), bnd_e, hci g hg]
theorem knot_e (hM : MA cg cdoors cshafts cone ctwo clen cdr G one two len dor dr) (hw : WF G one two len dr) (hA : AO cbr ch ci G one two opn moon dr) (hg : ∀ k, k < 7 → cgas k = nI (gas k)) {k : Nat} (hk : k < 7) :
    f_X10_knot cg cdr cbr ch cgas (nI k) 0 = some (dI (dr k)) ∧ f_X10_knot cg cdr cbr ch cgas (nI k) 1 = some (hI (hgt G one two opn moon dr k)) ∧ f_X10_knot cg cdr cbr ch cgas (nI k) 2 = some (b2i (dcd (brt G one two (flw G one two opn moon dr) k))) ∧ f_X10_knot cg cdr cbr ch cgas (nI k) 3 = some (nI (gas k)) := by
  have hG := hw.1
  have hh : f_X5_isRead cg = some 1 := by rw [hM.1]; exact isRead_e hG.1 hG.2
  have hb : bt cbr k = dcd (brt G one two (flw G one two opn moon dr) k) := bool_ext (by rw [hA.2.2 k (by omega), dcd_t])
  refine ⟨?_, ?_, ?_, ?_⟩ <;> unfold f_X10_knot <;> rw [hh, bnd_e, if_neg (by decide), isKnot_e hk, bnd_e, if_neg (by decide)]
  · rw [if_pos rfl, get_e cdr hk (by decide), bnd_e, hM.2.2.1 k hk]
  · rw [if_neg (by decide), if_pos rfl, get_e ch hk (by decide), bnd_e, hA.1 k hk]
  · rw [if_neg (by decide), if_neg (by decide), if_pos rfl, fbit_e _ (by omega), bnd_e, hb]
  · rw [if_neg (by decide), if_neg (by decide), if_neg (by decide), if_pos rfl, get_e cgas hk (by decide), bnd_e, hg k hk]
theorem about_e (hC : CM csize ckinds cplace cgas cout cgone gas kind place outx M T) (hW : WM gas kind place outx M T) {m : Nat} (hm : m < M) :
    f_X10_about csize ckinds cout cplace (nI m) 0 = some (nI (kind m)) ∧ f_X10_about csize ckinds cout cplace (nI m) 1 = some (nI (place m)) ∧ f_X10_about csize ckinds cout cplace (nI m) 2 = some (b2i (bt outx m)) ∧ f_X10_about csize ckinds cout cplace (nI m) 3 = some (nI (brs (kind m))) := by
  obtain ⟨c1, c2, c3, c4, c5⟩ := hC
  obtain ⟨hM6, hg9, hkp, hob, hT⟩ := hW
  obtain ⟨k1, k2⟩ := c2 m hm
  have hh : f_X1_has csize (nI m) = some 1 := by rw [c1]; exact has_e hM6 hm
  refine ⟨?_, ?_, ?_, ?_⟩ <;> unfold f_X10_about <;> rw [hh, bnd_e, if_neg (by decide)]
  · rw [if_pos rfl, get_e ckinds (by omega) (by decide), bnd_e, k1]
  · rw [if_neg (by decide), if_pos rfl, get_e cplace (by omega) (by decide), bnd_e, k2]
  · rw [if_neg (by decide), if_neg (by decide), if_pos rfl, fbit_e _ (by omega), bnd_e, c4]
  · rw [if_neg (by decide), if_neg (by decide), if_neg (by decide), if_pos rfl, bears_e hM6 (fun m hm => (c2 m hm).1) (fun m hm => (hkp m hm).1) hm, bnd_e]
theorem L_stands_e (mr dd pl : Int32) (hM : MA cg cdoors cshafts cone ctwo clen cdr G one two len dor dr) (hD : DA d G one two len dor opn moon dr) (hw : WF G one two len dr) (ho : ∀ g, g < G → bt copen g = opn g) (hA : AO cbr ch ci G one two opn moon dr)
    (hC : CM csize ckinds cplace cgas cout cgone gas kind place outx M T) (hP : PA p gas kind place outx M T) (hW : WM gas kind place outx M T) :
    f_L_stands 59 22 mr dd pl cg cdoors cshafts cone ctwo clen cdr cbr ch ci csize ckinds copen (b2i moon) cout cgone cgas cplace d p = some 1 := by
  have hG := hw.1
  obtain ⟨a, ea, ha⟩ := L_air_e hD hw
  have hfl : ∀ g x, g < G → flw G one two opn moon dr g = some x → x < 7 := fun g x hg h => flw_lt hw hg h
  obtain ⟨p1, p2, p3, p4, p5⟩ := hP
  have hM6 := hW.1
  have e0 := hD.1
  have e51 := hD.2.1
  unfold f_L_stands
  rw [ea, bnd_e]
  -- men and counts
  have part3 : f_L_stands_b217 59 22 mr dd pl cg cdoors cshafts csize ckinds (b2i moon) cout cgone cplace d p a FU 0 = some 1 := by
    refine lpP (fun fu (s : Unit) i => f_L_stands_b217 59 22 mr dd pl cg cdoors cshafts csize ckinds (b2i moon) cout cgone cplace d p a fu (nI i)) M (fun i s => True) (fun r => r = some 1) ?_ ?_ M 0 () FU (by omega) (FU_lt (by omega)) trivial
    · intro fu i s hi _
      refine Or.inl ⟨(), trivial, ?_⟩
      obtain ⟨a1, a2, a3, a4⟩ := about_e hC hW hi
      obtain ⟨b1, b2⟩ := p2 i hi
      have hb := L_bears_e (kd := kind i) (hW.2.2.1 i hi).1
      simp (disch := omega) only [f_L_stands_b217, in20, cl20, p4, leF, if_true, if_false, a1, a2, a3, a4, bnd_e, ad7, ad13, inT, cl_e, b1, b2, in19, cl19, p3, bit_e, hb, nam_e, nI_1]
    · intro fu s _
      have c3 : f_X10_count mr dd pl cg cdoors cshafts (nI M) (b2i moon) (nI T) 3 = some (nI M) := rfl
      have c4 : f_X10_count mr dd pl cg cdoors cshafts (nI M) (b2i moon) (nI T) 4 = some (b2i moon) := by cases moon <;> rfl
      have c5 : f_X10_count mr dd pl cg cdoors cshafts (nI M) (b2i moon) (nI T) 5 = some (nI T) := rfl
      simp (disch := omega) only [f_L_stands_b217, in20, cl20, p4, leT, if_true, hC.1, hC.2.2.2.2, c3, c4, c5, bnd_e, in51, cl51, e51, in21, cl21, p5]
  have part2 : f_L_stands_b125 59 22 mr dd pl cg cdoors cshafts cdr cbr ch csize ckinds (b2i moon) cout cgone cgas cplace d p a FU 0 = some 1 := by
    refine lpP (fun fu (s : Unit) i => f_L_stands_b125 59 22 mr dd pl cg cdoors cshafts cdr cbr ch csize ckinds (b2i moon) cout cgone cgas cplace d p a fu (nI i)) 7 (fun i s => True) (fun r => r = some 1) ?_ ?_ 7 0 () FU rfl (FU_lt (by decide)) trivial
    · intro fu i s hi _
      refine Or.inl ⟨(), trivial, ?_⟩
      obtain ⟨a1, a2, a3, a4⟩ := knot_e hM hw hA hC.2.2.1 hi
      have hh := L_height_e hD hw hi
      have hb := L_breathes_e hD hw hfl ha hi
      have hd := hD.2.2.2 i hi
      have one0 : ((1 : Int32) = 0) = False := eq_false (by decide)
      cases hbb : dcd (brt G one two (flw G one two opn moon dr) i)
      · rw [hbb] at a3 hb
        simp (disch := omega) only [f_L_stands_b125, f_L_stands_b189, le7F, if_false, a1, a2, a3, a4, bnd_e, ad52, inT, if_true, cl_e, hd, dI_sub, hh, hb, b2i_f, p1 i hi, nam_e, nI_1]
      · rw [hbb] at a3 hb
        simp (disch := omega) only [f_L_stands_b125, f_L_stands_b189, le7F, if_false, a1, a2, a3, a4, bnd_e, ad52, inT, if_true, cl_e, hd, dI_sub, hh, hb, b2i_t, one0, p1 i hi, nam_e, nI_1]
    · intro fu s _
      simp (disch := omega) only [f_L_stands_b125, le7T, if_true]
      exact part3
  refine lpP (fun fu (s : Unit) i => f_L_stands_b8 59 22 mr dd pl cg cdoors cshafts cone ctwo clen cdr cbr ch ci csize ckinds copen (b2i moon) cout cgone cgas cplace d p a fu (nI i)) G (fun i s => True) (fun r => r = some 1) ?_ ?_ G 0 () FU (by omega) (FU_lt (by omega)) trivial
  · intro fu i s hi _
    refine Or.inl ⟨(), trivial, ?_⟩
    obtain ⟨a1, a2, a3, a4, a5, a6⟩ := gal_e hM hw ho hA.2.1 hi
    obtain ⟨e1, e2, e3, e4, e5⟩ := hD.2.2.1 i hi
    have ec := ha.at hG.2 hi
    simp (disch := omega) only [f_L_stands_b8, in0, cl0, e0, leF, if_true, if_false, a1, a2, a3, a4, a5, a6, bnd_e, ad1, ad11, ad21, ad31, ad41, inT, cl_e, e1, e2, e3, e4, e5, ec, nam_e, nI_1]
  · intro fu s _
    try dsimp only
    rw [f_L_stands_b8, if_pos (show inB 0 59 by decide), if_pos (show d (Int32.toNatClampNeg 0) ≤ nI G by rw [cl0, e0]; exact nI_le (Nat.le_refl G) (by omega))]
    exact part2
end STD
end
section
/-! the class's calls that change things -/
section CLS
variable {cg cdoors cshafts : Int32} {cone ctwo clen cdr : A32} {csize cout cgone : Int32} {ckinds cplace cgas : A32} {G : Nat} {one two len dr : Nat → Nat} {dor opn : Nat → Bool} {moon : Bool} {gas kind place : Nat → Nat} {outx : Int32} {M T : Nat}
theorem wind_e (hM : MA cg cdoors cshafts cone ctwo clen cdr G one two len dor dr) (hw : WF G one two len dr) {vo : Int32} (hvo : ∀ g, g < G → bt vo g = opn g) (cbr0 : Int32) (ch0 ci0 cn0 cs0 : A32) :
    ∃ cbr ch ci cn cs, f_X10_windChanges cg cshafts cone ctwo clen cdr cbr0 ch0 ci0 cn0 cs0 vo (b2i moon) = some (cbr, ch, ci, cn, cs) ∧ AO cbr ch ci G one two opn moon dr ∧ SO cs G one two len (flw G one two opn moon dr) := by
  obtain ⟨cbr, ch, ci, cn, e1, hA⟩ := blow_e (moon := moon) hM hw hvo cbr0 ch0 ci0 cn0
  obtain ⟨cs, e2, hS⟩ := carry_e (fl := flw G one two opn moon dr) hM hw (fun g x hg h => (flw_low hw hg h).1) hA.2.1 cs0
  refine ⟨cbr, ch, ci, cn, cs, ?_, hA, hS⟩
  unfold f_X10_windChanges
  rw [e1, bnd_e]
  try dsimp only
  rw [e2, bnd_e]
theorem door_n (hM : MA cg cdoors cshafts cone ctwo clen cdr G one two len dor dr) (hw : WF G one two len dr) {g : Nat} (hg : g < G) (hd : dor g = false) (cbr0 : Int32) (ch0 ci0 cn0 cs0 : A32) (copen cmoon v2 : Int32) :
    f_X10_door cg cdoors cshafts cone ctwo clen cdr cbr0 ch0 ci0 cn0 cs0 copen cmoon (nI g) v2 = some (-103, cbr0, ch0, ci0, cn0, cs0, copen) := by
  have hG := hw.1
  obtain ⟨m1, m2, m3, m4⟩ := hM.2.1 g hg
  unfold f_X10_door
  rw [hM.1, hasG_e hG.2 hg, bnd_e, if_neg (by decide), fbit_e _ (by omega), bnd_e, m4, hd, b2i_f, if_pos rfl]
theorem door_y (hM : MA cg cdoors cshafts cone ctwo clen cdr G one two len dor dr) (hw : WF G one two len dr) {copen : Int32} (ho : ∀ g, g < G → bt copen g = opn g) {g : Nat} (hg : g < G) (hd : dor g = true) (cbr0 : Int32) (ch0 ci0 cn0 cs0 : A32) (op : Bool) :
    ∃ cbr ch ci cn cs o', f_X10_door cg cdoors cshafts cone ctwo clen cdr cbr0 ch0 ci0 cn0 cs0 copen (b2i moon) (nI g) (b2i op) = some (b2i (opn g), cbr, ch, ci, cn, cs, o') ∧ (∀ k, k < G → bt o' k = (fun k => if k = g then op else opn k) k) ∧ AO cbr ch ci G one two (fun k => if k = g then op else opn k) moon dr ∧ SO cs G one two len (flw G one two (fun k => if k = g then op else opn k) moon dr) := by
  have hG := hw.1
  obtain ⟨m1, m2, m3, m4⟩ := hM.2.1 g hg
  cases op
  · have hb : ∀ k, k < G → bt (copen &&& ((1 <<< (nI g &&& 31)) ^^^ (-1))) k = (if k = g then false else opn k) := by
      intro k hk
      rw [b_and, b_xor, one_shl (by omega) (by omega), b_m1 k (by omega), ho k hk]
      by_cases q : k = g
      · simp [q]
      · simp [q]
    obtain ⟨cbr, ch, ci, cn, cs, e, hA, hS⟩ := wind_e (opn := fun k => if k = g then false else opn k) (moon := moon) hM hw (vo := copen &&& ((1 <<< (nI g &&& 31)) ^^^ (-1))) hb cbr0 ch0 ci0 cn0 cs0
    refine ⟨cbr, ch, ci, cn, cs, _, ?_, hb, hA, hS⟩
    unfold f_X10_door f_X10_door_b78
    rw [show f_X5_hasGallery cg (nI g) = some 1 by rw [hM.1]; exact hasG_e hG.2 hg, bnd_e, if_neg (by decide), fbit_e _ (by omega), bnd_e, m4, hd, b2i_t, if_neg (by decide), fbit_e _ (by omega), bnd_e, b2i_f, if_pos rfl, e, bnd_e, ho g hg]
  · have hb : ∀ k, k < G → bt (copen ||| (1 <<< (nI g &&& 31))) k = (if k = g then true else opn k) := by
      intro k hk
      rw [b_or, one_shl (by omega) (by omega), ho k hk]
      by_cases q : k = g
      · simp [q]
      · simp [q]
    obtain ⟨cbr, ch, ci, cn, cs, e, hA, hS⟩ := wind_e (opn := fun k => if k = g then true else opn k) (moon := moon) hM hw (vo := copen ||| (1 <<< (nI g &&& 31))) hb cbr0 ch0 ci0 cn0 cs0
    refine ⟨cbr, ch, ci, cn, cs, _, ?_, hb, hA, hS⟩
    unfold f_X10_door f_X10_door_b78
    rw [show f_X5_hasGallery cg (nI g) = some 1 by rw [hM.1]; exact hasG_e hG.2 hg, bnd_e, if_neg (by decide), fbit_e _ (by omega), bnd_e, m4, hd, b2i_t, if_neg (by decide), fbit_e _ (by omega), bnd_e, if_neg (by decide), e, bnd_e, ho g hg]
theorem turn_e (hM : MA cg cdoors cshafts cone ctwo clen cdr G one two len dor dr) (hw : WF G one two len dr) {copen : Int32} (ho : ∀ g, g < G → bt copen g = opn g) (cbr0 : Int32) (ch0 ci0 cn0 cs0 : A32) :
    ∃ cbr ch ci cn cs, f_X10_turn cg cshafts cone ctwo clen cdr cbr0 ch0 ci0 cn0 cs0 copen (b2i moon) = some (b2i (!moon), cbr, ch, ci, cn, cs, b2i (!moon)) ∧ AO cbr ch ci G one two opn (!moon) dr ∧ SO cs G one two len (flw G one two opn (!moon) dr) := by
  have hG := hw.1
  obtain ⟨cbr, ch, ci, cn, cs, e, hA, hS⟩ := wind_e (opn := opn) (moon := !moon) hM hw ho cbr0 ch0 ci0 cn0 cs0
  refine ⟨cbr, ch, ci, cn, cs, ?_, hA, hS⟩
  unfold f_X10_turn f_X10_turn_b32
  rw [show f_X5_isRead cg = some 1 by rw [hM.1]; exact isRead_e hG.1 hG.2, bnd_e, if_neg (by decide)]
  cases moon
  · rw [b2i_f, if_pos rfl, if_pos (Or.inr rfl), show (1 : Int32) = b2i (!false) from rfl, e, bnd_e, if_neg (by decide)]
  · rw [b2i_t, if_neg (by decide), if_pos (Or.inl rfl), show (0 : Int32) = b2i (!true) from rfl, e, bnd_e, if_pos rfl]
theorem man_e (hw : WF G one two len dr) {kd pl : Nat} (hk : kd < 5) (hp : pl < 7) (hM : M < 6) : f_X10_man (nI G) (nI M) ckinds cplace (nI kd) (nI pl) = some (nI M, nI (M + 1), upd ckinds M (nI kd), upd cplace M (nI pl)) := by
  have hG := hw.1
  have hki : f_X1_isKind (nI kd) = some 1 := by
    rcases (show kd = 0 ∨ kd = 1 ∨ kd = 2 ∨ kd = 3 ∨ kd = 4 by omega) with rfl | rfl | rfl | rfl | rfl <;> rfl
  unfold f_X10_man
  rw [isRead_e hG.1 hG.2, bnd_e, if_neg (by decide), hki, bnd_e, if_neg (by decide), isKnot_e hp, bnd_e, if_neg (by decide), if_pos (show nI M < 6 from nI_lt (b := 6) hM (by decide)), set_e _ _ hM (by decide), bnd_e, nam_e, set_e _ _ hM (by decide), bnd_e, nI_1]
theorem isOf_e (hM6 : M ≤ 6) (hk : ∀ m, m < M → ckinds m = nI (kind m)) (h5 : ∀ m, m < M → kind m < 5) {m as : Nat} (hm : m < M) (ha : as < 5) : f_X1_isOf ckinds (nI m) (nI as) = some (b2i (decide (as = 0 ∨ as = kind m ∨ (as = 1 ∧ kind m = 4)))) := by
  unfold f_X1_isOf f_X1_isOf_b28
  rw [get_e ckinds (by omega) (by decide), bnd_e, hk m hm]
  have h := h5 m hm
  rcases (show as = 0 ∨ as = 1 ∨ as = 2 ∨ as = 3 ∨ as = 4 by omega) with rfl | rfl | rfl | rfl | rfl <;>
    rcases (show kind m = 0 ∨ kind m = 1 ∨ kind m = 2 ∨ kind m = 3 ∨ kind m = 4 by omega) with q | q | q | q | q <;> rw [q] <;> rfl
theorem as_e (hM6 : M ≤ 6) (hk : ∀ m, m < M → ckinds m = nI (kind m)) (h5 : ∀ m, m < M → kind m < 5) {m as : Nat} (hm : m < M) (ha : as < 5) : f_X10_as (nI M) ckinds (nI m) (nI as) = some (if as = 0 ∨ as = kind m ∨ (as = 1 ∧ kind m = 4) then nI m else -1) := by
  have hki : f_X1_isKind (nI as) = some 1 := by
    rcases (show as = 0 ∨ as = 1 ∨ as = 2 ∨ as = 3 ∨ as = 4 by omega) with rfl | rfl | rfl | rfl | rfl <;> rfl
  unfold f_X10_as
  rw [has_e hM6 hm, bnd_e, if_neg (by decide), hki, bnd_e, if_neg (by decide), isOf_e hM6 hk h5 hm ha, bnd_e]
  by_cases q : as = 0 ∨ as = kind m ∨ (as = 1 ∧ kind m = 4)
  · rw [if_pos q, decide_eq_true q, b2i_t, if_neg (by decide)]
  · rw [if_neg q, decide_eq_false q, b2i_f, if_pos rfl]
theorem isAt_e (hM : MA cg cdoors cshafts cone ctwo clen cdr G one two len dor dr) (hw : WF G one two len dr) {g k : Nat} (hg : g < G) (hk : k < 7) : f_X5_isAt cone ctwo (nI g) (nI k) = some (b2i (decide (one g = k ∨ two g = k))) := by
  obtain ⟨m1, m2, m3, m4⟩ := hM.2.1 g hg
  obtain ⟨w1, w2, w3, -, -⟩ := hw.2.1 g hg
  have hG := hw.1
  unfold f_X5_isAt f_X5_isAt_b24
  rw [get_e cone (by omega) (by decide), get_e ctwo (by omega) (by decide), bnd_e, bnd_e, m1, m2, iteE (by omega) (by omega), iteE (by omega) (by omega)]
  by_cases q1 : one g = k
  · rw [if_pos q1, decide_eq_true (Or.inl q1)]; rfl
  · rw [if_neg q1]
    by_cases q2 : two g = k
    · rw [if_pos q2, decide_eq_true (Or.inr q2)]; rfl
    · rw [if_neg q2, decide_eq_false (fun h => h.elim q1 q2)]; rfl
theorem walk_e (hM : MA cg cdoors cshafts cone ctwo clen cdr G one two len dor dr) (hw : WF G one two len dr) {copen : Int32} (ho : ∀ g, g < G → bt copen g = opn g) (hC : CM csize ckinds cplace cgas cout cgone gas kind place outx M T) (hW : WM gas kind place outx M T) {m g : Nat} (hm : m < M) (hg : g < G) :
    f_X10_walk cg cone ctwo csize ckinds copen cout cplace (nI m) (nI g) = (if (one g = place m ∨ two g = place m) ∧ bt outx m = false ∧ (opn g = true ∨ kind m = 3) then some (nI (if one g = place m then two g else one g), upd cplace m (nI (if one g = place m then two g else one g))) else some (-103, cplace)) := by
  have hG := hw.1
  obtain ⟨c1, c2, c3, c4, c5⟩ := hC
  obtain ⟨hM6, hg9, hkp, hob, hT⟩ := hW
  obtain ⟨k1, k2⟩ := hkp m hm
  have b67 : f_X10_walk_b68 cone ctwo cout cplace 0 (nI m) (nI g) (nI (place m)) = (if (one g = place m ∨ two g = place m) ∧ bt outx m = false then some (nI (if one g = place m then two g else one g), upd cplace m (nI (if one g = place m then two g else one g))) else some (-103, cplace)) := by
    unfold f_X10_walk_b68
    rw [fbit_e _ (by omega), bnd_e, c4]
    cases hb : bt outx m
    · rw [b2i_f, if_neg (by decide), isAt_e hM hw hg k2, bnd_e]
      by_cases q : one g = place m ∨ two g = place m
      · rw [decide_eq_true q, b2i_t, if_neg (by decide), if_pos rfl, oth_e hM hw hg k2, bnd_e, set_e _ _ (by omega) (by decide), bnd_e, if_pos (show (one g = place m ∨ two g = place m) ∧ false = false from ⟨q, rfl⟩)]
      · rw [decide_eq_false q, b2i_f, if_pos rfl, if_neg (fun h : (one g = place m ∨ two g = place m) ∧ false = false => q h.1)]
    · rw [b2i_t, if_pos rfl, if_neg (fun h : (one g = place m ∨ two g = place m) ∧ true = false => by cases h.2)]
  have b68 : f_X10_walk_b68 cone ctwo cout cplace 1 (nI m) (nI g) (nI (place m)) = some (-103, cplace) := by
    unfold f_X10_walk_b68
    rw [fbit_e _ (by omega), bnd_e, c4]
    cases hb : bt outx m
    · rw [b2i_f, if_neg (by decide), isAt_e hM hw hg k2, bnd_e]
      by_cases q : one g = place m ∨ two g = place m
      · rw [decide_eq_true q, b2i_t, if_neg (by decide), if_neg (by decide)]
      · rw [decide_eq_false q, b2i_f, if_pos rfl]
    · rw [b2i_t, if_pos rfl]
  unfold f_X10_walk f_X10_walk_b67
  rw [c1, has_e hM6 hm, bnd_e, if_neg (by decide), hM.1, hasG_e hG.2 hg, bnd_e, if_neg (by decide), get_e cplace (by omega) (by decide), bnd_e, (c2 m hm).2, fbit_e _ (by omega), bnd_e, ho g hg]
  cases hop : opn g
  · rw [b2i_f, if_pos rfl, show (3 : Int32) = nI 3 from rfl, isOf_e hM6 (fun m hm => (c2 m hm).1) (fun m hm => (hkp m hm).1) hm (by decide), bnd_e]
    by_cases q : kind m = 3
    · rw [decide_eq_true (Or.inr (Or.inl q.symm)), b2i_t, if_neg (by decide), b67]
      simp only [q, or_true, and_true]
    · rw [decide_eq_false (by omega), b2i_f, if_pos rfl, b68]
      rw [if_neg (fun h : (one g = place m ∨ two g = place m) ∧ bt outx m = false ∧ (false = true ∨ kind m = 3) => h.2.2.elim (fun h => by cases h) q)]
  · rw [b2i_t, if_neg (by decide), b67]
    simp only [true_or, and_true]
end CLS
def gN (b : Nat → Bool) (gas : Nat → Nat) : Nat → Nat → Nat
  | 0 => gas
  | n + 1 => gas1 b (gN b gas n)
def oN (b : Nat → Bool) (gas kind place : Nat → Nat) (M : Nat) (o : Nat → Bool) : Nat → Nat → Bool
  | 0 => o
  | n + 1 => fun i => oN b gas kind place M o n i || (decide (i < M) && decide (brs (kind i) < gN b gas (n + 1) (place i)))
theorem gN_le {b : Nat → Bool} {gas : Nat → Nat} (h : ∀ k, k < 7 → gas k ≤ 9) : ∀ n k, k < 7 → gN b gas n k ≤ 9 := by
  intro n
  cases n with
  | zero => exact h
  | succ n => exact fun k _ => gas1_le
theorem oN_hi {b : Nat → Bool} {gas kind place : Nat → Nat} {M : Nat} {o : Nat → Bool} {i : Nat} (hi : M ≤ i) : ∀ n, oN b gas kind place M o n i = o i := by
  intro n
  induction n with
  | zero => rfl
  | succ n ih =>
    show (oN b gas kind place M o n i || _) = _
    rw [ih, decide_eq_false (by omega)]
    simp
theorem minutes_e {G : Nat} {one two len dr : Nat → Nat} (hw : WF G one two len dr) {br : Int32} {b : Nat → Bool} (hb : ∀ k, k < 7 → bt br k = b k) {csize cout cgone : Int32} {ckinds cplace cgas : A32} {gas kind place : Nat → Nat} {outx : Int32} {M T : Nat} (hC : CM csize ckinds cplace cgas cout cgone gas kind place outx M T) (hW : WM gas kind place outx M T) {many : Nat} (h1 : 1 ≤ many) (h2 : many ≤ 60) (hT : T + many < 100000) :
    ∃ out' cgas', f_X10_minutes (nI G) br csize ckinds cout cgone cgas cplace (nI many) = some (nI (fb_ct (bt out') 6) - nI (fb_ct (bt outx) 6), out', nI (T + many), cgas') ∧ (∀ k, k < 7 → cgas' k = nI (gN b gas many k)) ∧ ∀ i, i < 32 → bt out' i = oN b gas kind place M (bt outx) many i := by
  have hG := hw.1
  obtain ⟨c1, c2, c3, rfl, rfl⟩ := hC
  obtain ⟨hM6, hg9, hkp, hob, -⟩ := hW
  subst c1
  have bc : ∀ o : Int32, (∀ i, M ≤ i → i < 32 → bt o i = false) → f_J6_bitCount_0f7a4 o = some (nI (fb_ct (bt o) 6)) := fun o h => bc_n (by decide) (fun i hi hi2 => h i (by omega) hi2)
  obtain ⟨⟨o', t', g'⟩, ⟨r1, r2, r3⟩, e⟩ := lp (fun fu (s : Int32 × Int32 × A32) i => f_X10_minutes_b40 br (nI M) ckinds cplace (nI many) (nI (fb_ct (bt cout) 6)) fu s.1 s.2.1 s.2.2 (nI i)) many
    (fun i s => s.2.1 = nI (T + i) ∧ (∀ k, k < 7 → s.2.2 k = nI (gN b gas i k)) ∧ ∀ j, j < 32 → bt s.1 j = oN b gas kind place M (bt cout) i j)
    (fun s => some (nI (fb_ct (bt s.1) 6) - nI (fb_ct (bt cout) 6), s.1, s.2.1, s.2.2)) (by
      rintro fu i ⟨o, t, g⟩ hi ⟨s1, s2, s3⟩
      try dsimp only at s1 s2 s3
      subst s1
      obtain ⟨o1, g1, ep, q1, q2⟩ := pass_e (gas := gN b gas i) (kind := kind) (place := place) (out := o) (M := M) (T := T + i) (br := br) ⟨hM6, gN_le hg9 i, hkp, fun j hj hj2 => by rw [s3 j hj2, oN_hi hj, hob j hj hj2], by omega⟩ s2 (fun m hm => (c2 m hm).1) (fun m hm => (c2 m hm).2) hb
      refine ⟨(o1, nI (T + (i + 1)), g1), ⟨rfl, q1, fun j hj => ?_⟩, ?_⟩
      · rw [q2 j hj, s3 j hj]
        rfl
      · simp (disch := omega) only [f_X10_minutes_b40, leF, if_false, ep, bnd_e, nam_e, nI_1]
        rfl) (by
      rintro fu ⟨o, t, g⟩ ⟨s1, s2, s3⟩
      try dsimp only at s3
      have hbc := bc o (fun j hj hj2 => by rw [s3 j hj2, oN_hi hj, hob j hj hj2])
      simp (disch := omega) only [f_X10_minutes_b40, leT, if_true, hbc, bnd_e]) (i := 0) (k := many) (fu := FU) (s := (cout, nI T, cgas)) (by omega) (FU_lt (by omega)) ⟨rfl, c3, fun j _ => rfl⟩
  try dsimp only at r1 r2 r3 e
  subst r1
  refine ⟨o', g', ?_, r2, r3⟩
  unfold f_X10_minutes
  rw [if_neg (show ¬ nI many < 1 from nI_nlt (b := 1) h1 (by omega)), if_pos (show nI many ≤ 60 from nI_le (b := 60) h2 (by decide)), isRead_e hG.1 hG.2, bnd_e, if_neg (by decide), bc cout hob, bnd_e]
  exact e
end
section
/-! draws, and one of a set -/
def nxt (q : Nat) : Nat := (1103515245 * q + 12345) % 2147483648
theorem nxt_lt (q : Nat) : nxt q < 2147483648 := Nat.mod_lt _ (by decide)
theorem nxtL_e {q : Nat} (hq : q < 2147483648) : ((lN q * 1103515245) + 12345) - ((lN q * 1103515245) + 12345) / 2147483648 * 2147483648 = lN (nxt q) := by
  rw [show (1103515245 : Int64) = lN 1103515245 from rfl, show (12345 : Int64) = lN 12345 from rfl, show (2147483648 : Int64) = lN 2147483648 from rfl, lN_mul, lN_add, pk_lRem (by omega) (by decide) (by decide)]
  unfold nxt
  rw [Nat.mul_comm]
theorem draw_e {q m : Nat} (hq : q < 2147483648) (hm : 0 < m) (hm2 : m < 1000) : f_X2_draw (nI q) (nI m) = some (nI (nxt q / 65536 % m), nI (nxt q)) := by
  have hn := nxt_lt q
  have h1 : nxt q / 65536 < 2147483648 := Nat.lt_of_le_of_lt (Nat.div_le_self _ _) hn
  unfold f_X2_draw
  have e : ((1103515245 * Int32.toInt64 (nI q)) + 12345) - ((1103515245 * Int32.toInt64 (nI q)) + 12345) / 2147483648 * 2147483648 = lN (nxt q) := by
    rw [nI_l (by omega), show (1103515245 : Int64) = lN 1103515245 from rfl, show (12345 : Int64) = lN 12345 from rfl, show (2147483648 : Int64) = lN 2147483648 from rfl, lN_mul, lN_add, pk_lRem (by omega) (by decide) (by decide)]
    rfl
  rw [e, lN_i, nam_e, if_neg (nI_nle hm (by omega)), if_neg (nI_ne0 hm (by omega)), show (65536 : Int32) = nI 65536 from rfl, pk_div (by omega) (by decide) (by decide), pk_rem (by omega) hm (by omega)]
theorem drawL_e {q m : Nat} (hq : q < 2147483648) (hm : 0 < m) (hm2 : m < 1000) : Int64.toInt32 ((lN q / 65536) - (lN q / 65536) / lN m * lN m) = nI (q / 65536 % m) := by
  have h1 : q / 65536 < 2147483648 := Nat.lt_of_le_of_lt (Nat.div_le_self _ _) hq
  rw [show (65536 : Int64) = lN 65536 from rfl, pk_lDiv (by omega) (by decide) (by decide), pk_lRem (by omega) hm (by omega), lN_i]
set_option maxRecDepth 100000 in
theorem low_all : ∀ m, m < 1024 → m ≠ 0 → ∃ i, i < 10 ∧ bt (nI m) i = true ∧ (∀ j, j < i → bt (nI m) j = false) ∧ f_J6_numberOfTrailingZeros_0f7a4 (nI m) = some (nI i) := by decide +kernel
set_option maxRecDepth 100000 in
theorem clr_all : ∀ m, m < 1024 → ∀ i, i < 10 → (bt (nI m) i = true ∧ ∀ j, j < i → bt (nI m) j = false) → ∀ j, j < 32 → bt (nI m &&& (nI m - 1)) j = (bt (nI m) j && decide (j ≠ i)) := by decide +kernel
theorem low_e {x : Int32} (h : ∀ i, 10 ≤ i → i < 32 → bt x i = false) (h0 : ∃ i, i < 10 ∧ bt x i = true) : ∃ i, i < 10 ∧ bt x i = true ∧ (∀ j, j < i → bt x j = false) ∧ f_J6_numberOfTrailingZeros_0f7a4 x = some (nI i) ∧ ∀ j, j < 32 → bt (x &&& (x - 1)) j = (bt x j && decide (j ≠ i)) := by
  obtain ⟨m, hm, rfl⟩ := bt_lt (by decide) h
  have hm0 : m ≠ 0 := by
    rintro rfl
    obtain ⟨i, _, hi⟩ := h0
    rw [show nI 0 = 0 from rfl, b_0] at hi
    cases hi
  obtain ⟨i, a1, a2, a3, a4⟩ := low_all m hm hm0
  exact ⟨i, a1, a2, a3, a4, clr_all m hm i a1 ⟨a2, a3⟩⟩
theorem place_e {x : Int32} (h : ∀ i, 10 ≤ i → i < 32 → bt x i = false) {w : Nat} (hw : w < fb_ct (bt x) 10) : ∃ i, i < 10 ∧ bt x i = true ∧ fb_ct (bt x) i = w ∧ f_X10_placeOfBit x (nI w) = some (nI i) := by
  have hw10 : w < 10 := Nat.lt_of_lt_of_le hw (fb_ct_le _ _)
  -- the lowest of those from the j-th on is the j-th
  have low : ∀ j, j ≤ w → ∀ s : Int32, (∀ i, i < 32 → bt s i = (bt x i && decide (j ≤ fb_ct (bt x) i))) → ∃ i, i < 10 ∧ bt x i = true ∧ fb_ct (bt x) i = j ∧ f_J6_numberOfTrailingZeros_0f7a4 s = some (nI i) ∧ ∀ k, k < 32 → bt (s &&& (s - 1)) k = (bt s k && decide (k ≠ i)) := by
    intro j hj s hs
    obtain ⟨i1, b1, b2, b3⟩ := fb_ct_kth (p := bt x) (k := j) (n := 10) (by omega)
    have hs1 : bt s i1 = true := by rw [hs i1 (by omega), b2, decide_eq_true (by omega)]; rfl
    obtain ⟨i, c1, c2, c3, c4, c5⟩ := low_e (x := s) (fun i h1 h2 => by rw [hs i h2, h i h1 h2]; rfl) ⟨i1, b1, hs1⟩
    rw [hs i (by omega), Bool.and_eq_true, decide_eq_true_eq] at c2
    have hle : i ≤ i1 := Classical.byContradiction fun q => by
      have := c3 i1 (by omega)
      rw [hs1] at this
      cases this
    have := fb_ct_mono (bt x) hle
    exact ⟨i, c1, c2.1, by omega, c4, c5⟩
  unfold f_X10_placeOfBit
  refine lpP (fun fu (s : Int32) j => f_X10_placeOfBit_b4 (nI w) fu s (nI j)) w (fun j s => ∀ i, i < 32 → bt s i = (bt x i && decide (j ≤ fb_ct (bt x) i))) (fun r => ∃ i, i < 10 ∧ bt x i = true ∧ fb_ct (bt x) i = w ∧ r = some (nI i)) ?_ ?_ w 0 x FU (by omega) (FU_lt (by omega)) ?_
  · intro fu j s hj hs
    obtain ⟨i, c1, c2, c3, c4, c5⟩ := low j (by omega) s hs
    refine Or.inl ⟨s &&& (s - 1), fun k hk => ?_, ?_⟩
    · rw [c5 k hk, hs k hk]
      by_cases q : bt x k = true
      · rw [q, Bool.true_and, Bool.true_and]
        refine bool_ext ?_
        rw [Bool.and_eq_true, decide_eq_true_eq, decide_eq_true_eq, decide_eq_true_eq]
        constructor
        · rintro ⟨a1, a2⟩
          have : fb_ct (bt x) k ≠ j := fun e => a2 (fb_ct_kth_one q c2 (by omega))
          omega
        · intro a1
          refine ⟨by omega, fun e => ?_⟩
          subst e
          omega
      · have qf : bt x k = false := by cases hh : bt x k <;> simp_all
        rw [qf]
        rfl
    · simp (disch := omega) only [f_X10_placeOfBit_b4, leF, if_false, nam_e, nI_1]
  · intro fu s hs
    obtain ⟨i, c1, c2, c3, c4, -⟩ := low w (Nat.le_refl _) s hs
    refine ⟨i, c1, c2, c3, ?_⟩
    simp (disch := omega) only [f_X10_placeOfBit_b4, leT, if_true, c4, bnd_e]
  · intro i hi
    rw [decide_eq_true (Nat.zero_le _), Bool.and_true]
section GA
variable {cg cdoors cshafts : Int32} {cone ctwo clen cdr : A32} {G : Nat} {one two len dr : Nat → Nat} {dor opn : Nat → Bool}
/-- the open galleries at a knot -/
def wys (one two : Nat → Nat) (opn : Nat → Bool) (k g : Nat) : Bool := opn g && decide (one g = k ∨ two g = k)
theorem galsAt_e (hM : MA cg cdoors cshafts cone ctwo clen cdr G one two len dor dr) (hw : WF G one two len dr) {copen : Int32} (ho : ∀ g, g < G → bt copen g = opn g) {k : Nat} (hk : k < 7) : ∃ x, f_X5_galleriesAt cg cone ctwo (nI k) copen = some x ∧ ∀ i, i < 32 → bt x i = (decide (i < G) && wys one two opn k i) := by
  have hG := hw.1
  have e0 := hM.1
  obtain ⟨x, h1, e⟩ := lp (fun fu (s : Int32) i => f_X5_galleriesAt_b5 cg cone ctwo (nI k) copen fu s (nI i)) G (fun i s => ∀ j, j < 32 → bt s j = (decide (j < i) && wys one two opn k j)) (fun s => some s) (by
      intro fu i s hi hs
      have hat := isAt_e hM hw hi hk
      have ext : ∀ s' : Int32, (∀ j, j < 32 → bt s' j = (bt s j || (decide (j = i) && wys one two opn k j))) → ∀ j, j < 32 → bt s' j = (decide (j < i + 1) && wys one two opn k j) := by
        intro s' hs' j hj
        rw [hs' j hj, hs j hj]
        by_cases q : j = i
        · subst q; simp
        · by_cases q2 : j < i
          · have q3 : j < i + 1 := by omega
            simp [q, q2, q3]
          · have q3 : ¬ j < i + 1 := by omega
            simp [q, q2, q3]
      by_cases q : one i = k ∨ two i = k
      · refine ⟨s ||| (copen &&& (1 <<< (nI i &&& 31))), ext _ (fun j hj => ?_), ?_⟩
        · rw [b_or, b_and, one_shl (by omega) hj]
          by_cases r : j = i
          · subst r
            rw [ho j hi]
            unfold wys
            simp [q]
          · simp [r]
        · have one0 : ((1 : Int32) = 0) = False := eq_false (by decide)
          simp (disch := omega) only [f_X5_galleriesAt_b5, f_X5_galleriesAt_b33, e0, leF, if_false, hat, decide_eq_true q, b2i_t, bnd_e, one0, nam_e, nI_1]
      · refine ⟨s, ext _ (fun j hj => ?_), ?_⟩
        · by_cases r : j = i
          · subst r
            unfold wys
            simp [q]
          · simp [r]
        · simp (disch := omega) only [f_X5_galleriesAt_b5, f_X5_galleriesAt_b33, e0, leF, if_false, hat, decide_eq_false q, b2i_f, bnd_e, if_true, nam_e, nI_1]) (by
      intro fu s _
      simp (disch := omega) only [f_X5_galleriesAt_b5, e0, leT, if_true]) (i := 0) (k := G) (fu := FU) (s := 0) (by omega) (FU_lt (by omega)) (fun j hj => by simp [b_0])
  exact ⟨x, e, h1⟩
end GA
theorem copyR_e {n : Nat} (hn : n < 1000) (c q : A32) : ∃ c', f_X8_copyFrom n n c q = some c' ∧ ∀ i, i < n → c' i = q i := by
  obtain ⟨c', h1, e⟩ := lp (fun fu (s : A32) i => f_X8_copyFrom_b2 n n q fu s (nI i)) n (fun i s => ∀ j, j < i → s j = q j) (fun s => some s) (by
      intro fu i s hi hs
      refine ⟨upd s i (q i), fun j hj => ?_, ?_⟩
      · rw [upd_e]
        by_cases r : j = i
        · subst r; rw [if_pos rfl]
        · rw [if_neg r]; exact hs j (by omega)
      · simp (disch := omega) only [f_X8_copyFrom_b2, leF, if_false, get_e, bnd_e, inT, if_true, cl_e, nam_e, nI_1]) (by
      intro fu s _
      simp (disch := omega) only [f_X8_copyFrom_b2, leT, if_true]) (i := 0) (k := n) (fu := FU) (s := c) (by omega) (FU_lt (by omega)) (fun j h => absurd h (Nat.not_lt_zero j))
  exact ⟨c', e, h1⟩
theorem sum_e {c : A32} {gas : Nat → Nat} (hg : ∀ k, k < 7 → gas k ≤ 9) (hc : ∀ k, k < 7 → c k = nI (gas k)) : f_X8_sum 7 c = some (nI (fb_sm gas 7)) := by
  obtain ⟨s, h1, e⟩ := lp (fun fu (s : Int32) i => f_X8_sum_b4 7 c fu s (nI i)) 7 (fun i s => s = nI (fb_sm gas i)) (fun s => some s) (by
      rintro fu i s hi rfl
      refine ⟨nI (fb_sm gas (i + 1)), rfl, ?_⟩
      rw [fb_sm_succ]
      have e7 : (nI 7 ≤ nI i) = False := leF hi (by decide)
      simp (disch := omega) only [f_X8_sum_b4, e7, if_false, inT, if_true, cl_e, hc i hi, nI_add, nam_e, nI_1]) (by
      rintro fu s -
      have e7 : (nI 7 ≤ nI 7) = True := leT (Nat.le_refl _) (by decide)
      simp (disch := omega) only [f_X8_sum_b4, e7, if_true]) (i := 0) (k := 7) (fu := FU) (s := 0) rfl (FU_lt (by decide)) rfl
  subst h1
  exact e
end
section
/-! walks by a seed -/
def kth (p : Nat → Bool) (w : Nat) : Nat → Nat
  | 0 => 0
  | n + 1 => if p n = true ∧ fb_ct p n = w then n else kth p w n
theorem kth_e {p : Nat → Bool} {w i : Nat} (h1 : p i = true) (h2 : fb_ct p i = w) : ∀ n, i < n → kth p w n = i := by
  intro n
  induction n with
  | zero => intro h; exact absurd h (Nat.not_lt_zero i)
  | succ n ih =>
    intro h
    unfold kth
    by_cases q : p n = true ∧ fb_ct p n = w
    · rw [if_pos q]
      exact fb_ct_kth_one q.1 h1 (by omega)
    · rw [if_neg q]
      refine ih ?_
      rcases Nat.lt_or_ge i n with r | r
      · exact r
      · have : i = n := by omega
        subst this
        exact absurd ⟨h1, h2⟩ q
abbrev WS : Type := (Nat → Nat) × Nat × (Nat → Nat) × (Nat → Bool)
/-- one man walks: where all are, the seed -/
def dW (M G : Nat) (one two : Nat → Nat) (opn out : Nat → Bool) (place : Nat → Nat) (q : Nat) : (Nat → Nat) × Nat :=
  if M = 0 then (place, q)
  else if out (nxt q / 65536 % M) = true then (place, nxt q)
  else if fb_ct (wys one two opn (place (nxt q / 65536 % M))) G = 0 then (place, nxt q)
  else (fun j => if j = nxt q / 65536 % M then (if one (kth (wys one two opn (place (nxt q / 65536 % M))) (nxt (nxt q) / 65536 % fb_ct (wys one two opn (place (nxt q / 65536 % M))) G) G) = place (nxt q / 65536 % M) then two (kth (wys one two opn (place (nxt q / 65536 % M))) (nxt (nxt q) / 65536 % fb_ct (wys one two opn (place (nxt q / 65536 % M))) G) G) else one (kth (wys one two opn (place (nxt q / 65536 % M))) (nxt (nxt q) / 65536 % fb_ct (wys one two opn (place (nxt q / 65536 % M))) G) G)) else place j, nxt (nxt q))
def wS (M G : Nat) (one two : Nat → Nat) (opn : Nat → Bool) (kind : Nat → Nat) (b : Nat → Bool) (s0 : WS) : Nat → WS
  | 0 => s0
  | n + 1 => ((dW M G one two opn (wS M G one two opn kind b s0 n).2.2.2 (wS M G one two opn kind b s0 n).1 (wS M G one two opn kind b s0 n).2.1).1, (dW M G one two opn (wS M G one two opn kind b s0 n).2.2.2 (wS M G one two opn kind b s0 n).1 (wS M G one two opn kind b s0 n).2.1).2, gas1 b (wS M G one two opn kind b s0 n).2.2.1, fun i => (wS M G one two opn kind b s0 n).2.2.2 i || (decide (i < M) && decide (brs (kind i) < gas1 b (wS M G one two opn kind b s0 n).2.2.1 ((dW M G one two opn (wS M G one two opn kind b s0 n).2.2.2 (wS M G one two opn kind b s0 n).1 (wS M G one two opn kind b s0 n).2.1).1 i))))
/-- the walks' state is as it may be -/
def WSok (M : Nat) (s : WS) : Prop := (∀ m, m < M → s.1 m < 7) ∧ s.2.1 < 2147483648 ∧ (∀ k, k < 7 → s.2.2.1 k ≤ 9) ∧ ∀ i, M ≤ i → s.2.2.2 i = false
section WK
variable {M G : Nat} {one two len dr : Nat → Nat} {opn : Nat → Bool} {kind : Nat → Nat} {b : Nat → Bool}
theorem kth_lt (hw : WF G one two len dr) (p : Nat → Bool) (w : Nat) : kth p w G < G := by
  have hG := hw.1
  have : ∀ n, 0 < n → kth p w n < n := by
    intro n
    induction n with
    | zero => intro h; exact absurd h (Nat.lt_irrefl 0)
    | succ n ih =>
      intro _
      unfold kth
      split
      · omega
      · rcases Nat.eq_zero_or_pos n with r | r
        · subst r
          exact Nat.lt_succ_self 0
        · have := ih r
          omega
  exact this G (by omega)
theorem dW_ok (hw : WF G one two len dr) {out : Nat → Bool} {place : Nat → Nat} {q : Nat} (h1 : ∀ m, m < M → place m < 7) (h2 : q < 2147483648) : (∀ m, m < M → (dW M G one two opn out place q).1 m < 7) ∧ (dW M G one two opn out place q).2 < 2147483648 := by
  unfold dW
  split
  · exact ⟨h1, h2⟩
  · split
    · exact ⟨h1, nxt_lt q⟩
    · split
      · exact ⟨h1, nxt_lt q⟩
      · refine ⟨fun m hm => ?_, nxt_lt _⟩
        try dsimp only
        have hk := kth_lt hw (wys one two opn (place (nxt q / 65536 % M))) (nxt (nxt q) / 65536 % fb_ct (wys one two opn (place (nxt q / 65536 % M))) G)
        obtain ⟨w1, w2, -⟩ := hw.2.1 _ hk
        split
        · split <;> assumption
        · exact h1 m hm
theorem wS_ok (hw : WF G one two len dr) {s0 : WS} (h : WSok M s0) : ∀ n, WSok M (wS M G one two opn kind b s0 n) := by
  intro n
  induction n with
  | zero => exact h
  | succ n ih =>
    obtain ⟨a1, a2, a3, a4⟩ := ih
    have hd := dW_ok (opn := opn) (out := (wS M G one two opn kind b s0 n).2.2.2) hw a1 a2
    refine ⟨hd.1, hd.2, fun k _ => gas1_le, fun i hi => ?_⟩
    show ((wS M G one two opn kind b s0 n).2.2.2 i || _) = false
    rw [a4 i hi, decide_eq_false (by omega)]
    rfl
end WK
section WK2
variable {cg cdoors cshafts : Int32} {cone ctwo clen cdr : A32} {M G T : Nat} {one two len dr : Nat → Nat} {dor opn : Nat → Bool} {kind : Nat → Nat} {b : Nat → Bool}
theorem dream_e (hM : MA cg cdoors cshafts cone ctwo clen cdr G one two len dor dr) (hw : WF G one two len dr) {copen : Int32} (ho : ∀ g, g < G → bt copen g = opn g) (hM6 : M ≤ 6) {place : Nat → Nat} {q : Nat} {out : Nat → Bool} {cout : Int32} (hp : ∀ m, m < M → place m < 7) (hq : q < 2147483648) (hout : ∀ i, i < 32 → bt cout i = out i) {cplace : A32} (hcp : ∀ m, m < M → cplace m = nI (place m)) :
    ∃ cplace', f_X10_dreamWalk cg cone ctwo (nI M) copen cout cplace (nI q) = some (cplace', nI (dW M G one two opn out place q).2) ∧ ∀ m, m < M → cplace' m = nI ((dW M G one two opn out place q).1 m) := by
  have hG := hw.1
  unfold f_X10_dreamWalk
  by_cases h0 : M = 0
  · refine ⟨cplace, ?_, ?_⟩
    · rw [h0]
      unfold dW
      rw [if_pos (show nI 0 = 0 from rfl), if_pos (rfl : (0 : Nat) = 0)]
    · unfold dW
      rw [if_pos h0]
      exact hcp
  · rw [if_neg (nI_ne0 (by omega) (by omega)), draw_e hq (by omega) (by omega), bnd_e]
    have hm : nxt q / 65536 % M < M := Nat.mod_lt _ (by omega)
    unfold dW
    rw [if_neg h0]
    generalize nxt q / 65536 % M = m at *
    try dsimp only
    rw [fbit_e _ (by omega), bnd_e, hout m (by omega)]
    cases hom : out m
    · rw [b2i_f, if_neg (by decide), if_neg (by decide), get_e cplace (by omega) (by decide), bnd_e, hcp m hm]
      obtain ⟨x, ex, hx⟩ := galsAt_e hM hw ho (hp m hm)
      rw [ex, bnd_e]
      have hx10 : ∀ i, 10 ≤ i → i < 32 → bt x i = false := fun i h1 h2 => by rw [hx i h2, decide_eq_false (by omega)]; rfl
      have hcG : fb_ct (bt x) 10 = fb_ct (wys one two opn (place m)) G := by
        rw [ct_cut hG.2 (fun i h1 h2 => by rw [hx i (by omega), decide_eq_false (by omega)]; rfl)]
        exact fb_ct_cong (fun i hi => by rw [hx i (by omega), decide_eq_true hi]; rfl)
      by_cases hc : fb_ct (wys one two opn (place m)) G = 0
      · have hx0 : x = 0 := b_ext (fun i hi => by
          rw [b_0]
          rcases Nat.lt_or_ge i 10 with r | r
          · exact fb_ct_zero.mp (hcG.trans hc) i r
          · exact hx10 i r hi)
        rw [if_pos hx0, if_pos hc]
        exact ⟨cplace, rfl, hcp⟩
      · have hx0 : x ≠ 0 := fun e => by
          subst e
          have : fb_ct (bt 0) 10 = 0 := fb_ct_zero.mpr (fun i _ => b_0 i)
          omega
        rw [if_neg hx0, if_neg hc, bc_e hx10, bnd_e, hcG, draw_e (nxt_lt q) (by omega) (by have := fb_ct_le (wys one two opn (place m)) G; omega), bnd_e]
        have hwl : nxt (nxt q) / 65536 % fb_ct (wys one two opn (place m)) G < fb_ct (wys one two opn (place m)) G := Nat.mod_lt _ (by omega)
        generalize nxt (nxt q) / 65536 % fb_ct (wys one two opn (place m)) G = w at *
        obtain ⟨i, i1, i2, i3, i4⟩ := place_e hx10 (w := w) (by omega)
        try dsimp only
        rw [i4, bnd_e]
        have hiG : i < G ∧ wys one two opn (place m) i = true := by
          rw [hx i (by omega), Bool.and_eq_true, decide_eq_true_eq] at i2
          exact i2
        have hci : fb_ct (wys one two opn (place m)) i = w := by
          rw [← i3]
          exact fb_ct_cong (fun j hj => by rw [hx j (by omega), decide_eq_true (by omega)]; rfl)
        rw [kth_e hiG.2 hci G hiG.1, oth_e hM hw hiG.1 (hp m hm), bnd_e, set_e _ _ (by omega) (by decide), bnd_e]
        refine ⟨_, rfl, fun j hj => ?_⟩
        rw [upd_e]
        by_cases r : j = m
        · rw [if_pos r, if_pos r]
        · rw [if_neg r, if_neg r]
          exact hcp j hj
    · rw [b2i_t, if_pos rfl, if_pos rfl]
      exact ⟨cplace, rfl, hcp⟩
/-- what the class says of walks -/
def wAns (M : Nat) (s : WS) (what : Nat) : Int32 :=
  if what = 0 then nI (fb_ct s.2.2.2 6) else if what = 1 then (if M = 0 then -1 else nI (s.1 0)) else if what = 2 then nI (fb_sm s.2.2.1 7) else nI s.2.1
theorem walks_e (hM : MA cg cdoors cshafts cone ctwo clen cdr G one two len dor dr) (hw : WF G one two len dr) {copen : Int32} (ho : ∀ g, g < G → bt copen g = opn g) {csize cout cgone br : Int32} {ckinds cplace cgas : A32} {gas place : Nat → Nat} {outx : Int32} (hC : CM csize ckinds cplace cgas cout cgone gas kind place outx M T) (hW : WM gas kind place outx M T) (hb : ∀ k, k < 7 → bt br k = b k) {moon : Bool}
    {times seed what : Nat} (t1 : 1 ≤ times) (t2 : times ≤ 60) (hTt : T + times < 100000) (hs : seed < 2147483648) (hwh : what < 4) (x1 x2 x3 x4 : Int32) (x5 x6 : A32) (x7 : Int32) :
    ∃ y : Int32 × Int32 × Int32 × Int32 × A32 × A32 × Int32, f_X10_walks cg cone ctwo br csize ckinds copen (b2i moon) cout cgone cgas cplace x1 x2 x3 x4 x5 x6 x7 (nI times) (nI seed) (nI what) = some (wAns M (wS M G one two opn kind b (place, seed, gas, bt outx) times) what, y) := by
  have hG := hw.1
  obtain ⟨c1, c2, c3, rfl, rfl⟩ := hC
  obtain ⟨hM6, hg9, hkp, hob, hT⟩ := hW
  subst c1
  have ok0 : WSok M (place, seed, gas, bt cout) := ⟨fun m hm => (hkp m hm).2, hs, hg9, fun i hi => by
    rcases Nat.lt_or_ge i 32 with r | r
    · exact hob i hi r
    · exact b_big r⟩
  obtain ⟨g1, eg, hg1⟩ := copyR_e (n := 7) (by decide) x5 cgas
  obtain ⟨p1, ep, hp1⟩ := copyR_e (n := 6) (by decide) x6 cplace
  obtain ⟨⟨o', t', g', p', q'⟩, ⟨r1, r2, r3, r4⟩, e⟩ := lp (fun fu (s : Int32 × Nat × A32 × A32 × Nat) i => f_X10_walks_b62 cg cone ctwo br (nI M) ckinds copen (b2i moon) (nI times) (nI what) fu s.1 (nI s.2.1) s.2.2.1 s.2.2.2.1 (nI s.2.2.2.2) (nI i)) times
    (fun i s => s.2.1 = T + i ∧ s.2.2.2.2 = (wS M G one two opn kind b (place, seed, gas, bt cout) i).2.1 ∧ ((∀ m, m < M → s.2.2.2.1 m = nI ((wS M G one two opn kind b (place, seed, gas, bt cout) i).1 m)) ∧ (∀ k, k < 7 → s.2.2.1 k = nI ((wS M G one two opn kind b (place, seed, gas, bt cout) i).2.2.1 k))) ∧ ∀ j, j < 32 → bt s.1 j = (wS M G one two opn kind b (place, seed, gas, bt cout) i).2.2.2 j)
    (fun s => f_X10_walks_b62 cg cone ctwo br (nI M) ckinds copen (b2i moon) (nI times) (nI what) 1 s.1 (nI s.2.1) s.2.2.1 s.2.2.2.1 (nI s.2.2.2.2) (nI times)) (by
      rintro fu i ⟨o, t, g, p, q⟩ hi ⟨s1, s2, ⟨s3, s4⟩, s5⟩
      try dsimp only at s1 s2 s3 s4 s5
      subst s1 s2
      obtain ⟨k1, k2, k3, k4⟩ := wS_ok (opn := opn) (kind := kind) (b := b) hw ok0 i
      obtain ⟨pl', ed, hpl⟩ := dream_e hM hw ho hM6 k1 k2 s5 s3
      have hd := dW_ok (opn := opn) (out := (wS M G one two opn kind b (place, seed, gas, bt cout) i).2.2.2) hw k1 k2
      obtain ⟨o1, g1, epp, q1, q2⟩ := pass_e (gas := (wS M G one two opn kind b (place, seed, gas, bt cout) i).2.2.1) (kind := kind) (place := (dW M G one two opn (wS M G one two opn kind b (place, seed, gas, bt cout) i).2.2.2 (wS M G one two opn kind b (place, seed, gas, bt cout) i).1 (wS M G one two opn kind b (place, seed, gas, bt cout) i).2.1).1) (out := o) (M := M) (T := T + i) (br := br) (cplace := pl') ⟨hM6, k3, fun m hm => ⟨(hkp m hm).1, hd.1 m hm⟩, fun j hj hj2 => by rw [s5 j hj2, k4 j hj], by omega⟩ s4 (fun m hm => (c2 m hm).1) hpl hb
      refine ⟨(o1, T + (i + 1), g1, pl', (dW M G one two opn (wS M G one two opn kind b (place, seed, gas, bt cout) i).2.2.2 (wS M G one two opn kind b (place, seed, gas, bt cout) i).1 (wS M G one two opn kind b (place, seed, gas, bt cout) i).2.1).2), ⟨rfl, rfl, ⟨hpl, q1⟩, fun j hj => ?_⟩, ?_⟩
      · try dsimp only
        rw [q2 j hj, s5 j hj]
        rfl
      · simp (disch := omega) only [f_X10_walks_b62, leF, if_false, ed, bnd_e, epp, nam_e, nI_1]
        rfl) (by
      rintro fu ⟨o, t, g, p, q⟩ -
      simp (disch := omega) only [f_X10_walks_b62, leT, if_true]) (i := 0) (k := times) (fu := FU) (s := (cout, T, g1, p1, seed)) (by omega) (FU_lt (by omega)) ⟨rfl, rfl, ⟨fun m hm => by
        show p1 m = _
        rw [hp1 m (by omega)]
        exact (c2 m hm).2, fun k hk => by
        show g1 k = _
        rw [hg1 k hk]
        exact c3 k hk⟩, fun j _ => rfl⟩
  try dsimp only at r1 r2 r3 r4 e
  subst r1 r2
  obtain ⟨k1, k2, k3, k4⟩ := wS_ok (opn := opn) (kind := kind) (b := b) hw ok0 times
  have hfin : ∃ y, f_X10_walks_b62 cg cone ctwo br (nI M) ckinds copen (b2i moon) (nI times) (nI what) 1 o' (nI (T + times)) g' p' (nI (wS M G one two opn kind b (place, seed, gas, bt cout) times).2.1) (nI times) = some (wAns M (wS M G one two opn kind b (place, seed, gas, bt cout) times) what, y) := by
    have hbc : f_J6_bitCount_0f7a4 o' = some (nI (fb_ct (wS M G one two opn kind b (place, seed, gas, bt cout) times).2.2.2 6)) := by
      rw [bc_n (n := 6) (by decide) (fun j h1 h2 => by rw [r4 j h2, k4 j (by omega)]), fb_ct_cong (fun j hj => r4 j (by omega))]
    have hsum := sum_e k3 r3.2
    rcases (show what = 0 ∨ what = 1 ∨ what = 2 ∨ what = 3 by omega) with rfl | rfl | rfl | rfl
    · refine ⟨(copen, b2i moon, o', nI (T + times), g', p', nI (wS M G one two opn kind b (place, seed, gas, bt cout) times).2.1), ?_⟩
      simp (disch := omega) only [f_X10_walks_b62, leT, if_true, eq0T, hbc, bnd_e]
      rfl
    · have h10 : (nI 1 = 0) = False := eq_false (by decide)
      have h11 : (nI 1 = 1) = True := eq_true rfl
      by_cases hM0 : M = 0
      · refine ⟨(copen, b2i moon, o', nI (T + times), g', p', nI (wS M G one two opn kind b (place, seed, gas, bt cout) times).2.1), ?_⟩
        subst hM0
        have hh : f_X1_has (nI 0) 0 = some 0 := by decide
        simp (disch := omega) only [f_X10_walks_b62, leT, if_true, h10, h11, if_false, hh, bnd_e]
        rfl
      · refine ⟨(copen, b2i moon, o', nI (T + times), g', p', nI (wS M G one two opn kind b (place, seed, gas, bt cout) times).2.1), ?_⟩
        have hh : f_X1_has (nI M) 0 = some 1 := has_e (m := 0) hM6 (by omega)
        have hg : f_X8_get 6 p' 0 = some (p' 0) := get_e (i := 0) p' (by decide) (by decide)
        have one0 : ((1 : Int32) = 0) = False := eq_false (by decide)
        simp (disch := omega) only [f_X10_walks_b62, leT, if_true, h10, h11, if_false, hh, hg, bnd_e, one0, r3.1 0 (by omega)]
        unfold wAns
        rw [if_neg (by decide), if_pos rfl, if_neg hM0]
    · have h20 : (nI 2 = 0) = False := eq_false (by decide)
      have h21 : (nI 2 = 1) = False := eq_false (by decide)
      have h22 : (nI 2 = 2) = True := eq_true rfl
      refine ⟨(copen, b2i moon, o', nI (T + times), g', p', nI (wS M G one two opn kind b (place, seed, gas, bt cout) times).2.1), ?_⟩
      simp (disch := omega) only [f_X10_walks_b62, leT, if_true, h20, h21, h22, if_false, hsum, bnd_e]
      rfl
    · have h30 : (nI 3 = 0) = False := eq_false (by decide)
      have h31 : (nI 3 = 1) = False := eq_false (by decide)
      have h32 : (nI 3 = 2) = False := eq_false (by decide)
      refine ⟨(copen, b2i moon, o', nI (T + times), g', p', nI (wS M G one two opn kind b (place, seed, gas, bt cout) times).2.1), ?_⟩
      simp (disch := omega) only [f_X10_walks_b62, leT, if_true, h30, h31, h32, if_false]
      rfl
  obtain ⟨y, ey⟩ := hfin
  refine ⟨y, ?_⟩
  unfold f_X10_walks f_X3_copyFrom
  have hmoon : b2i moon = 0 ∨ b2i moon = 1 := by cases moon <;> simp [b2i]
  rw [show f_X5_isRead cg = some 1 by rw [hM.1]; exact isRead_e hG.1 hG.2, bnd_e, if_neg (by decide), if_neg (show ¬ nI times < 1 from nI_nlt (b := 1) t1 (by omega)), if_neg (show ¬ (60 : Int32) < nI times from nI_nlt (a := 60) t2 (by decide)), if_neg (nI_pos (n := seed) (by omega)), if_neg (nI_pos (n := what) (by omega)), if_pos (show nI what ≤ 3 from nI_le (b := 3) (by omega) (by decide)), if_pos hmoon, eg, ep, bnd_e, bnd_e, bnd_e]
  try dsimp only
  exact e.trans ey
end WK2
end
section
/-! walks, as the law does them -/
theorem subI0 {a b : Nat} (ha : a < 1000) (hb : b < 1000) : nI a - nI b = 0 ↔ a = b := by
  constructor
  · intro h
    have h1 := congrArg Int32.toInt h
    rw [pk_sub_toInt (by omega) (by omega)] at h1
    have e : (0 : Int32).toInt = 0 := by decide
    rw [e] at h1
    omega
  · rintro rfl
    exact Int32.sub_self _
theorem subI1 (a b : Nat) : nI a - nI b + (-1) = nI a - nI (b + 1) := by
  rw [← nI_1]
  simp only [Int32.sub_eq_add_neg, Int32.neg_add, Int32.add_assoc]
theorem cmp_self (x : Int64) : lg_cmp x x = 0 := by
  unfold lg_cmp
  rw [if_neg (fun h => by
    rw [gt_iff_lt, Int64.lt_iff_toInt_lt] at h
    omega), if_pos rfl]
theorem le22T {i : Nat} (h : 22 ≤ i) (hi : i < 2 ^ 31) : ((22 : Int32) ≤ nI i) = True := leT h hi
theorem le22F {i : Nat} (h : i < 22) : ((22 : Int32) ≤ nI i) = False := leF h (by decide)
section LW
variable {d a c : A32} {G : Nat} {one two len dr : Nat → Nat} {dor opn : Nat → Bool} {moon : Bool} {fl : Nat → Option Nat} {gas kind place : Nat → Nat} {outx : Int32} {M T q : Nat}
theorem PA.move {m x : Nat} (hP : PA c gas kind place outx M T) (hM : M ≤ 6) (hm : m < M) : PA (upd c (13 + m) (nI x)) gas kind (fun j => if j = m then x else place j) outx M T := by
  obtain ⟨p1, p2, p3, p4, p5⟩ := hP
  refine ⟨fun k hk => ?_, fun j hj => ⟨?_, ?_⟩, ?_, ?_, ?_⟩
  · rw [upd_n _ _ (by omega)]; exact p1 k hk
  · rw [upd_n _ _ (by omega)]; exact (p2 j hj).1
  · show upd c (13 + m) (nI x) (13 + j) = nI (if j = m then x else place j)
    rw [upd_e]
    by_cases r : j = m
    · subst r; rw [if_pos rfl, if_pos rfl]
    · rw [if_neg (by omega), if_neg r]; exact (p2 j hj).2
  · rw [upd_n _ _ (by omega)]; exact p3
  · rw [upd_n _ _ (by omega)]; exact p4
  · rw [upd_n _ _ (by omega)]; exact p5
set_option maxHeartbeats 4000000 in
theorem dreamL_e (hD : DA d G one two len dor opn moon dr) (hw : WF G one two len dr) (hP : PA c gas kind place outx M T) (hW : WM gas kind place outx M T) (hq : q < 2147483648)
    (cg : Int32) (cone ctwo : A32) (br csize : Int32) (ckinds : A32) (copen cmoon cout cgone : Int32) (cgas cplace : A32) (x1 x2 x3 x4 : Int32) (x5 x6 : A32) (x7 : Int32) (seed : Int32) {times i : Nat} (hi : i < times) (ht : times ≤ 60) (fu : Nat) :
    ∃ c', PA c' gas kind (dW M G one two opn (bt outx) place q).1 outx M T ∧ f_L_walks_b45 59 22 cg cone ctwo br csize ckinds copen cmoon cout cgone cgas cplace x1 x2 x3 x4 x5 x6 x7 d a (nI times) seed (fu + 1) c (lN q) (nI i) = f_L_walks_b299 (f_L_walks_b45 59 22 cg cone ctwo br csize ckinds copen cmoon cout cgone cgas cplace x1 x2 x3 x4 x5 x6 x7 d a (nI times) seed fu) 59 22 cg cone ctwo br csize ckinds copen cmoon cout cgone cgas cplace x1 x2 x3 x4 x5 x6 x7 d c' a (nI times) seed (lN (dW M G one two opn (bt outx) place q).2) (nI i) := by
  have hG := hw.1
  obtain ⟨hM6, hg9, hkp, hob, hT⟩ := hW
  have hP' := hP
  obtain ⟨p1, p2, p3, p4, p5⟩ := hP
  have e0 := hD.1
  by_cases h0 : M = 0
  · refine ⟨c, ?_, ?_⟩
    · unfold dW
      rw [if_pos h0]
      exact hP'
    · unfold dW
      rw [if_pos h0]
      simp (maxSteps := 4000000) (disch := omega) only [f_L_walks_b45, leF, if_false, in20, if_true, cl20, p4, le0T]
  · have hM0 : (lN M = (0 : Int64)) = False := eq_false (fun h => h0 ((pk_lEQ (a := M) (b := 0) (by omega) (by decide)).mp h))
    have hq1 := nxt_lt q
    have hm : nxt q / 65536 % M < M := Nat.mod_lt _ (by omega)
    -- to the counting
    have s1 : f_L_walks_b45 59 22 cg cone ctwo br csize ckinds copen cmoon cout cgone cgas cplace x1 x2 x3 x4 x5 x6 x7 d a (nI times) seed (fu + 1) c (lN q) (nI i) = f_L_walks_b97 (f_L_walks_b45 59 22 cg cone ctwo br csize ckinds copen cmoon cout cgone cgas cplace x1 x2 x3 x4 x5 x6 x7 d a (nI times) seed fu) 59 22 cg cone ctwo br csize ckinds copen cmoon cout cgone cgas cplace x1 x2 x3 x4 x5 x6 x7 d c a (nI times) seed (lN (nxt q)) (nI i) (nI (nxt q / 65536 % M)) FU 0 0 := by
      simp (maxSteps := 4000000) (disch := omega) only [f_L_walks_b45, leF, if_false, in20, if_true, cl20, p4, le0F, nxtL_e hq, nam_e, nI_l, hM0, drawL_e]
    rw [s1]
    unfold dW
    rw [if_neg h0]
    generalize nxt q / 65536 % M = m at *
    generalize (f_L_walks_b45 59 22 cg cone ctwo br csize ckinds copen cmoon cout cgone cgas cplace x1 x2 x3 x4 x5 x6 x7 d a (nI times) seed fu) = k45 at *
    obtain ⟨k1, k2⟩ := hkp m hm
    have c13 := (p2 m hm).2
    obtain ⟨v, hv, e⟩ := lp (fun fu (s : Int32) g => f_L_walks_b97 k45 59 22 cg cone ctwo br csize ckinds copen cmoon cout cgone cgas cplace x1 x2 x3 x4 x5 x6 x7 d c a (nI times) seed (lN (nxt q)) (nI i) (nI m) fu s (nI g)) G
      (fun g s => s = nI (fb_ct (wys one two opn (place m)) g))
      (fun s => f_L_walks_b97 k45 59 22 cg cone ctwo br csize ckinds copen cmoon cout cgone cgas cplace x1 x2 x3 x4 x5 x6 x7 d c a (nI times) seed (lN (nxt q)) (nI i) (nI m) 1 s (nI G)) (by
        rintro fu g s hg rfl
        refine ⟨nI (fb_ct (wys one two opn (place m)) (g + 1)), rfl, ?_⟩
        obtain ⟨e1, e2, e3, e4, e5⟩ := hD.2.2.1 g hg
        obtain ⟨w1, w2, w3, -, -⟩ := hw.2.1 g hg
        rw [fb_ct_succ]
        cases hop : opn g
        · have hwy : wys one two opn (place m) g = false := by unfold wys; rw [hop]; rfl
          simp (maxSteps := 4000000) (disch := omega) only [f_L_walks_b97, f_L_walks_b157, f_L_walks_b158, in0, cl0, e0, leF, if_true, if_false, ad41, inT, cl_e, e5, hop, b2i_1, ftF, hwy, Nat.add_zero, Int32.add_zero, nam_e, nI_1]
        · by_cases q1 : one g = place m
          · have hwy : wys one two opn (place m) g = true := by unfold wys; rw [hop, decide_eq_true (Or.inl q1)]; rfl
            simp (maxSteps := 4000000) (disch := omega) only [f_L_walks_b97, f_L_walks_b153, f_L_walks_b158, in0, cl0, e0, leF, if_true, if_false, ad41, ad1, ad13, inT, cl_e, e5, e1, c13, hop, b2i_1, eqT, hwy, nam_e, nI_1]
          · by_cases q2 : two g = place m
            · have hwy : wys one two opn (place m) g = true := by unfold wys; rw [hop, decide_eq_true (Or.inr q2)]; rfl
              simp (maxSteps := 4000000) (disch := omega) only [f_L_walks_b97, f_L_walks_b153, f_L_walks_b158, in0, cl0, e0, leF, if_true, if_false, ad41, ad1, ad11, ad13, inT, cl_e, e5, e1, e2, c13, hop, b2i_1, eqT, eqF, hwy, nam_e, nI_1]
            · have hwy : wys one two opn (place m) g = false := by unfold wys; rw [hop, decide_eq_false (fun h => h.elim q1 q2)]; rfl
              simp (maxSteps := 4000000) (disch := omega) only [f_L_walks_b97, f_L_walks_b157, f_L_walks_b158, in0, cl0, e0, leF, if_true, if_false, ad41, ad1, ad11, ad13, inT, cl_e, e5, e1, e2, c13, hop, b2i_1, eqF, ftF, hwy, Nat.add_zero, Int32.add_zero, nam_e, nI_1]) (by
        rintro fu s -
        simp (maxSteps := 4000000) (disch := omega) only [f_L_walks_b97, in0, cl0, e0, leT, if_true]) (i := 0) (k := G) (fu := FU) (s := 0) (by omega) (FU_lt (by omega)) rfl
    subst hv
    rw [show f_L_walks_b97 k45 59 22 cg cone ctwo br csize ckinds copen cmoon cout cgone cgas cplace x1 x2 x3 x4 x5 x6 x7 d c a (nI times) seed (lN (nxt q)) (nI i) (nI m) FU 0 0 = f_L_walks_b97 k45 59 22 cg cone ctwo br csize ckinds copen cmoon cout cgone cgas cplace x1 x2 x3 x4 x5 x6 x7 d c a (nI times) seed (lN (nxt q)) (nI i) (nI m) FU 0 (nI 0) from rfl, e]
    have hcl := fb_ct_le (wys one two opn (place m)) G
    cases hom : bt outx m
    · rw [if_neg (by decide)]
      by_cases hc : fb_ct (wys one two opn (place m)) G = 0
      · rw [if_pos hc]
        refine ⟨c, hP', ?_⟩
        simp (maxSteps := 4000000) (disch := omega) only [f_L_walks_b97, in0, cl0, e0, leT, if_true, in19, cl19, p3, bit_e, hom, b2i_0, le0T]
      · rw [if_neg hc]
        have hc0 : (lN (fb_ct (wys one two opn (place m)) G) = (0 : Int64)) = False := eq_false (fun h => hc ((pk_lEQ (b := 0) (by omega) (by decide)).mp h))
        have hq2 := nxt_lt (nxt q)
        have hwl : nxt (nxt q) / 65536 % fb_ct (wys one two opn (place m)) G < fb_ct (wys one two opn (place m)) G := Nat.mod_lt _ (by omega)
        have s2 : f_L_walks_b97 k45 59 22 cg cone ctwo br csize ckinds copen cmoon cout cgone cgas cplace x1 x2 x3 x4 x5 x6 x7 d c a (nI times) seed (lN (nxt q)) (nI i) (nI m) 1 (nI (fb_ct (wys one two opn (place m)) G)) (nI G) = f_L_walks_b227 k45 59 22 cg cone ctwo br csize ckinds copen cmoon cout cgone cgas cplace x1 x2 x3 x4 x5 x6 x7 d a (nI times) seed (lN (nxt (nxt q))) (nI i) (nI m) (nI (place m)) FU c (nI (nxt (nxt q) / 65536 % fb_ct (wys one two opn (place m)) G)) 0 := by
          simp (maxSteps := 4000000) (disch := omega) only [f_L_walks_b97, in0, cl0, e0, leT, if_true, in19, cl19, p3, bit_e, hom, b2i_0, le0F, if_false, nxtL_e hq1, nam_e, nI_l, hc0, drawL_e, ad13, inT, cl_e, c13]
        rw [s2]
        generalize nxt (nxt q) / 65536 % fb_ct (wys one two opn (place m)) G = w at *
        obtain ⟨g0, g1, g2, g3⟩ := fb_ct_kth (p := wys one two opn (place m)) (k := w) (n := G) hwl
        rw [kth_e g2 g3 G g1]
        have hw10 : w < 10 := by omega
        obtain ⟨⟨c', v'⟩, ⟨r1, r2⟩, e2⟩ := lp (fun fu (s : A32 × Int32) g => f_L_walks_b227 k45 59 22 cg cone ctwo br csize ckinds copen cmoon cout cgone cgas cplace x1 x2 x3 x4 x5 x6 x7 d a (nI times) seed (lN (nxt (nxt q))) (nI i) (nI m) (nI (place m)) fu s.1 s.2 (nI g)) G
          (fun g s => s.1 = (if g0 < g then upd c (13 + m) (nI (if one g0 = place m then two g0 else one g0)) else c) ∧ s.2 = nI w - nI (fb_ct (wys one two opn (place m)) g))
          (fun s => f_L_walks_b299 k45 59 22 cg cone ctwo br csize ckinds copen cmoon cout cgone cgas cplace x1 x2 x3 x4 x5 x6 x7 d s.1 a (nI times) seed (lN (nxt (nxt q))) (nI i)) (by
            rintro fu g ⟨cc, vv⟩ hg ⟨s1', s2'⟩
            dsimp only at s1' s2'
            subst s2'
            obtain ⟨e1, e2, e3, e4, e5⟩ := hD.2.2.1 g hg
            obtain ⟨w1, w2, w3, -, -⟩ := hw.2.1 g hg
            have hgl := fb_ct_le (wys one two opn (place m)) g
            have hoth := L_other_e hD hw hg k2
            -- a gallery that isn't a way, and one that is
            have noway : wys one two opn (place m) g = false → ∃ s' : A32 × Int32, (s'.1 = (if g0 < g + 1 then upd c (13 + m) (nI (if one g0 = place m then two g0 else one g0)) else c) ∧ s'.2 = nI w - nI (fb_ct (wys one two opn (place m)) (g + 1))) ∧ s' = (cc, nI w - nI (fb_ct (wys one two opn (place m)) g)) := by
              intro hwy
              refine ⟨_, ⟨?_, ?_⟩, rfl⟩
              · dsimp only
                rw [s1']
                have hne : g ≠ g0 := fun h => by subst h; rw [g2] at hwy; cases hwy
                by_cases r : g0 < g
                · rw [if_pos r, if_pos (show g0 < g + 1 by omega)]
                · rw [if_neg r, if_neg (show ¬ g0 < g + 1 by omega)]
              · dsimp only
                rw [fb_ct_succ, hwy]
                rfl
            have way : wys one two opn (place m) g = true → ∃ s' : A32 × Int32, (s'.1 = (if g0 < g + 1 then upd c (13 + m) (nI (if one g0 = place m then two g0 else one g0)) else c) ∧ s'.2 = nI w - nI (fb_ct (wys one two opn (place m)) (g + 1))) ∧ f_L_walks_b269 k45 (f_L_walks_b227 k45 59 22 cg cone ctwo br csize ckinds copen cmoon cout cgone cgas cplace x1 x2 x3 x4 x5 x6 x7 d a (nI times) seed (lN (nxt (nxt q))) (nI i) (nI m) (nI (place m)) fu) 59 22 cg cone ctwo br csize ckinds copen cmoon cout cgone cgas cplace x1 x2 x3 x4 x5 x6 x7 d cc a (nI times) seed (lN (nxt (nxt q))) (nI i) (nI m) (nI w - nI (fb_ct (wys one two opn (place m)) g)) (nI (place m)) (nI g) = f_L_walks_b227 k45 59 22 cg cone ctwo br csize ckinds copen cmoon cout cgone cgas cplace x1 x2 x3 x4 x5 x6 x7 d a (nI times) seed (lN (nxt (nxt q))) (nI i) (nI m) (nI (place m)) fu s'.1 s'.2 (nI (g + 1)) := by
              intro hwy
              have hct : fb_ct (wys one two opn (place m)) (g + 1) = fb_ct (wys one two opn (place m)) g + 1 := by rw [fb_ct_succ, hwy]; rfl
              by_cases r : g = g0
              · subst r
                have h00 : (nI w - nI (fb_ct (wys one two opn (place m)) g) = 0) = True := eq_true ((subI0 (by omega) (by omega)).mpr g3.symm)
                refine ⟨(upd c (13 + m) (nI (if one g = place m then two g else one g)), nI w - nI (fb_ct (wys one two opn (place m)) (g + 1))), ⟨?_, rfl⟩, ?_⟩
                · dsimp only
                  rw [if_pos (Nat.lt_succ_self g)]
                · rw [if_neg (Nat.lt_irrefl g)] at s1'
                  subst s1'
                  simp (maxSteps := 4000000) (disch := omega) only [f_L_walks_b269, f_L_walks_b293, h00, if_true, hoth, bnd_e, ad13, inT, cl_e, nam_e, nI_1, subI1, hct]
              · have h00 : (nI w - nI (fb_ct (wys one two opn (place m)) g) = 0) = False := eq_false (fun h => r (fb_ct_kth_one hwy g2 (by rw [g3]; exact ((subI0 (by omega) (by omega)).mp h).symm)))
                refine ⟨(cc, nI w - nI (fb_ct (wys one two opn (place m)) (g + 1))), ⟨?_, rfl⟩, ?_⟩
                · dsimp only
                  rw [s1']
                  by_cases r2 : g0 < g
                  · rw [if_pos r2, if_pos (show g0 < g + 1 by omega)]
                  · rw [if_neg r2, if_neg (show ¬ g0 < g + 1 by omega)]
                · simp (maxSteps := 4000000) (disch := omega) only [f_L_walks_b269, f_L_walks_b293, h00, if_false, nam_e, nI_1, subI1, hct]
            cases hop : opn g
            · have hwy : wys one two opn (place m) g = false := by unfold wys; rw [hop]; rfl
              obtain ⟨s', b1, rfl⟩ := noway hwy
              refine ⟨_, b1, ?_⟩
              simp (maxSteps := 4000000) (disch := omega) only [f_L_walks_b227, f_L_walks_b293, in0, cl0, e0, leF, if_true, if_false, ad41, inT, cl_e, e5, hop, b2i_1, ftF, nam_e, nI_1]
            · by_cases q1 : one g = place m
              · obtain ⟨s', b1, b2⟩ := way (by unfold wys; rw [hop, decide_eq_true (Or.inl q1)]; rfl)
                refine ⟨s', b1, ?_⟩
                rw [← b2]
                simp (maxSteps := 4000000) (disch := omega) only [f_L_walks_b227, in0, cl0, e0, leF, if_true, if_false, ad41, ad1, inT, cl_e, e5, e1, hop, b2i_1, eqT]
              · by_cases q2 : two g = place m
                · obtain ⟨s', b1, b2⟩ := way (by unfold wys; rw [hop, decide_eq_true (Or.inr q2)]; rfl)
                  refine ⟨s', b1, ?_⟩
                  rw [← b2]
                  simp (maxSteps := 4000000) (disch := omega) only [f_L_walks_b227, in0, cl0, e0, leF, if_true, if_false, ad41, ad1, ad11, inT, cl_e, e5, e1, e2, hop, b2i_1, eqT, eqF]
                · have hwy : wys one two opn (place m) g = false := by unfold wys; rw [hop, decide_eq_false (fun h => h.elim q1 q2)]; rfl
                  obtain ⟨s', b1, rfl⟩ := noway hwy
                  refine ⟨_, b1, ?_⟩
                  simp (maxSteps := 4000000) (disch := omega) only [f_L_walks_b227, f_L_walks_b293, in0, cl0, e0, leF, if_true, if_false, ad41, ad1, ad11, inT, cl_e, e5, e1, e2, hop, b2i_1, eqF, nam_e, nI_1]) (by
            rintro fu ⟨cc, vv⟩ -
            simp (maxSteps := 4000000) (disch := omega) only [f_L_walks_b227, in0, cl0, e0, leT, if_true]) (i := 0) (k := G) (fu := FU) (s := (c, nI w)) (by omega) (FU_lt (by omega)) ⟨by rw [if_neg (Nat.not_lt_zero _)], by
              show nI w = nI w - nI 0
              rw [show nI 0 = 0 from rfl, Int32.sub_zero]⟩
        dsimp only at r1 e2
        rw [if_pos g1] at r1
        subst r1
        refine ⟨_, hP'.move hM6 hm, ?_⟩
        exact e2
    · rw [if_pos rfl]
      refine ⟨c, hP', ?_⟩
      simp (maxSteps := 4000000) (disch := omega) only [f_L_walks_b97, in0, cl0, e0, leT, if_true, in19, cl19, p3, bit_e, hom, b2i_0, tfF, if_false]
end LW
end
section
/-! the law's walks say true -/
theorem PA.of {p c : A32} {gas kind place : Nat → Nat} {outx : Int32} {M T : Nat} (h : PA p gas kind place outx M T) (hM : M ≤ 6) (hc : ∀ k, k < 22 → c k = p k) : PA c gas kind place outx M T := by
  obtain ⟨p1, p2, p3, p4, p5⟩ := h
  refine ⟨fun k hk => ?_, fun m hm => ⟨?_, ?_⟩, ?_, ?_, ?_⟩
  · rw [hc _ (by omega)]; exact p1 k hk
  · rw [hc _ (by omega)]; exact (p2 m hm).1
  · rw [hc _ (by omega)]; exact (p2 m hm).2
  · rw [hc _ (by omega)]; exact p3
  · rw [hc _ (by omega)]; exact p4
  · rw [hc _ (by omega)]; exact p5
set_option maxHeartbeats 4000000 in
theorem L_walks_e {d p : A32} {cg cdoors cshafts : Int32} {cone ctwo clen cdr : A32} {M G T : Nat} {one two len dr : Nat → Nat} {dor opn : Nat → Bool} {moon : Bool} {kind : Nat → Nat} {gas place : Nat → Nat} {outx : Int32} {cbr : Int32} {csize cout cgone copen : Int32} {ckinds cplace cgas : A32}
    (hM : MA cg cdoors cshafts cone ctwo clen cdr G one two len dor dr) (hD : DA d G one two len dor opn moon dr) (hw : WF G one two len dr) (ho : ∀ g, g < G → bt copen g = opn g) (hb : ∀ k, k < 7 → bt cbr k = dcd (brt G one two (flw G one two opn moon dr) k))
    (hC : CM csize ckinds cplace cgas cout cgone gas kind place outx M T) (hP : PA p gas kind place outx M T) (hW : WM gas kind place outx M T) {times seed : Nat} (t1 : 1 ≤ times) (t2 : times ≤ 60) (hTt : T + times < 100000) (hs : seed < 2147483648) (x1 x2 x3 x4 : Int32) (x5 x6 : A32) (x7 : Int32) :
    ∃ y : Int32 × Int32 × Int32 × Int32 × A32 × A32 × Int32, f_L_walks 59 22 cg cone ctwo cbr csize ckinds copen (b2i moon) cout cgone cgas cplace x1 x2 x3 x4 x5 x6 x7 d p (nI times) (nI seed) = some (1, y) := by
  have hG := hw.1
  have hfl : ∀ g x, g < G → flw G one two opn moon dr g = some x → x < 7 := fun g x hg h => flw_lt hw hg h
  have hM6 := hW.1
  obtain ⟨a, ea, ha⟩ := L_air_e hD hw
  obtain ⟨b, hbb⟩ : ∃ b : Nat → Bool, b = fun k => dcd (brt G one two (flw G one two opn moon dr) k) := ⟨_, rfl⟩
  have hb' : ∀ k, k < 7 → bt cbr k = b k := fun k hk => by rw [hbb]; exact hb k hk
  have ok0 : WSok M (place, seed, gas, bt outx) := ⟨fun m hm => (hW.2.2.1 m hm).2, hs, hW.2.1, fun i hi => by
    rcases Nat.lt_or_ge i 32 with r | r
    · exact hW.2.2.2.1 i hi r
    · exact b_big r⟩
  unfold f_L_walks
  -- a copy
  obtain ⟨c0, hc0, e0⟩ := lp (fun fu (s : A32) i => f_L_walks_b9 59 22 cg cone ctwo cbr csize ckinds copen (b2i moon) cout cgone cgas cplace x1 x2 x3 x4 x5 x6 x7 d p (nI times) (nI seed) fu s (nI i)) 22 (fun i s => ∀ k, k < i → s k = p k)
    (fun s => f_L_walks_b45 59 22 cg cone ctwo cbr csize ckinds copen (b2i moon) cout cgone cgas cplace x1 x2 x3 x4 x5 x6 x7 d a (nI times) (nI seed) FU s (lN seed) 0) (by
      intro fu i s hi h1
      refine ⟨upd s i (p i), fun k hk => ?_, ?_⟩
      · rw [upd_e]
        by_cases r : k = i
        · subst r; rw [if_pos rfl]
        · rw [if_neg r]; exact h1 k (by omega)
      · simp (maxSteps := 4000000) (disch := omega) only [f_L_walks_b9, le22F, if_false, inT, if_true, nam_e, cl_e, nI_1]) (by
      intro fu s _
      simp (maxSteps := 4000000) (disch := omega) only [f_L_walks_b9, le22T, if_true, ea, bnd_e, nam_e, nI_l]) (i := 0) (k := 22) (fu := FU) (s := fun _ => 0) rfl (FU_lt (by decide)) (fun k h => absurd h (Nat.not_lt_zero k))
  rw [show f_L_walks_b9 59 22 cg cone ctwo cbr csize ckinds copen (b2i moon) cout cgone cgas cplace x1 x2 x3 x4 x5 x6 x7 d p (nI times) (nI seed) FU (fun _ => 0) 0 = f_L_walks_b45 59 22 cg cone ctwo cbr csize ckinds copen (b2i moon) cout cgone cgas cplace x1 x2 x3 x4 x5 x6 x7 d a (nI times) (nI seed) FU c0 (lN seed) 0 from e0]
  -- the minutes
  obtain ⟨⟨c, q⟩, ⟨o, hq, hPc, ho'⟩, e1⟩ := lp (fun fu (s : A32 × Nat) i => f_L_walks_b45 59 22 cg cone ctwo cbr csize ckinds copen (b2i moon) cout cgone cgas cplace x1 x2 x3 x4 x5 x6 x7 d a (nI times) (nI seed) fu s.1 (lN s.2) (nI i)) times
    (fun i s => ∃ o, s.2 = (wS M G one two opn kind b (place, seed, gas, bt outx) i).2.1 ∧ PA s.1 (wS M G one two opn kind b (place, seed, gas, bt outx) i).2.2.1 kind (wS M G one two opn kind b (place, seed, gas, bt outx) i).1 o M T ∧ ∀ j, j < 32 → bt o j = (wS M G one two opn kind b (place, seed, gas, bt outx) i).2.2.2 j)
    (fun s => f_L_walks_b323 59 22 cg cone ctwo cbr csize ckinds copen (b2i moon) cout cgone cgas cplace x1 x2 x3 x4 x5 x6 x7 s.1 a (nI times) (nI seed) (lN s.2) FU 0 0 0) (by
      rintro fu i ⟨c, q⟩ hi ⟨o, hq, hPc, ho'⟩
      dsimp only at hq hPc
      subst hq
      obtain ⟨k1, k2, k3, k4⟩ := wS_ok (opn := opn) (kind := kind) (b := b) hw ok0 i
      have hWi : WM (wS M G one two opn kind b (place, seed, gas, bt outx) i).2.2.1 kind (wS M G one two opn kind b (place, seed, gas, bt outx) i).1 o M T := ⟨hM6, k3, fun m hm => ⟨(hW.2.2.1 m hm).1, k1 m hm⟩, fun j hj hj2 => by rw [ho' j hj2, k4 j hj], by omega⟩
      obtain ⟨c', hP', ed⟩ := dreamL_e (a := a) hD hw hPc hWi k2 cg cone ctwo cbr csize ckinds copen (b2i moon) cout cgone cgas cplace x1 x2 x3 x4 x5 x6 x7 (nI seed) hi t2 fu
      have hout : dW M G one two opn (bt o) (wS M G one two opn kind b (place, seed, gas, bt outx) i).1 (wS M G one two opn kind b (place, seed, gas, bt outx) i).2.1 = dW M G one two opn (wS M G one two opn kind b (place, seed, gas, bt outx) i).2.2.2 (wS M G one two opn kind b (place, seed, gas, bt outx) i).1 (wS M G one two opn kind b (place, seed, gas, bt outx) i).2.1 := by
        unfold dW
        by_cases h0 : M = 0
        · rw [if_pos h0, if_pos h0]
        · have hm : nxt (wS M G one two opn kind b (place, seed, gas, bt outx) i).2.1 / 65536 % M < M := Nat.mod_lt _ (by omega)
          rw [ho' _ (by omega)]
      rw [hout] at hP' ed
      have hd := dW_ok (opn := opn) (out := (wS M G one two opn kind b (place, seed, gas, bt outx) i).2.2.2) hw k1 k2
      obtain ⟨n, c'', o'', em, hP'', hO, -⟩ := L_minute_e hD hw hfl ha hP' ⟨hM6, k3, fun m hm => ⟨(hW.2.2.1 m hm).1, hd.1 m hm⟩, hWi.2.2.2.1, by omega⟩
      refine ⟨(c'', (dW M G one two opn (wS M G one two opn kind b (place, seed, gas, bt outx) i).2.2.2 (wS M G one two opn kind b (place, seed, gas, bt outx) i).1 (wS M G one two opn kind b (place, seed, gas, bt outx) i).2.1).2), ⟨o'', rfl, ?_, fun j hj => ?_⟩, ?_⟩
      · rw [← hbb] at hP''
        exact hP''
      · rw [hO j hj, ho' j hj, ← hbb]
        rfl
      · dsimp only
        rw [ed]
        unfold f_L_walks_b299
        rw [em, bnd_e, nam_e, nI_1]) (by
      rintro fu ⟨c, q⟩ -
      simp (maxSteps := 4000000) (disch := omega) only [f_L_walks_b45, leT, if_true]) (i := 0) (k := times) (fu := FU) (s := (c0, seed)) (by omega) (FU_lt (by omega)) ⟨outx, rfl, hP.of hM6 hc0, fun j _ => rfl⟩
  dsimp only at hq hPc
  subst hq
  rw [show f_L_walks_b45 59 22 cg cone ctwo cbr csize ckinds copen (b2i moon) cout cgone cgas cplace x1 x2 x3 x4 x5 x6 x7 d a (nI times) (nI seed) FU c0 (lN seed) 0 = f_L_walks_b323 59 22 cg cone ctwo cbr csize ckinds copen (b2i moon) cout cgone cgas cplace x1 x2 x3 x4 x5 x6 x7 c a (nI times) (nI seed) (lN (wS M G one two opn kind b (place, seed, gas, bt outx) times).2.1) FU 0 0 0 from e1]
  obtain ⟨k1, k2, k3, k4⟩ := wS_ok (opn := opn) (kind := kind) (b := b) hw ok0 times
  obtain ⟨p1, p2, p3, p4, p5⟩ := hPc
  have hwk : ∀ what, what < 4 → ∀ (x1 x2 x3 x4 : Int32) (x5 x6 : A32) (x7 : Int32), ∃ y : Int32 × Int32 × Int32 × Int32 × A32 × A32 × Int32, f_X10_walks cg cone ctwo cbr csize ckinds copen (b2i moon) cout cgone cgas cplace x1 x2 x3 x4 x5 x6 x7 (nI times) (nI seed) (nI what) = some (wAns M (wS M G one two opn kind b (place, seed, gas, bt outx) times) what, y) := fun what hwh x1 x2 x3 x4 x5 x6 x7 => walks_e hM hw ho hC hW hb' t1 t2 hTt hs hwh x1 x2 x3 x4 x5 x6 x7
  generalize wS M G one two opn kind b (place, seed, gas, bt outx) times = st at *
  -- sums
  obtain ⟨⟨s1, s2⟩, ⟨h1, h2⟩, e2⟩ := lp (fun fu (s : Int32 × Int32) i => f_L_walks_b323 59 22 cg cone ctwo cbr csize ckinds copen (b2i moon) cout cgone cgas cplace x1 x2 x3 x4 x5 x6 x7 c a (nI times) (nI seed) (lN st.2.1) fu s.1 s.2 (nI i)) 7
    (fun i s => s.1 = nI (fb_ct st.2.2.2 i) ∧ s.2 = nI (fb_sm st.2.2.1 i))
    (fun s => f_L_walks_b323 59 22 cg cone ctwo cbr csize ckinds copen (b2i moon) cout cgone cgas cplace x1 x2 x3 x4 x5 x6 x7 c a (nI times) (nI seed) (lN st.2.1) 1 s.1 s.2 7) (by
      rintro fu i ⟨s1, s2⟩ hi ⟨h1, h2⟩
      dsimp only at h1 h2
      subst h1 h2
      refine ⟨(nI (fb_ct st.2.2.2 (i + 1)), nI (fb_sm st.2.2.1 (i + 1))), ⟨rfl, rfl⟩, ?_⟩
      rw [fb_ct_succ, fb_sm_succ]
      simp (maxSteps := 4000000) (disch := omega) only [f_L_walks_b323, le7F, if_false, in19, if_true, cl19, p3, bit_e, ho', b2i_nI, nI_add, nam_e, inT, cl_e, p1 i hi, nI_1]) (by
      rintro fu ⟨s1, s2⟩ -
      have h77 : ((7 : Int32) ≤ nI 7) = True := eq_true (by decide)
      have h7 : ((7 : Int32) ≤ 7) = True := eq_true (by decide)
      dsimp only
      rw [f_L_walks_b323, f_L_walks_b323, if_pos (show (7 : Int32) ≤ nI 7 by decide), if_pos (show (7 : Int32) ≤ 7 by decide)]) (i := 0) (k := 7) (fu := FU) (s := (0, 0)) rfl (FU_lt (by decide)) ⟨rfl, rfl⟩
  dsimp only at h1 h2
  subst h1 h2
  rw [show f_L_walks_b323 59 22 cg cone ctwo cbr csize ckinds copen (b2i moon) cout cgone cgas cplace x1 x2 x3 x4 x5 x6 x7 c a (nI times) (nI seed) (lN st.2.1) FU 0 0 0 = f_L_walks_b323 59 22 cg cone ctwo cbr csize ckinds copen (b2i moon) cout cgone cgas cplace x1 x2 x3 x4 x5 x6 x7 c a (nI times) (nI seed) (lN st.2.1) 1 (nI (fb_ct st.2.2.2 7)) (nI (fb_sm st.2.2.1 7)) 7 from e2]
  have hct : fb_ct st.2.2.2 7 = fb_ct st.2.2.2 6 := ct_cut (by decide) (fun i h1 _ => k4 i (by omega))
  rw [f_L_walks_b323, if_pos (show (7 : Int32) ≤ 7 by decide)]
  have wk0 : ∀ (x1 x2 x3 x4 : Int32) (x5 x6 : A32) (x7 : Int32), ∃ y : Int32 × Int32 × Int32 × Int32 × A32 × A32 × Int32, f_X10_walks cg cone ctwo cbr csize ckinds copen (b2i moon) cout cgone cgas cplace x1 x2 x3 x4 x5 x6 x7 (nI times) (nI seed) 0 = some (wAns M st 0, y) := hwk 0 (by decide)
  have wk1 : ∀ (x1 x2 x3 x4 : Int32) (x5 x6 : A32) (x7 : Int32), ∃ y : Int32 × Int32 × Int32 × Int32 × A32 × A32 × Int32, f_X10_walks cg cone ctwo cbr csize ckinds copen (b2i moon) cout cgone cgas cplace x1 x2 x3 x4 x5 x6 x7 (nI times) (nI seed) 1 = some (wAns M st 1, y) := hwk 1 (by decide)
  have wk2 : ∀ (x1 x2 x3 x4 : Int32) (x5 x6 : A32) (x7 : Int32), ∃ y : Int32 × Int32 × Int32 × Int32 × A32 × A32 × Int32, f_X10_walks cg cone ctwo cbr csize ckinds copen (b2i moon) cout cgone cgas cplace x1 x2 x3 x4 x5 x6 x7 (nI times) (nI seed) 2 = some (wAns M st 2, y) := hwk 2 (by decide)
  have wk3 : ∀ (x1 x2 x3 x4 : Int32) (x5 x6 : A32) (x7 : Int32), ∃ y : Int32 × Int32 × Int32 × Int32 × A32 × A32 × Int32, f_X10_walks cg cone ctwo cbr csize ckinds copen (b2i moon) cout cgone cgas cplace x1 x2 x3 x4 x5 x6 x7 (nI times) (nI seed) 3 = some (wAns M st 3, y) := hwk 3 (by decide)
  obtain ⟨y0, w0⟩ := wk0 x1 x2 x3 x4 x5 x6 x7
  rw [w0, bnd_e]
  dsimp only
  rw [if_pos (show wAns M st 0 = nI (fb_ct st.2.2.2 7) by rw [hct]; rfl)]
  obtain ⟨y1, w1⟩ := wk1 y0.1 y0.2.1 y0.2.2.1 y0.2.2.2.1 y0.2.2.2.2.1 y0.2.2.2.2.2.1 y0.2.2.2.2.2.2
  rw [w1, bnd_e]
  dsimp only
  obtain ⟨y2, w2⟩ := wk2 y1.1 y1.2.1 y1.2.2.1 y1.2.2.2.1 y1.2.2.2.2.1 y1.2.2.2.2.2.1 y1.2.2.2.2.2.2
  obtain ⟨y3, w3⟩ := wk3 y2.1 y2.2.1 y2.2.2.1 y2.2.2.2.1 y2.2.2.2.2.1 y2.2.2.2.2.2.1 y2.2.2.2.2.2.2
  have fin : ∀ t : Int32, wAns M st 1 = t → f_L_walks_b399 59 22 cg cone ctwo cbr csize ckinds copen (b2i moon) cout cgone cgas cplace y1.1 y1.2.1 y1.2.2.1 y1.2.2.2.1 y1.2.2.2.2.1 y1.2.2.2.2.2.1 y1.2.2.2.2.2.2 c a (wAns M st 1) t (nI times) (nI seed) (lN st.2.1) (nI (fb_sm st.2.2.1 7)) = some (1, y3) := by
    intro t ht
    unfold f_L_walks_b399
    rw [if_pos ht, w2, bnd_e]
    dsimp only
    rw [if_pos (show wAns M st 2 = nI (fb_sm st.2.2.1 7) from rfl), w3, bnd_e]
    dsimp only
    rw [show wAns M st 3 = nI st.2.1 from rfl, nI_l k2, cmp_self, if_pos rfl]
  refine ⟨y3, ?_⟩
  rw [if_pos (show inB 20 22 by decide), cl20]
  by_cases hM0 : M = 0
  · rw [if_pos (show c 20 = 0 by rw [p4, hM0]; rfl)]
    exact fin (-1) (by unfold wAns; rw [if_neg (by decide), if_pos rfl, if_pos hM0])
  · rw [if_neg (show ¬ c 20 = 0 by rw [p4]; exact nI_ne0 (by omega) (by omega)), if_pos (show inB 13 22 by decide), cl13]
    exact fin (c 13) (by unfold wAns; rw [if_neg (by decide), if_pos rfl, if_neg hM0]; exact ((p2 0 (by omega)).2).symm)
end
section
/-! the text: how the law writes it -/
theorem cell_e (n : Nat) (hn : n ≤ 1000) (c : A32) (k : Nat) (hk : k < 1000) : ∃ x, f_L_cell n c (nI k) = some x := by
  unfold f_L_cell
  by_cases q : n ≤ k
  · rw [if_pos (nI_le q (by omega))]
    exact ⟨_, rfl⟩
  · rw [if_neg (nI_ge (by omega) (by omega)), if_pos ((inB_e (by omega)).mpr (by omega))]
    exact ⟨_, rfl⟩
theorem half_e (x : Int32) : ∃ y : Nat, y < 2 ^ 31 ∧ UInt32.toInt32 (Int32.toUInt32 x >>> (Int32.toUInt32 1 &&& Int32.toUInt32 31)) = nI y := by
  obtain ⟨m, hm, e⟩ := bt_lt (x := UInt32.toInt32 (Int32.toUInt32 x >>> (Int32.toUInt32 1 &&& Int32.toUInt32 31))) (n := 31) (Nat.le_refl _) (fun i h1 h2 => by
    have := b_ushr 1 (by decide) x i
    rw [show (nI 1).toUInt32 = Int32.toUInt32 1 from rfl] at this
    rw [this]
    exact b_big (by omega))
  exact ⟨m, hm, e⟩
theorem at_e (x : Int32) {m : Nat} (h0 : 0 < m) (hm : m < 1000) : ∃ j, j < m ∧ f_L_at x (nI m) = some (nI j) := by
  obtain ⟨y, hy, e⟩ := half_e x
  unfold f_L_at
  rw [if_neg (nI_ne0 h0 (by omega)), e, pk_rem hy h0 (by omega)]
  exact ⟨y % m, Nat.mod_lt _ h0, rfl⟩
def pos (dor : Nat → Bool) : Nat → Nat
  | 0 => 0
  | g + 1 => pos dor g + 4 + (if dor g = true then 1 else 0)
theorem pos_cong {p q : Nat → Bool} : ∀ {g : Nat}, (∀ j, j < g → p j = q j) → pos p g = pos q g := by
  intro g
  induction g with
  | zero => intro _; rfl
  | succ g ih =>
    intro h
    show pos p g + 4 + _ = pos q g + 4 + _
    rw [ih (fun j hj => h j (by omega)), h g (by omega)]
theorem pos_le (p : Nat → Bool) : ∀ g, pos p g ≤ 5 * g := by
  intro g
  induction g with
  | zero => exact Nat.le_refl _
  | succ g ih =>
    show pos p g + 4 + _ ≤ _
    split <;> omega
theorem pos_ge (p : Nat → Bool) : ∀ g, 4 * g ≤ pos p g := by
  intro g
  induction g with
  | zero => exact Nat.le_refl _
  | succ g ih =>
    show _ ≤ pos p g + 4 + _
    split <;> omega
theorem pos_mono (p : Nat → Bool) {g j : Nat} (h : j < g) : pos p j + 4 + (if p j = true then 1 else 0) ≤ pos p g := by
  induction g with
  | zero => exact absurd h (Nat.not_lt_zero j)
  | succ g ih =>
    rcases Nat.lt_or_ge j g with q | q
    · have := ih q
      show _ ≤ pos p g + 4 + _
      omega
    · have : j = g := by omega
      subst this
      exact Nat.le_refl _
/-- the letters of gallery j, and the one behind it -/
def GL (t : A32) (one two len : Nat → Nat) (dor : Nat → Bool) (j : Nat) : Prop :=
  t (pos dor j) = nI (48 + one j) ∧ t (pos dor j + 1) = nI (48 + two j) ∧ t (pos dor j + 2) = nI (48 + len j) ∧ (dor j = true → t (pos dor j + 3) = nI 100)
/-- the text of a mine -/
def TX (t : A32) (G : Nat) (one two len : Nat → Nat) (dor : Nat → Bool) (dr : Nat → Nat) (S : Nat) (kn : Nat → Nat) (n : Nat) : Prop :=
  (∀ g, g < G → GL t one two len dor g ∧ t (pos dor (g + 1) - 1) = nI (if g + 1 < G then 44 else 59)) ∧
  (∀ k, k < S → t (pos dor G + 2 * k) = nI (48 + kn k) ∧ t (pos dor G + 2 * k + 1) = nI (47 + dr (kn k)) ∧ kn k < 7 ∧ 1 ≤ dr (kn k) ∧ dr (kn k) ≤ 10) ∧
  (∀ i j, i < j → j < S → kn i ≠ kn j) ∧ (∀ q, q < 7 → 0 < dr q → ∃ k, k < S ∧ kn k = q) ∧ 2 ≤ S ∧ S ≤ 7 ∧ n = pos dor G + 2 * S
def setF {α : Type} (f : Nat → α) (k : Nat) (x : α) (j : Nat) : α := if j = k then x else f j
theorem setF_s {α : Type} (f : Nat → α) (k : Nat) (x : α) : setF f k x k = x := if_pos rfl
theorem setF_n {α : Type} (f : Nat → α) {k j : Nat} (x : α) (h : j ≠ k) : setF f k x j = f j := if_neg h
def GI (G g : Nat) (d t : A32) (v : Nat) (one two len : Nat → Nat) (dor : Nat → Bool) : Prop :=
  d 0 = nI G ∧ d 51 = 0 ∧ v = (if g = 0 then 0 else pos dor g - 1) ∧ ∀ j, j < g → (d (1 + j) = nI (one j) ∧ d (11 + j) = nI (two j) ∧ d (21 + j) = nI (len j) ∧ d (31 + j) = b2i (dor j) ∧ d (41 + j) = b2i true) ∧ (one j < 7 ∧ two j < 7 ∧ one j ≠ two j ∧ 1 ≤ len j ∧ len j ≤ 9) ∧ GL t one two len dor j ∧ (j + 1 < g → t (pos dor (j + 1) - 1) = nI 44)
theorem sub1 {n : Nat} (h : 1 ≤ n) : nI n - 1 = nI (n - 1) := pk_sub (a := n) (b := 1) h
theorem gal_d {G g : Nat} {d t : A32} {v : Nat} {one two len : Nat → Nat} {dor : Nat → Bool} (hG : G ≤ 10) (hg : g < G) (h : GI G g d t v one two len dor) {a b l : Nat} {dd : Bool} (ha : a < 7) (hb : b < 7) (hab : a ≠ b) (hl1 : 1 ≤ l) (hl2 : l ≤ 9) {t' : A32} (e0 : ∀ i, i < v → t' i = t i) (e1 : t' (pos dor g) = nI (48 + a)) (e2 : t' (pos dor g + 1) = nI (48 + b)) (e3 : t' (pos dor g + 2) = nI (48 + l)) (e4 : dd = true → t' (pos dor g + 3) = nI 100) (e5 : 0 < g → t' v = nI 44) :
    GI G (g + 1) (upd (upd (upd (upd (upd d (1 + g) (nI a)) (11 + g) (nI b)) (21 + g) (nI l)) (31 + g) (b2i dd)) (41 + g) 1) t' (pos dor g + 3 + (if dd = true then 1 else 0)) (setF one g a) (setF two g b) (setF len g l) (setF dor g dd) := by
  obtain ⟨h0, h51, hv, hj⟩ := h
  have hpc : ∀ j, j ≤ g → pos (setF dor g dd) j = pos dor j := fun j hj => pos_cong (fun i hi => setF_n _ _ (by omega))
  have hps : pos (setF dor g dd) (g + 1) = pos dor g + 4 + (if dd = true then 1 else 0) := by
    show pos _ g + 4 + (if setF dor g dd g = true then 1 else 0) = _
    rw [hpc g (Nat.le_refl _), setF_s]
  refine ⟨?_, ?_, ?_, ?_⟩
  · simp (disch := omega) only [upd_n]; exact h0
  · simp (disch := omega) only [upd_n]; exact h51
  · rw [if_neg (Nat.succ_ne_zero g), hps]
    omega
  · intro j hjg
    by_cases q : j = g
    · subst q
      refine ⟨⟨?_, ?_, ?_, ?_, ?_⟩, ?_, ⟨?_, ?_, ?_, ?_⟩, fun hx => absurd hx (by omega)⟩
      · simp (disch := omega) only [upd_n, upd_s, setF_s]
      · simp (disch := omega) only [upd_n, upd_s, setF_s]
      · simp (disch := omega) only [upd_n, upd_s, setF_s]
      · simp (disch := omega) only [upd_n, upd_s, setF_s]
      · rw [upd_s]; rfl
      · simp only [setF_s]
        exact ⟨ha, hb, hab, hl1, hl2⟩
      · rw [hpc j (Nat.le_refl _), setF_s]; exact e1
      · rw [hpc j (Nat.le_refl _), setF_s]; exact e2
      · rw [hpc j (Nat.le_refl _), setF_s]; exact e3
      · rw [hpc j (Nat.le_refl _), setF_s]; exact e4
    · have hlt : j < g := by omega
      obtain ⟨⟨a1, a2, a3, a4, a5⟩, w, ⟨b1, b2, b3, b4⟩, b5⟩ := hj j hlt
      have hpm := pos_mono dor hlt
      have hvv : v = pos dor g - 1 := by rw [hv, if_neg (by omega)]
      refine ⟨⟨?_, ?_, ?_, ?_, ?_⟩, ?_, ⟨?_, ?_, ?_, ?_⟩, fun hx => ?_⟩
      · simp (disch := omega) only [upd_n, setF_n _ _ q]; exact a1
      · simp (disch := omega) only [upd_n, setF_n _ _ q]; exact a2
      · simp (disch := omega) only [upd_n, setF_n _ _ q]; exact a3
      · simp (disch := omega) only [upd_n, setF_n _ _ q]; exact a4
      · simp (disch := omega) only [upd_n]; exact a5
      · simp only [setF_n _ _ q]; exact w
      · rw [hpc j (by omega), setF_n _ _ q, e0 _ (by omega)]; exact b1
      · rw [hpc j (by omega), setF_n _ _ q, e0 _ (by omega)]; exact b2
      · rw [hpc j (by omega), setF_n _ _ q, e0 _ (by omega)]; exact b3
      · rw [hpc j (by omega), setF_n _ _ q]
        intro hdj
        rw [hdj, if_pos rfl] at hpm
        rw [e0 _ (by omega)]
        exact b4 hdj
      · rw [hpc (j + 1) (by omega)]
        by_cases r : j + 1 = g
        · subst r
          rw [← hvv]
          exact e5 (by omega)
        · have hpm2 := pos_mono dor (show j + 1 < g by omega)
          rw [e0 _ (by omega)]
          exact b5 (by omega)
section MT
variable {n : Nat} {xs : A32}
theorem at_9 (x : Int32) : ∃ j, j < 9 ∧ f_L_at x 9 = some (nI j) := at_e x (m := 9) (by decide) (by decide)
theorem at_2 (x : Int32) : ∃ j, j < 2 ∧ f_L_at x 2 = some (nI j) := at_e x (m := 2) (by decide) (by decide)
theorem gal_num {kn : Nat} (k3 : 3 ≤ kn) (k7 : kn ≤ 7) (y9 : Int32) : ∃ a b l dd, a < kn ∧ b < kn - 1 ∧ l < 9 ∧ dd < 2 ∧ f_L_at y9 (nI kn) = some (nI a) ∧ f_L_at (y9 >>> (3 &&& 31)) (nI (kn - 1)) = some (nI b) ∧ f_L_at (y9 >>> (6 &&& 31)) 9 = some (nI l) ∧ f_L_at (y9 >>> (10 &&& 31)) 2 = some (nI dd) := by
  obtain ⟨a, a1, a2⟩ := at_e y9 (m := kn) (by omega) (by omega)
  obtain ⟨b, b1, b2⟩ := at_e (y9 >>> (3 &&& 31)) (m := kn - 1) (by omega) (by omega)
  obtain ⟨l, l1, l2⟩ := at_9 (y9 >>> (6 &&& 31))
  obtain ⟨dd, d1, d2⟩ := at_2 (y9 >>> (10 &&& 31))
  exact ⟨a, b, l, dd, a1, b1, l1, d1, a2, b2, l2, d2⟩
theorem gal_two {kn a b : Nat} (k3 : 3 ≤ kn) (k7 : kn ≤ 7) (ha : a < kn) (hb : b < kn - 1) : (a + 1 + b) % kn < kn ∧ a ≠ (a + 1 + b) % kn := by
  refine ⟨Nat.mod_lt _ (by omega), ?_⟩
  rcases (show kn = 3 ∨ kn = 4 ∨ kn = 5 ∨ kn = 6 ∨ kn = 7 by omega) with rfl | rfl | rfl | rfl | rfl <;> omega
theorem gal_s1 {G g : Nat} {d t : A32} {v : Nat} (hG : G ≤ 10) (hg : g < G) (h0 : d 0 = nI G) (hv : v ≤ 50) {kn : Nat} (k3 : 3 ≤ kn) (k7 : kn ≤ 7) {y : Int32} (hy : f_L_cell n xs (nI (1 + g % 5)) = some y) {a b l : Nat} {dd : Bool}
    (ha : a < kn) (hb : b < kn - 1) (a2 : f_L_at (y >>> ((12 * (nI g / 5)) &&& 31)) (nI kn) = some (nI a)) (b2 : f_L_at (y >>> ((12 * (nI g / 5)) &&& 31) >>> (3 &&& 31)) (nI (kn - 1)) = some (nI b)) (l2 : f_L_at (y >>> ((12 * (nI g / 5)) &&& 31) >>> (6 &&& 31)) 9 = some (nI l)) (d2 : f_L_at (y >>> ((12 * (nI g / 5)) &&& 31) >>> (10 &&& 31)) 2 = some (b2i dd))
    (v5 : Int32) (fu : Nat) (tt : A32) (vv : Nat) (q0 : g = 0 → tt = t ∧ vv = v) (q1 : 0 < g → tt = upd t v 44 ∧ vv = v + 1) :
    f_L_mineText_b41 59 64 n xs (nI 0) v5 (nI kn) (fu + 1) d t (nI v) (nI g) = f_L_mineText_b172 (f_L_mineText_b41 59 64 n xs (nI 0) v5 (nI kn) fu) 59 64 n xs (upd (upd (upd (upd (upd d (1 + g) (nI a)) (11 + g) (nI ((a + 1 + b) % kn))) (21 + g) (nI (1 + l))) (31 + g) (b2i dd)) (41 + g) 1) tt (nI 0) v5 (nI vv) (nI kn) (nI g) := by
  have idx : (nI 0 + 1) + (nI g - nI g / 5 * 5) = nI (1 + g % 5) := by
    rw [nI_1, show (5 : Int32) = nI 5 from rfl, pk_rem (by omega) (by decide) (by decide), nI_add]
  have htwo : (nI a + 1 + nI b) - (nI a + 1 + nI b) / nI kn * nI kn = nI ((a + 1 + b) % kn) := by
    rw [nI_1, nI_add, pk_rem (by omega) (by omega) (by omega)]
  have hkn0 : (nI kn = 0) = False := eq_false (nI_ne0 (by omega) (by omega))
  generalize (a + 1 + b) % kn = bb at *
  have i1 : inB (nI (1 + g)) 59 := (inB_e (by omega)).mpr (by omega)
  have i11 : inB (nI (11 + g)) 59 := (inB_e (by omega)).mpr (by omega)
  have i21 : inB (nI (21 + g)) 59 := (inB_e (by omega)).mpr (by omega)
  have i31 : inB (nI (31 + g)) 59 := (inB_e (by omega)).mpr (by omega)
  have i41 : inB (nI (41 + g)) 59 := (inB_e (by omega)).mpr (by omega)
  have iv : inB (nI v) 64 := (inB_e (by omega)).mpr (by omega)
  have hnl : ¬ d (Int32.toNatClampNeg 0) ≤ nI g := by rw [cl0, h0]; exact nI_ge hg (by omega)
  rw [f_L_mineText_b41, if_pos (show inB 0 59 by decide), if_neg hnl, idx, hy, bnd_e, nam_e, a2, bnd_e, ad1, ad11, ad21, ad31, ad41, upd_s, if_pos i1, if_pos i1, sub1 (show 1 ≤ kn by omega), b2, bnd_e, if_neg (nI_ne0 (n := kn) (by omega) (by omega)), htwo, if_pos i11, l2, bnd_e, ad1, if_pos i21, d2, bnd_e, if_pos i31, if_pos i41]
  rcases Nat.eq_zero_or_pos g with r | r
  · obtain ⟨rfl, rfl⟩ := q0 r
    rw [if_pos (show nI g ≤ 0 by rw [r]; decide), cl_e (show 1 + g < 2 ^ 31 by omega), cl_e (show 11 + g < 2 ^ 31 by omega), cl_e (show 21 + g < 2 ^ 31 by omega), cl_e (show 31 + g < 2 ^ 31 by omega), cl_e (show 41 + g < 2 ^ 31 by omega)]
  · obtain ⟨rfl, rfl⟩ := q1 r
    rw [if_neg (nI_nle r (by omega)), nam_e, nI_1, if_pos iv, cl_e (show 1 + g < 2 ^ 31 by omega), cl_e (show 11 + g < 2 ^ 31 by omega), cl_e (show 21 + g < 2 ^ 31 by omega), cl_e (show 31 + g < 2 ^ 31 by omega), cl_e (show 41 + g < 2 ^ 31 by omega), cl_e (show v < 2 ^ 31 by omega)]
theorem gal_l1 (k41 : A32 → A32 → Int32 → Int32 → Option (Int32 × A32 × A32)) {g : Nat} (hg : g < 10) {dA tt : A32} {P a b l : Nat} (hP : P ≤ 50) (h1 : dA (1 + g) = nI a) (h2 : dA (11 + g) = nI b) (h3 : dA (21 + g) = nI l) (h4 : dA (31 + g) = b2i true) (v5 v7 : Int32) :
    f_L_mineText_b172 k41 59 64 n xs dA tt (nI 0) v5 (nI P) v7 (nI g) = k41 dA (upd (upd (upd (upd tt P (nI (48 + a))) (P + 1) (nI (48 + b))) (P + 2) (nI (48 + l))) (P + 3) (nI 100)) (nI (P + 4)) (nI (g + 1)) := by
  have h10 : (b2i true ≤ 0) = False := eq_false (by decide)
  have k100 : (100 : Int32) = nI 100 := rfl
  have p1 : nI P + 1 = nI (P + 1) := nI_1 P
  have p2 : nI (P + 1) + 1 = nI (P + 2) := nI_1 (P + 1)
  have p3 : nI (P + 2) + 1 = nI (P + 3) := nI_1 (P + 2)
  have p4 : nI (P + 3) + 1 = nI (P + 4) := nI_1 (P + 3)
  have pg : nI g + 1 = nI (g + 1) := nI_1 g
  simp (disch := omega) only [f_L_mineText_b172, f_L_mineText_b245, ad1, ad11, ad21, ad31, inT, if_true, cl_e, h1, h2, h3, h4, nam_e, p1, p2, p3, p4, pg, ad48, h10, if_false, k100]
theorem gal_l0 (k41 : A32 → A32 → Int32 → Int32 → Option (Int32 × A32 × A32)) {g : Nat} (hg : g < 10) {dA tt : A32} {P a b l : Nat} (hP : P ≤ 50) (h1 : dA (1 + g) = nI a) (h2 : dA (11 + g) = nI b) (h3 : dA (21 + g) = nI l) (h4 : dA (31 + g) = b2i false) (v5 v7 : Int32) :
    f_L_mineText_b172 k41 59 64 n xs dA tt (nI 0) v5 (nI P) v7 (nI g) = k41 dA (upd (upd (upd tt P (nI (48 + a))) (P + 1) (nI (48 + b))) (P + 2) (nI (48 + l))) (nI (P + 3)) (nI (g + 1)) := by
  have h10 : (b2i false ≤ 0) = True := eq_true (by decide)
  have p1 : nI P + 1 = nI (P + 1) := nI_1 P
  have p2 : nI (P + 1) + 1 = nI (P + 2) := nI_1 (P + 1)
  have p3 : nI (P + 2) + 1 = nI (P + 3) := nI_1 (P + 2)
  have pg : nI g + 1 = nI (g + 1) := nI_1 g
  simp (disch := omega) only [f_L_mineText_b172, f_L_mineText_b245, ad1, ad11, ad21, ad31, inT, if_true, cl_e, h1, h2, h3, h4, nam_e, p1, p2, p3, pg, ad48, h10]
theorem gal_step (hn : n ≤ 260) {G g : Nat} {d t : A32} {v : Nat} {one two len : Nat → Nat} {dor : Nat → Bool} (hG : G ≤ 10) (hg : g < G) (h : GI G g d t v one two len dor) {kn : Nat} (k3 : 3 ≤ kn) (k7 : kn ≤ 7) (v5 : Int32) (fu : Nat) :
    ∃ d' t' v' one' two' len' dor', GI G (g + 1) d' t' v' one' two' len' dor' ∧ f_L_mineText_b41 59 64 n xs (nI 0) v5 (nI kn) (fu + 1) d t (nI v) (nI g) = f_L_mineText_b41 59 64 n xs (nI 0) v5 (nI kn) fu d' t' (nI v') (nI (g + 1)) := by
  have h0 := h.1
  have hv := h.2.2.1
  have hpl := pos_le dor g
  have hpg := pos_ge dor g
  have hvb : v ≤ 50 ∧ (0 < g → v + 1 = pos dor g) ∧ (g = 0 → v = 0 ∧ pos dor g = 0) := by
    rw [hv]
    refine ⟨?_, ?_, ?_⟩
    · split <;> omega
    · intro q; rw [if_neg (by omega)]; omega
    · intro q; subst q; exact ⟨rfl, rfl⟩
  obtain ⟨y, hy⟩ := cell_e n (by omega) xs (1 + g % 5) (by have := Nat.mod_lt g (show 0 < 5 by decide); omega)
  obtain ⟨a, b, l, dd, a1, b1, l1, d1, a2, b2, l2, d2⟩ := gal_num k3 k7 (y >>> ((12 * (nI g / 5)) &&& 31))
  obtain ⟨hb7, hne⟩ := gal_two k3 k7 a1 b1
  obtain ⟨db, hdb⟩ : ∃ db : Bool, nI dd = b2i db := by
    rcases (show dd = 0 ∨ dd = 1 by omega) with rfl | rfl
    · exact ⟨false, rfl⟩
    · exact ⟨true, rfl⟩
  rw [hdb] at d2
  obtain ⟨tt, hlo, hcom, hs⟩ : ∃ tt, (∀ i, i < v → tt i = t i) ∧ (0 < g → tt v = nI 44) ∧ f_L_mineText_b41 59 64 n xs (nI 0) v5 (nI kn) (fu + 1) d t (nI v) (nI g) = f_L_mineText_b172 (f_L_mineText_b41 59 64 n xs (nI 0) v5 (nI kn) fu) 59 64 n xs (upd (upd (upd (upd (upd d (1 + g) (nI a)) (11 + g) (nI ((a + 1 + b) % kn))) (21 + g) (nI (1 + l))) (31 + g) (b2i db)) (41 + g) 1) tt (nI 0) v5 (nI (pos dor g)) (nI kn) (nI g) := by
    rcases Nat.eq_zero_or_pos g with r | r
    · refine ⟨t, fun _ _ => rfl, fun q => absurd q (by omega), ?_⟩
      exact gal_s1 hG hg h0 hvb.1 k3 k7 hy a1 b1 a2 b2 l2 d2 v5 fu t (pos dor g) (fun _ => ⟨rfl, by have := hvb.2.2 r; omega⟩) (fun q => absurd q (by omega))
    · refine ⟨upd t v 44, fun i hi => upd_n _ _ (by omega), fun _ => upd_s _ _ _, ?_⟩
      exact gal_s1 hG hg h0 hvb.1 k3 k7 hy a1 b1 a2 b2 l2 d2 v5 fu (upd t v 44) (pos dor g) (fun q => absurd q (by omega)) (fun _ => ⟨rfl, (hvb.2.1 r).symm⟩)
  have hvlt : ∀ i, i < v → i < pos dor g := fun i hi => by
    rcases Nat.eq_zero_or_pos g with r | r
    · have := hvb.2.2 r; omega
    · have := hvb.2.1 r; omega
  generalize (a + 1 + b) % kn = bb at *
  rw [hs]
  cases db
  · refine ⟨_, upd (upd (upd tt (pos dor g) (nI (48 + a))) (pos dor g + 1) (nI (48 + bb))) (pos dor g + 2) (nI (48 + (1 + l))), pos dor g + 3 + 0, _, _, _, _, gal_d (dd := false) hG hg h (a := a) (b := bb) (l := 1 + l) (by omega) (by omega) hne (by omega) (by omega) (fun i hi => ?_) ?_ ?_ ?_ (fun q => by cases q) (fun q => ?_), ?_⟩
    · have := hvlt i hi
      simp (disch := omega) only [upd_n]
      exact hlo i hi
    · simp (disch := omega) only [upd_n, upd_s]
    · simp (disch := omega) only [upd_n, upd_s]
    · simp (disch := omega) only [upd_n, upd_s]
    · have := hvb.2.1 q
      simp (disch := omega) only [upd_n]
      exact hcom q
    · refine gal_l0 _ (show g < 10 by omega) (show pos dor g ≤ 50 by omega) ?_ ?_ ?_ ?_ v5 (nI kn)
      · simp (disch := omega) only [upd_n, upd_s]
      · simp (disch := omega) only [upd_n, upd_s]
      · simp (disch := omega) only [upd_n, upd_s]
      · simp (disch := omega) only [upd_n, upd_s]
  · refine ⟨_, upd (upd (upd (upd tt (pos dor g) (nI (48 + a))) (pos dor g + 1) (nI (48 + bb))) (pos dor g + 2) (nI (48 + (1 + l)))) (pos dor g + 3) (nI 100), pos dor g + 3 + 1, _, _, _, _, gal_d (dd := true) hG hg h (a := a) (b := bb) (l := 1 + l) (by omega) (by omega) hne (by omega) (by omega) (fun i hi => ?_) ?_ ?_ ?_ (fun _ => ?_) (fun q => ?_), ?_⟩
    · have := hvlt i hi
      simp (disch := omega) only [upd_n]
      exact hlo i hi
    · simp (disch := omega) only [upd_n, upd_s]
    · simp (disch := omega) only [upd_n, upd_s]
    · simp (disch := omega) only [upd_n, upd_s]
    · simp (disch := omega) only [upd_n, upd_s]
    · have := hvb.2.1 q
      simp (disch := omega) only [upd_n]
      exact hcom q
    · refine gal_l1 _ (show g < 10 by omega) (show pos dor g ≤ 50 by omega) ?_ ?_ ?_ ?_ v5 (nI kn)
      · simp (disch := omega) only [upd_n, upd_s]
      · simp (disch := omega) only [upd_n, upd_s]
      · simp (disch := omega) only [upd_n, upd_s]
      · simp (disch := omega) only [upd_n, upd_s]
end MT
end
section
/-! the text: shafts; the whole of mineText -/
/-- shafts placed so far: k of them, behind e letters -/
def SI (d t : A32) (e k v : Nat) (kn dr : Nat → Nat) : Prop :=
  v = e + 2 * k ∧ (∀ q, q < 7 → d (52 + q) = nI (dr q)) ∧ (∀ i, i < k → t (e + 2 * i) = nI (48 + kn i) ∧ t (e + 2 * i + 1) = nI (47 + dr (kn i)) ∧ kn i < 7 ∧ 1 ≤ dr (kn i) ∧ dr (kn i) ≤ 10) ∧ (∀ i j, i < j → j < k → kn i ≠ kn j) ∧ ∀ q, q < 7 → 0 < dr q → ∃ i, i < k ∧ kn i = q
theorem free_e {kn dr : Nat → Nat} {k : Nat} (hk : k < 7) (h : ∀ q, q < 7 → 0 < dr q → ∃ i, i < k ∧ kn i = q) : ∃ q, q < 7 ∧ dr q = 0 := by
  refine Classical.byContradiction fun hx => ?_
  have h1 : ∀ q, q < 7 → ∃ i, i < k ∧ kn i = q := fun q hq => h q hq (Nat.pos_of_ne_zero (fun e => hx ⟨q, hq, e⟩))
  have hf : ∃ f : Nat → Nat, ∀ q, q < 7 → f q < k ∧ kn (f q) = q := ⟨fun q => if hq : q < 7 then Classical.choose (h1 q hq) else 0, fun q hq => by
    simp only [hq, dite_true]
    exact Classical.choose_spec (h1 q hq)⟩
  obtain ⟨f, hf⟩ := hf
  have := fb_holes k 7 f (fun i hi => (hf i hi).1) (fun i j hij hj e => by
    have a := (hf i (by omega)).2
    have b := (hf j hj).2
    rw [e] at a
    omega)
  omega
section SH
variable {n : Nat} {xs : A32}
/-- the search for a knot without a shaft -/
theorem find_e {d : A32} {dr : Nat → Nat} (hd : ∀ q, q < 7 → d (52 + q) = nI (dr q)) (h10 : ∀ q, q < 7 → dr q ≤ 10) (kk : A32 → A32 → Int32 → Int32 → Option (Int32 × A32 × A32)) (t : A32) (v5 v6 v8 v9 : Int32) : ∀ m q fu, q < 7 → m < fu → dr ((q + m) % 7) = 0 →
    ∃ q' fu', q' < 7 ∧ dr q' = 0 ∧ f_L_mineText_b342 kk 59 64 n xs d t (nI 0) v5 v6 v8 v9 fu (nI q) = f_L_mineText_b342 kk 59 64 n xs d t (nI 0) v5 v6 v8 v9 (fu' + 1) (nI q') := by
  intro m
  induction m with
  | zero =>
    intro q fu hq hfu h
    obtain ⟨fu, rfl⟩ : ∃ r, fu = r + 1 := ⟨fu - 1, by omega⟩
    rw [Nat.add_zero, Nat.mod_eq_of_lt hq] at h
    exact ⟨q, fu, hq, h, rfl⟩
  | succ m ih =>
    intro q fu hq hfu h
    obtain ⟨fu, rfl⟩ : ∃ r, fu = r + 1 := ⟨fu - 1, by omega⟩
    by_cases h0 : dr q = 0
    · exact ⟨q, fu, hq, h0, rfl⟩
    · have hq1 : (q + 1) % 7 < 7 := Nat.mod_lt _ (by decide)
      obtain ⟨q', fu', a1, a2, a3⟩ := ih ((q + 1) % 7) fu hq1 (by omega) (by
        rw [show ((q + 1) % 7 + m) % 7 = (q + (m + 1)) % 7 by omega]
        exact h)
      refine ⟨q', fu', a1, a2, ?_⟩
      rw [← a3]
      have hdq := hd q hq
      have hle := h10 q hq
      have hmod : nI (q + 1) - nI (q + 1) / 7 * 7 = nI ((q + 1) % 7) := by
        rw [k7, pk_rem (by omega) (by decide) (by decide)]
      simp (disch := omega) only [f_L_mineText_b342, ad52, inT, if_true, cl_e, hdq, le0F, if_false, nam_e, nI_1, hmod]
theorem shaft_step (hn : n ≤ 260) {d t : A32} {e k v : Nat} {kn dr : Nat → Nat} (he : e ≤ 50) (hk : k < 7) (h : SI d t e k v kn dr) (v5 : Int32) {S : Nat} (hS : k < S) (hS7 : S ≤ 7) (fu : Nat) :
    ∃ d' t' v' kn' dr', SI d' t' e (k + 1) v' kn' dr' ∧ (∀ i, i < 52 → d' i = d i) ∧ (∀ i, i < e → t' i = t i) ∧ f_L_mineText_b318 59 64 n xs (nI 0) v5 (nI S) (fu + 1) d t (nI v) (nI k) = f_L_mineText_b318 59 64 n xs (nI 0) v5 (nI S) fu d' t' (nI v') (nI (k + 1)) := by
  obtain ⟨hv, hd, hp, hne, hcov⟩ := h
  have h10 : ∀ q, q < 7 → dr q ≤ 10 := fun q hq => by
    rcases Nat.eq_zero_or_pos (dr q) with r | r
    · omega
    · obtain ⟨i, hi, rfl⟩ := hcov q hq r
      exact (hp i hi).2.2.2.2
  obtain ⟨q0, b1, b2⟩ := at_e (v5 >>> ((13 + (2 * nI k)) &&& 31)) (m := 7) (by decide) (by decide)
  obtain ⟨qf, f1, f2⟩ := free_e hk hcov
  obtain ⟨q, fu', c1, c2, c3⟩ := find_e (n := n) (xs := xs) hd h10 (f_L_mineText_b318 59 64 n xs (nI 0) v5 (nI S) fu) t v5 (nI v) (nI S) (nI k) ((qf + 7 - q0) % 7) q0 FU b1 (FU_lt (by omega)) (by
    rw [show (q0 + (qf + 7 - q0) % 7) % 7 = qf by omega]
    exact f2)
  obtain ⟨y, hy⟩ := cell_e n (by omega) xs 6 (by decide)
  obtain ⟨z, z1, z2⟩ := at_e (y >>> ((4 * nI k) &&& 31)) (m := 10) (by decide) (by decide)
  have hdq := hd q c1
  have hknne : ∀ i, i < k → kn i ≠ q := fun i hi hh => by
    have := (hp i hi).2.2.2.1
    rw [hh] at this
    omega
  refine ⟨upd d (52 + q) (nI (1 + z)), upd (upd t v (nI (48 + q))) (v + 1) (nI (47 + (1 + z))), v + 2, setF kn k q, setF dr q (1 + z), ⟨by omega, fun j hj => ?_, fun i hi => ?_, fun i j hij hj => ?_, fun j hj hpos => ?_⟩, fun i hi => upd_n _ _ (by omega), fun i hi => ?_, ?_⟩
  · rw [upd_e]
    by_cases r : j = q
    · subst r; rw [if_pos rfl, setF_s]
    · rw [if_neg (by omega), setF_n _ _ r]; exact hd j hj
  · by_cases r : i = k
    · subst r
      rw [setF_s, setF_s]
      refine ⟨?_, ?_, c1, by omega, by omega⟩
      · rw [← hv, upd_n _ _ (by omega), upd_s]
      · rw [← hv, upd_s]
    · have hik : i < k := by omega
      obtain ⟨a1, a2, a3, a4, a5⟩ := hp i hik
      rw [setF_n _ _ r, setF_n _ _ (hknne i hik)]
      refine ⟨?_, ?_, a3, a4, a5⟩
      · rw [upd_n _ _ (by omega), upd_n _ _ (by omega)]; exact a1
      · rw [upd_n _ _ (by omega), upd_n _ _ (by omega)]; exact a2
  · rw [setF_n _ _ (show i ≠ k by omega)]
    by_cases r : j = k
    · rw [r, setF_s]; exact hknne i (by omega)
    · rw [setF_n _ _ r]; exact hne i j hij (by omega)
  · by_cases r : j = q
    · exact ⟨k, by omega, by rw [setF_s]; exact r.symm⟩
    · rw [setF_n _ _ r] at hpos
      obtain ⟨i, i1, i2⟩ := hcov j hj hpos
      exact ⟨i, by omega, by rw [setF_n _ _ (show i ≠ k by omega)]; exact i2⟩
  · rw [upd_n _ _ (by omega), upd_n _ _ (by omega)]
  · have s1 : f_L_mineText_b318 59 64 n xs (nI 0) v5 (nI S) (fu + 1) d t (nI v) (nI k) = f_L_mineText_b342 (f_L_mineText_b318 59 64 n xs (nI 0) v5 (nI S) fu) 59 64 n xs d t (nI 0) v5 (nI v) (nI S) (nI k) FU (nI q0) := by
      have b2' : f_L_at (v5 >>> ((13 + (2 * nI k)) &&& 31)) 7 = some (nI q0) := b2
      simp (disch := omega) only [f_L_mineText_b318, leF, if_false, b2', bnd_e]
    rw [s1, c3]
    have h6 : (nI 0 + 6 : Int32) = nI 6 := rfl
    have hy' : f_L_cell n xs (nI 0 + 6) = some y := hy
    have z2' : f_L_at (y >>> ((4 * nI k) &&& 31)) 10 = some (nI z) := z2
    simp (disch := omega) only [f_L_mineText_b342, ad52, inT, if_true, cl_e, hdq, le0T, hy', bnd_e, z2', nam_e, nI_1, upd_s, ad1, ad48, ad47]
end SH
end
section
/-! the law's mine and its text -/
theorem ct_two {p : Nat → Bool} {n a b : Nat} (ha : a < n) (hb : b < n) (hab : a ≠ b) (h1 : p a = true) (h2 : p b = true) : 2 ≤ fb_ct p n := by
  have e : fb_ct (fun j => if j = a then false else p j) n + (if p a = true then 1 else 0) = fb_ct p n + 0 := fb_ct_upd p false ha
  rw [h1, if_pos rfl] at e
  have : 0 < fb_ct (fun j => if j = a then false else p j) n := fb_ct_pos.mpr ⟨b, hb, by rw [if_neg (Ne.symm hab)]; exact h2⟩
  omega
theorem gal_exit {n : Nat} {xs : A32} {G v kn : Nat} {d t : A32} (hG : G ≤ 10) (h0 : d 0 = nI G) (hv : v ≤ 50) (v5 : Int32) (fu : Nat) :
    f_L_mineText_b41 59 64 n xs (nI 0) v5 (nI kn) (fu + 1) d t (nI v) (nI G) = (Option.bind (f_L_at (v5 >>> (12 &&& 31)) 3) fun z_3 => if z_3 = 0 then f_L_mineText_b285 59 64 n xs d (upd t v 59) 2 (v5 >>> (7 &&& 31)) 6 (nI 0) v5 (nI (v + 1)) else f_L_mineText_b285 59 64 n xs d (upd t v 59) 2 (v5 >>> (7 &&& 31)) 2 (nI 0) v5 (nI (v + 1))) := by
  have iv : inB (nI v) 64 := (inB_e (by omega)).mpr (by omega)
  have hl : d (Int32.toNatClampNeg 0) ≤ nI G := by rw [cl0, h0]; exact nI_le (Nat.le_refl G) (by omega)
  rw [f_L_mineText_b41, if_pos (show inB 0 59 by decide), if_pos hl, nam_e, nI_1, if_pos iv, cl_e (show v < 2 ^ 31 by omega)]
theorem mineText_e {n : Nat} {xs : A32} (hn : n ≤ 260) :
    ∃ d t G one two len dor dr S kn nn, f_L_mineText 59 64 n xs (fun _ => 0) (fun _ => 0) 0 10 = some (nI nn, d, t) ∧ WF G one two len dr ∧ DA d G one two len dor (fun _ => true) false dr ∧ TX t G one two len dor dr S kn nn := by
  obtain ⟨x, hx⟩ := cell_e n (by omega) xs 0 (by decide)
  obtain ⟨z2, a1, a2⟩ := at_e x (m := 5) (by decide) (by decide)
  obtain ⟨z4, b1, b2⟩ := at_e (x >>> (3 &&& 31)) (m := 10) (by decide) (by decide)
  have s0 : f_L_mineText 59 64 n xs (fun _ => 0) (fun _ => 0) 0 10 = f_L_mineText_b41 59 64 n xs (nI 0) x (nI (3 + z2)) FU (upd (upd (fun _ => 0) 0 (nI (1 + z4))) 51 0) (fun _ => 0) (nI 0) (nI 0) := by
    unfold f_L_mineText
    rw [show f_L_cell n xs 0 = some x from hx, bnd_e, show f_L_at x 5 = some (nI z2) from a2, bnd_e, nam_e, show f_L_at (x >>> (3 &&& 31)) 10 = some (nI z4) from b2, bnd_e, if_pos (show inB 0 59 by decide), if_pos (show inB 51 59 by decide), ad1, show (3 : Int32) + nI z2 = nI (3 + z2) from nI_add 3 z2]
    rfl
  have hG : 1 ≤ 1 + z4 ∧ 1 + z4 ≤ 10 := by omega
  generalize 1 + z4 = G at *
  generalize hkn : 3 + z2 = kn at *
  have hkn2 : 3 ≤ kn ∧ kn ≤ 7 := by omega
  obtain ⟨⟨d1, t1, v⟩, ⟨one, two, len, dor, hI1⟩, e1⟩ := lp (fun fu (s : A32 × A32 × Nat) i => f_L_mineText_b41 59 64 n xs (nI 0) x (nI kn) fu s.1 s.2.1 (nI s.2.2) (nI i)) G
    (fun i s => ∃ one two len dor, GI G i s.1 s.2.1 s.2.2 one two len dor)
    (fun s => f_L_mineText_b41 59 64 n xs (nI 0) x (nI kn) 1 s.1 s.2.1 (nI s.2.2) (nI G)) (by
      rintro fu i ⟨d, t, v⟩ hi ⟨one, two, len, dor, h⟩
      obtain ⟨d', t', v', one', two', len', dor', h', e⟩ := gal_step hn hG.2 hi h hkn2.1 hkn2.2 x fu
      exact ⟨(d', t', v'), ⟨one', two', len', dor', h'⟩, e⟩) (by
      rintro fu ⟨d, t, v⟩ ⟨one, two, len, dor, h⟩
      have h0 : d 0 = nI G := h.1
      have hvv : v = if G = 0 then 0 else pos dor G - 1 := h.2.2.1
      have hv : v ≤ 50 := by
        rw [hvv]
        have := pos_le dor G
        split <;> omega
      exact (gal_exit hG.2 h0 hv x fu).trans (gal_exit hG.2 h0 hv x 0).symm) (i := 0) (k := G) (fu := FU) (s := (upd (upd (fun _ => 0) 0 (nI G)) 51 0, fun _ => 0, 0)) (by omega) (FU_lt (by omega)) ⟨fun _ => 0, fun _ => 0, fun _ => 0, fun _ => false, by
        refine ⟨?_, ?_, rfl, fun j hj => absurd hj (Nat.not_lt_zero j)⟩
        · simp (disch := omega) only [upd_n, upd_s]
        · simp (disch := omega) only [upd_s]⟩
  dsimp only at e1
  rw [s0, e1]
  obtain ⟨g0, g51, hv, hg⟩ := hI1
  dsimp only at g0 g51 hv hg
  rw [if_neg (by omega)] at hv
  have hpl := pos_le dor G
  have hpg := pos_ge dor G
  obtain ⟨e, he⟩ : ∃ e, e = pos dor G := ⟨_, rfl⟩
  have hve : v + 1 = e := by omega
  have he50 : e ≤ 50 := by omega
  -- how many shafts
  obtain ⟨S, hS2, hS7, eS⟩ : ∃ S, 2 ≤ S ∧ S ≤ 7 ∧ f_L_mineText_b41 59 64 n xs (nI 0) x (nI kn) 1 d1 t1 (nI v) (nI G) = f_L_mineText_b294 59 64 n xs (upd t1 v 59) (nI 0) x (nI e) (nI S) FU d1 0 := by
    obtain ⟨z3, c1, c2⟩ := at_e (x >>> (12 &&& 31)) (m := 3) (by decide) (by decide)
    obtain ⟨z6, c3, c4⟩ := at_e (x >>> (7 &&& 31)) (m := 6) (by decide) (by decide)
    obtain ⟨z7, c5, c6⟩ := at_e (x >>> (7 &&& 31)) (m := 2) (by decide) (by decide)
    have c2' : f_L_at (x >>> (12 &&& 31)) 3 = some (nI z3) := c2
    have c4' : f_L_at (x >>> (7 &&& 31)) 6 = some (nI z6) := c4
    have c6' : f_L_at (x >>> (7 &&& 31)) 2 = some (nI z7) := c6
    have ad2 : ∀ z, (2 : Int32) + nI z = nI (2 + z) := fun z => nI_add 2 z
    rw [gal_exit hG.2 g0 (by omega) x 0, c2', bnd_e, hve]
    unfold f_L_mineText_b285
    by_cases q : z3 = 0
    · refine ⟨2 + z6, by omega, by omega, ?_⟩
      rw [if_pos (show nI z3 = 0 by rw [q]; rfl), c4', bnd_e, nam_e, ad2]
    · refine ⟨2 + z7, by omega, by omega, ?_⟩
      rw [if_neg (nI_ne0 (n := z3) (by omega) (by omega)), c6', bnd_e, nam_e, ad2]
  rw [eS]
  obtain ⟨d2, ⟨h2a, h2b⟩, e2⟩ := lp (fun fu (s : A32) i => f_L_mineText_b294 59 64 n xs (upd t1 v 59) (nI 0) x (nI e) (nI S) fu s (nI i)) 7
    (fun i s => (∀ j, j < 52 → s j = d1 j) ∧ ∀ q, q < i → s (52 + q) = 0)
    (fun s => f_L_mineText_b318 59 64 n xs (nI 0) x (nI S) FU s (upd t1 v 59) (nI e) 0) (by
      rintro fu i s hi ⟨h1, h2⟩
      refine ⟨upd s (52 + i) 0, ⟨fun j hj => ?_, fun q hq => ?_⟩, ?_⟩
      · rw [upd_n _ _ (by omega)]; exact h1 j hj
      · rw [upd_e]
        by_cases r : q = i
        · subst r; rw [if_pos rfl]
        · rw [if_neg (by omega)]; exact h2 q (by omega)
      · simp (disch := omega) only [f_L_mineText_b294, le7F, if_false, ad52, inT, if_true, nam_e, cl_e, nI_1]) (by
      intro fu s _
      simp (disch := omega) only [f_L_mineText_b294, le7T, if_true]) (i := 0) (k := 7) (fu := FU) (s := d1) rfl (FU_lt (by decide)) ⟨fun _ _ => rfl, fun q h => absurd h (Nat.not_lt_zero q)⟩
  rw [show f_L_mineText_b294 59 64 n xs (upd t1 v 59) (nI 0) x (nI e) (nI S) FU d1 0 = f_L_mineText_b318 59 64 n xs (nI 0) x (nI S) FU d2 (upd t1 v 59) (nI e) 0 from e2]
  obtain ⟨⟨d3, t3, v3⟩, ⟨kns, dr, hSI, hd3, ht3⟩, e3⟩ := lp (fun fu (s : A32 × A32 × Nat) i => f_L_mineText_b318 59 64 n xs (nI 0) x (nI S) fu s.1 s.2.1 (nI s.2.2) (nI i)) S
    (fun i s => ∃ kn dr, SI s.1 s.2.1 e i s.2.2 kn dr ∧ (∀ j, j < 52 → s.1 j = d2 j) ∧ ∀ j, j < e → s.2.1 j = upd t1 v 59 j)
    (fun s => some (nI s.2.2, s.1, s.2.1)) (by
      rintro fu i ⟨d, t, v⟩ hi ⟨kns, dr, h1, h2, h3⟩
      obtain ⟨d', t', v', kn', dr', q1, q2, q3, q4⟩ := shaft_step (n := n) (xs := xs) hn he50 (show i < 7 by omega) h1 x hi hS7 fu
      refine ⟨(d', t', v'), ⟨kn', dr', q1, fun j hj => ?_, fun j hj => ?_⟩, q4⟩
      · exact (q2 j hj).trans (h2 j hj)
      · exact (q3 j hj).trans (h3 j hj)) (by
      rintro fu ⟨d, t, v⟩ -
      simp (disch := omega) only [f_L_mineText_b318, leT, if_true]) (i := 0) (k := S) (fu := FU) (s := (d2, upd t1 v 59, e)) (by omega) (FU_lt (by omega)) ⟨fun _ => 0, fun _ => 0, ⟨rfl, fun q hq => (h2b q hq), fun i hi => absurd hi (Nat.not_lt_zero i), fun i j _ hj => absurd hj (Nat.not_lt_zero j), fun q _ hp => absurd hp (Nat.lt_irrefl 0)⟩, fun _ _ => rfl, fun _ _ => rfl⟩
  obtain ⟨s1, s2, s3, s4, s5⟩ := hSI
  dsimp only at s1 s2 s3 s4 s5 hd3 ht3
  refine ⟨d3, t3, G, one, two, len, dor, dr, S, kns, v3, e3, ⟨hG, fun g hgG => (hg g hgG).2.1, fun k hk => ?_, ?_⟩, ⟨?_, ?_, fun g hgG => ?_, s2⟩, ⟨fun g hgG => ?_, fun k hk => ?_, s4, s5, hS2, hS7, ?_⟩⟩
  · rcases Nat.eq_zero_or_pos (dr k) with r | r
    · omega
    · obtain ⟨i, hi, rfl⟩ := s5 k hk r
      exact (s3 i hi).2.2.2.2
  · have p0 := s3 0 (by omega)
    have p1 := s3 1 (by omega)
    exact ct_two p0.2.2.1 p1.2.2.1 (s4 0 1 (by decide) (by omega)) (decide_eq_true (by omega)) (decide_eq_true (by omega))
  · rw [hd3 0 (by decide), h2a 0 (by decide)]; exact g0
  · rw [hd3 51 (by decide), h2a 51 (by decide)]; exact g51
  · obtain ⟨⟨q1, q2, q3, q4, q5⟩, -⟩ := hg g hgG
    have := hG.2
    refine ⟨?_, ?_, ?_, ?_, ?_⟩
    · rw [hd3 _ (by omega), h2a _ (by omega)]; exact q1
    · rw [hd3 _ (by omega), h2a _ (by omega)]; exact q2
    · rw [hd3 _ (by omega), h2a _ (by omega)]; exact q3
    · rw [hd3 _ (by omega), h2a _ (by omega)]; exact q4
    · rw [hd3 _ (by omega), h2a _ (by omega)]; exact q5
  · obtain ⟨-, -, ⟨l1, l2, l3, l4⟩, l5⟩ := hg g hgG
    have hpm := pos_mono dor hgG
    have keep : ∀ j, j < v → t3 j = t1 j := fun j hj => by rw [ht3 j (by omega), upd_n _ _ (by omega)]
    refine ⟨⟨?_, ?_, ?_, fun hdg => ?_⟩, ?_⟩
    · rw [keep _ (by omega)]; exact l1
    · rw [keep _ (by omega)]; exact l2
    · rw [keep _ (by omega)]; exact l3
    · rw [hdg, if_pos rfl] at hpm
      rw [keep _ (by omega)]; exact l4 hdg
    · by_cases r : g + 1 < G
      · have hpm2 := pos_mono dor r
        rw [if_pos r, keep _ (by omega)]
        exact l5 r
      · have : g + 1 = G := by omega
        rw [if_neg r, this, ← he, show e - 1 = v by omega, ht3 v (by omega), upd_s]
        rfl
  · rw [← he]
    exact s3 k hk
  · rw [s1, he]
end
section
/-! the page: letters written, and read for faults -/
set_option maxRecDepth 100000 in
theorem lettersIn_all : ∀ v, v < 127 → v ≠ 0 → f_X4_lettersIn (Int32.toInt64 (nI v)) = some 1 := by decide +kernel
set_option maxRecDepth 100000 in
theorem byteOf_all : ∀ v, v < 127 → f_X4_byteOf (Int32.toInt64 (nI v)) 0 = some (nI v) := by decide +kernel
theorem letters_e {i v : Nat} (cl : A32) (hi : i < 66) (h1 : 1 ≤ v) (h2 : v < 127) : f_X10_letters (nI i) cl (Int32.toInt64 (nI v)) = some (nI (i + 1), nI (i + 1), upd cl i (nI v)) := by
  unfold f_X10_letters f_X4_append
  obtain ⟨fu, hfu⟩ : ∃ q, FU = q + 2 := ⟨99998, rfl⟩
  rw [lettersIn_all v h2 (by omega), bnd_e, if_neg (by decide), nI_1, if_pos (show nI (i + 1) ≤ 66 from nI_le (b := 66) (by omega) (by decide)), hfu]
  rw [f_X4_append_b3, if_neg (by decide), byteOf_all v h2, bnd_e, set_e _ _ hi (by decide), bnd_e, nam_e, nam_e, nI_1, f_X4_append_b3, if_pos (by decide), bnd_e]
theorem write_e {t cl : A32} {n : Nat} (hn : n ≤ 64) (ht : ∀ i, i < n → ∃ v, 1 ≤ v ∧ v < 127 ∧ t i = nI v) : ∃ cl', f_L_write 64 0 cl t (nI n) = some (1, nI n, cl') ∧ ∀ i, i < n → cl' i = t i := by
  obtain ⟨⟨l, c⟩, ⟨h1, h2⟩, e⟩ := lp (fun fu (s : Nat × A32) i => f_L_write_b2 64 t (nI n) fu (nI s.1) s.2 (nI i)) n (fun i s => s.1 = i ∧ ∀ j, j < i → s.2 j = t j) (fun s => some (1, nI s.1, s.2)) (by
      rintro fu i ⟨l, c⟩ hi ⟨h1, h2⟩
      dsimp only at h1 h2
      subst h1
      obtain ⟨v, v1, v2, hv⟩ := ht l hi
      refine ⟨(l + 1, upd c l (nI v)), ⟨rfl, fun j hj => ?_⟩, ?_⟩
      · dsimp only
        rw [upd_e]
        by_cases q : j = l
        · subst q; rw [if_pos rfl, hv]
        · rw [if_neg q]; exact h2 j (by omega)
      · simp (disch := omega) only [f_L_write_b2, leF, if_false, inT, if_true, cl_e, hv, letters_e, bnd_e, nI_1, nam_e]) (by
      rintro fu ⟨l, c⟩ -
      simp (disch := omega) only [f_L_write_b2, leT, if_true]) (i := 0) (k := n) (fu := FU) (s := (0, cl)) (by omega) (FU_lt (by omega)) ⟨rfl, fun j h => absurd h (Nat.not_lt_zero j)⟩
  dsimp only at h1 h2 e
  subst h1
  exact ⟨c, e, h2⟩
theorem tx_vals {t : A32} {G : Nat} {one two len dr : Nat → Nat} {dor : Nat → Bool} {S n : Nat} {kn : Nat → Nat} (hw : WF G one two len dr) (hX : TX t G one two len dor dr S kn n) : n ≤ 64 ∧ ∀ i, i < n → ∃ v, 1 ≤ v ∧ v < 127 ∧ t i = nI v := by
  obtain ⟨x1, x2, x3, x4, x5, x6, x7⟩ := hX
  have hG := hw.1
  have hpl := pos_le dor G
  refine ⟨by omega, ?_⟩
  have low : ∀ g, g ≤ G → ∀ i, i < pos dor g → ∃ v, 1 ≤ v ∧ v < 127 ∧ t i = nI v := by
    intro g
    induction g with
    | zero => intro _ i hi; exact absurd hi (Nat.not_lt_zero i)
    | succ g ih =>
      intro hg i hi
      rcases Nat.lt_or_ge i (pos dor g) with q | q
      · exact ih (by omega) i q
      · obtain ⟨⟨l1, l2, l3, l4⟩, l5⟩ := x1 g (by omega)
        obtain ⟨w1, w2, w3, w4, w5⟩ := hw.2.1 g (by omega)
        have hlast : ∃ v, 1 ≤ v ∧ v < 127 ∧ t (pos dor (g + 1) - 1) = nI v := by
          rw [l5]
          split
          · exact ⟨44, by decide, by decide, rfl⟩
          · exact ⟨59, by decide, by decide, rfl⟩
        have hps : pos dor (g + 1) = pos dor g + 4 + (if dor g = true then 1 else 0) := rfl
        by_cases r0 : i = pos dor g
        · rw [r0]; exact ⟨_, by omega, by omega, l1⟩
        · by_cases r1 : i = pos dor g + 1
          · rw [r1]; exact ⟨_, by omega, by omega, l2⟩
          · by_cases r2 : i = pos dor g + 2
            · rw [r2]; exact ⟨_, by omega, by omega, l3⟩
            · by_cases r3 : i = pos dor (g + 1) - 1
              · rw [r3]; exact hlast
              · by_cases hd : dor g = true
                · rw [if_pos hd] at hps
                  have : i = pos dor g + 3 := by omega
                  rw [this]
                  exact ⟨100, by decide, by decide, l4 hd⟩
                · rw [if_neg hd] at hps
                  omega
  intro i hi
  rcases Nat.lt_or_ge i (pos dor G) with q | q
  · exact low G (Nat.le_refl _) i q
  · obtain ⟨k, hk⟩ : ∃ k, i = pos dor G + 2 * k ∨ i = pos dor G + 2 * k + 1 := ⟨(i - pos dor G) / 2, by omega⟩
    obtain ⟨a1, a2, a3, a4, a5⟩ := x2 k (by omega)
    rcases hk with r | r
    · rw [r]; exact ⟨_, by omega, by omega, a1⟩
    · rw [r]; exact ⟨_, by omega, by omega, a2⟩
/- the reader, letter by letter -/
theorem sub48 (a : Nat) : nI (48 + a) - 48 = nI a := by
  have := pk_sub (a := 48 + a) (b := 48) (by omega)
  rw [Nat.add_sub_cancel_left] at this
  exact this
theorem tk0 {a : Nat} (ha : a < 7) (f g s : Int32) : f_X6_takes 0 f g s (nI (48 + a)) = some (1, 1, nI (48 + a), g, s) := by
  unfold f_X6_takes
  rw [if_pos rfl, sub48, isKnot_e ha, bnd_e, if_pos (Or.inr rfl)]
theorem tk1 {a b : Nat} (ha : a < 7) (hb : b < 7) (hab : a ≠ b) (g s : Int32) : f_X6_takes 1 (nI (48 + a)) g s (nI (48 + b)) = some (1, 2, nI (48 + a), g, s) := by
  unfold f_X6_takes
  rw [if_neg (by decide), if_pos rfl, sub48, isKnot_e hb, bnd_e, if_neg (by decide), if_neg (fun h => by have := (nI_eq (by omega) (by omega)).mp h; omega)]
theorem tk2 {l : Nat} (h1 : 1 ≤ l) (h9 : l ≤ 9) (f s : Int32) (g : Nat) : f_X6_takes 2 f (nI g) s (nI (48 + l)) = some (1, 3, f, nI (g + 1), s) := by
  unfold f_X6_takes
  rw [if_neg (by decide), if_neg (by decide), if_pos rfl, nam_e, nI_1, if_neg (show ¬ nI (48 + l) < 49 from nI_nlt (b := 49) (by omega) (by omega)), if_neg (show ¬ (57 : Int32) < nI (48 + l) from nI_nlt (a := 57) (by omega) (by decide))]
theorem tk3d (f g s : Int32) : f_X6_takes 3 f g s (nI 100) = some (1, 4, f, g, s) := by
  unfold f_X6_takes
  rw [if_neg (by decide), if_neg (by decide), if_neg (by decide), if_pos rfl, if_pos (show nI 100 = 100 from rfl)]
  rfl
theorem tk3c {g : Nat} (hg : g < 10) (f s : Int32) : f_X6_takes 3 f (nI g) s (nI 44) = some (1, 0, f, nI g, s) := by
  unfold f_X6_takes f_X6_takesBreak f_X6_takesBreak_b12 f_X6_takesBreak_b36
  rw [if_neg (by decide), if_neg (by decide), if_neg (by decide), if_pos rfl, if_neg (by decide), if_neg (by decide), if_neg (by decide), if_pos (show nI 44 = 44 from rfl), if_neg (show ¬ (10 : Int32) ≤ nI g from nI_ge (b := 10) hg (by decide)), bnd_e, if_neg (by decide)]
  rfl
theorem tk3s (g : Int32) (f s : Int32) : f_X6_takes 3 f g s (nI 59) = some (1, 5, f, g, s) := by
  unfold f_X6_takes f_X6_takesBreak f_X6_takesBreak_b12 f_X6_takesBreak_b36
  rw [if_neg (by decide), if_neg (by decide), if_neg (by decide), if_pos rfl, if_neg (by decide), if_pos (show nI 59 = 59 from rfl), if_pos (show nI 59 = 59 from rfl), bnd_e, if_neg (by decide)]
  rfl
theorem tk4c {g : Nat} (hg : g < 10) (f s : Int32) : f_X6_takes 4 f (nI g) s (nI 44) = some (1, 0, f, nI g, s) := by
  unfold f_X6_takes f_X6_takesBreak f_X6_takesBreak_b12 f_X6_takesBreak_b36
  rw [if_neg (by decide), if_neg (by decide), if_neg (by decide), if_neg (by decide), if_pos rfl, if_neg (by decide), if_neg (by decide), if_pos (show nI 44 = 44 from rfl), if_neg (show ¬ (10 : Int32) ≤ nI g from nI_ge (b := 10) hg (by decide)), bnd_e, if_pos (Or.inr rfl)]
theorem tk4s (g : Int32) (f s : Int32) : f_X6_takes 4 f g s (nI 59) = some (1, 5, f, g, s) := by
  unfold f_X6_takes f_X6_takesBreak f_X6_takesBreak_b12 f_X6_takesBreak_b36
  rw [if_neg (by decide), if_neg (by decide), if_neg (by decide), if_neg (by decide), if_pos rfl, if_pos (show nI 59 = 59 from rfl), if_pos (show nI 59 = 59 from rfl), bnd_e, if_pos (Or.inr rfl)]
theorem tk5 {q : Nat} (hq : q < 7) {s : Int32} (hs : bt s q = false) (f g : Int32) : f_X6_takes 5 f g s (nI (48 + q)) = some ((1 : Int32), (6 : Int32), f, g, s ||| ((1 : Int32) <<< (nI q &&& 31))) := by
  unfold f_X6_takes f_X6_takesShaft
  rw [if_neg (by decide), if_neg (by decide), if_neg (by decide), if_neg (by decide), if_neg (by decide), if_pos rfl, sub48, isKnot_e hq, bnd_e, if_neg (by decide), fbit_e _ (by omega), bnd_e, hs, b2i_f, if_neg (by decide), nam_e, bnd_e, if_pos (Or.inr rfl)]
theorem tk6 {r : Nat} (h1 : 1 ≤ r) (h2 : r ≤ 10) (f g s : Int32) : f_X6_takes 6 f g s (nI (47 + r)) = some (1, 5, f, g, s) := by
  unfold f_X6_takes
  rw [if_neg (by decide), if_neg (by decide), if_neg (by decide), if_neg (by decide), if_neg (by decide), if_neg (by decide), if_neg (show ¬ nI (47 + r) < 48 from nI_nlt (b := 48) (by omega) (by omega)), if_neg (show ¬ (57 : Int32) < nI (47 + r) from nI_nlt (a := 57) (by omega) (by decide))]
theorem rd_step {cl : A32} {n i : Nat} (hi : i < n) (hn : n ≤ 64) {due first gal sh c due' first' gal' sh' : Int32} (hc : cl i = c) (ht : f_X6_takes due first gal sh c = some (1, due', first', gal', sh')) (fu : Nat) :
    f_X4_firstFault_b9 (nI n) cl (fu + 1) due first gal sh (nI i) = f_X4_firstFault_b9 (nI n) cl fu due' first' gal' sh' (nI (i + 1)) := by
  rw [f_X4_firstFault_b9, if_neg (nI_ge hi (by omega)), get_e cl (by omega) (by decide), bnd_e, hc, ht, bnd_e, if_neg (show ¬ (1 : Int32) = 0 by decide), nam_e, nI_1]
end
section
/-! the page is a mine -/
section RDR
variable {cl : A32} {G : Nat} {one two len dr : Nat → Nat} {dor : Nat → Bool} {S n : Nat} {kn : Nat → Nat}
/-- one gallery's letters -/
theorem rd_gal (hw : WF G one two len dr) (hX : TX cl G one two len dor dr S kn n) {g : Nat} (hg : g < G) (f sh : Int32) (fu : Nat) :
    f_X4_firstFault_b9 (nI n) cl (fu + (4 + (if dor g = true then 1 else 0))) 0 f (nI g) sh (nI (pos dor g)) = f_X4_firstFault_b9 (nI n) cl fu (if g + 1 < G then 0 else 5) (nI (48 + one g)) (nI (g + 1)) sh (nI (pos dor (g + 1))) := by
  obtain ⟨hn, -⟩ := tx_vals hw hX
  obtain ⟨x1, x2, x3, x4, x5, x6, x7⟩ := hX
  obtain ⟨⟨l1, l2, l3, l4⟩, l5⟩ := x1 g hg
  obtain ⟨w1, w2, w3, w4, w5⟩ := hw.2.1 g hg
  have hG := hw.1
  have hps : pos dor (g + 1) = pos dor g + 4 + (if dor g = true then 1 else 0) := rfl
  have hpm := pos_mono dor hg
  have hlt : pos dor (g + 1) ≤ pos dor G := by rw [hps]; exact hpm
  by_cases hd : dor g = true
  · rw [if_pos hd] at hps ⊢
    have l5' : cl (pos dor g + 4) = nI (if g + 1 < G then 44 else 59) := by rw [← l5, hps]; rfl
    rw [show fu + (4 + 1) = fu + 1 + 1 + 1 + 1 + 1 by omega, rd_step (by omega) hn l1 (tk0 w1 f _ _), rd_step (by omega) hn l2 (tk1 w1 w2 w3 _ _), rd_step (by omega) hn l3 (tk2 w4 w5 _ _ _), rd_step (by omega) hn (l4 hd) (tk3d _ _ _), hps]
    by_cases q : g + 1 < G
    · rw [if_pos q] at l5'
      rw [if_pos q, rd_step (by omega) hn l5' (tk4c (show g + 1 < 10 by omega) _ _)]
    · rw [if_neg q] at l5'
      rw [if_neg q, rd_step (by omega) hn l5' (tk4s _ _ _)]
  · rw [if_neg hd] at hps ⊢
    have l5' : cl (pos dor g + 3) = nI (if g + 1 < G then 44 else 59) := by rw [← l5, hps]; rfl
    rw [show fu + (4 + 0) = fu + 1 + 1 + 1 + 1 by omega, rd_step (by omega) hn l1 (tk0 w1 f _ _), rd_step (by omega) hn l2 (tk1 w1 w2 w3 _ _), rd_step (by omega) hn l3 (tk2 w4 w5 _ _ _), hps]
    by_cases q : g + 1 < G
    · rw [if_pos q] at l5'
      rw [if_pos q, rd_step (by omega) hn l5' (tk3c (show g + 1 < 10 by omega) _ _)]
    · rw [if_neg q] at l5'
      rw [if_neg q, rd_step (by omega) hn l5' (tk3s _ _ _)]
theorem rd_gals (hw : WF G one two len dr) (hX : TX cl G one two len dor dr S kn n) (f0 : Int32) : ∀ g, g ≤ G → ∃ f, ∀ fu, f_X4_firstFault_b9 (nI n) cl (fu + pos dor g) 0 f0 0 0 0 = f_X4_firstFault_b9 (nI n) cl fu (if g < G then 0 else 5) f (nI g) 0 (nI (pos dor g)) := by
  have hG := hw.1
  intro g
  induction g with
  | zero =>
    intro _
    refine ⟨f0, fun fu => ?_⟩
    rw [if_pos (by omega)]
    rfl
  | succ g ih =>
    intro hg
    obtain ⟨f, hf⟩ := ih (by omega)
    refine ⟨nI (48 + one g), fun fu => ?_⟩
    have hps : pos dor (g + 1) = pos dor g + 4 + (if dor g = true then 1 else 0) := rfl
    have h1 := hf (fu + (4 + (if dor g = true then 1 else 0)))
    rw [if_pos (show g < G by omega), rd_gal hw hX (by omega) f 0 fu] at h1
    rw [← h1, hps]
    congr 1
    omega
theorem rd_shafts (hw : WF G one two len dr) (hX : TX cl G one two len dor dr S kn n) (f0 : Int32) : ∀ k, k ≤ S → ∃ f sh, (∀ q, q < 32 → (bt sh q = true ↔ ∃ i, i < k ∧ kn i = q)) ∧ ∀ fu, f_X4_firstFault_b9 (nI n) cl (fu + (pos dor G + 2 * k)) 0 f0 0 0 0 = f_X4_firstFault_b9 (nI n) cl fu 5 f (nI G) sh (nI (pos dor G + 2 * k)) := by
  obtain ⟨hn, -⟩ := tx_vals hw hX
  have hX' := hX
  obtain ⟨x1, x2, x3, x4, x5, x6, x7⟩ := hX
  intro k
  induction k with
  | zero =>
    intro _
    obtain ⟨f, hf⟩ := rd_gals hw hX' f0 G (Nat.le_refl _)
    refine ⟨f, 0, fun q hq => ?_, fun fu => ?_⟩
    · simp [b_0]
    · have := hf fu
      rw [if_neg (Nat.lt_irrefl G)] at this
      exact this
  | succ k ih =>
    intro hk
    obtain ⟨f, sh, h1, h2⟩ := ih (by omega)
    obtain ⟨a1, a2, a3, a4, a5⟩ := x2 k (by omega)
    have hb : bt sh (kn k) = false := by
      cases hh : bt sh (kn k)
      · rfl
      · obtain ⟨i, i1, i2⟩ := (h1 _ (by omega)).mp hh
        exact absurd i2 (x3 i k i1 (by omega))
    refine ⟨f, sh ||| ((1 : Int32) <<< (nI (kn k) &&& 31)), fun q hq => ?_, fun fu => ?_⟩
    · rw [b_or, one_shl (by omega) hq, Bool.or_eq_true, decide_eq_true_eq, h1 q hq]
      constructor
      · rintro (⟨i, i1, i2⟩ | r)
        · exact ⟨i, by omega, i2⟩
        · exact ⟨k, by omega, r.symm⟩
      · rintro ⟨i, i1, i2⟩
        rcases Nat.lt_or_ge i k with r | r
        · exact Or.inl ⟨i, r, i2⟩
        · have : i = k := by omega
          subst this
          exact Or.inr i2.symm
    · have h3 := h2 (fu + 1 + 1)
      rw [rd_step (by omega) hn a1 (tk5 a3 hb _ _), rd_step (by omega) hn a2 (tk6 a4 a5 _ _ _)] at h3
      rw [show pos dor G + 2 * (k + 1) = pos dor G + 2 * k + 1 + 1 by omega, ← h3]
      congr 1
      omega
theorem fault_e (hw : WF G one two len dr) (hX : TX cl G one two len dor dr S kn n) (r0 f0 g0 s0 : Int32) : ∃ f sh, (∀ q, q < 32 → bt sh q = (decide (q < 7) && sft dr q)) ∧ f_X4_firstFault (nI n) cl r0 f0 g0 s0 = some (nI n, 5, f, nI G, sh) := by
  obtain ⟨hn, -⟩ := tx_vals hw hX
  obtain ⟨f, sh, h1, h2⟩ := rd_shafts hw hX f0 S (Nat.le_refl _)
  obtain ⟨x1, x2, x3, x4, x5, x6, x7⟩ := hX
  refine ⟨f, sh, fun q hq => bool_ext ?_, ?_⟩
  · rw [h1 q hq, Bool.and_eq_true, decide_eq_true_eq]
    unfold sft
    rw [decide_eq_true_eq]
    constructor
    · rintro ⟨i, i1, rfl⟩
      obtain ⟨a1, a2, a3, a4, a5⟩ := x2 i i1
      exact ⟨a3, by omega⟩
    · rintro ⟨b1, b2⟩
      exact x4 q b1 b2
  · unfold f_X4_firstFault f_X6_start
    rw [bnd_e]
    have h3 := h2 (FU - n)
    rw [← x7, Nat.sub_add_cancel (Nat.le_of_lt (FU_lt (by omega)))] at h3
    rw [show f_X4_firstFault_b9 (nI n) cl FU 0 f0 0 0 0 = f_X4_firstFault_b9 (nI n) cl (FU - n) 5 f (nI G) sh (nI n) from h3]
    obtain ⟨fu, hfu⟩ : ∃ q, FU - n = q + 1 := ⟨FU - n - 1, by have := FU_lt (n := n) (by omega); omega⟩
    rw [hfu, f_X4_firstFault_b9, if_pos (nI_le (Nat.le_refl n) (by omega))]
theorem isMine_e (hw : WF G one two len dr) (hX : TX cl G one two len dor dr S kn n) (r0 f0 g0 s0 : Int32) : ∃ y, f_X4_isMine (nI n) cl r0 f0 g0 s0 = some (1, y) := by
  obtain ⟨f, sh, h1, h2⟩ := fault_e hw hX r0 f0 g0 s0
  refine ⟨(5, f, nI G, sh), ?_⟩
  have hb : ∀ i, 7 ≤ i → i < 32 → bt sh i = false := fun i h3 h4 => by rw [h1 i h4, decide_eq_false (by omega)]; rfl
  have hc : fb_ct (bt sh) 7 = fb_ct (fun k => decide (0 < dr k)) 7 := fb_ct_cong (fun q hq => by rw [h1 q (by omega), decide_eq_true hq]; rfl)
  have h2' := hw.2.2.2
  have hl := fb_ct_le (bt sh) 7
  unfold f_X4_isMine f_X6_mayEnd
  rw [h2, bnd_e]
  rw [if_pos (show nI n = nI n from rfl), if_pos (show (5 : Int32) = 5 from rfl), bc_n (by decide) hb, bnd_e, if_neg (show ¬ nI (fb_ct (bt sh) 7) < 2 from nI_nlt (b := 2) (by omega) (by omega)), bnd_e, if_neg (by decide)]
end RDR
theorem digit_e {cl : A32} {i a : Nat} (hi : i < 66) (h : cl i = nI (48 + a)) : f_X4_digit cl (nI i) = some (nI a) := by
  unfold f_X4_digit
  rw [get_e cl hi (by decide), bnd_e, h, sub48]
theorem digit_d {cl : A32} {i r : Nat} (hi : i < 66) (hr : 1 ≤ r) (h : cl i = nI (47 + r)) : f_X4_digit cl (nI i) = some (nI (r - 1)) := digit_e hi (by rw [h]; congr 1; omega)
end
section
/-! the mine, read -/
section RDM
variable {cl : A32} {G : Nat} {one two len dr : Nat → Nat} {dor : Nat → Bool} {S n : Nat} {kn : Nat → Nat}
theorem shafts_r (hw : WF G one two len dr) (hX : TX cl G one two len dor dr S kn n) (cs0 : Int32) (cdr0 : A32) : ∃ cs cdr, f_X5_readShafts cs0 cdr0 (nI n) cl (nI (pos dor G)) = some (cs, cdr) ∧ (∀ k, k < 7 → cdr k = dI (dr k)) ∧ ∀ q, q < 32 → bt cs q = (decide (q < 7) && sft dr q) := by
  obtain ⟨hn, -⟩ := tx_vals hw hX
  obtain ⟨x1, x2, x3, x4, x5, x6, x7⟩ := hX
  obtain ⟨c1, e1, h1⟩ := fill_e (n := 7) (by decide) cdr0 (-1)
  unfold f_X5_readShafts
  rw [e1, bnd_e]
  obtain ⟨⟨cs, cdr⟩, ⟨h2, h3, h4⟩, e2⟩ := lp (fun fu (s : Int32 × A32) k => f_X5_readShafts_b15 (nI n) cl fu s.1 s.2 (nI (pos dor G + 2 * k))) S
    (fun k s => (∀ q, q < 32 → (bt s.1 q = true ↔ ∃ i, i < k ∧ kn i = q)) ∧ (∀ i, i < k → s.2 (kn i) = nI (dr (kn i) - 1)) ∧ ∀ q, q < 7 → (∀ i, i < k → kn i ≠ q) → s.2 q = -1)
    (fun s => some s) (by
      rintro fu k ⟨cs, cdr⟩ hk ⟨h2, h3, h4⟩
      dsimp only at h2 h3 h4
      obtain ⟨a1, a2, a3, a4, a5⟩ := x2 k hk
      have d1 := digit_e (cl := cl) (show pos dor G + 2 * k < 66 by omega) a1
      have d2 := digit_d (cl := cl) (show pos dor G + 2 * k + 1 < 66 by omega) a4 a2
      refine ⟨(cs ||| ((1 : Int32) <<< (nI (kn k) &&& 31)), upd cdr (kn k) (nI (dr (kn k) - 1))), ⟨fun q hq => ?_, fun i hi => ?_, fun q hq hne => ?_⟩, ?_⟩
      · dsimp only
        rw [b_or, one_shl (by omega) hq, Bool.or_eq_true, decide_eq_true_eq, h2 q hq]
        constructor
        · rintro (⟨i, i1, i2⟩ | r)
          · exact ⟨i, by omega, i2⟩
          · exact ⟨k, by omega, r.symm⟩
        · rintro ⟨i, i1, i2⟩
          rcases Nat.lt_or_ge i k with r | r
          · exact Or.inl ⟨i, r, i2⟩
          · have : i = k := by omega
            subst this
            exact Or.inr i2.symm
      · dsimp only
        rcases Nat.lt_or_ge i k with r | r
        · rw [upd_n _ _ (x3 i k r hk)]
          exact h3 i r
        · have : i = k := by omega
          subst this
          rw [upd_s]
      · dsimp only
        rw [upd_n _ _ (Ne.symm (hne k (by omega)))]
        exact h4 q hq (fun i hi => hne i (by omega))
      · dsimp only
        rw [f_X5_readShafts_b15, nI_1, if_neg (nI_ge (show pos dor G + 2 * k + 1 < n by omega) (by omega)), d1, bnd_e, d2, bnd_e, set_e _ _ a3 (by decide), bnd_e, bnd_e, nam_e, nam_e, show nI (pos dor G + 2 * k) + 2 = nI (pos dor G + 2 * (k + 1)) from nI_add (pos dor G + 2 * k) 2]) (by
      rintro fu ⟨cs, cdr⟩ -
      dsimp only
      rw [f_X5_readShafts_b15, nI_1, if_pos (nI_le (show n ≤ pos dor G + 2 * S + 1 by omega) (by omega))]) (i := 0) (k := S) (fu := FU) (s := (0, c1)) (by omega) (FU_lt (by omega)) ⟨fun q hq => by simp [b_0], fun i hi => absurd hi (Nat.not_lt_zero i), fun q hq _ => h1 q hq⟩
  refine ⟨cs, cdr, e2, fun k hk => ?_, fun q hq => bool_ext ?_⟩
  · unfold dI
    by_cases r : dr k = 0
    · rw [if_pos r]
      exact h4 k hk (fun i hi hh => by
        have := (x2 i hi).2.2.2.1
        rw [hh] at this
        omega)
    · rw [if_neg r]
      obtain ⟨i, i1, rfl⟩ := x4 k hk (by omega)
      exact h3 i i1
  · rw [h2 q hq, Bool.and_eq_true, decide_eq_true_eq]
    unfold sft
    rw [decide_eq_true_eq]
    constructor
    · rintro ⟨i, i1, rfl⟩
      obtain ⟨a1, a2, a3, a4, a5⟩ := x2 i i1
      exact ⟨a3, by omega⟩
    · rintro ⟨b1, b2⟩
      exact x4 q b1 b2
theorem readFrom_e (hw : WF G one two len dr) (hX : TX cl G one two len dor dr S kn n) (cg0 cd0 cs0 : Int32) (c1 c2 c3 cdr0 : A32) :
    ∃ cd cs o1 o2 o3 cdr, f_X5_readFrom cg0 cd0 cs0 c1 c2 c3 cdr0 (nI n) cl = some (nI G, cd, cs, o1, o2, o3, cdr) ∧ MA (nI G) cd cs o1 o2 o3 cdr G one two len dor dr := by
  obtain ⟨hn, -⟩ := tx_vals hw hX
  obtain ⟨cs, cdr, es, hs1, hs2⟩ := shafts_r hw hX cs0 cdr0
  obtain ⟨x1, x2, x3, x4, x5, x6, x7⟩ := hX
  have hG := hw.1
  obtain ⟨⟨cd, o1, o2, o3⟩, ⟨h1, h2⟩, e⟩ := lp (fun fu (s : Int32 × A32 × A32 × A32) g => f_X5_readFrom_b14 cs0 cdr0 (nI n) cl fu (nI g) s.1 s.2.1 s.2.2.1 s.2.2.2 (nI (pos dor g)) (nI g)) G
    (fun g s => (∀ j, j < 32 → bt s.1 j = (decide (j < g) && dor j)) ∧ ∀ j, j < g → s.2.1 j = nI (one j) ∧ s.2.2.1 j = nI (two j) ∧ s.2.2.2 j = nI (len j))
    (fun s => f_X5_readFrom_b132 (nI G) s.1 cs0 s.2.1 s.2.2.1 s.2.2.2 cdr0 (nI n) cl (nI (pos dor G))) (by
      rintro fu g ⟨cd, o1, o2, o3⟩ hg ⟨h1, h2⟩
      dsimp only at h1 h2
      obtain ⟨⟨l1, l2, l3, l4⟩, l5⟩ := x1 g hg
      obtain ⟨w1, w2, w3, w4, w5⟩ := hw.2.1 g hg
      have hps : pos dor (g + 1) = pos dor g + 4 + (if dor g = true then 1 else 0) := rfl
      have hpm := pos_mono dor hg
      have hpl := pos_le dor G
      -- into the gallery
      have e39 : f_X5_readFrom_b14 cs0 cdr0 (nI n) cl (fu + 1) (nI g) cd o1 o2 o3 (nI (pos dor g)) (nI g) = f_X5_readFrom_b39 (f_X5_readFrom_b14 cs0 cdr0 (nI n) cl fu) (nI g) cd cs0 o1 o2 o3 cdr0 (nI n) cl (nI (pos dor g)) (nI g) := by
        rw [f_X5_readFrom_b14, if_neg (show ¬ (10 : Int32) ≤ nI g from nI_ge (b := 10) (by omega) (by decide))]
        rcases Nat.eq_zero_or_pos g with r | r
        · subst r
          rw [if_pos (show nI (pos dor 0) = 0 from rfl)]
        · obtain ⟨-, k5⟩ := x1 (g - 1) (by omega)
          rw [show g - 1 + 1 = g by omega, if_pos hg] at k5
          have hpg := pos_ge dor g
          rw [if_neg (nI_ne0 (n := pos dor g) (by omega) (by omega)), sub1 (show 1 ≤ pos dor g by omega), get_e cl (by omega) (by decide), bnd_e, k5, if_pos (show nI 44 = 44 from rfl)]
      have d1 := digit_e (cl := cl) (show pos dor g < 66 by omega) l1
      have d2 := digit_e (cl := cl) (show pos dor g + 1 < 66 by omega) l2
      have d3 := digit_e (cl := cl) (show pos dor g + 2 < 66 by omega) l3
      have rows : ∀ j, j < g + 1 → upd o1 g (nI (one g)) j = nI (one j) ∧ upd o2 g (nI (two g)) j = nI (two j) ∧ upd o3 g (nI (len g)) j = nI (len j) := by
        intro j hj
        by_cases r : j = g
        · subst r
          rw [upd_s, upd_s, upd_s]
          exact ⟨rfl, rfl, rfl⟩
        · rw [upd_n _ _ r, upd_n _ _ r, upd_n _ _ r]
          exact h2 j (by omega)
      dsimp only
      rw [e39]
      unfold f_X5_readFrom_b39
      rw [d1, bnd_e, set_e _ _ (by omega) (by decide), bnd_e, nI_1, d2, bnd_e, set_e _ _ (by omega) (by decide), bnd_e, show nI (pos dor g) + 2 = nI (pos dor g + 2) from nI_add _ 2, d3, bnd_e, set_e _ _ (by omega) (by decide), bnd_e, nam_e, nam_e, nI_1, show nI (pos dor g) + 3 = nI (pos dor g + 3) from nI_add _ 3, get_e cl (by omega) (by decide), bnd_e]
      by_cases hd : dor g = true
      · rw [if_pos hd] at hps
        refine ⟨(cd ||| ((1 : Int32) <<< (nI g &&& 31)), upd o1 g (nI (one g)), upd o2 g (nI (two g)), upd o3 g (nI (len g))), ⟨fun j hj => ?_, rows⟩, ?_⟩
        · dsimp only
          rw [b_or, one_shl (by omega) hj, h1 j hj]
          by_cases r : j = g
          · subst r
            simp [hd]
          · by_cases r2 : j < g
            · have r3 : j < g + 1 := by omega
              simp [r, r2, r3]
            · have r3 : ¬ j < g + 1 := by omega
              simp [r, r2, r3]
        · rw [l4 hd, if_pos (show nI 100 = 100 from rfl), nam_e, nam_e]
          unfold f_X5_readFrom_b123
          rw [nam_e, nam_e, nI_1, nI_1, nI_1, hps]
      · rw [if_neg hd] at hps
        have l5' : cl (pos dor g + 3) = nI (if g + 1 < G then 44 else 59) := by rw [← l5, hps]; rfl
        refine ⟨(cd, upd o1 g (nI (one g)), upd o2 g (nI (two g)), upd o3 g (nI (len g))), ⟨fun j hj => ?_, rows⟩, ?_⟩
        · dsimp only
          rw [h1 j hj]
          by_cases r : j = g
          · subst r
            simp [hd]
          · by_cases r2 : j < g
            · have r3 : j < g + 1 := by omega
              simp [r2, r3]
            · have r3 : ¬ j < g + 1 := by omega
              simp [r2, r3]
        · rw [l5', if_neg (by split <;> decide)]
          unfold f_X5_readFrom_b123
          rw [nam_e, nam_e, nI_1, nI_1, hps]) (by
      rintro fu ⟨cd, o1, o2, o3⟩ -
      dsimp only
      rw [f_X5_readFrom_b14]
      by_cases q : 10 ≤ G
      · rw [if_pos (show (10 : Int32) ≤ nI G from nI_le (a := 10) q (by omega))]
      · obtain ⟨-, k5⟩ := x1 (G - 1) (by omega)
        rw [show G - 1 + 1 = G by omega, if_neg (Nat.lt_irrefl G)] at k5
        have hpg := pos_ge dor G
        have hpl := pos_le dor G
        rw [if_neg (show ¬ (10 : Int32) ≤ nI G from nI_ge (b := 10) (by omega) (by decide)), if_neg (nI_ne0 (n := pos dor G) (by omega) (by omega)), sub1 (show 1 ≤ pos dor G by omega), get_e cl (by omega) (by decide), bnd_e, k5, if_neg (show ¬ nI 59 = 44 by decide)]) (i := 0) (k := G) (fu := FU) (s := (0, c1, c2, c3)) (by omega) (FU_lt (by omega)) ⟨fun j hj => by simp [b_0], fun j hj => absurd hj (Nat.not_lt_zero j)⟩
  refine ⟨cd, cs, o1, o2, o3, cdr, ?_, rfl, fun g hg => ⟨(h2 g hg).1, (h2 g hg).2.1, (h2 g hg).2.2, ?_⟩, hs1, hs2⟩
  · unfold f_X5_readFrom
    refine Eq.trans e ?_
    unfold f_X5_readFrom_b132
    rw [es, bnd_e]
  · have := h1 g (by omega)
    dsimp only at this
    rw [this, decide_eq_true hg, Bool.true_and]
set_option maxRecDepth 100000 in
theorem allG_all : ∀ G, G < 11 → ∀ g, g < G → bt (((1 : Int32) <<< (nI G &&& 31)) - 1) g = true := by decide +kernel
end RDM
end
section
/-! a turn of the law -/
def ST (cg cdoors cshafts : Int32) (cone ctwo clen cdr : A32) (cbr : Int32) (ch ci csm : A32) (csize : Int32) (ckinds : A32) (copen cmoon cout cgone : Int32) (cgas cplace d p : A32) (G : Nat) (one two len : Nat → Nat) (dor : Nat → Bool) (dr : Nat → Nat) (opn : Nat → Bool) (moon : Bool) (gas kind place : Nat → Nat) (outx : Int32) (M T : Nat) : Prop :=
  MA cg cdoors cshafts cone ctwo clen cdr G one two len dor dr ∧ WF G one two len dr ∧ (∀ g, g < G → bt copen g = opn g) ∧ cmoon = b2i moon ∧ AO cbr ch ci G one two opn moon dr ∧ SO csm G one two len (flw G one two opn moon dr) ∧ CM csize ckinds cplace cgas cout cgone gas kind place outx M T ∧ DA d G one two len dor opn moon dr ∧ PA p gas kind place outx M T ∧ WM gas kind place outx M T
abbrev KT : Type := Int32 → A32 → A32 → A32 → A32 → Int32 → Int32 → Int32 → Int32 → A32 → A32 → Int32 → Int32 → Int32 → Int32 → A32 → A32 → Int32 → A32 → A32 → Int32 → Option Int32
/-- the turn ends well: the next turn's state stands -/
def GO (K : KT) (cg cdoors cshafts : Int32) (cone ctwo clen cdr : A32) (csize : Int32) (ckinds : A32) (G : Nat) (one two len : Nat → Nat) (dor : Nat → Bool) (dr kind : Nat → Nat) (M T : Nat) (v6 : Int32) (r : Option Int32) : Prop :=
  ∃ (cbr : Int32) (ch ci cn csm : A32) (copen cmoon cout cgone : Int32) (cgas cplace : A32) (x1 x2 x3 x4 : Int32) (x5 x6 : A32) (x7 : Int32) (d p : A32) (opn : Nat → Bool) (moon : Bool) (gas place : Nat → Nat) (outx : Int32) (T' : Nat), ST cg cdoors cshafts cone ctwo clen cdr cbr ch ci csm csize ckinds copen cmoon cout cgone cgas cplace d p G one two len dor dr opn moon gas kind place outx M T' ∧ T' ≤ T + 60 ∧ r = K cbr ch ci cn csm copen cmoon cout cgone cgas cplace x1 x2 x3 x4 x5 x6 x7 d p (v6 + 1)
section TURN
variable {n : Nat} {xs t : A32} {g1 g2 g3 : Int32} {g4 : A32} {g5 g6 g7 g8 : Int32} {cg cdoors cshafts : Int32} {cone ctwo clen cdr : A32} {cbr : Int32} {ch ci cn csm : A32} {csize : Int32} {ckinds : A32} {copen cmoon cout cgone : Int32} {cgas cplace d p : A32} {x1 x2 x3 x4 : Int32} {x5 x6 : A32} {x7 : Int32} {G : Nat} {one two len : Nat → Nat} {dor : Nat → Bool} {dr : Nat → Nat} {opn : Nat → Bool} {moon : Bool} {gas kind place : Nat → Nat} {outx : Int32} {M T T0 : Nat}
theorem go758 (hS : ST cg cdoors cshafts cone ctwo clen cdr cbr ch ci csm csize ckinds copen cmoon cout cgone cgas cplace d p G one two len dor dr opn moon gas kind place outx M T) (hT : T ≤ T0 + 60) (K : KT) (v6 : Int32) : GO K cg cdoors cshafts cone ctwo clen cdr csize ckinds G one two len dor dr kind M T0 v6 (f_L_law_b758 K n xs g1 g2 g3 g4 g5 g6 g7 g8 cg cdoors cshafts cone ctwo clen cdr cbr ch ci cn csm csize ckinds copen cmoon cout cgone cgas cplace x1 x2 x3 x4 x5 x6 x7 d p t v6) := by
  have hS' := hS
  obtain ⟨s1, s2, s3, s4, s5, s6, s7, s8, s9, s10⟩ := hS
  refine ⟨cbr, ch, ci, cn, csm, copen, cmoon, cout, cgone, cgas, cplace, x1, x2, x3, x4, x5, x6, x7, d, p, opn, moon, gas, place, outx, T, hS', hT, ?_⟩
  unfold f_L_law_b758
  subst s4
  rw [L_stands_e g1 g2 g3 s1 s8 s2 s3 s5 s7 s9 s10, bnd_e, if_neg (by decide), nam_e]
theorem DA.door {g : Nat} (hD : DA d G one two len dor opn moon dr) (hG : G ≤ 10) (hg : g < G) (op : Bool) : DA (upd d (41 + g) (b2i op)) G one two len dor (fun k => if k = g then op else opn k) moon dr := by
  obtain ⟨h0, h51, h1, h2⟩ := hD
  refine ⟨?_, ?_, fun k hk => ?_, fun k hk => ?_⟩
  · rw [upd_n _ _ (by omega)]; exact h0
  · rw [upd_n _ _ (by omega)]; exact h51
  · obtain ⟨a1, a2, a3, a4, a5⟩ := h1 k hk
    refine ⟨?_, ?_, ?_, ?_, ?_⟩
    · rw [upd_n _ _ (by omega)]; exact a1
    · rw [upd_n _ _ (by omega)]; exact a2
    · rw [upd_n _ _ (by omega)]; exact a3
    · rw [upd_n _ _ (by omega)]; exact a4
    · show upd d (41 + g) (b2i op) (41 + k) = b2i (if k = g then op else opn k)
      rw [upd_e]
      by_cases q : k = g
      · subst q; rw [if_pos rfl, if_pos rfl]
      · rw [if_neg (by omega), if_neg q]; exact a5
  · rw [upd_n _ _ (by omega)]; exact h2 k hk
theorem DA.turn (hD : DA d G one two len dor opn moon dr) (hG : G ≤ 10) : DA (upd d 51 (b2i (!moon))) G one two len dor opn (!moon) dr := by
  obtain ⟨h0, h51, h1, h2⟩ := hD
  refine ⟨?_, upd_s _ _ _, fun k hk => ?_, fun k hk => ?_⟩
  · rw [upd_n _ _ (by omega)]; exact h0
  · obtain ⟨a1, a2, a3, a4, a5⟩ := h1 k hk
    refine ⟨?_, ?_, ?_, ?_, ?_⟩
    · rw [upd_n _ _ (by omega)]; exact a1
    · rw [upd_n _ _ (by omega)]; exact a2
    · rw [upd_n _ _ (by omega)]; exact a3
    · rw [upd_n _ _ (by omega)]; exact a4
    · rw [upd_n _ _ (by omega)]; exact a5
  · rw [upd_n _ _ (by omega)]; exact h2 k hk
theorem go_door (hS : ST cg cdoors cshafts cone ctwo clen cdr cbr ch ci csm csize ckinds copen cmoon cout cgone cgas cplace d p G one two len dor dr opn moon gas kind place outx M T) (K : KT) (v6 : Int32) {g : Nat} (hg : g < G) (op : Bool) : GO K cg cdoors cshafts cone ctwo clen cdr csize ckinds G one two len dor dr kind M T v6 (f_L_law_b266 K n xs g1 g2 g3 g4 g5 g6 g7 g8 cg cdoors cshafts cone ctwo clen cdr cbr ch ci cn csm csize ckinds copen cmoon cout cgone cgas cplace x1 x2 x3 x4 x5 x6 x7 d p t (b2i op) v6 (nI g)) := by
  have hS' := hS
  obtain ⟨s1, s2, s3, s4, s5, s6, s7, s8, s9, s10⟩ := hS
  have hG := s2.1
  obtain ⟨e1, e2, e3, e4, e5⟩ := s8.2.2.1 g hg
  have i31 : inB (nI (31 + g)) 59 := (inB_e (by omega)).mpr (by omega)
  have i41 : inB (nI (41 + g)) 59 := (inB_e (by omega)).mpr (by omega)
  have c31 := cl_e (show 31 + g < 2 ^ 31 by omega)
  have c41 := cl_e (show 41 + g < 2 ^ 31 by omega)
  cases hd : dor g
  · unfold f_L_law_b266
    rw [door_n s1 s2 hg hd, bnd_e, ad31, if_pos i31, if_pos (show d (nI (31 + g)).toNatClampNeg = 0 by rw [c31, e4, hd]; rfl)]
    unfold f_L_law_b298
    rw [if_pos rfl, ad31, if_pos i31, if_neg (show ¬ d (nI (31 + g)).toNatClampNeg = 1 by rw [c31, e4, hd]; decide)]
    unfold f_L_law_b331
    exact go758 hS' (by omega) K v6
  · subst s4
    obtain ⟨cbr', ch', ci', cn', cs', o', ed, ho', hA', hS1⟩ := door_y (moon := moon) s1 s2 s3 hg hd cbr ch ci cn csm op
    unfold f_L_law_b266
    rw [ed, bnd_e, ad31, if_pos i31, if_neg (show ¬ d (nI (31 + g)).toNatClampNeg = 0 by rw [c31, e4, hd]; decide), ad41, if_pos i41]
    unfold f_L_law_b298
    rw [if_pos (show b2i (opn g) = d (nI (41 + g)).toNatClampNeg by rw [c41, e5]), ad31, if_pos i31, if_pos (show d (nI (31 + g)).toNatClampNeg = 1 by rw [c31, e4, hd]; rfl)]
    have last : ∀ z : Int32, z = b2i op → GO K cg cdoors cshafts cone ctwo clen cdr csize ckinds G one two len dor dr kind M T v6 (f_L_law_b330 K n xs g1 g2 g3 g4 g5 g6 g7 g8 cg cdoors cshafts cone ctwo clen cdr cbr' ch' ci' cn' cs' csize ckinds o' (b2i moon) cout cgone cgas cplace x1 x2 x3 x4 x5 x6 x7 d p t (41 + nI g) z v6) := by
      rintro z rfl
      unfold f_L_law_b330 f_L_law_b331
      rw [ad41, if_pos i41, c41]
      exact go758 (opn := fun k => if k = g then op else opn k) ⟨s1, s2, ho', rfl, hA', hS1, s7, s8.door hG.2 hg op, s9, s10⟩ (by omega) K v6
    cases op
    · rw [if_pos (show b2i false = 0 from rfl)]
      exact last 0 rfl
    · rw [if_neg (show ¬ b2i true = 0 by decide)]
      exact last 1 rfl
theorem go_smoke (hS : ST cg cdoors cshafts cone ctwo clen cdr cbr ch ci csm csize ckinds copen cmoon cout cgone cgas cplace d p G one two len dor dr opn moon gas kind place outx M T) (hT : T ≤ T0 + 60) (K : KT) (v6 v7 : Int32) : GO K cg cdoors cshafts cone ctwo clen cdr csize ckinds G one two len dor dr kind M T0 v6 (f_L_law_b375 K n xs g1 g2 g3 g4 g5 g6 g7 g8 cg cdoors cshafts cone ctwo clen cdr cbr ch ci cn csm csize ckinds copen cmoon cout cgone cgas cplace x1 x2 x3 x4 x5 x6 x7 d p t v6 v7) := by
  have hS' := hS
  obtain ⟨s1, s2, s3, s4, s5, s6, s7, s8, s9, s10⟩ := hS
  obtain ⟨f, f1, f2⟩ := at_e (v7 >>> (12 &&& 31)) (m := 7) (by decide) (by decide)
  have f2' : f_L_at (v7 >>> (12 &&& 31)) 7 = some (nI f) := f2
  unfold f_L_law_b375
  rw [f2', bnd_e, L_smoke_e s1 s8 s2 s5 s6 f1, bnd_e, if_neg (by decide)]
  exact go758 hS' hT K v6
end TURN
end
section
/-! a turn of the law: men who walk, minutes, walks by a seed -/
section TURN2
variable {n : Nat} {xs t : A32} {g1 g2 g3 : Int32} {g4 : A32} {g5 g6 g7 g8 : Int32} {cg cdoors cshafts : Int32} {cone ctwo clen cdr : A32} {cbr : Int32} {ch ci cn csm : A32} {csize : Int32} {ckinds : A32} {copen cmoon cout cgone : Int32} {cgas cplace d p : A32} {x1 x2 x3 x4 : Int32} {x5 x6 : A32} {x7 : Int32} {G : Nat} {one two len : Nat → Nat} {dor : Nat → Bool} {dr : Nat → Nat} {opn : Nat → Bool} {moon : Bool} {gas kind place : Nat → Nat} {outx : Int32} {M T T0 : Nat}
theorem CM.move {m x : Nat} (hC : CM csize ckinds cplace cgas cout cgone gas kind place outx M T) : CM csize ckinds (upd cplace m (nI x)) cgas cout cgone gas kind (fun j => if j = m then x else place j) outx M T := by
  obtain ⟨c1, c2, c3, c4, c5⟩ := hC
  refine ⟨c1, fun j hj => ⟨(c2 j hj).1, ?_⟩, c3, c4, c5⟩
  show upd cplace m (nI x) j = nI (if j = m then x else place j)
  rw [upd_e]
  by_cases q : j = m
  · rw [if_pos q, if_pos q]
  · rw [if_neg q, if_neg q]; exact (c2 j hj).2
theorem WM.move {m x : Nat} (hW : WM gas kind place outx M T) (hx : x < 7) : WM gas kind (fun j => if j = m then x else place j) outx M T := by
  obtain ⟨w1, w2, w3, w4, w5⟩ := hW
  refine ⟨w1, w2, fun j hj => ⟨(w3 j hj).1, ?_⟩, w4, w5⟩
  try dsimp only
  split
  · exact hx
  · exact (w3 j hj).2
theorem go_walk (hS : ST cg cdoors cshafts cone ctwo clen cdr cbr ch ci csm csize ckinds copen cmoon cout cgone cgas cplace d p G one two len dor dr opn moon gas kind place outx M T) (K : KT) (v6 : Int32) {g m : Nat} (hg : g < G) (hm : m < M) : GO K cg cdoors cshafts cone ctwo clen cdr csize ckinds G one two len dor dr kind M T v6 (f_L_law_b480 K n xs g1 g2 g3 g4 g5 g6 g7 g8 cg cdoors cshafts cone ctwo clen cdr cbr ch ci cn csm csize ckinds copen cmoon cout cgone cgas cplace x1 x2 x3 x4 x5 x6 x7 d p t v6 (nI g) (nI m)) := by
  have hS' := hS
  obtain ⟨s1, s2, s3, s4, s5, s6, s7, s8, s9, s10⟩ := hS
  have hG := s2.1
  have hM6 := s10.1
  obtain ⟨e1, e2, e3, e4, e5⟩ := s8.2.2.1 g hg
  obtain ⟨w1, w2, w3, -, -⟩ := s2.2.1 g hg
  obtain ⟨p1, p2, p3, p4, p5⟩ := s9
  have k2 := (s10.2.2.1 m hm).2
  have k1 := (s10.2.2.1 m hm).1
  have c13 := (p2 m hm).2
  have c7 := (p2 m hm).1
  have i1 : inB (nI (1 + g)) 59 := (inB_e (by omega)).mpr (by omega)
  have i11 : inB (nI (11 + g)) 59 := (inB_e (by omega)).mpr (by omega)
  have i41 : inB (nI (41 + g)) 59 := (inB_e (by omega)).mpr (by omega)
  have j7 : inB (nI (7 + m)) 22 := (inB_e (by omega)).mpr (by omega)
  have j13 : inB (nI (13 + m)) 22 := (inB_e (by omega)).mpr (by omega)
  have d1 : d (nI (1 + g)).toNatClampNeg = nI (one g) := by rw [cl_e (by omega)]; exact e1
  have d11 : d (nI (11 + g)).toNatClampNeg = nI (two g) := by rw [cl_e (by omega)]; exact e2
  have d41 : d (nI (41 + g)).toNatClampNeg = b2i (opn g) := by rw [cl_e (by omega)]; exact e5
  have q7 : p (nI (7 + m)).toNatClampNeg = nI (kind m) := by rw [cl_e (by omega)]; exact c7
  have q13 : p (nI (13 + m)).toNatClampNeg = nI (place m) := by rw [cl_e (by omega)]; exact c13
  have hwk := walk_e s1 s2 s3 s7 s10 hm hg
  have hu7 : (if one g = place m then two g else one g) < 7 := by split <;> assumption
  -- no way
  have no : ¬ ((one g = place m ∨ two g = place m) ∧ bt outx m = false ∧ (opn g = true ∨ kind m = 3)) → GO K cg cdoors cshafts cone ctwo clen cdr csize ckinds G one two len dor dr kind M T v6 (f_L_law_b563 K n xs g1 g2 g3 g4 g5 g6 g7 g8 cg cdoors cshafts cone ctwo clen cdr cbr ch ci cn csm csize ckinds copen cmoon cout cgone cgas cplace x1 x2 x3 x4 x5 x6 x7 d p t v6 (nI g) (nI m)) := by
    intro hn
    unfold f_L_law_b563 f_L_law_b564
    rw [if_pos rfl]
    unfold f_L_law_b591
    rw [hwk, if_neg hn, bnd_e, if_pos rfl]
    unfold f_L_law_b616
    rw [if_pos rfl]
    exact go758 hS' (by omega) K v6
  have yes : (one g = place m ∨ two g = place m) ∧ bt outx m = false ∧ (opn g = true ∨ kind m = 3) → GO K cg cdoors cshafts cone ctwo clen cdr csize ckinds G one two len dor dr kind M T v6 (f_L_law_b559 K n xs g1 g2 g3 g4 g5 g6 g7 g8 cg cdoors cshafts cone ctwo clen cdr cbr ch ci cn csm csize ckinds copen cmoon cout cgone cgas cplace x1 x2 x3 x4 x5 x6 x7 d p t v6 (nI g) (nI m)) := by
    intro hy
    unfold f_L_law_b559 f_L_law_b564
    rw [if_neg (by decide), ad13, if_pos j13, q13, L_other_e s8 s2 hg k2, bnd_e, if_pos j13, cl_e (show 13 + m < 2 ^ 31 by omega)]
    unfold f_L_law_b591
    rw [hwk, if_pos hy, bnd_e, if_neg (by decide), ad13, if_pos j13, cl_e (show 13 + m < 2 ^ 31 by omega), upd_s]
    unfold f_L_law_b616
    rw [if_pos rfl]
    exact go758 (place := fun j => if j = m then (if one g = place m then two g else one g) else place j) ⟨s1, s2, s3, s4, s5, s6, s7.move, s8, PA.move ⟨p1, p2, p3, p4, p5⟩ hM6 hm, s10.move hu7⟩ (by omega) K v6
  -- at an end of it
  have at1 : (one g = place m ∨ two g = place m) → GO K cg cdoors cshafts cone ctwo clen cdr csize ckinds G one two len dor dr kind M T v6 (f_L_law_b513 K n xs g1 g2 g3 g4 g5 g6 g7 g8 cg cdoors cshafts cone ctwo clen cdr cbr ch ci cn csm csize ckinds copen cmoon cout cgone cgas cplace x1 x2 x3 x4 x5 x6 x7 d p t v6 (nI g) (nI m)) := by
    intro hat
    unfold f_L_law_b513 f_L_law_b518
    rw [if_neg (by decide), if_pos (show inB 19 22 by decide), cl19, p3, bit_e (by omega)]
    cases hb : bt outx m
    · rw [if_pos (show b2i false = 0 from rfl), ad41, if_pos i41, d41]
      cases ho : opn g
      · rw [if_neg (show ¬ b2i false = 1 by decide), ad7, if_pos j7, q7]
        by_cases q : kind m = 3
        · rw [if_pos (show nI (kind m) = 3 by rw [q]; rfl)]
          exact yes ⟨hat, hb, Or.inr q⟩
        · rw [if_neg (show ¬ nI (kind m) = 3 from fun h => q ((nI_eq (b := 3) (by omega) (by decide)).mp h))]
          exact no (fun h => h.2.2.elim (fun r => by rw [ho] at r; cases r) q)
      · rw [if_pos (show b2i true = 1 from rfl)]
        exact yes ⟨hat, hb, Or.inl ho⟩
    · rw [if_neg (show ¬ b2i true = 0 by decide)]
      exact no (fun h => by rw [hb] at h; cases h.2.1)
  unfold f_L_law_b480
  rw [ad1, if_pos i1, ad13, if_pos j13, d1, q13]
  by_cases q1 : one g = place m
  · rw [if_pos (show nI (one g) = nI (place m) by rw [q1])]
    exact at1 (Or.inl q1)
  · rw [if_neg (show ¬ nI (one g) = nI (place m) from fun h => q1 ((nI_eq (by omega) (by omega)).mp h)), ad11, if_pos i11, if_pos j13, d11]
    by_cases q2 : two g = place m
    · rw [if_pos (show nI (two g) = nI (place m) by rw [q2])]
      exact at1 (Or.inr q2)
    · rw [if_neg (show ¬ nI (two g) = nI (place m) from fun h => q2 ((nI_eq (by omega) (by omega)).mp h))]
      unfold f_L_law_b518
      rw [if_pos rfl]
      exact no (fun h => h.1.elim q1 q2)
theorem go_find (hS : ST cg cdoors cshafts cone ctwo clen cdr cbr ch ci csm csize ckinds copen cmoon cout cgone cgas cplace d p G one two len dor dr opn moon gas kind place outx M T) (K : KT) (v6 v7 : Int32) {g m : Nat} (hg : g < G) (hm : m < M) : GO K cg cdoors cshafts cone ctwo clen cdr csize ckinds G one two len dor dr kind M T v6 (f_L_law_b411 K n xs g1 g2 g3 g4 g5 g6 g7 g8 cg cdoors cshafts cone ctwo clen cdr cbr ch ci cn csm csize ckinds copen cmoon cout cgone cgas cplace x1 x2 x3 x4 x5 x6 x7 d p t v6 v7 (nI m) FU (nI g) 0) := by
  have hS' := hS
  obtain ⟨s1, s2, s3, s4, s5, s6, s7, s8, s9, s10⟩ := hS
  have hG := s2.1
  have hM6 := s10.1
  obtain ⟨p1, p2, p3, p4, p5⟩ := s9
  have h0 := s8.1
  refine lpP (fun fu (s : Nat) i => f_L_law_b411 K n xs g1 g2 g3 g4 g5 g6 g7 g8 cg cdoors cshafts cone ctwo clen cdr cbr ch ci cn csm csize ckinds copen cmoon cout cgone cgas cplace x1 x2 x3 x4 x5 x6 x7 d p t v6 v7 (nI m) fu (nI s) (nI i)) G (fun i s => s < G) (fun r => GO K cg cdoors cshafts cone ctwo clen cdr csize ckinds G one two len dor dr kind M T v6 r) ?_ ?_ G 0 g FU (by omega) (FU_lt (by omega)) hg
  · intro fu i s hi hs
    obtain ⟨e1, e2, e3, e4, e5⟩ := s8.2.2.1 s hs
    obtain ⟨z, z1, z2⟩ := at_e (v7 >>> (10 &&& 31)) (m := 4) (by decide) (by decide)
    have z2' : f_L_at (v7 >>> (10 &&& 31)) 4 = some (nI z) := z2
    have i1 : inB (nI (1 + s)) 59 := (inB_e (by omega)).mpr (by omega)
    have i11 : inB (nI (11 + s)) 59 := (inB_e (by omega)).mpr (by omega)
    have j13 : inB (nI (13 + m)) 22 := (inB_e (by omega)).mpr (by omega)
    have gw := go_walk (n := n) (xs := xs) (t := t) (g1 := g1) (g2 := g2) (g3 := g3) (g4 := g4) (g5 := g5) (g6 := g6) (g7 := g7) (g8 := g8) (cn := cn) (x1 := x1) (x2 := x2) (x3 := x3) (x4 := x4) (x5 := x5) (x6 := x6) (x7 := x7) hS' K v6 hs hm
    try dsimp only
    rw [f_L_law_b411, if_pos (show inB 0 59 by decide), if_neg (show ¬ d (Int32.toNatClampNeg 0) ≤ nI i by rw [cl0, h0]; exact nI_ge hi (by omega)), z2', bnd_e]
    by_cases q0 : z = 0
    · refine Or.inr ?_
      rw [if_pos (show nI z ≤ 0 by rw [q0]; decide)]
      exact gw
    · rw [if_neg (nI_nle (n := z) (by omega) (by omega)), ad1, if_pos i1, ad13, if_pos j13]
      by_cases q1 : d (nI (1 + s)).toNatClampNeg = p (nI (13 + m)).toNatClampNeg
      · refine Or.inr ?_
        rw [if_pos q1]
        exact gw
      · rw [if_neg q1, ad11, if_pos i11, if_pos j13]
        by_cases q2 : d (nI (11 + s)).toNatClampNeg = p (nI (13 + m)).toNatClampNeg
        · refine Or.inr ?_
          rw [if_pos q2]
          exact gw
        · refine Or.inl ⟨(s + 1) % G, Nat.mod_lt _ (by omega), ?_⟩
          rw [if_neg q2, if_pos (show inB 0 59 by decide), cl0, h0, if_neg (nI_ne0 (n := G) (by omega) (by omega)), nI_1, pk_rem (by omega) (by omega) (by omega), nam_e, nam_e, nI_1]
  · intro fu s hs
    have gw := go_walk (n := n) (xs := xs) (t := t) (g1 := g1) (g2 := g2) (g3 := g3) (g4 := g4) (g5 := g5) (g6 := g6) (g7 := g7) (g8 := g8) (cn := cn) (x1 := x1) (x2 := x2) (x3 := x3) (x4 := x4) (x5 := x5) (x6 := x6) (x7 := x7) hS' K v6 hs hm
    try dsimp only
    rw [f_L_law_b411, if_pos (show inB 0 59 by decide), if_pos (show d (Int32.toNatClampNeg 0) ≤ nI G by rw [cl0, h0]; exact nI_le (Nat.le_refl G) (by omega))]
    exact gw
theorem go_min (hS : ST cg cdoors cshafts cone ctwo clen cdr cbr ch ci csm csize ckinds copen cmoon cout cgone cgas cplace d p G one two len dor dr opn moon gas kind place outx M T) (hT : T < 90000) (K : KT) (v6 : Int32) {many : Nat} (m1 : 1 ≤ many) (m2 : many ≤ 60) {a : A32} (ha : LA a G (flw G one two opn moon dr)) : GO K cg cdoors cshafts cone ctwo clen cdr csize ckinds G one two len dor dr kind M T v6 (f_L_law_b673 K n xs g1 g2 g3 g4 g5 g6 g7 g8 cg cdoors cshafts cone ctwo clen cdr cbr ch ci cn csm csize ckinds copen cmoon cout cgone cgas cplace x1 x2 x3 x4 x5 x6 x7 d t a v6 (nI many) FU p 0 0) := by
  have hS' := hS
  obtain ⟨s1, s2, s3, s4, s5, s6, s7, s8, s9, s10⟩ := hS
  have hG := s2.1
  have hfl : ∀ g x, g < G → flw G one two opn moon dr g = some x → x < 7 := fun g x hg h => flw_lt s2 hg h
  have hbr : ∀ k, k < 7 → bt cbr k = dcd (brt G one two (flw G one two opn moon dr) k) := fun k hk => bool_ext (by rw [s5.2.2 k (by omega), dcd_t])
  obtain ⟨b, hbb⟩ : ∃ b : Nat → Bool, b = fun k => dcd (brt G one two (flw G one two opn moon dr) k) := ⟨_, rfl⟩
  have hW' := s10
  obtain ⟨hM6, hg9, hkp, hob, hT'⟩ := s10
  obtain ⟨out', cgas', ec, hc1, hc2⟩ := minutes_e (b := b) s2 (fun k hk => by rw [hbb]; exact hbr k hk) s7 hW' m1 m2 (by omega)
  obtain ⟨⟨p', outs⟩, ⟨o, hP, ho, hct⟩, e⟩ := lp (fun fu (s : A32 × Nat) i => f_L_law_b673 K n xs g1 g2 g3 g4 g5 g6 g7 g8 cg cdoors cshafts cone ctwo clen cdr cbr ch ci cn csm csize ckinds copen cmoon cout cgone cgas cplace x1 x2 x3 x4 x5 x6 x7 d t a v6 (nI many) fu s.1 (nI s.2) (nI i)) many
    (fun i s => ∃ o, PA s.1 (gN b gas i) kind place o M T ∧ (∀ j, j < 32 → bt o j = oN b gas kind place M (bt outx) i j) ∧ fb_ct (bt outx) 6 + s.2 = fb_ct (bt o) 6)
    (fun s => f_L_law_b673 K n xs g1 g2 g3 g4 g5 g6 g7 g8 cg cdoors cshafts cone ctwo clen cdr cbr ch ci cn csm csize ckinds copen cmoon cout cgone cgas cplace x1 x2 x3 x4 x5 x6 x7 d t a v6 (nI many) 1 s.1 (nI s.2) (nI many)) (by
      rintro fu i ⟨p', outs⟩ hi ⟨o, hP, ho, hct⟩
      dsimp only at hP hct
      obtain ⟨k, p'', o', em, hP', hO, hct'⟩ := L_minute_e s8 s2 hfl ha hP ⟨hM6, gN_le hg9 i, hkp, fun j hj hj2 => by rw [ho j hj2, oN_hi hj, hob j hj hj2], hT'⟩
      rw [← hbb] at hP' hO
      refine ⟨(p'', outs + k), ⟨o', hP', fun j hj => ?_, by dsimp only; omega⟩, ?_⟩
      · rw [hO j hj, ho j hj]
        rfl
      · dsimp only
        rw [f_L_law_b673, if_neg (nI_ge hi (by omega)), em, bnd_e, nam_e, nam_e, nI_add, nI_1]) (by
      rintro fu ⟨p', outs⟩ -
      try dsimp only
      rw [f_L_law_b673, f_L_law_b673, if_pos (nI_le (Nat.le_refl many) (by omega)), if_pos (nI_le (Nat.le_refl many) (by omega))]) (i := 0) (k := many) (fu := FU) (s := (p, 0)) (by omega) (FU_lt (by omega)) ⟨outx, s9, fun j _ => rfl, rfl⟩
  dsimp only at hP hct
  have hoo : o = out' := b_ext (fun j hj => by rw [ho j hj, hc2 j hj])
  subst hoo
  have hle : fb_ct (bt outx) 6 ≤ fb_ct (bt o) 6 := by omega
  have houts : nI (fb_ct (bt o) 6) - nI (fb_ct (bt outx) 6) = nI outs := by
    rw [pk_sub hle]
    congr 1
    omega
  rw [show f_L_law_b673 K n xs g1 g2 g3 g4 g5 g6 g7 g8 cg cdoors cshafts cone ctwo clen cdr cbr ch ci cn csm csize ckinds copen cmoon cout cgone cgas cplace x1 x2 x3 x4 x5 x6 x7 d t a v6 (nI many) FU p 0 0 = f_L_law_b673 K n xs g1 g2 g3 g4 g5 g6 g7 g8 cg cdoors cshafts cone ctwo clen cdr cbr ch ci cn csm csize ckinds copen cmoon cout cgone cgas cplace x1 x2 x3 x4 x5 x6 x7 d t a v6 (nI many) 1 p' (nI outs) (nI many) from e]
  rw [houts] at ec
  obtain ⟨p1, p2, p3, p4, p5⟩ := hP
  have s71 := s1.1
  rw [f_L_law_b673, if_pos (nI_le (Nat.le_refl many) (by omega)), if_pos (show inB 21 22 by decide), if_pos (show inB 21 22 by decide), s71, ec, bnd_e, if_pos rfl, cl21, p5, nI_add, ← s71]
  have hob' : ∀ i, M ≤ i → i < 32 → bt o i = false := fun i h1 h2 => by rw [ho i h2, oN_hi h1, hob i h1 h2]
  refine go758 (gas := gN b gas many) (outx := o) (T := T + many) ⟨s1, s2, s3, s4, s5, s6, ⟨s7.1, s7.2.1, hc1, rfl, rfl⟩, s8, ⟨fun k hk => ?_, fun m hm => ⟨?_, ?_⟩, ?_, ?_, upd_s _ _ _⟩, ⟨hM6, gN_le hg9 many, hkp, hob', by omega⟩⟩ (by omega) K v6
  · rw [upd_n _ _ (by omega)]; exact p1 k hk
  · rw [upd_n _ _ (by omega)]; exact (p2 m hm).1
  · rw [upd_n _ _ (by omega)]; exact (p2 m hm).2
  · rw [upd_n _ _ (by omega)]; exact p3
  · rw [upd_n _ _ (by omega)]; exact p4
theorem go_rest (hS : ST cg cdoors cshafts cone ctwo clen cdr cbr ch ci csm csize ckinds copen cmoon cout cgone cgas cplace d p G one two len dor dr opn moon gas kind place outx M T) (hT : T < 90000) (hn : n ≤ 260) (K : KT) {v6 : Nat} (h6 : v6 < 12) (v7 : Int32) {v8 : Nat} (h8 : v8 < 8) : GO K cg cdoors cshafts cone ctwo clen cdr csize ckinds G one two len dor dr kind M T (nI v6) (f_L_law_b624 K n xs g1 g2 g3 g4 g5 g6 g7 g8 cg cdoors cshafts cone ctwo clen cdr cbr ch ci cn csm csize ckinds copen cmoon cout cgone cgas cplace x1 x2 x3 x4 x5 x6 x7 d p t (nI v6) v7 (nI v8)) := by
  have hS' := hS
  obtain ⟨s1, s2, s3, s4, s5, s6, s7, s8, s9, s10⟩ := hS
  have hG := s2.1
  unfold f_L_law_b624
  by_cases q : 7 ≤ v8
  · rw [if_pos (show (7 : Int32) ≤ nI v8 from nI_le (a := 7) q (by omega))]
    obtain ⟨z, z1, z2⟩ := at_e (v7 >>> (10 &&& 31)) (m := 60) (by decide) (by decide)
    have z2' : f_L_at (v7 >>> (10 &&& 31)) 60 = some (nI z) := z2
    obtain ⟨y, hy⟩ := cell_e n (by omega) xs (21 + v6) (by omega)
    obtain ⟨sd, sd1, sd2⟩ := bt_lt (x := y &&& 2147483647) (n := 31) (Nat.le_refl _) (fun i h1 h2 => by
      rw [b_and]
      have : i = 31 := by omega
      subst this
      rw [show bt 2147483647 31 = false by decide, Bool.and_false])
    have hbr : ∀ k, k < 7 → bt cbr k = dcd (brt G one two (flw G one two opn moon dr) k) := fun k hk => bool_ext (by rw [s5.2.2 k (by omega), dcd_t])
    subst s4
    obtain ⟨w, hw⟩ := L_walks_e s1 s8 s2 s3 hbr s7 s9 s10 (times := 1 + z) (seed := sd) (by omega) (by omega) (by omega) (by omega) x1 x2 x3 x4 x5 x6 x7
    rw [z2', bnd_e, ad21, hy, bnd_e, ad1, sd2, hw, bnd_e, if_neg (show ¬ (1 : Int32) = 0 by decide)]
    exact go758 hS' (by omega) K (nI v6)
  · rw [if_neg (show ¬ (7 : Int32) ≤ nI v8 from nI_ge (b := 7) (by omega) (by decide))]
    obtain ⟨a, ea, ha⟩ := L_air_e s8 s2
    have ht : ∀ t2 : Nat, 0 < t2 → t2 ≤ 60 → GO K cg cdoors cshafts cone ctwo clen cdr csize ckinds G one two len dor dr kind M T (nI v6) (f_L_law_b655 K n xs g1 g2 g3 g4 g5 g6 g7 g8 cg cdoors cshafts cone ctwo clen cdr cbr ch ci cn csm csize ckinds copen cmoon cout cgone cgas cplace x1 x2 x3 x4 x5 x6 x7 d p t 1 (v7 >>> (10 &&& 31)) (nI t2) (nI v6)) := by
      intro t2 h1 h2
      obtain ⟨z, z1, z2⟩ := at_e (v7 >>> (10 &&& 31)) (m := t2) h1 (by omega)
      unfold f_L_law_b655
      rw [z2, bnd_e, nam_e, ad1, ea, bnd_e]
      exact go_min hS' hT K (nI v6) (by omega) (by omega) ha
    obtain ⟨z, z1, z2⟩ := at_e (v7 >>> (16 &&& 31)) (m := 5) (by decide) (by decide)
    have z2' : f_L_at (v7 >>> (16 &&& 31)) 5 = some (nI z) := z2
    rw [z2', bnd_e]
    by_cases r : nI z = 0
    · rw [if_pos r]
      exact ht 60 (by decide) (by decide)
    · rw [if_neg r]
      exact ht 3 (by decide) (by decide)
theorem go_turn (hS : ST cg cdoors cshafts cone ctwo clen cdr cbr ch ci csm csize ckinds copen cmoon cout cgone cgas cplace d p G one two len dor dr opn moon gas kind place outx M T) (hT : T < 90000) (hn : n ≤ 260) (K : KT) {v6 : Nat} (h6 : v6 < 12) (v7 : Int32) {v8 g m : Nat} (h8 : v8 < 8) (hg : g < G) (hm : 0 < M → m < M) : GO K cg cdoors cshafts cone ctwo clen cdr csize ckinds G one two len dor dr kind M T (nI v6) (f_L_law_b241 K n xs g1 g2 g3 g4 g5 g6 g7 g8 cg cdoors cshafts cone ctwo clen cdr cbr ch ci cn csm csize ckinds copen cmoon cout cgone cgas cplace x1 x2 x3 x4 x5 x6 x7 d p t (nI m) (nI v6) v7 (nI v8) (nI g)) := by
  have hS' := hS
  obtain ⟨s1, s2, s3, s4, s5, s6, s7, s8, s9, s10⟩ := hS
  have hG := s2.1
  unfold f_L_law_b241
  by_cases q2 : 2 ≤ v8
  · rw [if_pos (show (2 : Int32) ≤ nI v8 from nI_le (a := 2) q2 (by omega))]
    by_cases q3 : v8 = 2
    · rw [if_pos (show nI v8 = 2 by rw [q3]; rfl)]
      obtain ⟨z, z1, z2⟩ := at_e (v7 >>> (10 &&& 31)) (m := 3) (by decide) (by decide)
      have z2' : f_L_at (v7 >>> (10 &&& 31)) 3 = some (nI z) := z2
      rw [z2', bnd_e]
      by_cases r : nI z = 0
      · subst s4
        obtain ⟨cbr', ch', ci', cn', cs', et, hA', hS1⟩ := turn_e (moon := moon) s1 s2 s3 cbr ch ci cn csm
        have h51 : (1 : Int32) - d 51 = b2i (!moon) := by
          rw [s8.2.1]
          cases moon <;> rfl
        rw [if_pos r, if_pos (show inB 51 59 by decide), if_pos (show inB 51 59 by decide), et, bnd_e, if_pos (show inB 51 59 by decide), cl51, h51, upd_s, if_pos rfl]
        exact go_smoke ⟨s1, s2, s3, rfl, hA', hS1, s7, s8.turn hG.2, s9, s10⟩ (by omega) K (nI v6) v7
      · rw [if_neg r]
        exact go_smoke hS' (by omega) K (nI v6) v7
    · rw [if_neg (show ¬ nI v8 = 2 from fun h => q3 ((nI_eq (b := 2) (by omega) (by decide)).mp h))]
      by_cases q5 : 5 ≤ v8
      · rw [if_pos (show (5 : Int32) ≤ nI v8 from nI_le (a := 5) q5 (by omega))]
        exact go_rest hS' hT hn K h6 v7 h8
      · rw [if_neg (show ¬ (5 : Int32) ≤ nI v8 from nI_ge (b := 5) (by omega) (by decide)), if_pos (show inB 20 22 by decide), cl20, s9.2.2.2.1]
        by_cases qM : M = 0
        · rw [if_pos (show nI M ≤ 0 by rw [qM]; decide)]
          exact go_rest hS' hT hn K h6 v7 h8
        · have hM6 := s10.1
          rw [if_neg (nI_nle (n := M) (by omega) (by omega))]
          exact go_find hS' K (nI v6) v7 hg (hm (by omega))
  · rw [if_neg (show ¬ (2 : Int32) ≤ nI v8 from nI_ge (b := 2) (by omega) (by decide))]
    obtain ⟨z, z1, z2⟩ := at_e (v7 >>> (10 &&& 31)) (m := 2) (by decide) (by decide)
    have z2' : f_L_at (v7 >>> (10 &&& 31)) 2 = some (nI z) := z2
    rw [z2', bnd_e]
    by_cases r : nI z = 0
    · rw [if_pos r]
      exact go_door hS' K (nI v6) hg true
    · rw [if_neg r]
      exact go_door hS' K (nI v6) hg false
end TURN2
end
section
/-! the law's last word, and its loop of turns -/
theorem kn7 : f_X10_isKnot 7 = some 0 := by decide
theorem kn0 : f_X10_isKnot 0 = some 1 := by decide
theorem knm : f_X10_isKnot (-1) = some 0 := by decide
theorem ki0 : f_X1_isKind 0 = some 1 := by decide
theorem ki5 : f_X1_isKind 5 = some 0 := by decide
section TURN3
variable {n : Nat} {xs t : A32} {g1 g2 g3 : Int32} {g4 : A32} {g5 g6 g7 g8 : Int32} {cg cdoors cshafts : Int32} {cone ctwo clen cdr : A32} {cbr : Int32} {ch ci cn csm : A32} {csize : Int32} {ckinds : A32} {copen cmoon cout cgone : Int32} {cgas cplace d p : A32} {x1 x2 x3 x4 : Int32} {x5 x6 : A32} {x7 : Int32} {G : Nat} {one two len : Nat → Nat} {dor : Nat → Bool} {dr : Nat → Nat} {opn : Nat → Bool} {moon : Bool} {gas kind place : Nat → Nat} {outx : Int32} {M T T0 : Nat}
theorem man_no (hG : 1 ≤ G ∧ G ≤ 10) : f_X10_man (nI G) csize ckinds cplace 5 0 = some (-102, csize, ckinds, cplace) ∧ f_X10_man (nI G) csize ckinds cplace 0 7 = some (-101, csize, ckinds, cplace) ∧ (¬ csize < 6 → f_X10_man (nI G) csize ckinds cplace 0 0 = some (-104, csize, ckinds, cplace)) := by
  refine ⟨?_, ?_, fun h => ?_⟩
  · unfold f_X10_man
    rw [isRead_e hG.1 hG.2, bnd_e, if_neg (by decide), ki5, bnd_e, if_pos rfl]
  · unfold f_X10_man
    rw [isRead_e hG.1 hG.2, bnd_e, if_neg (by decide), ki0, bnd_e, if_neg (by decide), kn7, bnd_e, if_pos rfl]
  · unfold f_X10_man
    rw [isRead_e hG.1 hG.2, bnd_e, if_neg (by decide), ki0, bnd_e, if_neg (by decide), kn0, bnd_e, if_neg (by decide), if_neg h]
theorem walks_no (hG : 1 ≤ G ∧ G ≤ 10) (v1 v2 v3 : Int32) (h : (v1 = 0 ∧ v2 = 0 ∧ v3 = 0) ∨ (v1 = 1 ∧ v2 = -1 ∧ v3 = 0) ∨ (v1 = 1 ∧ v2 = 0 ∧ v3 = 4)) : f_X10_walks (nI G) cone ctwo cbr csize ckinds copen cmoon cout cgone cgas cplace x1 x2 x3 x4 x5 x6 x7 v1 v2 v3 = some (-102, x1, x2, x3, x4, x5, x6, x7) := by
  unfold f_X10_walks
  rw [isRead_e hG.1 hG.2, bnd_e, if_neg (by decide)]
  rcases h with ⟨rfl, rfl, rfl⟩ | ⟨rfl, rfl, rfl⟩ | ⟨rfl, rfl, rfl⟩
  · rw [if_pos (by decide)]
  · rw [if_neg (by decide), if_neg (by decide), if_pos (by decide)]
  · rw [if_neg (by decide), if_neg (by decide), if_neg (by decide), if_neg (by decide), if_neg (by decide)]
theorem end943 (hG : 1 ≤ G ∧ G ≤ 10) (hM6 : M ≤ 6) : f_L_law_b943 n xs g1 g3 g4 g5 g6 g7 g8 (nI G) cdoors cshafts cone ctwo clen cdr cbr ch ci cn csm (nI M) ckinds copen cmoon cout cgone cgas cplace x1 x2 x3 x4 x5 x6 x7 d p t (nI M) = some 1 := by
  have m0 : f_X10_minutes (nI G) cbr (nI M) ckinds cout cgone cgas cplace 0 = some (-102, cout, cgone, cgas) := by
    unfold f_X10_minutes
    rw [if_pos (by decide)]
  have m1 : f_X10_minutes (nI G) cbr (nI M) ckinds cout cgone cgas cplace 61 = some (-102, cout, cgone, cgas) := by
    unfold f_X10_minutes
    rw [if_neg (by decide), if_neg (by decide)]
  have sm1 : f_X10_smelt (nI G) csm 7 0 = some (-101) := by
    unfold f_X10_smelt
    rw [isRead_e hG.1 hG.2, bnd_e, if_neg (by decide), kn7, bnd_e, if_pos rfl]
  have sm2 : f_X10_smelt (nI G) csm 0 (-1) = some (-101) := by
    unfold f_X10_smelt
    rw [isRead_e hG.1 hG.2, bnd_e, if_neg (by decide), kn0, bnd_e, if_neg (by decide), knm, bnd_e, if_pos rfl]
  have wo : f_X10_wayOut (nI G) cshafts cone ctwo ci 7 = some (-101) := by
    unfold f_X10_wayOut
    rw [isRead_e hG.1 hG.2, bnd_e, if_neg (by decide), kn7, bnd_e, if_pos rfl]
  unfold f_L_law_b943
  rw [m0, bnd_e, if_pos rfl, m1, bnd_e, if_pos rfl, sm1, bnd_e, if_pos rfl, sm2, bnd_e, if_pos rfl, wo, bnd_e, if_pos rfl,
    walks_no hG 0 0 0 (Or.inl ⟨rfl, rfl, rfl⟩), bnd_e, if_pos rfl, walks_no hG 1 (-1) 0 (Or.inr (Or.inl ⟨rfl, rfl, rfl⟩)), bnd_e, if_pos rfl, walks_no hG 1 0 4 (Or.inr (Or.inr ⟨rfl, rfl, rfl⟩)), bnd_e, if_pos rfl]
  by_cases q : M < 6
  · rw [if_pos (show nI M < 6 from nI_lt (b := 6) q (by decide))]
    rfl
  · rw [if_neg (show ¬ nI M < 6 from nI_nlt (b := 6) (by omega) (by omega)), (man_no hG).2.2 (show ¬ nI M < 6 from nI_nlt (b := 6) (by omega) (by omega)), bnd_e, if_pos rfl]
    rfl
theorem go_end (hS : ST cg cdoors cshafts cone ctwo clen cdr cbr ch ci csm csize ckinds copen cmoon cout cgone cgas cplace d p G one two len dor dr opn moon gas kind place outx M T) (fu : Nat) : f_L_law_b179 n xs g1 g2 g3 g4 g5 g6 g7 g8 cg cdoors cshafts cone ctwo clen cdr csize ckinds t (fu + 1) cbr ch ci cn csm copen cmoon cout cgone cgas cplace x1 x2 x3 x4 x5 x6 x7 d p (nI 12) = some 1 := by
  obtain ⟨s1, s2, s3, s4, s5, s6, s7, s8, s9, s10⟩ := hS
  have hG := s2.1
  have hM6 := s10.1
  have h0 := s8.1
  have h20 := s9.2.2.2.1
  obtain ⟨c1, c2, c3, c4, c5⟩ := s7
  have e1 := s1.1
  subst c1 e1
  have G0 : f_X5_hasGallery (nI G) 0 = some 1 := hasG_e (g := 0) hG.2 (by omega)
  have GG : f_X5_hasGallery (nI G) (nI G) = some 0 := hasG_o (Nat.le_refl G) (by omega)
  have HM : f_X1_has (nI M) (nI M) = some 0 := has_o (Nat.le_refl M) (by omega)
  have ga : f_X10_gallery (nI G) cdoors cone ctwo clen ci copen (nI G) 0 = some (-101) := by
    unfold f_X10_gallery
    rw [GG, bnd_e, if_pos rfl]
  have gb : f_X10_gallery (nI G) cdoors cone ctwo clen ci copen 0 6 = some (-102) := by
    unfold f_X10_gallery
    rw [G0, bnd_e, if_neg (by decide), if_neg (by decide), if_neg (by decide), if_neg (by decide), if_neg (by decide), if_neg (by decide), if_neg (by decide)]
  have ka : f_X10_knot (nI G) cdr cbr ch cgas 7 0 = some (-101) := by
    unfold f_X10_knot
    rw [isRead_e hG.1 hG.2, bnd_e, if_neg (by decide), kn7, bnd_e, if_pos rfl]
  have kb : f_X10_knot (nI G) cdr cbr ch cgas 0 4 = some (-102) := by
    unfold f_X10_knot
    rw [isRead_e hG.1 hG.2, bnd_e, if_neg (by decide), kn0, bnd_e, if_neg (by decide), if_neg (by decide), if_neg (by decide), if_neg (by decide), if_neg (by decide)]
  have dn : f_X10_door (nI G) cdoors cshafts cone ctwo clen cdr cbr ch ci cn csm copen cmoon (nI G) 1 = some (-101, cbr, ch, ci, cn, csm, copen) := by
    unfold f_X10_door
    rw [GG, bnd_e, if_pos rfl]
  have ab : f_X10_about (nI M) ckinds cout cplace (nI M) 0 = some (-101) := by
    unfold f_X10_about
    rw [HM, bnd_e, if_pos rfl]
  have as : f_X10_as (nI M) ckinds (nI M) 0 = some (-101) := by
    unfold f_X10_as
    rw [HM, bnd_e, if_pos rfl]
  have wk : f_X10_walk (nI G) cone ctwo (nI M) ckinds copen cout cplace (nI M) 0 = some (-101, cplace) := by
    unfold f_X10_walk
    rw [HM, bnd_e, if_pos rfl]
  obtain ⟨ma, mb, -⟩ := man_no (csize := nI M) (ckinds := ckinds) (cplace := cplace) hG
  rw [f_L_law_b179, if_pos (show (12 : Int32) ≤ nI 12 by decide), if_pos (show inB 0 59 by decide), nam_e, if_pos (show inB 20 22 by decide), nam_e, cl0, cl20, h0, h20,
    ga, bnd_e, if_pos rfl, gb, bnd_e, if_pos rfl, ka, bnd_e, if_pos rfl, kb, bnd_e, if_pos rfl, dn, bnd_e, if_pos rfl, ma, bnd_e, if_pos rfl, mb, bnd_e, if_pos rfl, ab, bnd_e, if_pos rfl, as, bnd_e, if_pos rfl, wk, bnd_e, if_pos rfl]
  by_cases q : M = 0
  · rw [if_pos (show nI M = 0 by rw [q]; rfl)]
    exact end943 hG hM6
  · have H0 : f_X1_has (nI M) 0 = some 1 := has_e (m := 0) hM6 (by omega)
    have w0 : f_X10_walk (nI G) cone ctwo (nI M) ckinds copen cout cplace 0 (nI G) = some (-101, cplace) := by
      unfold f_X10_walk
      rw [H0, bnd_e, if_neg (by decide), GG, bnd_e, if_pos rfl]
    have a0 : f_X10_about (nI M) ckinds cout cplace 0 4 = some (-102) := by
      unfold f_X10_about
      rw [H0, bnd_e, if_neg (by decide), if_neg (by decide), if_neg (by decide), if_neg (by decide), if_neg (by decide)]
    have s0 : f_X10_as (nI M) ckinds 0 5 = some (-102) := by
      unfold f_X10_as
      rw [H0, bnd_e, if_neg (by decide), ki5, bnd_e, if_pos rfl]
    rw [if_neg (nI_ne0 (n := M) (by omega) (by omega)), w0, bnd_e, if_pos rfl, a0, bnd_e, if_pos rfl, s0, bnd_e, if_pos rfl]
    exact end943 hG hM6
end TURN3
theorem go_loop {n : Nat} (hn : n ≤ 260) {xs t : A32} {g1 g2 g3 : Int32} {g4 : A32} {g5 g6 g7 g8 : Int32} {cg cdoors cshafts : Int32} {cone ctwo clen cdr : A32} {csize : Int32} {ckinds : A32} {G : Nat} {one two len : Nat → Nat} {dor : Nat → Bool} {dr kind : Nat → Nat} {M : Nat} : ∀ k i fu, i + k = 12 → k < fu → ∀ (cbr : Int32) (ch ci cn csm : A32) (copen cmoon cout cgone : Int32) (cgas cplace : A32) (x1 x2 x3 x4 : Int32) (x5 x6 : A32) (x7 : Int32) (d p : A32) (opn : Nat → Bool) (moon : Bool) (gas place : Nat → Nat) (outx : Int32) (T : Nat), ST cg cdoors cshafts cone ctwo clen cdr cbr ch ci csm csize ckinds copen cmoon cout cgone cgas cplace d p G one two len dor dr opn moon gas kind place outx M T → T ≤ 60 * i →
    f_L_law_b179 n xs g1 g2 g3 g4 g5 g6 g7 g8 cg cdoors cshafts cone ctwo clen cdr csize ckinds t fu cbr ch ci cn csm copen cmoon cout cgone cgas cplace x1 x2 x3 x4 x5 x6 x7 d p (nI i) = some 1 := by
  intro k
  induction k with
  | zero =>
    intro i fu h1 h2 cbr ch ci cn csm copen cmoon cout cgone cgas cplace x1 x2 x3 x4 x5 x6 x7 d p opn moon gas place outx T hS hT
    have e1 : i = 12 := by omega
    obtain ⟨f, rfl⟩ : ∃ f, fu = f + 1 := ⟨fu - 1, by omega⟩
    subst e1
    exact go_end hS f
  | succ k ih =>
    intro i fu h1 h2 cbr ch ci cn csm copen cmoon cout cgone cgas cplace x1 x2 x3 x4 x5 x6 x7 d p opn moon gas place outx T hS hT
    obtain ⟨f, rfl⟩ : ∃ f, fu = f + 1 := ⟨fu - 1, by omega⟩
    have hG := hS.2.1.1
    have h0 := hS.2.2.2.2.2.2.2.1.1
    have h20 := hS.2.2.2.2.2.2.2.2.1.2.2.2.1
    have hM6 := hS.2.2.2.2.2.2.2.2.2.1
    obtain ⟨z, hz⟩ := cell_e n (by omega) xs (9 + i) (by omega)
    obtain ⟨v8, b1, b2⟩ := at_e z (m := 8) (by decide) (by decide)
    have b2' : f_L_at z 8 = some (nI v8) := b2
    obtain ⟨g, c1, c2⟩ := at_e (z >>> (3 &&& 31)) (m := G) (by omega) (by omega)
    have fin : ∀ (m : Nat) (r : Option Int32), (GO (f_L_law_b179 n xs g1 g2 g3 g4 g5 g6 g7 g8 cg cdoors cshafts cone ctwo clen cdr csize ckinds t f) cg cdoors cshafts cone ctwo clen cdr csize ckinds G one two len dor dr kind M T (nI i) r) → r = some 1 := by
      rintro m r ⟨cbr', ch', ci', cn', csm', copen', cmoon', cout', cgone', cgas', cplace', y1, y2, y3, y4, y5, y6, y7, d', p', opn', moon', gas', place', outx', T', hS', hT', e⟩
      rw [e, nI_1]
      exact ih (i + 1) f (by omega) (by omega) cbr' ch' ci' cn' csm' copen' cmoon' cout' cgone' cgas' cplace' y1 y2 y3 y4 y5 y6 y7 d' p' opn' moon' gas' place' outx' T' hS' (by omega)
    rw [f_L_law_b179, if_neg (show ¬ (12 : Int32) ≤ nI i from nI_ge (b := 12) (by omega) (by decide)), show (9 : Int32) + nI i = nI (9 + i) from nI_add 9 i, hz, bnd_e, b2', bnd_e, if_pos (show inB 0 59 by decide), cl0, h0, c2, bnd_e, if_pos (show inB 20 22 by decide)]
    by_cases q : M = 0
    · rw [if_pos (show p (Int32.toNatClampNeg 20) = 0 by rw [cl20, h20, q]; rfl)]
      exact fin 0 _ (go_turn (m := 0) hS (by omega) hn _ (by omega) z b1 c1 (fun h => by omega))
    · obtain ⟨m, m1, m2⟩ := at_e (z >>> (7 &&& 31)) (m := M) (by omega) (by omega)
      rw [if_neg (show ¬ p (Int32.toNatClampNeg 20) = 0 by rw [cl20, h20]; exact nI_ne0 (n := M) (by omega) (by omega)), if_pos (show inB 20 22 by decide), cl20, h20, m2, bnd_e]
      exact fin m _ (go_turn (m := m) hS (by omega) hn _ (by omega) z b1 c1 (fun h => m1))
end
section
/-! kinds told of each man; men; the mine; the law -/
theorem as105 {n : Nat} {xs t : A32} {g1 g2 g3 : Int32} {g4 : A32} {g5 g6 g7 g8 : Int32} {cg cdoors cshafts : Int32} {cone ctwo clen cdr : A32} {cbr : Int32} {ch ci cn csm : A32} {csize : Int32} {ckinds : A32} {copen cmoon cout cgone : Int32} {cgas cplace d p : A32} {x1 x2 x3 x4 : Int32} {x5 x6 : A32} {x7 : Int32} {gas kind place : Nat → Nat} {outx : Int32} {M T : Nat}
    (hC : CM csize ckinds cplace cgas cout cgone gas kind place outx M T) (hP : PA p gas kind place outx M T) (hW : WM gas kind place outx M T) (K : Int32 → Option Int32) {m : Nat} (hm : m < M) : f_L_law_b105 K n xs g1 g2 g3 g4 g5 g6 g7 g8 cg cdoors cshafts cone ctwo clen cdr cbr ch ci cn csm csize ckinds copen cmoon cout cgone cgas cplace x1 x2 x3 x4 x5 x6 x7 d p t (nI m) FU 0 = K (nI (m + 1)) := by
  have hM6 := hW.1
  have h5 := fun m hm => (hW.2.2.1 m hm).1
  have k5 := h5 m hm
  have hk7 := (hP.2.1 m hm).1
  obtain ⟨c1, c2, c3, c4, c5⟩ := hC
  subst c1
  have i7 : inB (nI (7 + m)) 22 := (inB_e (by omega)).mpr (by omega)
  have q7 : p (nI (7 + m)).toNatClampNeg = nI (kind m) := by rw [cl_e (by omega)]; exact hk7
  obtain ⟨s, -, e⟩ := lp (fun fu (_ : Unit) j => f_L_law_b105 K n xs g1 g2 g3 g4 g5 g6 g7 g8 cg cdoors cshafts cone ctwo clen cdr cbr ch ci cn csm (nI M) ckinds copen cmoon cout cgone cgas cplace x1 x2 x3 x4 x5 x6 x7 d p t (nI m) fu (nI j)) 5 (fun _ _ => True) (fun _ => K (nI (m + 1))) (by
      intro fu j s hj hs
      refine ⟨(), trivial, ?_⟩
      have ha := as_e hM6 (fun m hm => (c2 m hm).1) h5 hm hj
      have y3 : (j = 0 ∨ j = kind m ∨ (j = 1 ∧ kind m = 4)) → ∀ KK : Int32 → Option Int32, f_L_law_b153 K KK  n xs g1 g2 g3 g4 g5 g6 g7 g8 cg cdoors cshafts cone ctwo clen cdr cbr ch ci cn csm (nI M) ckinds copen cmoon cout cgone cgas cplace x1 x2 x3 x4 x5 x6 x7 d p t (if j = 0 ∨ j = kind m ∨ (j = 1 ∧ kind m = 4) then nI m else -1) (nI m) (nI j) = KK (nI (j + 1)) := by
        intro C KK
        unfold f_L_law_b153 f_L_law_b159
        rw [if_pos C, if_pos rfl, nam_e, nI_1]
      have y8 : ¬ (j = 0 ∨ j = kind m ∨ (j = 1 ∧ kind m = 4)) → ∀ KK : Int32 → Option Int32, f_L_law_b158 K KK  n xs g1 g2 g3 g4 g5 g6 g7 g8 cg cdoors cshafts cone ctwo clen cdr cbr ch ci cn csm (nI M) ckinds copen cmoon cout cgone cgas cplace x1 x2 x3 x4 x5 x6 x7 d p t (if j = 0 ∨ j = kind m ∨ (j = 1 ∧ kind m = 4) then nI m else -1) (nI m) (nI j) = KK (nI (j + 1)) := by
        intro C KK
        unfold f_L_law_b158 f_L_law_b159
        rw [if_neg C, if_pos rfl, nam_e, nI_1]
      try dsimp only
      rw [f_L_law_b105, if_neg (show ¬ (5 : Int32) ≤ nI j from nI_ge (b := 5) hj (by decide)), ha, bnd_e]
      by_cases q0 : j = 0
      · rw [if_pos (show nI j = 0 by rw [q0]; rfl)]
        exact y3 (Or.inl q0) _
      · rw [if_neg (nI_ne0 (n := j) (by omega) (by omega)), ad7, if_pos i7, q7]
        by_cases q1 : j = kind m
        · rw [if_pos (show nI j = nI (kind m) by rw [q1])]
          exact y3 (Or.inr (Or.inl q1)) _
        · rw [if_neg (show ¬ nI j = nI (kind m) from fun h => q1 ((nI_eq (by omega) (by omega)).mp h))]
          by_cases q2 : j = 1
          · rw [if_pos (show nI j = 1 by rw [q2]; rfl), if_pos i7]
            by_cases q3 : kind m = 4
            · rw [if_pos (show nI (kind m) = 4 by rw [q3]; rfl)]
              exact y3 (Or.inr (Or.inr ⟨q2, q3⟩)) _
            · rw [if_neg (show ¬ nI (kind m) = 4 from fun h => q3 ((nI_eq (b := 4) (by omega) (by decide)).mp h))]
              exact y8 (by omega) _
          · rw [if_neg (show ¬ nI j = 1 from fun h => q2 ((nI_eq (b := 1) (by omega) (by decide)).mp h))]
            exact y8 (by omega) _) (by
      intro fu s _
      try dsimp only
      rw [f_L_law_b105, if_pos (show (5 : Int32) ≤ nI 5 by decide), nam_e, nI_1]) (i := 0) (k := 5) (fu := FU) (s := ()) (by decide) (FU_lt (by decide)) trivial
  exact e
theorem as93 {n : Nat} (hn : n ≤ 260) {xs t : A32} {g1 g2 g3 : Int32} {g4 : A32} {g5 g6 g7 g8 : Int32} {cg cdoors cshafts : Int32} {cone ctwo clen cdr : A32} {cbr : Int32} {ch ci cn csm : A32} {csize : Int32} {ckinds : A32} {copen cmoon cout cgone : Int32} {cgas cplace d p : A32} {x1 x2 x3 x4 : Int32} {x5 x6 : A32} {x7 : Int32} {G : Nat} {one two len : Nat → Nat} {dor : Nat → Bool} {dr : Nat → Nat} {opn : Nat → Bool} {moon : Bool} {gas kind place : Nat → Nat} {outx : Int32} {M : Nat}
    (hS : ST cg cdoors cshafts cone ctwo clen cdr cbr ch ci csm csize ckinds copen cmoon cout cgone cgas cplace d p G one two len dor dr opn moon gas kind place outx M 0) : f_L_law_b93  n xs g1 g2 g3 g4 g5 g6 g7 g8 cg cdoors cshafts cone ctwo clen cdr cbr ch ci cn csm csize ckinds copen cmoon cout cgone cgas cplace x1 x2 x3 x4 x5 x6 x7 d p t FU 0 = some 1 := by
  have hS' := hS
  obtain ⟨s1, s2, s3, s4, s5, s6, s7, s8, s9, s10⟩ := hS
  have hM6 := s10.1
  have h20 := s9.2.2.2.1
  refine lpP (fun fu (_ : Unit) i => f_L_law_b93  n xs g1 g2 g3 g4 g5 g6 g7 g8 cg cdoors cshafts cone ctwo clen cdr cbr ch ci cn csm csize ckinds copen cmoon cout cgone cgas cplace x1 x2 x3 x4 x5 x6 x7 d p t fu (nI i)) M (fun _ _ => True) (fun r => r = some 1) ?_ ?_ M 0 () FU (by omega) (FU_lt (by omega)) trivial
  · intro fu i s hi _
    refine Or.inl ⟨(), trivial, ?_⟩
    try dsimp only
    rw [f_L_law_b93, if_pos (show inB 20 22 by decide), if_neg (show ¬ p (Int32.toNatClampNeg 20) ≤ nI i by rw [cl20, h20]; exact nI_ge hi (by omega)), as105 s7 s9 s10 _ hi]
  · intro fu s _
    try dsimp only
    rw [f_L_law_b93, if_pos (show inB 20 22 by decide), if_pos (show p (Int32.toNatClampNeg 20) ≤ nI M by rw [cl20, h20]; exact nI_le (Nat.le_refl M) (by omega))]
    exact go_loop hn 12 0 FU rfl (FU_lt (by decide)) cbr ch ci cn csm copen cmoon cout cgone cgas cplace x1 x2 x3 x4 x5 x6 x7 d p opn moon gas place outx 0 hS' (by omega)
/-- men -/
theorem men_e {n : Nat} (hn : n ≤ 260) {xs : A32} {G : Nat} {one two len dr : Nat → Nat} (hw : WF G one two len dr) (ck cp cgas : A32) (hg : ∀ k, k < 7 → cgas k = 0) : ∃ M kind place ck' cp' p, f_L_men 22 n xs (nI G) 0 ck cp (fun _ => 0) 7 6 = some (1, nI M, ck', cp', p) ∧ CM (nI M) ck' cp' cgas 0 0 (fun _ => 0) kind place 0 M 0 ∧ PA p (fun _ => 0) kind place 0 M 0 ∧ WM (fun _ => 0) kind place 0 M 0 := by
  obtain ⟨z, hz⟩ := cell_e n (by omega) xs 7 (by omega)
  obtain ⟨y, hy⟩ := cell_e n (by omega) xs 8 (by omega)
  have hz7 : f_L_cell n xs 7 = some z := hz
  have hz8 : f_L_cell n xs ((7 : Int32) + 1) = some y := by
    rw [show (7 : Int32) + 1 = nI 8 by decide]; exact hy
  obtain ⟨M, m1, m2⟩ := at_e z (m := 7) (by decide) (by decide)
  obtain ⟨⟨ck', cp', p'⟩, ⟨kind, place, h1, h2, h3, h4, h5⟩, e⟩ := lp (fun fu (s : A32 × A32 × A32) i => f_L_men_b22 22 n xs (nI G) 7 (nI M) fu (nI i) s.1 s.2.1 s.2.2 (nI i)) M
    (fun i s => ∃ kind place : Nat → Nat, (∀ m, m < i → s.1 m = nI (kind m) ∧ s.2.1 m = nI (place m) ∧ s.2.2 (7 + m) = nI (kind m) ∧ s.2.2 (13 + m) = nI (place m) ∧ kind m < 5 ∧ place m < 7) ∧ s.2.2 20 = nI i ∧ (∀ k, k < 7 → s.2.2 k = 0) ∧ s.2.2 19 = 0 ∧ s.2.2 21 = 0)
    (fun s => some (1, nI M, s.1, s.2.1, s.2.2)) (by
      rintro fu i ⟨ck', cp', q⟩ hi ⟨kind, place, h1, h2, h3, h4, h5⟩
      dsimp only at h1 h2 h3 h4 h5
      obtain ⟨kd, k1, k2⟩ := at_e (z >>> ((3 + (4 * nI i)) &&& 31)) (m := 5) (by decide) (by decide)
      obtain ⟨pl, l1, l2⟩ := at_e (y >>> ((4 * nI i) &&& 31)) (m := 7) (by decide) (by decide)
      have k2' : f_L_at (z >>> ((3 + (4 * nI i)) &&& 31)) 5 = some (nI kd) := k2
      have l2' : f_L_at (y >>> ((4 * nI i) &&& 31)) 7 = some (nI pl) := l2
      have i7 : inB (nI (7 + i)) 22 := (inB_e (by omega)).mpr (by omega)
      have i13 : inB (nI (13 + i)) 22 := (inB_e (by omega)).mpr (by omega)
      have c7 := cl_e (show 7 + i < 2 ^ 31 by omega)
      have c13 := cl_e (show 13 + i < 2 ^ 31 by omega)
      have e1 : (upd (upd q (7 + i) (nI kd)) (13 + i) (nI pl)) (7 + i) = nI kd := by rw [upd_n _ _ (by omega), upd_s]
      have e2 : (upd (upd q (7 + i) (nI kd)) (13 + i) (nI pl)) (13 + i) = nI pl := by rw [upd_s]
      have e3 : (upd (upd q (7 + i) (nI kd)) (13 + i) (nI pl)) 20 = nI i := by rw [upd_n _ _ (by omega), upd_n _ _ (by omega)]; exact h2
      refine ⟨(upd ck' i (nI kd), upd cp' i (nI pl), upd (upd (upd q (7 + i) (nI kd)) (13 + i) (nI pl)) 20 (nI (i + 1))), ⟨fun m => if m = i then kd else kind m, fun m => if m = i then pl else place m, ?_, ?_, ?_, ?_, ?_⟩, ?_⟩
      · intro m hm
        try dsimp only
        by_cases r : m = i
        · subst r
          rw [if_pos rfl, if_pos rfl, upd_s, upd_s, upd_n _ _ (by omega), upd_n _ _ (by omega), upd_s, upd_n _ _ (by omega), upd_s]
          exact ⟨rfl, rfl, rfl, rfl, k1, l1⟩
        · rw [if_neg r, if_neg r, upd_n _ _ r, upd_n _ _ r, upd_n _ _ (by omega), upd_n _ _ (by omega), upd_n _ _ (by omega), upd_n _ _ (by omega), upd_n _ _ (by omega), upd_n _ _ (by omega)]
          exact h1 m (by omega)
      · show upd (upd (upd q (7 + i) (nI kd)) (13 + i) (nI pl)) 20 (nI (i + 1)) 20 = nI (i + 1)
        rw [upd_s]
      · intro k hk
        show upd (upd (upd q (7 + i) (nI kd)) (13 + i) (nI pl)) 20 (nI (i + 1)) k = 0
        rw [upd_n _ _ (by omega), upd_n _ _ (by omega), upd_n _ _ (by omega)]; exact h3 k hk
      · show upd (upd (upd q (7 + i) (nI kd)) (13 + i) (nI pl)) 20 (nI (i + 1)) 19 = 0
        rw [upd_n _ _ (by omega), upd_n _ _ (by omega), upd_n _ _ (by omega)]; exact h4
      · show upd (upd (upd q (7 + i) (nI kd)) (13 + i) (nI pl)) 20 (nI (i + 1)) 21 = 0
        rw [upd_n _ _ (by omega), upd_n _ _ (by omega), upd_n _ _ (by omega)]; exact h5
      · try dsimp only
        rw [f_L_men_b22, if_neg (nI_ge hi (by omega)), hz7, bnd_e, k2', bnd_e, ad7 i, if_pos i7, hz8, bnd_e, l2', bnd_e, ad13 i, if_pos i13, if_pos i7, if_pos i13, c7, c13, e1, e2, man_e hw k1 l1 (by omega), bnd_e, if_pos rfl, if_pos (show inB 20 22 by decide), if_pos (show inB 20 22 by decide), nam_e, cl20, e3, nI_1]) (by
      rintro fu ⟨ck', cp', q⟩ -
      try dsimp only
      rw [f_L_men_b22, if_pos (nI_le (Nat.le_refl M) (by omega))]) (i := 0) (k := M) (fu := FU) (s := (ck, cp, upd (fun _ => 0) 20 0)) (by omega) (FU_lt (by omega)) ⟨fun _ => 0, fun _ => 0, fun m h => absurd h (Nat.not_lt_zero m), rfl, fun k hk => by
        show upd (fun _ => 0) 20 0 k = 0
        rw [upd_n _ _ (by omega)], rfl, rfl⟩
  dsimp only at h1 h2 h3 h4 h5
  refine ⟨M, kind, place, ck', cp', p', ?_, ⟨rfl, fun m hm => ⟨(h1 m hm).1, (h1 m hm).2.1⟩, hg, rfl, rfl⟩, ⟨h3, fun m hm => ⟨(h1 m hm).2.2.1, (h1 m hm).2.2.2.1⟩, h4, h2, h5⟩, ⟨by omega, fun k hk => Nat.zero_le 9, fun m hm => (h1 m hm).2.2.2.2, fun i h1 h2 => b_0 i, by decide⟩⟩
  unfold f_L_men
  rw [hz7, bnd_e, show (6 : Int32) + 1 = nI 7 by decide, m2, bnd_e, if_pos (show inB 20 22 by decide), cl20]
  exact e
/-- the page keeps the text -/
theorem TX.cong {t c : A32} {G : Nat} {one two len : Nat → Nat} {dor : Nat → Bool} {dr : Nat → Nat} {S n : Nat} {kn : Nat → Nat} (hX : TX t G one two len dor dr S kn n) (h : ∀ i, i < n → c i = t i) : TX c G one two len dor dr S kn n := by
  obtain ⟨x1, x2, x3, x4, x5, x6, x7⟩ := hX
  refine ⟨fun g hg => ?_, fun k hk => ?_, x3, x4, x5, x6, x7⟩
  · obtain ⟨⟨y1, y2, y3, y4⟩, y5⟩ := x1 g hg
    have p1 := pos_mono dor hg
    have p2 : pos dor (g + 1) ≤ pos dor G := by
      rcases Nat.lt_or_ge (g + 1) G with q | q
      · have := pos_mono dor q; omega
      · rw [show g + 1 = G by omega]; exact Nat.le_refl _
    have p3 := pos_ge dor (g + 1)
    refine ⟨⟨?_, ?_, ?_, fun hd => ?_⟩, ?_⟩
    · rw [h _ (by omega)]; exact y1
    · rw [h _ (by omega)]; exact y2
    · rw [h _ (by omega)]; exact y3
    · rw [h _ (by omega)]; exact y4 hd
    · rw [h _ (by omega)]; exact y5
  · obtain ⟨y1, y2, y3⟩ := x2 k hk
    refine ⟨?_, ?_, y3⟩
    · rw [h _ (by omega)]; exact y1
    · rw [h _ (by omega)]; exact y2
theorem mine_e {cl : A32} {G : Nat} {one two len : Nat → Nat} {dor : Nat → Bool} {dr : Nat → Nat} {S n : Nat} {kn : Nat → Nat} (hw : WF G one two len dr) (hX : TX cl G one two len dor dr S kn n) (mr r0 f0 g0 s0 a1 a2 a3 : Int32) (a4 a5 a6 a7 : A32) (b1 : Int32) (b2 b3 b4 b5 : A32) (d0 d1 d2 d3 d4 : Int32) (d5 : A32) :
    ∃ y1 y2 y3 y4 cd cs o1 o2 o3 cdr cbr ch ci cn csm vo ga, f_X10_mine mr (nI n) cl r0 f0 g0 s0 a1 a2 a3 a4 a5 a6 a7 b1 b2 b3 b4 b5 d0 d1 d2 d3 d4 d5 = some (nI G, mr + 1, 0, y1, y2, y3, y4, nI G, cd, cs, o1, o2, o3, cdr, cbr, ch, ci, cn, csm, 0, vo, 0, 0, 0, ga) ∧ MA (nI G) cd cs o1 o2 o3 cdr G one two len dor dr ∧ (∀ g, g < G → bt vo g = (fun _ => true) g) ∧ AO cbr ch ci G one two (fun _ => true) false dr ∧ SO csm G one two len (flw G one two (fun _ => true) false dr) ∧ ∀ k, k < 7 → ga k = 0 := by
  have hG := hw.1
  obtain ⟨⟨y1, y2, y3, y4⟩, ey⟩ := isMine_e hw hX r0 f0 g0 s0
  obtain ⟨cd, cs, o1, o2, o3, cdr, er, hM⟩ := readFrom_e hw hX a1 a2 a3 a4 a5 a6 a7
  obtain ⟨ga, eg, hga⟩ := fill_e (n := 7) (by decide) d5 0
  have hvo : ∀ g, g < G → bt (((1 : Int32) <<< (nI G &&& 31)) - 1) g = (fun _ => true) g := fun g hg => allG_all G (by omega) g hg
  obtain ⟨cbr, ch, ci, cn, csm, ew, hA, hSm⟩ := wind_e (moon := false) hM hw hvo b1 b2 b3 b4 b5
  have ew' : f_X10_windChanges (nI G) cs o1 o2 o3 cdr b1 b2 b3 b4 b5 (((1 : Int32) <<< (nI G &&& 31)) - 1) 0 = some (cbr, ch, ci, cn, csm) := ew
  refine ⟨y1, y2, y3, y4, cd, cs, o1, o2, o3, cdr, cbr, ch, ci, cn, csm, _, ga, ?_, hM, hvo, hA, hSm, hga⟩
  unfold f_X10_mine f_X5_allGalleries f_X3_begin
  rw [ey, bnd_e, if_neg (show ¬ (1 : Int32) = 0 by decide), er, bnd_e, bnd_e, eg, bnd_e, bnd_e, nam_e, ew', bnd_e]
theorem law_pure (n_q0 : Nat) (c_q0 : A32) (h : n_q0 ≤ 260) : f_L_law_b8 n_q0 c_q0 0 0 0 (fun _ => 0) 0 0 0 0 0 0 0 (fun _ => 0) (fun _ => 0) (fun _ => 0) (fun _ => 0) 0 (fun _ => 0) (fun _ => 0) (fun _ => 0) (fun _ => 0) 0 (fun _ => 0) 0 0 0 0 (fun _ => 0) (fun _ => 0) 0 0 0 0 (fun _ => 0) (fun _ => 0) 0 = some 1 := by
  obtain ⟨d, t, G, one, two, len, dor, dr, S, kn, nn, et, hw, hD, hX⟩ := mineText_e (xs := c_q0) h
  have hG := hw.1
  obtain ⟨hn, hv⟩ := tx_vals hw hX
  obtain ⟨c, ec, hc⟩ := write_e (cl := fun _ => 0) hn hv
  have hX' := hX.cong hc
  obtain ⟨f, sh, -, ef⟩ := fault_e hw hX' 0 0 0 0
  have ef' : f_X10_fault (nI nn) c 0 0 0 0 = some (nI nn, 5, f, nI G, sh) := by
    unfold f_X10_fault
    rw [ef, bnd_e]
  obtain ⟨y1, y2, y3, y4, cd, cs, o1, o2, o3, cdr, cbr, ch, ci, cn, csm, vo, ga, em, hM, hvo, hA, hSm, hga⟩ := mine_e hw hX' 0 5 f (nI G) sh 0 0 0 (fun _ => 0) (fun _ => 0) (fun _ => 0) (fun _ => 0) 0 (fun _ => 0) (fun _ => 0) (fun _ => 0) (fun _ => 0) 0 0 0 0 0 (fun _ => 0)
  obtain ⟨M, kind, place, ck, cp, p, en, hC, hP, hW⟩ := men_e (xs := c_q0) h hw (fun _ => 0) (fun _ => 0) ga hga
  have es : f_L_stands 59 22 (0 + 1) 0 0 (nI G) cd cs o1 o2 o3 cdr cbr ch ci (nI M) ck vo 0 0 0 ga cp d p = some 1 := L_stands_e (moon := false) (0 + 1) 0 0 hM hD hw hvo hA hC hP hW
  unfold f_L_law_b8
  rw [et, bnd_e, ec, bnd_e, if_neg (show ¬ (1 : Int32) = 0 by decide), ef', bnd_e, if_pos rfl, em, bnd_e, if_pos (show inB 0 59 by decide), if_pos (show nI G = d (Int32.toNatClampNeg 0) by rw [cl0, hD.1]), en, bnd_e, if_neg (show ¬ (1 : Int32) = 0 by decide), es, bnd_e, if_neg (show ¬ (1 : Int32) = 0 by decide)]
  exact as93 h (moon := false) ⟨hM, hw, hvo, rfl, hA, hSm, hC, hD, hP, hW⟩
end
