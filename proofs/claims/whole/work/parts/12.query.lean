def f_X5_feed (p1 : Int32) (p2 : Int32) (p3 : Int32) (p4 : Int32) (p5 : Int32) (tp_bytes : Nat → Int32) (tp_size : Int32) : Option ((Int32) × (Nat → Int32) × (Int32)) :=
  ob1 (f_X4_hasRoom tp_size) (fun x1 =>
  if x1 = (0 : Int32) then (some ((0 : Int32), tp_bytes, tp_size))
  else (ob2 (f_X4_put p1 tp_bytes tp_size) (fun x2 x3 =>
  ob2 (f_X4_put p2 x2 x3) (fun x4 x5 =>
  ob2 (f_X4_put p3 x4 x5) (fun x6 x7 =>
  ob2 (f_X4_put p4 x6 x7) (fun x8 x9 =>
  ob2 (f_X4_put p5 x8 x9) (fun x10 x11 =>
  some ((1 : Int32), x10, x11))))))))
set_option maxHeartbeats 4000000 in
set_option maxRecDepth 100000 in
theorem c_X5_feed (l : Launch) (E : EnvT) (a_qt : Nat → Nat) (a_tp : Nat → Nat) (a_sh : Nat → Nat) (a_pa : Nat → Nat) (a_sc : Nat → Nat) (a_dr : Nat → Nat) (a_pl : Nat → Nat) (tp_bytes : Nat → Int32) (tp_size : Int32) (sh_names : Nat → Int32) (sh_nameLengths : Nat → Int32) (sh_groups : Nat → Int32) (sh_types : Nat → Int32) (sh_flat : Nat → Int32) (sh_size : Int32) (pa_itemPlaces : Nat → Int32) (pa_waitingSigns : Nat → Int32) (pa_waitingPlaces : Nat → Int32) (pa_waiting : Int32) (pa_nested : Int32) (pa_fault : Int32) (sc_token : Int32) (sc_start : Int32) (sc_end : Int32) (sc_numberRead : Int64) (sc_escaped : Int32) (sc_bytesBehind : Int32) (dr_items : Nat → Int32) (dr_behindBy : Nat → Int32) (dr_steps : Nat → Int32) (dr_literalTypes : Nat → Int32) (dr_numbers : Nat → Int64) (dr_textStarts : Nat → Int32) (dr_textLengths : Nat → Int32) (dr_textBytes : Nat → Int32) (dr_itemCount : Int32) (dr_byCount : Int32) (dr_stepCount : Int32) (dr_literalCount : Int32) (dr_textEnd : Int32) (pl_items : Nat → Int32) (pl_behindBy : Nat → Int32) (pl_steps : Nat → Int32) (pl_literalTypes : Nat → Int32) (pl_numbers : Nat → Int64) (pl_textStarts : Nat → Int32) (pl_textLengths : Nat → Int32) (pl_textBytes : Nat → Int32) (pl_itemCount : Int32) (pl_byCount : Int32) (pl_stepCount : Int32) (pl_literalCount : Int32) (pl_textEnd : Int32) (p1 : Int32) (p2 : Int32) (p3 : Int32) (p4 : Int32) (p5 : Int32) (r : Int32) (o_tp_bytes : Nat → Int32) (o_tp_size : Int32) (hf : f_X5_feed p1 p2 p3 p4 p5 tp_bytes tp_size = some (r, o_tp_bytes, o_tp_size)) : CI l yX5_feed (Cond.code yX5_feed cX5_feed 6 (some .boolean)) { frames := 1, cells := 0, slots := 0, locals := 22 } E [.ref (a_qt 0), .int p1, .int p2, .int p3, .int p4, .int p5] (w_qt_tp_sh_pa_sc_dr_pl E a_qt a_tp a_sh a_pa a_sc a_dr a_pl tp_bytes tp_size sh_names sh_nameLengths sh_groups sh_types sh_flat sh_size pa_itemPlaces pa_waitingSigns pa_waitingPlaces pa_waiting pa_nested pa_fault sc_token sc_start sc_end sc_numberRead sc_escaped sc_bytesBehind dr_items dr_behindBy dr_steps dr_literalTypes dr_numbers dr_textStarts dr_textLengths dr_textBytes dr_itemCount dr_byCount dr_stepCount dr_literalCount dr_textEnd pl_items pl_behindBy pl_steps pl_literalTypes pl_numbers pl_textStarts pl_textLengths pl_textBytes pl_itemCount pl_byCount pl_stepCount pl_literalCount pl_textEnd) r (w_qt_tp_sh_pa_sc_dr_pl E a_qt a_tp a_sh a_pa a_sc a_dr a_pl o_tp_bytes o_tp_size sh_names sh_nameLengths sh_groups sh_types sh_flat sh_size pa_itemPlaces pa_waitingSigns pa_waitingPlaces pa_waiting pa_nested pa_fault sc_token sc_start sc_end sc_numberRead sc_escaped sc_bytesBehind dr_items dr_behindBy dr_steps dr_literalTypes dr_numbers dr_textStarts dr_textLengths dr_textBytes dr_itemCount dr_byCount dr_stepCount dr_literalCount dr_textEnd pl_items pl_behindBy pl_steps pl_literalTypes pl_numbers pl_textStarts pl_textLengths pl_textBytes pl_itemCount pl_byCount pl_stepCount pl_literalCount pl_textEnd) := by
  intro sz
  refine met_start [(0, .ref (a_qt 0)), (1, .int p1), (2, .int p2), (3, .int p3), (4, .int p4), (5, .int p5)] (by decide) rfl rfl (Nat.le_of_ble_eq_true rfl) rfl ?_
  intro p e s m below meth c ls C hnm hmt hw hl
  have hx := C.1
  have hb := C.2.1
  generalize va_A (w_qt_tp_sh_pa_sc_dr_pl E a_qt a_tp a_sh a_pa a_sc a_dr a_pl tp_bytes tp_size sh_names sh_nameLengths sh_groups sh_types sh_flat sh_size pa_itemPlaces pa_waitingSigns pa_waitingPlaces pa_waiting pa_nested pa_fault sc_token sc_start sc_end sc_numberRead sc_escaped sc_bytesBehind dr_items dr_behindBy dr_steps dr_literalTypes dr_numbers dr_textStarts dr_textLengths dr_textBytes dr_itemCount dr_byCount dr_stepCount dr_literalCount dr_textEnd pl_items pl_behindBy pl_steps pl_literalTypes pl_numbers pl_textStarts pl_textLengths pl_textBytes pl_itemCount pl_byCount pl_stepCount pl_literalCount pl_textEnd) sz = A at C hw ⊢
  unfold f_X5_feed at hf
  refine lv_aload_n hx hb dX5_feed_0 rfl (lv_at hl 0 rfl) ?_
  refine fg_X5_12 C hw 0 rfl rfl dX5_feed_1 ?_
  obtain ⟨x1, z1, hf⟩ := ob1_el hf
  refine cI_V C hw (c_X4_hasRoom l E a_tp tp_bytes tp_size x1 z1) cs_X5_41 ⟨Nat.le_of_ble_eq_true rfl, Nat.le_of_ble_eq_true rfl⟩ ⟨rfl, rfl⟩ (ci := 4) (cn := (RX4, TX4, 2)) rfl (q0 := 1) rfl (wn := w_qt_tp_sh_pa_sc_dr_pl E a_qt a_tp a_sh a_pa a_sc a_dr a_pl tp_bytes tp_size sh_names sh_nameLengths sh_groups sh_types sh_flat sh_size pa_itemPlaces pa_waitingSigns pa_waitingPlaces pa_waiting pa_nested pa_fault sc_token sc_start sc_end sc_numberRead sc_escaped sc_bytesBehind dr_items dr_behindBy dr_steps dr_literalTypes dr_numbers dr_textStarts dr_textLengths dr_textBytes dr_itemCount dr_byCount dr_stepCount dr_literalCount dr_textEnd pl_items pl_behindBy pl_steps pl_literalTypes pl_numbers pl_textStarts pl_textLengths pl_textBytes pl_itemCount pl_byCount pl_stepCount pl_literalCount pl_textEnd) ⟨[1, 2], [0, 3, 4, 5, 6, 7, 8, 9, 10, 11, 12, 13, 14, 15, 16, 17, 18, 19, 20, 21, 22, 23, 24, 25, 26, 27, 28, 29, 30, 31], [0, 30, 31, 1, 2, 3, 4, 5, 6, 7, 8, 9, 10, 11, 12, 13, 14, 15, 16, 17, 18, 19, 20, 21, 22, 23, 24, 25, 26, 27, 28, 29], rfl, rfl, rfl, rfl, by decide, rfl, rfl⟩ rfl hl.1 rfl (Nat.le_of_ble_eq_true rfl) dX5_feed_4 ⟨Nat.zero_le _, Nat.zero_le _⟩ (fun H locs hw => ?_)
  refine lv_if_ne (tgt := 12) hx hb dX5_feed_7 (by decide) (fun c7 => ?_) (fun c7 => ?_)
  · replace hf := it_f c7 hf
    refine lv_aload_n hx hb dX5_feed_12 rfl (lv_at hl 0 rfl) ?_
    refine fg_X5_12 C hw 0 rfl rfl dX5_feed_13 ?_
    refine lv_iload_n hx hb dX5_feed_16 rfl (lv_at hl 1 rfl) ?_
    obtain ⟨x2, x3, z3, hf⟩ := ob2_el hf
    refine cV_V C hw (c_X4_put l E a_tp tp_bytes tp_size p1 x2 x3 z3) cs_X5_45 ⟨Nat.le_of_ble_eq_true rfl, Nat.le_of_ble_eq_true rfl⟩ ⟨rfl, rfl⟩ (ci := 4) (cn := (RX4, TX4, 2)) rfl (q0 := 1) rfl (wn := w_qt_tp_sh_pa_sc_dr_pl E a_qt a_tp a_sh a_pa a_sc a_dr a_pl x2 x3 sh_names sh_nameLengths sh_groups sh_types sh_flat sh_size pa_itemPlaces pa_waitingSigns pa_waitingPlaces pa_waiting pa_nested pa_fault sc_token sc_start sc_end sc_numberRead sc_escaped sc_bytesBehind dr_items dr_behindBy dr_steps dr_literalTypes dr_numbers dr_textStarts dr_textLengths dr_textBytes dr_itemCount dr_byCount dr_stepCount dr_literalCount dr_textEnd pl_items pl_behindBy pl_steps pl_literalTypes pl_numbers pl_textStarts pl_textLengths pl_textBytes pl_itemCount pl_byCount pl_stepCount pl_literalCount pl_textEnd) ⟨[1, 2], [0, 3, 4, 5, 6, 7, 8, 9, 10, 11, 12, 13, 14, 15, 16, 17, 18, 19, 20, 21, 22, 23, 24, 25, 26, 27, 28, 29, 30, 31], [0, 30, 31, 1, 2, 3, 4, 5, 6, 7, 8, 9, 10, 11, 12, 13, 14, 15, 16, 17, 18, 19, 20, 21, 22, 23, 24, 25, 26, 27, 28, 29], rfl, rfl, rfl, rfl, by decide, rfl, rfl⟩ rfl hl.1 rfl (Nat.le_of_ble_eq_true rfl) dX5_feed_17 ⟨Nat.zero_le _, Nat.zero_le _⟩ (fun H locs hw => ?_)
    refine lv_aload_n hx hb dX5_feed_20 rfl (lv_at hl 0 rfl) ?_
    refine fg_X5_12 C hw 0 rfl rfl dX5_feed_21 ?_
    refine lv_iload_n hx hb dX5_feed_24 rfl (lv_at hl 2 rfl) ?_
    obtain ⟨x4, x5, z5, hf⟩ := ob2_el hf
    refine cV_V C hw (c_X4_put l E a_tp x2 x3 p2 x4 x5 z5) cs_X5_45 ⟨Nat.le_of_ble_eq_true rfl, Nat.le_of_ble_eq_true rfl⟩ ⟨rfl, rfl⟩ (ci := 4) (cn := (RX4, TX4, 2)) rfl (q0 := 1) rfl (wn := w_qt_tp_sh_pa_sc_dr_pl E a_qt a_tp a_sh a_pa a_sc a_dr a_pl x4 x5 sh_names sh_nameLengths sh_groups sh_types sh_flat sh_size pa_itemPlaces pa_waitingSigns pa_waitingPlaces pa_waiting pa_nested pa_fault sc_token sc_start sc_end sc_numberRead sc_escaped sc_bytesBehind dr_items dr_behindBy dr_steps dr_literalTypes dr_numbers dr_textStarts dr_textLengths dr_textBytes dr_itemCount dr_byCount dr_stepCount dr_literalCount dr_textEnd pl_items pl_behindBy pl_steps pl_literalTypes pl_numbers pl_textStarts pl_textLengths pl_textBytes pl_itemCount pl_byCount pl_stepCount pl_literalCount pl_textEnd) ⟨[1, 2], [0, 3, 4, 5, 6, 7, 8, 9, 10, 11, 12, 13, 14, 15, 16, 17, 18, 19, 20, 21, 22, 23, 24, 25, 26, 27, 28, 29, 30, 31], [0, 30, 31, 1, 2, 3, 4, 5, 6, 7, 8, 9, 10, 11, 12, 13, 14, 15, 16, 17, 18, 19, 20, 21, 22, 23, 24, 25, 26, 27, 28, 29], rfl, rfl, rfl, rfl, by decide, rfl, rfl⟩ rfl hl.1 rfl (Nat.le_of_ble_eq_true rfl) dX5_feed_25 ⟨Nat.zero_le _, Nat.zero_le _⟩ (fun H locs hw => ?_)
    refine lv_aload_n hx hb dX5_feed_28 rfl (lv_at hl 0 rfl) ?_
    refine fg_X5_12 C hw 0 rfl rfl dX5_feed_29 ?_
    refine lv_iload_n hx hb dX5_feed_32 rfl (lv_at hl 3 rfl) ?_
    obtain ⟨x6, x7, z7, hf⟩ := ob2_el hf
    refine cV_V C hw (c_X4_put l E a_tp x4 x5 p3 x6 x7 z7) cs_X5_45 ⟨Nat.le_of_ble_eq_true rfl, Nat.le_of_ble_eq_true rfl⟩ ⟨rfl, rfl⟩ (ci := 4) (cn := (RX4, TX4, 2)) rfl (q0 := 1) rfl (wn := w_qt_tp_sh_pa_sc_dr_pl E a_qt a_tp a_sh a_pa a_sc a_dr a_pl x6 x7 sh_names sh_nameLengths sh_groups sh_types sh_flat sh_size pa_itemPlaces pa_waitingSigns pa_waitingPlaces pa_waiting pa_nested pa_fault sc_token sc_start sc_end sc_numberRead sc_escaped sc_bytesBehind dr_items dr_behindBy dr_steps dr_literalTypes dr_numbers dr_textStarts dr_textLengths dr_textBytes dr_itemCount dr_byCount dr_stepCount dr_literalCount dr_textEnd pl_items pl_behindBy pl_steps pl_literalTypes pl_numbers pl_textStarts pl_textLengths pl_textBytes pl_itemCount pl_byCount pl_stepCount pl_literalCount pl_textEnd) ⟨[1, 2], [0, 3, 4, 5, 6, 7, 8, 9, 10, 11, 12, 13, 14, 15, 16, 17, 18, 19, 20, 21, 22, 23, 24, 25, 26, 27, 28, 29, 30, 31], [0, 30, 31, 1, 2, 3, 4, 5, 6, 7, 8, 9, 10, 11, 12, 13, 14, 15, 16, 17, 18, 19, 20, 21, 22, 23, 24, 25, 26, 27, 28, 29], rfl, rfl, rfl, rfl, by decide, rfl, rfl⟩ rfl hl.1 rfl (Nat.le_of_ble_eq_true rfl) dX5_feed_33 ⟨Nat.zero_le _, Nat.zero_le _⟩ (fun H locs hw => ?_)
    refine lv_aload_n hx hb dX5_feed_36 rfl (lv_at hl 0 rfl) ?_
    refine fg_X5_12 C hw 0 rfl rfl dX5_feed_37 ?_
    refine lv_iload hx hb dX5_feed_40 (lv_at hl 4 rfl) ?_
    obtain ⟨x8, x9, z9, hf⟩ := ob2_el hf
    refine cV_V C hw (c_X4_put l E a_tp x6 x7 p4 x8 x9 z9) cs_X5_45 ⟨Nat.le_of_ble_eq_true rfl, Nat.le_of_ble_eq_true rfl⟩ ⟨rfl, rfl⟩ (ci := 4) (cn := (RX4, TX4, 2)) rfl (q0 := 1) rfl (wn := w_qt_tp_sh_pa_sc_dr_pl E a_qt a_tp a_sh a_pa a_sc a_dr a_pl x8 x9 sh_names sh_nameLengths sh_groups sh_types sh_flat sh_size pa_itemPlaces pa_waitingSigns pa_waitingPlaces pa_waiting pa_nested pa_fault sc_token sc_start sc_end sc_numberRead sc_escaped sc_bytesBehind dr_items dr_behindBy dr_steps dr_literalTypes dr_numbers dr_textStarts dr_textLengths dr_textBytes dr_itemCount dr_byCount dr_stepCount dr_literalCount dr_textEnd pl_items pl_behindBy pl_steps pl_literalTypes pl_numbers pl_textStarts pl_textLengths pl_textBytes pl_itemCount pl_byCount pl_stepCount pl_literalCount pl_textEnd) ⟨[1, 2], [0, 3, 4, 5, 6, 7, 8, 9, 10, 11, 12, 13, 14, 15, 16, 17, 18, 19, 20, 21, 22, 23, 24, 25, 26, 27, 28, 29, 30, 31], [0, 30, 31, 1, 2, 3, 4, 5, 6, 7, 8, 9, 10, 11, 12, 13, 14, 15, 16, 17, 18, 19, 20, 21, 22, 23, 24, 25, 26, 27, 28, 29], rfl, rfl, rfl, rfl, by decide, rfl, rfl⟩ rfl hl.1 rfl (Nat.le_of_ble_eq_true rfl) dX5_feed_42 ⟨Nat.zero_le _, Nat.zero_le _⟩ (fun H locs hw => ?_)
    refine lv_aload_n hx hb dX5_feed_45 rfl (lv_at hl 0 rfl) ?_
    refine fg_X5_12 C hw 0 rfl rfl dX5_feed_46 ?_
    refine lv_iload hx hb dX5_feed_49 (lv_at hl 5 rfl) ?_
    obtain ⟨x10, x11, z11, hf⟩ := ob2_el hf
    refine cV_V C hw (c_X4_put l E a_tp x8 x9 p5 x10 x11 z11) cs_X5_45 ⟨Nat.le_of_ble_eq_true rfl, Nat.le_of_ble_eq_true rfl⟩ ⟨rfl, rfl⟩ (ci := 4) (cn := (RX4, TX4, 2)) rfl (q0 := 1) rfl (wn := w_qt_tp_sh_pa_sc_dr_pl E a_qt a_tp a_sh a_pa a_sc a_dr a_pl x10 x11 sh_names sh_nameLengths sh_groups sh_types sh_flat sh_size pa_itemPlaces pa_waitingSigns pa_waitingPlaces pa_waiting pa_nested pa_fault sc_token sc_start sc_end sc_numberRead sc_escaped sc_bytesBehind dr_items dr_behindBy dr_steps dr_literalTypes dr_numbers dr_textStarts dr_textLengths dr_textBytes dr_itemCount dr_byCount dr_stepCount dr_literalCount dr_textEnd pl_items pl_behindBy pl_steps pl_literalTypes pl_numbers pl_textStarts pl_textLengths pl_textBytes pl_itemCount pl_byCount pl_stepCount pl_literalCount pl_textEnd) ⟨[1, 2], [0, 3, 4, 5, 6, 7, 8, 9, 10, 11, 12, 13, 14, 15, 16, 17, 18, 19, 20, 21, 22, 23, 24, 25, 26, 27, 28, 29, 30, 31], [0, 30, 31, 1, 2, 3, 4, 5, 6, 7, 8, 9, 10, 11, 12, 13, 14, 15, 16, 17, 18, 19, 20, 21, 22, 23, 24, 25, 26, 27, 28, 29], rfl, rfl, rfl, rfl, by decide, rfl, rfl⟩ rfl hl.1 rfl (Nat.le_of_ble_eq_true rfl) dX5_feed_51 ⟨Nat.zero_le _, Nat.zero_le _⟩ (fun H locs hw => ?_)
    refine lv_iconst (v := 1) hx hb dX5_feed_54 (by decide) ?_
    cases hf
    exact rt_z C hw (Or.inr rfl) dX5_feed_55
  · replace hf := it_t c7 hf
    refine lv_iconst (v := 0) hx hb dX5_feed_10 (by decide) ?_
    cases hf
    exact rt_z C hw (Or.inl rfl) dX5_feed_11
def f_X5_field (p1 : Int32) (p2 : Int32) (p3 : Int32) (p4 : Int32) (tp_bytes : Nat → Int32) (tp_size : Int32) (sh_names : Nat → Int32) (sh_nameLengths : Nat → Int32) (sh_groups : Nat → Int32) (sh_types : Nat → Int32) (sh_flat : Nat → Int32) (sh_size : Int32) (pl_itemCount : Int32) (pl_byCount : Int32) (pl_stepCount : Int32) (pl_literalCount : Int32) (pl_textEnd : Int32) : Option ((Int32) × (Int32) × (Nat → Int32) × (Nat → Int32) × (Nat → Int32) × (Nat → Int32) × (Nat → Int32) × (Int32) × (Int32) × (Int32) × (Int32) × (Int32) × (Int32)) :=
  ob2 (f_X4_cut p4 tp_size) (fun x1 x2 =>
  if x1 = (0 : Int32) then (some ((-2 : Int32), x2, sh_names, sh_nameLengths, sh_groups, sh_types, sh_flat, sh_size, pl_itemCount, pl_byCount, pl_stepCount, pl_literalCount, pl_textEnd))
  else (ob7 (f_X3_add p1 p2 p3 sh_names sh_nameLengths sh_groups sh_types sh_flat sh_size tp_bytes x2) (fun x3 x4 x5 x6 x7 x8 x9 =>
  ob1 (f_X4_clear x2) (fun x10 =>
  ob5 (f_X1_clear pl_itemCount pl_byCount pl_stepCount pl_literalCount pl_textEnd) (fun x11 x12 x13 x14 x15 =>
  some (x3, x10, x4, x5, x6, x7, x8, x9, x11, x12, x13, x14, x15))))))
set_option maxHeartbeats 4000000 in
set_option maxRecDepth 100000 in
theorem c_X5_field (l : Launch) (E : EnvT) (a_qt : Nat → Nat) (a_tp : Nat → Nat) (a_sh : Nat → Nat) (a_pa : Nat → Nat) (a_sc : Nat → Nat) (a_dr : Nat → Nat) (a_pl : Nat → Nat) (tp_bytes : Nat → Int32) (tp_size : Int32) (sh_names : Nat → Int32) (sh_nameLengths : Nat → Int32) (sh_groups : Nat → Int32) (sh_types : Nat → Int32) (sh_flat : Nat → Int32) (sh_size : Int32) (pa_itemPlaces : Nat → Int32) (pa_waitingSigns : Nat → Int32) (pa_waitingPlaces : Nat → Int32) (pa_waiting : Int32) (pa_nested : Int32) (pa_fault : Int32) (sc_token : Int32) (sc_start : Int32) (sc_end : Int32) (sc_numberRead : Int64) (sc_escaped : Int32) (sc_bytesBehind : Int32) (dr_items : Nat → Int32) (dr_behindBy : Nat → Int32) (dr_steps : Nat → Int32) (dr_literalTypes : Nat → Int32) (dr_numbers : Nat → Int64) (dr_textStarts : Nat → Int32) (dr_textLengths : Nat → Int32) (dr_textBytes : Nat → Int32) (dr_itemCount : Int32) (dr_byCount : Int32) (dr_stepCount : Int32) (dr_literalCount : Int32) (dr_textEnd : Int32) (pl_items : Nat → Int32) (pl_behindBy : Nat → Int32) (pl_steps : Nat → Int32) (pl_literalTypes : Nat → Int32) (pl_numbers : Nat → Int64) (pl_textStarts : Nat → Int32) (pl_textLengths : Nat → Int32) (pl_textBytes : Nat → Int32) (pl_itemCount : Int32) (pl_byCount : Int32) (pl_stepCount : Int32) (pl_literalCount : Int32) (pl_textEnd : Int32) (p1 : Int32) (p2 : Int32) (p3 : Int32) (p4 : Int32) (r : Int32) (o_tp_size : Int32) (o_sh_names : Nat → Int32) (o_sh_nameLengths : Nat → Int32) (o_sh_groups : Nat → Int32) (o_sh_types : Nat → Int32) (o_sh_flat : Nat → Int32) (o_sh_size : Int32) (o_pl_itemCount : Int32) (o_pl_byCount : Int32) (o_pl_stepCount : Int32) (o_pl_literalCount : Int32) (o_pl_textEnd : Int32) (hf : f_X5_field p1 p2 p3 p4 tp_bytes tp_size sh_names sh_nameLengths sh_groups sh_types sh_flat sh_size pl_itemCount pl_byCount pl_stepCount pl_literalCount pl_textEnd = some (r, o_tp_size, o_sh_names, o_sh_nameLengths, o_sh_groups, o_sh_types, o_sh_flat, o_sh_size, o_pl_itemCount, o_pl_byCount, o_pl_stepCount, o_pl_literalCount, o_pl_textEnd)) : CI l yX5_field (Cond.code yX5_field cX5_field 6 (some .int)) { frames := 4, cells := 0, slots := 0, locals := 92 } E [.ref (a_qt 0), .int p1, .int p2, .int p3, .int p4] (w_qt_tp_sh_pa_sc_dr_pl E a_qt a_tp a_sh a_pa a_sc a_dr a_pl tp_bytes tp_size sh_names sh_nameLengths sh_groups sh_types sh_flat sh_size pa_itemPlaces pa_waitingSigns pa_waitingPlaces pa_waiting pa_nested pa_fault sc_token sc_start sc_end sc_numberRead sc_escaped sc_bytesBehind dr_items dr_behindBy dr_steps dr_literalTypes dr_numbers dr_textStarts dr_textLengths dr_textBytes dr_itemCount dr_byCount dr_stepCount dr_literalCount dr_textEnd pl_items pl_behindBy pl_steps pl_literalTypes pl_numbers pl_textStarts pl_textLengths pl_textBytes pl_itemCount pl_byCount pl_stepCount pl_literalCount pl_textEnd) r (w_qt_tp_sh_pa_sc_dr_pl E a_qt a_tp a_sh a_pa a_sc a_dr a_pl tp_bytes o_tp_size o_sh_names o_sh_nameLengths o_sh_groups o_sh_types o_sh_flat o_sh_size pa_itemPlaces pa_waitingSigns pa_waitingPlaces pa_waiting pa_nested pa_fault sc_token sc_start sc_end sc_numberRead sc_escaped sc_bytesBehind dr_items dr_behindBy dr_steps dr_literalTypes dr_numbers dr_textStarts dr_textLengths dr_textBytes dr_itemCount dr_byCount dr_stepCount dr_literalCount dr_textEnd pl_items pl_behindBy pl_steps pl_literalTypes pl_numbers pl_textStarts pl_textLengths pl_textBytes o_pl_itemCount o_pl_byCount o_pl_stepCount o_pl_literalCount o_pl_textEnd) := by
  intro sz
  refine met_start [(0, .ref (a_qt 0)), (1, .int p1), (2, .int p2), (3, .int p3), (4, .int p4)] (by decide) rfl rfl (Nat.le_of_ble_eq_true rfl) rfl ?_
  intro p e s m below meth c ls C hnm hmt hw hl
  have hx := C.1
  have hb := C.2.1
  generalize va_A (w_qt_tp_sh_pa_sc_dr_pl E a_qt a_tp a_sh a_pa a_sc a_dr a_pl tp_bytes tp_size sh_names sh_nameLengths sh_groups sh_types sh_flat sh_size pa_itemPlaces pa_waitingSigns pa_waitingPlaces pa_waiting pa_nested pa_fault sc_token sc_start sc_end sc_numberRead sc_escaped sc_bytesBehind dr_items dr_behindBy dr_steps dr_literalTypes dr_numbers dr_textStarts dr_textLengths dr_textBytes dr_itemCount dr_byCount dr_stepCount dr_literalCount dr_textEnd pl_items pl_behindBy pl_steps pl_literalTypes pl_numbers pl_textStarts pl_textLengths pl_textBytes pl_itemCount pl_byCount pl_stepCount pl_literalCount pl_textEnd) sz = A at C hw ⊢
  unfold f_X5_field at hf
  refine lv_aload_n hx hb dX5_field_0 rfl (lv_at hl 0 rfl) ?_
  refine fg_X5_12 C hw 0 rfl rfl dX5_field_1 ?_
  refine lv_iload hx hb dX5_field_4 (lv_at hl 4 rfl) ?_
  obtain ⟨x1, x2, z2, hf⟩ := ob2_el hf
  refine cI_V C hw (c_X4_cut l E a_tp tp_bytes tp_size p4 x1 x2 z2) cs_X5_49 ⟨Nat.le_of_ble_eq_true rfl, Nat.le_of_ble_eq_true rfl⟩ ⟨rfl, rfl⟩ (ci := 4) (cn := (RX4, TX4, 2)) rfl (q0 := 1) rfl (wn := w_qt_tp_sh_pa_sc_dr_pl E a_qt a_tp a_sh a_pa a_sc a_dr a_pl tp_bytes x2 sh_names sh_nameLengths sh_groups sh_types sh_flat sh_size pa_itemPlaces pa_waitingSigns pa_waitingPlaces pa_waiting pa_nested pa_fault sc_token sc_start sc_end sc_numberRead sc_escaped sc_bytesBehind dr_items dr_behindBy dr_steps dr_literalTypes dr_numbers dr_textStarts dr_textLengths dr_textBytes dr_itemCount dr_byCount dr_stepCount dr_literalCount dr_textEnd pl_items pl_behindBy pl_steps pl_literalTypes pl_numbers pl_textStarts pl_textLengths pl_textBytes pl_itemCount pl_byCount pl_stepCount pl_literalCount pl_textEnd) ⟨[1, 2], [0, 3, 4, 5, 6, 7, 8, 9, 10, 11, 12, 13, 14, 15, 16, 17, 18, 19, 20, 21, 22, 23, 24, 25, 26, 27, 28, 29, 30, 31], [0, 30, 31, 1, 2, 3, 4, 5, 6, 7, 8, 9, 10, 11, 12, 13, 14, 15, 16, 17, 18, 19, 20, 21, 22, 23, 24, 25, 26, 27, 28, 29], rfl, rfl, rfl, rfl, by decide, rfl, rfl⟩ rfl hl.1 rfl (Nat.le_of_ble_eq_true rfl) dX5_field_6 ⟨Nat.zero_le _, Nat.zero_le _⟩ (fun H locs hw => ?_)
  refine lv_if_ne (tgt := 15) hx hb dX5_field_9 (by decide) (fun c9 => ?_) (fun c9 => ?_)
  · replace hf := it_f c9 hf
    refine lv_aload_n hx hb dX5_field_15 rfl (lv_at hl 0 rfl) ?_
    refine fg_X5_21 C hw 0 rfl rfl dX5_field_16 ?_
    refine lv_iload_n hx hb dX5_field_19 rfl (lv_at hl 1 rfl) ?_
    refine lv_iload_n hx hb dX5_field_20 rfl (lv_at hl 2 rfl) ?_
    refine lv_iload_n hx hb dX5_field_21 rfl (lv_at hl 3 rfl) ?_
    obtain ⟨x3, x4, x5, x6, x7, x8, x9, z9, hf⟩ := ob7_el hf
    refine cI_V C hw (c_X3_add l E a_sh a_tp sh_names sh_nameLengths sh_groups sh_types sh_flat sh_size tp_bytes x2 p1 p2 p3 x3 x4 x5 x6 x7 x8 x9 z9) cs_X5_53 ⟨Nat.le_of_ble_eq_true rfl, Nat.le_of_ble_eq_true rfl⟩ ⟨rfl, rfl⟩ (ci := 3) (cn := (RX3, TX3, 7)) rfl (q0 := 3) rfl (wn := w_qt_tp_sh_pa_sc_dr_pl E a_qt a_tp a_sh a_pa a_sc a_dr a_pl tp_bytes x2 x4 x5 x6 x7 x8 x9 pa_itemPlaces pa_waitingSigns pa_waitingPlaces pa_waiting pa_nested pa_fault sc_token sc_start sc_end sc_numberRead sc_escaped sc_bytesBehind dr_items dr_behindBy dr_steps dr_literalTypes dr_numbers dr_textStarts dr_textLengths dr_textBytes dr_itemCount dr_byCount dr_stepCount dr_literalCount dr_textEnd pl_items pl_behindBy pl_steps pl_literalTypes pl_numbers pl_textStarts pl_textLengths pl_textBytes pl_itemCount pl_byCount pl_stepCount pl_literalCount pl_textEnd) ⟨[3, 4, 5, 6, 7, 8, 1, 2], [0, 9, 10, 11, 12, 13, 14, 15, 16, 17, 18, 19, 20, 21, 22, 23, 24, 25, 26, 27, 28, 29, 30, 31], [0, 30, 31, 24, 25, 26, 27, 28, 29, 1, 2, 3, 4, 5, 6, 7, 8, 9, 10, 11, 12, 13, 14, 15, 16, 17, 18, 19, 20, 21, 22, 23], rfl, rfl, rfl, rfl, by decide, rfl, rfl⟩ rfl hl.1 rfl (Nat.le_of_ble_eq_true rfl) dX5_field_22 ⟨Nat.zero_le _, Nat.zero_le _⟩ (fun H locs hw => ?_)
    refine lv_istore (lv' := [(5, .int x3), (0, .ref (a_qt 0)), (1, .int p1), (2, .int p2), (3, .int p3), (4, .int p4)]) hx hb dX5_field_25 hl (by decide) rfl (fun ls hl => ?_)
    refine lv_aload_n hx hb dX5_field_27 rfl (lv_at hl 1 rfl) ?_
    refine fg_X5_12 C hw 0 rfl rfl dX5_field_28 ?_
    obtain ⟨x10, z10, hf⟩ := ob1_el hf
    refine cV_V C hw (c_X4_clear l E a_tp tp_bytes x2 x10 z10) cs_X5_57 ⟨Nat.le_of_ble_eq_true rfl, Nat.le_of_ble_eq_true rfl⟩ ⟨rfl, rfl⟩ (ci := 4) (cn := (RX4, TX4, 2)) rfl (q0 := 1) rfl (wn := w_qt_tp_sh_pa_sc_dr_pl E a_qt a_tp a_sh a_pa a_sc a_dr a_pl tp_bytes x10 x4 x5 x6 x7 x8 x9 pa_itemPlaces pa_waitingSigns pa_waitingPlaces pa_waiting pa_nested pa_fault sc_token sc_start sc_end sc_numberRead sc_escaped sc_bytesBehind dr_items dr_behindBy dr_steps dr_literalTypes dr_numbers dr_textStarts dr_textLengths dr_textBytes dr_itemCount dr_byCount dr_stepCount dr_literalCount dr_textEnd pl_items pl_behindBy pl_steps pl_literalTypes pl_numbers pl_textStarts pl_textLengths pl_textBytes pl_itemCount pl_byCount pl_stepCount pl_literalCount pl_textEnd) ⟨[1, 2], [0, 3, 4, 5, 6, 7, 8, 9, 10, 11, 12, 13, 14, 15, 16, 17, 18, 19, 20, 21, 22, 23, 24, 25, 26, 27, 28, 29, 30, 31], [0, 30, 31, 1, 2, 3, 4, 5, 6, 7, 8, 9, 10, 11, 12, 13, 14, 15, 16, 17, 18, 19, 20, 21, 22, 23, 24, 25, 26, 27, 28, 29], rfl, rfl, rfl, rfl, by decide, rfl, rfl⟩ rfl hl.1 rfl (Nat.le_of_ble_eq_true rfl) dX5_field_31 ⟨Nat.zero_le _, Nat.zero_le _⟩ (fun H locs hw => ?_)
    refine lv_aload_n hx hb dX5_field_34 rfl (lv_at hl 1 rfl) ?_
    refine fg_X5_37 C hw 0 rfl rfl dX5_field_35 ?_
    obtain ⟨x11, x12, x13, x14, x15, z15, hf⟩ := ob5_el hf
    refine cV_V C hw (c_X1_clear l E a_pl pl_items pl_behindBy pl_steps pl_literalTypes pl_numbers pl_textStarts pl_textLengths pl_textBytes pl_itemCount pl_byCount pl_stepCount pl_literalCount pl_textEnd x11 x12 x13 x14 x15 z15) cs_X5_60 ⟨Nat.le_of_ble_eq_true rfl, Nat.le_of_ble_eq_true rfl⟩ ⟨rfl, rfl⟩ (ci := 1) (cn := (RX1, TX1, 13)) rfl (q0 := 23) rfl (wn := w_qt_tp_sh_pa_sc_dr_pl E a_qt a_tp a_sh a_pa a_sc a_dr a_pl tp_bytes x10 x4 x5 x6 x7 x8 x9 pa_itemPlaces pa_waitingSigns pa_waitingPlaces pa_waiting pa_nested pa_fault sc_token sc_start sc_end sc_numberRead sc_escaped sc_bytesBehind dr_items dr_behindBy dr_steps dr_literalTypes dr_numbers dr_textStarts dr_textLengths dr_textBytes dr_itemCount dr_byCount dr_stepCount dr_literalCount dr_textEnd pl_items pl_behindBy pl_steps pl_literalTypes pl_numbers pl_textStarts pl_textLengths pl_textBytes x11 x12 x13 x14 x15) ⟨[23, 24, 25, 26, 27, 28, 29, 30, 31], [0, 1, 2, 3, 4, 5, 6, 7, 8, 9, 10, 11, 12, 13, 14, 15, 16, 17, 18, 19, 20, 21, 22], [0, 1, 2, 3, 4, 5, 6, 7, 8, 9, 10, 11, 12, 13, 14, 15, 16, 17, 18, 19, 20, 21, 22, 23, 24, 25, 26, 27, 28, 29, 30, 31], rfl, rfl, rfl, rfl, by decide, rfl, rfl⟩ rfl hl.1 rfl (Nat.le_of_ble_eq_true rfl) dX5_field_38 ⟨Nat.zero_le _, Nat.zero_le _⟩ (fun H locs hw => ?_)
    refine lv_iload hx hb dX5_field_41 (lv_at hl 0 rfl) ?_
    cases hf
    exact rt_i C hw dX5_field_43
  · replace hf := it_t c9 hf
    refine lv_bipush (v := -2) hx hb dX5_field_12 (by decide) ?_
    cases hf
    exact rt_i C hw dX5_field_14
def f_X5_query_58 (tp_size : Int32) (pa_itemPlaces : Nat → Int32) (pa_waitingSigns : Nat → Int32) (pa_waitingPlaces : Nat → Int32) (pa_waiting : Int32) (pa_nested : Int32) (pa_fault : Int32) (sc_token : Int32) (sc_start : Int32) (sc_end : Int32) (sc_numberRead : Int64) (sc_escaped : Int32) (sc_bytesBehind : Int32) (dr_items : Nat → Int32) (dr_behindBy : Nat → Int32) (dr_steps : Nat → Int32) (dr_literalTypes : Nat → Int32) (dr_numbers : Nat → Int64) (dr_textStarts : Nat → Int32) (dr_textLengths : Nat → Int32) (dr_textBytes : Nat → Int32) (dr_itemCount : Int32) (dr_byCount : Int32) (dr_stepCount : Int32) (dr_literalCount : Int32) (dr_textEnd : Int32) (pl_items : Nat → Int32) (pl_behindBy : Nat → Int32) (pl_steps : Nat → Int32) (pl_literalTypes : Nat → Int32) (pl_numbers : Nat → Int64) (pl_textStarts : Nat → Int32) (pl_textLengths : Nat → Int32) (pl_textBytes : Nat → Int32) (pl_itemCount : Int32) (pl_byCount : Int32) (pl_stepCount : Int32) (pl_literalCount : Int32) (pl_textEnd : Int32) : Option ((Int32) × (Int32) × (Nat → Int32) × (Nat → Int32) × (Nat → Int32) × (Int32) × (Int32) × (Int32) × (Int32) × (Int32) × (Int32) × (Int64) × (Int32) × (Int32) × (Nat → Int32) × (Nat → Int32) × (Nat → Int32) × (Nat → Int32) × (Nat → Int64) × (Nat → Int32) × (Nat → Int32) × (Nat → Int32) × (Int32) × (Int32) × (Int32) × (Int32) × (Int32) × (Nat → Int32) × (Nat → Int32) × (Nat → Int32) × (Nat → Int32) × (Nat → Int64) × (Nat → Int32) × (Nat → Int32) × (Nat → Int32) × (Int32) × (Int32) × (Int32) × (Int32) × (Int32)) :=
  ob1 (f_X4_clear tp_size) (fun x1 =>
  if pa_fault = (-1 : Int32) then (ob13 (f_X1_copy pl_items pl_behindBy pl_steps pl_literalTypes pl_numbers pl_textStarts pl_textLengths pl_textBytes pl_itemCount pl_byCount pl_stepCount pl_literalCount pl_textEnd dr_items dr_behindBy dr_steps dr_literalTypes dr_numbers dr_textStarts dr_textLengths dr_textBytes dr_itemCount dr_byCount dr_stepCount dr_literalCount dr_textEnd) (fun x2 x3 x4 x5 x6 x7 x8 x9 x10 x11 x12 x13 x14 =>
  some (pa_fault, x1, pa_itemPlaces, pa_waitingSigns, pa_waitingPlaces, pa_waiting, pa_nested, pa_fault, sc_token, sc_start, sc_end, sc_numberRead, sc_escaped, sc_bytesBehind, dr_items, dr_behindBy, dr_steps, dr_literalTypes, dr_numbers, dr_textStarts, dr_textLengths, dr_textBytes, dr_itemCount, dr_byCount, dr_stepCount, dr_literalCount, dr_textEnd, x2, x3, x4, x5, x6, x7, x8, x9, x10, x11, x12, x13, x14)))
  else (some (pa_fault, x1, pa_itemPlaces, pa_waitingSigns, pa_waitingPlaces, pa_waiting, pa_nested, pa_fault, sc_token, sc_start, sc_end, sc_numberRead, sc_escaped, sc_bytesBehind, dr_items, dr_behindBy, dr_steps, dr_literalTypes, dr_numbers, dr_textStarts, dr_textLengths, dr_textBytes, dr_itemCount, dr_byCount, dr_stepCount, dr_literalCount, dr_textEnd, pl_items, pl_behindBy, pl_steps, pl_literalTypes, pl_numbers, pl_textStarts, pl_textLengths, pl_textBytes, pl_itemCount, pl_byCount, pl_stepCount, pl_literalCount, pl_textEnd)))
set_option maxHeartbeats 4000000 in
set_option maxRecDepth 100000 in
theorem w_X5_query_58 {p : Program} {l : Launch} {e : Env} {s : State} {m : MethodId} {args : Array Value} {below : List Frame} {meth : Method} {c : Code} {E : EnvT} {A : Nat → Prop} {a_qt : Nat → Nat} {a_tp : Nat → Nat} {a_sh : Nat → Nat} {a_pa : Nat → Nat} {a_sc : Nat → Nat} {a_dr : Nat → Nat} {a_pl : Nat → Nat} {tp_bytes : Nat → Int32} {sh_names : Nat → Int32} {sh_nameLengths : Nat → Int32} {sh_groups : Nat → Int32} {sh_types : Nat → Int32} {sh_flat : Nat → Int32} {sh_size : Int32} {r : Int32} {o_tp_size : Int32} {o_pa_itemPlaces : Nat → Int32} {o_pa_waitingSigns : Nat → Int32} {o_pa_waitingPlaces : Nat → Int32} {o_pa_waiting : Int32} {o_pa_nested : Int32} {o_pa_fault : Int32} {o_sc_token : Int32} {o_sc_start : Int32} {o_sc_end : Int32} {o_sc_numberRead : Int64} {o_sc_escaped : Int32} {o_sc_bytesBehind : Int32} {o_dr_items : Nat → Int32} {o_dr_behindBy : Nat → Int32} {o_dr_steps : Nat → Int32} {o_dr_literalTypes : Nat → Int32} {o_dr_numbers : Nat → Int64} {o_dr_textStarts : Nat → Int32} {o_dr_textLengths : Nat → Int32} {o_dr_textBytes : Nat → Int32} {o_dr_itemCount : Int32} {o_dr_byCount : Int32} {o_dr_stepCount : Int32} {o_dr_literalCount : Int32} {o_dr_textEnd : Int32} {o_pl_items : Nat → Int32} {o_pl_behindBy : Nat → Int32} {o_pl_steps : Nat → Int32} {o_pl_literalTypes : Nat → Int32} {o_pl_numbers : Nat → Int64} {o_pl_textStarts : Nat → Int32} {o_pl_textLengths : Nat → Int32} {o_pl_textBytes : Nat → Int32} {o_pl_itemCount : Int32} {o_pl_byCount : Int32} {o_pl_stepCount : Int32} {o_pl_literalCount : Int32} {o_pl_textEnd : Int32} {tp_size : Int32} {pa_itemPlaces : Nat → Int32} {pa_waitingSigns : Nat → Int32} {pa_waitingPlaces : Nat → Int32} {pa_waiting : Int32} {pa_nested : Int32} {pa_fault : Int32} {sc_token : Int32} {sc_start : Int32} {sc_end : Int32} {sc_numberRead : Int64} {sc_escaped : Int32} {sc_bytesBehind : Int32} {dr_items : Nat → Int32} {dr_behindBy : Nat → Int32} {dr_steps : Nat → Int32} {dr_literalTypes : Nat → Int32} {dr_numbers : Nat → Int64} {dr_textStarts : Nat → Int32} {dr_textLengths : Nat → Int32} {dr_textBytes : Nat → Int32} {dr_itemCount : Int32} {dr_byCount : Int32} {dr_stepCount : Int32} {dr_literalCount : Int32} {dr_textEnd : Int32} {pl_items : Nat → Int32} {pl_behindBy : Nat → Int32} {pl_steps : Nat → Int32} {pl_literalTypes : Nat → Int32} {pl_numbers : Nat → Int64} {pl_textStarts : Nat → Int32} {pl_textLengths : Nat → Int32} {pl_textBytes : Nat → Int32} {pl_itemCount : Int32} {pl_byCount : Int32} {pl_stepCount : Int32} {pl_literalCount : Int32} {pl_textEnd : Int32} {H : Heap} {locs : List Loc} {ls : Array Slot} (C : MC p s m args meth c E A cX5_query 2 RX5 (some .int)) (hw : WS E A s (w_qt_tp_sh_pa_sc_dr_pl E a_qt a_tp a_sh a_pa a_sc a_dr a_pl tp_bytes tp_size sh_names sh_nameLengths sh_groups sh_types sh_flat sh_size pa_itemPlaces pa_waitingSigns pa_waitingPlaces pa_waiting pa_nested pa_fault sc_token sc_start sc_end sc_numberRead sc_escaped sc_bytesBehind dr_items dr_behindBy dr_steps dr_literalTypes dr_numbers dr_textStarts dr_textLengths dr_textBytes dr_itemCount dr_byCount dr_stepCount dr_literalCount dr_textEnd pl_items pl_behindBy pl_steps pl_literalTypes pl_numbers pl_textStarts pl_textLengths pl_textBytes pl_itemCount pl_byCount pl_stepCount pl_literalCount pl_textEnd) H locs) (hl : lv_has ls 2 [(0, .ref (a_qt 0))]) (hf : f_X5_query_58 tp_size pa_itemPlaces pa_waitingSigns pa_waitingPlaces pa_waiting pa_nested pa_fault sc_token sc_start sc_end sc_numberRead sc_escaped sc_bytesBehind dr_items dr_behindBy dr_steps dr_literalTypes dr_numbers dr_textStarts dr_textLengths dr_textBytes dr_itemCount dr_byCount dr_stepCount dr_literalCount dr_textEnd pl_items pl_behindBy pl_steps pl_literalTypes pl_numbers pl_textStarts pl_textLengths pl_textBytes pl_itemCount pl_byCount pl_stepCount pl_literalCount pl_textEnd = some (r, o_tp_size, o_pa_itemPlaces, o_pa_waitingSigns, o_pa_waitingPlaces, o_pa_waiting, o_pa_nested, o_pa_fault, o_sc_token, o_sc_start, o_sc_end, o_sc_numberRead, o_sc_escaped, o_sc_bytesBehind, o_dr_items, o_dr_behindBy, o_dr_steps, o_dr_literalTypes, o_dr_numbers, o_dr_textStarts, o_dr_textLengths, o_dr_textBytes, o_dr_itemCount, o_dr_byCount, o_dr_stepCount, o_dr_literalCount, o_dr_textEnd, o_pl_items, o_pl_behindBy, o_pl_steps, o_pl_literalTypes, o_pl_numbers, o_pl_textStarts, o_pl_textLengths, o_pl_textBytes, o_pl_itemCount, o_pl_byCount, o_pl_stepCount, o_pl_literalCount, o_pl_textEnd)) : W p l e { frames := 10, cells := 0, slots := 0, locals := 228 } s m args below meth c H locs 0 0 (MQ below (QcI E A (w_qt_tp_sh_pa_sc_dr_pl E a_qt a_tp a_sh a_pa a_sc a_dr a_pl tp_bytes o_tp_size sh_names sh_nameLengths sh_groups sh_types sh_flat sh_size o_pa_itemPlaces o_pa_waitingSigns o_pa_waitingPlaces o_pa_waiting o_pa_nested o_pa_fault o_sc_token o_sc_start o_sc_end o_sc_numberRead o_sc_escaped o_sc_bytesBehind o_dr_items o_dr_behindBy o_dr_steps o_dr_literalTypes o_dr_numbers o_dr_textStarts o_dr_textLengths o_dr_textBytes o_dr_itemCount o_dr_byCount o_dr_stepCount o_dr_literalCount o_dr_textEnd o_pl_items o_pl_behindBy o_pl_steps o_pl_literalTypes o_pl_numbers o_pl_textStarts o_pl_textLengths o_pl_textBytes o_pl_itemCount o_pl_byCount o_pl_stepCount o_pl_literalCount o_pl_textEnd) r) args s 0 0 A) (F0 m 58 ls []) := by
  have hx := C.1
  have hb := C.2.1
  unfold f_X5_query_58 at hf
  refine lv_aload_n hx hb dX5_query_58 rfl (lv_at hl 0 rfl) ?_
  refine fg_X5_12 C hw 0 rfl rfl dX5_query_59 ?_
  obtain ⟨x1, z1, hf⟩ := ob1_el hf
  refine cV_V C hw (c_X4_clear l E a_tp tp_bytes tp_size x1 z1) cs_X5_57 ⟨Nat.le_of_ble_eq_true rfl, Nat.le_of_ble_eq_true rfl⟩ ⟨rfl, rfl⟩ (ci := 4) (cn := (RX4, TX4, 2)) rfl (q0 := 1) rfl (wn := w_qt_tp_sh_pa_sc_dr_pl E a_qt a_tp a_sh a_pa a_sc a_dr a_pl tp_bytes x1 sh_names sh_nameLengths sh_groups sh_types sh_flat sh_size pa_itemPlaces pa_waitingSigns pa_waitingPlaces pa_waiting pa_nested pa_fault sc_token sc_start sc_end sc_numberRead sc_escaped sc_bytesBehind dr_items dr_behindBy dr_steps dr_literalTypes dr_numbers dr_textStarts dr_textLengths dr_textBytes dr_itemCount dr_byCount dr_stepCount dr_literalCount dr_textEnd pl_items pl_behindBy pl_steps pl_literalTypes pl_numbers pl_textStarts pl_textLengths pl_textBytes pl_itemCount pl_byCount pl_stepCount pl_literalCount pl_textEnd) ⟨[1, 2], [0, 3, 4, 5, 6, 7, 8, 9, 10, 11, 12, 13, 14, 15, 16, 17, 18, 19, 20, 21, 22, 23, 24, 25, 26, 27, 28, 29, 30, 31], [0, 30, 31, 1, 2, 3, 4, 5, 6, 7, 8, 9, 10, 11, 12, 13, 14, 15, 16, 17, 18, 19, 20, 21, 22, 23, 24, 25, 26, 27, 28, 29], rfl, rfl, rfl, rfl, by decide, rfl, rfl⟩ rfl hl.1 rfl (Nat.le_of_ble_eq_true rfl) dX5_query_62 ⟨Nat.zero_le _, Nat.zero_le _⟩ (fun H locs hw => ?_)
  refine lv_aload_n hx hb dX5_query_65 rfl (lv_at hl 0 rfl) ?_
  refine fg_X5_30 C hw 0 rfl rfl dX5_query_66 ?_
  refine fg_X5_76 C hw 9 rfl rfl dX5_query_69 ?_
  refine lv_iconst (v := -1) hx hb dX5_query_72 (by decide) ?_
  refine lv_icmp_ne (tgt := 90) hx hb dX5_query_73 (by decide) (fun c73 => ?_) (fun c73 => ?_)
  · replace hf := it_f c73 hf
    refine lv_aload_n hx hb dX5_query_90 rfl (lv_at hl 0 rfl) ?_
    refine fg_X5_30 C hw 0 rfl rfl dX5_query_91 ?_
    refine fg_X5_76 C hw 9 rfl rfl dX5_query_94 ?_
    cases hf
    exact rt_i C hw dX5_query_97
  · replace hf := it_t c73 hf
    refine lv_aload_n hx hb dX5_query_76 rfl (lv_at hl 0 rfl) ?_
    refine fg_X5_37 C hw 0 rfl rfl dX5_query_77 ?_
    refine lv_aload_n hx hb dX5_query_80 rfl (lv_at hl 0 rfl) ?_
    refine fg_X5_30 C hw 0 rfl rfl dX5_query_81 ?_
    refine fg_X5_80 C hw 9 rfl rfl dX5_query_84 ?_
    obtain ⟨x2, x3, x4, x5, x6, x7, x8, x9, x10, x11, x12, x13, x14, z14, hf⟩ := ob13_el hf
    refine cV_V C hw (c_X1_copy l E a_pl a_dr pl_items pl_behindBy pl_steps pl_literalTypes pl_numbers pl_textStarts pl_textLengths pl_textBytes pl_itemCount pl_byCount pl_stepCount pl_literalCount pl_textEnd dr_items dr_behindBy dr_steps dr_literalTypes dr_numbers dr_textStarts dr_textLengths dr_textBytes dr_itemCount dr_byCount dr_stepCount dr_literalCount dr_textEnd x2 x3 x4 x5 x6 x7 x8 x9 x10 x11 x12 x13 x14 z14) cs_X5_83 ⟨Nat.le_of_ble_eq_true rfl, Nat.le_of_ble_eq_true rfl⟩ ⟨rfl, rfl⟩ (ci := 1) (cn := (RX1, TX1, 13)) rfl (q0 := 23) rfl (wn := w_qt_tp_sh_pa_sc_dr_pl E a_qt a_tp a_sh a_pa a_sc a_dr a_pl tp_bytes x1 sh_names sh_nameLengths sh_groups sh_types sh_flat sh_size pa_itemPlaces pa_waitingSigns pa_waitingPlaces pa_waiting pa_nested pa_fault sc_token sc_start sc_end sc_numberRead sc_escaped sc_bytesBehind dr_items dr_behindBy dr_steps dr_literalTypes dr_numbers dr_textStarts dr_textLengths dr_textBytes dr_itemCount dr_byCount dr_stepCount dr_literalCount dr_textEnd x2 x3 x4 x5 x6 x7 x8 x9 x10 x11 x12 x13 x14) ⟨[23, 24, 25, 26, 27, 28, 29, 30, 31, 14, 15, 16, 17, 18, 19, 20, 21, 22], [0, 1, 2, 3, 4, 5, 6, 7, 8, 9, 10, 11, 12, 13], [0, 1, 2, 3, 4, 5, 6, 7, 8, 9, 10, 11, 12, 13, 23, 24, 25, 26, 27, 28, 29, 30, 31, 14, 15, 16, 17, 18, 19, 20, 21, 22], rfl, rfl, rfl, rfl, by decide, rfl, rfl⟩ rfl hl.1 rfl (Nat.le_of_ble_eq_true rfl) dX5_query_87 ⟨Nat.zero_le _, Nat.zero_le _⟩ (fun H locs hw => ?_)
    refine lv_aload_n hx hb dX5_query_90 rfl (lv_at hl 0 rfl) ?_
    refine fg_X5_30 C hw 0 rfl rfl dX5_query_91 ?_
    refine fg_X5_76 C hw 9 rfl rfl dX5_query_94 ?_
    cases hf
    exact rt_i C hw dX5_query_97
def f_X5_query (p1 : Int32) (tp_bytes : Nat → Int32) (tp_size : Int32) (sh_names : Nat → Int32) (sh_nameLengths : Nat → Int32) (sh_groups : Nat → Int32) (sh_types : Nat → Int32) (sh_flat : Nat → Int32) (sh_size : Int32) (pa_itemPlaces : Nat → Int32) (pa_waitingSigns : Nat → Int32) (pa_waitingPlaces : Nat → Int32) (pa_waiting : Int32) (pa_nested : Int32) (pa_fault : Int32) (sc_token : Int32) (sc_start : Int32) (sc_end : Int32) (sc_numberRead : Int64) (sc_escaped : Int32) (sc_bytesBehind : Int32) (dr_items : Nat → Int32) (dr_behindBy : Nat → Int32) (dr_steps : Nat → Int32) (dr_literalTypes : Nat → Int32) (dr_numbers : Nat → Int64) (dr_textStarts : Nat → Int32) (dr_textLengths : Nat → Int32) (dr_textBytes : Nat → Int32) (dr_itemCount : Int32) (dr_byCount : Int32) (dr_stepCount : Int32) (dr_literalCount : Int32) (dr_textEnd : Int32) (pl_items : Nat → Int32) (pl_behindBy : Nat → Int32) (pl_steps : Nat → Int32) (pl_literalTypes : Nat → Int32) (pl_numbers : Nat → Int64) (pl_textStarts : Nat → Int32) (pl_textLengths : Nat → Int32) (pl_textBytes : Nat → Int32) (pl_itemCount : Int32) (pl_byCount : Int32) (pl_stepCount : Int32) (pl_literalCount : Int32) (pl_textEnd : Int32) : Option ((Int32) × (Int32) × (Nat → Int32) × (Nat → Int32) × (Nat → Int32) × (Int32) × (Int32) × (Int32) × (Int32) × (Int32) × (Int32) × (Int64) × (Int32) × (Int32) × (Nat → Int32) × (Nat → Int32) × (Nat → Int32) × (Nat → Int32) × (Nat → Int64) × (Nat → Int32) × (Nat → Int32) × (Nat → Int32) × (Int32) × (Int32) × (Int32) × (Int32) × (Int32) × (Nat → Int32) × (Nat → Int32) × (Nat → Int32) × (Nat → Int32) × (Nat → Int64) × (Nat → Int32) × (Nat → Int32) × (Nat → Int32) × (Int32) × (Int32) × (Int32) × (Int32) × (Int32)) :=
  ob2 (f_X4_cut p1 tp_size) (fun x1 x2 =>
  if x1 = (0 : Int32) then (some ((-2 : Int32), x2, pa_itemPlaces, pa_waitingSigns, pa_waitingPlaces, pa_waiting, pa_nested, pa_fault, sc_token, sc_start, sc_end, sc_numberRead, sc_escaped, sc_bytesBehind, dr_items, dr_behindBy, dr_steps, dr_literalTypes, dr_numbers, dr_textStarts, dr_textLengths, dr_textBytes, dr_itemCount, dr_byCount, dr_stepCount, dr_literalCount, dr_textEnd, pl_items, pl_behindBy, pl_steps, pl_literalTypes, pl_numbers, pl_textStarts, pl_textLengths, pl_textBytes, pl_itemCount, pl_byCount, pl_stepCount, pl_literalCount, pl_textEnd))
  else (ob9 (f_X0_begin pa_fault sc_token sc_start sc_end dr_itemCount dr_byCount dr_stepCount dr_literalCount dr_textEnd tp_bytes x2) (fun x3 x4 x5 x6 x7 x8 x9 x10 x11 =>
  ob8 (f_X0_readItems pa_itemPlaces x3 x4 x5 x6 sh_names sh_nameLengths sh_groups sh_types sh_flat sh_size dr_items x7 tp_bytes x2) (fun x12 x13 x14 x15 x16 x17 x18 x19 =>
  if x12 = (0 : Int32) then (f_X5_query_58 x2 x13 pa_waitingSigns pa_waitingPlaces pa_waiting pa_nested x14 x15 x16 x17 sc_numberRead sc_escaped sc_bytesBehind x18 dr_behindBy dr_steps dr_literalTypes dr_numbers dr_textStarts dr_textLengths dr_textBytes x19 x8 x9 x10 x11 pl_items pl_behindBy pl_steps pl_literalTypes pl_numbers pl_textStarts pl_textLengths pl_textBytes pl_itemCount pl_byCount pl_stepCount pl_literalCount pl_textEnd)
  else (ob21 (f_X0_readWhere pa_waitingSigns pa_waitingPlaces pa_waiting pa_nested x14 x15 x16 x17 sc_numberRead sc_escaped sc_bytesBehind sh_names sh_nameLengths sh_groups sh_types sh_flat sh_size dr_steps dr_literalTypes dr_numbers dr_textStarts dr_textLengths dr_textBytes x9 x10 x11 tp_bytes x2) (fun x20 x21 x22 x23 x24 x25 x26 x27 x28 x29 x30 x31 x32 x33 x34 x35 x36 x37 x38 x39 x40 =>
  if x20 = (0 : Int32) then (f_X5_query_58 x2 x13 x21 x22 x23 x24 x25 x26 x27 x28 x29 x30 x31 x18 dr_behindBy x32 x33 x34 x35 x36 x37 x19 x8 x38 x39 x40 pl_items pl_behindBy pl_steps pl_literalTypes pl_numbers pl_textStarts pl_textLengths pl_textBytes pl_itemCount pl_byCount pl_stepCount pl_literalCount pl_textEnd)
  else (ob7 (f_X0_readGroup x25 x26 x27 x28 sh_names sh_nameLengths sh_groups sh_types sh_flat sh_size dr_behindBy x8 tp_bytes x2) (fun x41 x42 x43 x44 x45 x46 x47 =>
  if x41 = (0 : Int32) then (f_X5_query_58 x2 x13 x21 x22 x23 x24 x42 x43 x44 x45 x29 x30 x31 x18 x46 x32 x33 x34 x35 x36 x37 x19 x47 x38 x39 x40 pl_items pl_behindBy pl_steps pl_literalTypes pl_numbers pl_textStarts pl_textLengths pl_textBytes pl_itemCount pl_byCount pl_stepCount pl_literalCount pl_textEnd)
  else (ob1 (f_X0_checkItems x13 x42 x18 x46 x19 x47) (fun x48 =>
  f_X5_query_58 x2 x13 x21 x22 x23 x24 x48 x43 x44 x45 x29 x30 x31 x18 x46 x32 x33 x34 x35 x36 x37 x19 x47 x38 x39 x40 pl_items pl_behindBy pl_steps pl_literalTypes pl_numbers pl_textStarts pl_textLengths pl_textBytes pl_itemCount pl_byCount pl_stepCount pl_literalCount pl_textEnd))))))))))
set_option maxHeartbeats 4000000 in
set_option maxRecDepth 100000 in
theorem c_X5_query (l : Launch) (E : EnvT) (a_qt : Nat → Nat) (a_tp : Nat → Nat) (a_sh : Nat → Nat) (a_pa : Nat → Nat) (a_sc : Nat → Nat) (a_dr : Nat → Nat) (a_pl : Nat → Nat) (tp_bytes : Nat → Int32) (tp_size : Int32) (sh_names : Nat → Int32) (sh_nameLengths : Nat → Int32) (sh_groups : Nat → Int32) (sh_types : Nat → Int32) (sh_flat : Nat → Int32) (sh_size : Int32) (pa_itemPlaces : Nat → Int32) (pa_waitingSigns : Nat → Int32) (pa_waitingPlaces : Nat → Int32) (pa_waiting : Int32) (pa_nested : Int32) (pa_fault : Int32) (sc_token : Int32) (sc_start : Int32) (sc_end : Int32) (sc_numberRead : Int64) (sc_escaped : Int32) (sc_bytesBehind : Int32) (dr_items : Nat → Int32) (dr_behindBy : Nat → Int32) (dr_steps : Nat → Int32) (dr_literalTypes : Nat → Int32) (dr_numbers : Nat → Int64) (dr_textStarts : Nat → Int32) (dr_textLengths : Nat → Int32) (dr_textBytes : Nat → Int32) (dr_itemCount : Int32) (dr_byCount : Int32) (dr_stepCount : Int32) (dr_literalCount : Int32) (dr_textEnd : Int32) (pl_items : Nat → Int32) (pl_behindBy : Nat → Int32) (pl_steps : Nat → Int32) (pl_literalTypes : Nat → Int32) (pl_numbers : Nat → Int64) (pl_textStarts : Nat → Int32) (pl_textLengths : Nat → Int32) (pl_textBytes : Nat → Int32) (pl_itemCount : Int32) (pl_byCount : Int32) (pl_stepCount : Int32) (pl_literalCount : Int32) (pl_textEnd : Int32) (p1 : Int32) (r : Int32) (o_tp_size : Int32) (o_pa_itemPlaces : Nat → Int32) (o_pa_waitingSigns : Nat → Int32) (o_pa_waitingPlaces : Nat → Int32) (o_pa_waiting : Int32) (o_pa_nested : Int32) (o_pa_fault : Int32) (o_sc_token : Int32) (o_sc_start : Int32) (o_sc_end : Int32) (o_sc_numberRead : Int64) (o_sc_escaped : Int32) (o_sc_bytesBehind : Int32) (o_dr_items : Nat → Int32) (o_dr_behindBy : Nat → Int32) (o_dr_steps : Nat → Int32) (o_dr_literalTypes : Nat → Int32) (o_dr_numbers : Nat → Int64) (o_dr_textStarts : Nat → Int32) (o_dr_textLengths : Nat → Int32) (o_dr_textBytes : Nat → Int32) (o_dr_itemCount : Int32) (o_dr_byCount : Int32) (o_dr_stepCount : Int32) (o_dr_literalCount : Int32) (o_dr_textEnd : Int32) (o_pl_items : Nat → Int32) (o_pl_behindBy : Nat → Int32) (o_pl_steps : Nat → Int32) (o_pl_literalTypes : Nat → Int32) (o_pl_numbers : Nat → Int64) (o_pl_textStarts : Nat → Int32) (o_pl_textLengths : Nat → Int32) (o_pl_textBytes : Nat → Int32) (o_pl_itemCount : Int32) (o_pl_byCount : Int32) (o_pl_stepCount : Int32) (o_pl_literalCount : Int32) (o_pl_textEnd : Int32) (hf : f_X5_query p1 tp_bytes tp_size sh_names sh_nameLengths sh_groups sh_types sh_flat sh_size pa_itemPlaces pa_waitingSigns pa_waitingPlaces pa_waiting pa_nested pa_fault sc_token sc_start sc_end sc_numberRead sc_escaped sc_bytesBehind dr_items dr_behindBy dr_steps dr_literalTypes dr_numbers dr_textStarts dr_textLengths dr_textBytes dr_itemCount dr_byCount dr_stepCount dr_literalCount dr_textEnd pl_items pl_behindBy pl_steps pl_literalTypes pl_numbers pl_textStarts pl_textLengths pl_textBytes pl_itemCount pl_byCount pl_stepCount pl_literalCount pl_textEnd = some (r, o_tp_size, o_pa_itemPlaces, o_pa_waitingSigns, o_pa_waitingPlaces, o_pa_waiting, o_pa_nested, o_pa_fault, o_sc_token, o_sc_start, o_sc_end, o_sc_numberRead, o_sc_escaped, o_sc_bytesBehind, o_dr_items, o_dr_behindBy, o_dr_steps, o_dr_literalTypes, o_dr_numbers, o_dr_textStarts, o_dr_textLengths, o_dr_textBytes, o_dr_itemCount, o_dr_byCount, o_dr_stepCount, o_dr_literalCount, o_dr_textEnd, o_pl_items, o_pl_behindBy, o_pl_steps, o_pl_literalTypes, o_pl_numbers, o_pl_textStarts, o_pl_textLengths, o_pl_textBytes, o_pl_itemCount, o_pl_byCount, o_pl_stepCount, o_pl_literalCount, o_pl_textEnd)) : CI l yX5_query (Cond.code yX5_query cX5_query 2 (some .int)) { frames := 10, cells := 0, slots := 0, locals := 228 } E [.ref (a_qt 0), .int p1] (w_qt_tp_sh_pa_sc_dr_pl E a_qt a_tp a_sh a_pa a_sc a_dr a_pl tp_bytes tp_size sh_names sh_nameLengths sh_groups sh_types sh_flat sh_size pa_itemPlaces pa_waitingSigns pa_waitingPlaces pa_waiting pa_nested pa_fault sc_token sc_start sc_end sc_numberRead sc_escaped sc_bytesBehind dr_items dr_behindBy dr_steps dr_literalTypes dr_numbers dr_textStarts dr_textLengths dr_textBytes dr_itemCount dr_byCount dr_stepCount dr_literalCount dr_textEnd pl_items pl_behindBy pl_steps pl_literalTypes pl_numbers pl_textStarts pl_textLengths pl_textBytes pl_itemCount pl_byCount pl_stepCount pl_literalCount pl_textEnd) r (w_qt_tp_sh_pa_sc_dr_pl E a_qt a_tp a_sh a_pa a_sc a_dr a_pl tp_bytes o_tp_size sh_names sh_nameLengths sh_groups sh_types sh_flat sh_size o_pa_itemPlaces o_pa_waitingSigns o_pa_waitingPlaces o_pa_waiting o_pa_nested o_pa_fault o_sc_token o_sc_start o_sc_end o_sc_numberRead o_sc_escaped o_sc_bytesBehind o_dr_items o_dr_behindBy o_dr_steps o_dr_literalTypes o_dr_numbers o_dr_textStarts o_dr_textLengths o_dr_textBytes o_dr_itemCount o_dr_byCount o_dr_stepCount o_dr_literalCount o_dr_textEnd o_pl_items o_pl_behindBy o_pl_steps o_pl_literalTypes o_pl_numbers o_pl_textStarts o_pl_textLengths o_pl_textBytes o_pl_itemCount o_pl_byCount o_pl_stepCount o_pl_literalCount o_pl_textEnd) := by
  intro sz
  refine met_start [(0, .ref (a_qt 0)), (1, .int p1)] (by decide) rfl rfl (Nat.le_of_ble_eq_true rfl) rfl ?_
  intro p e s m below meth c ls C hnm hmt hw hl
  have hx := C.1
  have hb := C.2.1
  generalize va_A (w_qt_tp_sh_pa_sc_dr_pl E a_qt a_tp a_sh a_pa a_sc a_dr a_pl tp_bytes tp_size sh_names sh_nameLengths sh_groups sh_types sh_flat sh_size pa_itemPlaces pa_waitingSigns pa_waitingPlaces pa_waiting pa_nested pa_fault sc_token sc_start sc_end sc_numberRead sc_escaped sc_bytesBehind dr_items dr_behindBy dr_steps dr_literalTypes dr_numbers dr_textStarts dr_textLengths dr_textBytes dr_itemCount dr_byCount dr_stepCount dr_literalCount dr_textEnd pl_items pl_behindBy pl_steps pl_literalTypes pl_numbers pl_textStarts pl_textLengths pl_textBytes pl_itemCount pl_byCount pl_stepCount pl_literalCount pl_textEnd) sz = A at C hw ⊢
  unfold f_X5_query at hf
  refine lv_aload_n hx hb dX5_query_0 rfl (lv_at hl 0 rfl) ?_
  refine fg_X5_12 C hw 0 rfl rfl dX5_query_1 ?_
  refine lv_iload_n hx hb dX5_query_4 rfl (lv_at hl 1 rfl) ?_
  obtain ⟨x1, x2, z2, hf⟩ := ob2_el hf
  refine cI_V C hw (c_X4_cut l E a_tp tp_bytes tp_size p1 x1 x2 z2) cs_X5_49 ⟨Nat.le_of_ble_eq_true rfl, Nat.le_of_ble_eq_true rfl⟩ ⟨rfl, rfl⟩ (ci := 4) (cn := (RX4, TX4, 2)) rfl (q0 := 1) rfl (wn := w_qt_tp_sh_pa_sc_dr_pl E a_qt a_tp a_sh a_pa a_sc a_dr a_pl tp_bytes x2 sh_names sh_nameLengths sh_groups sh_types sh_flat sh_size pa_itemPlaces pa_waitingSigns pa_waitingPlaces pa_waiting pa_nested pa_fault sc_token sc_start sc_end sc_numberRead sc_escaped sc_bytesBehind dr_items dr_behindBy dr_steps dr_literalTypes dr_numbers dr_textStarts dr_textLengths dr_textBytes dr_itemCount dr_byCount dr_stepCount dr_literalCount dr_textEnd pl_items pl_behindBy pl_steps pl_literalTypes pl_numbers pl_textStarts pl_textLengths pl_textBytes pl_itemCount pl_byCount pl_stepCount pl_literalCount pl_textEnd) ⟨[1, 2], [0, 3, 4, 5, 6, 7, 8, 9, 10, 11, 12, 13, 14, 15, 16, 17, 18, 19, 20, 21, 22, 23, 24, 25, 26, 27, 28, 29, 30, 31], [0, 30, 31, 1, 2, 3, 4, 5, 6, 7, 8, 9, 10, 11, 12, 13, 14, 15, 16, 17, 18, 19, 20, 21, 22, 23, 24, 25, 26, 27, 28, 29], rfl, rfl, rfl, rfl, by decide, rfl, rfl⟩ rfl hl.1 rfl (Nat.le_of_ble_eq_true rfl) dX5_query_5 ⟨Nat.zero_le _, Nat.zero_le _⟩ (fun H locs hw => ?_)
  refine lv_if_ne (tgt := 14) hx hb dX5_query_8 (by decide) (fun c8 => ?_) (fun c8 => ?_)
  · replace hf := it_f c8 hf
    refine lv_aload_n hx hb dX5_query_14 rfl (lv_at hl 0 rfl) ?_
    refine fg_X5_30 C hw 0 rfl rfl dX5_query_15 ?_
    obtain ⟨x3, x4, x5, x6, x7, x8, x9, x10, x11, z11, hf⟩ := ob9_el hf
    refine cV_V C hw (c_X0_begin l E a_pa a_sc a_sh a_dr a_tp pa_itemPlaces pa_waitingSigns pa_waitingPlaces pa_waiting pa_nested pa_fault sc_token sc_start sc_end sc_numberRead sc_escaped sc_bytesBehind sh_names sh_nameLengths sh_groups sh_types sh_flat sh_size dr_items dr_behindBy dr_steps dr_literalTypes dr_numbers dr_textStarts dr_textLengths dr_textBytes dr_itemCount dr_byCount dr_stepCount dr_literalCount dr_textEnd tp_bytes x2 x3 x4 x5 x6 x7 x8 x9 x10 x11 z11) cs_X5_61 ⟨Nat.le_of_ble_eq_true rfl, Nat.le_of_ble_eq_true rfl⟩ ⟨rfl, rfl⟩ (ci := 0) (cn := (RX0, TX0, 9)) rfl (q0 := 9) rfl (wn := w_qt_tp_sh_pa_sc_dr_pl E a_qt a_tp a_sh a_pa a_sc a_dr a_pl tp_bytes x2 sh_names sh_nameLengths sh_groups sh_types sh_flat sh_size pa_itemPlaces pa_waitingSigns pa_waitingPlaces pa_waiting pa_nested x3 x4 x5 x6 sc_numberRead sc_escaped sc_bytesBehind dr_items dr_behindBy dr_steps dr_literalTypes dr_numbers dr_textStarts dr_textLengths dr_textBytes x7 x8 x9 x10 x11 pl_items pl_behindBy pl_steps pl_literalTypes pl_numbers pl_textStarts pl_textLengths pl_textBytes pl_itemCount pl_byCount pl_stepCount pl_literalCount pl_textEnd) ⟨[9, 10, 11, 12, 13, 3, 4, 5, 6, 7, 8, 14, 15, 16, 17, 18, 19, 20, 21, 22, 1, 2], [0, 23, 24, 25, 26, 27, 28, 29, 30, 31], [0, 30, 31, 15, 16, 17, 18, 19, 20, 10, 11, 12, 13, 14, 21, 22, 23, 24, 25, 26, 27, 28, 29, 1, 2, 3, 4, 5, 6, 7, 8, 9], rfl, rfl, rfl, rfl, by decide, rfl, rfl⟩ rfl hl.1 rfl (Nat.le_of_ble_eq_true rfl) dX5_query_18 ⟨Nat.zero_le _, Nat.zero_le _⟩ (fun H locs hw => ?_)
    refine lv_aload_n hx hb dX5_query_21 rfl (lv_at hl 0 rfl) ?_
    refine fg_X5_30 C hw 0 rfl rfl dX5_query_22 ?_
    obtain ⟨x12, x13, x14, x15, x16, x17, x18, x19, z19, hf⟩ := ob8_el hf
    refine cI_V C hw (c_X0_readItems l E a_pa a_sc a_sh a_dr a_tp pa_itemPlaces pa_waitingSigns pa_waitingPlaces pa_waiting pa_nested x3 x4 x5 x6 sc_numberRead sc_escaped sc_bytesBehind sh_names sh_nameLengths sh_groups sh_types sh_flat sh_size dr_items dr_behindBy dr_steps dr_literalTypes dr_numbers dr_textStarts dr_textLengths dr_textBytes x7 x8 x9 x10 x11 tp_bytes x2 x12 x13 x14 x15 x16 x17 x18 x19 z19) cs_X5_64 ⟨Nat.le_of_ble_eq_true rfl, Nat.le_of_ble_eq_true rfl⟩ ⟨rfl, rfl⟩ (ci := 0) (cn := (RX0, TX0, 9)) rfl (q0 := 9) rfl (wn := w_qt_tp_sh_pa_sc_dr_pl E a_qt a_tp a_sh a_pa a_sc a_dr a_pl tp_bytes x2 sh_names sh_nameLengths sh_groups sh_types sh_flat sh_size x13 pa_waitingSigns pa_waitingPlaces pa_waiting pa_nested x14 x15 x16 x17 sc_numberRead sc_escaped sc_bytesBehind x18 dr_behindBy dr_steps dr_literalTypes dr_numbers dr_textStarts dr_textLengths dr_textBytes x19 x8 x9 x10 x11 pl_items pl_behindBy pl_steps pl_literalTypes pl_numbers pl_textStarts pl_textLengths pl_textBytes pl_itemCount pl_byCount pl_stepCount pl_literalCount pl_textEnd) ⟨[9, 10, 11, 12, 13, 3, 4, 5, 6, 7, 8, 14, 15, 16, 17, 18, 19, 20, 21, 22, 1, 2], [0, 23, 24, 25, 26, 27, 28, 29, 30, 31], [0, 30, 31, 15, 16, 17, 18, 19, 20, 10, 11, 12, 13, 14, 21, 22, 23, 24, 25, 26, 27, 28, 29, 1, 2, 3, 4, 5, 6, 7, 8, 9], rfl, rfl, rfl, rfl, by decide, rfl, rfl⟩ rfl hl.1 rfl (Nat.le_of_ble_eq_true rfl) dX5_query_25 ⟨Nat.zero_le _, Nat.zero_le _⟩ (fun H locs hw => ?_)
    refine lv_if_eq (tgt := 58) hx hb dX5_query_28 (by decide) (fun c28 => ?_) (fun c28 => ?_)
    · replace hf := it_t c28 hf
      exact w_X5_query_58 C hw (lv_sub hl [0] rfl) hf
    · replace hf := it_f c28 hf
      refine lv_aload_n hx hb dX5_query_31 rfl (lv_at hl 0 rfl) ?_
      refine fg_X5_30 C hw 0 rfl rfl dX5_query_32 ?_
      obtain ⟨x20, x21, x22, x23, x24, x25, x26, x27, x28, x29, x30, x31, x32, x33, x34, x35, x36, x37, x38, x39, x40, z40, hf⟩ := ob21_el hf
      refine cI_V C hw (c_X0_readWhere l E a_pa a_sc a_sh a_dr a_tp x13 pa_waitingSigns pa_waitingPlaces pa_waiting pa_nested x14 x15 x16 x17 sc_numberRead sc_escaped sc_bytesBehind sh_names sh_nameLengths sh_groups sh_types sh_flat sh_size x18 dr_behindBy dr_steps dr_literalTypes dr_numbers dr_textStarts dr_textLengths dr_textBytes x19 x8 x9 x10 x11 tp_bytes x2 x20 x21 x22 x23 x24 x25 x26 x27 x28 x29 x30 x31 x32 x33 x34 x35 x36 x37 x38 x39 x40 z40) cs_X5_67 ⟨Nat.le_of_ble_eq_true rfl, Nat.le_of_ble_eq_true rfl⟩ ⟨rfl, rfl⟩ (ci := 0) (cn := (RX0, TX0, 9)) rfl (q0 := 9) rfl (wn := w_qt_tp_sh_pa_sc_dr_pl E a_qt a_tp a_sh a_pa a_sc a_dr a_pl tp_bytes x2 sh_names sh_nameLengths sh_groups sh_types sh_flat sh_size x13 x21 x22 x23 x24 x25 x26 x27 x28 x29 x30 x31 x18 dr_behindBy x32 x33 x34 x35 x36 x37 x19 x8 x38 x39 x40 pl_items pl_behindBy pl_steps pl_literalTypes pl_numbers pl_textStarts pl_textLengths pl_textBytes pl_itemCount pl_byCount pl_stepCount pl_literalCount pl_textEnd) ⟨[9, 10, 11, 12, 13, 3, 4, 5, 6, 7, 8, 14, 15, 16, 17, 18, 19, 20, 21, 22, 1, 2], [0, 23, 24, 25, 26, 27, 28, 29, 30, 31], [0, 30, 31, 15, 16, 17, 18, 19, 20, 10, 11, 12, 13, 14, 21, 22, 23, 24, 25, 26, 27, 28, 29, 1, 2, 3, 4, 5, 6, 7, 8, 9], rfl, rfl, rfl, rfl, by decide, rfl, rfl⟩ rfl hl.1 rfl (Nat.le_of_ble_eq_true rfl) dX5_query_35 ⟨Nat.zero_le _, Nat.zero_le _⟩ (fun H locs hw => ?_)
      refine lv_if_eq (tgt := 58) hx hb dX5_query_38 (by decide) (fun c38 => ?_) (fun c38 => ?_)
      · replace hf := it_t c38 hf
        exact w_X5_query_58 C hw (lv_sub hl [0] rfl) hf
      · replace hf := it_f c38 hf
        refine lv_aload_n hx hb dX5_query_41 rfl (lv_at hl 0 rfl) ?_
        refine fg_X5_30 C hw 0 rfl rfl dX5_query_42 ?_
        obtain ⟨x41, x42, x43, x44, x45, x46, x47, z47, hf⟩ := ob7_el hf
        refine cI_V C hw (c_X0_readGroup l E a_pa a_sc a_sh a_dr a_tp x13 x21 x22 x23 x24 x25 x26 x27 x28 x29 x30 x31 sh_names sh_nameLengths sh_groups sh_types sh_flat sh_size x18 dr_behindBy x32 x33 x34 x35 x36 x37 x19 x8 x38 x39 x40 tp_bytes x2 x41 x42 x43 x44 x45 x46 x47 z47) cs_X5_70 ⟨Nat.le_of_ble_eq_true rfl, Nat.le_of_ble_eq_true rfl⟩ ⟨rfl, rfl⟩ (ci := 0) (cn := (RX0, TX0, 9)) rfl (q0 := 9) rfl (wn := w_qt_tp_sh_pa_sc_dr_pl E a_qt a_tp a_sh a_pa a_sc a_dr a_pl tp_bytes x2 sh_names sh_nameLengths sh_groups sh_types sh_flat sh_size x13 x21 x22 x23 x24 x42 x43 x44 x45 x29 x30 x31 x18 x46 x32 x33 x34 x35 x36 x37 x19 x47 x38 x39 x40 pl_items pl_behindBy pl_steps pl_literalTypes pl_numbers pl_textStarts pl_textLengths pl_textBytes pl_itemCount pl_byCount pl_stepCount pl_literalCount pl_textEnd) ⟨[9, 10, 11, 12, 13, 3, 4, 5, 6, 7, 8, 14, 15, 16, 17, 18, 19, 20, 21, 22, 1, 2], [0, 23, 24, 25, 26, 27, 28, 29, 30, 31], [0, 30, 31, 15, 16, 17, 18, 19, 20, 10, 11, 12, 13, 14, 21, 22, 23, 24, 25, 26, 27, 28, 29, 1, 2, 3, 4, 5, 6, 7, 8, 9], rfl, rfl, rfl, rfl, by decide, rfl, rfl⟩ rfl hl.1 rfl (Nat.le_of_ble_eq_true rfl) dX5_query_45 ⟨Nat.zero_le _, Nat.zero_le _⟩ (fun H locs hw => ?_)
        refine lv_if_eq (tgt := 58) hx hb dX5_query_48 (by decide) (fun c48 => ?_) (fun c48 => ?_)
        · replace hf := it_t c48 hf
          exact w_X5_query_58 C hw (lv_sub hl [0] rfl) hf
        · replace hf := it_f c48 hf
          refine lv_aload_n hx hb dX5_query_51 rfl (lv_at hl 0 rfl) ?_
          refine fg_X5_30 C hw 0 rfl rfl dX5_query_52 ?_
          obtain ⟨x48, z48, hf⟩ := ob1_el hf
          refine cV_V C hw (c_X0_checkItems l E a_pa a_sc a_sh a_dr a_tp x13 x21 x22 x23 x24 x42 x43 x44 x45 x29 x30 x31 sh_names sh_nameLengths sh_groups sh_types sh_flat sh_size x18 x46 x32 x33 x34 x35 x36 x37 x19 x47 x38 x39 x40 tp_bytes x2 x48 z48) cs_X5_73 ⟨Nat.le_of_ble_eq_true rfl, Nat.le_of_ble_eq_true rfl⟩ ⟨rfl, rfl⟩ (ci := 0) (cn := (RX0, TX0, 9)) rfl (q0 := 9) rfl (wn := w_qt_tp_sh_pa_sc_dr_pl E a_qt a_tp a_sh a_pa a_sc a_dr a_pl tp_bytes x2 sh_names sh_nameLengths sh_groups sh_types sh_flat sh_size x13 x21 x22 x23 x24 x48 x43 x44 x45 x29 x30 x31 x18 x46 x32 x33 x34 x35 x36 x37 x19 x47 x38 x39 x40 pl_items pl_behindBy pl_steps pl_literalTypes pl_numbers pl_textStarts pl_textLengths pl_textBytes pl_itemCount pl_byCount pl_stepCount pl_literalCount pl_textEnd) ⟨[9, 10, 11, 12, 13, 3, 4, 5, 6, 7, 8, 14, 15, 16, 17, 18, 19, 20, 21, 22, 1, 2], [0, 23, 24, 25, 26, 27, 28, 29, 30, 31], [0, 30, 31, 15, 16, 17, 18, 19, 20, 10, 11, 12, 13, 14, 21, 22, 23, 24, 25, 26, 27, 28, 29, 1, 2, 3, 4, 5, 6, 7, 8, 9], rfl, rfl, rfl, rfl, by decide, rfl, rfl⟩ rfl hl.1 rfl (Nat.le_of_ble_eq_true rfl) dX5_query_55 ⟨Nat.zero_le _, Nat.zero_le _⟩ (fun H locs hw => ?_)
          exact w_X5_query_58 C hw (lv_sub hl [0] rfl) hf
  · replace hf := it_t c8 hf
    refine lv_bipush (v := -2) hx hb dX5_query_11 (by decide) ?_
    cases hf
    exact rt_i C hw dX5_query_13
def f_X5_count (p1 : Int32) (pl_items : Nat → Int32) (pl_itemCount : Int32) (pl_byCount : Int32) (pl_stepCount : Int32) (pl_literalCount : Int32) : Option ((Int32)) :=
  if p1 = (0 : Int32) then (some pl_itemCount)
  else (if p1 = (1 : Int32) then (some pl_byCount)
  else (if p1 = (2 : Int32) then (some pl_stepCount)
  else (if p1 = (3 : Int32) then (some pl_literalCount)
  else (if p1 = (4 : Int32) then (ob1 (f_X1_collects pl_items pl_itemCount pl_byCount) (fun x1 =>
  if x1 = (0 : Int32) then (some (0 : Int32))
  else (some (1 : Int32))))
  else (some (-1 : Int32))))))
set_option maxHeartbeats 4000000 in
set_option maxRecDepth 100000 in
theorem c_X5_count (l : Launch) (E : EnvT) (a_qt : Nat → Nat) (a_tp : Nat → Nat) (a_sh : Nat → Nat) (a_pa : Nat → Nat) (a_sc : Nat → Nat) (a_dr : Nat → Nat) (a_pl : Nat → Nat) (tp_bytes : Nat → Int32) (tp_size : Int32) (sh_names : Nat → Int32) (sh_nameLengths : Nat → Int32) (sh_groups : Nat → Int32) (sh_types : Nat → Int32) (sh_flat : Nat → Int32) (sh_size : Int32) (pa_itemPlaces : Nat → Int32) (pa_waitingSigns : Nat → Int32) (pa_waitingPlaces : Nat → Int32) (pa_waiting : Int32) (pa_nested : Int32) (pa_fault : Int32) (sc_token : Int32) (sc_start : Int32) (sc_end : Int32) (sc_numberRead : Int64) (sc_escaped : Int32) (sc_bytesBehind : Int32) (dr_items : Nat → Int32) (dr_behindBy : Nat → Int32) (dr_steps : Nat → Int32) (dr_literalTypes : Nat → Int32) (dr_numbers : Nat → Int64) (dr_textStarts : Nat → Int32) (dr_textLengths : Nat → Int32) (dr_textBytes : Nat → Int32) (dr_itemCount : Int32) (dr_byCount : Int32) (dr_stepCount : Int32) (dr_literalCount : Int32) (dr_textEnd : Int32) (pl_items : Nat → Int32) (pl_behindBy : Nat → Int32) (pl_steps : Nat → Int32) (pl_literalTypes : Nat → Int32) (pl_numbers : Nat → Int64) (pl_textStarts : Nat → Int32) (pl_textLengths : Nat → Int32) (pl_textBytes : Nat → Int32) (pl_itemCount : Int32) (pl_byCount : Int32) (pl_stepCount : Int32) (pl_literalCount : Int32) (pl_textEnd : Int32) (p1 : Int32) (r : Int32) (hf : f_X5_count p1 pl_items pl_itemCount pl_byCount pl_stepCount pl_literalCount = some r) : CI l yX5_count (Cond.code yX5_count cX5_count 2 (some .int)) { frames := 1, cells := 0, slots := 0, locals := 22 } E [.ref (a_qt 0), .int p1] (w_qt_tp_sh_pa_sc_dr_pl E a_qt a_tp a_sh a_pa a_sc a_dr a_pl tp_bytes tp_size sh_names sh_nameLengths sh_groups sh_types sh_flat sh_size pa_itemPlaces pa_waitingSigns pa_waitingPlaces pa_waiting pa_nested pa_fault sc_token sc_start sc_end sc_numberRead sc_escaped sc_bytesBehind dr_items dr_behindBy dr_steps dr_literalTypes dr_numbers dr_textStarts dr_textLengths dr_textBytes dr_itemCount dr_byCount dr_stepCount dr_literalCount dr_textEnd pl_items pl_behindBy pl_steps pl_literalTypes pl_numbers pl_textStarts pl_textLengths pl_textBytes pl_itemCount pl_byCount pl_stepCount pl_literalCount pl_textEnd) r (w_qt_tp_sh_pa_sc_dr_pl E a_qt a_tp a_sh a_pa a_sc a_dr a_pl tp_bytes tp_size sh_names sh_nameLengths sh_groups sh_types sh_flat sh_size pa_itemPlaces pa_waitingSigns pa_waitingPlaces pa_waiting pa_nested pa_fault sc_token sc_start sc_end sc_numberRead sc_escaped sc_bytesBehind dr_items dr_behindBy dr_steps dr_literalTypes dr_numbers dr_textStarts dr_textLengths dr_textBytes dr_itemCount dr_byCount dr_stepCount dr_literalCount dr_textEnd pl_items pl_behindBy pl_steps pl_literalTypes pl_numbers pl_textStarts pl_textLengths pl_textBytes pl_itemCount pl_byCount pl_stepCount pl_literalCount pl_textEnd) := by
  intro sz
  refine met_start [(0, .ref (a_qt 0)), (1, .int p1)] (by decide) rfl rfl (Nat.le_of_ble_eq_true rfl) rfl ?_
  intro p e s m below meth c ls C hnm hmt hw hl
  have hx := C.1
  have hb := C.2.1
  generalize va_A (w_qt_tp_sh_pa_sc_dr_pl E a_qt a_tp a_sh a_pa a_sc a_dr a_pl tp_bytes tp_size sh_names sh_nameLengths sh_groups sh_types sh_flat sh_size pa_itemPlaces pa_waitingSigns pa_waitingPlaces pa_waiting pa_nested pa_fault sc_token sc_start sc_end sc_numberRead sc_escaped sc_bytesBehind dr_items dr_behindBy dr_steps dr_literalTypes dr_numbers dr_textStarts dr_textLengths dr_textBytes dr_itemCount dr_byCount dr_stepCount dr_literalCount dr_textEnd pl_items pl_behindBy pl_steps pl_literalTypes pl_numbers pl_textStarts pl_textLengths pl_textBytes pl_itemCount pl_byCount pl_stepCount pl_literalCount pl_textEnd) sz = A at C hw ⊢
  unfold f_X5_count at hf
  refine lv_iload_n hx hb dX5_count_0 rfl (lv_at hl 1 rfl) ?_
  by_cases k1_0 : p1 = (0 : Int32)
  · replace hf := it_t k1_0 hf
    refine lv_tab (off := 35) (tgt := 36) hx hb dX5_count_1 (by rw [k1_0]; rfl) (by decide) ?_
    refine lv_aload_n hx hb dX5_count_36 rfl (lv_at hl 0 rfl) ?_
    refine fg_X5_37 C hw 0 rfl rfl dX5_count_37 ?_
    refine fg_X5_87 C hw 23 rfl rfl dX5_count_40 ?_
    cases hf
    exact rt_i C hw dX5_count_43
  replace hf := it_f k1_0 hf
  by_cases k1_1 : p1 = (1 : Int32)
  · replace hf := it_t k1_1 hf
    refine lv_tab (off := 43) (tgt := 44) hx hb dX5_count_1 (by rw [k1_1]; rfl) (by decide) ?_
    refine lv_aload_n hx hb dX5_count_44 rfl (lv_at hl 0 rfl) ?_
    refine fg_X5_37 C hw 0 rfl rfl dX5_count_45 ?_
    refine fg_X5_90 C hw 23 rfl rfl dX5_count_48 ?_
    cases hf
    exact rt_i C hw dX5_count_51
  replace hf := it_f k1_1 hf
  by_cases k1_2 : p1 = (2 : Int32)
  · replace hf := it_t k1_2 hf
    refine lv_tab (off := 51) (tgt := 52) hx hb dX5_count_1 (by rw [k1_2]; rfl) (by decide) ?_
    refine lv_aload_n hx hb dX5_count_52 rfl (lv_at hl 0 rfl) ?_
    refine fg_X5_37 C hw 0 rfl rfl dX5_count_53 ?_
    refine fg_X5_93 C hw 23 rfl rfl dX5_count_56 ?_
    cases hf
    exact rt_i C hw dX5_count_59
  replace hf := it_f k1_2 hf
  by_cases k1_3 : p1 = (3 : Int32)
  · replace hf := it_t k1_3 hf
    refine lv_tab (off := 59) (tgt := 60) hx hb dX5_count_1 (by rw [k1_3]; rfl) (by decide) ?_
    refine lv_aload_n hx hb dX5_count_60 rfl (lv_at hl 0 rfl) ?_
    refine fg_X5_37 C hw 0 rfl rfl dX5_count_61 ?_
    refine fg_X5_96 C hw 23 rfl rfl dX5_count_64 ?_
    cases hf
    exact rt_i C hw dX5_count_67
  replace hf := it_f k1_3 hf
  by_cases k1_4 : p1 = (4 : Int32)
  · replace hf := it_t k1_4 hf
    refine lv_tab (off := 67) (tgt := 68) hx hb dX5_count_1 (by rw [k1_4]; rfl) (by decide) ?_
    refine lv_aload_n hx hb dX5_count_68 rfl (lv_at hl 0 rfl) ?_
    refine fg_X5_37 C hw 0 rfl rfl dX5_count_69 ?_
    obtain ⟨x1, z1, hf⟩ := ob1_el hf
    refine cI_V C hw (c_X1_collects l E a_pl pl_items pl_behindBy pl_steps pl_literalTypes pl_numbers pl_textStarts pl_textLengths pl_textBytes pl_itemCount pl_byCount pl_stepCount pl_literalCount pl_textEnd x1 z1) cs_X5_99 ⟨Nat.le_of_ble_eq_true rfl, Nat.le_of_ble_eq_true rfl⟩ ⟨rfl, rfl⟩ (ci := 1) (cn := (RX1, TX1, 13)) rfl (q0 := 23) rfl (wn := w_qt_tp_sh_pa_sc_dr_pl E a_qt a_tp a_sh a_pa a_sc a_dr a_pl tp_bytes tp_size sh_names sh_nameLengths sh_groups sh_types sh_flat sh_size pa_itemPlaces pa_waitingSigns pa_waitingPlaces pa_waiting pa_nested pa_fault sc_token sc_start sc_end sc_numberRead sc_escaped sc_bytesBehind dr_items dr_behindBy dr_steps dr_literalTypes dr_numbers dr_textStarts dr_textLengths dr_textBytes dr_itemCount dr_byCount dr_stepCount dr_literalCount dr_textEnd pl_items pl_behindBy pl_steps pl_literalTypes pl_numbers pl_textStarts pl_textLengths pl_textBytes pl_itemCount pl_byCount pl_stepCount pl_literalCount pl_textEnd) ⟨[23, 24, 25, 26, 27, 28, 29, 30, 31], [0, 1, 2, 3, 4, 5, 6, 7, 8, 9, 10, 11, 12, 13, 14, 15, 16, 17, 18, 19, 20, 21, 22], [0, 1, 2, 3, 4, 5, 6, 7, 8, 9, 10, 11, 12, 13, 14, 15, 16, 17, 18, 19, 20, 21, 22, 23, 24, 25, 26, 27, 28, 29, 30, 31], rfl, rfl, rfl, rfl, by decide, rfl, rfl⟩ rfl hl.1 rfl (Nat.le_of_ble_eq_true rfl) dX5_count_72 ⟨Nat.zero_le _, Nat.zero_le _⟩ (fun H locs hw => ?_)
    refine lv_if_eq (tgt := 82) hx hb dX5_count_75 (by decide) (fun c75 => ?_) (fun c75 => ?_)
    · replace hf := it_t c75 hf
      refine lv_iconst (v := 0) hx hb dX5_count_82 (by decide) ?_
      cases hf
      exact rt_i C hw dX5_count_83
    · replace hf := it_f c75 hf
      refine lv_iconst (v := 1) hx hb dX5_count_78 (by decide) ?_
      refine lv_goto (tgt := 83) hx hb dX5_count_79 (by decide) ?_
      cases hf
      exact rt_i C hw dX5_count_83
  replace hf := it_f k1_4 hf
  have n0 := lv_neT k1_0 (a := 0) rfl
  have n1 := lv_neT k1_1 (a := 1) rfl
  have n2 := lv_neT k1_2 (a := 2) rfl
  have n3 := lv_neT k1_3 (a := 3) rfl
  have n4 := lv_neT k1_4 (a := 4) rfl
  have hq : (if p1.toInt < 0 ∨ 4 < p1.toInt then some (83 : Int) else (#[35, 43, 51, 59, 67] : Array Int)[(p1.toInt - 0).toNat]?) = some (83) := by
    by_cases hq : p1.toInt < 0 ∨ 4 < p1.toInt
    · rw [if_pos hq]
    · rw [if_neg hq]
      rcases (show p1.toInt = 0 ∨ p1.toInt = 1 ∨ p1.toInt = 2 ∨ p1.toInt = 3 ∨ p1.toInt = 4 by omega) with q | q | q | q | q
      · exact absurd q n0
      · exact absurd q n1
      · exact absurd q n2
      · exact absurd q n3
      · exact absurd q n4
  refine lv_tab (off := 83) (tgt := 84) hx hb dX5_count_1 hq (by decide) ?_
  refine lv_iconst (v := -1) hx hb dX5_count_84 (by decide) ?_
  cases hf
  exact rt_i C hw dX5_count_85
def f_X5_item (p1 : Int32) (p2 : Int32) (pl_items : Nat → Int32) (pl_itemCount : Int32) : Option ((Int32)) :=
  if p1 < (0 : Int32) then (some (-1 : Int32))
  else (if pl_itemCount ≤ p1 then (some (-1 : Int32))
  else (if p2 < (0 : Int32) then (some (-1 : Int32))
  else (if p2 < (2 : Int32) then (rd pl_items 32 ((p1 * (2 : Int32)) + p2) (fun x1 =>
  some x1))
  else (some (-1 : Int32)))))
set_option maxHeartbeats 4000000 in
set_option maxRecDepth 100000 in
theorem c_X5_item (l : Launch) (E : EnvT) (a_qt : Nat → Nat) (a_tp : Nat → Nat) (a_sh : Nat → Nat) (a_pa : Nat → Nat) (a_sc : Nat → Nat) (a_dr : Nat → Nat) (a_pl : Nat → Nat) (tp_bytes : Nat → Int32) (tp_size : Int32) (sh_names : Nat → Int32) (sh_nameLengths : Nat → Int32) (sh_groups : Nat → Int32) (sh_types : Nat → Int32) (sh_flat : Nat → Int32) (sh_size : Int32) (pa_itemPlaces : Nat → Int32) (pa_waitingSigns : Nat → Int32) (pa_waitingPlaces : Nat → Int32) (pa_waiting : Int32) (pa_nested : Int32) (pa_fault : Int32) (sc_token : Int32) (sc_start : Int32) (sc_end : Int32) (sc_numberRead : Int64) (sc_escaped : Int32) (sc_bytesBehind : Int32) (dr_items : Nat → Int32) (dr_behindBy : Nat → Int32) (dr_steps : Nat → Int32) (dr_literalTypes : Nat → Int32) (dr_numbers : Nat → Int64) (dr_textStarts : Nat → Int32) (dr_textLengths : Nat → Int32) (dr_textBytes : Nat → Int32) (dr_itemCount : Int32) (dr_byCount : Int32) (dr_stepCount : Int32) (dr_literalCount : Int32) (dr_textEnd : Int32) (pl_items : Nat → Int32) (pl_behindBy : Nat → Int32) (pl_steps : Nat → Int32) (pl_literalTypes : Nat → Int32) (pl_numbers : Nat → Int64) (pl_textStarts : Nat → Int32) (pl_textLengths : Nat → Int32) (pl_textBytes : Nat → Int32) (pl_itemCount : Int32) (pl_byCount : Int32) (pl_stepCount : Int32) (pl_literalCount : Int32) (pl_textEnd : Int32) (p1 : Int32) (p2 : Int32) (r : Int32) (hf : f_X5_item p1 p2 pl_items pl_itemCount = some r) : CI l yX5_item (Cond.code yX5_item cX5_item 3 (some .int)) { frames := 0, cells := 0, slots := 0, locals := 0 } E [.ref (a_qt 0), .int p1, .int p2] (w_qt_tp_sh_pa_sc_dr_pl E a_qt a_tp a_sh a_pa a_sc a_dr a_pl tp_bytes tp_size sh_names sh_nameLengths sh_groups sh_types sh_flat sh_size pa_itemPlaces pa_waitingSigns pa_waitingPlaces pa_waiting pa_nested pa_fault sc_token sc_start sc_end sc_numberRead sc_escaped sc_bytesBehind dr_items dr_behindBy dr_steps dr_literalTypes dr_numbers dr_textStarts dr_textLengths dr_textBytes dr_itemCount dr_byCount dr_stepCount dr_literalCount dr_textEnd pl_items pl_behindBy pl_steps pl_literalTypes pl_numbers pl_textStarts pl_textLengths pl_textBytes pl_itemCount pl_byCount pl_stepCount pl_literalCount pl_textEnd) r (w_qt_tp_sh_pa_sc_dr_pl E a_qt a_tp a_sh a_pa a_sc a_dr a_pl tp_bytes tp_size sh_names sh_nameLengths sh_groups sh_types sh_flat sh_size pa_itemPlaces pa_waitingSigns pa_waitingPlaces pa_waiting pa_nested pa_fault sc_token sc_start sc_end sc_numberRead sc_escaped sc_bytesBehind dr_items dr_behindBy dr_steps dr_literalTypes dr_numbers dr_textStarts dr_textLengths dr_textBytes dr_itemCount dr_byCount dr_stepCount dr_literalCount dr_textEnd pl_items pl_behindBy pl_steps pl_literalTypes pl_numbers pl_textStarts pl_textLengths pl_textBytes pl_itemCount pl_byCount pl_stepCount pl_literalCount pl_textEnd) := by
  intro sz
  refine met_start [(0, .ref (a_qt 0)), (1, .int p1), (2, .int p2)] (by decide) rfl rfl (Nat.le_of_ble_eq_true rfl) rfl ?_
  intro p e s m below meth c ls C hnm hmt hw hl
  have hx := C.1
  have hb := C.2.1
  generalize va_A (w_qt_tp_sh_pa_sc_dr_pl E a_qt a_tp a_sh a_pa a_sc a_dr a_pl tp_bytes tp_size sh_names sh_nameLengths sh_groups sh_types sh_flat sh_size pa_itemPlaces pa_waitingSigns pa_waitingPlaces pa_waiting pa_nested pa_fault sc_token sc_start sc_end sc_numberRead sc_escaped sc_bytesBehind dr_items dr_behindBy dr_steps dr_literalTypes dr_numbers dr_textStarts dr_textLengths dr_textBytes dr_itemCount dr_byCount dr_stepCount dr_literalCount dr_textEnd pl_items pl_behindBy pl_steps pl_literalTypes pl_numbers pl_textStarts pl_textLengths pl_textBytes pl_itemCount pl_byCount pl_stepCount pl_literalCount pl_textEnd) sz = A at C hw ⊢
  unfold f_X5_item at hf
  refine lv_iload_n hx hb dX5_item_0 rfl (lv_at hl 1 rfl) ?_
  refine lv_if_lt (tgt := 24) hx hb dX5_item_1 (by decide) (fun c1 => ?_) (fun c1 => ?_)
  · replace hf := it_t c1 hf
    refine lv_iconst (v := -1) hx hb dX5_item_24 (by decide) ?_
    cases hf
    exact rt_i C hw dX5_item_25
  · replace hf := it_f c1 hf
    refine lv_iload_n hx hb dX5_item_4 rfl (lv_at hl 1 rfl) ?_
    refine lv_aload_n hx hb dX5_item_5 rfl (lv_at hl 0 rfl) ?_
    refine fg_X5_37 C hw 0 rfl rfl dX5_item_6 ?_
    refine fg_X5_87 C hw 23 rfl rfl dX5_item_9 ?_
    refine lv_icmp_ge (tgt := 24) hx hb dX5_item_12 (by decide) (fun c12 => ?_) (fun c12 => ?_)
    · replace hf := it_t c12 hf
      refine lv_iconst (v := -1) hx hb dX5_item_24 (by decide) ?_
      cases hf
      exact rt_i C hw dX5_item_25
    · replace hf := it_f c12 hf
      refine lv_iload_n hx hb dX5_item_15 rfl (lv_at hl 2 rfl) ?_
      refine lv_if_lt (tgt := 24) hx hb dX5_item_16 (by decide) (fun c16 => ?_) (fun c16 => ?_)
      · replace hf := it_t c16 hf
        refine lv_iconst (v := -1) hx hb dX5_item_24 (by decide) ?_
        cases hf
        exact rt_i C hw dX5_item_25
      · replace hf := it_f c16 hf
        refine lv_iload_n hx hb dX5_item_19 rfl (lv_at hl 2 rfl) ?_
        refine lv_iconst (v := 2) hx hb dX5_item_20 (by decide) ?_
        refine lv_icmp_lt (tgt := 26) hx hb dX5_item_21 (by decide) (fun c21 => ?_) (fun c21 => ?_)
        · replace hf := it_t c21 hf
          refine lv_aload_n hx hb dX5_item_26 rfl (lv_at hl 0 rfl) ?_
          refine fg_X5_37 C hw 0 rfl rfl dX5_item_27 ?_
          refine fg_X5_102 C hw 23 rfl rfl dX5_item_30 ?_
          refine lv_iload_n hx hb dX5_item_33 rfl (lv_at hl 1 rfl) ?_
          refine lv_iconst (v := 2) hx hb dX5_item_34 (by decide) ?_
          refine lv_imul hx hb dX5_item_35 ?_
          refine lv_iload_n hx hb dX5_item_36 rfl (lv_at hl 2 rfl) ?_
          refine lv_iadd hx hb dX5_item_37 ?_
          obtain ⟨x1, ex1, gx1, hf⟩ := rd_el hf
          refine ra_i C hw 24 rfl gx1 dX5_item_38 ?_
          refine tp_i ex1 ?_
          cases hf
          exact rt_i C hw dX5_item_39
        · replace hf := it_f c21 hf
          refine lv_iconst (v := -1) hx hb dX5_item_24 (by decide) ?_
          cases hf
          exact rt_i C hw dX5_item_25
def f_X5_by (p1 : Int32) (pl_behindBy : Nat → Int32) (pl_byCount : Int32) : Option ((Int32)) :=
  if p1 < (0 : Int32) then (some (-1 : Int32))
  else (if pl_byCount ≤ p1 then (some (-1 : Int32))
  else (rd pl_behindBy 8 p1 (fun x1 =>
  some x1)))
set_option maxHeartbeats 4000000 in
set_option maxRecDepth 100000 in
theorem c_X5_by (l : Launch) (E : EnvT) (a_qt : Nat → Nat) (a_tp : Nat → Nat) (a_sh : Nat → Nat) (a_pa : Nat → Nat) (a_sc : Nat → Nat) (a_dr : Nat → Nat) (a_pl : Nat → Nat) (tp_bytes : Nat → Int32) (tp_size : Int32) (sh_names : Nat → Int32) (sh_nameLengths : Nat → Int32) (sh_groups : Nat → Int32) (sh_types : Nat → Int32) (sh_flat : Nat → Int32) (sh_size : Int32) (pa_itemPlaces : Nat → Int32) (pa_waitingSigns : Nat → Int32) (pa_waitingPlaces : Nat → Int32) (pa_waiting : Int32) (pa_nested : Int32) (pa_fault : Int32) (sc_token : Int32) (sc_start : Int32) (sc_end : Int32) (sc_numberRead : Int64) (sc_escaped : Int32) (sc_bytesBehind : Int32) (dr_items : Nat → Int32) (dr_behindBy : Nat → Int32) (dr_steps : Nat → Int32) (dr_literalTypes : Nat → Int32) (dr_numbers : Nat → Int64) (dr_textStarts : Nat → Int32) (dr_textLengths : Nat → Int32) (dr_textBytes : Nat → Int32) (dr_itemCount : Int32) (dr_byCount : Int32) (dr_stepCount : Int32) (dr_literalCount : Int32) (dr_textEnd : Int32) (pl_items : Nat → Int32) (pl_behindBy : Nat → Int32) (pl_steps : Nat → Int32) (pl_literalTypes : Nat → Int32) (pl_numbers : Nat → Int64) (pl_textStarts : Nat → Int32) (pl_textLengths : Nat → Int32) (pl_textBytes : Nat → Int32) (pl_itemCount : Int32) (pl_byCount : Int32) (pl_stepCount : Int32) (pl_literalCount : Int32) (pl_textEnd : Int32) (p1 : Int32) (r : Int32) (hf : f_X5_by p1 pl_behindBy pl_byCount = some r) : CI l yX5_by (Cond.code yX5_by cX5_by 2 (some .int)) { frames := 0, cells := 0, slots := 0, locals := 0 } E [.ref (a_qt 0), .int p1] (w_qt_tp_sh_pa_sc_dr_pl E a_qt a_tp a_sh a_pa a_sc a_dr a_pl tp_bytes tp_size sh_names sh_nameLengths sh_groups sh_types sh_flat sh_size pa_itemPlaces pa_waitingSigns pa_waitingPlaces pa_waiting pa_nested pa_fault sc_token sc_start sc_end sc_numberRead sc_escaped sc_bytesBehind dr_items dr_behindBy dr_steps dr_literalTypes dr_numbers dr_textStarts dr_textLengths dr_textBytes dr_itemCount dr_byCount dr_stepCount dr_literalCount dr_textEnd pl_items pl_behindBy pl_steps pl_literalTypes pl_numbers pl_textStarts pl_textLengths pl_textBytes pl_itemCount pl_byCount pl_stepCount pl_literalCount pl_textEnd) r (w_qt_tp_sh_pa_sc_dr_pl E a_qt a_tp a_sh a_pa a_sc a_dr a_pl tp_bytes tp_size sh_names sh_nameLengths sh_groups sh_types sh_flat sh_size pa_itemPlaces pa_waitingSigns pa_waitingPlaces pa_waiting pa_nested pa_fault sc_token sc_start sc_end sc_numberRead sc_escaped sc_bytesBehind dr_items dr_behindBy dr_steps dr_literalTypes dr_numbers dr_textStarts dr_textLengths dr_textBytes dr_itemCount dr_byCount dr_stepCount dr_literalCount dr_textEnd pl_items pl_behindBy pl_steps pl_literalTypes pl_numbers pl_textStarts pl_textLengths pl_textBytes pl_itemCount pl_byCount pl_stepCount pl_literalCount pl_textEnd) := by
  intro sz
  refine met_start [(0, .ref (a_qt 0)), (1, .int p1)] (by decide) rfl rfl (Nat.le_of_ble_eq_true rfl) rfl ?_
  intro p e s m below meth c ls C hnm hmt hw hl
  have hx := C.1
  have hb := C.2.1
  generalize va_A (w_qt_tp_sh_pa_sc_dr_pl E a_qt a_tp a_sh a_pa a_sc a_dr a_pl tp_bytes tp_size sh_names sh_nameLengths sh_groups sh_types sh_flat sh_size pa_itemPlaces pa_waitingSigns pa_waitingPlaces pa_waiting pa_nested pa_fault sc_token sc_start sc_end sc_numberRead sc_escaped sc_bytesBehind dr_items dr_behindBy dr_steps dr_literalTypes dr_numbers dr_textStarts dr_textLengths dr_textBytes dr_itemCount dr_byCount dr_stepCount dr_literalCount dr_textEnd pl_items pl_behindBy pl_steps pl_literalTypes pl_numbers pl_textStarts pl_textLengths pl_textBytes pl_itemCount pl_byCount pl_stepCount pl_literalCount pl_textEnd) sz = A at C hw ⊢
  unfold f_X5_by at hf
  refine lv_iload_n hx hb dX5_by_0 rfl (lv_at hl 1 rfl) ?_
  refine lv_if_lt (tgt := 27) hx hb dX5_by_1 (by decide) (fun c1 => ?_) (fun c1 => ?_)
  · replace hf := it_t c1 hf
    refine lv_iconst (v := -1) hx hb dX5_by_27 (by decide) ?_
    cases hf
    exact rt_i C hw dX5_by_28
  · replace hf := it_f c1 hf
    refine lv_iload_n hx hb dX5_by_4 rfl (lv_at hl 1 rfl) ?_
    refine lv_aload_n hx hb dX5_by_5 rfl (lv_at hl 0 rfl) ?_
    refine fg_X5_37 C hw 0 rfl rfl dX5_by_6 ?_
    refine fg_X5_90 C hw 23 rfl rfl dX5_by_9 ?_
    refine lv_icmp_ge (tgt := 27) hx hb dX5_by_12 (by decide) (fun c12 => ?_) (fun c12 => ?_)
    · replace hf := it_t c12 hf
      refine lv_iconst (v := -1) hx hb dX5_by_27 (by decide) ?_
      cases hf
      exact rt_i C hw dX5_by_28
    · replace hf := it_f c12 hf
      refine lv_aload_n hx hb dX5_by_15 rfl (lv_at hl 0 rfl) ?_
      refine fg_X5_37 C hw 0 rfl rfl dX5_by_16 ?_
      refine fg_X5_106 C hw 23 rfl rfl dX5_by_19 ?_
      refine lv_iload_n hx hb dX5_by_22 rfl (lv_at hl 1 rfl) ?_
      obtain ⟨x1, ex1, gx1, hf⟩ := rd_el hf
      refine ra_i C hw 25 rfl gx1 dX5_by_23 ?_
      refine tp_i ex1 ?_
      refine lv_goto (tgt := 28) hx hb dX5_by_24 (by decide) ?_
      cases hf
      exact rt_i C hw dX5_by_28
def f_X5_step (p1 : Int32) (p2 : Int32) (pl_steps : Nat → Int32) (pl_stepCount : Int32) : Option ((Int32)) :=
  if p1 < (0 : Int32) then (some (-1 : Int32))
  else (if pl_stepCount ≤ p1 then (some (-1 : Int32))
  else (if p2 < (0 : Int32) then (some (-1 : Int32))
  else (if p2 < (5 : Int32) then (rd pl_steps 320 ((p1 * (5 : Int32)) + p2) (fun x1 =>
  some x1))
  else (some (-1 : Int32)))))
set_option maxHeartbeats 4000000 in
set_option maxRecDepth 100000 in
theorem c_X5_step (l : Launch) (E : EnvT) (a_qt : Nat → Nat) (a_tp : Nat → Nat) (a_sh : Nat → Nat) (a_pa : Nat → Nat) (a_sc : Nat → Nat) (a_dr : Nat → Nat) (a_pl : Nat → Nat) (tp_bytes : Nat → Int32) (tp_size : Int32) (sh_names : Nat → Int32) (sh_nameLengths : Nat → Int32) (sh_groups : Nat → Int32) (sh_types : Nat → Int32) (sh_flat : Nat → Int32) (sh_size : Int32) (pa_itemPlaces : Nat → Int32) (pa_waitingSigns : Nat → Int32) (pa_waitingPlaces : Nat → Int32) (pa_waiting : Int32) (pa_nested : Int32) (pa_fault : Int32) (sc_token : Int32) (sc_start : Int32) (sc_end : Int32) (sc_numberRead : Int64) (sc_escaped : Int32) (sc_bytesBehind : Int32) (dr_items : Nat → Int32) (dr_behindBy : Nat → Int32) (dr_steps : Nat → Int32) (dr_literalTypes : Nat → Int32) (dr_numbers : Nat → Int64) (dr_textStarts : Nat → Int32) (dr_textLengths : Nat → Int32) (dr_textBytes : Nat → Int32) (dr_itemCount : Int32) (dr_byCount : Int32) (dr_stepCount : Int32) (dr_literalCount : Int32) (dr_textEnd : Int32) (pl_items : Nat → Int32) (pl_behindBy : Nat → Int32) (pl_steps : Nat → Int32) (pl_literalTypes : Nat → Int32) (pl_numbers : Nat → Int64) (pl_textStarts : Nat → Int32) (pl_textLengths : Nat → Int32) (pl_textBytes : Nat → Int32) (pl_itemCount : Int32) (pl_byCount : Int32) (pl_stepCount : Int32) (pl_literalCount : Int32) (pl_textEnd : Int32) (p1 : Int32) (p2 : Int32) (r : Int32) (hf : f_X5_step p1 p2 pl_steps pl_stepCount = some r) : CI l yX5_step (Cond.code yX5_step cX5_step 3 (some .int)) { frames := 0, cells := 0, slots := 0, locals := 0 } E [.ref (a_qt 0), .int p1, .int p2] (w_qt_tp_sh_pa_sc_dr_pl E a_qt a_tp a_sh a_pa a_sc a_dr a_pl tp_bytes tp_size sh_names sh_nameLengths sh_groups sh_types sh_flat sh_size pa_itemPlaces pa_waitingSigns pa_waitingPlaces pa_waiting pa_nested pa_fault sc_token sc_start sc_end sc_numberRead sc_escaped sc_bytesBehind dr_items dr_behindBy dr_steps dr_literalTypes dr_numbers dr_textStarts dr_textLengths dr_textBytes dr_itemCount dr_byCount dr_stepCount dr_literalCount dr_textEnd pl_items pl_behindBy pl_steps pl_literalTypes pl_numbers pl_textStarts pl_textLengths pl_textBytes pl_itemCount pl_byCount pl_stepCount pl_literalCount pl_textEnd) r (w_qt_tp_sh_pa_sc_dr_pl E a_qt a_tp a_sh a_pa a_sc a_dr a_pl tp_bytes tp_size sh_names sh_nameLengths sh_groups sh_types sh_flat sh_size pa_itemPlaces pa_waitingSigns pa_waitingPlaces pa_waiting pa_nested pa_fault sc_token sc_start sc_end sc_numberRead sc_escaped sc_bytesBehind dr_items dr_behindBy dr_steps dr_literalTypes dr_numbers dr_textStarts dr_textLengths dr_textBytes dr_itemCount dr_byCount dr_stepCount dr_literalCount dr_textEnd pl_items pl_behindBy pl_steps pl_literalTypes pl_numbers pl_textStarts pl_textLengths pl_textBytes pl_itemCount pl_byCount pl_stepCount pl_literalCount pl_textEnd) := by
  intro sz
  refine met_start [(0, .ref (a_qt 0)), (1, .int p1), (2, .int p2)] (by decide) rfl rfl (Nat.le_of_ble_eq_true rfl) rfl ?_
  intro p e s m below meth c ls C hnm hmt hw hl
  have hx := C.1
  have hb := C.2.1
  generalize va_A (w_qt_tp_sh_pa_sc_dr_pl E a_qt a_tp a_sh a_pa a_sc a_dr a_pl tp_bytes tp_size sh_names sh_nameLengths sh_groups sh_types sh_flat sh_size pa_itemPlaces pa_waitingSigns pa_waitingPlaces pa_waiting pa_nested pa_fault sc_token sc_start sc_end sc_numberRead sc_escaped sc_bytesBehind dr_items dr_behindBy dr_steps dr_literalTypes dr_numbers dr_textStarts dr_textLengths dr_textBytes dr_itemCount dr_byCount dr_stepCount dr_literalCount dr_textEnd pl_items pl_behindBy pl_steps pl_literalTypes pl_numbers pl_textStarts pl_textLengths pl_textBytes pl_itemCount pl_byCount pl_stepCount pl_literalCount pl_textEnd) sz = A at C hw ⊢
  unfold f_X5_step at hf
  refine lv_iload_n hx hb dX5_step_0 rfl (lv_at hl 1 rfl) ?_
  refine lv_if_lt (tgt := 24) hx hb dX5_step_1 (by decide) (fun c1 => ?_) (fun c1 => ?_)
  · replace hf := it_t c1 hf
    refine lv_iconst (v := -1) hx hb dX5_step_24 (by decide) ?_
    cases hf
    exact rt_i C hw dX5_step_25
  · replace hf := it_f c1 hf
    refine lv_iload_n hx hb dX5_step_4 rfl (lv_at hl 1 rfl) ?_
    refine lv_aload_n hx hb dX5_step_5 rfl (lv_at hl 0 rfl) ?_
    refine fg_X5_37 C hw 0 rfl rfl dX5_step_6 ?_
    refine fg_X5_93 C hw 23 rfl rfl dX5_step_9 ?_
    refine lv_icmp_ge (tgt := 24) hx hb dX5_step_12 (by decide) (fun c12 => ?_) (fun c12 => ?_)
    · replace hf := it_t c12 hf
      refine lv_iconst (v := -1) hx hb dX5_step_24 (by decide) ?_
      cases hf
      exact rt_i C hw dX5_step_25
    · replace hf := it_f c12 hf
      refine lv_iload_n hx hb dX5_step_15 rfl (lv_at hl 2 rfl) ?_
      refine lv_if_lt (tgt := 24) hx hb dX5_step_16 (by decide) (fun c16 => ?_) (fun c16 => ?_)
      · replace hf := it_t c16 hf
        refine lv_iconst (v := -1) hx hb dX5_step_24 (by decide) ?_
        cases hf
        exact rt_i C hw dX5_step_25
      · replace hf := it_f c16 hf
        refine lv_iload_n hx hb dX5_step_19 rfl (lv_at hl 2 rfl) ?_
        refine lv_iconst (v := 5) hx hb dX5_step_20 (by decide) ?_
        refine lv_icmp_lt (tgt := 26) hx hb dX5_step_21 (by decide) (fun c21 => ?_) (fun c21 => ?_)
        · replace hf := it_t c21 hf
          refine lv_aload_n hx hb dX5_step_26 rfl (lv_at hl 0 rfl) ?_
          refine fg_X5_37 C hw 0 rfl rfl dX5_step_27 ?_
          refine fg_X5_109 C hw 23 rfl rfl dX5_step_30 ?_
          refine lv_iload_n hx hb dX5_step_33 rfl (lv_at hl 1 rfl) ?_
          refine lv_iconst (v := 5) hx hb dX5_step_34 (by decide) ?_
          refine lv_imul hx hb dX5_step_35 ?_
          refine lv_iload_n hx hb dX5_step_36 rfl (lv_at hl 2 rfl) ?_
          refine lv_iadd hx hb dX5_step_37 ?_
          obtain ⟨x1, ex1, gx1, hf⟩ := rd_el hf
          refine ra_i C hw 26 rfl gx1 dX5_step_38 ?_
          refine tp_i ex1 ?_
          cases hf
          exact rt_i C hw dX5_step_39
        · replace hf := it_f c21 hf
          refine lv_iconst (v := -1) hx hb dX5_step_24 (by decide) ?_
          cases hf
          exact rt_i C hw dX5_step_25
def f_X5_literal (p1 : Int32) (pl_literalTypes : Nat → Int32) (pl_literalCount : Int32) : Option ((Int32)) :=
  ob1 (f_X1_hasLiteral p1 pl_literalCount) (fun x1 =>
  if x1 = (0 : Int32) then (some (-1 : Int32))
  else (rd pl_literalTypes 64 p1 (fun x2 =>
  some x2)))
set_option maxHeartbeats 4000000 in
set_option maxRecDepth 100000 in
theorem c_X5_literal (l : Launch) (E : EnvT) (a_qt : Nat → Nat) (a_tp : Nat → Nat) (a_sh : Nat → Nat) (a_pa : Nat → Nat) (a_sc : Nat → Nat) (a_dr : Nat → Nat) (a_pl : Nat → Nat) (tp_bytes : Nat → Int32) (tp_size : Int32) (sh_names : Nat → Int32) (sh_nameLengths : Nat → Int32) (sh_groups : Nat → Int32) (sh_types : Nat → Int32) (sh_flat : Nat → Int32) (sh_size : Int32) (pa_itemPlaces : Nat → Int32) (pa_waitingSigns : Nat → Int32) (pa_waitingPlaces : Nat → Int32) (pa_waiting : Int32) (pa_nested : Int32) (pa_fault : Int32) (sc_token : Int32) (sc_start : Int32) (sc_end : Int32) (sc_numberRead : Int64) (sc_escaped : Int32) (sc_bytesBehind : Int32) (dr_items : Nat → Int32) (dr_behindBy : Nat → Int32) (dr_steps : Nat → Int32) (dr_literalTypes : Nat → Int32) (dr_numbers : Nat → Int64) (dr_textStarts : Nat → Int32) (dr_textLengths : Nat → Int32) (dr_textBytes : Nat → Int32) (dr_itemCount : Int32) (dr_byCount : Int32) (dr_stepCount : Int32) (dr_literalCount : Int32) (dr_textEnd : Int32) (pl_items : Nat → Int32) (pl_behindBy : Nat → Int32) (pl_steps : Nat → Int32) (pl_literalTypes : Nat → Int32) (pl_numbers : Nat → Int64) (pl_textStarts : Nat → Int32) (pl_textLengths : Nat → Int32) (pl_textBytes : Nat → Int32) (pl_itemCount : Int32) (pl_byCount : Int32) (pl_stepCount : Int32) (pl_literalCount : Int32) (pl_textEnd : Int32) (p1 : Int32) (r : Int32) (hf : f_X5_literal p1 pl_literalTypes pl_literalCount = some r) : CI l yX5_literal (Cond.code yX5_literal cX5_literal 2 (some .int)) { frames := 1, cells := 0, slots := 0, locals := 21 } E [.ref (a_qt 0), .int p1] (w_qt_tp_sh_pa_sc_dr_pl E a_qt a_tp a_sh a_pa a_sc a_dr a_pl tp_bytes tp_size sh_names sh_nameLengths sh_groups sh_types sh_flat sh_size pa_itemPlaces pa_waitingSigns pa_waitingPlaces pa_waiting pa_nested pa_fault sc_token sc_start sc_end sc_numberRead sc_escaped sc_bytesBehind dr_items dr_behindBy dr_steps dr_literalTypes dr_numbers dr_textStarts dr_textLengths dr_textBytes dr_itemCount dr_byCount dr_stepCount dr_literalCount dr_textEnd pl_items pl_behindBy pl_steps pl_literalTypes pl_numbers pl_textStarts pl_textLengths pl_textBytes pl_itemCount pl_byCount pl_stepCount pl_literalCount pl_textEnd) r (w_qt_tp_sh_pa_sc_dr_pl E a_qt a_tp a_sh a_pa a_sc a_dr a_pl tp_bytes tp_size sh_names sh_nameLengths sh_groups sh_types sh_flat sh_size pa_itemPlaces pa_waitingSigns pa_waitingPlaces pa_waiting pa_nested pa_fault sc_token sc_start sc_end sc_numberRead sc_escaped sc_bytesBehind dr_items dr_behindBy dr_steps dr_literalTypes dr_numbers dr_textStarts dr_textLengths dr_textBytes dr_itemCount dr_byCount dr_stepCount dr_literalCount dr_textEnd pl_items pl_behindBy pl_steps pl_literalTypes pl_numbers pl_textStarts pl_textLengths pl_textBytes pl_itemCount pl_byCount pl_stepCount pl_literalCount pl_textEnd) := by
  intro sz
  refine met_start [(0, .ref (a_qt 0)), (1, .int p1)] (by decide) rfl rfl (Nat.le_of_ble_eq_true rfl) rfl ?_
  intro p e s m below meth c ls C hnm hmt hw hl
  have hx := C.1
  have hb := C.2.1
  generalize va_A (w_qt_tp_sh_pa_sc_dr_pl E a_qt a_tp a_sh a_pa a_sc a_dr a_pl tp_bytes tp_size sh_names sh_nameLengths sh_groups sh_types sh_flat sh_size pa_itemPlaces pa_waitingSigns pa_waitingPlaces pa_waiting pa_nested pa_fault sc_token sc_start sc_end sc_numberRead sc_escaped sc_bytesBehind dr_items dr_behindBy dr_steps dr_literalTypes dr_numbers dr_textStarts dr_textLengths dr_textBytes dr_itemCount dr_byCount dr_stepCount dr_literalCount dr_textEnd pl_items pl_behindBy pl_steps pl_literalTypes pl_numbers pl_textStarts pl_textLengths pl_textBytes pl_itemCount pl_byCount pl_stepCount pl_literalCount pl_textEnd) sz = A at C hw ⊢
  unfold f_X5_literal at hf
  refine lv_aload_n hx hb dX5_literal_0 rfl (lv_at hl 0 rfl) ?_
  refine fg_X5_37 C hw 0 rfl rfl dX5_literal_1 ?_
  refine lv_iload_n hx hb dX5_literal_4 rfl (lv_at hl 1 rfl) ?_
  obtain ⟨x1, z1, hf⟩ := ob1_el hf
  refine cI_V C hw (c_X1_hasLiteral l E a_pl pl_items pl_behindBy pl_steps pl_literalTypes pl_numbers pl_textStarts pl_textLengths pl_textBytes pl_itemCount pl_byCount pl_stepCount pl_literalCount pl_textEnd p1 x1 z1) cs_X5_112 ⟨Nat.le_of_ble_eq_true rfl, Nat.le_of_ble_eq_true rfl⟩ ⟨rfl, rfl⟩ (ci := 1) (cn := (RX1, TX1, 13)) rfl (q0 := 23) rfl (wn := w_qt_tp_sh_pa_sc_dr_pl E a_qt a_tp a_sh a_pa a_sc a_dr a_pl tp_bytes tp_size sh_names sh_nameLengths sh_groups sh_types sh_flat sh_size pa_itemPlaces pa_waitingSigns pa_waitingPlaces pa_waiting pa_nested pa_fault sc_token sc_start sc_end sc_numberRead sc_escaped sc_bytesBehind dr_items dr_behindBy dr_steps dr_literalTypes dr_numbers dr_textStarts dr_textLengths dr_textBytes dr_itemCount dr_byCount dr_stepCount dr_literalCount dr_textEnd pl_items pl_behindBy pl_steps pl_literalTypes pl_numbers pl_textStarts pl_textLengths pl_textBytes pl_itemCount pl_byCount pl_stepCount pl_literalCount pl_textEnd) ⟨[23, 24, 25, 26, 27, 28, 29, 30, 31], [0, 1, 2, 3, 4, 5, 6, 7, 8, 9, 10, 11, 12, 13, 14, 15, 16, 17, 18, 19, 20, 21, 22], [0, 1, 2, 3, 4, 5, 6, 7, 8, 9, 10, 11, 12, 13, 14, 15, 16, 17, 18, 19, 20, 21, 22, 23, 24, 25, 26, 27, 28, 29, 30, 31], rfl, rfl, rfl, rfl, by decide, rfl, rfl⟩ rfl hl.1 rfl (Nat.le_of_ble_eq_true rfl) dX5_literal_5 ⟨Nat.zero_le _, Nat.zero_le _⟩ (fun H locs hw => ?_)
  refine lv_if_eq (tgt := 23) hx hb dX5_literal_8 (by decide) (fun c8 => ?_) (fun c8 => ?_)
  · replace hf := it_t c8 hf
    refine lv_iconst (v := -1) hx hb dX5_literal_23 (by decide) ?_
    cases hf
    exact rt_i C hw dX5_literal_24
  · replace hf := it_f c8 hf
    refine lv_aload_n hx hb dX5_literal_11 rfl (lv_at hl 0 rfl) ?_
    refine fg_X5_37 C hw 0 rfl rfl dX5_literal_12 ?_
    refine fg_X5_115 C hw 23 rfl rfl dX5_literal_15 ?_
    refine lv_iload_n hx hb dX5_literal_18 rfl (lv_at hl 1 rfl) ?_
    obtain ⟨x2, ex2, gx2, hf⟩ := rd_el hf
    refine ra_i C hw 27 rfl gx2 dX5_literal_19 ?_
    refine tp_i ex2 ?_
    refine lv_goto (tgt := 24) hx hb dX5_literal_20 (by decide) ?_
    cases hf
    exact rt_i C hw dX5_literal_24
def f_X5_number (p1 : Int32) (pl_numbers : Nat → Int64) (pl_literalCount : Int32) : Option ((Int64)) :=
  ob1 (f_X1_hasLiteral p1 pl_literalCount) (fun x1 =>
  if x1 = (0 : Int32) then (some (0 : Int64))
  else (rd pl_numbers 64 p1 (fun x2 =>
  some x2)))
set_option maxHeartbeats 4000000 in
set_option maxRecDepth 100000 in
theorem c_X5_number (l : Launch) (E : EnvT) (a_qt : Nat → Nat) (a_tp : Nat → Nat) (a_sh : Nat → Nat) (a_pa : Nat → Nat) (a_sc : Nat → Nat) (a_dr : Nat → Nat) (a_pl : Nat → Nat) (tp_bytes : Nat → Int32) (tp_size : Int32) (sh_names : Nat → Int32) (sh_nameLengths : Nat → Int32) (sh_groups : Nat → Int32) (sh_types : Nat → Int32) (sh_flat : Nat → Int32) (sh_size : Int32) (pa_itemPlaces : Nat → Int32) (pa_waitingSigns : Nat → Int32) (pa_waitingPlaces : Nat → Int32) (pa_waiting : Int32) (pa_nested : Int32) (pa_fault : Int32) (sc_token : Int32) (sc_start : Int32) (sc_end : Int32) (sc_numberRead : Int64) (sc_escaped : Int32) (sc_bytesBehind : Int32) (dr_items : Nat → Int32) (dr_behindBy : Nat → Int32) (dr_steps : Nat → Int32) (dr_literalTypes : Nat → Int32) (dr_numbers : Nat → Int64) (dr_textStarts : Nat → Int32) (dr_textLengths : Nat → Int32) (dr_textBytes : Nat → Int32) (dr_itemCount : Int32) (dr_byCount : Int32) (dr_stepCount : Int32) (dr_literalCount : Int32) (dr_textEnd : Int32) (pl_items : Nat → Int32) (pl_behindBy : Nat → Int32) (pl_steps : Nat → Int32) (pl_literalTypes : Nat → Int32) (pl_numbers : Nat → Int64) (pl_textStarts : Nat → Int32) (pl_textLengths : Nat → Int32) (pl_textBytes : Nat → Int32) (pl_itemCount : Int32) (pl_byCount : Int32) (pl_stepCount : Int32) (pl_literalCount : Int32) (pl_textEnd : Int32) (p1 : Int32) (r : Int64) (hf : f_X5_number p1 pl_numbers pl_literalCount = some r) : CL l yX5_number (Cond.code yX5_number cX5_number 2 (some .long)) { frames := 1, cells := 0, slots := 0, locals := 21 } E [.ref (a_qt 0), .int p1] (w_qt_tp_sh_pa_sc_dr_pl E a_qt a_tp a_sh a_pa a_sc a_dr a_pl tp_bytes tp_size sh_names sh_nameLengths sh_groups sh_types sh_flat sh_size pa_itemPlaces pa_waitingSigns pa_waitingPlaces pa_waiting pa_nested pa_fault sc_token sc_start sc_end sc_numberRead sc_escaped sc_bytesBehind dr_items dr_behindBy dr_steps dr_literalTypes dr_numbers dr_textStarts dr_textLengths dr_textBytes dr_itemCount dr_byCount dr_stepCount dr_literalCount dr_textEnd pl_items pl_behindBy pl_steps pl_literalTypes pl_numbers pl_textStarts pl_textLengths pl_textBytes pl_itemCount pl_byCount pl_stepCount pl_literalCount pl_textEnd) r (w_qt_tp_sh_pa_sc_dr_pl E a_qt a_tp a_sh a_pa a_sc a_dr a_pl tp_bytes tp_size sh_names sh_nameLengths sh_groups sh_types sh_flat sh_size pa_itemPlaces pa_waitingSigns pa_waitingPlaces pa_waiting pa_nested pa_fault sc_token sc_start sc_end sc_numberRead sc_escaped sc_bytesBehind dr_items dr_behindBy dr_steps dr_literalTypes dr_numbers dr_textStarts dr_textLengths dr_textBytes dr_itemCount dr_byCount dr_stepCount dr_literalCount dr_textEnd pl_items pl_behindBy pl_steps pl_literalTypes pl_numbers pl_textStarts pl_textLengths pl_textBytes pl_itemCount pl_byCount pl_stepCount pl_literalCount pl_textEnd) := by
  intro sz
  refine met_start [(0, .ref (a_qt 0)), (1, .int p1)] (by decide) rfl rfl (Nat.le_of_ble_eq_true rfl) rfl ?_
  intro p e s m below meth c ls C hnm hmt hw hl
  have hx := C.1
  have hb := C.2.1
  generalize va_A (w_qt_tp_sh_pa_sc_dr_pl E a_qt a_tp a_sh a_pa a_sc a_dr a_pl tp_bytes tp_size sh_names sh_nameLengths sh_groups sh_types sh_flat sh_size pa_itemPlaces pa_waitingSigns pa_waitingPlaces pa_waiting pa_nested pa_fault sc_token sc_start sc_end sc_numberRead sc_escaped sc_bytesBehind dr_items dr_behindBy dr_steps dr_literalTypes dr_numbers dr_textStarts dr_textLengths dr_textBytes dr_itemCount dr_byCount dr_stepCount dr_literalCount dr_textEnd pl_items pl_behindBy pl_steps pl_literalTypes pl_numbers pl_textStarts pl_textLengths pl_textBytes pl_itemCount pl_byCount pl_stepCount pl_literalCount pl_textEnd) sz = A at C hw ⊢
  unfold f_X5_number at hf
  refine lv_aload_n hx hb dX5_number_0 rfl (lv_at hl 0 rfl) ?_
  refine fg_X5_37 C hw 0 rfl rfl dX5_number_1 ?_
  refine lv_iload_n hx hb dX5_number_4 rfl (lv_at hl 1 rfl) ?_
  obtain ⟨x1, z1, hf⟩ := ob1_el hf
  refine cI_V C hw (c_X1_hasLiteral l E a_pl pl_items pl_behindBy pl_steps pl_literalTypes pl_numbers pl_textStarts pl_textLengths pl_textBytes pl_itemCount pl_byCount pl_stepCount pl_literalCount pl_textEnd p1 x1 z1) cs_X5_112 ⟨Nat.le_of_ble_eq_true rfl, Nat.le_of_ble_eq_true rfl⟩ ⟨rfl, rfl⟩ (ci := 1) (cn := (RX1, TX1, 13)) rfl (q0 := 23) rfl (wn := w_qt_tp_sh_pa_sc_dr_pl E a_qt a_tp a_sh a_pa a_sc a_dr a_pl tp_bytes tp_size sh_names sh_nameLengths sh_groups sh_types sh_flat sh_size pa_itemPlaces pa_waitingSigns pa_waitingPlaces pa_waiting pa_nested pa_fault sc_token sc_start sc_end sc_numberRead sc_escaped sc_bytesBehind dr_items dr_behindBy dr_steps dr_literalTypes dr_numbers dr_textStarts dr_textLengths dr_textBytes dr_itemCount dr_byCount dr_stepCount dr_literalCount dr_textEnd pl_items pl_behindBy pl_steps pl_literalTypes pl_numbers pl_textStarts pl_textLengths pl_textBytes pl_itemCount pl_byCount pl_stepCount pl_literalCount pl_textEnd) ⟨[23, 24, 25, 26, 27, 28, 29, 30, 31], [0, 1, 2, 3, 4, 5, 6, 7, 8, 9, 10, 11, 12, 13, 14, 15, 16, 17, 18, 19, 20, 21, 22], [0, 1, 2, 3, 4, 5, 6, 7, 8, 9, 10, 11, 12, 13, 14, 15, 16, 17, 18, 19, 20, 21, 22, 23, 24, 25, 26, 27, 28, 29, 30, 31], rfl, rfl, rfl, rfl, by decide, rfl, rfl⟩ rfl hl.1 rfl (Nat.le_of_ble_eq_true rfl) dX5_number_5 ⟨Nat.zero_le _, Nat.zero_le _⟩ (fun H locs hw => ?_)
  refine lv_if_eq (tgt := 23) hx hb dX5_number_8 (by decide) (fun c8 => ?_) (fun c8 => ?_)
  · replace hf := it_t c8 hf
    refine lv_lconst (v := 0) hx hb dX5_number_23 (by decide) ?_
    cases hf
    exact rt_l C hw dX5_number_24
  · replace hf := it_f c8 hf
    refine lv_aload_n hx hb dX5_number_11 rfl (lv_at hl 0 rfl) ?_
    refine fg_X5_37 C hw 0 rfl rfl dX5_number_12 ?_
    refine fg_X5_118 C hw 23 rfl rfl dX5_number_15 ?_
    refine lv_iload_n hx hb dX5_number_18 rfl (lv_at hl 1 rfl) ?_
    obtain ⟨x2, ex2, gx2, hf⟩ := rd_el hf
    refine ra_l C hw 28 rfl gx2 dX5_number_19 ?_
    refine tp_l ex2 ?_
    refine lv_goto (tgt := 24) hx hb dX5_number_20 (by decide) ?_
    cases hf
    exact rt_l C hw dX5_number_24
def f_X5_length (p1 : Int32) (pl_literalTypes : Nat → Int32) (pl_textLengths : Nat → Int32) (pl_literalCount : Int32) : Option ((Int32)) :=
  ob1 (f_X1_hasText p1 pl_literalTypes pl_literalCount) (fun x1 =>
  if x1 = (0 : Int32) then (some (-1 : Int32))
  else (rd pl_textLengths 64 p1 (fun x2 =>
  some x2)))
set_option maxHeartbeats 4000000 in
set_option maxRecDepth 100000 in
theorem c_X5_length (l : Launch) (E : EnvT) (a_qt : Nat → Nat) (a_tp : Nat → Nat) (a_sh : Nat → Nat) (a_pa : Nat → Nat) (a_sc : Nat → Nat) (a_dr : Nat → Nat) (a_pl : Nat → Nat) (tp_bytes : Nat → Int32) (tp_size : Int32) (sh_names : Nat → Int32) (sh_nameLengths : Nat → Int32) (sh_groups : Nat → Int32) (sh_types : Nat → Int32) (sh_flat : Nat → Int32) (sh_size : Int32) (pa_itemPlaces : Nat → Int32) (pa_waitingSigns : Nat → Int32) (pa_waitingPlaces : Nat → Int32) (pa_waiting : Int32) (pa_nested : Int32) (pa_fault : Int32) (sc_token : Int32) (sc_start : Int32) (sc_end : Int32) (sc_numberRead : Int64) (sc_escaped : Int32) (sc_bytesBehind : Int32) (dr_items : Nat → Int32) (dr_behindBy : Nat → Int32) (dr_steps : Nat → Int32) (dr_literalTypes : Nat → Int32) (dr_numbers : Nat → Int64) (dr_textStarts : Nat → Int32) (dr_textLengths : Nat → Int32) (dr_textBytes : Nat → Int32) (dr_itemCount : Int32) (dr_byCount : Int32) (dr_stepCount : Int32) (dr_literalCount : Int32) (dr_textEnd : Int32) (pl_items : Nat → Int32) (pl_behindBy : Nat → Int32) (pl_steps : Nat → Int32) (pl_literalTypes : Nat → Int32) (pl_numbers : Nat → Int64) (pl_textStarts : Nat → Int32) (pl_textLengths : Nat → Int32) (pl_textBytes : Nat → Int32) (pl_itemCount : Int32) (pl_byCount : Int32) (pl_stepCount : Int32) (pl_literalCount : Int32) (pl_textEnd : Int32) (p1 : Int32) (r : Int32) (hf : f_X5_length p1 pl_literalTypes pl_textLengths pl_literalCount = some r) : CI l yX5_length (Cond.code yX5_length cX5_length 2 (some .int)) { frames := 1, cells := 0, slots := 0, locals := 21 } E [.ref (a_qt 0), .int p1] (w_qt_tp_sh_pa_sc_dr_pl E a_qt a_tp a_sh a_pa a_sc a_dr a_pl tp_bytes tp_size sh_names sh_nameLengths sh_groups sh_types sh_flat sh_size pa_itemPlaces pa_waitingSigns pa_waitingPlaces pa_waiting pa_nested pa_fault sc_token sc_start sc_end sc_numberRead sc_escaped sc_bytesBehind dr_items dr_behindBy dr_steps dr_literalTypes dr_numbers dr_textStarts dr_textLengths dr_textBytes dr_itemCount dr_byCount dr_stepCount dr_literalCount dr_textEnd pl_items pl_behindBy pl_steps pl_literalTypes pl_numbers pl_textStarts pl_textLengths pl_textBytes pl_itemCount pl_byCount pl_stepCount pl_literalCount pl_textEnd) r (w_qt_tp_sh_pa_sc_dr_pl E a_qt a_tp a_sh a_pa a_sc a_dr a_pl tp_bytes tp_size sh_names sh_nameLengths sh_groups sh_types sh_flat sh_size pa_itemPlaces pa_waitingSigns pa_waitingPlaces pa_waiting pa_nested pa_fault sc_token sc_start sc_end sc_numberRead sc_escaped sc_bytesBehind dr_items dr_behindBy dr_steps dr_literalTypes dr_numbers dr_textStarts dr_textLengths dr_textBytes dr_itemCount dr_byCount dr_stepCount dr_literalCount dr_textEnd pl_items pl_behindBy pl_steps pl_literalTypes pl_numbers pl_textStarts pl_textLengths pl_textBytes pl_itemCount pl_byCount pl_stepCount pl_literalCount pl_textEnd) := by
  intro sz
  refine met_start [(0, .ref (a_qt 0)), (1, .int p1)] (by decide) rfl rfl (Nat.le_of_ble_eq_true rfl) rfl ?_
  intro p e s m below meth c ls C hnm hmt hw hl
  have hx := C.1
  have hb := C.2.1
  generalize va_A (w_qt_tp_sh_pa_sc_dr_pl E a_qt a_tp a_sh a_pa a_sc a_dr a_pl tp_bytes tp_size sh_names sh_nameLengths sh_groups sh_types sh_flat sh_size pa_itemPlaces pa_waitingSigns pa_waitingPlaces pa_waiting pa_nested pa_fault sc_token sc_start sc_end sc_numberRead sc_escaped sc_bytesBehind dr_items dr_behindBy dr_steps dr_literalTypes dr_numbers dr_textStarts dr_textLengths dr_textBytes dr_itemCount dr_byCount dr_stepCount dr_literalCount dr_textEnd pl_items pl_behindBy pl_steps pl_literalTypes pl_numbers pl_textStarts pl_textLengths pl_textBytes pl_itemCount pl_byCount pl_stepCount pl_literalCount pl_textEnd) sz = A at C hw ⊢
  unfold f_X5_length at hf
  refine lv_aload_n hx hb dX5_length_0 rfl (lv_at hl 0 rfl) ?_
  refine fg_X5_37 C hw 0 rfl rfl dX5_length_1 ?_
  refine lv_iload_n hx hb dX5_length_4 rfl (lv_at hl 1 rfl) ?_
  obtain ⟨x1, z1, hf⟩ := ob1_el hf
  refine cI_V C hw (c_X1_hasText l E a_pl pl_items pl_behindBy pl_steps pl_literalTypes pl_numbers pl_textStarts pl_textLengths pl_textBytes pl_itemCount pl_byCount pl_stepCount pl_literalCount pl_textEnd p1 x1 z1) cs_X5_122 ⟨Nat.le_of_ble_eq_true rfl, Nat.le_of_ble_eq_true rfl⟩ ⟨rfl, rfl⟩ (ci := 1) (cn := (RX1, TX1, 13)) rfl (q0 := 23) rfl (wn := w_qt_tp_sh_pa_sc_dr_pl E a_qt a_tp a_sh a_pa a_sc a_dr a_pl tp_bytes tp_size sh_names sh_nameLengths sh_groups sh_types sh_flat sh_size pa_itemPlaces pa_waitingSigns pa_waitingPlaces pa_waiting pa_nested pa_fault sc_token sc_start sc_end sc_numberRead sc_escaped sc_bytesBehind dr_items dr_behindBy dr_steps dr_literalTypes dr_numbers dr_textStarts dr_textLengths dr_textBytes dr_itemCount dr_byCount dr_stepCount dr_literalCount dr_textEnd pl_items pl_behindBy pl_steps pl_literalTypes pl_numbers pl_textStarts pl_textLengths pl_textBytes pl_itemCount pl_byCount pl_stepCount pl_literalCount pl_textEnd) ⟨[23, 24, 25, 26, 27, 28, 29, 30, 31], [0, 1, 2, 3, 4, 5, 6, 7, 8, 9, 10, 11, 12, 13, 14, 15, 16, 17, 18, 19, 20, 21, 22], [0, 1, 2, 3, 4, 5, 6, 7, 8, 9, 10, 11, 12, 13, 14, 15, 16, 17, 18, 19, 20, 21, 22, 23, 24, 25, 26, 27, 28, 29, 30, 31], rfl, rfl, rfl, rfl, by decide, rfl, rfl⟩ rfl hl.1 rfl (Nat.le_of_ble_eq_true rfl) dX5_length_5 ⟨Nat.zero_le _, Nat.zero_le _⟩ (fun H locs hw => ?_)
  refine lv_if_eq (tgt := 23) hx hb dX5_length_8 (by decide) (fun c8 => ?_) (fun c8 => ?_)
  · replace hf := it_t c8 hf
    refine lv_iconst (v := -1) hx hb dX5_length_23 (by decide) ?_
    cases hf
    exact rt_i C hw dX5_length_24
  · replace hf := it_f c8 hf
    refine lv_aload_n hx hb dX5_length_11 rfl (lv_at hl 0 rfl) ?_
    refine fg_X5_37 C hw 0 rfl rfl dX5_length_12 ?_
    refine fg_X5_125 C hw 23 rfl rfl dX5_length_15 ?_
    refine lv_iload_n hx hb dX5_length_18 rfl (lv_at hl 1 rfl) ?_
    obtain ⟨x2, ex2, gx2, hf⟩ := rd_el hf
    refine ra_i C hw 30 rfl gx2 dX5_length_19 ?_
    refine tp_i ex2 ?_
    refine lv_goto (tgt := 24) hx hb dX5_length_20 (by decide) ?_
    cases hf
    exact rt_i C hw dX5_length_24
def f_X5_byteOf (p1 : Int32) (p2 : Int32) (pl_literalTypes : Nat → Int32) (pl_textStarts : Nat → Int32) (pl_textLengths : Nat → Int32) (pl_textBytes : Nat → Int32) (pl_literalCount : Int32) : Option ((Int32)) :=
  ob1 (f_X1_hasText p1 pl_literalTypes pl_literalCount) (fun x1 =>
  if x1 = (0 : Int32) then (some (-1 : Int32))
  else (if p2 < (0 : Int32) then (some (-1 : Int32))
  else (rd pl_textLengths 64 p1 (fun x2 =>
  if p2 < x2 then (rd pl_textStarts 64 p1 (fun x3 =>
  rd pl_textBytes 2000 (x3 + p2) (fun x4 =>
  some x4)))
  else (some (-1 : Int32))))))
set_option maxHeartbeats 4000000 in
set_option maxRecDepth 100000 in
theorem c_X5_byteOf (l : Launch) (E : EnvT) (a_qt : Nat → Nat) (a_tp : Nat → Nat) (a_sh : Nat → Nat) (a_pa : Nat → Nat) (a_sc : Nat → Nat) (a_dr : Nat → Nat) (a_pl : Nat → Nat) (tp_bytes : Nat → Int32) (tp_size : Int32) (sh_names : Nat → Int32) (sh_nameLengths : Nat → Int32) (sh_groups : Nat → Int32) (sh_types : Nat → Int32) (sh_flat : Nat → Int32) (sh_size : Int32) (pa_itemPlaces : Nat → Int32) (pa_waitingSigns : Nat → Int32) (pa_waitingPlaces : Nat → Int32) (pa_waiting : Int32) (pa_nested : Int32) (pa_fault : Int32) (sc_token : Int32) (sc_start : Int32) (sc_end : Int32) (sc_numberRead : Int64) (sc_escaped : Int32) (sc_bytesBehind : Int32) (dr_items : Nat → Int32) (dr_behindBy : Nat → Int32) (dr_steps : Nat → Int32) (dr_literalTypes : Nat → Int32) (dr_numbers : Nat → Int64) (dr_textStarts : Nat → Int32) (dr_textLengths : Nat → Int32) (dr_textBytes : Nat → Int32) (dr_itemCount : Int32) (dr_byCount : Int32) (dr_stepCount : Int32) (dr_literalCount : Int32) (dr_textEnd : Int32) (pl_items : Nat → Int32) (pl_behindBy : Nat → Int32) (pl_steps : Nat → Int32) (pl_literalTypes : Nat → Int32) (pl_numbers : Nat → Int64) (pl_textStarts : Nat → Int32) (pl_textLengths : Nat → Int32) (pl_textBytes : Nat → Int32) (pl_itemCount : Int32) (pl_byCount : Int32) (pl_stepCount : Int32) (pl_literalCount : Int32) (pl_textEnd : Int32) (p1 : Int32) (p2 : Int32) (r : Int32) (hf : f_X5_byteOf p1 p2 pl_literalTypes pl_textStarts pl_textLengths pl_textBytes pl_literalCount = some r) : CI l yX5_byteOf (Cond.code yX5_byteOf cX5_byteOf 3 (some .int)) { frames := 1, cells := 0, slots := 0, locals := 21 } E [.ref (a_qt 0), .int p1, .int p2] (w_qt_tp_sh_pa_sc_dr_pl E a_qt a_tp a_sh a_pa a_sc a_dr a_pl tp_bytes tp_size sh_names sh_nameLengths sh_groups sh_types sh_flat sh_size pa_itemPlaces pa_waitingSigns pa_waitingPlaces pa_waiting pa_nested pa_fault sc_token sc_start sc_end sc_numberRead sc_escaped sc_bytesBehind dr_items dr_behindBy dr_steps dr_literalTypes dr_numbers dr_textStarts dr_textLengths dr_textBytes dr_itemCount dr_byCount dr_stepCount dr_literalCount dr_textEnd pl_items pl_behindBy pl_steps pl_literalTypes pl_numbers pl_textStarts pl_textLengths pl_textBytes pl_itemCount pl_byCount pl_stepCount pl_literalCount pl_textEnd) r (w_qt_tp_sh_pa_sc_dr_pl E a_qt a_tp a_sh a_pa a_sc a_dr a_pl tp_bytes tp_size sh_names sh_nameLengths sh_groups sh_types sh_flat sh_size pa_itemPlaces pa_waitingSigns pa_waitingPlaces pa_waiting pa_nested pa_fault sc_token sc_start sc_end sc_numberRead sc_escaped sc_bytesBehind dr_items dr_behindBy dr_steps dr_literalTypes dr_numbers dr_textStarts dr_textLengths dr_textBytes dr_itemCount dr_byCount dr_stepCount dr_literalCount dr_textEnd pl_items pl_behindBy pl_steps pl_literalTypes pl_numbers pl_textStarts pl_textLengths pl_textBytes pl_itemCount pl_byCount pl_stepCount pl_literalCount pl_textEnd) := by
  intro sz
  refine met_start [(0, .ref (a_qt 0)), (1, .int p1), (2, .int p2)] (by decide) rfl rfl (Nat.le_of_ble_eq_true rfl) rfl ?_
  intro p e s m below meth c ls C hnm hmt hw hl
  have hx := C.1
  have hb := C.2.1
  generalize va_A (w_qt_tp_sh_pa_sc_dr_pl E a_qt a_tp a_sh a_pa a_sc a_dr a_pl tp_bytes tp_size sh_names sh_nameLengths sh_groups sh_types sh_flat sh_size pa_itemPlaces pa_waitingSigns pa_waitingPlaces pa_waiting pa_nested pa_fault sc_token sc_start sc_end sc_numberRead sc_escaped sc_bytesBehind dr_items dr_behindBy dr_steps dr_literalTypes dr_numbers dr_textStarts dr_textLengths dr_textBytes dr_itemCount dr_byCount dr_stepCount dr_literalCount dr_textEnd pl_items pl_behindBy pl_steps pl_literalTypes pl_numbers pl_textStarts pl_textLengths pl_textBytes pl_itemCount pl_byCount pl_stepCount pl_literalCount pl_textEnd) sz = A at C hw ⊢
  unfold f_X5_byteOf at hf
  refine lv_aload_n hx hb dX5_byteOf_0 rfl (lv_at hl 0 rfl) ?_
  refine fg_X5_37 C hw 0 rfl rfl dX5_byteOf_1 ?_
  refine lv_iload_n hx hb dX5_byteOf_4 rfl (lv_at hl 1 rfl) ?_
  obtain ⟨x1, z1, hf⟩ := ob1_el hf
  refine cI_V C hw (c_X1_hasText l E a_pl pl_items pl_behindBy pl_steps pl_literalTypes pl_numbers pl_textStarts pl_textLengths pl_textBytes pl_itemCount pl_byCount pl_stepCount pl_literalCount pl_textEnd p1 x1 z1) cs_X5_122 ⟨Nat.le_of_ble_eq_true rfl, Nat.le_of_ble_eq_true rfl⟩ ⟨rfl, rfl⟩ (ci := 1) (cn := (RX1, TX1, 13)) rfl (q0 := 23) rfl (wn := w_qt_tp_sh_pa_sc_dr_pl E a_qt a_tp a_sh a_pa a_sc a_dr a_pl tp_bytes tp_size sh_names sh_nameLengths sh_groups sh_types sh_flat sh_size pa_itemPlaces pa_waitingSigns pa_waitingPlaces pa_waiting pa_nested pa_fault sc_token sc_start sc_end sc_numberRead sc_escaped sc_bytesBehind dr_items dr_behindBy dr_steps dr_literalTypes dr_numbers dr_textStarts dr_textLengths dr_textBytes dr_itemCount dr_byCount dr_stepCount dr_literalCount dr_textEnd pl_items pl_behindBy pl_steps pl_literalTypes pl_numbers pl_textStarts pl_textLengths pl_textBytes pl_itemCount pl_byCount pl_stepCount pl_literalCount pl_textEnd) ⟨[23, 24, 25, 26, 27, 28, 29, 30, 31], [0, 1, 2, 3, 4, 5, 6, 7, 8, 9, 10, 11, 12, 13, 14, 15, 16, 17, 18, 19, 20, 21, 22], [0, 1, 2, 3, 4, 5, 6, 7, 8, 9, 10, 11, 12, 13, 14, 15, 16, 17, 18, 19, 20, 21, 22, 23, 24, 25, 26, 27, 28, 29, 30, 31], rfl, rfl, rfl, rfl, by decide, rfl, rfl⟩ rfl hl.1 rfl (Nat.le_of_ble_eq_true rfl) dX5_byteOf_5 ⟨Nat.zero_le _, Nat.zero_le _⟩ (fun H locs hw => ?_)
  refine lv_if_eq (tgt := 28) hx hb dX5_byteOf_8 (by decide) (fun c8 => ?_) (fun c8 => ?_)
  · replace hf := it_t c8 hf
    refine lv_iconst (v := -1) hx hb dX5_byteOf_28 (by decide) ?_
    cases hf
    exact rt_i C hw dX5_byteOf_29
  · replace hf := it_f c8 hf
    refine lv_iload_n hx hb dX5_byteOf_11 rfl (lv_at hl 2 rfl) ?_
    refine lv_if_lt (tgt := 28) hx hb dX5_byteOf_12 (by decide) (fun c12 => ?_) (fun c12 => ?_)
    · replace hf := it_t c12 hf
      refine lv_iconst (v := -1) hx hb dX5_byteOf_28 (by decide) ?_
      cases hf
      exact rt_i C hw dX5_byteOf_29
    · replace hf := it_f c12 hf
      refine lv_iload_n hx hb dX5_byteOf_15 rfl (lv_at hl 2 rfl) ?_
      refine lv_aload_n hx hb dX5_byteOf_16 rfl (lv_at hl 0 rfl) ?_
      refine fg_X5_37 C hw 0 rfl rfl dX5_byteOf_17 ?_
      refine fg_X5_125 C hw 23 rfl rfl dX5_byteOf_20 ?_
      refine lv_iload_n hx hb dX5_byteOf_23 rfl (lv_at hl 1 rfl) ?_
      obtain ⟨x2, ex2, gx2, hf⟩ := rd_el hf
      refine ra_i C hw 30 rfl gx2 dX5_byteOf_24 ?_
      refine tp_i ex2 ?_
      refine lv_icmp_lt (tgt := 30) hx hb dX5_byteOf_25 (by decide) (fun c25 => ?_) (fun c25 => ?_)
      · replace hf := it_t c25 hf
        refine lv_aload_n hx hb dX5_byteOf_30 rfl (lv_at hl 0 rfl) ?_
        refine fg_X5_37 C hw 0 rfl rfl dX5_byteOf_31 ?_
        refine fg_X5_128 C hw 23 rfl rfl dX5_byteOf_34 ?_
        refine lv_aload_n hx hb dX5_byteOf_37 rfl (lv_at hl 0 rfl) ?_
        refine fg_X5_37 C hw 0 rfl rfl dX5_byteOf_38 ?_
        refine fg_X5_131 C hw 23 rfl rfl dX5_byteOf_41 ?_
        refine lv_iload_n hx hb dX5_byteOf_44 rfl (lv_at hl 1 rfl) ?_
        obtain ⟨x3, ex3, gx3, hf⟩ := rd_el hf
        refine ra_i C hw 29 rfl gx3 dX5_byteOf_45 ?_
        refine tp_i ex3 ?_
        refine lv_iload_n hx hb dX5_byteOf_46 rfl (lv_at hl 2 rfl) ?_
        refine lv_iadd hx hb dX5_byteOf_47 ?_
        obtain ⟨x4, ex4, gx4, hf⟩ := rd_el hf
        refine ra_i C hw 31 rfl gx4 dX5_byteOf_48 ?_
        refine tp_i ex4 ?_
        cases hf
        exact rt_i C hw dX5_byteOf_49
      · replace hf := it_f c25 hf
        refine lv_iconst (v := -1) hx hb dX5_byteOf_28 (by decide) ?_
        cases hf
        exact rt_i C hw dX5_byteOf_29
