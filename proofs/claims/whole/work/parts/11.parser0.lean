def f_X0_begin (pa_fault : Int32) (sc_token : Int32) (sc_start : Int32) (sc_end : Int32) (dr_itemCount : Int32) (dr_byCount : Int32) (dr_stepCount : Int32) (dr_literalCount : Int32) (dr_textEnd : Int32) (tp_bytes : Nat → Int32) (tp_size : Int32) : Option ((Int32) × (Int32) × (Int32) × (Int32) × (Int32) × (Int32) × (Int32) × (Int32) × (Int32)) :=
  ob5 (f_X1_clear dr_itemCount dr_byCount dr_stepCount dr_literalCount dr_textEnd) (fun x1 x2 x3 x4 x5 =>
  ob3 (f_X2_begin sc_token sc_start sc_end tp_bytes tp_size) (fun x6 x7 x8 =>
  some ((-1 : Int32), x6, x7, x8, x1, x2, x3, x4, x5)))
set_option maxHeartbeats 4000000 in
set_option maxRecDepth 100000 in
theorem c_X0_begin (l : Launch) (E : EnvT) (a_pa : Nat → Nat) (a_sc : Nat → Nat) (a_sh : Nat → Nat) (a_dr : Nat → Nat) (a_tp : Nat → Nat) (pa_itemPlaces : Nat → Int32) (pa_waitingSigns : Nat → Int32) (pa_waitingPlaces : Nat → Int32) (pa_waiting : Int32) (pa_nested : Int32) (pa_fault : Int32) (sc_token : Int32) (sc_start : Int32) (sc_end : Int32) (sc_numberRead : Int64) (sc_escaped : Int32) (sc_bytesBehind : Int32) (sh_names : Nat → Int32) (sh_nameLengths : Nat → Int32) (sh_groups : Nat → Int32) (sh_types : Nat → Int32) (sh_flat : Nat → Int32) (sh_size : Int32) (dr_items : Nat → Int32) (dr_behindBy : Nat → Int32) (dr_steps : Nat → Int32) (dr_literalTypes : Nat → Int32) (dr_numbers : Nat → Int64) (dr_textStarts : Nat → Int32) (dr_textLengths : Nat → Int32) (dr_textBytes : Nat → Int32) (dr_itemCount : Int32) (dr_byCount : Int32) (dr_stepCount : Int32) (dr_literalCount : Int32) (dr_textEnd : Int32) (tp_bytes : Nat → Int32) (tp_size : Int32) (o_pa_fault : Int32) (o_sc_token : Int32) (o_sc_start : Int32) (o_sc_end : Int32) (o_dr_itemCount : Int32) (o_dr_byCount : Int32) (o_dr_stepCount : Int32) (o_dr_literalCount : Int32) (o_dr_textEnd : Int32) (hf : f_X0_begin pa_fault sc_token sc_start sc_end dr_itemCount dr_byCount dr_stepCount dr_literalCount dr_textEnd tp_bytes tp_size = some (o_pa_fault, o_sc_token, o_sc_start, o_sc_end, o_dr_itemCount, o_dr_byCount, o_dr_stepCount, o_dr_literalCount, o_dr_textEnd)) : CV l yX0_begin (Cond.code yX0_begin cX0_begin 1 none) { frames := 7, cells := 0, slots := 0, locals := 150 } E [.ref (a_pa 0)] (w_pa_sc_sh_dr_tp E a_pa a_sc a_sh a_dr a_tp pa_itemPlaces pa_waitingSigns pa_waitingPlaces pa_waiting pa_nested pa_fault sc_token sc_start sc_end sc_numberRead sc_escaped sc_bytesBehind sh_names sh_nameLengths sh_groups sh_types sh_flat sh_size dr_items dr_behindBy dr_steps dr_literalTypes dr_numbers dr_textStarts dr_textLengths dr_textBytes dr_itemCount dr_byCount dr_stepCount dr_literalCount dr_textEnd tp_bytes tp_size) (w_pa_sc_sh_dr_tp E a_pa a_sc a_sh a_dr a_tp pa_itemPlaces pa_waitingSigns pa_waitingPlaces pa_waiting pa_nested o_pa_fault o_sc_token o_sc_start o_sc_end sc_numberRead sc_escaped sc_bytesBehind sh_names sh_nameLengths sh_groups sh_types sh_flat sh_size dr_items dr_behindBy dr_steps dr_literalTypes dr_numbers dr_textStarts dr_textLengths dr_textBytes o_dr_itemCount o_dr_byCount o_dr_stepCount o_dr_literalCount o_dr_textEnd tp_bytes tp_size) := by
  intro sz
  refine met_start [(0, .ref (a_pa 0))] (by decide) rfl rfl (Nat.le_of_ble_eq_true rfl) rfl ?_
  intro p e s m below meth c ls C hnm hmt hw hl
  have hx := C.1
  have hb := C.2.1
  generalize va_A (w_pa_sc_sh_dr_tp E a_pa a_sc a_sh a_dr a_tp pa_itemPlaces pa_waitingSigns pa_waitingPlaces pa_waiting pa_nested pa_fault sc_token sc_start sc_end sc_numberRead sc_escaped sc_bytesBehind sh_names sh_nameLengths sh_groups sh_types sh_flat sh_size dr_items dr_behindBy dr_steps dr_literalTypes dr_numbers dr_textStarts dr_textLengths dr_textBytes dr_itemCount dr_byCount dr_stepCount dr_literalCount dr_textEnd tp_bytes tp_size) sz = A at C hw ⊢
  unfold f_X0_begin at hf
  refine lv_aload_n hx hb dX0_begin_0 rfl (lv_at hl 0 rfl) ?_
  refine lv_iconst (v := -1) hx hb dX0_begin_1 (by decide) ?_
  refine fp_X0_41 C hw 0 rfl (Nat.le_of_ble_eq_true rfl) (ws' := w_pa_sc_sh_dr_tp E a_pa a_sc a_sh a_dr a_tp pa_itemPlaces pa_waitingSigns pa_waitingPlaces pa_waiting pa_nested (-1 : Int32) sc_token sc_start sc_end sc_numberRead sc_escaped sc_bytesBehind sh_names sh_nameLengths sh_groups sh_types sh_flat sh_size dr_items dr_behindBy dr_steps dr_literalTypes dr_numbers dr_textStarts dr_textLengths dr_textBytes dr_itemCount dr_byCount dr_stepCount dr_literalCount dr_textEnd tp_bytes tp_size) rfl dX0_begin_2 (fun H locs hw => ?_)
  refine lv_aload_n hx hb dX0_begin_5 rfl (lv_at hl 0 rfl) ?_
  refine fg_X0_12 C hw 0 rfl rfl dX0_begin_6 ?_
  obtain ⟨x1, x2, x3, x4, x5, z5, hf⟩ := ob5_el hf
  refine cV_V C hw (c_X1_clear l E a_dr dr_items dr_behindBy dr_steps dr_literalTypes dr_numbers dr_textStarts dr_textLengths dr_textBytes dr_itemCount dr_byCount dr_stepCount dr_literalCount dr_textEnd x1 x2 x3 x4 x5 z5) cs_X0_45 ⟨Nat.le_of_ble_eq_true rfl, Nat.le_of_ble_eq_true rfl⟩ ⟨rfl, rfl⟩ (ci := 1) (cn := (RX1, TX1, 13)) rfl (q0 := 11) rfl (wn := w_pa_sc_sh_dr_tp E a_pa a_sc a_sh a_dr a_tp pa_itemPlaces pa_waitingSigns pa_waitingPlaces pa_waiting pa_nested (-1 : Int32) sc_token sc_start sc_end sc_numberRead sc_escaped sc_bytesBehind sh_names sh_nameLengths sh_groups sh_types sh_flat sh_size dr_items dr_behindBy dr_steps dr_literalTypes dr_numbers dr_textStarts dr_textLengths dr_textBytes x1 x2 x3 x4 x5 tp_bytes tp_size) ⟨[11, 12, 13, 14, 15, 16, 17, 18, 19], [0, 1, 2, 3, 4, 5, 6, 7, 8, 9, 10, 20, 21], [0, 1, 2, 3, 4, 5, 6, 7, 8, 9, 10, 13, 14, 15, 16, 17, 18, 19, 20, 21, 11, 12], rfl, rfl, rfl, rfl, by decide, rfl, rfl⟩ rfl hl.1 rfl (Nat.le_of_ble_eq_true rfl) dX0_begin_9 ⟨Nat.zero_le _, Nat.zero_le _⟩ (fun H locs hw => ?_)
  refine lv_aload_n hx hb dX0_begin_12 rfl (lv_at hl 0 rfl) ?_
  refine fg_X0_37 C hw 0 rfl rfl dX0_begin_13 ?_
  obtain ⟨x6, x7, x8, z8, hf⟩ := ob3_el hf
  refine cV_V C hw (c_X2_begin l E a_sc a_tp sc_token sc_start sc_end sc_numberRead sc_escaped sc_bytesBehind tp_bytes tp_size x6 x7 x8 z8) cs_X0_48 ⟨Nat.le_of_ble_eq_true rfl, Nat.le_of_ble_eq_true rfl⟩ ⟨rfl, rfl⟩ (ci := 2) (cn := (RX2, TX2, 7)) rfl (q0 := 4) rfl (wn := w_pa_sc_sh_dr_tp E a_pa a_sc a_sh a_dr a_tp pa_itemPlaces pa_waitingSigns pa_waitingPlaces pa_waiting pa_nested (-1 : Int32) x6 x7 x8 sc_numberRead sc_escaped sc_bytesBehind sh_names sh_nameLengths sh_groups sh_types sh_flat sh_size dr_items dr_behindBy dr_steps dr_literalTypes dr_numbers dr_textStarts dr_textLengths dr_textBytes x1 x2 x3 x4 x5 tp_bytes tp_size) ⟨[4, 20, 21], [0, 1, 2, 3, 5, 6, 7, 8, 9, 10, 11, 12, 13, 14, 15, 16, 17, 18, 19], [0, 1, 2, 3, 19, 4, 5, 6, 7, 8, 9, 10, 11, 12, 13, 14, 15, 16, 17, 18, 20, 21], rfl, rfl, rfl, rfl, by decide, rfl, rfl⟩ rfl hl.1 rfl (Nat.le_of_ble_eq_true rfl) dX0_begin_16 ⟨Nat.zero_le _, Nat.zero_le _⟩ (fun H locs hw => ?_)
  cases hf
  exact rt_v C hw dX0_begin_19
def f_X0_refuse (p1 : Int32) (pa_fault : Int32) : Option ((Int32) × (Int32)) :=
  if pa_fault = (-1 : Int32) then (some ((0 : Int32), p1))
  else (some ((0 : Int32), pa_fault))
set_option maxHeartbeats 4000000 in
set_option maxRecDepth 100000 in
theorem c_X0_refuse (l : Launch) (E : EnvT) (a_pa : Nat → Nat) (a_sc : Nat → Nat) (a_sh : Nat → Nat) (a_dr : Nat → Nat) (a_tp : Nat → Nat) (pa_itemPlaces : Nat → Int32) (pa_waitingSigns : Nat → Int32) (pa_waitingPlaces : Nat → Int32) (pa_waiting : Int32) (pa_nested : Int32) (pa_fault : Int32) (sc_token : Int32) (sc_start : Int32) (sc_end : Int32) (sc_numberRead : Int64) (sc_escaped : Int32) (sc_bytesBehind : Int32) (sh_names : Nat → Int32) (sh_nameLengths : Nat → Int32) (sh_groups : Nat → Int32) (sh_types : Nat → Int32) (sh_flat : Nat → Int32) (sh_size : Int32) (dr_items : Nat → Int32) (dr_behindBy : Nat → Int32) (dr_steps : Nat → Int32) (dr_literalTypes : Nat → Int32) (dr_numbers : Nat → Int64) (dr_textStarts : Nat → Int32) (dr_textLengths : Nat → Int32) (dr_textBytes : Nat → Int32) (dr_itemCount : Int32) (dr_byCount : Int32) (dr_stepCount : Int32) (dr_literalCount : Int32) (dr_textEnd : Int32) (tp_bytes : Nat → Int32) (tp_size : Int32) (p1 : Int32) (r : Int32) (o_pa_fault : Int32) (hf : f_X0_refuse p1 pa_fault = some (r, o_pa_fault)) : CI l yX0_refuse (Cond.code yX0_refuse cX0_refuse 2 (some .boolean)) { frames := 0, cells := 0, slots := 0, locals := 0 } E [.ref (a_pa 0), .int p1] (w_pa_sc_sh_dr_tp E a_pa a_sc a_sh a_dr a_tp pa_itemPlaces pa_waitingSigns pa_waitingPlaces pa_waiting pa_nested pa_fault sc_token sc_start sc_end sc_numberRead sc_escaped sc_bytesBehind sh_names sh_nameLengths sh_groups sh_types sh_flat sh_size dr_items dr_behindBy dr_steps dr_literalTypes dr_numbers dr_textStarts dr_textLengths dr_textBytes dr_itemCount dr_byCount dr_stepCount dr_literalCount dr_textEnd tp_bytes tp_size) r (w_pa_sc_sh_dr_tp E a_pa a_sc a_sh a_dr a_tp pa_itemPlaces pa_waitingSigns pa_waitingPlaces pa_waiting pa_nested o_pa_fault sc_token sc_start sc_end sc_numberRead sc_escaped sc_bytesBehind sh_names sh_nameLengths sh_groups sh_types sh_flat sh_size dr_items dr_behindBy dr_steps dr_literalTypes dr_numbers dr_textStarts dr_textLengths dr_textBytes dr_itemCount dr_byCount dr_stepCount dr_literalCount dr_textEnd tp_bytes tp_size) := by
  intro sz
  refine met_start [(0, .ref (a_pa 0)), (1, .int p1)] (by decide) rfl rfl (Nat.le_of_ble_eq_true rfl) rfl ?_
  intro p e s m below meth c ls C hnm hmt hw hl
  have hx := C.1
  have hb := C.2.1
  generalize va_A (w_pa_sc_sh_dr_tp E a_pa a_sc a_sh a_dr a_tp pa_itemPlaces pa_waitingSigns pa_waitingPlaces pa_waiting pa_nested pa_fault sc_token sc_start sc_end sc_numberRead sc_escaped sc_bytesBehind sh_names sh_nameLengths sh_groups sh_types sh_flat sh_size dr_items dr_behindBy dr_steps dr_literalTypes dr_numbers dr_textStarts dr_textLengths dr_textBytes dr_itemCount dr_byCount dr_stepCount dr_literalCount dr_textEnd tp_bytes tp_size) sz = A at C hw ⊢
  unfold f_X0_refuse at hf
  refine lv_aload_n hx hb dX0_refuse_0 rfl (lv_at hl 0 rfl) ?_
  refine fg_X0_41 C hw 0 rfl rfl dX0_refuse_1 ?_
  refine lv_iconst (v := -1) hx hb dX0_refuse_4 (by decide) ?_
  refine lv_icmp_ne (tgt := 13) hx hb dX0_refuse_5 (by decide) (fun c5 => ?_) (fun c5 => ?_)
  · replace hf := it_f c5 hf
    refine lv_iconst (v := 0) hx hb dX0_refuse_13 (by decide) ?_
    cases hf
    exact rt_z C hw (Or.inl rfl) dX0_refuse_14
  · replace hf := it_t c5 hf
    refine lv_aload_n hx hb dX0_refuse_8 rfl (lv_at hl 0 rfl) ?_
    refine lv_iload_n hx hb dX0_refuse_9 rfl (lv_at hl 1 rfl) ?_
    refine fp_X0_41 C hw 0 rfl (Nat.le_of_ble_eq_true rfl) (ws' := w_pa_sc_sh_dr_tp E a_pa a_sc a_sh a_dr a_tp pa_itemPlaces pa_waitingSigns pa_waitingPlaces pa_waiting pa_nested p1 sc_token sc_start sc_end sc_numberRead sc_escaped sc_bytesBehind sh_names sh_nameLengths sh_groups sh_types sh_flat sh_size dr_items dr_behindBy dr_steps dr_literalTypes dr_numbers dr_textStarts dr_textLengths dr_textBytes dr_itemCount dr_byCount dr_stepCount dr_literalCount dr_textEnd tp_bytes tp_size) rfl dX0_refuse_10 (fun H locs hw => ?_)
    refine lv_iconst (v := 0) hx hb dX0_refuse_13 (by decide) ?_
    cases hf
    exact rt_z C hw (Or.inl rfl) dX0_refuse_14
def f_X0_take (p1 : Int32) (pa_fault : Int32) (sc_token : Int32) (sc_start : Int32) (sc_end : Int32) (tp_bytes : Nat → Int32) (tp_size : Int32) : Option ((Int32) × (Int32) × (Int32) × (Int32) × (Int32)) :=
  if sc_token = p1 then (ob3 (f_X2_advance sc_token sc_start sc_end tp_bytes tp_size) (fun x1 x2 x3 =>
  some ((1 : Int32), pa_fault, x1, x2, x3)))
  else (ob2 (f_X0_refuse sc_start pa_fault) (fun x4 x5 =>
  gz x4 (some (x4, x5, sc_token, sc_start, sc_end))))
set_option maxHeartbeats 4000000 in
set_option maxRecDepth 100000 in
theorem c_X0_take (l : Launch) (E : EnvT) (a_pa : Nat → Nat) (a_sc : Nat → Nat) (a_sh : Nat → Nat) (a_dr : Nat → Nat) (a_tp : Nat → Nat) (pa_itemPlaces : Nat → Int32) (pa_waitingSigns : Nat → Int32) (pa_waitingPlaces : Nat → Int32) (pa_waiting : Int32) (pa_nested : Int32) (pa_fault : Int32) (sc_token : Int32) (sc_start : Int32) (sc_end : Int32) (sc_numberRead : Int64) (sc_escaped : Int32) (sc_bytesBehind : Int32) (sh_names : Nat → Int32) (sh_nameLengths : Nat → Int32) (sh_groups : Nat → Int32) (sh_types : Nat → Int32) (sh_flat : Nat → Int32) (sh_size : Int32) (dr_items : Nat → Int32) (dr_behindBy : Nat → Int32) (dr_steps : Nat → Int32) (dr_literalTypes : Nat → Int32) (dr_numbers : Nat → Int64) (dr_textStarts : Nat → Int32) (dr_textLengths : Nat → Int32) (dr_textBytes : Nat → Int32) (dr_itemCount : Int32) (dr_byCount : Int32) (dr_stepCount : Int32) (dr_literalCount : Int32) (dr_textEnd : Int32) (tp_bytes : Nat → Int32) (tp_size : Int32) (p1 : Int32) (r : Int32) (o_pa_fault : Int32) (o_sc_token : Int32) (o_sc_start : Int32) (o_sc_end : Int32) (hf : f_X0_take p1 pa_fault sc_token sc_start sc_end tp_bytes tp_size = some (r, o_pa_fault, o_sc_token, o_sc_start, o_sc_end)) : CI l yX0_take (Cond.code yX0_take cX0_take 2 (some .boolean)) { frames := 6, cells := 0, slots := 0, locals := 130 } E [.ref (a_pa 0), .int p1] (w_pa_sc_sh_dr_tp E a_pa a_sc a_sh a_dr a_tp pa_itemPlaces pa_waitingSigns pa_waitingPlaces pa_waiting pa_nested pa_fault sc_token sc_start sc_end sc_numberRead sc_escaped sc_bytesBehind sh_names sh_nameLengths sh_groups sh_types sh_flat sh_size dr_items dr_behindBy dr_steps dr_literalTypes dr_numbers dr_textStarts dr_textLengths dr_textBytes dr_itemCount dr_byCount dr_stepCount dr_literalCount dr_textEnd tp_bytes tp_size) r (w_pa_sc_sh_dr_tp E a_pa a_sc a_sh a_dr a_tp pa_itemPlaces pa_waitingSigns pa_waitingPlaces pa_waiting pa_nested o_pa_fault o_sc_token o_sc_start o_sc_end sc_numberRead sc_escaped sc_bytesBehind sh_names sh_nameLengths sh_groups sh_types sh_flat sh_size dr_items dr_behindBy dr_steps dr_literalTypes dr_numbers dr_textStarts dr_textLengths dr_textBytes dr_itemCount dr_byCount dr_stepCount dr_literalCount dr_textEnd tp_bytes tp_size) := by
  intro sz
  refine met_start [(0, .ref (a_pa 0)), (1, .int p1)] (by decide) rfl rfl (Nat.le_of_ble_eq_true rfl) rfl ?_
  intro p e s m below meth c ls C hnm hmt hw hl
  have hx := C.1
  have hb := C.2.1
  generalize va_A (w_pa_sc_sh_dr_tp E a_pa a_sc a_sh a_dr a_tp pa_itemPlaces pa_waitingSigns pa_waitingPlaces pa_waiting pa_nested pa_fault sc_token sc_start sc_end sc_numberRead sc_escaped sc_bytesBehind sh_names sh_nameLengths sh_groups sh_types sh_flat sh_size dr_items dr_behindBy dr_steps dr_literalTypes dr_numbers dr_textStarts dr_textLengths dr_textBytes dr_itemCount dr_byCount dr_stepCount dr_literalCount dr_textEnd tp_bytes tp_size) sz = A at C hw ⊢
  unfold f_X0_take at hf
  refine lv_aload_n hx hb dX0_take_0 rfl (lv_at hl 0 rfl) ?_
  refine fg_X0_37 C hw 0 rfl rfl dX0_take_1 ?_
  refine fg_X0_51 C hw 4 rfl rfl dX0_take_4 ?_
  refine lv_iload_n hx hb dX0_take_7 rfl (lv_at hl 1 rfl) ?_
  refine lv_icmp_eq (tgt := 23) hx hb dX0_take_8 (by decide) (fun c8 => ?_) (fun c8 => ?_)
  · replace hf := it_t c8 hf
    refine lv_aload_n hx hb dX0_take_23 rfl (lv_at hl 0 rfl) ?_
    refine fg_X0_37 C hw 0 rfl rfl dX0_take_24 ?_
    obtain ⟨x1, x2, x3, z3, hf⟩ := ob3_el hf
    refine cV_V C hw (c_X2_advance l E a_sc a_tp sc_token sc_start sc_end sc_numberRead sc_escaped sc_bytesBehind tp_bytes tp_size x1 x2 x3 z3) cs_X0_61 ⟨Nat.le_of_ble_eq_true rfl, Nat.le_of_ble_eq_true rfl⟩ ⟨rfl, rfl⟩ (ci := 2) (cn := (RX2, TX2, 7)) rfl (q0 := 4) rfl (wn := w_pa_sc_sh_dr_tp E a_pa a_sc a_sh a_dr a_tp pa_itemPlaces pa_waitingSigns pa_waitingPlaces pa_waiting pa_nested pa_fault x1 x2 x3 sc_numberRead sc_escaped sc_bytesBehind sh_names sh_nameLengths sh_groups sh_types sh_flat sh_size dr_items dr_behindBy dr_steps dr_literalTypes dr_numbers dr_textStarts dr_textLengths dr_textBytes dr_itemCount dr_byCount dr_stepCount dr_literalCount dr_textEnd tp_bytes tp_size) ⟨[4, 20, 21], [0, 1, 2, 3, 5, 6, 7, 8, 9, 10, 11, 12, 13, 14, 15, 16, 17, 18, 19], [0, 1, 2, 3, 19, 4, 5, 6, 7, 8, 9, 10, 11, 12, 13, 14, 15, 16, 17, 18, 20, 21], rfl, rfl, rfl, rfl, by decide, rfl, rfl⟩ rfl hl.1 rfl (Nat.le_of_ble_eq_true rfl) dX0_take_27 ⟨Nat.zero_le _, Nat.zero_le _⟩ (fun H locs hw => ?_)
    refine lv_iconst (v := 1) hx hb dX0_take_30 (by decide) ?_
    cases hf
    exact rt_z C hw (Or.inr rfl) dX0_take_31
  · replace hf := it_f c8 hf
    refine lv_aload_n hx hb dX0_take_11 rfl (lv_at hl 0 rfl) ?_
    refine lv_aload_n hx hb dX0_take_12 rfl (lv_at hl 0 rfl) ?_
    refine fg_X0_37 C hw 0 rfl rfl dX0_take_13 ?_
    refine fg_X0_54 C hw 4 rfl rfl dX0_take_16 ?_
    obtain ⟨x4, x5, z5, hf⟩ := ob2_el hf
    refine cI_V C hw (c_X0_refuse l E a_pa a_sc a_sh a_dr a_tp pa_itemPlaces pa_waitingSigns pa_waitingPlaces pa_waiting pa_nested pa_fault sc_token sc_start sc_end sc_numberRead sc_escaped sc_bytesBehind sh_names sh_nameLengths sh_groups sh_types sh_flat sh_size dr_items dr_behindBy dr_steps dr_literalTypes dr_numbers dr_textStarts dr_textLengths dr_textBytes dr_itemCount dr_byCount dr_stepCount dr_literalCount dr_textEnd tp_bytes tp_size sc_start x4 x5 z5) cs_X0_57 ⟨Nat.le_of_ble_eq_true rfl, Nat.le_of_ble_eq_true rfl⟩ ⟨rfl, rfl⟩ (ci := 0) (cn := (RX0, TX0, 9)) rfl (q0 := 0) rfl (wn := w_pa_sc_sh_dr_tp E a_pa a_sc a_sh a_dr a_tp pa_itemPlaces pa_waitingSigns pa_waitingPlaces pa_waiting pa_nested x5 sc_token sc_start sc_end sc_numberRead sc_escaped sc_bytesBehind sh_names sh_nameLengths sh_groups sh_types sh_flat sh_size dr_items dr_behindBy dr_steps dr_literalTypes dr_numbers dr_textStarts dr_textLengths dr_textBytes dr_itemCount dr_byCount dr_stepCount dr_literalCount dr_textEnd tp_bytes tp_size) (Jn.all _ _) rfl hl.1 rfl (Nat.le_of_ble_eq_true rfl) dX0_take_19 ⟨Nat.zero_le _, Nat.zero_le _⟩ (fun H locs hw => ?_)
    obtain ⟨hz, hf⟩ := gz_el hf
    cases hf
    exact rt_z C hw hz dX0_take_22
def f_X0_readPath_127 (l1 : Int32) (l2 : Int32) (pa_fault : Int32) (sc_token : Int32) (sc_start : Int32) (sc_end : Int32) (tp_bytes : Nat → Int32) (tp_size : Int32) : Option ((Int32) × (Int32) × (Int32) × (Int32) × (Int32)) :=
  ob3 (f_X2_advance sc_token sc_start sc_end tp_bytes tp_size) (fun x1 x2 x3 =>
  if l2 = (-1 : Int32) then (ob2 (f_X0_refuse l1 pa_fault) (fun x4 x5 =>
  some (l2, x5, x1, x2, x3)))
  else (some (l2, pa_fault, x1, x2, x3)))
set_option maxHeartbeats 4000000 in
set_option maxRecDepth 100000 in
theorem w_X0_readPath_127 {p : Program} {l : Launch} {e : Env} {s : State} {m : MethodId} {args : Array Value} {below : List Frame} {meth : Method} {c : Code} {E : EnvT} {A : Nat → Prop} {a_pa : Nat → Nat} {a_sc : Nat → Nat} {a_sh : Nat → Nat} {a_dr : Nat → Nat} {a_tp : Nat → Nat} {pa_itemPlaces : Nat → Int32} {pa_waitingSigns : Nat → Int32} {pa_waitingPlaces : Nat → Int32} {pa_waiting : Int32} {pa_nested : Int32} {sc_numberRead : Int64} {sc_escaped : Int32} {sc_bytesBehind : Int32} {sh_names : Nat → Int32} {sh_nameLengths : Nat → Int32} {sh_groups : Nat → Int32} {sh_types : Nat → Int32} {sh_flat : Nat → Int32} {sh_size : Int32} {dr_items : Nat → Int32} {dr_behindBy : Nat → Int32} {dr_steps : Nat → Int32} {dr_literalTypes : Nat → Int32} {dr_numbers : Nat → Int64} {dr_textStarts : Nat → Int32} {dr_textLengths : Nat → Int32} {dr_textBytes : Nat → Int32} {dr_itemCount : Int32} {dr_byCount : Int32} {dr_stepCount : Int32} {dr_literalCount : Int32} {dr_textEnd : Int32} {r : Int32} {o_pa_fault : Int32} {o_sc_token : Int32} {o_sc_start : Int32} {o_sc_end : Int32} {l1 : Int32} {l2 : Int32} {pa_fault : Int32} {sc_token : Int32} {sc_start : Int32} {sc_end : Int32} {tp_bytes : Nat → Int32} {tp_size : Int32} {H : Heap} {locs : List Loc} {ls : Array Slot} (C : MC p s m args meth c E A cX0_readPath 4 RX0 (some .int)) (hw : WS E A s (w_pa_sc_sh_dr_tp E a_pa a_sc a_sh a_dr a_tp pa_itemPlaces pa_waitingSigns pa_waitingPlaces pa_waiting pa_nested pa_fault sc_token sc_start sc_end sc_numberRead sc_escaped sc_bytesBehind sh_names sh_nameLengths sh_groups sh_types sh_flat sh_size dr_items dr_behindBy dr_steps dr_literalTypes dr_numbers dr_textStarts dr_textLengths dr_textBytes dr_itemCount dr_byCount dr_stepCount dr_literalCount dr_textEnd tp_bytes tp_size) H locs) (hl : lv_has ls 4 [(0, .ref (a_pa 0)), (1, .int l1), (2, .int l2)]) (hf : f_X0_readPath_127 l1 l2 pa_fault sc_token sc_start sc_end tp_bytes tp_size = some (r, o_pa_fault, o_sc_token, o_sc_start, o_sc_end)) : W p l e { frames := 6, cells := 0, slots := 0, locals := 130 } s m args below meth c H locs 0 0 (MQ below (QcI E A (w_pa_sc_sh_dr_tp E a_pa a_sc a_sh a_dr a_tp pa_itemPlaces pa_waitingSigns pa_waitingPlaces pa_waiting pa_nested o_pa_fault o_sc_token o_sc_start o_sc_end sc_numberRead sc_escaped sc_bytesBehind sh_names sh_nameLengths sh_groups sh_types sh_flat sh_size dr_items dr_behindBy dr_steps dr_literalTypes dr_numbers dr_textStarts dr_textLengths dr_textBytes dr_itemCount dr_byCount dr_stepCount dr_literalCount dr_textEnd tp_bytes tp_size) r) args s 0 0 A) (F0 m 127 ls []) := by
  have hx := C.1
  have hb := C.2.1
  unfold f_X0_readPath_127 at hf
  refine lv_aload_n hx hb dX0_readPath_127 rfl (lv_at hl 0 rfl) ?_
  refine fg_X0_37 C hw 0 rfl rfl dX0_readPath_128 ?_
  obtain ⟨x1, x2, x3, z3, hf⟩ := ob3_el hf
  refine cV_V C hw (c_X2_advance l E a_sc a_tp sc_token sc_start sc_end sc_numberRead sc_escaped sc_bytesBehind tp_bytes tp_size x1 x2 x3 z3) cs_X0_61 ⟨Nat.le_of_ble_eq_true rfl, Nat.le_of_ble_eq_true rfl⟩ ⟨rfl, rfl⟩ (ci := 2) (cn := (RX2, TX2, 7)) rfl (q0 := 4) rfl (wn := w_pa_sc_sh_dr_tp E a_pa a_sc a_sh a_dr a_tp pa_itemPlaces pa_waitingSigns pa_waitingPlaces pa_waiting pa_nested pa_fault x1 x2 x3 sc_numberRead sc_escaped sc_bytesBehind sh_names sh_nameLengths sh_groups sh_types sh_flat sh_size dr_items dr_behindBy dr_steps dr_literalTypes dr_numbers dr_textStarts dr_textLengths dr_textBytes dr_itemCount dr_byCount dr_stepCount dr_literalCount dr_textEnd tp_bytes tp_size) ⟨[4, 20, 21], [0, 1, 2, 3, 5, 6, 7, 8, 9, 10, 11, 12, 13, 14, 15, 16, 17, 18, 19], [0, 1, 2, 3, 19, 4, 5, 6, 7, 8, 9, 10, 11, 12, 13, 14, 15, 16, 17, 18, 20, 21], rfl, rfl, rfl, rfl, by decide, rfl, rfl⟩ rfl hl.1 rfl (Nat.le_of_ble_eq_true rfl) dX0_readPath_131 ⟨Nat.zero_le _, Nat.zero_le _⟩ (fun H locs hw => ?_)
  refine lv_iload_n hx hb dX0_readPath_134 rfl (lv_at hl 2 rfl) ?_
  refine lv_iconst (v := -1) hx hb dX0_readPath_135 (by decide) ?_
  refine lv_icmp_ne (tgt := 145) hx hb dX0_readPath_136 (by decide) (fun c136 => ?_) (fun c136 => ?_)
  · replace hf := it_f c136 hf
    refine lv_iload_n hx hb dX0_readPath_145 rfl (lv_at hl 2 rfl) ?_
    cases hf
    exact rt_i C hw dX0_readPath_146
  · replace hf := it_t c136 hf
    refine lv_aload_n hx hb dX0_readPath_139 rfl (lv_at hl 0 rfl) ?_
    refine lv_iload_n hx hb dX0_readPath_140 rfl (lv_at hl 1 rfl) ?_
    obtain ⟨x4, x5, z5, hf⟩ := ob2_el hf
    refine cI_V C hw (c_X0_refuse l E a_pa a_sc a_sh a_dr a_tp pa_itemPlaces pa_waitingSigns pa_waitingPlaces pa_waiting pa_nested pa_fault x1 x2 x3 sc_numberRead sc_escaped sc_bytesBehind sh_names sh_nameLengths sh_groups sh_types sh_flat sh_size dr_items dr_behindBy dr_steps dr_literalTypes dr_numbers dr_textStarts dr_textLengths dr_textBytes dr_itemCount dr_byCount dr_stepCount dr_literalCount dr_textEnd tp_bytes tp_size l1 x4 x5 z5) cs_X0_57 ⟨Nat.le_of_ble_eq_true rfl, Nat.le_of_ble_eq_true rfl⟩ ⟨rfl, rfl⟩ (ci := 0) (cn := (RX0, TX0, 9)) rfl (q0 := 0) rfl (wn := w_pa_sc_sh_dr_tp E a_pa a_sc a_sh a_dr a_tp pa_itemPlaces pa_waitingSigns pa_waitingPlaces pa_waiting pa_nested x5 x1 x2 x3 sc_numberRead sc_escaped sc_bytesBehind sh_names sh_nameLengths sh_groups sh_types sh_flat sh_size dr_items dr_behindBy dr_steps dr_literalTypes dr_numbers dr_textStarts dr_textLengths dr_textBytes dr_itemCount dr_byCount dr_stepCount dr_literalCount dr_textEnd tp_bytes tp_size) (Jn.all _ _) rfl hl.1 rfl (Nat.le_of_ble_eq_true rfl) dX0_readPath_141 ⟨Nat.zero_le _, Nat.zero_le _⟩ (fun H locs hw => ?_)
    refine lv_pop hx hb dX0_readPath_144 rfl ?_
    refine lv_iload_n hx hb dX0_readPath_145 rfl (lv_at hl 2 rfl) ?_
    cases hf
    exact rt_i C hw dX0_readPath_146
def f_X0_readPath_12 : Nat → (Int32) → (Int32) → (Int32) → (Int32) → (Int32) → (Int32) → (Int32) → (Nat → Int32) → (Nat → Int32) → (Nat → Int32) → (Int32) → (Nat → Int32) → (Int32) → Option ((Int32) × (Int32) × (Int32) × (Int32) × (Int32))
  | 0, _, _, _, _, _, _, _, _, _, _, _, _, _ => none
  | n + 1, l1, l2, l3, pa_fault, sc_token, sc_start, sc_end, sh_names, sh_nameLengths, sh_groups, sh_size, tp_bytes, tp_size =>
  if (2000 : Int32) < l3 then (f_X0_readPath_127 l1 l2 pa_fault sc_token sc_start sc_end tp_bytes tp_size)
  else (if sc_token = (16 : Int32) then (if l3 = (0 : Int32) then (ob1 (f_X3_find l2 sc_start sc_end sh_names sh_nameLengths sh_groups sh_size tp_bytes tp_size) (fun x1 =>
  ob2 (f_X2_passDot sc_end tp_bytes tp_size) (fun x2 x3 =>
  if x2 = (0 : Int32) then (f_X0_readPath_127 l1 x1 pa_fault sc_token sc_start x3 tp_bytes tp_size)
  else (ob1 (f_X2_isLetterBehind x3 tp_bytes tp_size) (fun x4 =>
  if x4 = (0 : Int32) then (ob2 (f_X0_refuse x3 pa_fault) (fun x9 x10 =>
  some ((-1 : Int32), x10, sc_token, sc_start, x3)))
  else (ob3 (f_X2_advance sc_token sc_start x3 tp_bytes tp_size) (fun x5 x6 x7 =>
  on (l3 + (1 : Int32)) (fun x8 =>
  f_X0_readPath_12 n l1 x1 x8 pa_fault x5 x6 x7 sh_names sh_nameLengths sh_groups sh_size tp_bytes tp_size))))))))
  else (if l2 = (-1 : Int32) then (ob2 (f_X2_passDot sc_end tp_bytes tp_size) (fun x11 x12 =>
  if x11 = (0 : Int32) then (f_X0_readPath_127 l1 l2 pa_fault sc_token sc_start x12 tp_bytes tp_size)
  else (ob1 (f_X2_isLetterBehind x12 tp_bytes tp_size) (fun x13 =>
  if x13 = (0 : Int32) then (ob2 (f_X0_refuse x12 pa_fault) (fun x18 x19 =>
  some ((-1 : Int32), x19, sc_token, sc_start, x12)))
  else (ob3 (f_X2_advance sc_token sc_start x12 tp_bytes tp_size) (fun x14 x15 x16 =>
  on (l3 + (1 : Int32)) (fun x17 =>
  f_X0_readPath_12 n l1 l2 x17 pa_fault x14 x15 x16 sh_names sh_nameLengths sh_groups sh_size tp_bytes tp_size)))))))
  else (ob1 (f_X3_find l2 sc_start sc_end sh_names sh_nameLengths sh_groups sh_size tp_bytes tp_size) (fun x20 =>
  ob2 (f_X2_passDot sc_end tp_bytes tp_size) (fun x21 x22 =>
  if x21 = (0 : Int32) then (f_X0_readPath_127 l1 x20 pa_fault sc_token sc_start x22 tp_bytes tp_size)
  else (ob1 (f_X2_isLetterBehind x22 tp_bytes tp_size) (fun x23 =>
  if x23 = (0 : Int32) then (ob2 (f_X0_refuse x22 pa_fault) (fun x28 x29 =>
  some ((-1 : Int32), x29, sc_token, sc_start, x22)))
  else (ob3 (f_X2_advance sc_token sc_start x22 tp_bytes tp_size) (fun x24 x25 x26 =>
  on (l3 + (1 : Int32)) (fun x27 =>
  f_X0_readPath_12 n l1 x20 x27 pa_fault x24 x25 x26 sh_names sh_nameLengths sh_groups sh_size tp_bytes tp_size))))))))))
  else (ob2 (f_X0_refuse sc_start pa_fault) (fun x30 x31 =>
  some ((-1 : Int32), x31, sc_token, sc_start, sc_end))))
set_option maxHeartbeats 4000000 in
set_option maxRecDepth 100000 in
theorem w_X0_readPath_12 {p : Program} {l : Launch} {e : Env} {s : State} {m : MethodId} {args : Array Value} {below : List Frame} {meth : Method} {c : Code} {E : EnvT} {A : Nat → Prop} {a_pa : Nat → Nat} {a_sc : Nat → Nat} {a_sh : Nat → Nat} {a_dr : Nat → Nat} {a_tp : Nat → Nat} {pa_itemPlaces : Nat → Int32} {pa_waitingSigns : Nat → Int32} {pa_waitingPlaces : Nat → Int32} {pa_waiting : Int32} {pa_nested : Int32} {sc_numberRead : Int64} {sc_escaped : Int32} {sc_bytesBehind : Int32} {sh_types : Nat → Int32} {sh_flat : Nat → Int32} {dr_items : Nat → Int32} {dr_behindBy : Nat → Int32} {dr_steps : Nat → Int32} {dr_literalTypes : Nat → Int32} {dr_numbers : Nat → Int64} {dr_textStarts : Nat → Int32} {dr_textLengths : Nat → Int32} {dr_textBytes : Nat → Int32} {dr_itemCount : Int32} {dr_byCount : Int32} {dr_stepCount : Int32} {dr_literalCount : Int32} {dr_textEnd : Int32} {r : Int32} {o_pa_fault : Int32} {o_sc_token : Int32} {o_sc_start : Int32} {o_sc_end : Int32} (C : MC p s m args meth c E A cX0_readPath 4 RX0 (some .int)) : ∀ (n : Nat) {l1 : Int32} {l2 : Int32} {l3 : Int32} {pa_fault : Int32} {sc_token : Int32} {sc_start : Int32} {sc_end : Int32} {sh_names : Nat → Int32} {sh_nameLengths : Nat → Int32} {sh_groups : Nat → Int32} {sh_size : Int32} {tp_bytes : Nat → Int32} {tp_size : Int32} {H : Heap} {locs : List Loc} {ls : Array Slot}, WS E A s (w_pa_sc_sh_dr_tp E a_pa a_sc a_sh a_dr a_tp pa_itemPlaces pa_waitingSigns pa_waitingPlaces pa_waiting pa_nested pa_fault sc_token sc_start sc_end sc_numberRead sc_escaped sc_bytesBehind sh_names sh_nameLengths sh_groups sh_types sh_flat sh_size dr_items dr_behindBy dr_steps dr_literalTypes dr_numbers dr_textStarts dr_textLengths dr_textBytes dr_itemCount dr_byCount dr_stepCount dr_literalCount dr_textEnd tp_bytes tp_size) H locs → lv_has ls 4 [(0, .ref (a_pa 0)), (1, .int l1), (2, .int l2), (3, .int l3)] → f_X0_readPath_12 n l1 l2 l3 pa_fault sc_token sc_start sc_end sh_names sh_nameLengths sh_groups sh_size tp_bytes tp_size = some (r, o_pa_fault, o_sc_token, o_sc_start, o_sc_end) → W p l e { frames := 6, cells := 0, slots := 0, locals := 130 } s m args below meth c H locs 0 0 (MQ below (QcI E A (w_pa_sc_sh_dr_tp E a_pa a_sc a_sh a_dr a_tp pa_itemPlaces pa_waitingSigns pa_waitingPlaces pa_waiting pa_nested o_pa_fault o_sc_token o_sc_start o_sc_end sc_numberRead sc_escaped sc_bytesBehind sh_names sh_nameLengths sh_groups sh_types sh_flat sh_size dr_items dr_behindBy dr_steps dr_literalTypes dr_numbers dr_textStarts dr_textLengths dr_textBytes dr_itemCount dr_byCount dr_stepCount dr_literalCount dr_textEnd tp_bytes tp_size) r) args s 0 0 A) (F0 m 12 ls []) := by
  have hx := C.1
  have hb := C.2.1
  intro n
  induction n with
  | zero =>
    intro l1 l2 l3 pa_fault sc_token sc_start sc_end sh_names sh_nameLengths sh_groups sh_size tp_bytes tp_size H locs ls hw hl hf
    unfold f_X0_readPath_12 at hf
    cases hf
  | succ n ih =>
    intro l1 l2 l3 pa_fault sc_token sc_start sc_end sh_names sh_nameLengths sh_groups sh_size tp_bytes tp_size H locs ls hw hl hf
    unfold f_X0_readPath_12 at hf
    refine lv_iload_n hx hb dX0_readPath_12 rfl (lv_at hl 3 rfl) ?_
    refine lv_sipush (v := 2000) hx hb dX0_readPath_13 (by decide) ?_
    refine lv_icmp_gt (tgt := 127) hx hb dX0_readPath_16 (by decide) (fun c16 => ?_) (fun c16 => ?_)
    · replace hf := it_t c16 hf
      exact w_X0_readPath_127 C hw (lv_sub hl [0, 1, 2] rfl) hf
    · replace hf := it_f c16 hf
      refine lv_aload_n hx hb dX0_readPath_19 rfl (lv_at hl 0 rfl) ?_
      refine fg_X0_37 C hw 0 rfl rfl dX0_readPath_20 ?_
      refine fg_X0_51 C hw 4 rfl rfl dX0_readPath_23 ?_
      refine lv_bipush (v := 16) hx hb dX0_readPath_26 (by decide) ?_
      refine lv_icmp_eq (tgt := 45) hx hb dX0_readPath_28 (by decide) (fun c28 => ?_) (fun c28 => ?_)
      · replace hf := it_t c28 hf
        refine lv_iload_n hx hb dX0_readPath_45 rfl (lv_at hl 3 rfl) ?_
        refine lv_if_eq (tgt := 54) hx hb dX0_readPath_46 (by decide) (fun c46 => ?_) (fun c46 => ?_)
        · replace hf := it_t c46 hf
          refine lv_aload_n hx hb dX0_readPath_54 rfl (lv_at hl 0 rfl) ?_
          refine fg_X0_28 C hw 0 rfl rfl dX0_readPath_55 ?_
          refine lv_iload_n hx hb dX0_readPath_58 rfl (lv_at hl 2 rfl) ?_
          refine lv_aload_n hx hb dX0_readPath_59 rfl (lv_at hl 0 rfl) ?_
          refine fg_X0_37 C hw 0 rfl rfl dX0_readPath_60 ?_
          refine fg_X0_54 C hw 4 rfl rfl dX0_readPath_63 ?_
          refine lv_aload_n hx hb dX0_readPath_66 rfl (lv_at hl 0 rfl) ?_
          refine fg_X0_37 C hw 0 rfl rfl dX0_readPath_67 ?_
          refine fg_X0_91 C hw 4 rfl rfl dX0_readPath_70 ?_
          obtain ⟨x1, z1, hf⟩ := ob1_el hf
          refine cI_V C hw (c_X3_find l E a_sh a_tp sh_names sh_nameLengths sh_groups sh_types sh_flat sh_size tp_bytes tp_size l2 sc_start sc_end x1 z1) cs_X0_94 ⟨Nat.le_of_ble_eq_true rfl, Nat.le_of_ble_eq_true rfl⟩ ⟨rfl, rfl⟩ (ci := 3) (cn := (RX3, TX3, 7)) rfl (q0 := 5) rfl (wn := w_pa_sc_sh_dr_tp E a_pa a_sc a_sh a_dr a_tp pa_itemPlaces pa_waitingSigns pa_waitingPlaces pa_waiting pa_nested pa_fault sc_token sc_start sc_end sc_numberRead sc_escaped sc_bytesBehind sh_names sh_nameLengths sh_groups sh_types sh_flat sh_size dr_items dr_behindBy dr_steps dr_literalTypes dr_numbers dr_textStarts dr_textLengths dr_textBytes dr_itemCount dr_byCount dr_stepCount dr_literalCount dr_textEnd tp_bytes tp_size) ⟨[5, 6, 7, 8, 9, 10, 20, 21], [0, 1, 2, 3, 4, 11, 12, 13, 14, 15, 16, 17, 18, 19], [0, 1, 2, 3, 4, 14, 15, 16, 17, 18, 19, 5, 6, 7, 8, 9, 10, 11, 12, 13, 20, 21], rfl, rfl, rfl, rfl, by decide, rfl, rfl⟩ rfl hl.1 rfl (Nat.le_of_ble_eq_true rfl) dX0_readPath_73 ⟨Nat.zero_le _, Nat.zero_le _⟩ (fun H locs hw => ?_)
          refine lv_istore_n (lv' := [(2, .int x1), (0, .ref (a_pa 0)), (1, .int l1), (3, .int l3)]) hx hb dX0_readPath_76 rfl hl (by decide) rfl (fun ls hl => ?_)
          refine lv_aload_n hx hb dX0_readPath_77 rfl (lv_at hl 1 rfl) ?_
          refine fg_X0_37 C hw 0 rfl rfl dX0_readPath_78 ?_
          obtain ⟨x2, x3, z3, hf⟩ := ob2_el hf
          refine cI_V C hw (c_X2_passDot l E a_sc a_tp sc_token sc_start sc_end sc_numberRead sc_escaped sc_bytesBehind tp_bytes tp_size x2 x3 z3) cs_X0_98 ⟨Nat.le_of_ble_eq_true rfl, Nat.le_of_ble_eq_true rfl⟩ ⟨rfl, rfl⟩ (ci := 2) (cn := (RX2, TX2, 7)) rfl (q0 := 4) rfl (wn := w_pa_sc_sh_dr_tp E a_pa a_sc a_sh a_dr a_tp pa_itemPlaces pa_waitingSigns pa_waitingPlaces pa_waiting pa_nested pa_fault sc_token sc_start x3 sc_numberRead sc_escaped sc_bytesBehind sh_names sh_nameLengths sh_groups sh_types sh_flat sh_size dr_items dr_behindBy dr_steps dr_literalTypes dr_numbers dr_textStarts dr_textLengths dr_textBytes dr_itemCount dr_byCount dr_stepCount dr_literalCount dr_textEnd tp_bytes tp_size) ⟨[4, 20, 21], [0, 1, 2, 3, 5, 6, 7, 8, 9, 10, 11, 12, 13, 14, 15, 16, 17, 18, 19], [0, 1, 2, 3, 19, 4, 5, 6, 7, 8, 9, 10, 11, 12, 13, 14, 15, 16, 17, 18, 20, 21], rfl, rfl, rfl, rfl, by decide, rfl, rfl⟩ rfl hl.1 rfl (Nat.le_of_ble_eq_true rfl) dX0_readPath_81 ⟨Nat.zero_le _, Nat.zero_le _⟩ (fun H locs hw => ?_)
          refine lv_if_ne (tgt := 90) hx hb dX0_readPath_84 (by decide) (fun c84 => ?_) (fun c84 => ?_)
          · replace hf := it_f c84 hf
            refine lv_aload_n hx hb dX0_readPath_90 rfl (lv_at hl 1 rfl) ?_
            refine fg_X0_37 C hw 0 rfl rfl dX0_readPath_91 ?_
            obtain ⟨x4, z4, hf⟩ := ob1_el hf
            refine cI_V C hw (c_X2_isLetterBehind l E a_sc a_tp sc_token sc_start x3 sc_numberRead sc_escaped sc_bytesBehind tp_bytes tp_size x4 z4) cs_X0_101 ⟨Nat.le_of_ble_eq_true rfl, Nat.le_of_ble_eq_true rfl⟩ ⟨rfl, rfl⟩ (ci := 2) (cn := (RX2, TX2, 7)) rfl (q0 := 4) rfl (wn := w_pa_sc_sh_dr_tp E a_pa a_sc a_sh a_dr a_tp pa_itemPlaces pa_waitingSigns pa_waitingPlaces pa_waiting pa_nested pa_fault sc_token sc_start x3 sc_numberRead sc_escaped sc_bytesBehind sh_names sh_nameLengths sh_groups sh_types sh_flat sh_size dr_items dr_behindBy dr_steps dr_literalTypes dr_numbers dr_textStarts dr_textLengths dr_textBytes dr_itemCount dr_byCount dr_stepCount dr_literalCount dr_textEnd tp_bytes tp_size) ⟨[4, 20, 21], [0, 1, 2, 3, 5, 6, 7, 8, 9, 10, 11, 12, 13, 14, 15, 16, 17, 18, 19], [0, 1, 2, 3, 19, 4, 5, 6, 7, 8, 9, 10, 11, 12, 13, 14, 15, 16, 17, 18, 20, 21], rfl, rfl, rfl, rfl, by decide, rfl, rfl⟩ rfl hl.1 rfl (Nat.le_of_ble_eq_true rfl) dX0_readPath_94 ⟨Nat.zero_le _, Nat.zero_le _⟩ (fun H locs hw => ?_)
            refine lv_if_ne (tgt := 114) hx hb dX0_readPath_97 (by decide) (fun c97 => ?_) (fun c97 => ?_)
            · replace hf := it_f c97 hf
              refine lv_aload_n hx hb dX0_readPath_114 rfl (lv_at hl 1 rfl) ?_
              refine fg_X0_37 C hw 0 rfl rfl dX0_readPath_115 ?_
              obtain ⟨x5, x6, x7, z7, hf⟩ := ob3_el hf
              refine cV_V C hw (c_X2_advance l E a_sc a_tp sc_token sc_start x3 sc_numberRead sc_escaped sc_bytesBehind tp_bytes tp_size x5 x6 x7 z7) cs_X0_61 ⟨Nat.le_of_ble_eq_true rfl, Nat.le_of_ble_eq_true rfl⟩ ⟨rfl, rfl⟩ (ci := 2) (cn := (RX2, TX2, 7)) rfl (q0 := 4) rfl (wn := w_pa_sc_sh_dr_tp E a_pa a_sc a_sh a_dr a_tp pa_itemPlaces pa_waitingSigns pa_waitingPlaces pa_waiting pa_nested pa_fault x5 x6 x7 sc_numberRead sc_escaped sc_bytesBehind sh_names sh_nameLengths sh_groups sh_types sh_flat sh_size dr_items dr_behindBy dr_steps dr_literalTypes dr_numbers dr_textStarts dr_textLengths dr_textBytes dr_itemCount dr_byCount dr_stepCount dr_literalCount dr_textEnd tp_bytes tp_size) ⟨[4, 20, 21], [0, 1, 2, 3, 5, 6, 7, 8, 9, 10, 11, 12, 13, 14, 15, 16, 17, 18, 19], [0, 1, 2, 3, 19, 4, 5, 6, 7, 8, 9, 10, 11, 12, 13, 14, 15, 16, 17, 18, 20, 21], rfl, rfl, rfl, rfl, by decide, rfl, rfl⟩ rfl hl.1 rfl (Nat.le_of_ble_eq_true rfl) dX0_readPath_118 ⟨Nat.zero_le _, Nat.zero_le _⟩ (fun H locs hw => ?_)
              obtain ⟨x8, ex8, hf⟩ := on_el hf
              refine lv_iinc (v := x8) (lv' := [(3, .int x8), (2, .int x1), (0, .ref (a_pa 0)), (1, .int l1)]) hx hb dX0_readPath_121 hl (k := 3) rfl (by rw [← ex8]; rfl) (by decide) rfl (fun ls hl => ?_)
              refine lv_goto (tgt := 12) hx hb dX0_readPath_124 (by decide) ?_
              exact ih hw (lv_sub hl [2, 3, 1, 0] rfl) hf
            · replace hf := it_t c97 hf
              refine lv_aload_n hx hb dX0_readPath_100 rfl (lv_at hl 1 rfl) ?_
              refine lv_aload_n hx hb dX0_readPath_101 rfl (lv_at hl 1 rfl) ?_
              refine fg_X0_37 C hw 0 rfl rfl dX0_readPath_102 ?_
              refine fg_X0_91 C hw 4 rfl rfl dX0_readPath_105 ?_
              obtain ⟨x9, x10, z10, hf⟩ := ob2_el hf
              refine cI_V C hw (c_X0_refuse l E a_pa a_sc a_sh a_dr a_tp pa_itemPlaces pa_waitingSigns pa_waitingPlaces pa_waiting pa_nested pa_fault sc_token sc_start x3 sc_numberRead sc_escaped sc_bytesBehind sh_names sh_nameLengths sh_groups sh_types sh_flat sh_size dr_items dr_behindBy dr_steps dr_literalTypes dr_numbers dr_textStarts dr_textLengths dr_textBytes dr_itemCount dr_byCount dr_stepCount dr_literalCount dr_textEnd tp_bytes tp_size x3 x9 x10 z10) cs_X0_57 ⟨Nat.le_of_ble_eq_true rfl, Nat.le_of_ble_eq_true rfl⟩ ⟨rfl, rfl⟩ (ci := 0) (cn := (RX0, TX0, 9)) rfl (q0 := 0) rfl (wn := w_pa_sc_sh_dr_tp E a_pa a_sc a_sh a_dr a_tp pa_itemPlaces pa_waitingSigns pa_waitingPlaces pa_waiting pa_nested x10 sc_token sc_start x3 sc_numberRead sc_escaped sc_bytesBehind sh_names sh_nameLengths sh_groups sh_types sh_flat sh_size dr_items dr_behindBy dr_steps dr_literalTypes dr_numbers dr_textStarts dr_textLengths dr_textBytes dr_itemCount dr_byCount dr_stepCount dr_literalCount dr_textEnd tp_bytes tp_size) (Jn.all _ _) rfl hl.1 rfl (Nat.le_of_ble_eq_true rfl) dX0_readPath_108 ⟨Nat.zero_le _, Nat.zero_le _⟩ (fun H locs hw => ?_)
              refine lv_pop hx hb dX0_readPath_111 rfl ?_
              refine lv_iconst (v := -1) hx hb dX0_readPath_112 (by decide) ?_
              cases hf
              exact rt_i C hw dX0_readPath_113
          · replace hf := it_t c84 hf
            refine lv_goto (tgt := 127) hx hb dX0_readPath_87 (by decide) ?_
            exact w_X0_readPath_127 C hw (lv_sub hl [1, 2, 0] rfl) hf
        · replace hf := it_f c46 hf
          refine lv_iload_n hx hb dX0_readPath_49 rfl (lv_at hl 2 rfl) ?_
          refine lv_iconst (v := -1) hx hb dX0_readPath_50 (by decide) ?_
          refine lv_icmp_eq (tgt := 77) hx hb dX0_readPath_51 (by decide) (fun c51 => ?_) (fun c51 => ?_)
          · replace hf := it_t c51 hf
            refine lv_aload_n hx hb dX0_readPath_77 rfl (lv_at hl 0 rfl) ?_
            refine fg_X0_37 C hw 0 rfl rfl dX0_readPath_78 ?_
            obtain ⟨x11, x12, z12, hf⟩ := ob2_el hf
            refine cI_V C hw (c_X2_passDot l E a_sc a_tp sc_token sc_start sc_end sc_numberRead sc_escaped sc_bytesBehind tp_bytes tp_size x11 x12 z12) cs_X0_98 ⟨Nat.le_of_ble_eq_true rfl, Nat.le_of_ble_eq_true rfl⟩ ⟨rfl, rfl⟩ (ci := 2) (cn := (RX2, TX2, 7)) rfl (q0 := 4) rfl (wn := w_pa_sc_sh_dr_tp E a_pa a_sc a_sh a_dr a_tp pa_itemPlaces pa_waitingSigns pa_waitingPlaces pa_waiting pa_nested pa_fault sc_token sc_start x12 sc_numberRead sc_escaped sc_bytesBehind sh_names sh_nameLengths sh_groups sh_types sh_flat sh_size dr_items dr_behindBy dr_steps dr_literalTypes dr_numbers dr_textStarts dr_textLengths dr_textBytes dr_itemCount dr_byCount dr_stepCount dr_literalCount dr_textEnd tp_bytes tp_size) ⟨[4, 20, 21], [0, 1, 2, 3, 5, 6, 7, 8, 9, 10, 11, 12, 13, 14, 15, 16, 17, 18, 19], [0, 1, 2, 3, 19, 4, 5, 6, 7, 8, 9, 10, 11, 12, 13, 14, 15, 16, 17, 18, 20, 21], rfl, rfl, rfl, rfl, by decide, rfl, rfl⟩ rfl hl.1 rfl (Nat.le_of_ble_eq_true rfl) dX0_readPath_81 ⟨Nat.zero_le _, Nat.zero_le _⟩ (fun H locs hw => ?_)
            refine lv_if_ne (tgt := 90) hx hb dX0_readPath_84 (by decide) (fun c84 => ?_) (fun c84 => ?_)
            · replace hf := it_f c84 hf
              refine lv_aload_n hx hb dX0_readPath_90 rfl (lv_at hl 0 rfl) ?_
              refine fg_X0_37 C hw 0 rfl rfl dX0_readPath_91 ?_
              obtain ⟨x13, z13, hf⟩ := ob1_el hf
              refine cI_V C hw (c_X2_isLetterBehind l E a_sc a_tp sc_token sc_start x12 sc_numberRead sc_escaped sc_bytesBehind tp_bytes tp_size x13 z13) cs_X0_101 ⟨Nat.le_of_ble_eq_true rfl, Nat.le_of_ble_eq_true rfl⟩ ⟨rfl, rfl⟩ (ci := 2) (cn := (RX2, TX2, 7)) rfl (q0 := 4) rfl (wn := w_pa_sc_sh_dr_tp E a_pa a_sc a_sh a_dr a_tp pa_itemPlaces pa_waitingSigns pa_waitingPlaces pa_waiting pa_nested pa_fault sc_token sc_start x12 sc_numberRead sc_escaped sc_bytesBehind sh_names sh_nameLengths sh_groups sh_types sh_flat sh_size dr_items dr_behindBy dr_steps dr_literalTypes dr_numbers dr_textStarts dr_textLengths dr_textBytes dr_itemCount dr_byCount dr_stepCount dr_literalCount dr_textEnd tp_bytes tp_size) ⟨[4, 20, 21], [0, 1, 2, 3, 5, 6, 7, 8, 9, 10, 11, 12, 13, 14, 15, 16, 17, 18, 19], [0, 1, 2, 3, 19, 4, 5, 6, 7, 8, 9, 10, 11, 12, 13, 14, 15, 16, 17, 18, 20, 21], rfl, rfl, rfl, rfl, by decide, rfl, rfl⟩ rfl hl.1 rfl (Nat.le_of_ble_eq_true rfl) dX0_readPath_94 ⟨Nat.zero_le _, Nat.zero_le _⟩ (fun H locs hw => ?_)
              refine lv_if_ne (tgt := 114) hx hb dX0_readPath_97 (by decide) (fun c97 => ?_) (fun c97 => ?_)
              · replace hf := it_f c97 hf
                refine lv_aload_n hx hb dX0_readPath_114 rfl (lv_at hl 0 rfl) ?_
                refine fg_X0_37 C hw 0 rfl rfl dX0_readPath_115 ?_
                obtain ⟨x14, x15, x16, z16, hf⟩ := ob3_el hf
                refine cV_V C hw (c_X2_advance l E a_sc a_tp sc_token sc_start x12 sc_numberRead sc_escaped sc_bytesBehind tp_bytes tp_size x14 x15 x16 z16) cs_X0_61 ⟨Nat.le_of_ble_eq_true rfl, Nat.le_of_ble_eq_true rfl⟩ ⟨rfl, rfl⟩ (ci := 2) (cn := (RX2, TX2, 7)) rfl (q0 := 4) rfl (wn := w_pa_sc_sh_dr_tp E a_pa a_sc a_sh a_dr a_tp pa_itemPlaces pa_waitingSigns pa_waitingPlaces pa_waiting pa_nested pa_fault x14 x15 x16 sc_numberRead sc_escaped sc_bytesBehind sh_names sh_nameLengths sh_groups sh_types sh_flat sh_size dr_items dr_behindBy dr_steps dr_literalTypes dr_numbers dr_textStarts dr_textLengths dr_textBytes dr_itemCount dr_byCount dr_stepCount dr_literalCount dr_textEnd tp_bytes tp_size) ⟨[4, 20, 21], [0, 1, 2, 3, 5, 6, 7, 8, 9, 10, 11, 12, 13, 14, 15, 16, 17, 18, 19], [0, 1, 2, 3, 19, 4, 5, 6, 7, 8, 9, 10, 11, 12, 13, 14, 15, 16, 17, 18, 20, 21], rfl, rfl, rfl, rfl, by decide, rfl, rfl⟩ rfl hl.1 rfl (Nat.le_of_ble_eq_true rfl) dX0_readPath_118 ⟨Nat.zero_le _, Nat.zero_le _⟩ (fun H locs hw => ?_)
                obtain ⟨x17, ex17, hf⟩ := on_el hf
                refine lv_iinc (v := x17) (lv' := [(3, .int x17), (0, .ref (a_pa 0)), (1, .int l1), (2, .int l2)]) hx hb dX0_readPath_121 hl (k := 3) rfl (by rw [← ex17]; rfl) (by decide) rfl (fun ls hl => ?_)
                refine lv_goto (tgt := 12) hx hb dX0_readPath_124 (by decide) ?_
                exact ih hw (lv_sub hl [1, 2, 3, 0] rfl) hf
              · replace hf := it_t c97 hf
                refine lv_aload_n hx hb dX0_readPath_100 rfl (lv_at hl 0 rfl) ?_
                refine lv_aload_n hx hb dX0_readPath_101 rfl (lv_at hl 0 rfl) ?_
                refine fg_X0_37 C hw 0 rfl rfl dX0_readPath_102 ?_
                refine fg_X0_91 C hw 4 rfl rfl dX0_readPath_105 ?_
                obtain ⟨x18, x19, z19, hf⟩ := ob2_el hf
                refine cI_V C hw (c_X0_refuse l E a_pa a_sc a_sh a_dr a_tp pa_itemPlaces pa_waitingSigns pa_waitingPlaces pa_waiting pa_nested pa_fault sc_token sc_start x12 sc_numberRead sc_escaped sc_bytesBehind sh_names sh_nameLengths sh_groups sh_types sh_flat sh_size dr_items dr_behindBy dr_steps dr_literalTypes dr_numbers dr_textStarts dr_textLengths dr_textBytes dr_itemCount dr_byCount dr_stepCount dr_literalCount dr_textEnd tp_bytes tp_size x12 x18 x19 z19) cs_X0_57 ⟨Nat.le_of_ble_eq_true rfl, Nat.le_of_ble_eq_true rfl⟩ ⟨rfl, rfl⟩ (ci := 0) (cn := (RX0, TX0, 9)) rfl (q0 := 0) rfl (wn := w_pa_sc_sh_dr_tp E a_pa a_sc a_sh a_dr a_tp pa_itemPlaces pa_waitingSigns pa_waitingPlaces pa_waiting pa_nested x19 sc_token sc_start x12 sc_numberRead sc_escaped sc_bytesBehind sh_names sh_nameLengths sh_groups sh_types sh_flat sh_size dr_items dr_behindBy dr_steps dr_literalTypes dr_numbers dr_textStarts dr_textLengths dr_textBytes dr_itemCount dr_byCount dr_stepCount dr_literalCount dr_textEnd tp_bytes tp_size) (Jn.all _ _) rfl hl.1 rfl (Nat.le_of_ble_eq_true rfl) dX0_readPath_108 ⟨Nat.zero_le _, Nat.zero_le _⟩ (fun H locs hw => ?_)
                refine lv_pop hx hb dX0_readPath_111 rfl ?_
                refine lv_iconst (v := -1) hx hb dX0_readPath_112 (by decide) ?_
                cases hf
                exact rt_i C hw dX0_readPath_113
            · replace hf := it_t c84 hf
              refine lv_goto (tgt := 127) hx hb dX0_readPath_87 (by decide) ?_
              exact w_X0_readPath_127 C hw (lv_sub hl [0, 1, 2] rfl) hf
          · replace hf := it_f c51 hf
            refine lv_aload_n hx hb dX0_readPath_54 rfl (lv_at hl 0 rfl) ?_
            refine fg_X0_28 C hw 0 rfl rfl dX0_readPath_55 ?_
            refine lv_iload_n hx hb dX0_readPath_58 rfl (lv_at hl 2 rfl) ?_
            refine lv_aload_n hx hb dX0_readPath_59 rfl (lv_at hl 0 rfl) ?_
            refine fg_X0_37 C hw 0 rfl rfl dX0_readPath_60 ?_
            refine fg_X0_54 C hw 4 rfl rfl dX0_readPath_63 ?_
            refine lv_aload_n hx hb dX0_readPath_66 rfl (lv_at hl 0 rfl) ?_
            refine fg_X0_37 C hw 0 rfl rfl dX0_readPath_67 ?_
            refine fg_X0_91 C hw 4 rfl rfl dX0_readPath_70 ?_
            obtain ⟨x20, z20, hf⟩ := ob1_el hf
            refine cI_V C hw (c_X3_find l E a_sh a_tp sh_names sh_nameLengths sh_groups sh_types sh_flat sh_size tp_bytes tp_size l2 sc_start sc_end x20 z20) cs_X0_94 ⟨Nat.le_of_ble_eq_true rfl, Nat.le_of_ble_eq_true rfl⟩ ⟨rfl, rfl⟩ (ci := 3) (cn := (RX3, TX3, 7)) rfl (q0 := 5) rfl (wn := w_pa_sc_sh_dr_tp E a_pa a_sc a_sh a_dr a_tp pa_itemPlaces pa_waitingSigns pa_waitingPlaces pa_waiting pa_nested pa_fault sc_token sc_start sc_end sc_numberRead sc_escaped sc_bytesBehind sh_names sh_nameLengths sh_groups sh_types sh_flat sh_size dr_items dr_behindBy dr_steps dr_literalTypes dr_numbers dr_textStarts dr_textLengths dr_textBytes dr_itemCount dr_byCount dr_stepCount dr_literalCount dr_textEnd tp_bytes tp_size) ⟨[5, 6, 7, 8, 9, 10, 20, 21], [0, 1, 2, 3, 4, 11, 12, 13, 14, 15, 16, 17, 18, 19], [0, 1, 2, 3, 4, 14, 15, 16, 17, 18, 19, 5, 6, 7, 8, 9, 10, 11, 12, 13, 20, 21], rfl, rfl, rfl, rfl, by decide, rfl, rfl⟩ rfl hl.1 rfl (Nat.le_of_ble_eq_true rfl) dX0_readPath_73 ⟨Nat.zero_le _, Nat.zero_le _⟩ (fun H locs hw => ?_)
            refine lv_istore_n (lv' := [(2, .int x20), (0, .ref (a_pa 0)), (1, .int l1), (3, .int l3)]) hx hb dX0_readPath_76 rfl hl (by decide) rfl (fun ls hl => ?_)
            refine lv_aload_n hx hb dX0_readPath_77 rfl (lv_at hl 1 rfl) ?_
            refine fg_X0_37 C hw 0 rfl rfl dX0_readPath_78 ?_
            obtain ⟨x21, x22, z22, hf⟩ := ob2_el hf
            refine cI_V C hw (c_X2_passDot l E a_sc a_tp sc_token sc_start sc_end sc_numberRead sc_escaped sc_bytesBehind tp_bytes tp_size x21 x22 z22) cs_X0_98 ⟨Nat.le_of_ble_eq_true rfl, Nat.le_of_ble_eq_true rfl⟩ ⟨rfl, rfl⟩ (ci := 2) (cn := (RX2, TX2, 7)) rfl (q0 := 4) rfl (wn := w_pa_sc_sh_dr_tp E a_pa a_sc a_sh a_dr a_tp pa_itemPlaces pa_waitingSigns pa_waitingPlaces pa_waiting pa_nested pa_fault sc_token sc_start x22 sc_numberRead sc_escaped sc_bytesBehind sh_names sh_nameLengths sh_groups sh_types sh_flat sh_size dr_items dr_behindBy dr_steps dr_literalTypes dr_numbers dr_textStarts dr_textLengths dr_textBytes dr_itemCount dr_byCount dr_stepCount dr_literalCount dr_textEnd tp_bytes tp_size) ⟨[4, 20, 21], [0, 1, 2, 3, 5, 6, 7, 8, 9, 10, 11, 12, 13, 14, 15, 16, 17, 18, 19], [0, 1, 2, 3, 19, 4, 5, 6, 7, 8, 9, 10, 11, 12, 13, 14, 15, 16, 17, 18, 20, 21], rfl, rfl, rfl, rfl, by decide, rfl, rfl⟩ rfl hl.1 rfl (Nat.le_of_ble_eq_true rfl) dX0_readPath_81 ⟨Nat.zero_le _, Nat.zero_le _⟩ (fun H locs hw => ?_)
            refine lv_if_ne (tgt := 90) hx hb dX0_readPath_84 (by decide) (fun c84 => ?_) (fun c84 => ?_)
            · replace hf := it_f c84 hf
              refine lv_aload_n hx hb dX0_readPath_90 rfl (lv_at hl 1 rfl) ?_
              refine fg_X0_37 C hw 0 rfl rfl dX0_readPath_91 ?_
              obtain ⟨x23, z23, hf⟩ := ob1_el hf
              refine cI_V C hw (c_X2_isLetterBehind l E a_sc a_tp sc_token sc_start x22 sc_numberRead sc_escaped sc_bytesBehind tp_bytes tp_size x23 z23) cs_X0_101 ⟨Nat.le_of_ble_eq_true rfl, Nat.le_of_ble_eq_true rfl⟩ ⟨rfl, rfl⟩ (ci := 2) (cn := (RX2, TX2, 7)) rfl (q0 := 4) rfl (wn := w_pa_sc_sh_dr_tp E a_pa a_sc a_sh a_dr a_tp pa_itemPlaces pa_waitingSigns pa_waitingPlaces pa_waiting pa_nested pa_fault sc_token sc_start x22 sc_numberRead sc_escaped sc_bytesBehind sh_names sh_nameLengths sh_groups sh_types sh_flat sh_size dr_items dr_behindBy dr_steps dr_literalTypes dr_numbers dr_textStarts dr_textLengths dr_textBytes dr_itemCount dr_byCount dr_stepCount dr_literalCount dr_textEnd tp_bytes tp_size) ⟨[4, 20, 21], [0, 1, 2, 3, 5, 6, 7, 8, 9, 10, 11, 12, 13, 14, 15, 16, 17, 18, 19], [0, 1, 2, 3, 19, 4, 5, 6, 7, 8, 9, 10, 11, 12, 13, 14, 15, 16, 17, 18, 20, 21], rfl, rfl, rfl, rfl, by decide, rfl, rfl⟩ rfl hl.1 rfl (Nat.le_of_ble_eq_true rfl) dX0_readPath_94 ⟨Nat.zero_le _, Nat.zero_le _⟩ (fun H locs hw => ?_)
              refine lv_if_ne (tgt := 114) hx hb dX0_readPath_97 (by decide) (fun c97 => ?_) (fun c97 => ?_)
              · replace hf := it_f c97 hf
                refine lv_aload_n hx hb dX0_readPath_114 rfl (lv_at hl 1 rfl) ?_
                refine fg_X0_37 C hw 0 rfl rfl dX0_readPath_115 ?_
                obtain ⟨x24, x25, x26, z26, hf⟩ := ob3_el hf
                refine cV_V C hw (c_X2_advance l E a_sc a_tp sc_token sc_start x22 sc_numberRead sc_escaped sc_bytesBehind tp_bytes tp_size x24 x25 x26 z26) cs_X0_61 ⟨Nat.le_of_ble_eq_true rfl, Nat.le_of_ble_eq_true rfl⟩ ⟨rfl, rfl⟩ (ci := 2) (cn := (RX2, TX2, 7)) rfl (q0 := 4) rfl (wn := w_pa_sc_sh_dr_tp E a_pa a_sc a_sh a_dr a_tp pa_itemPlaces pa_waitingSigns pa_waitingPlaces pa_waiting pa_nested pa_fault x24 x25 x26 sc_numberRead sc_escaped sc_bytesBehind sh_names sh_nameLengths sh_groups sh_types sh_flat sh_size dr_items dr_behindBy dr_steps dr_literalTypes dr_numbers dr_textStarts dr_textLengths dr_textBytes dr_itemCount dr_byCount dr_stepCount dr_literalCount dr_textEnd tp_bytes tp_size) ⟨[4, 20, 21], [0, 1, 2, 3, 5, 6, 7, 8, 9, 10, 11, 12, 13, 14, 15, 16, 17, 18, 19], [0, 1, 2, 3, 19, 4, 5, 6, 7, 8, 9, 10, 11, 12, 13, 14, 15, 16, 17, 18, 20, 21], rfl, rfl, rfl, rfl, by decide, rfl, rfl⟩ rfl hl.1 rfl (Nat.le_of_ble_eq_true rfl) dX0_readPath_118 ⟨Nat.zero_le _, Nat.zero_le _⟩ (fun H locs hw => ?_)
                obtain ⟨x27, ex27, hf⟩ := on_el hf
                refine lv_iinc (v := x27) (lv' := [(3, .int x27), (2, .int x20), (0, .ref (a_pa 0)), (1, .int l1)]) hx hb dX0_readPath_121 hl (k := 3) rfl (by rw [← ex27]; rfl) (by decide) rfl (fun ls hl => ?_)
                refine lv_goto (tgt := 12) hx hb dX0_readPath_124 (by decide) ?_
                exact ih hw (lv_sub hl [2, 3, 1, 0] rfl) hf
              · replace hf := it_t c97 hf
                refine lv_aload_n hx hb dX0_readPath_100 rfl (lv_at hl 1 rfl) ?_
                refine lv_aload_n hx hb dX0_readPath_101 rfl (lv_at hl 1 rfl) ?_
                refine fg_X0_37 C hw 0 rfl rfl dX0_readPath_102 ?_
                refine fg_X0_91 C hw 4 rfl rfl dX0_readPath_105 ?_
                obtain ⟨x28, x29, z29, hf⟩ := ob2_el hf
                refine cI_V C hw (c_X0_refuse l E a_pa a_sc a_sh a_dr a_tp pa_itemPlaces pa_waitingSigns pa_waitingPlaces pa_waiting pa_nested pa_fault sc_token sc_start x22 sc_numberRead sc_escaped sc_bytesBehind sh_names sh_nameLengths sh_groups sh_types sh_flat sh_size dr_items dr_behindBy dr_steps dr_literalTypes dr_numbers dr_textStarts dr_textLengths dr_textBytes dr_itemCount dr_byCount dr_stepCount dr_literalCount dr_textEnd tp_bytes tp_size x22 x28 x29 z29) cs_X0_57 ⟨Nat.le_of_ble_eq_true rfl, Nat.le_of_ble_eq_true rfl⟩ ⟨rfl, rfl⟩ (ci := 0) (cn := (RX0, TX0, 9)) rfl (q0 := 0) rfl (wn := w_pa_sc_sh_dr_tp E a_pa a_sc a_sh a_dr a_tp pa_itemPlaces pa_waitingSigns pa_waitingPlaces pa_waiting pa_nested x29 sc_token sc_start x22 sc_numberRead sc_escaped sc_bytesBehind sh_names sh_nameLengths sh_groups sh_types sh_flat sh_size dr_items dr_behindBy dr_steps dr_literalTypes dr_numbers dr_textStarts dr_textLengths dr_textBytes dr_itemCount dr_byCount dr_stepCount dr_literalCount dr_textEnd tp_bytes tp_size) (Jn.all _ _) rfl hl.1 rfl (Nat.le_of_ble_eq_true rfl) dX0_readPath_108 ⟨Nat.zero_le _, Nat.zero_le _⟩ (fun H locs hw => ?_)
                refine lv_pop hx hb dX0_readPath_111 rfl ?_
                refine lv_iconst (v := -1) hx hb dX0_readPath_112 (by decide) ?_
                cases hf
                exact rt_i C hw dX0_readPath_113
            · replace hf := it_t c84 hf
              refine lv_goto (tgt := 127) hx hb dX0_readPath_87 (by decide) ?_
              exact w_X0_readPath_127 C hw (lv_sub hl [1, 2, 0] rfl) hf
      · replace hf := it_f c28 hf
        refine lv_aload_n hx hb dX0_readPath_31 rfl (lv_at hl 0 rfl) ?_
        refine lv_aload_n hx hb dX0_readPath_32 rfl (lv_at hl 0 rfl) ?_
        refine fg_X0_37 C hw 0 rfl rfl dX0_readPath_33 ?_
        refine fg_X0_54 C hw 4 rfl rfl dX0_readPath_36 ?_
        obtain ⟨x30, x31, z31, hf⟩ := ob2_el hf
        refine cI_V C hw (c_X0_refuse l E a_pa a_sc a_sh a_dr a_tp pa_itemPlaces pa_waitingSigns pa_waitingPlaces pa_waiting pa_nested pa_fault sc_token sc_start sc_end sc_numberRead sc_escaped sc_bytesBehind sh_names sh_nameLengths sh_groups sh_types sh_flat sh_size dr_items dr_behindBy dr_steps dr_literalTypes dr_numbers dr_textStarts dr_textLengths dr_textBytes dr_itemCount dr_byCount dr_stepCount dr_literalCount dr_textEnd tp_bytes tp_size sc_start x30 x31 z31) cs_X0_57 ⟨Nat.le_of_ble_eq_true rfl, Nat.le_of_ble_eq_true rfl⟩ ⟨rfl, rfl⟩ (ci := 0) (cn := (RX0, TX0, 9)) rfl (q0 := 0) rfl (wn := w_pa_sc_sh_dr_tp E a_pa a_sc a_sh a_dr a_tp pa_itemPlaces pa_waitingSigns pa_waitingPlaces pa_waiting pa_nested x31 sc_token sc_start sc_end sc_numberRead sc_escaped sc_bytesBehind sh_names sh_nameLengths sh_groups sh_types sh_flat sh_size dr_items dr_behindBy dr_steps dr_literalTypes dr_numbers dr_textStarts dr_textLengths dr_textBytes dr_itemCount dr_byCount dr_stepCount dr_literalCount dr_textEnd tp_bytes tp_size) (Jn.all _ _) rfl hl.1 rfl (Nat.le_of_ble_eq_true rfl) dX0_readPath_39 ⟨Nat.zero_le _, Nat.zero_le _⟩ (fun H locs hw => ?_)
        refine lv_pop hx hb dX0_readPath_42 rfl ?_
        refine lv_iconst (v := -1) hx hb dX0_readPath_43 (by decide) ?_
        cases hf
        exact rt_i C hw dX0_readPath_44
def f_X0_readPath (pa_fault : Int32) (sc_token : Int32) (sc_start : Int32) (sc_end : Int32) (sh_names : Nat → Int32) (sh_nameLengths : Nat → Int32) (sh_groups : Nat → Int32) (sh_size : Int32) (tp_bytes : Nat → Int32) (tp_size : Int32) : Option ((Int32) × (Int32) × (Int32) × (Int32) × (Int32)) :=
  f_X0_readPath_12 FU sc_start (-1 : Int32) (0 : Int32) pa_fault sc_token sc_start sc_end sh_names sh_nameLengths sh_groups sh_size tp_bytes tp_size
set_option maxHeartbeats 4000000 in
set_option maxRecDepth 100000 in
theorem c_X0_readPath (l : Launch) (E : EnvT) (a_pa : Nat → Nat) (a_sc : Nat → Nat) (a_sh : Nat → Nat) (a_dr : Nat → Nat) (a_tp : Nat → Nat) (pa_itemPlaces : Nat → Int32) (pa_waitingSigns : Nat → Int32) (pa_waitingPlaces : Nat → Int32) (pa_waiting : Int32) (pa_nested : Int32) (pa_fault : Int32) (sc_token : Int32) (sc_start : Int32) (sc_end : Int32) (sc_numberRead : Int64) (sc_escaped : Int32) (sc_bytesBehind : Int32) (sh_names : Nat → Int32) (sh_nameLengths : Nat → Int32) (sh_groups : Nat → Int32) (sh_types : Nat → Int32) (sh_flat : Nat → Int32) (sh_size : Int32) (dr_items : Nat → Int32) (dr_behindBy : Nat → Int32) (dr_steps : Nat → Int32) (dr_literalTypes : Nat → Int32) (dr_numbers : Nat → Int64) (dr_textStarts : Nat → Int32) (dr_textLengths : Nat → Int32) (dr_textBytes : Nat → Int32) (dr_itemCount : Int32) (dr_byCount : Int32) (dr_stepCount : Int32) (dr_literalCount : Int32) (dr_textEnd : Int32) (tp_bytes : Nat → Int32) (tp_size : Int32) (r : Int32) (o_pa_fault : Int32) (o_sc_token : Int32) (o_sc_start : Int32) (o_sc_end : Int32) (hf : f_X0_readPath pa_fault sc_token sc_start sc_end sh_names sh_nameLengths sh_groups sh_size tp_bytes tp_size = some (r, o_pa_fault, o_sc_token, o_sc_start, o_sc_end)) : CI l yX0_readPath (Cond.code yX0_readPath cX0_readPath 4 (some .int)) { frames := 6, cells := 0, slots := 0, locals := 130 } E [.ref (a_pa 0)] (w_pa_sc_sh_dr_tp E a_pa a_sc a_sh a_dr a_tp pa_itemPlaces pa_waitingSigns pa_waitingPlaces pa_waiting pa_nested pa_fault sc_token sc_start sc_end sc_numberRead sc_escaped sc_bytesBehind sh_names sh_nameLengths sh_groups sh_types sh_flat sh_size dr_items dr_behindBy dr_steps dr_literalTypes dr_numbers dr_textStarts dr_textLengths dr_textBytes dr_itemCount dr_byCount dr_stepCount dr_literalCount dr_textEnd tp_bytes tp_size) r (w_pa_sc_sh_dr_tp E a_pa a_sc a_sh a_dr a_tp pa_itemPlaces pa_waitingSigns pa_waitingPlaces pa_waiting pa_nested o_pa_fault o_sc_token o_sc_start o_sc_end sc_numberRead sc_escaped sc_bytesBehind sh_names sh_nameLengths sh_groups sh_types sh_flat sh_size dr_items dr_behindBy dr_steps dr_literalTypes dr_numbers dr_textStarts dr_textLengths dr_textBytes dr_itemCount dr_byCount dr_stepCount dr_literalCount dr_textEnd tp_bytes tp_size) := by
  intro sz
  refine met_start [(0, .ref (a_pa 0))] (by decide) rfl rfl (Nat.le_of_ble_eq_true rfl) rfl ?_
  intro p e s m below meth c ls C hnm hmt hw hl
  have hx := C.1
  have hb := C.2.1
  generalize va_A (w_pa_sc_sh_dr_tp E a_pa a_sc a_sh a_dr a_tp pa_itemPlaces pa_waitingSigns pa_waitingPlaces pa_waiting pa_nested pa_fault sc_token sc_start sc_end sc_numberRead sc_escaped sc_bytesBehind sh_names sh_nameLengths sh_groups sh_types sh_flat sh_size dr_items dr_behindBy dr_steps dr_literalTypes dr_numbers dr_textStarts dr_textLengths dr_textBytes dr_itemCount dr_byCount dr_stepCount dr_literalCount dr_textEnd tp_bytes tp_size) sz = A at C hw ⊢
  unfold f_X0_readPath at hf
  refine lv_aload_n hx hb dX0_readPath_0 rfl (lv_at hl 0 rfl) ?_
  refine fg_X0_37 C hw 0 rfl rfl dX0_readPath_1 ?_
  refine fg_X0_54 C hw 4 rfl rfl dX0_readPath_4 ?_
  refine lv_istore_n (lv' := [(1, .int sc_start), (0, .ref (a_pa 0))]) hx hb dX0_readPath_7 rfl hl (by decide) rfl (fun ls hl => ?_)
  refine lv_iconst (v := -1) hx hb dX0_readPath_8 (by decide) ?_
  refine lv_istore_n (lv' := [(2, .int (-1 : Int32)), (1, .int sc_start), (0, .ref (a_pa 0))]) hx hb dX0_readPath_9 rfl hl (by decide) rfl (fun ls hl => ?_)
  refine lv_iconst (v := 0) hx hb dX0_readPath_10 (by decide) ?_
  refine lv_istore_n (lv' := [(3, .int (0 : Int32)), (2, .int (-1 : Int32)), (1, .int sc_start), (0, .ref (a_pa 0))]) hx hb dX0_readPath_11 rfl hl (by decide) rfl (fun ls hl => ?_)
  exact w_X0_readPath_12 C FU hw (lv_sub hl [3, 2, 1, 0] rfl) hf
def f_X0_isOfNumbers (p1 : Int32) : Option ((Int32)) :=
  if p1 = (1 : Int32) then (some (1 : Int32))
  else (if p1 = (2 : Int32) then (some (1 : Int32))
  else (some (0 : Int32)))
set_option maxHeartbeats 4000000 in
set_option maxRecDepth 100000 in
theorem c_X0_isOfNumbers (l : Launch) (E : EnvT) (a_pa : Nat → Nat) (a_sc : Nat → Nat) (a_sh : Nat → Nat) (a_dr : Nat → Nat) (a_tp : Nat → Nat) (pa_itemPlaces : Nat → Int32) (pa_waitingSigns : Nat → Int32) (pa_waitingPlaces : Nat → Int32) (pa_waiting : Int32) (pa_nested : Int32) (pa_fault : Int32) (sc_token : Int32) (sc_start : Int32) (sc_end : Int32) (sc_numberRead : Int64) (sc_escaped : Int32) (sc_bytesBehind : Int32) (sh_names : Nat → Int32) (sh_nameLengths : Nat → Int32) (sh_groups : Nat → Int32) (sh_types : Nat → Int32) (sh_flat : Nat → Int32) (sh_size : Int32) (dr_items : Nat → Int32) (dr_behindBy : Nat → Int32) (dr_steps : Nat → Int32) (dr_literalTypes : Nat → Int32) (dr_numbers : Nat → Int64) (dr_textStarts : Nat → Int32) (dr_textLengths : Nat → Int32) (dr_textBytes : Nat → Int32) (dr_itemCount : Int32) (dr_byCount : Int32) (dr_stepCount : Int32) (dr_literalCount : Int32) (dr_textEnd : Int32) (tp_bytes : Nat → Int32) (tp_size : Int32) (p1 : Int32) (r : Int32) (hf : f_X0_isOfNumbers p1 = some r) : CI l yX0_isOfNumbers (Cond.code yX0_isOfNumbers cX0_isOfNumbers 2 (some .boolean)) { frames := 0, cells := 0, slots := 0, locals := 0 } E [.ref (a_pa 0), .int p1] (w_pa_sc_sh_dr_tp E a_pa a_sc a_sh a_dr a_tp pa_itemPlaces pa_waitingSigns pa_waitingPlaces pa_waiting pa_nested pa_fault sc_token sc_start sc_end sc_numberRead sc_escaped sc_bytesBehind sh_names sh_nameLengths sh_groups sh_types sh_flat sh_size dr_items dr_behindBy dr_steps dr_literalTypes dr_numbers dr_textStarts dr_textLengths dr_textBytes dr_itemCount dr_byCount dr_stepCount dr_literalCount dr_textEnd tp_bytes tp_size) r (w_pa_sc_sh_dr_tp E a_pa a_sc a_sh a_dr a_tp pa_itemPlaces pa_waitingSigns pa_waitingPlaces pa_waiting pa_nested pa_fault sc_token sc_start sc_end sc_numberRead sc_escaped sc_bytesBehind sh_names sh_nameLengths sh_groups sh_types sh_flat sh_size dr_items dr_behindBy dr_steps dr_literalTypes dr_numbers dr_textStarts dr_textLengths dr_textBytes dr_itemCount dr_byCount dr_stepCount dr_literalCount dr_textEnd tp_bytes tp_size) := by
  intro sz
  refine met_start [(0, .ref (a_pa 0)), (1, .int p1)] (by decide) rfl rfl (Nat.le_of_ble_eq_true rfl) rfl ?_
  intro p e s m below meth c ls C hnm hmt hw hl
  have hx := C.1
  have hb := C.2.1
  generalize va_A (w_pa_sc_sh_dr_tp E a_pa a_sc a_sh a_dr a_tp pa_itemPlaces pa_waitingSigns pa_waitingPlaces pa_waiting pa_nested pa_fault sc_token sc_start sc_end sc_numberRead sc_escaped sc_bytesBehind sh_names sh_nameLengths sh_groups sh_types sh_flat sh_size dr_items dr_behindBy dr_steps dr_literalTypes dr_numbers dr_textStarts dr_textLengths dr_textBytes dr_itemCount dr_byCount dr_stepCount dr_literalCount dr_textEnd tp_bytes tp_size) sz = A at C hw ⊢
  unfold f_X0_isOfNumbers at hf
  refine lv_iload_n hx hb dX0_isOfNumbers_0 rfl (lv_at hl 1 rfl) ?_
  refine lv_iconst (v := 1) hx hb dX0_isOfNumbers_1 (by decide) ?_
  refine lv_icmp_eq (tgt := 10) hx hb dX0_isOfNumbers_2 (by decide) (fun c2 => ?_) (fun c2 => ?_)
  · replace hf := it_t c2 hf
    refine lv_iconst (v := 1) hx hb dX0_isOfNumbers_10 (by decide) ?_
    refine lv_goto (tgt := 15) hx hb dX0_isOfNumbers_11 (by decide) ?_
    cases hf
    exact rt_z C hw (Or.inr rfl) dX0_isOfNumbers_15
  · replace hf := it_f c2 hf
    refine lv_iload_n hx hb dX0_isOfNumbers_5 rfl (lv_at hl 1 rfl) ?_
    refine lv_iconst (v := 2) hx hb dX0_isOfNumbers_6 (by decide) ?_
    refine lv_icmp_ne (tgt := 14) hx hb dX0_isOfNumbers_7 (by decide) (fun c7 => ?_) (fun c7 => ?_)
    · replace hf := it_f c7 hf
      refine lv_iconst (v := 0) hx hb dX0_isOfNumbers_14 (by decide) ?_
      cases hf
      exact rt_z C hw (Or.inl rfl) dX0_isOfNumbers_15
    · replace hf := it_t c7 hf
      refine lv_iconst (v := 1) hx hb dX0_isOfNumbers_10 (by decide) ?_
      refine lv_goto (tgt := 15) hx hb dX0_isOfNumbers_11 (by decide) ?_
      cases hf
      exact rt_z C hw (Or.inr rfl) dX0_isOfNumbers_15
def f_X0_readItem_28 (l2 : Int32) (pa_fault : Int32) (sc_token : Int32) (sc_start : Int32) (sc_end : Int32) (sh_names : Nat → Int32) (sh_nameLengths : Nat → Int32) (sh_groups : Nat → Int32) (sh_size : Int32) (dr_items : Nat → Int32) (dr_itemCount : Int32) (tp_bytes : Nat → Int32) (tp_size : Int32) : Option ((Int32) × (Int32) × (Int32) × (Int32) × (Int32) × (Nat → Int32) × (Int32)) :=
  ob5 (f_X0_readPath pa_fault sc_token sc_start sc_end sh_names sh_nameLengths sh_groups sh_size tp_bytes tp_size) (fun x1 x2 x3 x4 x5 =>
  if x1 = (-1 : Int32) then (some ((0 : Int32), x2, x3, x4, x5, dr_items, dr_itemCount))
  else (ob3 (f_X1_addItem (0 : Int32) x1 dr_items dr_itemCount) (fun x6 x7 x8 =>
  if x6 = (0 : Int32) then (ob2 (f_X0_refuse l2 x2) (fun x9 x10 =>
  if x9 = (0 : Int32) then (some ((0 : Int32), x10, x3, x4, x5, x7, x8))
  else (some ((1 : Int32), x10, x3, x4, x5, x7, x8))))
  else (some ((1 : Int32), x2, x3, x4, x5, x7, x8)))))
set_option maxHeartbeats 4000000 in
set_option maxRecDepth 100000 in
theorem w_X0_readItem_28 {p : Program} {l : Launch} {e : Env} {s : State} {m : MethodId} {args : Array Value} {below : List Frame} {meth : Method} {c : Code} {E : EnvT} {A : Nat → Prop} {a_pa : Nat → Nat} {a_sc : Nat → Nat} {a_sh : Nat → Nat} {a_dr : Nat → Nat} {a_tp : Nat → Nat} {pa_itemPlaces : Nat → Int32} {pa_waitingSigns : Nat → Int32} {pa_waitingPlaces : Nat → Int32} {pa_waiting : Int32} {pa_nested : Int32} {sc_numberRead : Int64} {sc_escaped : Int32} {sc_bytesBehind : Int32} {sh_types : Nat → Int32} {sh_flat : Nat → Int32} {dr_behindBy : Nat → Int32} {dr_steps : Nat → Int32} {dr_literalTypes : Nat → Int32} {dr_numbers : Nat → Int64} {dr_textStarts : Nat → Int32} {dr_textLengths : Nat → Int32} {dr_textBytes : Nat → Int32} {dr_byCount : Int32} {dr_stepCount : Int32} {dr_literalCount : Int32} {dr_textEnd : Int32} {r : Int32} {o_pa_fault : Int32} {o_sc_token : Int32} {o_sc_start : Int32} {o_sc_end : Int32} {o_dr_items : Nat → Int32} {o_dr_itemCount : Int32} {l2 : Int32} {pa_fault : Int32} {sc_token : Int32} {sc_start : Int32} {sc_end : Int32} {sh_names : Nat → Int32} {sh_nameLengths : Nat → Int32} {sh_groups : Nat → Int32} {sh_size : Int32} {dr_items : Nat → Int32} {dr_itemCount : Int32} {tp_bytes : Nat → Int32} {tp_size : Int32} {H : Heap} {locs : List Loc} {ls : Array Slot} (C : MC p s m args meth c E A cX0_readItem 5 RX0 (some .boolean)) (hw : WS E A s (w_pa_sc_sh_dr_tp E a_pa a_sc a_sh a_dr a_tp pa_itemPlaces pa_waitingSigns pa_waitingPlaces pa_waiting pa_nested pa_fault sc_token sc_start sc_end sc_numberRead sc_escaped sc_bytesBehind sh_names sh_nameLengths sh_groups sh_types sh_flat sh_size dr_items dr_behindBy dr_steps dr_literalTypes dr_numbers dr_textStarts dr_textLengths dr_textBytes dr_itemCount dr_byCount dr_stepCount dr_literalCount dr_textEnd tp_bytes tp_size) H locs) (hl : lv_has ls 5 [(0, .ref (a_pa 0)), (2, .int l2)]) (hf : f_X0_readItem_28 l2 pa_fault sc_token sc_start sc_end sh_names sh_nameLengths sh_groups sh_size dr_items dr_itemCount tp_bytes tp_size = some (r, o_pa_fault, o_sc_token, o_sc_start, o_sc_end, o_dr_items, o_dr_itemCount)) : W p l e { frames := 7, cells := 0, slots := 0, locals := 153 } s m args below meth c H locs 0 0 (MQ below (QcI E A (w_pa_sc_sh_dr_tp E a_pa a_sc a_sh a_dr a_tp pa_itemPlaces pa_waitingSigns pa_waitingPlaces pa_waiting pa_nested o_pa_fault o_sc_token o_sc_start o_sc_end sc_numberRead sc_escaped sc_bytesBehind sh_names sh_nameLengths sh_groups sh_types sh_flat sh_size o_dr_items dr_behindBy dr_steps dr_literalTypes dr_numbers dr_textStarts dr_textLengths dr_textBytes o_dr_itemCount dr_byCount dr_stepCount dr_literalCount dr_textEnd tp_bytes tp_size) r) args s 0 0 A) (F0 m 28 ls []) := by
  have hx := C.1
  have hb := C.2.1
  unfold f_X0_readItem_28 at hf
  refine lv_aload_n hx hb dX0_readItem_28 rfl (lv_at hl 0 rfl) ?_
  obtain ⟨x1, x2, x3, x4, x5, z5, hf⟩ := ob5_el hf
  refine cI_V C hw (c_X0_readPath l E a_pa a_sc a_sh a_dr a_tp pa_itemPlaces pa_waitingSigns pa_waitingPlaces pa_waiting pa_nested pa_fault sc_token sc_start sc_end sc_numberRead sc_escaped sc_bytesBehind sh_names sh_nameLengths sh_groups sh_types sh_flat sh_size dr_items dr_behindBy dr_steps dr_literalTypes dr_numbers dr_textStarts dr_textLengths dr_textBytes dr_itemCount dr_byCount dr_stepCount dr_literalCount dr_textEnd tp_bytes tp_size x1 x2 x3 x4 x5 z5) cs_X0_71 ⟨Nat.le_of_ble_eq_true rfl, Nat.le_of_ble_eq_true rfl⟩ ⟨rfl, rfl⟩ (ci := 0) (cn := (RX0, TX0, 9)) rfl (q0 := 0) rfl (wn := w_pa_sc_sh_dr_tp E a_pa a_sc a_sh a_dr a_tp pa_itemPlaces pa_waitingSigns pa_waitingPlaces pa_waiting pa_nested x2 x3 x4 x5 sc_numberRead sc_escaped sc_bytesBehind sh_names sh_nameLengths sh_groups sh_types sh_flat sh_size dr_items dr_behindBy dr_steps dr_literalTypes dr_numbers dr_textStarts dr_textLengths dr_textBytes dr_itemCount dr_byCount dr_stepCount dr_literalCount dr_textEnd tp_bytes tp_size) (Jn.all _ _) rfl hl.1 rfl (Nat.le_of_ble_eq_true rfl) dX0_readItem_29 ⟨Nat.zero_le _, Nat.zero_le _⟩ (fun H locs hw => ?_)
  refine lv_istore_n (lv' := [(3, .int x1), (0, .ref (a_pa 0)), (2, .int l2)]) hx hb dX0_readItem_32 rfl hl (by decide) rfl (fun ls hl => ?_)
  refine lv_iload_n hx hb dX0_readItem_33 rfl (lv_at hl 0 rfl) ?_
  refine lv_iconst (v := -1) hx hb dX0_readItem_34 (by decide) ?_
  refine lv_icmp_eq (tgt := 62) hx hb dX0_readItem_35 (by decide) (fun c35 => ?_) (fun c35 => ?_)
  · replace hf := it_t c35 hf
    refine lv_iconst (v := 0) hx hb dX0_readItem_62 (by decide) ?_
    cases hf
    exact rt_z C hw (Or.inl rfl) dX0_readItem_63
  · replace hf := it_f c35 hf
    refine lv_aload_n hx hb dX0_readItem_38 rfl (lv_at hl 1 rfl) ?_
    refine fg_X0_12 C hw 0 rfl rfl dX0_readItem_39 ?_
    refine lv_iconst (v := 0) hx hb dX0_readItem_42 (by decide) ?_
    refine lv_iload_n hx hb dX0_readItem_43 rfl (lv_at hl 0 rfl) ?_
    obtain ⟨x6, x7, x8, z8, hf⟩ := ob3_el hf
    refine cI_V C hw (c_X1_addItem l E a_dr dr_items dr_behindBy dr_steps dr_literalTypes dr_numbers dr_textStarts dr_textLengths dr_textBytes dr_itemCount dr_byCount dr_stepCount dr_literalCount dr_textEnd (0 : Int32) x1 x6 x7 x8 z8) cs_X0_75 ⟨Nat.le_of_ble_eq_true rfl, Nat.le_of_ble_eq_true rfl⟩ ⟨rfl, rfl⟩ (ci := 1) (cn := (RX1, TX1, 13)) rfl (q0 := 11) rfl (wn := w_pa_sc_sh_dr_tp E a_pa a_sc a_sh a_dr a_tp pa_itemPlaces pa_waitingSigns pa_waitingPlaces pa_waiting pa_nested x2 x3 x4 x5 sc_numberRead sc_escaped sc_bytesBehind sh_names sh_nameLengths sh_groups sh_types sh_flat sh_size x7 dr_behindBy dr_steps dr_literalTypes dr_numbers dr_textStarts dr_textLengths dr_textBytes x8 dr_byCount dr_stepCount dr_literalCount dr_textEnd tp_bytes tp_size) ⟨[11, 12, 13, 14, 15, 16, 17, 18, 19], [0, 1, 2, 3, 4, 5, 6, 7, 8, 9, 10, 20, 21], [0, 1, 2, 3, 4, 5, 6, 7, 8, 9, 10, 13, 14, 15, 16, 17, 18, 19, 20, 21, 11, 12], rfl, rfl, rfl, rfl, by decide, rfl, rfl⟩ rfl hl.1 rfl (Nat.le_of_ble_eq_true rfl) dX0_readItem_44 ⟨Nat.zero_le _, Nat.zero_le _⟩ (fun H locs hw => ?_)
    refine lv_if_ne (tgt := 58) hx hb dX0_readItem_47 (by decide) (fun c47 => ?_) (fun c47 => ?_)
    · replace hf := it_f c47 hf
      refine lv_iconst (v := 1) hx hb dX0_readItem_58 (by decide) ?_
      refine lv_goto (tgt := 63) hx hb dX0_readItem_59 (by decide) ?_
      cases hf
      exact rt_z C hw (Or.inr rfl) dX0_readItem_63
    · replace hf := it_t c47 hf
      refine lv_aload_n hx hb dX0_readItem_50 rfl (lv_at hl 1 rfl) ?_
      refine lv_iload_n hx hb dX0_readItem_51 rfl (lv_at hl 2 rfl) ?_
      obtain ⟨x9, x10, z10, hf⟩ := ob2_el hf
      refine cI_V C hw (c_X0_refuse l E a_pa a_sc a_sh a_dr a_tp pa_itemPlaces pa_waitingSigns pa_waitingPlaces pa_waiting pa_nested x2 x3 x4 x5 sc_numberRead sc_escaped sc_bytesBehind sh_names sh_nameLengths sh_groups sh_types sh_flat sh_size x7 dr_behindBy dr_steps dr_literalTypes dr_numbers dr_textStarts dr_textLengths dr_textBytes x8 dr_byCount dr_stepCount dr_literalCount dr_textEnd tp_bytes tp_size l2 x9 x10 z10) cs_X0_57 ⟨Nat.le_of_ble_eq_true rfl, Nat.le_of_ble_eq_true rfl⟩ ⟨rfl, rfl⟩ (ci := 0) (cn := (RX0, TX0, 9)) rfl (q0 := 0) rfl (wn := w_pa_sc_sh_dr_tp E a_pa a_sc a_sh a_dr a_tp pa_itemPlaces pa_waitingSigns pa_waitingPlaces pa_waiting pa_nested x10 x3 x4 x5 sc_numberRead sc_escaped sc_bytesBehind sh_names sh_nameLengths sh_groups sh_types sh_flat sh_size x7 dr_behindBy dr_steps dr_literalTypes dr_numbers dr_textStarts dr_textLengths dr_textBytes x8 dr_byCount dr_stepCount dr_literalCount dr_textEnd tp_bytes tp_size) (Jn.all _ _) rfl hl.1 rfl (Nat.le_of_ble_eq_true rfl) dX0_readItem_52 ⟨Nat.zero_le _, Nat.zero_le _⟩ (fun H locs hw => ?_)
      refine lv_if_eq (tgt := 62) hx hb dX0_readItem_55 (by decide) (fun c55 => ?_) (fun c55 => ?_)
      · replace hf := it_t c55 hf
        refine lv_iconst (v := 0) hx hb dX0_readItem_62 (by decide) ?_
        cases hf
        exact rt_z C hw (Or.inl rfl) dX0_readItem_63
      · replace hf := it_f c55 hf
        refine lv_iconst (v := 1) hx hb dX0_readItem_58 (by decide) ?_
        refine lv_goto (tgt := 63) hx hb dX0_readItem_59 (by decide) ?_
        cases hf
        exact rt_z C hw (Or.inr rfl) dX0_readItem_63
def f_X0_readItem_188 (l1 : Int32) (l2 : Int32) (l4 : Int32) (pa_fault : Int32) (sc_token : Int32) (sc_start : Int32) (sc_end : Int32) (dr_items : Nat → Int32) (dr_itemCount : Int32) (tp_bytes : Nat → Int32) (tp_size : Int32) : Option ((Int32) × (Int32) × (Int32) × (Int32) × (Int32) × (Nat → Int32) × (Int32)) :=
  ob5 (f_X0_take (21 : Int32) pa_fault sc_token sc_start sc_end tp_bytes tp_size) (fun x1 x2 x3 x4 x5 =>
  if x1 = (0 : Int32) then (some ((0 : Int32), x2, x3, x4, x5, dr_items, dr_itemCount))
  else (ob3 (f_X1_addItem (((2 : Int32) + l1) - (12 : Int32)) l4 dr_items dr_itemCount) (fun x6 x7 x8 =>
  if x6 = (0 : Int32) then (ob2 (f_X0_refuse l2 x2) (fun x9 x10 =>
  if x9 = (0 : Int32) then (some ((0 : Int32), x10, x3, x4, x5, x7, x8))
  else (some ((1 : Int32), x10, x3, x4, x5, x7, x8))))
  else (some ((1 : Int32), x2, x3, x4, x5, x7, x8)))))
set_option maxHeartbeats 4000000 in
set_option maxRecDepth 100000 in
theorem w_X0_readItem_188 {p : Program} {l : Launch} {e : Env} {s : State} {m : MethodId} {args : Array Value} {below : List Frame} {meth : Method} {c : Code} {E : EnvT} {A : Nat → Prop} {a_pa : Nat → Nat} {a_sc : Nat → Nat} {a_sh : Nat → Nat} {a_dr : Nat → Nat} {a_tp : Nat → Nat} {pa_itemPlaces : Nat → Int32} {pa_waitingSigns : Nat → Int32} {pa_waitingPlaces : Nat → Int32} {pa_waiting : Int32} {pa_nested : Int32} {sc_numberRead : Int64} {sc_escaped : Int32} {sc_bytesBehind : Int32} {sh_names : Nat → Int32} {sh_nameLengths : Nat → Int32} {sh_groups : Nat → Int32} {sh_types : Nat → Int32} {sh_flat : Nat → Int32} {sh_size : Int32} {dr_behindBy : Nat → Int32} {dr_steps : Nat → Int32} {dr_literalTypes : Nat → Int32} {dr_numbers : Nat → Int64} {dr_textStarts : Nat → Int32} {dr_textLengths : Nat → Int32} {dr_textBytes : Nat → Int32} {dr_byCount : Int32} {dr_stepCount : Int32} {dr_literalCount : Int32} {dr_textEnd : Int32} {r : Int32} {o_pa_fault : Int32} {o_sc_token : Int32} {o_sc_start : Int32} {o_sc_end : Int32} {o_dr_items : Nat → Int32} {o_dr_itemCount : Int32} {l1 : Int32} {l2 : Int32} {l4 : Int32} {pa_fault : Int32} {sc_token : Int32} {sc_start : Int32} {sc_end : Int32} {dr_items : Nat → Int32} {dr_itemCount : Int32} {tp_bytes : Nat → Int32} {tp_size : Int32} {H : Heap} {locs : List Loc} {ls : Array Slot} (C : MC p s m args meth c E A cX0_readItem 5 RX0 (some .boolean)) (hw : WS E A s (w_pa_sc_sh_dr_tp E a_pa a_sc a_sh a_dr a_tp pa_itemPlaces pa_waitingSigns pa_waitingPlaces pa_waiting pa_nested pa_fault sc_token sc_start sc_end sc_numberRead sc_escaped sc_bytesBehind sh_names sh_nameLengths sh_groups sh_types sh_flat sh_size dr_items dr_behindBy dr_steps dr_literalTypes dr_numbers dr_textStarts dr_textLengths dr_textBytes dr_itemCount dr_byCount dr_stepCount dr_literalCount dr_textEnd tp_bytes tp_size) H locs) (hl : lv_has ls 5 [(0, .ref (a_pa 0)), (1, .int l1), (2, .int l2), (4, .int l4)]) (hf : f_X0_readItem_188 l1 l2 l4 pa_fault sc_token sc_start sc_end dr_items dr_itemCount tp_bytes tp_size = some (r, o_pa_fault, o_sc_token, o_sc_start, o_sc_end, o_dr_items, o_dr_itemCount)) : W p l e { frames := 7, cells := 0, slots := 0, locals := 153 } s m args below meth c H locs 0 0 (MQ below (QcI E A (w_pa_sc_sh_dr_tp E a_pa a_sc a_sh a_dr a_tp pa_itemPlaces pa_waitingSigns pa_waitingPlaces pa_waiting pa_nested o_pa_fault o_sc_token o_sc_start o_sc_end sc_numberRead sc_escaped sc_bytesBehind sh_names sh_nameLengths sh_groups sh_types sh_flat sh_size o_dr_items dr_behindBy dr_steps dr_literalTypes dr_numbers dr_textStarts dr_textLengths dr_textBytes o_dr_itemCount dr_byCount dr_stepCount dr_literalCount dr_textEnd tp_bytes tp_size) r) args s 0 0 A) (F0 m 188 ls []) := by
  have hx := C.1
  have hb := C.2.1
  unfold f_X0_readItem_188 at hf
  refine lv_aload_n hx hb dX0_readItem_188 rfl (lv_at hl 0 rfl) ?_
  refine lv_bipush (v := 21) hx hb dX0_readItem_189 (by decide) ?_
  obtain ⟨x1, x2, x3, x4, x5, z5, hf⟩ := ob5_el hf
  refine cI_V C hw (c_X0_take l E a_pa a_sc a_sh a_dr a_tp pa_itemPlaces pa_waitingSigns pa_waitingPlaces pa_waiting pa_nested pa_fault sc_token sc_start sc_end sc_numberRead sc_escaped sc_bytesBehind sh_names sh_nameLengths sh_groups sh_types sh_flat sh_size dr_items dr_behindBy dr_steps dr_literalTypes dr_numbers dr_textStarts dr_textLengths dr_textBytes dr_itemCount dr_byCount dr_stepCount dr_literalCount dr_textEnd tp_bytes tp_size (21 : Int32) x1 x2 x3 x4 x5 z5) cs_X0_64 ⟨Nat.le_of_ble_eq_true rfl, Nat.le_of_ble_eq_true rfl⟩ ⟨rfl, rfl⟩ (ci := 0) (cn := (RX0, TX0, 9)) rfl (q0 := 0) rfl (wn := w_pa_sc_sh_dr_tp E a_pa a_sc a_sh a_dr a_tp pa_itemPlaces pa_waitingSigns pa_waitingPlaces pa_waiting pa_nested x2 x3 x4 x5 sc_numberRead sc_escaped sc_bytesBehind sh_names sh_nameLengths sh_groups sh_types sh_flat sh_size dr_items dr_behindBy dr_steps dr_literalTypes dr_numbers dr_textStarts dr_textLengths dr_textBytes dr_itemCount dr_byCount dr_stepCount dr_literalCount dr_textEnd tp_bytes tp_size) (Jn.all _ _) rfl hl.1 rfl (Nat.le_of_ble_eq_true rfl) dX0_readItem_191 ⟨Nat.zero_le _, Nat.zero_le _⟩ (fun H locs hw => ?_)
  refine lv_if_eq (tgt := 227) hx hb dX0_readItem_194 (by decide) (fun c194 => ?_) (fun c194 => ?_)
  · replace hf := it_t c194 hf
    refine lv_iconst (v := 0) hx hb dX0_readItem_227 (by decide) ?_
    cases hf
    exact rt_z C hw (Or.inl rfl) dX0_readItem_228
  · replace hf := it_f c194 hf
    refine lv_aload_n hx hb dX0_readItem_197 rfl (lv_at hl 0 rfl) ?_
    refine fg_X0_12 C hw 0 rfl rfl dX0_readItem_198 ?_
    refine lv_iconst (v := 2) hx hb dX0_readItem_201 (by decide) ?_
    refine lv_iload_n hx hb dX0_readItem_202 rfl (lv_at hl 1 rfl) ?_
    refine lv_iadd hx hb dX0_readItem_203 ?_
    refine lv_bipush (v := 12) hx hb dX0_readItem_204 (by decide) ?_
    refine lv_isub hx hb dX0_readItem_206 ?_
    refine lv_iload hx hb dX0_readItem_207 (lv_at hl 3 rfl) ?_
    obtain ⟨x6, x7, x8, z8, hf⟩ := ob3_el hf
    refine cI_V C hw (c_X1_addItem l E a_dr dr_items dr_behindBy dr_steps dr_literalTypes dr_numbers dr_textStarts dr_textLengths dr_textBytes dr_itemCount dr_byCount dr_stepCount dr_literalCount dr_textEnd (((2 : Int32) + l1) - (12 : Int32)) l4 x6 x7 x8 z8) cs_X0_75 ⟨Nat.le_of_ble_eq_true rfl, Nat.le_of_ble_eq_true rfl⟩ ⟨rfl, rfl⟩ (ci := 1) (cn := (RX1, TX1, 13)) rfl (q0 := 11) rfl (wn := w_pa_sc_sh_dr_tp E a_pa a_sc a_sh a_dr a_tp pa_itemPlaces pa_waitingSigns pa_waitingPlaces pa_waiting pa_nested x2 x3 x4 x5 sc_numberRead sc_escaped sc_bytesBehind sh_names sh_nameLengths sh_groups sh_types sh_flat sh_size x7 dr_behindBy dr_steps dr_literalTypes dr_numbers dr_textStarts dr_textLengths dr_textBytes x8 dr_byCount dr_stepCount dr_literalCount dr_textEnd tp_bytes tp_size) ⟨[11, 12, 13, 14, 15, 16, 17, 18, 19], [0, 1, 2, 3, 4, 5, 6, 7, 8, 9, 10, 20, 21], [0, 1, 2, 3, 4, 5, 6, 7, 8, 9, 10, 13, 14, 15, 16, 17, 18, 19, 20, 21, 11, 12], rfl, rfl, rfl, rfl, by decide, rfl, rfl⟩ rfl hl.1 rfl (Nat.le_of_ble_eq_true rfl) dX0_readItem_209 ⟨Nat.zero_le _, Nat.zero_le _⟩ (fun H locs hw => ?_)
    refine lv_if_ne (tgt := 223) hx hb dX0_readItem_212 (by decide) (fun c212 => ?_) (fun c212 => ?_)
    · replace hf := it_f c212 hf
      refine lv_iconst (v := 1) hx hb dX0_readItem_223 (by decide) ?_
      refine lv_goto (tgt := 228) hx hb dX0_readItem_224 (by decide) ?_
      cases hf
      exact rt_z C hw (Or.inr rfl) dX0_readItem_228
    · replace hf := it_t c212 hf
      refine lv_aload_n hx hb dX0_readItem_215 rfl (lv_at hl 0 rfl) ?_
      refine lv_iload_n hx hb dX0_readItem_216 rfl (lv_at hl 2 rfl) ?_
      obtain ⟨x9, x10, z10, hf⟩ := ob2_el hf
      refine cI_V C hw (c_X0_refuse l E a_pa a_sc a_sh a_dr a_tp pa_itemPlaces pa_waitingSigns pa_waitingPlaces pa_waiting pa_nested x2 x3 x4 x5 sc_numberRead sc_escaped sc_bytesBehind sh_names sh_nameLengths sh_groups sh_types sh_flat sh_size x7 dr_behindBy dr_steps dr_literalTypes dr_numbers dr_textStarts dr_textLengths dr_textBytes x8 dr_byCount dr_stepCount dr_literalCount dr_textEnd tp_bytes tp_size l2 x9 x10 z10) cs_X0_57 ⟨Nat.le_of_ble_eq_true rfl, Nat.le_of_ble_eq_true rfl⟩ ⟨rfl, rfl⟩ (ci := 0) (cn := (RX0, TX0, 9)) rfl (q0 := 0) rfl (wn := w_pa_sc_sh_dr_tp E a_pa a_sc a_sh a_dr a_tp pa_itemPlaces pa_waitingSigns pa_waitingPlaces pa_waiting pa_nested x10 x3 x4 x5 sc_numberRead sc_escaped sc_bytesBehind sh_names sh_nameLengths sh_groups sh_types sh_flat sh_size x7 dr_behindBy dr_steps dr_literalTypes dr_numbers dr_textStarts dr_textLengths dr_textBytes x8 dr_byCount dr_stepCount dr_literalCount dr_textEnd tp_bytes tp_size) (Jn.all _ _) rfl hl.1 rfl (Nat.le_of_ble_eq_true rfl) dX0_readItem_217 ⟨Nat.zero_le _, Nat.zero_le _⟩ (fun H locs hw => ?_)
      refine lv_if_eq (tgt := 227) hx hb dX0_readItem_220 (by decide) (fun c220 => ?_) (fun c220 => ?_)
      · replace hf := it_t c220 hf
        refine lv_iconst (v := 0) hx hb dX0_readItem_227 (by decide) ?_
        cases hf
        exact rt_z C hw (Or.inl rfl) dX0_readItem_228
      · replace hf := it_f c220 hf
        refine lv_iconst (v := 1) hx hb dX0_readItem_223 (by decide) ?_
        refine lv_goto (tgt := 228) hx hb dX0_readItem_224 (by decide) ?_
        cases hf
        exact rt_z C hw (Or.inr rfl) dX0_readItem_228
def f_X0_readItem_115 (l1 : Int32) (l2 : Int32) (pa_fault : Int32) (sc_token : Int32) (sc_start : Int32) (sc_end : Int32) (sh_names : Nat → Int32) (sh_nameLengths : Nat → Int32) (sh_groups : Nat → Int32) (sh_types : Nat → Int32) (sh_flat : Nat → Int32) (sh_size : Int32) (dr_items : Nat → Int32) (dr_itemCount : Int32) (tp_bytes : Nat → Int32) (tp_size : Int32) : Option ((Int32) × (Int32) × (Int32) × (Int32) × (Int32) × (Nat → Int32) × (Int32)) :=
  ob5 (f_X0_take (20 : Int32) pa_fault sc_token sc_start sc_end tp_bytes tp_size) (fun x1 x2 x3 x4 x5 =>
  if x1 = (0 : Int32) then (some ((0 : Int32), x2, x3, x4, x5, dr_items, dr_itemCount))
  else (ob5 (f_X0_readPath x2 x3 x4 x5 sh_names sh_nameLengths sh_groups sh_size tp_bytes tp_size) (fun x6 x7 x8 x9 x10 =>
  if x6 = (-1 : Int32) then (some ((0 : Int32), x7, x8, x9, x10, dr_items, dr_itemCount))
  else (ob1 (f_X3_isFlatValue x6 sh_types sh_flat sh_size) (fun x11 =>
  if x11 = (0 : Int32) then (ob2 (f_X0_refuse x4 x7) (fun x12 x13 =>
  gz x12 (some (x12, x13, x8, x9, x10, dr_items, dr_itemCount))))
  else (if l1 = (13 : Int32) then (ob1 (f_X3_typeOf x6 sh_types sh_size) (fun x14 =>
  ob1 (f_X0_isOfNumbers x14) (fun x15 =>
  if x15 = (0 : Int32) then (ob2 (f_X0_refuse x4 x7) (fun x16 x17 =>
  gz x16 (some (x16, x17, x8, x9, x10, dr_items, dr_itemCount))))
  else (f_X0_readItem_188 l1 l2 x6 x7 x8 x9 x10 dr_items dr_itemCount tp_bytes tp_size))))
  else (f_X0_readItem_188 l1 l2 x6 x7 x8 x9 x10 dr_items dr_itemCount tp_bytes tp_size)))))))
set_option maxHeartbeats 4000000 in
set_option maxRecDepth 100000 in
theorem w_X0_readItem_115 {p : Program} {l : Launch} {e : Env} {s : State} {m : MethodId} {args : Array Value} {below : List Frame} {meth : Method} {c : Code} {E : EnvT} {A : Nat → Prop} {a_pa : Nat → Nat} {a_sc : Nat → Nat} {a_sh : Nat → Nat} {a_dr : Nat → Nat} {a_tp : Nat → Nat} {pa_itemPlaces : Nat → Int32} {pa_waitingSigns : Nat → Int32} {pa_waitingPlaces : Nat → Int32} {pa_waiting : Int32} {pa_nested : Int32} {sc_numberRead : Int64} {sc_escaped : Int32} {sc_bytesBehind : Int32} {dr_behindBy : Nat → Int32} {dr_steps : Nat → Int32} {dr_literalTypes : Nat → Int32} {dr_numbers : Nat → Int64} {dr_textStarts : Nat → Int32} {dr_textLengths : Nat → Int32} {dr_textBytes : Nat → Int32} {dr_byCount : Int32} {dr_stepCount : Int32} {dr_literalCount : Int32} {dr_textEnd : Int32} {r : Int32} {o_pa_fault : Int32} {o_sc_token : Int32} {o_sc_start : Int32} {o_sc_end : Int32} {o_dr_items : Nat → Int32} {o_dr_itemCount : Int32} {l1 : Int32} {l2 : Int32} {pa_fault : Int32} {sc_token : Int32} {sc_start : Int32} {sc_end : Int32} {sh_names : Nat → Int32} {sh_nameLengths : Nat → Int32} {sh_groups : Nat → Int32} {sh_types : Nat → Int32} {sh_flat : Nat → Int32} {sh_size : Int32} {dr_items : Nat → Int32} {dr_itemCount : Int32} {tp_bytes : Nat → Int32} {tp_size : Int32} {H : Heap} {locs : List Loc} {ls : Array Slot} (C : MC p s m args meth c E A cX0_readItem 5 RX0 (some .boolean)) (hw : WS E A s (w_pa_sc_sh_dr_tp E a_pa a_sc a_sh a_dr a_tp pa_itemPlaces pa_waitingSigns pa_waitingPlaces pa_waiting pa_nested pa_fault sc_token sc_start sc_end sc_numberRead sc_escaped sc_bytesBehind sh_names sh_nameLengths sh_groups sh_types sh_flat sh_size dr_items dr_behindBy dr_steps dr_literalTypes dr_numbers dr_textStarts dr_textLengths dr_textBytes dr_itemCount dr_byCount dr_stepCount dr_literalCount dr_textEnd tp_bytes tp_size) H locs) (hl : lv_has ls 5 [(0, .ref (a_pa 0)), (1, .int l1), (2, .int l2)]) (hf : f_X0_readItem_115 l1 l2 pa_fault sc_token sc_start sc_end sh_names sh_nameLengths sh_groups sh_types sh_flat sh_size dr_items dr_itemCount tp_bytes tp_size = some (r, o_pa_fault, o_sc_token, o_sc_start, o_sc_end, o_dr_items, o_dr_itemCount)) : W p l e { frames := 7, cells := 0, slots := 0, locals := 153 } s m args below meth c H locs 0 0 (MQ below (QcI E A (w_pa_sc_sh_dr_tp E a_pa a_sc a_sh a_dr a_tp pa_itemPlaces pa_waitingSigns pa_waitingPlaces pa_waiting pa_nested o_pa_fault o_sc_token o_sc_start o_sc_end sc_numberRead sc_escaped sc_bytesBehind sh_names sh_nameLengths sh_groups sh_types sh_flat sh_size o_dr_items dr_behindBy dr_steps dr_literalTypes dr_numbers dr_textStarts dr_textLengths dr_textBytes o_dr_itemCount dr_byCount dr_stepCount dr_literalCount dr_textEnd tp_bytes tp_size) r) args s 0 0 A) (F0 m 115 ls []) := by
  have hx := C.1
  have hb := C.2.1
  unfold f_X0_readItem_115 at hf
  refine lv_aload_n hx hb dX0_readItem_115 rfl (lv_at hl 0 rfl) ?_
  refine lv_bipush (v := 20) hx hb dX0_readItem_116 (by decide) ?_
  obtain ⟨x1, x2, x3, x4, x5, z5, hf⟩ := ob5_el hf
  refine cI_V C hw (c_X0_take l E a_pa a_sc a_sh a_dr a_tp pa_itemPlaces pa_waitingSigns pa_waitingPlaces pa_waiting pa_nested pa_fault sc_token sc_start sc_end sc_numberRead sc_escaped sc_bytesBehind sh_names sh_nameLengths sh_groups sh_types sh_flat sh_size dr_items dr_behindBy dr_steps dr_literalTypes dr_numbers dr_textStarts dr_textLengths dr_textBytes dr_itemCount dr_byCount dr_stepCount dr_literalCount dr_textEnd tp_bytes tp_size (20 : Int32) x1 x2 x3 x4 x5 z5) cs_X0_64 ⟨Nat.le_of_ble_eq_true rfl, Nat.le_of_ble_eq_true rfl⟩ ⟨rfl, rfl⟩ (ci := 0) (cn := (RX0, TX0, 9)) rfl (q0 := 0) rfl (wn := w_pa_sc_sh_dr_tp E a_pa a_sc a_sh a_dr a_tp pa_itemPlaces pa_waitingSigns pa_waitingPlaces pa_waiting pa_nested x2 x3 x4 x5 sc_numberRead sc_escaped sc_bytesBehind sh_names sh_nameLengths sh_groups sh_types sh_flat sh_size dr_items dr_behindBy dr_steps dr_literalTypes dr_numbers dr_textStarts dr_textLengths dr_textBytes dr_itemCount dr_byCount dr_stepCount dr_literalCount dr_textEnd tp_bytes tp_size) (Jn.all _ _) rfl hl.1 rfl (Nat.le_of_ble_eq_true rfl) dX0_readItem_118 ⟨Nat.zero_le _, Nat.zero_le _⟩ (fun H locs hw => ?_)
  refine lv_if_ne (tgt := 126) hx hb dX0_readItem_121 (by decide) (fun c121 => ?_) (fun c121 => ?_)
  · replace hf := it_f c121 hf
    refine lv_aload_n hx hb dX0_readItem_126 rfl (lv_at hl 0 rfl) ?_
    refine fg_X0_37 C hw 0 rfl rfl dX0_readItem_127 ?_
    refine fg_X0_54 C hw 4 rfl rfl dX0_readItem_130 ?_
    refine lv_istore_n (lv' := [(3, .int x4), (0, .ref (a_pa 0)), (1, .int l1), (2, .int l2)]) hx hb dX0_readItem_133 rfl hl (by decide) rfl (fun ls hl => ?_)
    refine lv_aload_n hx hb dX0_readItem_134 rfl (lv_at hl 1 rfl) ?_
    obtain ⟨x6, x7, x8, x9, x10, z10, hf⟩ := ob5_el hf
    refine cI_V C hw (c_X0_readPath l E a_pa a_sc a_sh a_dr a_tp pa_itemPlaces pa_waitingSigns pa_waitingPlaces pa_waiting pa_nested x2 x3 x4 x5 sc_numberRead sc_escaped sc_bytesBehind sh_names sh_nameLengths sh_groups sh_types sh_flat sh_size dr_items dr_behindBy dr_steps dr_literalTypes dr_numbers dr_textStarts dr_textLengths dr_textBytes dr_itemCount dr_byCount dr_stepCount dr_literalCount dr_textEnd tp_bytes tp_size x6 x7 x8 x9 x10 z10) cs_X0_71 ⟨Nat.le_of_ble_eq_true rfl, Nat.le_of_ble_eq_true rfl⟩ ⟨rfl, rfl⟩ (ci := 0) (cn := (RX0, TX0, 9)) rfl (q0 := 0) rfl (wn := w_pa_sc_sh_dr_tp E a_pa a_sc a_sh a_dr a_tp pa_itemPlaces pa_waitingSigns pa_waitingPlaces pa_waiting pa_nested x7 x8 x9 x10 sc_numberRead sc_escaped sc_bytesBehind sh_names sh_nameLengths sh_groups sh_types sh_flat sh_size dr_items dr_behindBy dr_steps dr_literalTypes dr_numbers dr_textStarts dr_textLengths dr_textBytes dr_itemCount dr_byCount dr_stepCount dr_literalCount dr_textEnd tp_bytes tp_size) (Jn.all _ _) rfl hl.1 rfl (Nat.le_of_ble_eq_true rfl) dX0_readItem_135 ⟨Nat.zero_le _, Nat.zero_le _⟩ (fun H locs hw => ?_)
    refine lv_istore (lv' := [(4, .int x6), (3, .int x4), (0, .ref (a_pa 0)), (1, .int l1), (2, .int l2)]) hx hb dX0_readItem_138 hl (by decide) rfl (fun ls hl => ?_)
    refine lv_iload hx hb dX0_readItem_140 (lv_at hl 0 rfl) ?_
    refine lv_iconst (v := -1) hx hb dX0_readItem_142 (by decide) ?_
    refine lv_icmp_ne (tgt := 148) hx hb dX0_readItem_143 (by decide) (fun c143 => ?_) (fun c143 => ?_)
    · replace hf := it_f c143 hf
      refine lv_aload_n hx hb dX0_readItem_148 rfl (lv_at hl 2 rfl) ?_
      refine fg_X0_28 C hw 0 rfl rfl dX0_readItem_149 ?_
      refine lv_iload hx hb dX0_readItem_152 (lv_at hl 0 rfl) ?_
      obtain ⟨x11, z11, hf⟩ := ob1_el hf
      refine cI_V C hw (c_X3_isFlatValue l E a_sh a_tp sh_names sh_nameLengths sh_groups sh_types sh_flat sh_size tp_bytes tp_size x6 x11 z11) cs_X0_79 ⟨Nat.le_of_ble_eq_true rfl, Nat.le_of_ble_eq_true rfl⟩ ⟨rfl, rfl⟩ (ci := 3) (cn := (RX3, TX3, 7)) rfl (q0 := 5) rfl (wn := w_pa_sc_sh_dr_tp E a_pa a_sc a_sh a_dr a_tp pa_itemPlaces pa_waitingSigns pa_waitingPlaces pa_waiting pa_nested x7 x8 x9 x10 sc_numberRead sc_escaped sc_bytesBehind sh_names sh_nameLengths sh_groups sh_types sh_flat sh_size dr_items dr_behindBy dr_steps dr_literalTypes dr_numbers dr_textStarts dr_textLengths dr_textBytes dr_itemCount dr_byCount dr_stepCount dr_literalCount dr_textEnd tp_bytes tp_size) ⟨[5, 6, 7, 8, 9, 10, 20, 21], [0, 1, 2, 3, 4, 11, 12, 13, 14, 15, 16, 17, 18, 19], [0, 1, 2, 3, 4, 14, 15, 16, 17, 18, 19, 5, 6, 7, 8, 9, 10, 11, 12, 13, 20, 21], rfl, rfl, rfl, rfl, by decide, rfl, rfl⟩ rfl hl.1 rfl (Nat.le_of_ble_eq_true rfl) dX0_readItem_154 ⟨Nat.zero_le _, Nat.zero_le _⟩ (fun H locs hw => ?_)
      refine lv_if_eq (tgt := 182) hx hb dX0_readItem_157 (by decide) (fun c157 => ?_) (fun c157 => ?_)
      · replace hf := it_t c157 hf
        refine lv_aload_n hx hb dX0_readItem_182 rfl (lv_at hl 2 rfl) ?_
        refine lv_iload_n hx hb dX0_readItem_183 rfl (lv_at hl 1 rfl) ?_
        obtain ⟨x12, x13, z13, hf⟩ := ob2_el hf
        refine cI_V C hw (c_X0_refuse l E a_pa a_sc a_sh a_dr a_tp pa_itemPlaces pa_waitingSigns pa_waitingPlaces pa_waiting pa_nested x7 x8 x9 x10 sc_numberRead sc_escaped sc_bytesBehind sh_names sh_nameLengths sh_groups sh_types sh_flat sh_size dr_items dr_behindBy dr_steps dr_literalTypes dr_numbers dr_textStarts dr_textLengths dr_textBytes dr_itemCount dr_byCount dr_stepCount dr_literalCount dr_textEnd tp_bytes tp_size x4 x12 x13 z13) cs_X0_57 ⟨Nat.le_of_ble_eq_true rfl, Nat.le_of_ble_eq_true rfl⟩ ⟨rfl, rfl⟩ (ci := 0) (cn := (RX0, TX0, 9)) rfl (q0 := 0) rfl (wn := w_pa_sc_sh_dr_tp E a_pa a_sc a_sh a_dr a_tp pa_itemPlaces pa_waitingSigns pa_waitingPlaces pa_waiting pa_nested x13 x8 x9 x10 sc_numberRead sc_escaped sc_bytesBehind sh_names sh_nameLengths sh_groups sh_types sh_flat sh_size dr_items dr_behindBy dr_steps dr_literalTypes dr_numbers dr_textStarts dr_textLengths dr_textBytes dr_itemCount dr_byCount dr_stepCount dr_literalCount dr_textEnd tp_bytes tp_size) (Jn.all _ _) rfl hl.1 rfl (Nat.le_of_ble_eq_true rfl) dX0_readItem_184 ⟨Nat.zero_le _, Nat.zero_le _⟩ (fun H locs hw => ?_)
        obtain ⟨hz, hf⟩ := gz_el hf
        cases hf
        exact rt_z C hw hz dX0_readItem_187
      · replace hf := it_f c157 hf
        refine lv_iload_n hx hb dX0_readItem_160 rfl (lv_at hl 3 rfl) ?_
        refine lv_bipush (v := 13) hx hb dX0_readItem_161 (by decide) ?_
        refine lv_icmp_ne (tgt := 188) hx hb dX0_readItem_163 (by decide) (fun c163 => ?_) (fun c163 => ?_)
        · replace hf := it_f c163 hf
          exact w_X0_readItem_188 C hw (lv_sub hl [2, 3, 4, 0] rfl) hf
        · replace hf := it_t c163 hf
          refine lv_aload_n hx hb dX0_readItem_166 rfl (lv_at hl 2 rfl) ?_
          refine lv_aload_n hx hb dX0_readItem_167 rfl (lv_at hl 2 rfl) ?_
          refine fg_X0_28 C hw 0 rfl rfl dX0_readItem_168 ?_
          refine lv_iload hx hb dX0_readItem_171 (lv_at hl 0 rfl) ?_
          obtain ⟨x14, z14, hf⟩ := ob1_el hf
          refine cI_V C hw (c_X3_typeOf l E a_sh a_tp sh_names sh_nameLengths sh_groups sh_types sh_flat sh_size tp_bytes tp_size x6 x14 z14) cs_X0_84 ⟨Nat.le_of_ble_eq_true rfl, Nat.le_of_ble_eq_true rfl⟩ ⟨rfl, rfl⟩ (ci := 3) (cn := (RX3, TX3, 7)) rfl (q0 := 5) rfl (wn := w_pa_sc_sh_dr_tp E a_pa a_sc a_sh a_dr a_tp pa_itemPlaces pa_waitingSigns pa_waitingPlaces pa_waiting pa_nested x7 x8 x9 x10 sc_numberRead sc_escaped sc_bytesBehind sh_names sh_nameLengths sh_groups sh_types sh_flat sh_size dr_items dr_behindBy dr_steps dr_literalTypes dr_numbers dr_textStarts dr_textLengths dr_textBytes dr_itemCount dr_byCount dr_stepCount dr_literalCount dr_textEnd tp_bytes tp_size) ⟨[5, 6, 7, 8, 9, 10, 20, 21], [0, 1, 2, 3, 4, 11, 12, 13, 14, 15, 16, 17, 18, 19], [0, 1, 2, 3, 4, 14, 15, 16, 17, 18, 19, 5, 6, 7, 8, 9, 10, 11, 12, 13, 20, 21], rfl, rfl, rfl, rfl, by decide, rfl, rfl⟩ rfl hl.1 rfl (Nat.le_of_ble_eq_true rfl) dX0_readItem_173 ⟨Nat.zero_le _, Nat.zero_le _⟩ (fun H locs hw => ?_)
          obtain ⟨x15, z15, hf⟩ := ob1_el hf
          refine cI_V C hw (c_X0_isOfNumbers l E a_pa a_sc a_sh a_dr a_tp pa_itemPlaces pa_waitingSigns pa_waitingPlaces pa_waiting pa_nested x7 x8 x9 x10 sc_numberRead sc_escaped sc_bytesBehind sh_names sh_nameLengths sh_groups sh_types sh_flat sh_size dr_items dr_behindBy dr_steps dr_literalTypes dr_numbers dr_textStarts dr_textLengths dr_textBytes dr_itemCount dr_byCount dr_stepCount dr_literalCount dr_textEnd tp_bytes tp_size x14 x15 z15) cs_X0_88 ⟨Nat.le_of_ble_eq_true rfl, Nat.le_of_ble_eq_true rfl⟩ ⟨rfl, rfl⟩ (ci := 0) (cn := (RX0, TX0, 9)) rfl (q0 := 0) rfl (wn := w_pa_sc_sh_dr_tp E a_pa a_sc a_sh a_dr a_tp pa_itemPlaces pa_waitingSigns pa_waitingPlaces pa_waiting pa_nested x7 x8 x9 x10 sc_numberRead sc_escaped sc_bytesBehind sh_names sh_nameLengths sh_groups sh_types sh_flat sh_size dr_items dr_behindBy dr_steps dr_literalTypes dr_numbers dr_textStarts dr_textLengths dr_textBytes dr_itemCount dr_byCount dr_stepCount dr_literalCount dr_textEnd tp_bytes tp_size) (Jn.all _ _) rfl hl.1 rfl (Nat.le_of_ble_eq_true rfl) dX0_readItem_176 ⟨Nat.zero_le _, Nat.zero_le _⟩ (fun H locs hw => ?_)
          refine lv_if_ne (tgt := 188) hx hb dX0_readItem_179 (by decide) (fun c179 => ?_) (fun c179 => ?_)
          · replace hf := it_f c179 hf
            exact w_X0_readItem_188 C hw (lv_sub hl [2, 3, 4, 0] rfl) hf
          · replace hf := it_t c179 hf
            refine lv_aload_n hx hb dX0_readItem_182 rfl (lv_at hl 2 rfl) ?_
            refine lv_iload_n hx hb dX0_readItem_183 rfl (lv_at hl 1 rfl) ?_
            obtain ⟨x16, x17, z17, hf⟩ := ob2_el hf
            refine cI_V C hw (c_X0_refuse l E a_pa a_sc a_sh a_dr a_tp pa_itemPlaces pa_waitingSigns pa_waitingPlaces pa_waiting pa_nested x7 x8 x9 x10 sc_numberRead sc_escaped sc_bytesBehind sh_names sh_nameLengths sh_groups sh_types sh_flat sh_size dr_items dr_behindBy dr_steps dr_literalTypes dr_numbers dr_textStarts dr_textLengths dr_textBytes dr_itemCount dr_byCount dr_stepCount dr_literalCount dr_textEnd tp_bytes tp_size x4 x16 x17 z17) cs_X0_57 ⟨Nat.le_of_ble_eq_true rfl, Nat.le_of_ble_eq_true rfl⟩ ⟨rfl, rfl⟩ (ci := 0) (cn := (RX0, TX0, 9)) rfl (q0 := 0) rfl (wn := w_pa_sc_sh_dr_tp E a_pa a_sc a_sh a_dr a_tp pa_itemPlaces pa_waitingSigns pa_waitingPlaces pa_waiting pa_nested x17 x8 x9 x10 sc_numberRead sc_escaped sc_bytesBehind sh_names sh_nameLengths sh_groups sh_types sh_flat sh_size dr_items dr_behindBy dr_steps dr_literalTypes dr_numbers dr_textStarts dr_textLengths dr_textBytes dr_itemCount dr_byCount dr_stepCount dr_literalCount dr_textEnd tp_bytes tp_size) (Jn.all _ _) rfl hl.1 rfl (Nat.le_of_ble_eq_true rfl) dX0_readItem_184 ⟨Nat.zero_le _, Nat.zero_le _⟩ (fun H locs hw => ?_)
            obtain ⟨hz, hf⟩ := gz_el hf
            cases hf
            exact rt_z C hw hz dX0_readItem_187
    · replace hf := it_t c143 hf
      refine lv_iconst (v := 0) hx hb dX0_readItem_146 (by decide) ?_
      cases hf
      exact rt_z C hw (Or.inl rfl) dX0_readItem_147
  · replace hf := it_t c121 hf
    refine lv_iconst (v := 0) hx hb dX0_readItem_124 (by decide) ?_
    cases hf
    exact rt_z C hw (Or.inl rfl) dX0_readItem_125
def f_X0_readItem (pa_fault : Int32) (sc_token : Int32) (sc_start : Int32) (sc_end : Int32) (sh_names : Nat → Int32) (sh_nameLengths : Nat → Int32) (sh_groups : Nat → Int32) (sh_types : Nat → Int32) (sh_flat : Nat → Int32) (sh_size : Int32) (dr_items : Nat → Int32) (dr_itemCount : Int32) (tp_bytes : Nat → Int32) (tp_size : Int32) : Option ((Int32) × (Int32) × (Int32) × (Int32) × (Int32) × (Nat → Int32) × (Int32)) :=
  if sc_token < (12 : Int32) then (f_X0_readItem_28 sc_start pa_fault sc_token sc_start sc_end sh_names sh_nameLengths sh_groups sh_size dr_items dr_itemCount tp_bytes tp_size)
  else (if sc_token ≤ (15 : Int32) then (ob3 (f_X2_advance sc_token sc_start sc_end tp_bytes tp_size) (fun x1 x2 x3 =>
  if sc_token = (12 : Int32) then (if x1 = (20 : Int32) then (f_X0_readItem_115 sc_token sc_start pa_fault x1 x2 x3 sh_names sh_nameLengths sh_groups sh_types sh_flat sh_size dr_items dr_itemCount tp_bytes tp_size)
  else (ob3 (f_X1_addItem (1 : Int32) (-1 : Int32) dr_items dr_itemCount) (fun x4 x5 x6 =>
  if x4 = (0 : Int32) then (ob2 (f_X0_refuse sc_start pa_fault) (fun x7 x8 =>
  if x7 = (0 : Int32) then (some ((0 : Int32), x8, x1, x2, x3, x5, x6))
  else (some ((1 : Int32), x8, x1, x2, x3, x5, x6))))
  else (some ((1 : Int32), pa_fault, x1, x2, x3, x5, x6)))))
  else (f_X0_readItem_115 sc_token sc_start pa_fault x1 x2 x3 sh_names sh_nameLengths sh_groups sh_types sh_flat sh_size dr_items dr_itemCount tp_bytes tp_size)))
  else (f_X0_readItem_28 sc_start pa_fault sc_token sc_start sc_end sh_names sh_nameLengths sh_groups sh_size dr_items dr_itemCount tp_bytes tp_size))
set_option maxHeartbeats 4000000 in
set_option maxRecDepth 100000 in
theorem c_X0_readItem (l : Launch) (E : EnvT) (a_pa : Nat → Nat) (a_sc : Nat → Nat) (a_sh : Nat → Nat) (a_dr : Nat → Nat) (a_tp : Nat → Nat) (pa_itemPlaces : Nat → Int32) (pa_waitingSigns : Nat → Int32) (pa_waitingPlaces : Nat → Int32) (pa_waiting : Int32) (pa_nested : Int32) (pa_fault : Int32) (sc_token : Int32) (sc_start : Int32) (sc_end : Int32) (sc_numberRead : Int64) (sc_escaped : Int32) (sc_bytesBehind : Int32) (sh_names : Nat → Int32) (sh_nameLengths : Nat → Int32) (sh_groups : Nat → Int32) (sh_types : Nat → Int32) (sh_flat : Nat → Int32) (sh_size : Int32) (dr_items : Nat → Int32) (dr_behindBy : Nat → Int32) (dr_steps : Nat → Int32) (dr_literalTypes : Nat → Int32) (dr_numbers : Nat → Int64) (dr_textStarts : Nat → Int32) (dr_textLengths : Nat → Int32) (dr_textBytes : Nat → Int32) (dr_itemCount : Int32) (dr_byCount : Int32) (dr_stepCount : Int32) (dr_literalCount : Int32) (dr_textEnd : Int32) (tp_bytes : Nat → Int32) (tp_size : Int32) (r : Int32) (o_pa_fault : Int32) (o_sc_token : Int32) (o_sc_start : Int32) (o_sc_end : Int32) (o_dr_items : Nat → Int32) (o_dr_itemCount : Int32) (hf : f_X0_readItem pa_fault sc_token sc_start sc_end sh_names sh_nameLengths sh_groups sh_types sh_flat sh_size dr_items dr_itemCount tp_bytes tp_size = some (r, o_pa_fault, o_sc_token, o_sc_start, o_sc_end, o_dr_items, o_dr_itemCount)) : CI l yX0_readItem (Cond.code yX0_readItem cX0_readItem 5 (some .boolean)) { frames := 7, cells := 0, slots := 0, locals := 153 } E [.ref (a_pa 0)] (w_pa_sc_sh_dr_tp E a_pa a_sc a_sh a_dr a_tp pa_itemPlaces pa_waitingSigns pa_waitingPlaces pa_waiting pa_nested pa_fault sc_token sc_start sc_end sc_numberRead sc_escaped sc_bytesBehind sh_names sh_nameLengths sh_groups sh_types sh_flat sh_size dr_items dr_behindBy dr_steps dr_literalTypes dr_numbers dr_textStarts dr_textLengths dr_textBytes dr_itemCount dr_byCount dr_stepCount dr_literalCount dr_textEnd tp_bytes tp_size) r (w_pa_sc_sh_dr_tp E a_pa a_sc a_sh a_dr a_tp pa_itemPlaces pa_waitingSigns pa_waitingPlaces pa_waiting pa_nested o_pa_fault o_sc_token o_sc_start o_sc_end sc_numberRead sc_escaped sc_bytesBehind sh_names sh_nameLengths sh_groups sh_types sh_flat sh_size o_dr_items dr_behindBy dr_steps dr_literalTypes dr_numbers dr_textStarts dr_textLengths dr_textBytes o_dr_itemCount dr_byCount dr_stepCount dr_literalCount dr_textEnd tp_bytes tp_size) := by
  intro sz
  refine met_start [(0, .ref (a_pa 0))] (by decide) rfl rfl (Nat.le_of_ble_eq_true rfl) rfl ?_
  intro p e s m below meth c ls C hnm hmt hw hl
  have hx := C.1
  have hb := C.2.1
  generalize va_A (w_pa_sc_sh_dr_tp E a_pa a_sc a_sh a_dr a_tp pa_itemPlaces pa_waitingSigns pa_waitingPlaces pa_waiting pa_nested pa_fault sc_token sc_start sc_end sc_numberRead sc_escaped sc_bytesBehind sh_names sh_nameLengths sh_groups sh_types sh_flat sh_size dr_items dr_behindBy dr_steps dr_literalTypes dr_numbers dr_textStarts dr_textLengths dr_textBytes dr_itemCount dr_byCount dr_stepCount dr_literalCount dr_textEnd tp_bytes tp_size) sz = A at C hw ⊢
  unfold f_X0_readItem at hf
  refine lv_aload_n hx hb dX0_readItem_0 rfl (lv_at hl 0 rfl) ?_
  refine fg_X0_37 C hw 0 rfl rfl dX0_readItem_1 ?_
  refine fg_X0_51 C hw 4 rfl rfl dX0_readItem_4 ?_
  refine lv_istore_n (lv' := [(1, .int sc_token), (0, .ref (a_pa 0))]) hx hb dX0_readItem_7 rfl hl (by decide) rfl (fun ls hl => ?_)
  refine lv_aload_n hx hb dX0_readItem_8 rfl (lv_at hl 1 rfl) ?_
  refine fg_X0_37 C hw 0 rfl rfl dX0_readItem_9 ?_
  refine fg_X0_54 C hw 4 rfl rfl dX0_readItem_12 ?_
  refine lv_istore_n (lv' := [(2, .int sc_start), (1, .int sc_token), (0, .ref (a_pa 0))]) hx hb dX0_readItem_15 rfl hl (by decide) rfl (fun ls hl => ?_)
  refine lv_iload_n hx hb dX0_readItem_16 rfl (lv_at hl 1 rfl) ?_
  refine lv_bipush (v := 12) hx hb dX0_readItem_17 (by decide) ?_
  refine lv_icmp_lt (tgt := 28) hx hb dX0_readItem_19 (by decide) (fun c19 => ?_) (fun c19 => ?_)
  · replace hf := it_t c19 hf
    exact w_X0_readItem_28 C hw (lv_sub hl [2, 0] rfl) hf
  · replace hf := it_f c19 hf
    refine lv_iload_n hx hb dX0_readItem_22 rfl (lv_at hl 1 rfl) ?_
    refine lv_bipush (v := 15) hx hb dX0_readItem_23 (by decide) ?_
    refine lv_icmp_le (tgt := 64) hx hb dX0_readItem_25 (by decide) (fun c25 => ?_) (fun c25 => ?_)
    · replace hf := it_t c25 hf
      refine lv_aload_n hx hb dX0_readItem_64 rfl (lv_at hl 2 rfl) ?_
      refine fg_X0_37 C hw 0 rfl rfl dX0_readItem_65 ?_
      obtain ⟨x1, x2, x3, z3, hf⟩ := ob3_el hf
      refine cV_V C hw (c_X2_advance l E a_sc a_tp sc_token sc_start sc_end sc_numberRead sc_escaped sc_bytesBehind tp_bytes tp_size x1 x2 x3 z3) cs_X0_61 ⟨Nat.le_of_ble_eq_true rfl, Nat.le_of_ble_eq_true rfl⟩ ⟨rfl, rfl⟩ (ci := 2) (cn := (RX2, TX2, 7)) rfl (q0 := 4) rfl (wn := w_pa_sc_sh_dr_tp E a_pa a_sc a_sh a_dr a_tp pa_itemPlaces pa_waitingSigns pa_waitingPlaces pa_waiting pa_nested pa_fault x1 x2 x3 sc_numberRead sc_escaped sc_bytesBehind sh_names sh_nameLengths sh_groups sh_types sh_flat sh_size dr_items dr_behindBy dr_steps dr_literalTypes dr_numbers dr_textStarts dr_textLengths dr_textBytes dr_itemCount dr_byCount dr_stepCount dr_literalCount dr_textEnd tp_bytes tp_size) ⟨[4, 20, 21], [0, 1, 2, 3, 5, 6, 7, 8, 9, 10, 11, 12, 13, 14, 15, 16, 17, 18, 19], [0, 1, 2, 3, 19, 4, 5, 6, 7, 8, 9, 10, 11, 12, 13, 14, 15, 16, 17, 18, 20, 21], rfl, rfl, rfl, rfl, by decide, rfl, rfl⟩ rfl hl.1 rfl (Nat.le_of_ble_eq_true rfl) dX0_readItem_68 ⟨Nat.zero_le _, Nat.zero_le _⟩ (fun H locs hw => ?_)
      refine lv_iload_n hx hb dX0_readItem_71 rfl (lv_at hl 1 rfl) ?_
      refine lv_bipush (v := 12) hx hb dX0_readItem_72 (by decide) ?_
      refine lv_icmp_ne (tgt := 115) hx hb dX0_readItem_74 (by decide) (fun c74 => ?_) (fun c74 => ?_)
      · replace hf := it_f c74 hf
        exact w_X0_readItem_115 C hw (lv_sub hl [2, 1, 0] rfl) hf
      · replace hf := it_t c74 hf
        refine lv_aload_n hx hb dX0_readItem_77 rfl (lv_at hl 2 rfl) ?_
        refine fg_X0_37 C hw 0 rfl rfl dX0_readItem_78 ?_
        refine fg_X0_51 C hw 4 rfl rfl dX0_readItem_81 ?_
        refine lv_bipush (v := 20) hx hb dX0_readItem_84 (by decide) ?_
        refine lv_icmp_eq (tgt := 115) hx hb dX0_readItem_86 (by decide) (fun c86 => ?_) (fun c86 => ?_)
        · replace hf := it_t c86 hf
          exact w_X0_readItem_115 C hw (lv_sub hl [2, 1, 0] rfl) hf
        · replace hf := it_f c86 hf
          refine lv_aload_n hx hb dX0_readItem_89 rfl (lv_at hl 2 rfl) ?_
          refine fg_X0_12 C hw 0 rfl rfl dX0_readItem_90 ?_
          refine lv_iconst (v := 1) hx hb dX0_readItem_93 (by decide) ?_
          refine lv_iconst (v := -1) hx hb dX0_readItem_94 (by decide) ?_
          obtain ⟨x4, x5, x6, z6, hf⟩ := ob3_el hf
          refine cI_V C hw (c_X1_addItem l E a_dr dr_items dr_behindBy dr_steps dr_literalTypes dr_numbers dr_textStarts dr_textLengths dr_textBytes dr_itemCount dr_byCount dr_stepCount dr_literalCount dr_textEnd (1 : Int32) (-1 : Int32) x4 x5 x6 z6) cs_X0_75 ⟨Nat.le_of_ble_eq_true rfl, Nat.le_of_ble_eq_true rfl⟩ ⟨rfl, rfl⟩ (ci := 1) (cn := (RX1, TX1, 13)) rfl (q0 := 11) rfl (wn := w_pa_sc_sh_dr_tp E a_pa a_sc a_sh a_dr a_tp pa_itemPlaces pa_waitingSigns pa_waitingPlaces pa_waiting pa_nested pa_fault x1 x2 x3 sc_numberRead sc_escaped sc_bytesBehind sh_names sh_nameLengths sh_groups sh_types sh_flat sh_size x5 dr_behindBy dr_steps dr_literalTypes dr_numbers dr_textStarts dr_textLengths dr_textBytes x6 dr_byCount dr_stepCount dr_literalCount dr_textEnd tp_bytes tp_size) ⟨[11, 12, 13, 14, 15, 16, 17, 18, 19], [0, 1, 2, 3, 4, 5, 6, 7, 8, 9, 10, 20, 21], [0, 1, 2, 3, 4, 5, 6, 7, 8, 9, 10, 13, 14, 15, 16, 17, 18, 19, 20, 21, 11, 12], rfl, rfl, rfl, rfl, by decide, rfl, rfl⟩ rfl hl.1 rfl (Nat.le_of_ble_eq_true rfl) dX0_readItem_95 ⟨Nat.zero_le _, Nat.zero_le _⟩ (fun H locs hw => ?_)
          refine lv_if_ne (tgt := 109) hx hb dX0_readItem_98 (by decide) (fun c98 => ?_) (fun c98 => ?_)
          · replace hf := it_f c98 hf
            refine lv_iconst (v := 1) hx hb dX0_readItem_109 (by decide) ?_
            refine lv_goto (tgt := 114) hx hb dX0_readItem_110 (by decide) ?_
            cases hf
            exact rt_z C hw (Or.inr rfl) dX0_readItem_114
          · replace hf := it_t c98 hf
            refine lv_aload_n hx hb dX0_readItem_101 rfl (lv_at hl 2 rfl) ?_
            refine lv_iload_n hx hb dX0_readItem_102 rfl (lv_at hl 0 rfl) ?_
            obtain ⟨x7, x8, z8, hf⟩ := ob2_el hf
            refine cI_V C hw (c_X0_refuse l E a_pa a_sc a_sh a_dr a_tp pa_itemPlaces pa_waitingSigns pa_waitingPlaces pa_waiting pa_nested pa_fault x1 x2 x3 sc_numberRead sc_escaped sc_bytesBehind sh_names sh_nameLengths sh_groups sh_types sh_flat sh_size x5 dr_behindBy dr_steps dr_literalTypes dr_numbers dr_textStarts dr_textLengths dr_textBytes x6 dr_byCount dr_stepCount dr_literalCount dr_textEnd tp_bytes tp_size sc_start x7 x8 z8) cs_X0_57 ⟨Nat.le_of_ble_eq_true rfl, Nat.le_of_ble_eq_true rfl⟩ ⟨rfl, rfl⟩ (ci := 0) (cn := (RX0, TX0, 9)) rfl (q0 := 0) rfl (wn := w_pa_sc_sh_dr_tp E a_pa a_sc a_sh a_dr a_tp pa_itemPlaces pa_waitingSigns pa_waitingPlaces pa_waiting pa_nested x8 x1 x2 x3 sc_numberRead sc_escaped sc_bytesBehind sh_names sh_nameLengths sh_groups sh_types sh_flat sh_size x5 dr_behindBy dr_steps dr_literalTypes dr_numbers dr_textStarts dr_textLengths dr_textBytes x6 dr_byCount dr_stepCount dr_literalCount dr_textEnd tp_bytes tp_size) (Jn.all _ _) rfl hl.1 rfl (Nat.le_of_ble_eq_true rfl) dX0_readItem_103 ⟨Nat.zero_le _, Nat.zero_le _⟩ (fun H locs hw => ?_)
            refine lv_if_eq (tgt := 113) hx hb dX0_readItem_106 (by decide) (fun c106 => ?_) (fun c106 => ?_)
            · replace hf := it_t c106 hf
              refine lv_iconst (v := 0) hx hb dX0_readItem_113 (by decide) ?_
              cases hf
              exact rt_z C hw (Or.inl rfl) dX0_readItem_114
            · replace hf := it_f c106 hf
              refine lv_iconst (v := 1) hx hb dX0_readItem_109 (by decide) ?_
              refine lv_goto (tgt := 114) hx hb dX0_readItem_110 (by decide) ?_
              cases hf
              exact rt_z C hw (Or.inr rfl) dX0_readItem_114
    · replace hf := it_f c25 hf
      exact w_X0_readItem_28 C hw (lv_sub hl [2, 0] rfl) hf
def f_X0_readItems_12 : Nat → (Int32) → (Nat → Int32) → (Int32) → (Int32) → (Int32) → (Int32) → (Nat → Int32) → (Nat → Int32) → (Nat → Int32) → (Nat → Int32) → (Nat → Int32) → (Int32) → (Nat → Int32) → (Int32) → (Nat → Int32) → (Int32) → Option ((Int32) × (Nat → Int32) × (Int32) × (Int32) × (Int32) × (Int32) × (Nat → Int32) × (Int32))
  | 0, _, _, _, _, _, _, _, _, _, _, _, _, _, _, _, _ => none
  | n + 1, l1, pa_itemPlaces, pa_fault, sc_token, sc_start, sc_end, sh_names, sh_nameLengths, sh_groups, sh_types, sh_flat, sh_size, dr_items, dr_itemCount, tp_bytes, tp_size =>
  if (16 : Int32) ≤ l1 then (ob2 (f_X0_refuse sc_start pa_fault) (fun x1 x2 =>
  gz x1 (some (x1, pa_itemPlaces, x2, sc_token, sc_start, sc_end, dr_items, dr_itemCount))))
  else (wr pa_itemPlaces 16 l1 sc_start (fun x3 =>
  ob7 (f_X0_readItem pa_fault sc_token sc_start sc_end sh_names sh_nameLengths sh_groups sh_types sh_flat sh_size dr_items dr_itemCount tp_bytes tp_size) (fun x4 x5 x6 x7 x8 x9 x10 =>
  if x4 = (0 : Int32) then (some ((0 : Int32), x3, x5, x6, x7, x8, x9, x10))
  else (if x6 = (19 : Int32) then (ob3 (f_X2_advance x6 x7 x8 tp_bytes tp_size) (fun x11 x12 x13 =>
  on (l1 + (1 : Int32)) (fun x14 =>
  f_X0_readItems_12 n x14 x3 x5 x11 x12 x13 sh_names sh_nameLengths sh_groups sh_types sh_flat sh_size x9 x10 tp_bytes tp_size)))
  else (some ((1 : Int32), x3, x5, x6, x7, x8, x9, x10))))))
set_option maxHeartbeats 4000000 in
set_option maxRecDepth 100000 in
theorem w_X0_readItems_12 {p : Program} {l : Launch} {e : Env} {s : State} {m : MethodId} {args : Array Value} {below : List Frame} {meth : Method} {c : Code} {E : EnvT} {A : Nat → Prop} {a_pa : Nat → Nat} {a_sc : Nat → Nat} {a_sh : Nat → Nat} {a_dr : Nat → Nat} {a_tp : Nat → Nat} {pa_waitingSigns : Nat → Int32} {pa_waitingPlaces : Nat → Int32} {pa_waiting : Int32} {pa_nested : Int32} {sc_numberRead : Int64} {sc_escaped : Int32} {sc_bytesBehind : Int32} {dr_behindBy : Nat → Int32} {dr_steps : Nat → Int32} {dr_literalTypes : Nat → Int32} {dr_numbers : Nat → Int64} {dr_textStarts : Nat → Int32} {dr_textLengths : Nat → Int32} {dr_textBytes : Nat → Int32} {dr_byCount : Int32} {dr_stepCount : Int32} {dr_literalCount : Int32} {dr_textEnd : Int32} {r : Int32} {o_pa_itemPlaces : Nat → Int32} {o_pa_fault : Int32} {o_sc_token : Int32} {o_sc_start : Int32} {o_sc_end : Int32} {o_dr_items : Nat → Int32} {o_dr_itemCount : Int32} (C : MC p s m args meth c E A cX0_readItems 2 RX0 (some .boolean)) : ∀ (n : Nat) {l1 : Int32} {pa_itemPlaces : Nat → Int32} {pa_fault : Int32} {sc_token : Int32} {sc_start : Int32} {sc_end : Int32} {sh_names : Nat → Int32} {sh_nameLengths : Nat → Int32} {sh_groups : Nat → Int32} {sh_types : Nat → Int32} {sh_flat : Nat → Int32} {sh_size : Int32} {dr_items : Nat → Int32} {dr_itemCount : Int32} {tp_bytes : Nat → Int32} {tp_size : Int32} {H : Heap} {locs : List Loc} {ls : Array Slot}, WS E A s (w_pa_sc_sh_dr_tp E a_pa a_sc a_sh a_dr a_tp pa_itemPlaces pa_waitingSigns pa_waitingPlaces pa_waiting pa_nested pa_fault sc_token sc_start sc_end sc_numberRead sc_escaped sc_bytesBehind sh_names sh_nameLengths sh_groups sh_types sh_flat sh_size dr_items dr_behindBy dr_steps dr_literalTypes dr_numbers dr_textStarts dr_textLengths dr_textBytes dr_itemCount dr_byCount dr_stepCount dr_literalCount dr_textEnd tp_bytes tp_size) H locs → lv_has ls 2 [(0, .ref (a_pa 0)), (1, .int l1)] → f_X0_readItems_12 n l1 pa_itemPlaces pa_fault sc_token sc_start sc_end sh_names sh_nameLengths sh_groups sh_types sh_flat sh_size dr_items dr_itemCount tp_bytes tp_size = some (r, o_pa_itemPlaces, o_pa_fault, o_sc_token, o_sc_start, o_sc_end, o_dr_items, o_dr_itemCount) → W p l e { frames := 8, cells := 0, slots := 0, locals := 177 } s m args below meth c H locs 0 0 (MQ below (QcI E A (w_pa_sc_sh_dr_tp E a_pa a_sc a_sh a_dr a_tp o_pa_itemPlaces pa_waitingSigns pa_waitingPlaces pa_waiting pa_nested o_pa_fault o_sc_token o_sc_start o_sc_end sc_numberRead sc_escaped sc_bytesBehind sh_names sh_nameLengths sh_groups sh_types sh_flat sh_size o_dr_items dr_behindBy dr_steps dr_literalTypes dr_numbers dr_textStarts dr_textLengths dr_textBytes o_dr_itemCount dr_byCount dr_stepCount dr_literalCount dr_textEnd tp_bytes tp_size) r) args s 0 0 A) (F0 m 12 ls []) := by
  have hx := C.1
  have hb := C.2.1
  intro n
  induction n with
  | zero =>
    intro l1 pa_itemPlaces pa_fault sc_token sc_start sc_end sh_names sh_nameLengths sh_groups sh_types sh_flat sh_size dr_items dr_itemCount tp_bytes tp_size H locs ls hw hl hf
    unfold f_X0_readItems_12 at hf
    cases hf
  | succ n ih =>
    intro l1 pa_itemPlaces pa_fault sc_token sc_start sc_end sh_names sh_nameLengths sh_groups sh_types sh_flat sh_size dr_items dr_itemCount tp_bytes tp_size H locs ls hw hl hf
    unfold f_X0_readItems_12 at hf
    refine lv_iload_n hx hb dX0_readItems_12 rfl (lv_at hl 1 rfl) ?_
    refine lv_bipush (v := 16) hx hb dX0_readItems_13 (by decide) ?_
    refine lv_icmp_ge (tgt := 67) hx hb dX0_readItems_15 (by decide) (fun c15 => ?_) (fun c15 => ?_)
    · replace hf := it_t c15 hf
      refine lv_aload_n hx hb dX0_readItems_67 rfl (lv_at hl 0 rfl) ?_
      refine lv_aload_n hx hb dX0_readItems_68 rfl (lv_at hl 0 rfl) ?_
      refine fg_X0_37 C hw 0 rfl rfl dX0_readItems_69 ?_
      refine fg_X0_54 C hw 4 rfl rfl dX0_readItems_72 ?_
      obtain ⟨x1, x2, z2, hf⟩ := ob2_el hf
      refine cI_V C hw (c_X0_refuse l E a_pa a_sc a_sh a_dr a_tp pa_itemPlaces pa_waitingSigns pa_waitingPlaces pa_waiting pa_nested pa_fault sc_token sc_start sc_end sc_numberRead sc_escaped sc_bytesBehind sh_names sh_nameLengths sh_groups sh_types sh_flat sh_size dr_items dr_behindBy dr_steps dr_literalTypes dr_numbers dr_textStarts dr_textLengths dr_textBytes dr_itemCount dr_byCount dr_stepCount dr_literalCount dr_textEnd tp_bytes tp_size sc_start x1 x2 z2) cs_X0_57 ⟨Nat.le_of_ble_eq_true rfl, Nat.le_of_ble_eq_true rfl⟩ ⟨rfl, rfl⟩ (ci := 0) (cn := (RX0, TX0, 9)) rfl (q0 := 0) rfl (wn := w_pa_sc_sh_dr_tp E a_pa a_sc a_sh a_dr a_tp pa_itemPlaces pa_waitingSigns pa_waitingPlaces pa_waiting pa_nested x2 sc_token sc_start sc_end sc_numberRead sc_escaped sc_bytesBehind sh_names sh_nameLengths sh_groups sh_types sh_flat sh_size dr_items dr_behindBy dr_steps dr_literalTypes dr_numbers dr_textStarts dr_textLengths dr_textBytes dr_itemCount dr_byCount dr_stepCount dr_literalCount dr_textEnd tp_bytes tp_size) (Jn.all _ _) rfl hl.1 rfl (Nat.le_of_ble_eq_true rfl) dX0_readItems_75 ⟨Nat.zero_le _, Nat.zero_le _⟩ (fun H locs hw => ?_)
      obtain ⟨hz, hf⟩ := gz_el hf
      cases hf
      exact rt_z C hw hz dX0_readItems_78
    · replace hf := it_f c15 hf
      refine lv_aload_n hx hb dX0_readItems_18 rfl (lv_at hl 0 rfl) ?_
      refine fg_X0_18 C hw 0 rfl rfl dX0_readItems_19 ?_
      refine lv_iload_n hx hb dX0_readItems_22 rfl (lv_at hl 1 rfl) ?_
      refine lv_aload_n hx hb dX0_readItems_23 rfl (lv_at hl 0 rfl) ?_
      refine fg_X0_37 C hw 0 rfl rfl dX0_readItems_24 ?_
      refine fg_X0_54 C hw 4 rfl rfl dX0_readItems_27 ?_
      obtain ⟨x3, ex3, gx3, hf⟩ := wr_el hf
      refine rs_i C hw 1 rfl gx3 (ws' := w_pa_sc_sh_dr_tp E a_pa a_sc a_sh a_dr a_tp x3 pa_waitingSigns pa_waitingPlaces pa_waiting pa_nested pa_fault sc_token sc_start sc_end sc_numberRead sc_escaped sc_bytesBehind sh_names sh_nameLengths sh_groups sh_types sh_flat sh_size dr_items dr_behindBy dr_steps dr_literalTypes dr_numbers dr_textStarts dr_textLengths dr_textBytes dr_itemCount dr_byCount dr_stepCount dr_literalCount dr_textEnd tp_bytes tp_size) (by subst ex3; rfl) dX0_readItems_30 (fun H locs hw => ?_)
      refine lv_aload_n hx hb dX0_readItems_31 rfl (lv_at hl 0 rfl) ?_
      obtain ⟨x4, x5, x6, x7, x8, x9, x10, z10, hf⟩ := ob7_el hf
      refine cI_V C hw (c_X0_readItem l E a_pa a_sc a_sh a_dr a_tp x3 pa_waitingSigns pa_waitingPlaces pa_waiting pa_nested pa_fault sc_token sc_start sc_end sc_numberRead sc_escaped sc_bytesBehind sh_names sh_nameLengths sh_groups sh_types sh_flat sh_size dr_items dr_behindBy dr_steps dr_literalTypes dr_numbers dr_textStarts dr_textLengths dr_textBytes dr_itemCount dr_byCount dr_stepCount dr_literalCount dr_textEnd tp_bytes tp_size x4 x5 x6 x7 x8 x9 x10 z10) cs_X0_67 ⟨Nat.le_of_ble_eq_true rfl, Nat.le_of_ble_eq_true rfl⟩ ⟨rfl, rfl⟩ (ci := 0) (cn := (RX0, TX0, 9)) rfl (q0 := 0) rfl (wn := w_pa_sc_sh_dr_tp E a_pa a_sc a_sh a_dr a_tp x3 pa_waitingSigns pa_waitingPlaces pa_waiting pa_nested x5 x6 x7 x8 sc_numberRead sc_escaped sc_bytesBehind sh_names sh_nameLengths sh_groups sh_types sh_flat sh_size x9 dr_behindBy dr_steps dr_literalTypes dr_numbers dr_textStarts dr_textLengths dr_textBytes x10 dr_byCount dr_stepCount dr_literalCount dr_textEnd tp_bytes tp_size) (Jn.all _ _) rfl hl.1 rfl (Nat.le_of_ble_eq_true rfl) dX0_readItems_32 ⟨Nat.zero_le _, Nat.zero_le _⟩ (fun H locs hw => ?_)
      refine lv_if_ne (tgt := 40) hx hb dX0_readItems_35 (by decide) (fun c35 => ?_) (fun c35 => ?_)
      · replace hf := it_f c35 hf
        refine lv_aload_n hx hb dX0_readItems_40 rfl (lv_at hl 0 rfl) ?_
        refine fg_X0_37 C hw 0 rfl rfl dX0_readItems_41 ?_
        refine fg_X0_51 C hw 4 rfl rfl dX0_readItems_44 ?_
        refine lv_bipush (v := 19) hx hb dX0_readItems_47 (by decide) ?_
        refine lv_icmp_eq (tgt := 54) hx hb dX0_readItems_49 (by decide) (fun c49 => ?_) (fun c49 => ?_)
        · replace hf := it_t c49 hf
          refine lv_aload_n hx hb dX0_readItems_54 rfl (lv_at hl 0 rfl) ?_
          refine fg_X0_37 C hw 0 rfl rfl dX0_readItems_55 ?_
          obtain ⟨x11, x12, x13, z13, hf⟩ := ob3_el hf
          refine cV_V C hw (c_X2_advance l E a_sc a_tp x6 x7 x8 sc_numberRead sc_escaped sc_bytesBehind tp_bytes tp_size x11 x12 x13 z13) cs_X0_61 ⟨Nat.le_of_ble_eq_true rfl, Nat.le_of_ble_eq_true rfl⟩ ⟨rfl, rfl⟩ (ci := 2) (cn := (RX2, TX2, 7)) rfl (q0 := 4) rfl (wn := w_pa_sc_sh_dr_tp E a_pa a_sc a_sh a_dr a_tp x3 pa_waitingSigns pa_waitingPlaces pa_waiting pa_nested x5 x11 x12 x13 sc_numberRead sc_escaped sc_bytesBehind sh_names sh_nameLengths sh_groups sh_types sh_flat sh_size x9 dr_behindBy dr_steps dr_literalTypes dr_numbers dr_textStarts dr_textLengths dr_textBytes x10 dr_byCount dr_stepCount dr_literalCount dr_textEnd tp_bytes tp_size) ⟨[4, 20, 21], [0, 1, 2, 3, 5, 6, 7, 8, 9, 10, 11, 12, 13, 14, 15, 16, 17, 18, 19], [0, 1, 2, 3, 19, 4, 5, 6, 7, 8, 9, 10, 11, 12, 13, 14, 15, 16, 17, 18, 20, 21], rfl, rfl, rfl, rfl, by decide, rfl, rfl⟩ rfl hl.1 rfl (Nat.le_of_ble_eq_true rfl) dX0_readItems_58 ⟨Nat.zero_le _, Nat.zero_le _⟩ (fun H locs hw => ?_)
          obtain ⟨x14, ex14, hf⟩ := on_el hf
          refine lv_iinc (v := x14) (lv' := [(1, .int x14), (0, .ref (a_pa 0))]) hx hb dX0_readItems_61 hl (k := 1) rfl (by rw [← ex14]; rfl) (by decide) rfl (fun ls hl => ?_)
          refine lv_goto (tgt := 12) hx hb dX0_readItems_64 (by decide) ?_
          exact ih hw (lv_sub hl [1, 0] rfl) hf
        · replace hf := it_f c49 hf
          refine lv_iconst (v := 1) hx hb dX0_readItems_52 (by decide) ?_
          cases hf
          exact rt_z C hw (Or.inr rfl) dX0_readItems_53
      · replace hf := it_t c35 hf
        refine lv_iconst (v := 0) hx hb dX0_readItems_38 (by decide) ?_
        cases hf
        exact rt_z C hw (Or.inl rfl) dX0_readItems_39
def f_X0_readItems (pa_itemPlaces : Nat → Int32) (pa_fault : Int32) (sc_token : Int32) (sc_start : Int32) (sc_end : Int32) (sh_names : Nat → Int32) (sh_nameLengths : Nat → Int32) (sh_groups : Nat → Int32) (sh_types : Nat → Int32) (sh_flat : Nat → Int32) (sh_size : Int32) (dr_items : Nat → Int32) (dr_itemCount : Int32) (tp_bytes : Nat → Int32) (tp_size : Int32) : Option ((Int32) × (Nat → Int32) × (Int32) × (Int32) × (Int32) × (Int32) × (Nat → Int32) × (Int32)) :=
  ob5 (f_X0_take (0 : Int32) pa_fault sc_token sc_start sc_end tp_bytes tp_size) (fun x1 x2 x3 x4 x5 =>
  if x1 = (0 : Int32) then (some ((0 : Int32), pa_itemPlaces, x2, x3, x4, x5, dr_items, dr_itemCount))
  else (f_X0_readItems_12 FU (0 : Int32) pa_itemPlaces x2 x3 x4 x5 sh_names sh_nameLengths sh_groups sh_types sh_flat sh_size dr_items dr_itemCount tp_bytes tp_size))
set_option maxHeartbeats 4000000 in
set_option maxRecDepth 100000 in
theorem c_X0_readItems (l : Launch) (E : EnvT) (a_pa : Nat → Nat) (a_sc : Nat → Nat) (a_sh : Nat → Nat) (a_dr : Nat → Nat) (a_tp : Nat → Nat) (pa_itemPlaces : Nat → Int32) (pa_waitingSigns : Nat → Int32) (pa_waitingPlaces : Nat → Int32) (pa_waiting : Int32) (pa_nested : Int32) (pa_fault : Int32) (sc_token : Int32) (sc_start : Int32) (sc_end : Int32) (sc_numberRead : Int64) (sc_escaped : Int32) (sc_bytesBehind : Int32) (sh_names : Nat → Int32) (sh_nameLengths : Nat → Int32) (sh_groups : Nat → Int32) (sh_types : Nat → Int32) (sh_flat : Nat → Int32) (sh_size : Int32) (dr_items : Nat → Int32) (dr_behindBy : Nat → Int32) (dr_steps : Nat → Int32) (dr_literalTypes : Nat → Int32) (dr_numbers : Nat → Int64) (dr_textStarts : Nat → Int32) (dr_textLengths : Nat → Int32) (dr_textBytes : Nat → Int32) (dr_itemCount : Int32) (dr_byCount : Int32) (dr_stepCount : Int32) (dr_literalCount : Int32) (dr_textEnd : Int32) (tp_bytes : Nat → Int32) (tp_size : Int32) (r : Int32) (o_pa_itemPlaces : Nat → Int32) (o_pa_fault : Int32) (o_sc_token : Int32) (o_sc_start : Int32) (o_sc_end : Int32) (o_dr_items : Nat → Int32) (o_dr_itemCount : Int32) (hf : f_X0_readItems pa_itemPlaces pa_fault sc_token sc_start sc_end sh_names sh_nameLengths sh_groups sh_types sh_flat sh_size dr_items dr_itemCount tp_bytes tp_size = some (r, o_pa_itemPlaces, o_pa_fault, o_sc_token, o_sc_start, o_sc_end, o_dr_items, o_dr_itemCount)) : CI l yX0_readItems (Cond.code yX0_readItems cX0_readItems 2 (some .boolean)) { frames := 8, cells := 0, slots := 0, locals := 177 } E [.ref (a_pa 0)] (w_pa_sc_sh_dr_tp E a_pa a_sc a_sh a_dr a_tp pa_itemPlaces pa_waitingSigns pa_waitingPlaces pa_waiting pa_nested pa_fault sc_token sc_start sc_end sc_numberRead sc_escaped sc_bytesBehind sh_names sh_nameLengths sh_groups sh_types sh_flat sh_size dr_items dr_behindBy dr_steps dr_literalTypes dr_numbers dr_textStarts dr_textLengths dr_textBytes dr_itemCount dr_byCount dr_stepCount dr_literalCount dr_textEnd tp_bytes tp_size) r (w_pa_sc_sh_dr_tp E a_pa a_sc a_sh a_dr a_tp o_pa_itemPlaces pa_waitingSigns pa_waitingPlaces pa_waiting pa_nested o_pa_fault o_sc_token o_sc_start o_sc_end sc_numberRead sc_escaped sc_bytesBehind sh_names sh_nameLengths sh_groups sh_types sh_flat sh_size o_dr_items dr_behindBy dr_steps dr_literalTypes dr_numbers dr_textStarts dr_textLengths dr_textBytes o_dr_itemCount dr_byCount dr_stepCount dr_literalCount dr_textEnd tp_bytes tp_size) := by
  intro sz
  refine met_start [(0, .ref (a_pa 0))] (by decide) rfl rfl (Nat.le_of_ble_eq_true rfl) rfl ?_
  intro p e s m below meth c ls C hnm hmt hw hl
  have hx := C.1
  have hb := C.2.1
  generalize va_A (w_pa_sc_sh_dr_tp E a_pa a_sc a_sh a_dr a_tp pa_itemPlaces pa_waitingSigns pa_waitingPlaces pa_waiting pa_nested pa_fault sc_token sc_start sc_end sc_numberRead sc_escaped sc_bytesBehind sh_names sh_nameLengths sh_groups sh_types sh_flat sh_size dr_items dr_behindBy dr_steps dr_literalTypes dr_numbers dr_textStarts dr_textLengths dr_textBytes dr_itemCount dr_byCount dr_stepCount dr_literalCount dr_textEnd tp_bytes tp_size) sz = A at C hw ⊢
  unfold f_X0_readItems at hf
  refine lv_aload_n hx hb dX0_readItems_0 rfl (lv_at hl 0 rfl) ?_
  refine lv_iconst (v := 0) hx hb dX0_readItems_1 (by decide) ?_
  obtain ⟨x1, x2, x3, x4, x5, z5, hf⟩ := ob5_el hf
  refine cI_V C hw (c_X0_take l E a_pa a_sc a_sh a_dr a_tp pa_itemPlaces pa_waitingSigns pa_waitingPlaces pa_waiting pa_nested pa_fault sc_token sc_start sc_end sc_numberRead sc_escaped sc_bytesBehind sh_names sh_nameLengths sh_groups sh_types sh_flat sh_size dr_items dr_behindBy dr_steps dr_literalTypes dr_numbers dr_textStarts dr_textLengths dr_textBytes dr_itemCount dr_byCount dr_stepCount dr_literalCount dr_textEnd tp_bytes tp_size (0 : Int32) x1 x2 x3 x4 x5 z5) cs_X0_64 ⟨Nat.le_of_ble_eq_true rfl, Nat.le_of_ble_eq_true rfl⟩ ⟨rfl, rfl⟩ (ci := 0) (cn := (RX0, TX0, 9)) rfl (q0 := 0) rfl (wn := w_pa_sc_sh_dr_tp E a_pa a_sc a_sh a_dr a_tp pa_itemPlaces pa_waitingSigns pa_waitingPlaces pa_waiting pa_nested x2 x3 x4 x5 sc_numberRead sc_escaped sc_bytesBehind sh_names sh_nameLengths sh_groups sh_types sh_flat sh_size dr_items dr_behindBy dr_steps dr_literalTypes dr_numbers dr_textStarts dr_textLengths dr_textBytes dr_itemCount dr_byCount dr_stepCount dr_literalCount dr_textEnd tp_bytes tp_size) (Jn.all _ _) rfl hl.1 rfl (Nat.le_of_ble_eq_true rfl) dX0_readItems_2 ⟨Nat.zero_le _, Nat.zero_le _⟩ (fun H locs hw => ?_)
  refine lv_if_ne (tgt := 10) hx hb dX0_readItems_5 (by decide) (fun c5 => ?_) (fun c5 => ?_)
  · replace hf := it_f c5 hf
    refine lv_iconst (v := 0) hx hb dX0_readItems_10 (by decide) ?_
    refine lv_istore_n (lv' := [(1, .int (0 : Int32)), (0, .ref (a_pa 0))]) hx hb dX0_readItems_11 rfl hl (by decide) rfl (fun ls hl => ?_)
    exact w_X0_readItems_12 C FU hw (lv_sub hl [1, 0] rfl) hf
  · replace hf := it_t c5 hf
    refine lv_iconst (v := 0) hx hb dX0_readItems_8 (by decide) ?_
    cases hf
    exact rt_z C hw (Or.inl rfl) dX0_readItems_9
def f_X0_await (pa_waitingSigns : Nat → Int32) (pa_waitingPlaces : Nat → Int32) (pa_waiting : Int32) (pa_fault : Int32) (sc_token : Int32) (sc_start : Int32) (sc_end : Int32) (tp_bytes : Nat → Int32) (tp_size : Int32) : Option ((Int32) × (Nat → Int32) × (Nat → Int32) × (Int32) × (Int32) × (Int32) × (Int32) × (Int32)) :=
  if pa_waiting < (98 : Int32) then (wr pa_waitingSigns 98 pa_waiting sc_token (fun x1 =>
  wr pa_waitingPlaces 98 pa_waiting sc_start (fun x2 =>
  on (pa_waiting + (1 : Int32)) (fun x3 =>
  ob3 (f_X2_advance sc_token sc_start sc_end tp_bytes tp_size) (fun x4 x5 x6 =>
  some ((1 : Int32), x1, x2, x3, pa_fault, x4, x5, x6))))))
  else (ob2 (f_X0_refuse sc_start pa_fault) (fun x7 x8 =>
  gz x7 (some (x7, pa_waitingSigns, pa_waitingPlaces, pa_waiting, x8, sc_token, sc_start, sc_end))))
set_option maxHeartbeats 4000000 in
set_option maxRecDepth 100000 in
theorem c_X0_await (l : Launch) (E : EnvT) (a_pa : Nat → Nat) (a_sc : Nat → Nat) (a_sh : Nat → Nat) (a_dr : Nat → Nat) (a_tp : Nat → Nat) (pa_itemPlaces : Nat → Int32) (pa_waitingSigns : Nat → Int32) (pa_waitingPlaces : Nat → Int32) (pa_waiting : Int32) (pa_nested : Int32) (pa_fault : Int32) (sc_token : Int32) (sc_start : Int32) (sc_end : Int32) (sc_numberRead : Int64) (sc_escaped : Int32) (sc_bytesBehind : Int32) (sh_names : Nat → Int32) (sh_nameLengths : Nat → Int32) (sh_groups : Nat → Int32) (sh_types : Nat → Int32) (sh_flat : Nat → Int32) (sh_size : Int32) (dr_items : Nat → Int32) (dr_behindBy : Nat → Int32) (dr_steps : Nat → Int32) (dr_literalTypes : Nat → Int32) (dr_numbers : Nat → Int64) (dr_textStarts : Nat → Int32) (dr_textLengths : Nat → Int32) (dr_textBytes : Nat → Int32) (dr_itemCount : Int32) (dr_byCount : Int32) (dr_stepCount : Int32) (dr_literalCount : Int32) (dr_textEnd : Int32) (tp_bytes : Nat → Int32) (tp_size : Int32) (r : Int32) (o_pa_waitingSigns : Nat → Int32) (o_pa_waitingPlaces : Nat → Int32) (o_pa_waiting : Int32) (o_pa_fault : Int32) (o_sc_token : Int32) (o_sc_start : Int32) (o_sc_end : Int32) (hf : f_X0_await pa_waitingSigns pa_waitingPlaces pa_waiting pa_fault sc_token sc_start sc_end tp_bytes tp_size = some (r, o_pa_waitingSigns, o_pa_waitingPlaces, o_pa_waiting, o_pa_fault, o_sc_token, o_sc_start, o_sc_end)) : CI l yX0_await (Cond.code yX0_await cX0_await 1 (some .boolean)) { frames := 6, cells := 0, slots := 0, locals := 130 } E [.ref (a_pa 0)] (w_pa_sc_sh_dr_tp E a_pa a_sc a_sh a_dr a_tp pa_itemPlaces pa_waitingSigns pa_waitingPlaces pa_waiting pa_nested pa_fault sc_token sc_start sc_end sc_numberRead sc_escaped sc_bytesBehind sh_names sh_nameLengths sh_groups sh_types sh_flat sh_size dr_items dr_behindBy dr_steps dr_literalTypes dr_numbers dr_textStarts dr_textLengths dr_textBytes dr_itemCount dr_byCount dr_stepCount dr_literalCount dr_textEnd tp_bytes tp_size) r (w_pa_sc_sh_dr_tp E a_pa a_sc a_sh a_dr a_tp pa_itemPlaces o_pa_waitingSigns o_pa_waitingPlaces o_pa_waiting pa_nested o_pa_fault o_sc_token o_sc_start o_sc_end sc_numberRead sc_escaped sc_bytesBehind sh_names sh_nameLengths sh_groups sh_types sh_flat sh_size dr_items dr_behindBy dr_steps dr_literalTypes dr_numbers dr_textStarts dr_textLengths dr_textBytes dr_itemCount dr_byCount dr_stepCount dr_literalCount dr_textEnd tp_bytes tp_size) := by
  intro sz
  refine met_start [(0, .ref (a_pa 0))] (by decide) rfl rfl (Nat.le_of_ble_eq_true rfl) rfl ?_
  intro p e s m below meth c ls C hnm hmt hw hl
  have hx := C.1
  have hb := C.2.1
  generalize va_A (w_pa_sc_sh_dr_tp E a_pa a_sc a_sh a_dr a_tp pa_itemPlaces pa_waitingSigns pa_waitingPlaces pa_waiting pa_nested pa_fault sc_token sc_start sc_end sc_numberRead sc_escaped sc_bytesBehind sh_names sh_nameLengths sh_groups sh_types sh_flat sh_size dr_items dr_behindBy dr_steps dr_literalTypes dr_numbers dr_textStarts dr_textLengths dr_textBytes dr_itemCount dr_byCount dr_stepCount dr_literalCount dr_textEnd tp_bytes tp_size) sz = A at C hw ⊢
  unfold f_X0_await at hf
  refine lv_aload_n hx hb dX0_await_0 rfl (lv_at hl 0 rfl) ?_
  refine fg_X0_104 C hw 0 rfl rfl dX0_await_1 ?_
  refine lv_bipush (v := 98) hx hb dX0_await_4 (by decide) ?_
  refine lv_icmp_lt (tgt := 21) hx hb dX0_await_6 (by decide) (fun c6 => ?_) (fun c6 => ?_)
  · replace hf := it_t c6 hf
    refine lv_aload_n hx hb dX0_await_21 rfl (lv_at hl 0 rfl) ?_
    refine fg_X0_22 C hw 0 rfl rfl dX0_await_22 ?_
    refine lv_aload_n hx hb dX0_await_25 rfl (lv_at hl 0 rfl) ?_
    refine fg_X0_104 C hw 0 rfl rfl dX0_await_26 ?_
    refine lv_aload_n hx hb dX0_await_29 rfl (lv_at hl 0 rfl) ?_
    refine fg_X0_37 C hw 0 rfl rfl dX0_await_30 ?_
    refine fg_X0_51 C hw 4 rfl rfl dX0_await_33 ?_
    obtain ⟨x1, ex1, gx1, hf⟩ := wr_el hf
    refine rs_i C hw 2 rfl gx1 (ws' := w_pa_sc_sh_dr_tp E a_pa a_sc a_sh a_dr a_tp pa_itemPlaces x1 pa_waitingPlaces pa_waiting pa_nested pa_fault sc_token sc_start sc_end sc_numberRead sc_escaped sc_bytesBehind sh_names sh_nameLengths sh_groups sh_types sh_flat sh_size dr_items dr_behindBy dr_steps dr_literalTypes dr_numbers dr_textStarts dr_textLengths dr_textBytes dr_itemCount dr_byCount dr_stepCount dr_literalCount dr_textEnd tp_bytes tp_size) (by subst ex1; rfl) dX0_await_36 (fun H locs hw => ?_)
    refine lv_aload_n hx hb dX0_await_37 rfl (lv_at hl 0 rfl) ?_
    refine fg_X0_25 C hw 0 rfl rfl dX0_await_38 ?_
    refine lv_aload_n hx hb dX0_await_41 rfl (lv_at hl 0 rfl) ?_
    refine fg_X0_104 C hw 0 rfl rfl dX0_await_42 ?_
    refine lv_aload_n hx hb dX0_await_45 rfl (lv_at hl 0 rfl) ?_
    refine fg_X0_37 C hw 0 rfl rfl dX0_await_46 ?_
    refine fg_X0_54 C hw 4 rfl rfl dX0_await_49 ?_
    obtain ⟨x2, ex2, gx2, hf⟩ := wr_el hf
    refine rs_i C hw 3 rfl gx2 (ws' := w_pa_sc_sh_dr_tp E a_pa a_sc a_sh a_dr a_tp pa_itemPlaces x1 x2 pa_waiting pa_nested pa_fault sc_token sc_start sc_end sc_numberRead sc_escaped sc_bytesBehind sh_names sh_nameLengths sh_groups sh_types sh_flat sh_size dr_items dr_behindBy dr_steps dr_literalTypes dr_numbers dr_textStarts dr_textLengths dr_textBytes dr_itemCount dr_byCount dr_stepCount dr_literalCount dr_textEnd tp_bytes tp_size) (by subst ex2; rfl) dX0_await_52 (fun H locs hw => ?_)
    refine lv_aload_n hx hb dX0_await_53 rfl (lv_at hl 0 rfl) ?_
    refine lv_dup hx hb dX0_await_54 rfl ?_
    refine fg_X0_104 C hw 0 rfl rfl dX0_await_55 ?_
    refine lv_iconst (v := 1) hx hb dX0_await_58 (by decide) ?_
    refine lv_iadd hx hb dX0_await_59 ?_
    obtain ⟨x3, ex3, hf⟩ := on_el hf
    refine tp_i ex3 ?_
    refine fp_X0_104 C hw 0 rfl (Nat.le_of_ble_eq_true rfl) (ws' := w_pa_sc_sh_dr_tp E a_pa a_sc a_sh a_dr a_tp pa_itemPlaces x1 x2 x3 pa_nested pa_fault sc_token sc_start sc_end sc_numberRead sc_escaped sc_bytesBehind sh_names sh_nameLengths sh_groups sh_types sh_flat sh_size dr_items dr_behindBy dr_steps dr_literalTypes dr_numbers dr_textStarts dr_textLengths dr_textBytes dr_itemCount dr_byCount dr_stepCount dr_literalCount dr_textEnd tp_bytes tp_size) rfl dX0_await_60 (fun H locs hw => ?_)
    refine lv_aload_n hx hb dX0_await_63 rfl (lv_at hl 0 rfl) ?_
    refine fg_X0_37 C hw 0 rfl rfl dX0_await_64 ?_
    obtain ⟨x4, x5, x6, z6, hf⟩ := ob3_el hf
    refine cV_V C hw (c_X2_advance l E a_sc a_tp sc_token sc_start sc_end sc_numberRead sc_escaped sc_bytesBehind tp_bytes tp_size x4 x5 x6 z6) cs_X0_61 ⟨Nat.le_of_ble_eq_true rfl, Nat.le_of_ble_eq_true rfl⟩ ⟨rfl, rfl⟩ (ci := 2) (cn := (RX2, TX2, 7)) rfl (q0 := 4) rfl (wn := w_pa_sc_sh_dr_tp E a_pa a_sc a_sh a_dr a_tp pa_itemPlaces x1 x2 x3 pa_nested pa_fault x4 x5 x6 sc_numberRead sc_escaped sc_bytesBehind sh_names sh_nameLengths sh_groups sh_types sh_flat sh_size dr_items dr_behindBy dr_steps dr_literalTypes dr_numbers dr_textStarts dr_textLengths dr_textBytes dr_itemCount dr_byCount dr_stepCount dr_literalCount dr_textEnd tp_bytes tp_size) ⟨[4, 20, 21], [0, 1, 2, 3, 5, 6, 7, 8, 9, 10, 11, 12, 13, 14, 15, 16, 17, 18, 19], [0, 1, 2, 3, 19, 4, 5, 6, 7, 8, 9, 10, 11, 12, 13, 14, 15, 16, 17, 18, 20, 21], rfl, rfl, rfl, rfl, by decide, rfl, rfl⟩ rfl hl.1 rfl (Nat.le_of_ble_eq_true rfl) dX0_await_67 ⟨Nat.zero_le _, Nat.zero_le _⟩ (fun H locs hw => ?_)
    refine lv_iconst (v := 1) hx hb dX0_await_70 (by decide) ?_
    cases hf
    exact rt_z C hw (Or.inr rfl) dX0_await_71
  · replace hf := it_f c6 hf
    refine lv_aload_n hx hb dX0_await_9 rfl (lv_at hl 0 rfl) ?_
    refine lv_aload_n hx hb dX0_await_10 rfl (lv_at hl 0 rfl) ?_
    refine fg_X0_37 C hw 0 rfl rfl dX0_await_11 ?_
    refine fg_X0_54 C hw 4 rfl rfl dX0_await_14 ?_
    obtain ⟨x7, x8, z8, hf⟩ := ob2_el hf
    refine cI_V C hw (c_X0_refuse l E a_pa a_sc a_sh a_dr a_tp pa_itemPlaces pa_waitingSigns pa_waitingPlaces pa_waiting pa_nested pa_fault sc_token sc_start sc_end sc_numberRead sc_escaped sc_bytesBehind sh_names sh_nameLengths sh_groups sh_types sh_flat sh_size dr_items dr_behindBy dr_steps dr_literalTypes dr_numbers dr_textStarts dr_textLengths dr_textBytes dr_itemCount dr_byCount dr_stepCount dr_literalCount dr_textEnd tp_bytes tp_size sc_start x7 x8 z8) cs_X0_57 ⟨Nat.le_of_ble_eq_true rfl, Nat.le_of_ble_eq_true rfl⟩ ⟨rfl, rfl⟩ (ci := 0) (cn := (RX0, TX0, 9)) rfl (q0 := 0) rfl (wn := w_pa_sc_sh_dr_tp E a_pa a_sc a_sh a_dr a_tp pa_itemPlaces pa_waitingSigns pa_waitingPlaces pa_waiting pa_nested x8 sc_token sc_start sc_end sc_numberRead sc_escaped sc_bytesBehind sh_names sh_nameLengths sh_groups sh_types sh_flat sh_size dr_items dr_behindBy dr_steps dr_literalTypes dr_numbers dr_textStarts dr_textLengths dr_textBytes dr_itemCount dr_byCount dr_stepCount dr_literalCount dr_textEnd tp_bytes tp_size) (Jn.all _ _) rfl hl.1 rfl (Nat.le_of_ble_eq_true rfl) dX0_await_17 ⟨Nat.zero_le _, Nat.zero_le _⟩ (fun H locs hw => ?_)
    obtain ⟨hz, hf⟩ := gz_el hf
    cases hf
    exact rt_z C hw hz dX0_await_20
