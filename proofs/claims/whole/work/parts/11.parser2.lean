def f_X0_readTest (pa_fault : Int32) (sc_token : Int32) (sc_start : Int32) (sc_end : Int32) (sc_numberRead : Int64) (sc_escaped : Int32) (sc_bytesBehind : Int32) (sh_names : Nat → Int32) (sh_nameLengths : Nat → Int32) (sh_groups : Nat → Int32) (sh_types : Nat → Int32) (sh_flat : Nat → Int32) (sh_size : Int32) (dr_steps : Nat → Int32) (dr_literalTypes : Nat → Int32) (dr_numbers : Nat → Int64) (dr_textStarts : Nat → Int32) (dr_textLengths : Nat → Int32) (dr_textBytes : Nat → Int32) (dr_stepCount : Int32) (dr_literalCount : Int32) (dr_textEnd : Int32) (tp_bytes : Nat → Int32) (tp_size : Int32) : Option ((Int32) × (Int32) × (Int32) × (Int32) × (Int32) × (Int64) × (Int32) × (Int32) × (Nat → Int32) × (Nat → Int32) × (Nat → Int64) × (Nat → Int32) × (Nat → Int32) × (Nat → Int32) × (Int32) × (Int32) × (Int32)) :=
  ob5 (f_X0_readPath pa_fault sc_token sc_start sc_end sh_names sh_nameLengths sh_groups sh_size tp_bytes tp_size) (fun x1 x2 x3 x4 x5 =>
  if x1 = (-1 : Int32) then (some ((0 : Int32), x2, x3, x4, x5, sc_numberRead, sc_escaped, sc_bytesBehind, dr_steps, dr_literalTypes, dr_numbers, dr_textStarts, dr_textLengths, dr_textBytes, dr_stepCount, dr_literalCount, dr_textEnd))
  else (ob1 (f_X3_isFlatValue x1 sh_types sh_flat sh_size) (fun x6 =>
  if x6 = (0 : Int32) then (ob2 (f_X0_refuse sc_start x2) (fun x52 x53 =>
  gz x52 (some (x52, x53, x3, x4, x5, sc_numberRead, sc_escaped, sc_bytesBehind, dr_steps, dr_literalTypes, dr_numbers, dr_textStarts, dr_textLengths, dr_textBytes, dr_stepCount, dr_literalCount, dr_textEnd))))
  else (if x3 = (7 : Int32) then (ob7 (f_X0_readIsNull x1 sc_start x2 x3 x4 x5 dr_steps dr_stepCount tp_bytes tp_size) (fun x45 x46 x47 x48 x49 x50 x51 =>
  gz x45 (some (x45, x46, x47, x48, x49, sc_numberRead, sc_escaped, sc_bytesBehind, x50, dr_literalTypes, dr_numbers, dr_textStarts, dr_textLengths, dr_textBytes, x51, dr_literalCount, dr_textEnd))))
  else (if x3 = (9 : Int32) then (ob17 (f_X0_readIn x1 sc_start x2 x3 x4 x5 sc_numberRead sc_escaped sc_bytesBehind sh_types sh_size dr_steps dr_literalTypes dr_numbers dr_textStarts dr_textLengths dr_textBytes dr_stepCount dr_literalCount dr_textEnd tp_bytes tp_size) (fun x28 x29 x30 x31 x32 x33 x34 x35 x36 x37 x38 x39 x40 x41 x42 x43 x44 =>
  gz x28 (some (x28, x29, x30, x31, x32, x33, x34, x35, x36, x37, x38, x39, x40, x41, x42, x43, x44))))
  else (if x3 < (22 : Int32) then (ob2 (f_X0_refuse x4 x2) (fun x7 x8 =>
  gz x7 (some (x7, x8, x3, x4, x5, sc_numberRead, sc_escaped, sc_bytesBehind, dr_steps, dr_literalTypes, dr_numbers, dr_textStarts, dr_textLengths, dr_textBytes, dr_stepCount, dr_literalCount, dr_textEnd))))
  else (if (27 : Int32) < x3 then (ob2 (f_X0_refuse x4 x2) (fun x9 x10 =>
  gz x9 (some (x9, x10, x3, x4, x5, sc_numberRead, sc_escaped, sc_bytesBehind, dr_steps, dr_literalTypes, dr_numbers, dr_textStarts, dr_textLengths, dr_textBytes, dr_stepCount, dr_literalCount, dr_textEnd))))
  else (ob17 (f_X0_readCompared x1 sc_start x2 x3 x4 x5 sc_numberRead sc_escaped sc_bytesBehind sh_names sh_nameLengths sh_groups sh_types sh_flat sh_size dr_steps dr_literalTypes dr_numbers dr_textStarts dr_textLengths dr_textBytes dr_stepCount dr_literalCount dr_textEnd tp_bytes tp_size) (fun x11 x12 x13 x14 x15 x16 x17 x18 x19 x20 x21 x22 x23 x24 x25 x26 x27 =>
  gz x11 (some (x11, x12, x13, x14, x15, x16, x17, x18, x19, x20, x21, x22, x23, x24, x25, x26, x27)))))))))))
set_option maxHeartbeats 4000000 in
set_option maxRecDepth 100000 in
theorem c_X0_readTest (l : Launch) (E : EnvT) (a_pa : Nat → Nat) (a_sc : Nat → Nat) (a_sh : Nat → Nat) (a_dr : Nat → Nat) (a_tp : Nat → Nat) (pa_itemPlaces : Nat → Int32) (pa_waitingSigns : Nat → Int32) (pa_waitingPlaces : Nat → Int32) (pa_waiting : Int32) (pa_nested : Int32) (pa_fault : Int32) (sc_token : Int32) (sc_start : Int32) (sc_end : Int32) (sc_numberRead : Int64) (sc_escaped : Int32) (sc_bytesBehind : Int32) (sh_names : Nat → Int32) (sh_nameLengths : Nat → Int32) (sh_groups : Nat → Int32) (sh_types : Nat → Int32) (sh_flat : Nat → Int32) (sh_size : Int32) (dr_items : Nat → Int32) (dr_behindBy : Nat → Int32) (dr_steps : Nat → Int32) (dr_literalTypes : Nat → Int32) (dr_numbers : Nat → Int64) (dr_textStarts : Nat → Int32) (dr_textLengths : Nat → Int32) (dr_textBytes : Nat → Int32) (dr_itemCount : Int32) (dr_byCount : Int32) (dr_stepCount : Int32) (dr_literalCount : Int32) (dr_textEnd : Int32) (tp_bytes : Nat → Int32) (tp_size : Int32) (r : Int32) (o_pa_fault : Int32) (o_sc_token : Int32) (o_sc_start : Int32) (o_sc_end : Int32) (o_sc_numberRead : Int64) (o_sc_escaped : Int32) (o_sc_bytesBehind : Int32) (o_dr_steps : Nat → Int32) (o_dr_literalTypes : Nat → Int32) (o_dr_numbers : Nat → Int64) (o_dr_textStarts : Nat → Int32) (o_dr_textLengths : Nat → Int32) (o_dr_textBytes : Nat → Int32) (o_dr_stepCount : Int32) (o_dr_literalCount : Int32) (o_dr_textEnd : Int32) (hf : f_X0_readTest pa_fault sc_token sc_start sc_end sc_numberRead sc_escaped sc_bytesBehind sh_names sh_nameLengths sh_groups sh_types sh_flat sh_size dr_steps dr_literalTypes dr_numbers dr_textStarts dr_textLengths dr_textBytes dr_stepCount dr_literalCount dr_textEnd tp_bytes tp_size = some (r, o_pa_fault, o_sc_token, o_sc_start, o_sc_end, o_sc_numberRead, o_sc_escaped, o_sc_bytesBehind, o_dr_steps, o_dr_literalTypes, o_dr_numbers, o_dr_textStarts, o_dr_textLengths, o_dr_textBytes, o_dr_stepCount, o_dr_literalCount, o_dr_textEnd)) : CI l yX0_readTest (Cond.code yX0_readTest cX0_readTest 4 (some .boolean)) { frames := 8, cells := 0, slots := 0, locals := 182 } E [.ref (a_pa 0)] (w_pa_sc_sh_dr_tp E a_pa a_sc a_sh a_dr a_tp pa_itemPlaces pa_waitingSigns pa_waitingPlaces pa_waiting pa_nested pa_fault sc_token sc_start sc_end sc_numberRead sc_escaped sc_bytesBehind sh_names sh_nameLengths sh_groups sh_types sh_flat sh_size dr_items dr_behindBy dr_steps dr_literalTypes dr_numbers dr_textStarts dr_textLengths dr_textBytes dr_itemCount dr_byCount dr_stepCount dr_literalCount dr_textEnd tp_bytes tp_size) r (w_pa_sc_sh_dr_tp E a_pa a_sc a_sh a_dr a_tp pa_itemPlaces pa_waitingSigns pa_waitingPlaces pa_waiting pa_nested o_pa_fault o_sc_token o_sc_start o_sc_end o_sc_numberRead o_sc_escaped o_sc_bytesBehind sh_names sh_nameLengths sh_groups sh_types sh_flat sh_size dr_items dr_behindBy o_dr_steps o_dr_literalTypes o_dr_numbers o_dr_textStarts o_dr_textLengths o_dr_textBytes dr_itemCount dr_byCount o_dr_stepCount o_dr_literalCount o_dr_textEnd tp_bytes tp_size) := by
  intro sz
  refine met_start [(0, .ref (a_pa 0))] (by decide) rfl rfl (Nat.le_of_ble_eq_true rfl) rfl ?_
  intro p e s m below meth c ls C hnm hmt hw hl
  have hx := C.1
  have hb := C.2.1
  generalize va_A (w_pa_sc_sh_dr_tp E a_pa a_sc a_sh a_dr a_tp pa_itemPlaces pa_waitingSigns pa_waitingPlaces pa_waiting pa_nested pa_fault sc_token sc_start sc_end sc_numberRead sc_escaped sc_bytesBehind sh_names sh_nameLengths sh_groups sh_types sh_flat sh_size dr_items dr_behindBy dr_steps dr_literalTypes dr_numbers dr_textStarts dr_textLengths dr_textBytes dr_itemCount dr_byCount dr_stepCount dr_literalCount dr_textEnd tp_bytes tp_size) sz = A at C hw ⊢
  unfold f_X0_readTest at hf
  refine lv_aload_n hx hb dX0_readTest_0 rfl (lv_at hl 0 rfl) ?_
  refine fg_X0_37 C hw 0 rfl rfl dX0_readTest_1 ?_
  refine fg_X0_54 C hw 4 rfl rfl dX0_readTest_4 ?_
  refine lv_istore_n (lv' := [(1, .int sc_start), (0, .ref (a_pa 0))]) hx hb dX0_readTest_7 rfl hl (by decide) rfl (fun ls hl => ?_)
  refine lv_aload_n hx hb dX0_readTest_8 rfl (lv_at hl 1 rfl) ?_
  obtain ⟨x1, x2, x3, x4, x5, z5, hf⟩ := ob5_el hf
  refine cI_V C hw (c_X0_readPath l E a_pa a_sc a_sh a_dr a_tp pa_itemPlaces pa_waitingSigns pa_waitingPlaces pa_waiting pa_nested pa_fault sc_token sc_start sc_end sc_numberRead sc_escaped sc_bytesBehind sh_names sh_nameLengths sh_groups sh_types sh_flat sh_size dr_items dr_behindBy dr_steps dr_literalTypes dr_numbers dr_textStarts dr_textLengths dr_textBytes dr_itemCount dr_byCount dr_stepCount dr_literalCount dr_textEnd tp_bytes tp_size x1 x2 x3 x4 x5 z5) cs_X0_71 ⟨Nat.le_of_ble_eq_true rfl, Nat.le_of_ble_eq_true rfl⟩ ⟨rfl, rfl⟩ (ci := 0) (cn := (RX0, TX0, 9)) rfl (q0 := 0) rfl (wn := w_pa_sc_sh_dr_tp E a_pa a_sc a_sh a_dr a_tp pa_itemPlaces pa_waitingSigns pa_waitingPlaces pa_waiting pa_nested x2 x3 x4 x5 sc_numberRead sc_escaped sc_bytesBehind sh_names sh_nameLengths sh_groups sh_types sh_flat sh_size dr_items dr_behindBy dr_steps dr_literalTypes dr_numbers dr_textStarts dr_textLengths dr_textBytes dr_itemCount dr_byCount dr_stepCount dr_literalCount dr_textEnd tp_bytes tp_size) (Jn.all _ _) rfl hl.1 rfl (Nat.le_of_ble_eq_true rfl) dX0_readTest_9 ⟨Nat.zero_le _, Nat.zero_le _⟩ (fun H locs hw => ?_)
  refine lv_istore_n (lv' := [(2, .int x1), (1, .int sc_start), (0, .ref (a_pa 0))]) hx hb dX0_readTest_12 rfl hl (by decide) rfl (fun ls hl => ?_)
  refine lv_iload_n hx hb dX0_readTest_13 rfl (lv_at hl 0 rfl) ?_
  refine lv_iconst (v := -1) hx hb dX0_readTest_14 (by decide) ?_
  refine lv_icmp_ne (tgt := 20) hx hb dX0_readTest_15 (by decide) (fun c15 => ?_) (fun c15 => ?_)
  · replace hf := it_f c15 hf
    refine lv_aload_n hx hb dX0_readTest_20 rfl (lv_at hl 2 rfl) ?_
    refine fg_X0_28 C hw 0 rfl rfl dX0_readTest_21 ?_
    refine lv_iload_n hx hb dX0_readTest_24 rfl (lv_at hl 0 rfl) ?_
    obtain ⟨x6, z6, hf⟩ := ob1_el hf
    refine cI_V C hw (c_X3_isFlatValue l E a_sh a_tp sh_names sh_nameLengths sh_groups sh_types sh_flat sh_size tp_bytes tp_size x1 x6 z6) cs_X0_79 ⟨Nat.le_of_ble_eq_true rfl, Nat.le_of_ble_eq_true rfl⟩ ⟨rfl, rfl⟩ (ci := 3) (cn := (RX3, TX3, 7)) rfl (q0 := 5) rfl (wn := w_pa_sc_sh_dr_tp E a_pa a_sc a_sh a_dr a_tp pa_itemPlaces pa_waitingSigns pa_waitingPlaces pa_waiting pa_nested x2 x3 x4 x5 sc_numberRead sc_escaped sc_bytesBehind sh_names sh_nameLengths sh_groups sh_types sh_flat sh_size dr_items dr_behindBy dr_steps dr_literalTypes dr_numbers dr_textStarts dr_textLengths dr_textBytes dr_itemCount dr_byCount dr_stepCount dr_literalCount dr_textEnd tp_bytes tp_size) ⟨[5, 6, 7, 8, 9, 10, 20, 21], [0, 1, 2, 3, 4, 11, 12, 13, 14, 15, 16, 17, 18, 19], [0, 1, 2, 3, 4, 14, 15, 16, 17, 18, 19, 5, 6, 7, 8, 9, 10, 11, 12, 13, 20, 21], rfl, rfl, rfl, rfl, by decide, rfl, rfl⟩ rfl hl.1 rfl (Nat.le_of_ble_eq_true rfl) dX0_readTest_25 ⟨Nat.zero_le _, Nat.zero_le _⟩ (fun H locs hw => ?_)
    refine lv_if_ne (tgt := 37) hx hb dX0_readTest_28 (by decide) (fun c28 => ?_) (fun c28 => ?_)
    · replace hf := it_f c28 hf
      refine lv_aload_n hx hb dX0_readTest_37 rfl (lv_at hl 2 rfl) ?_
      refine fg_X0_37 C hw 0 rfl rfl dX0_readTest_38 ?_
      refine fg_X0_51 C hw 4 rfl rfl dX0_readTest_41 ?_
      refine lv_istore_n (lv' := [(3, .int x3), (2, .int x1), (1, .int sc_start), (0, .ref (a_pa 0))]) hx hb dX0_readTest_44 rfl hl (by decide) rfl (fun ls hl => ?_)
      refine lv_iload_n hx hb dX0_readTest_45 rfl (lv_at hl 0 rfl) ?_
      refine lv_bipush (v := 7) hx hb dX0_readTest_46 (by decide) ?_
      refine lv_icmp_ne (tgt := 58) hx hb dX0_readTest_48 (by decide) (fun c48 => ?_) (fun c48 => ?_)
      · replace hf := it_f c48 hf
        refine lv_iload_n hx hb dX0_readTest_58 rfl (lv_at hl 0 rfl) ?_
        refine lv_bipush (v := 9) hx hb dX0_readTest_59 (by decide) ?_
        refine lv_icmp_ne (tgt := 71) hx hb dX0_readTest_61 (by decide) (fun c61 => ?_) (fun c61 => ?_)
        · replace hf := it_f c61 hf
          refine lv_iload_n hx hb dX0_readTest_71 rfl (lv_at hl 0 rfl) ?_
          refine lv_bipush (v := 22) hx hb dX0_readTest_72 (by decide) ?_
          refine lv_icmp_lt (tgt := 90) hx hb dX0_readTest_74 (by decide) (fun c74 => ?_) (fun c74 => ?_)
          · replace hf := it_t c74 hf
            refine lv_aload_n hx hb dX0_readTest_90 rfl (lv_at hl 3 rfl) ?_
            refine lv_aload_n hx hb dX0_readTest_91 rfl (lv_at hl 3 rfl) ?_
            refine fg_X0_37 C hw 0 rfl rfl dX0_readTest_92 ?_
            refine fg_X0_54 C hw 4 rfl rfl dX0_readTest_95 ?_
            obtain ⟨x7, x8, z8, hf⟩ := ob2_el hf
            refine cI_V C hw (c_X0_refuse l E a_pa a_sc a_sh a_dr a_tp pa_itemPlaces pa_waitingSigns pa_waitingPlaces pa_waiting pa_nested x2 x3 x4 x5 sc_numberRead sc_escaped sc_bytesBehind sh_names sh_nameLengths sh_groups sh_types sh_flat sh_size dr_items dr_behindBy dr_steps dr_literalTypes dr_numbers dr_textStarts dr_textLengths dr_textBytes dr_itemCount dr_byCount dr_stepCount dr_literalCount dr_textEnd tp_bytes tp_size x4 x7 x8 z8) cs_X0_57 ⟨Nat.le_of_ble_eq_true rfl, Nat.le_of_ble_eq_true rfl⟩ ⟨rfl, rfl⟩ (ci := 0) (cn := (RX0, TX0, 9)) rfl (q0 := 0) rfl (wn := w_pa_sc_sh_dr_tp E a_pa a_sc a_sh a_dr a_tp pa_itemPlaces pa_waitingSigns pa_waitingPlaces pa_waiting pa_nested x8 x3 x4 x5 sc_numberRead sc_escaped sc_bytesBehind sh_names sh_nameLengths sh_groups sh_types sh_flat sh_size dr_items dr_behindBy dr_steps dr_literalTypes dr_numbers dr_textStarts dr_textLengths dr_textBytes dr_itemCount dr_byCount dr_stepCount dr_literalCount dr_textEnd tp_bytes tp_size) (Jn.all _ _) rfl hl.1 rfl (Nat.le_of_ble_eq_true rfl) dX0_readTest_98 ⟨Nat.zero_le _, Nat.zero_le _⟩ (fun H locs hw => ?_)
            obtain ⟨hz, hf⟩ := gz_el hf
            cases hf
            exact rt_z C hw hz dX0_readTest_101
          · replace hf := it_f c74 hf
            refine lv_iload_n hx hb dX0_readTest_77 rfl (lv_at hl 0 rfl) ?_
            refine lv_bipush (v := 27) hx hb dX0_readTest_78 (by decide) ?_
            refine lv_icmp_gt (tgt := 90) hx hb dX0_readTest_80 (by decide) (fun c80 => ?_) (fun c80 => ?_)
            · replace hf := it_t c80 hf
              refine lv_aload_n hx hb dX0_readTest_90 rfl (lv_at hl 3 rfl) ?_
              refine lv_aload_n hx hb dX0_readTest_91 rfl (lv_at hl 3 rfl) ?_
              refine fg_X0_37 C hw 0 rfl rfl dX0_readTest_92 ?_
              refine fg_X0_54 C hw 4 rfl rfl dX0_readTest_95 ?_
              obtain ⟨x9, x10, z10, hf⟩ := ob2_el hf
              refine cI_V C hw (c_X0_refuse l E a_pa a_sc a_sh a_dr a_tp pa_itemPlaces pa_waitingSigns pa_waitingPlaces pa_waiting pa_nested x2 x3 x4 x5 sc_numberRead sc_escaped sc_bytesBehind sh_names sh_nameLengths sh_groups sh_types sh_flat sh_size dr_items dr_behindBy dr_steps dr_literalTypes dr_numbers dr_textStarts dr_textLengths dr_textBytes dr_itemCount dr_byCount dr_stepCount dr_literalCount dr_textEnd tp_bytes tp_size x4 x9 x10 z10) cs_X0_57 ⟨Nat.le_of_ble_eq_true rfl, Nat.le_of_ble_eq_true rfl⟩ ⟨rfl, rfl⟩ (ci := 0) (cn := (RX0, TX0, 9)) rfl (q0 := 0) rfl (wn := w_pa_sc_sh_dr_tp E a_pa a_sc a_sh a_dr a_tp pa_itemPlaces pa_waitingSigns pa_waitingPlaces pa_waiting pa_nested x10 x3 x4 x5 sc_numberRead sc_escaped sc_bytesBehind sh_names sh_nameLengths sh_groups sh_types sh_flat sh_size dr_items dr_behindBy dr_steps dr_literalTypes dr_numbers dr_textStarts dr_textLengths dr_textBytes dr_itemCount dr_byCount dr_stepCount dr_literalCount dr_textEnd tp_bytes tp_size) (Jn.all _ _) rfl hl.1 rfl (Nat.le_of_ble_eq_true rfl) dX0_readTest_98 ⟨Nat.zero_le _, Nat.zero_le _⟩ (fun H locs hw => ?_)
              obtain ⟨hz, hf⟩ := gz_el hf
              cases hf
              exact rt_z C hw hz dX0_readTest_101
            · replace hf := it_f c80 hf
              refine lv_aload_n hx hb dX0_readTest_83 rfl (lv_at hl 3 rfl) ?_
              refine lv_iload_n hx hb dX0_readTest_84 rfl (lv_at hl 1 rfl) ?_
              refine lv_iload_n hx hb dX0_readTest_85 rfl (lv_at hl 2 rfl) ?_
              obtain ⟨x11, x12, x13, x14, x15, x16, x17, x18, x19, x20, x21, x22, x23, x24, x25, x26, x27, z27, hf⟩ := ob17_el hf
              refine cI_V C hw (c_X0_readCompared l E a_pa a_sc a_sh a_dr a_tp pa_itemPlaces pa_waitingSigns pa_waitingPlaces pa_waiting pa_nested x2 x3 x4 x5 sc_numberRead sc_escaped sc_bytesBehind sh_names sh_nameLengths sh_groups sh_types sh_flat sh_size dr_items dr_behindBy dr_steps dr_literalTypes dr_numbers dr_textStarts dr_textLengths dr_textBytes dr_itemCount dr_byCount dr_stepCount dr_literalCount dr_textEnd tp_bytes tp_size x1 sc_start x11 x12 x13 x14 x15 x16 x17 x18 x19 x20 x21 x22 x23 x24 x25 x26 x27 z27) cs_X0_135 ⟨Nat.le_of_ble_eq_true rfl, Nat.le_of_ble_eq_true rfl⟩ ⟨rfl, rfl⟩ (ci := 0) (cn := (RX0, TX0, 9)) rfl (q0 := 0) rfl (wn := w_pa_sc_sh_dr_tp E a_pa a_sc a_sh a_dr a_tp pa_itemPlaces pa_waitingSigns pa_waitingPlaces pa_waiting pa_nested x12 x13 x14 x15 x16 x17 x18 sh_names sh_nameLengths sh_groups sh_types sh_flat sh_size dr_items dr_behindBy x19 x20 x21 x22 x23 x24 dr_itemCount dr_byCount x25 x26 x27 tp_bytes tp_size) (Jn.all _ _) rfl hl.1 rfl (Nat.le_of_ble_eq_true rfl) dX0_readTest_86 ⟨Nat.zero_le _, Nat.zero_le _⟩ (fun H locs hw => ?_)
              obtain ⟨hz, hf⟩ := gz_el hf
              cases hf
              exact rt_z C hw hz dX0_readTest_89
        · replace hf := it_t c61 hf
          refine lv_aload_n hx hb dX0_readTest_64 rfl (lv_at hl 3 rfl) ?_
          refine lv_iload_n hx hb dX0_readTest_65 rfl (lv_at hl 1 rfl) ?_
          refine lv_iload_n hx hb dX0_readTest_66 rfl (lv_at hl 2 rfl) ?_
          obtain ⟨x28, x29, x30, x31, x32, x33, x34, x35, x36, x37, x38, x39, x40, x41, x42, x43, x44, z44, hf⟩ := ob17_el hf
          refine cI_V C hw (c_X0_readIn l E a_pa a_sc a_sh a_dr a_tp pa_itemPlaces pa_waitingSigns pa_waitingPlaces pa_waiting pa_nested x2 x3 x4 x5 sc_numberRead sc_escaped sc_bytesBehind sh_names sh_nameLengths sh_groups sh_types sh_flat sh_size dr_items dr_behindBy dr_steps dr_literalTypes dr_numbers dr_textStarts dr_textLengths dr_textBytes dr_itemCount dr_byCount dr_stepCount dr_literalCount dr_textEnd tp_bytes tp_size x1 sc_start x28 x29 x30 x31 x32 x33 x34 x35 x36 x37 x38 x39 x40 x41 x42 x43 x44 z44) cs_X0_132 ⟨Nat.le_of_ble_eq_true rfl, Nat.le_of_ble_eq_true rfl⟩ ⟨rfl, rfl⟩ (ci := 0) (cn := (RX0, TX0, 9)) rfl (q0 := 0) rfl (wn := w_pa_sc_sh_dr_tp E a_pa a_sc a_sh a_dr a_tp pa_itemPlaces pa_waitingSigns pa_waitingPlaces pa_waiting pa_nested x29 x30 x31 x32 x33 x34 x35 sh_names sh_nameLengths sh_groups sh_types sh_flat sh_size dr_items dr_behindBy x36 x37 x38 x39 x40 x41 dr_itemCount dr_byCount x42 x43 x44 tp_bytes tp_size) (Jn.all _ _) rfl hl.1 rfl (Nat.le_of_ble_eq_true rfl) dX0_readTest_67 ⟨Nat.zero_le _, Nat.zero_le _⟩ (fun H locs hw => ?_)
          obtain ⟨hz, hf⟩ := gz_el hf
          cases hf
          exact rt_z C hw hz dX0_readTest_70
      · replace hf := it_t c48 hf
        refine lv_aload_n hx hb dX0_readTest_51 rfl (lv_at hl 3 rfl) ?_
        refine lv_iload_n hx hb dX0_readTest_52 rfl (lv_at hl 1 rfl) ?_
        refine lv_iload_n hx hb dX0_readTest_53 rfl (lv_at hl 2 rfl) ?_
        obtain ⟨x45, x46, x47, x48, x49, x50, x51, z51, hf⟩ := ob7_el hf
        refine cI_V C hw (c_X0_readIsNull l E a_pa a_sc a_sh a_dr a_tp pa_itemPlaces pa_waitingSigns pa_waitingPlaces pa_waiting pa_nested x2 x3 x4 x5 sc_numberRead sc_escaped sc_bytesBehind sh_names sh_nameLengths sh_groups sh_types sh_flat sh_size dr_items dr_behindBy dr_steps dr_literalTypes dr_numbers dr_textStarts dr_textLengths dr_textBytes dr_itemCount dr_byCount dr_stepCount dr_literalCount dr_textEnd tp_bytes tp_size x1 sc_start x45 x46 x47 x48 x49 x50 x51 z51) cs_X0_129 ⟨Nat.le_of_ble_eq_true rfl, Nat.le_of_ble_eq_true rfl⟩ ⟨rfl, rfl⟩ (ci := 0) (cn := (RX0, TX0, 9)) rfl (q0 := 0) rfl (wn := w_pa_sc_sh_dr_tp E a_pa a_sc a_sh a_dr a_tp pa_itemPlaces pa_waitingSigns pa_waitingPlaces pa_waiting pa_nested x46 x47 x48 x49 sc_numberRead sc_escaped sc_bytesBehind sh_names sh_nameLengths sh_groups sh_types sh_flat sh_size dr_items dr_behindBy x50 dr_literalTypes dr_numbers dr_textStarts dr_textLengths dr_textBytes dr_itemCount dr_byCount x51 dr_literalCount dr_textEnd tp_bytes tp_size) (Jn.all _ _) rfl hl.1 rfl (Nat.le_of_ble_eq_true rfl) dX0_readTest_54 ⟨Nat.zero_le _, Nat.zero_le _⟩ (fun H locs hw => ?_)
        obtain ⟨hz, hf⟩ := gz_el hf
        cases hf
        exact rt_z C hw hz dX0_readTest_57
    · replace hf := it_t c28 hf
      refine lv_aload_n hx hb dX0_readTest_31 rfl (lv_at hl 2 rfl) ?_
      refine lv_iload_n hx hb dX0_readTest_32 rfl (lv_at hl 1 rfl) ?_
      obtain ⟨x52, x53, z53, hf⟩ := ob2_el hf
      refine cI_V C hw (c_X0_refuse l E a_pa a_sc a_sh a_dr a_tp pa_itemPlaces pa_waitingSigns pa_waitingPlaces pa_waiting pa_nested x2 x3 x4 x5 sc_numberRead sc_escaped sc_bytesBehind sh_names sh_nameLengths sh_groups sh_types sh_flat sh_size dr_items dr_behindBy dr_steps dr_literalTypes dr_numbers dr_textStarts dr_textLengths dr_textBytes dr_itemCount dr_byCount dr_stepCount dr_literalCount dr_textEnd tp_bytes tp_size sc_start x52 x53 z53) cs_X0_57 ⟨Nat.le_of_ble_eq_true rfl, Nat.le_of_ble_eq_true rfl⟩ ⟨rfl, rfl⟩ (ci := 0) (cn := (RX0, TX0, 9)) rfl (q0 := 0) rfl (wn := w_pa_sc_sh_dr_tp E a_pa a_sc a_sh a_dr a_tp pa_itemPlaces pa_waitingSigns pa_waitingPlaces pa_waiting pa_nested x53 x3 x4 x5 sc_numberRead sc_escaped sc_bytesBehind sh_names sh_nameLengths sh_groups sh_types sh_flat sh_size dr_items dr_behindBy dr_steps dr_literalTypes dr_numbers dr_textStarts dr_textLengths dr_textBytes dr_itemCount dr_byCount dr_stepCount dr_literalCount dr_textEnd tp_bytes tp_size) (Jn.all _ _) rfl hl.1 rfl (Nat.le_of_ble_eq_true rfl) dX0_readTest_33 ⟨Nat.zero_le _, Nat.zero_le _⟩ (fun H locs hw => ?_)
      obtain ⟨hz, hf⟩ := gz_el hf
      cases hf
      exact rt_z C hw hz dX0_readTest_36
  · replace hf := it_t c15 hf
    refine lv_iconst (v := 0) hx hb dX0_readTest_18 (by decide) ?_
    cases hf
    exact rt_z C hw (Or.inl rfl) dX0_readTest_19
def f_X0_join_0 : Nat → (Int32) → (Int32) → (Nat → Int32) → (Nat → Int32) → (Int32) → (Int32) → (Int32) → (Nat → Int32) → (Int32) → Option ((Int32) × (Int32) × (Int32) × (Int32) × (Nat → Int32) × (Int32))
  | 0, _, _, _, _, _, _, _, _, _ => none
  | n + 1, l1, l2, pa_waitingSigns, pa_waitingPlaces, pa_waiting, pa_nested, pa_fault, dr_steps, dr_stepCount =>
  if pa_waiting ≤ (0 : Int32) then (some ((1 : Int32), pa_waiting, pa_nested, pa_fault, dr_steps, dr_stepCount))
  else (rd pa_waitingSigns 98 (pa_waiting - (1 : Int32)) (fun x1 =>
  if x1 = l1 then (on (pa_waiting - (1 : Int32)) (fun x2 =>
  if l1 = (6 : Int32) then (on (pa_nested - (1 : Int32)) (fun x9 =>
  ob3 (f_X1_addStep l2 (-1 : Int32) (-1 : Int32) (-1 : Int32) (0 : Int32) dr_steps dr_stepCount) (fun x10 x11 x12 =>
  if x10 = (0 : Int32) then (rd pa_waitingPlaces 98 x2 (fun x13 =>
  ob2 (f_X0_refuse x13 pa_fault) (fun x14 x15 =>
  gz x14 (some (x14, x2, x9, x15, x11, x12)))))
  else (f_X0_join_0 n l1 l2 pa_waitingSigns pa_waitingPlaces x2 x9 pa_fault x11 x12))))
  else (ob3 (f_X1_addStep l2 (-1 : Int32) (-1 : Int32) (-1 : Int32) (0 : Int32) dr_steps dr_stepCount) (fun x3 x4 x5 =>
  if x3 = (0 : Int32) then (rd pa_waitingPlaces 98 x2 (fun x6 =>
  ob2 (f_X0_refuse x6 pa_fault) (fun x7 x8 =>
  gz x7 (some (x7, x2, pa_nested, x8, x4, x5)))))
  else (f_X0_join_0 n l1 l2 pa_waitingSigns pa_waitingPlaces x2 pa_nested pa_fault x4 x5)))))
  else (some ((1 : Int32), pa_waiting, pa_nested, pa_fault, dr_steps, dr_stepCount))))
set_option maxHeartbeats 4000000 in
set_option maxRecDepth 100000 in
theorem w_X0_join_0 {p : Program} {l : Launch} {e : Env} {s : State} {m : MethodId} {args : Array Value} {below : List Frame} {meth : Method} {c : Code} {E : EnvT} {A : Nat → Prop} {a_pa : Nat → Nat} {a_sc : Nat → Nat} {a_sh : Nat → Nat} {a_dr : Nat → Nat} {a_tp : Nat → Nat} {pa_itemPlaces : Nat → Int32} {sc_token : Int32} {sc_start : Int32} {sc_end : Int32} {sc_numberRead : Int64} {sc_escaped : Int32} {sc_bytesBehind : Int32} {sh_names : Nat → Int32} {sh_nameLengths : Nat → Int32} {sh_groups : Nat → Int32} {sh_types : Nat → Int32} {sh_flat : Nat → Int32} {sh_size : Int32} {dr_items : Nat → Int32} {dr_behindBy : Nat → Int32} {dr_literalTypes : Nat → Int32} {dr_numbers : Nat → Int64} {dr_textStarts : Nat → Int32} {dr_textLengths : Nat → Int32} {dr_textBytes : Nat → Int32} {dr_itemCount : Int32} {dr_byCount : Int32} {dr_literalCount : Int32} {dr_textEnd : Int32} {tp_bytes : Nat → Int32} {tp_size : Int32} {r : Int32} {o_pa_waiting : Int32} {o_pa_nested : Int32} {o_pa_fault : Int32} {o_dr_steps : Nat → Int32} {o_dr_stepCount : Int32} (C : MC p s m args meth c E A cX0_join 3 RX0 (some .boolean)) : ∀ (n : Nat) {l1 : Int32} {l2 : Int32} {pa_waitingSigns : Nat → Int32} {pa_waitingPlaces : Nat → Int32} {pa_waiting : Int32} {pa_nested : Int32} {pa_fault : Int32} {dr_steps : Nat → Int32} {dr_stepCount : Int32} {H : Heap} {locs : List Loc} {ls : Array Slot}, WS E A s (w_pa_sc_sh_dr_tp E a_pa a_sc a_sh a_dr a_tp pa_itemPlaces pa_waitingSigns pa_waitingPlaces pa_waiting pa_nested pa_fault sc_token sc_start sc_end sc_numberRead sc_escaped sc_bytesBehind sh_names sh_nameLengths sh_groups sh_types sh_flat sh_size dr_items dr_behindBy dr_steps dr_literalTypes dr_numbers dr_textStarts dr_textLengths dr_textBytes dr_itemCount dr_byCount dr_stepCount dr_literalCount dr_textEnd tp_bytes tp_size) H locs → lv_has ls 3 [(0, .ref (a_pa 0)), (1, .int l1), (2, .int l2)] → f_X0_join_0 n l1 l2 pa_waitingSigns pa_waitingPlaces pa_waiting pa_nested pa_fault dr_steps dr_stepCount = some (r, o_pa_waiting, o_pa_nested, o_pa_fault, o_dr_steps, o_dr_stepCount) → W p l e { frames := 1, cells := 0, slots := 0, locals := 26 } s m args below meth c H locs 0 0 (MQ below (QcI E A (w_pa_sc_sh_dr_tp E a_pa a_sc a_sh a_dr a_tp pa_itemPlaces pa_waitingSigns pa_waitingPlaces o_pa_waiting o_pa_nested o_pa_fault sc_token sc_start sc_end sc_numberRead sc_escaped sc_bytesBehind sh_names sh_nameLengths sh_groups sh_types sh_flat sh_size dr_items dr_behindBy o_dr_steps dr_literalTypes dr_numbers dr_textStarts dr_textLengths dr_textBytes dr_itemCount dr_byCount o_dr_stepCount dr_literalCount dr_textEnd tp_bytes tp_size) r) args s 0 0 A) (F0 m 0 ls []) := by
  have hx := C.1
  have hb := C.2.1
  intro n
  induction n with
  | zero =>
    intro l1 l2 pa_waitingSigns pa_waitingPlaces pa_waiting pa_nested pa_fault dr_steps dr_stepCount H locs ls hw hl hf
    unfold f_X0_join_0 at hf
    cases hf
  | succ n ih =>
    intro l1 l2 pa_waitingSigns pa_waitingPlaces pa_waiting pa_nested pa_fault dr_steps dr_stepCount H locs ls hw hl hf
    unfold f_X0_join_0 at hf
    refine lv_aload_n hx hb dX0_join_0 rfl (lv_at hl 0 rfl) ?_
    refine fg_X0_104 C hw 0 rfl rfl dX0_join_1 ?_
    refine lv_if_le (tgt := 77) hx hb dX0_join_4 (by decide) (fun c4 => ?_) (fun c4 => ?_)
    · replace hf := it_t c4 hf
      refine lv_iconst (v := 1) hx hb dX0_join_77 (by decide) ?_
      cases hf
      exact rt_z C hw (Or.inr rfl) dX0_join_78
    · replace hf := it_f c4 hf
      refine lv_aload_n hx hb dX0_join_7 rfl (lv_at hl 0 rfl) ?_
      refine fg_X0_22 C hw 0 rfl rfl dX0_join_8 ?_
      refine lv_aload_n hx hb dX0_join_11 rfl (lv_at hl 0 rfl) ?_
      refine fg_X0_104 C hw 0 rfl rfl dX0_join_12 ?_
      refine lv_iconst (v := 1) hx hb dX0_join_15 (by decide) ?_
      refine lv_isub hx hb dX0_join_16 ?_
      obtain ⟨x1, ex1, gx1, hf⟩ := rd_el hf
      refine ra_i C hw 2 rfl gx1 dX0_join_17 ?_
      refine tp_i ex1 ?_
      refine lv_iload_n hx hb dX0_join_18 rfl (lv_at hl 1 rfl) ?_
      refine lv_icmp_ne (tgt := 77) hx hb dX0_join_19 (by decide) (fun c19 => ?_) (fun c19 => ?_)
      · replace hf := it_f c19 hf
        refine lv_iconst (v := 1) hx hb dX0_join_77 (by decide) ?_
        cases hf
        exact rt_z C hw (Or.inr rfl) dX0_join_78
      · replace hf := it_t c19 hf
        refine lv_aload_n hx hb dX0_join_22 rfl (lv_at hl 0 rfl) ?_
        refine lv_dup hx hb dX0_join_23 rfl ?_
        refine fg_X0_104 C hw 0 rfl rfl dX0_join_24 ?_
        refine lv_iconst (v := 1) hx hb dX0_join_27 (by decide) ?_
        refine lv_isub hx hb dX0_join_28 ?_
        obtain ⟨x2, ex2, hf⟩ := on_el hf
        refine tp_i ex2 ?_
        refine fp_X0_104 C hw 0 rfl (Nat.le_of_ble_eq_true rfl) (ws' := w_pa_sc_sh_dr_tp E a_pa a_sc a_sh a_dr a_tp pa_itemPlaces pa_waitingSigns pa_waitingPlaces x2 pa_nested pa_fault sc_token sc_start sc_end sc_numberRead sc_escaped sc_bytesBehind sh_names sh_nameLengths sh_groups sh_types sh_flat sh_size dr_items dr_behindBy dr_steps dr_literalTypes dr_numbers dr_textStarts dr_textLengths dr_textBytes dr_itemCount dr_byCount dr_stepCount dr_literalCount dr_textEnd tp_bytes tp_size) rfl dX0_join_29 (fun H locs hw => ?_)
        refine lv_iload_n hx hb dX0_join_32 rfl (lv_at hl 1 rfl) ?_
        refine lv_bipush (v := 6) hx hb dX0_join_33 (by decide) ?_
        refine lv_icmp_ne (tgt := 48) hx hb dX0_join_35 (by decide) (fun c35 => ?_) (fun c35 => ?_)
        · replace hf := it_f c35 hf
          refine lv_aload_n hx hb dX0_join_48 rfl (lv_at hl 0 rfl) ?_
          refine fg_X0_12 C hw 0 rfl rfl dX0_join_49 ?_
          refine lv_iload_n hx hb dX0_join_52 rfl (lv_at hl 2 rfl) ?_
          refine lv_iconst (v := -1) hx hb dX0_join_53 (by decide) ?_
          refine lv_iconst (v := -1) hx hb dX0_join_54 (by decide) ?_
          refine lv_iconst (v := -1) hx hb dX0_join_55 (by decide) ?_
          refine lv_iconst (v := 0) hx hb dX0_join_56 (by decide) ?_
          obtain ⟨x3, x4, x5, z5, hf⟩ := ob3_el hf
          refine cI_V C hw (c_X1_addStep l E a_dr dr_items dr_behindBy dr_steps dr_literalTypes dr_numbers dr_textStarts dr_textLengths dr_textBytes dr_itemCount dr_byCount dr_stepCount dr_literalCount dr_textEnd l2 (-1 : Int32) (-1 : Int32) (-1 : Int32) (0 : Int32) x3 x4 x5 z5) cs_X0_125 ⟨Nat.le_of_ble_eq_true rfl, Nat.le_of_ble_eq_true rfl⟩ ⟨rfl, rfl⟩ (ci := 1) (cn := (RX1, TX1, 13)) rfl (q0 := 11) rfl (wn := w_pa_sc_sh_dr_tp E a_pa a_sc a_sh a_dr a_tp pa_itemPlaces pa_waitingSigns pa_waitingPlaces x2 pa_nested pa_fault sc_token sc_start sc_end sc_numberRead sc_escaped sc_bytesBehind sh_names sh_nameLengths sh_groups sh_types sh_flat sh_size dr_items dr_behindBy x4 dr_literalTypes dr_numbers dr_textStarts dr_textLengths dr_textBytes dr_itemCount dr_byCount x5 dr_literalCount dr_textEnd tp_bytes tp_size) ⟨[11, 12, 13, 14, 15, 16, 17, 18, 19], [0, 1, 2, 3, 4, 5, 6, 7, 8, 9, 10, 20, 21], [0, 1, 2, 3, 4, 5, 6, 7, 8, 9, 10, 13, 14, 15, 16, 17, 18, 19, 20, 21, 11, 12], rfl, rfl, rfl, rfl, by decide, rfl, rfl⟩ rfl hl.1 rfl (Nat.le_of_ble_eq_true rfl) dX0_join_57 ⟨Nat.zero_le _, Nat.zero_le _⟩ (fun H locs hw => ?_)
          refine lv_if_ne (tgt := 0) hx hb dX0_join_60 (by decide) (fun c60 => ?_) (fun c60 => ?_)
          · replace hf := it_f c60 hf
            exact ih hw (lv_sub hl [0, 1, 2] rfl) hf
          · replace hf := it_t c60 hf
            refine lv_aload_n hx hb dX0_join_63 rfl (lv_at hl 0 rfl) ?_
            refine lv_aload_n hx hb dX0_join_64 rfl (lv_at hl 0 rfl) ?_
            refine fg_X0_25 C hw 0 rfl rfl dX0_join_65 ?_
            refine lv_aload_n hx hb dX0_join_68 rfl (lv_at hl 0 rfl) ?_
            refine fg_X0_104 C hw 0 rfl rfl dX0_join_69 ?_
            obtain ⟨x6, ex6, gx6, hf⟩ := rd_el hf
            refine ra_i C hw 3 rfl gx6 dX0_join_72 ?_
            refine tp_i ex6 ?_
            obtain ⟨x7, x8, z8, hf⟩ := ob2_el hf
            refine cI_V C hw (c_X0_refuse l E a_pa a_sc a_sh a_dr a_tp pa_itemPlaces pa_waitingSigns pa_waitingPlaces x2 pa_nested pa_fault sc_token sc_start sc_end sc_numberRead sc_escaped sc_bytesBehind sh_names sh_nameLengths sh_groups sh_types sh_flat sh_size dr_items dr_behindBy x4 dr_literalTypes dr_numbers dr_textStarts dr_textLengths dr_textBytes dr_itemCount dr_byCount x5 dr_literalCount dr_textEnd tp_bytes tp_size x6 x7 x8 z8) cs_X0_57 ⟨Nat.le_of_ble_eq_true rfl, Nat.le_of_ble_eq_true rfl⟩ ⟨rfl, rfl⟩ (ci := 0) (cn := (RX0, TX0, 9)) rfl (q0 := 0) rfl (wn := w_pa_sc_sh_dr_tp E a_pa a_sc a_sh a_dr a_tp pa_itemPlaces pa_waitingSigns pa_waitingPlaces x2 pa_nested x8 sc_token sc_start sc_end sc_numberRead sc_escaped sc_bytesBehind sh_names sh_nameLengths sh_groups sh_types sh_flat sh_size dr_items dr_behindBy x4 dr_literalTypes dr_numbers dr_textStarts dr_textLengths dr_textBytes dr_itemCount dr_byCount x5 dr_literalCount dr_textEnd tp_bytes tp_size) (Jn.all _ _) rfl hl.1 rfl (Nat.le_of_ble_eq_true rfl) dX0_join_73 ⟨Nat.zero_le _, Nat.zero_le _⟩ (fun H locs hw => ?_)
            obtain ⟨hz, hf⟩ := gz_el hf
            cases hf
            exact rt_z C hw hz dX0_join_76
        · replace hf := it_t c35 hf
          refine lv_aload_n hx hb dX0_join_38 rfl (lv_at hl 0 rfl) ?_
          refine lv_dup hx hb dX0_join_39 rfl ?_
          refine fg_X0_107 C hw 0 rfl rfl dX0_join_40 ?_
          refine lv_iconst (v := 1) hx hb dX0_join_43 (by decide) ?_
          refine lv_isub hx hb dX0_join_44 ?_
          obtain ⟨x9, ex9, hf⟩ := on_el hf
          refine tp_i ex9 ?_
          refine fp_X0_107 C hw 0 rfl (Nat.le_of_ble_eq_true rfl) (ws' := w_pa_sc_sh_dr_tp E a_pa a_sc a_sh a_dr a_tp pa_itemPlaces pa_waitingSigns pa_waitingPlaces x2 x9 pa_fault sc_token sc_start sc_end sc_numberRead sc_escaped sc_bytesBehind sh_names sh_nameLengths sh_groups sh_types sh_flat sh_size dr_items dr_behindBy dr_steps dr_literalTypes dr_numbers dr_textStarts dr_textLengths dr_textBytes dr_itemCount dr_byCount dr_stepCount dr_literalCount dr_textEnd tp_bytes tp_size) rfl dX0_join_45 (fun H locs hw => ?_)
          refine lv_aload_n hx hb dX0_join_48 rfl (lv_at hl 0 rfl) ?_
          refine fg_X0_12 C hw 0 rfl rfl dX0_join_49 ?_
          refine lv_iload_n hx hb dX0_join_52 rfl (lv_at hl 2 rfl) ?_
          refine lv_iconst (v := -1) hx hb dX0_join_53 (by decide) ?_
          refine lv_iconst (v := -1) hx hb dX0_join_54 (by decide) ?_
          refine lv_iconst (v := -1) hx hb dX0_join_55 (by decide) ?_
          refine lv_iconst (v := 0) hx hb dX0_join_56 (by decide) ?_
          obtain ⟨x10, x11, x12, z12, hf⟩ := ob3_el hf
          refine cI_V C hw (c_X1_addStep l E a_dr dr_items dr_behindBy dr_steps dr_literalTypes dr_numbers dr_textStarts dr_textLengths dr_textBytes dr_itemCount dr_byCount dr_stepCount dr_literalCount dr_textEnd l2 (-1 : Int32) (-1 : Int32) (-1 : Int32) (0 : Int32) x10 x11 x12 z12) cs_X0_125 ⟨Nat.le_of_ble_eq_true rfl, Nat.le_of_ble_eq_true rfl⟩ ⟨rfl, rfl⟩ (ci := 1) (cn := (RX1, TX1, 13)) rfl (q0 := 11) rfl (wn := w_pa_sc_sh_dr_tp E a_pa a_sc a_sh a_dr a_tp pa_itemPlaces pa_waitingSigns pa_waitingPlaces x2 x9 pa_fault sc_token sc_start sc_end sc_numberRead sc_escaped sc_bytesBehind sh_names sh_nameLengths sh_groups sh_types sh_flat sh_size dr_items dr_behindBy x11 dr_literalTypes dr_numbers dr_textStarts dr_textLengths dr_textBytes dr_itemCount dr_byCount x12 dr_literalCount dr_textEnd tp_bytes tp_size) ⟨[11, 12, 13, 14, 15, 16, 17, 18, 19], [0, 1, 2, 3, 4, 5, 6, 7, 8, 9, 10, 20, 21], [0, 1, 2, 3, 4, 5, 6, 7, 8, 9, 10, 13, 14, 15, 16, 17, 18, 19, 20, 21, 11, 12], rfl, rfl, rfl, rfl, by decide, rfl, rfl⟩ rfl hl.1 rfl (Nat.le_of_ble_eq_true rfl) dX0_join_57 ⟨Nat.zero_le _, Nat.zero_le _⟩ (fun H locs hw => ?_)
          refine lv_if_ne (tgt := 0) hx hb dX0_join_60 (by decide) (fun c60 => ?_) (fun c60 => ?_)
          · replace hf := it_f c60 hf
            exact ih hw (lv_sub hl [0, 1, 2] rfl) hf
          · replace hf := it_t c60 hf
            refine lv_aload_n hx hb dX0_join_63 rfl (lv_at hl 0 rfl) ?_
            refine lv_aload_n hx hb dX0_join_64 rfl (lv_at hl 0 rfl) ?_
            refine fg_X0_25 C hw 0 rfl rfl dX0_join_65 ?_
            refine lv_aload_n hx hb dX0_join_68 rfl (lv_at hl 0 rfl) ?_
            refine fg_X0_104 C hw 0 rfl rfl dX0_join_69 ?_
            obtain ⟨x13, ex13, gx13, hf⟩ := rd_el hf
            refine ra_i C hw 3 rfl gx13 dX0_join_72 ?_
            refine tp_i ex13 ?_
            obtain ⟨x14, x15, z15, hf⟩ := ob2_el hf
            refine cI_V C hw (c_X0_refuse l E a_pa a_sc a_sh a_dr a_tp pa_itemPlaces pa_waitingSigns pa_waitingPlaces x2 x9 pa_fault sc_token sc_start sc_end sc_numberRead sc_escaped sc_bytesBehind sh_names sh_nameLengths sh_groups sh_types sh_flat sh_size dr_items dr_behindBy x11 dr_literalTypes dr_numbers dr_textStarts dr_textLengths dr_textBytes dr_itemCount dr_byCount x12 dr_literalCount dr_textEnd tp_bytes tp_size x13 x14 x15 z15) cs_X0_57 ⟨Nat.le_of_ble_eq_true rfl, Nat.le_of_ble_eq_true rfl⟩ ⟨rfl, rfl⟩ (ci := 0) (cn := (RX0, TX0, 9)) rfl (q0 := 0) rfl (wn := w_pa_sc_sh_dr_tp E a_pa a_sc a_sh a_dr a_tp pa_itemPlaces pa_waitingSigns pa_waitingPlaces x2 x9 x15 sc_token sc_start sc_end sc_numberRead sc_escaped sc_bytesBehind sh_names sh_nameLengths sh_groups sh_types sh_flat sh_size dr_items dr_behindBy x11 dr_literalTypes dr_numbers dr_textStarts dr_textLengths dr_textBytes dr_itemCount dr_byCount x12 dr_literalCount dr_textEnd tp_bytes tp_size) (Jn.all _ _) rfl hl.1 rfl (Nat.le_of_ble_eq_true rfl) dX0_join_73 ⟨Nat.zero_le _, Nat.zero_le _⟩ (fun H locs hw => ?_)
            obtain ⟨hz, hf⟩ := gz_el hf
            cases hf
            exact rt_z C hw hz dX0_join_76
def f_X0_join (p1 : Int32) (p2 : Int32) (pa_waitingSigns : Nat → Int32) (pa_waitingPlaces : Nat → Int32) (pa_waiting : Int32) (pa_nested : Int32) (pa_fault : Int32) (dr_steps : Nat → Int32) (dr_stepCount : Int32) : Option ((Int32) × (Int32) × (Int32) × (Int32) × (Nat → Int32) × (Int32)) :=
  f_X0_join_0 FU p1 p2 pa_waitingSigns pa_waitingPlaces pa_waiting pa_nested pa_fault dr_steps dr_stepCount
set_option maxHeartbeats 4000000 in
set_option maxRecDepth 100000 in
theorem c_X0_join (l : Launch) (E : EnvT) (a_pa : Nat → Nat) (a_sc : Nat → Nat) (a_sh : Nat → Nat) (a_dr : Nat → Nat) (a_tp : Nat → Nat) (pa_itemPlaces : Nat → Int32) (pa_waitingSigns : Nat → Int32) (pa_waitingPlaces : Nat → Int32) (pa_waiting : Int32) (pa_nested : Int32) (pa_fault : Int32) (sc_token : Int32) (sc_start : Int32) (sc_end : Int32) (sc_numberRead : Int64) (sc_escaped : Int32) (sc_bytesBehind : Int32) (sh_names : Nat → Int32) (sh_nameLengths : Nat → Int32) (sh_groups : Nat → Int32) (sh_types : Nat → Int32) (sh_flat : Nat → Int32) (sh_size : Int32) (dr_items : Nat → Int32) (dr_behindBy : Nat → Int32) (dr_steps : Nat → Int32) (dr_literalTypes : Nat → Int32) (dr_numbers : Nat → Int64) (dr_textStarts : Nat → Int32) (dr_textLengths : Nat → Int32) (dr_textBytes : Nat → Int32) (dr_itemCount : Int32) (dr_byCount : Int32) (dr_stepCount : Int32) (dr_literalCount : Int32) (dr_textEnd : Int32) (tp_bytes : Nat → Int32) (tp_size : Int32) (p1 : Int32) (p2 : Int32) (r : Int32) (o_pa_waiting : Int32) (o_pa_nested : Int32) (o_pa_fault : Int32) (o_dr_steps : Nat → Int32) (o_dr_stepCount : Int32) (hf : f_X0_join p1 p2 pa_waitingSigns pa_waitingPlaces pa_waiting pa_nested pa_fault dr_steps dr_stepCount = some (r, o_pa_waiting, o_pa_nested, o_pa_fault, o_dr_steps, o_dr_stepCount)) : CI l yX0_join (Cond.code yX0_join cX0_join 3 (some .boolean)) { frames := 1, cells := 0, slots := 0, locals := 26 } E [.ref (a_pa 0), .int p1, .int p2] (w_pa_sc_sh_dr_tp E a_pa a_sc a_sh a_dr a_tp pa_itemPlaces pa_waitingSigns pa_waitingPlaces pa_waiting pa_nested pa_fault sc_token sc_start sc_end sc_numberRead sc_escaped sc_bytesBehind sh_names sh_nameLengths sh_groups sh_types sh_flat sh_size dr_items dr_behindBy dr_steps dr_literalTypes dr_numbers dr_textStarts dr_textLengths dr_textBytes dr_itemCount dr_byCount dr_stepCount dr_literalCount dr_textEnd tp_bytes tp_size) r (w_pa_sc_sh_dr_tp E a_pa a_sc a_sh a_dr a_tp pa_itemPlaces pa_waitingSigns pa_waitingPlaces o_pa_waiting o_pa_nested o_pa_fault sc_token sc_start sc_end sc_numberRead sc_escaped sc_bytesBehind sh_names sh_nameLengths sh_groups sh_types sh_flat sh_size dr_items dr_behindBy o_dr_steps dr_literalTypes dr_numbers dr_textStarts dr_textLengths dr_textBytes dr_itemCount dr_byCount o_dr_stepCount dr_literalCount dr_textEnd tp_bytes tp_size) := by
  intro sz
  refine met_start [(0, .ref (a_pa 0)), (1, .int p1), (2, .int p2)] (by decide) rfl rfl (Nat.le_of_ble_eq_true rfl) rfl ?_
  intro p e s m below meth c ls C hnm hmt hw hl
  have hx := C.1
  have hb := C.2.1
  generalize va_A (w_pa_sc_sh_dr_tp E a_pa a_sc a_sh a_dr a_tp pa_itemPlaces pa_waitingSigns pa_waitingPlaces pa_waiting pa_nested pa_fault sc_token sc_start sc_end sc_numberRead sc_escaped sc_bytesBehind sh_names sh_nameLengths sh_groups sh_types sh_flat sh_size dr_items dr_behindBy dr_steps dr_literalTypes dr_numbers dr_textStarts dr_textLengths dr_textBytes dr_itemCount dr_byCount dr_stepCount dr_literalCount dr_textEnd tp_bytes tp_size) sz = A at C hw ⊢
  unfold f_X0_join at hf
  exact w_X0_join_0 C FU hw (lv_sub hl [0, 1, 2] rfl) hf
def f_X0_closeTests_2 : Nat → (Int32) → (Nat → Int32) → (Nat → Int32) → (Int32) → (Int32) → (Int32) → (Int32) → (Int32) → (Int32) → (Nat → Int32) → (Int32) → (Nat → Int32) → (Int32) → Option ((Int32) × (Int32) × (Int32) × (Int32) × (Int32) × (Int32) × (Int32) × (Nat → Int32) × (Int32))
  | 0, _, _, _, _, _, _, _, _, _, _, _, _, _ => none
  | n + 1, l1, pa_waitingSigns, pa_waitingPlaces, pa_waiting, pa_nested, pa_fault, sc_token, sc_start, sc_end, dr_steps, dr_stepCount, tp_bytes, tp_size =>
  if (32 : Int32) < l1 then (some ((1 : Int32), pa_waiting, pa_nested, pa_fault, sc_token, sc_start, sc_end, dr_steps, dr_stepCount))
  else (ob6 (f_X0_join (6 : Int32) (5 : Int32) pa_waitingSigns pa_waitingPlaces pa_waiting pa_nested pa_fault dr_steps dr_stepCount) (fun x1 x2 x3 x4 x5 x6 =>
  if x1 = (0 : Int32) then (some ((0 : Int32), x2, x3, x4, sc_token, sc_start, sc_end, x5, x6))
  else (ob6 (f_X0_join (4 : Int32) (6 : Int32) pa_waitingSigns pa_waitingPlaces x2 x3 x4 x5 x6) (fun x7 x8 x9 x10 x11 x12 =>
  if x7 = (0 : Int32) then (some ((0 : Int32), x8, x9, x10, sc_token, sc_start, sc_end, x11, x12))
  else (if sc_token = (4 : Int32) then (some ((1 : Int32), x8, x9, x10, sc_token, sc_start, sc_end, x11, x12))
  else (ob6 (f_X0_join (5 : Int32) (7 : Int32) pa_waitingSigns pa_waitingPlaces x8 x9 x10 x11 x12) (fun x13 x14 x15 x16 x17 x18 =>
  if x13 = (0 : Int32) then (some ((0 : Int32), x14, x15, x16, sc_token, sc_start, sc_end, x17, x18))
  else (if sc_token = (5 : Int32) then (some ((1 : Int32), x14, x15, x16, sc_token, sc_start, sc_end, x17, x18))
  else (if x14 = (0 : Int32) then (some ((1 : Int32), x14, x15, x16, sc_token, sc_start, sc_end, x17, x18))
  else (ob5 (f_X0_take (21 : Int32) x16 sc_token sc_start sc_end tp_bytes tp_size) (fun x19 x20 x21 x22 x23 =>
  if x19 = (0 : Int32) then (some ((0 : Int32), x14, x15, x20, x21, x22, x23, x17, x18))
  else (on (x14 - (1 : Int32)) (fun x24 =>
  on (x15 - (1 : Int32)) (fun x25 =>
  on (l1 + (1 : Int32)) (fun x26 =>
  f_X0_closeTests_2 n x26 pa_waitingSigns pa_waitingPlaces x24 x25 x20 x21 x22 x23 x17 x18 tp_bytes tp_size)))))))))))))))
set_option maxHeartbeats 4000000 in
set_option maxRecDepth 100000 in
theorem w_X0_closeTests_2 {p : Program} {l : Launch} {e : Env} {s : State} {m : MethodId} {args : Array Value} {below : List Frame} {meth : Method} {c : Code} {E : EnvT} {A : Nat → Prop} {a_pa : Nat → Nat} {a_sc : Nat → Nat} {a_sh : Nat → Nat} {a_dr : Nat → Nat} {a_tp : Nat → Nat} {pa_itemPlaces : Nat → Int32} {sc_numberRead : Int64} {sc_escaped : Int32} {sc_bytesBehind : Int32} {sh_names : Nat → Int32} {sh_nameLengths : Nat → Int32} {sh_groups : Nat → Int32} {sh_types : Nat → Int32} {sh_flat : Nat → Int32} {sh_size : Int32} {dr_items : Nat → Int32} {dr_behindBy : Nat → Int32} {dr_literalTypes : Nat → Int32} {dr_numbers : Nat → Int64} {dr_textStarts : Nat → Int32} {dr_textLengths : Nat → Int32} {dr_textBytes : Nat → Int32} {dr_itemCount : Int32} {dr_byCount : Int32} {dr_literalCount : Int32} {dr_textEnd : Int32} {r : Int32} {o_pa_waiting : Int32} {o_pa_nested : Int32} {o_pa_fault : Int32} {o_sc_token : Int32} {o_sc_start : Int32} {o_sc_end : Int32} {o_dr_steps : Nat → Int32} {o_dr_stepCount : Int32} (C : MC p s m args meth c E A cX0_closeTests 2 RX0 (some .boolean)) : ∀ (n : Nat) {l1 : Int32} {pa_waitingSigns : Nat → Int32} {pa_waitingPlaces : Nat → Int32} {pa_waiting : Int32} {pa_nested : Int32} {pa_fault : Int32} {sc_token : Int32} {sc_start : Int32} {sc_end : Int32} {dr_steps : Nat → Int32} {dr_stepCount : Int32} {tp_bytes : Nat → Int32} {tp_size : Int32} {H : Heap} {locs : List Loc} {ls : Array Slot}, WS E A s (w_pa_sc_sh_dr_tp E a_pa a_sc a_sh a_dr a_tp pa_itemPlaces pa_waitingSigns pa_waitingPlaces pa_waiting pa_nested pa_fault sc_token sc_start sc_end sc_numberRead sc_escaped sc_bytesBehind sh_names sh_nameLengths sh_groups sh_types sh_flat sh_size dr_items dr_behindBy dr_steps dr_literalTypes dr_numbers dr_textStarts dr_textLengths dr_textBytes dr_itemCount dr_byCount dr_stepCount dr_literalCount dr_textEnd tp_bytes tp_size) H locs → lv_has ls 2 [(0, .ref (a_pa 0)), (1, .int l1)] → f_X0_closeTests_2 n l1 pa_waitingSigns pa_waitingPlaces pa_waiting pa_nested pa_fault sc_token sc_start sc_end dr_steps dr_stepCount tp_bytes tp_size = some (r, o_pa_waiting, o_pa_nested, o_pa_fault, o_sc_token, o_sc_start, o_sc_end, o_dr_steps, o_dr_stepCount) → W p l e { frames := 7, cells := 0, slots := 0, locals := 151 } s m args below meth c H locs 0 0 (MQ below (QcI E A (w_pa_sc_sh_dr_tp E a_pa a_sc a_sh a_dr a_tp pa_itemPlaces pa_waitingSigns pa_waitingPlaces o_pa_waiting o_pa_nested o_pa_fault o_sc_token o_sc_start o_sc_end sc_numberRead sc_escaped sc_bytesBehind sh_names sh_nameLengths sh_groups sh_types sh_flat sh_size dr_items dr_behindBy o_dr_steps dr_literalTypes dr_numbers dr_textStarts dr_textLengths dr_textBytes dr_itemCount dr_byCount o_dr_stepCount dr_literalCount dr_textEnd tp_bytes tp_size) r) args s 0 0 A) (F0 m 2 ls []) := by
  have hx := C.1
  have hb := C.2.1
  intro n
  induction n with
  | zero =>
    intro l1 pa_waitingSigns pa_waitingPlaces pa_waiting pa_nested pa_fault sc_token sc_start sc_end dr_steps dr_stepCount tp_bytes tp_size H locs ls hw hl hf
    unfold f_X0_closeTests_2 at hf
    cases hf
  | succ n ih =>
    intro l1 pa_waitingSigns pa_waitingPlaces pa_waiting pa_nested pa_fault sc_token sc_start sc_end dr_steps dr_stepCount tp_bytes tp_size H locs ls hw hl hf
    unfold f_X0_closeTests_2 at hf
    refine lv_iload_n hx hb dX0_closeTests_2 rfl (lv_at hl 1 rfl) ?_
    refine lv_bipush (v := 32) hx hb dX0_closeTests_3 (by decide) ?_
    refine lv_icmp_gt (tgt := 112) hx hb dX0_closeTests_5 (by decide) (fun c5 => ?_) (fun c5 => ?_)
    · replace hf := it_t c5 hf
      refine lv_iconst (v := 1) hx hb dX0_closeTests_112 (by decide) ?_
      cases hf
      exact rt_z C hw (Or.inr rfl) dX0_closeTests_113
    · replace hf := it_f c5 hf
      refine lv_aload_n hx hb dX0_closeTests_8 rfl (lv_at hl 0 rfl) ?_
      refine lv_bipush (v := 6) hx hb dX0_closeTests_9 (by decide) ?_
      refine lv_iconst (v := 5) hx hb dX0_closeTests_11 (by decide) ?_
      obtain ⟨x1, x2, x3, x4, x5, x6, z6, hf⟩ := ob6_el hf
      refine cI_V C hw (c_X0_join l E a_pa a_sc a_sh a_dr a_tp pa_itemPlaces pa_waitingSigns pa_waitingPlaces pa_waiting pa_nested pa_fault sc_token sc_start sc_end sc_numberRead sc_escaped sc_bytesBehind sh_names sh_nameLengths sh_groups sh_types sh_flat sh_size dr_items dr_behindBy dr_steps dr_literalTypes dr_numbers dr_textStarts dr_textLengths dr_textBytes dr_itemCount dr_byCount dr_stepCount dr_literalCount dr_textEnd tp_bytes tp_size (6 : Int32) (5 : Int32) x1 x2 x3 x4 x5 x6 z6) cs_X0_122 ⟨Nat.le_of_ble_eq_true rfl, Nat.le_of_ble_eq_true rfl⟩ ⟨rfl, rfl⟩ (ci := 0) (cn := (RX0, TX0, 9)) rfl (q0 := 0) rfl (wn := w_pa_sc_sh_dr_tp E a_pa a_sc a_sh a_dr a_tp pa_itemPlaces pa_waitingSigns pa_waitingPlaces x2 x3 x4 sc_token sc_start sc_end sc_numberRead sc_escaped sc_bytesBehind sh_names sh_nameLengths sh_groups sh_types sh_flat sh_size dr_items dr_behindBy x5 dr_literalTypes dr_numbers dr_textStarts dr_textLengths dr_textBytes dr_itemCount dr_byCount x6 dr_literalCount dr_textEnd tp_bytes tp_size) (Jn.all _ _) rfl hl.1 rfl (Nat.le_of_ble_eq_true rfl) dX0_closeTests_12 ⟨Nat.zero_le _, Nat.zero_le _⟩ (fun H locs hw => ?_)
      refine lv_if_eq (tgt := 28) hx hb dX0_closeTests_15 (by decide) (fun c15 => ?_) (fun c15 => ?_)
      · replace hf := it_t c15 hf
        refine lv_iconst (v := 0) hx hb dX0_closeTests_28 (by decide) ?_
        cases hf
        exact rt_z C hw (Or.inl rfl) dX0_closeTests_29
      · replace hf := it_f c15 hf
        refine lv_aload_n hx hb dX0_closeTests_18 rfl (lv_at hl 0 rfl) ?_
        refine lv_iconst (v := 4) hx hb dX0_closeTests_19 (by decide) ?_
        refine lv_bipush (v := 6) hx hb dX0_closeTests_20 (by decide) ?_
        obtain ⟨x7, x8, x9, x10, x11, x12, z12, hf⟩ := ob6_el hf
        refine cI_V C hw (c_X0_join l E a_pa a_sc a_sh a_dr a_tp pa_itemPlaces pa_waitingSigns pa_waitingPlaces x2 x3 x4 sc_token sc_start sc_end sc_numberRead sc_escaped sc_bytesBehind sh_names sh_nameLengths sh_groups sh_types sh_flat sh_size dr_items dr_behindBy x5 dr_literalTypes dr_numbers dr_textStarts dr_textLengths dr_textBytes dr_itemCount dr_byCount x6 dr_literalCount dr_textEnd tp_bytes tp_size (4 : Int32) (6 : Int32) x7 x8 x9 x10 x11 x12 z12) cs_X0_122 ⟨Nat.le_of_ble_eq_true rfl, Nat.le_of_ble_eq_true rfl⟩ ⟨rfl, rfl⟩ (ci := 0) (cn := (RX0, TX0, 9)) rfl (q0 := 0) rfl (wn := w_pa_sc_sh_dr_tp E a_pa a_sc a_sh a_dr a_tp pa_itemPlaces pa_waitingSigns pa_waitingPlaces x8 x9 x10 sc_token sc_start sc_end sc_numberRead sc_escaped sc_bytesBehind sh_names sh_nameLengths sh_groups sh_types sh_flat sh_size dr_items dr_behindBy x11 dr_literalTypes dr_numbers dr_textStarts dr_textLengths dr_textBytes dr_itemCount dr_byCount x12 dr_literalCount dr_textEnd tp_bytes tp_size) (Jn.all _ _) rfl hl.1 rfl (Nat.le_of_ble_eq_true rfl) dX0_closeTests_22 ⟨Nat.zero_le _, Nat.zero_le _⟩ (fun H locs hw => ?_)
        refine lv_if_ne (tgt := 30) hx hb dX0_closeTests_25 (by decide) (fun c25 => ?_) (fun c25 => ?_)
        · replace hf := it_f c25 hf
          refine lv_aload_n hx hb dX0_closeTests_30 rfl (lv_at hl 0 rfl) ?_
          refine fg_X0_37 C hw 0 rfl rfl dX0_closeTests_31 ?_
          refine fg_X0_51 C hw 4 rfl rfl dX0_closeTests_34 ?_
          refine lv_iconst (v := 4) hx hb dX0_closeTests_37 (by decide) ?_
          refine lv_icmp_ne (tgt := 43) hx hb dX0_closeTests_38 (by decide) (fun c38 => ?_) (fun c38 => ?_)
          · replace hf := it_f c38 hf
            refine lv_aload_n hx hb dX0_closeTests_43 rfl (lv_at hl 0 rfl) ?_
            refine lv_iconst (v := 5) hx hb dX0_closeTests_44 (by decide) ?_
            refine lv_bipush (v := 7) hx hb dX0_closeTests_45 (by decide) ?_
            obtain ⟨x13, x14, x15, x16, x17, x18, z18, hf⟩ := ob6_el hf
            refine cI_V C hw (c_X0_join l E a_pa a_sc a_sh a_dr a_tp pa_itemPlaces pa_waitingSigns pa_waitingPlaces x8 x9 x10 sc_token sc_start sc_end sc_numberRead sc_escaped sc_bytesBehind sh_names sh_nameLengths sh_groups sh_types sh_flat sh_size dr_items dr_behindBy x11 dr_literalTypes dr_numbers dr_textStarts dr_textLengths dr_textBytes dr_itemCount dr_byCount x12 dr_literalCount dr_textEnd tp_bytes tp_size (5 : Int32) (7 : Int32) x13 x14 x15 x16 x17 x18 z18) cs_X0_122 ⟨Nat.le_of_ble_eq_true rfl, Nat.le_of_ble_eq_true rfl⟩ ⟨rfl, rfl⟩ (ci := 0) (cn := (RX0, TX0, 9)) rfl (q0 := 0) rfl (wn := w_pa_sc_sh_dr_tp E a_pa a_sc a_sh a_dr a_tp pa_itemPlaces pa_waitingSigns pa_waitingPlaces x14 x15 x16 sc_token sc_start sc_end sc_numberRead sc_escaped sc_bytesBehind sh_names sh_nameLengths sh_groups sh_types sh_flat sh_size dr_items dr_behindBy x17 dr_literalTypes dr_numbers dr_textStarts dr_textLengths dr_textBytes dr_itemCount dr_byCount x18 dr_literalCount dr_textEnd tp_bytes tp_size) (Jn.all _ _) rfl hl.1 rfl (Nat.le_of_ble_eq_true rfl) dX0_closeTests_47 ⟨Nat.zero_le _, Nat.zero_le _⟩ (fun H locs hw => ?_)
            refine lv_if_ne (tgt := 55) hx hb dX0_closeTests_50 (by decide) (fun c50 => ?_) (fun c50 => ?_)
            · replace hf := it_f c50 hf
              refine lv_aload_n hx hb dX0_closeTests_55 rfl (lv_at hl 0 rfl) ?_
              refine fg_X0_37 C hw 0 rfl rfl dX0_closeTests_56 ?_
              refine fg_X0_51 C hw 4 rfl rfl dX0_closeTests_59 ?_
              refine lv_iconst (v := 5) hx hb dX0_closeTests_62 (by decide) ?_
              refine lv_icmp_eq (tgt := 73) hx hb dX0_closeTests_63 (by decide) (fun c63 => ?_) (fun c63 => ?_)
              · replace hf := it_t c63 hf
                refine lv_iconst (v := 1) hx hb dX0_closeTests_73 (by decide) ?_
                cases hf
                exact rt_z C hw (Or.inr rfl) dX0_closeTests_74
              · replace hf := it_f c63 hf
                refine lv_aload_n hx hb dX0_closeTests_66 rfl (lv_at hl 0 rfl) ?_
                refine fg_X0_104 C hw 0 rfl rfl dX0_closeTests_67 ?_
                refine lv_if_ne (tgt := 75) hx hb dX0_closeTests_70 (by decide) (fun c70 => ?_) (fun c70 => ?_)
                · replace hf := it_f c70 hf
                  refine lv_aload_n hx hb dX0_closeTests_75 rfl (lv_at hl 0 rfl) ?_
                  refine lv_bipush (v := 21) hx hb dX0_closeTests_76 (by decide) ?_
                  obtain ⟨x19, x20, x21, x22, x23, z23, hf⟩ := ob5_el hf
                  refine cI_V C hw (c_X0_take l E a_pa a_sc a_sh a_dr a_tp pa_itemPlaces pa_waitingSigns pa_waitingPlaces x14 x15 x16 sc_token sc_start sc_end sc_numberRead sc_escaped sc_bytesBehind sh_names sh_nameLengths sh_groups sh_types sh_flat sh_size dr_items dr_behindBy x17 dr_literalTypes dr_numbers dr_textStarts dr_textLengths dr_textBytes dr_itemCount dr_byCount x18 dr_literalCount dr_textEnd tp_bytes tp_size (21 : Int32) x19 x20 x21 x22 x23 z23) cs_X0_64 ⟨Nat.le_of_ble_eq_true rfl, Nat.le_of_ble_eq_true rfl⟩ ⟨rfl, rfl⟩ (ci := 0) (cn := (RX0, TX0, 9)) rfl (q0 := 0) rfl (wn := w_pa_sc_sh_dr_tp E a_pa a_sc a_sh a_dr a_tp pa_itemPlaces pa_waitingSigns pa_waitingPlaces x14 x15 x20 x21 x22 x23 sc_numberRead sc_escaped sc_bytesBehind sh_names sh_nameLengths sh_groups sh_types sh_flat sh_size dr_items dr_behindBy x17 dr_literalTypes dr_numbers dr_textStarts dr_textLengths dr_textBytes dr_itemCount dr_byCount x18 dr_literalCount dr_textEnd tp_bytes tp_size) (Jn.all _ _) rfl hl.1 rfl (Nat.le_of_ble_eq_true rfl) dX0_closeTests_78 ⟨Nat.zero_le _, Nat.zero_le _⟩ (fun H locs hw => ?_)
                  refine lv_if_ne (tgt := 86) hx hb dX0_closeTests_81 (by decide) (fun c81 => ?_) (fun c81 => ?_)
                  · replace hf := it_f c81 hf
                    refine lv_aload_n hx hb dX0_closeTests_86 rfl (lv_at hl 0 rfl) ?_
                    refine lv_dup hx hb dX0_closeTests_87 rfl ?_
                    refine fg_X0_104 C hw 0 rfl rfl dX0_closeTests_88 ?_
                    refine lv_iconst (v := 1) hx hb dX0_closeTests_91 (by decide) ?_
                    refine lv_isub hx hb dX0_closeTests_92 ?_
                    obtain ⟨x24, ex24, hf⟩ := on_el hf
                    refine tp_i ex24 ?_
                    refine fp_X0_104 C hw 0 rfl (Nat.le_of_ble_eq_true rfl) (ws' := w_pa_sc_sh_dr_tp E a_pa a_sc a_sh a_dr a_tp pa_itemPlaces pa_waitingSigns pa_waitingPlaces x24 x15 x20 x21 x22 x23 sc_numberRead sc_escaped sc_bytesBehind sh_names sh_nameLengths sh_groups sh_types sh_flat sh_size dr_items dr_behindBy x17 dr_literalTypes dr_numbers dr_textStarts dr_textLengths dr_textBytes dr_itemCount dr_byCount x18 dr_literalCount dr_textEnd tp_bytes tp_size) rfl dX0_closeTests_93 (fun H locs hw => ?_)
                    refine lv_aload_n hx hb dX0_closeTests_96 rfl (lv_at hl 0 rfl) ?_
                    refine lv_dup hx hb dX0_closeTests_97 rfl ?_
                    refine fg_X0_107 C hw 0 rfl rfl dX0_closeTests_98 ?_
                    refine lv_iconst (v := 1) hx hb dX0_closeTests_101 (by decide) ?_
                    refine lv_isub hx hb dX0_closeTests_102 ?_
                    obtain ⟨x25, ex25, hf⟩ := on_el hf
                    refine tp_i ex25 ?_
                    refine fp_X0_107 C hw 0 rfl (Nat.le_of_ble_eq_true rfl) (ws' := w_pa_sc_sh_dr_tp E a_pa a_sc a_sh a_dr a_tp pa_itemPlaces pa_waitingSigns pa_waitingPlaces x24 x25 x20 x21 x22 x23 sc_numberRead sc_escaped sc_bytesBehind sh_names sh_nameLengths sh_groups sh_types sh_flat sh_size dr_items dr_behindBy x17 dr_literalTypes dr_numbers dr_textStarts dr_textLengths dr_textBytes dr_itemCount dr_byCount x18 dr_literalCount dr_textEnd tp_bytes tp_size) rfl dX0_closeTests_103 (fun H locs hw => ?_)
                    obtain ⟨x26, ex26, hf⟩ := on_el hf
                    refine lv_iinc (v := x26) (lv' := [(1, .int x26), (0, .ref (a_pa 0))]) hx hb dX0_closeTests_106 hl (k := 1) rfl (by rw [← ex26]; rfl) (by decide) rfl (fun ls hl => ?_)
                    refine lv_goto (tgt := 2) hx hb dX0_closeTests_109 (by decide) ?_
                    exact ih hw (lv_sub hl [1, 0] rfl) hf
                  · replace hf := it_t c81 hf
                    refine lv_iconst (v := 0) hx hb dX0_closeTests_84 (by decide) ?_
                    cases hf
                    exact rt_z C hw (Or.inl rfl) dX0_closeTests_85
                · replace hf := it_t c70 hf
                  refine lv_iconst (v := 1) hx hb dX0_closeTests_73 (by decide) ?_
                  cases hf
                  exact rt_z C hw (Or.inr rfl) dX0_closeTests_74
            · replace hf := it_t c50 hf
              refine lv_iconst (v := 0) hx hb dX0_closeTests_53 (by decide) ?_
              cases hf
              exact rt_z C hw (Or.inl rfl) dX0_closeTests_54
          · replace hf := it_t c38 hf
            refine lv_iconst (v := 1) hx hb dX0_closeTests_41 (by decide) ?_
            cases hf
            exact rt_z C hw (Or.inr rfl) dX0_closeTests_42
        · replace hf := it_t c25 hf
          refine lv_iconst (v := 0) hx hb dX0_closeTests_28 (by decide) ?_
          cases hf
          exact rt_z C hw (Or.inl rfl) dX0_closeTests_29
def f_X0_closeTests (pa_waitingSigns : Nat → Int32) (pa_waitingPlaces : Nat → Int32) (pa_waiting : Int32) (pa_nested : Int32) (pa_fault : Int32) (sc_token : Int32) (sc_start : Int32) (sc_end : Int32) (dr_steps : Nat → Int32) (dr_stepCount : Int32) (tp_bytes : Nat → Int32) (tp_size : Int32) : Option ((Int32) × (Int32) × (Int32) × (Int32) × (Int32) × (Int32) × (Int32) × (Nat → Int32) × (Int32)) :=
  f_X0_closeTests_2 FU (0 : Int32) pa_waitingSigns pa_waitingPlaces pa_waiting pa_nested pa_fault sc_token sc_start sc_end dr_steps dr_stepCount tp_bytes tp_size
set_option maxHeartbeats 4000000 in
set_option maxRecDepth 100000 in
theorem c_X0_closeTests (l : Launch) (E : EnvT) (a_pa : Nat → Nat) (a_sc : Nat → Nat) (a_sh : Nat → Nat) (a_dr : Nat → Nat) (a_tp : Nat → Nat) (pa_itemPlaces : Nat → Int32) (pa_waitingSigns : Nat → Int32) (pa_waitingPlaces : Nat → Int32) (pa_waiting : Int32) (pa_nested : Int32) (pa_fault : Int32) (sc_token : Int32) (sc_start : Int32) (sc_end : Int32) (sc_numberRead : Int64) (sc_escaped : Int32) (sc_bytesBehind : Int32) (sh_names : Nat → Int32) (sh_nameLengths : Nat → Int32) (sh_groups : Nat → Int32) (sh_types : Nat → Int32) (sh_flat : Nat → Int32) (sh_size : Int32) (dr_items : Nat → Int32) (dr_behindBy : Nat → Int32) (dr_steps : Nat → Int32) (dr_literalTypes : Nat → Int32) (dr_numbers : Nat → Int64) (dr_textStarts : Nat → Int32) (dr_textLengths : Nat → Int32) (dr_textBytes : Nat → Int32) (dr_itemCount : Int32) (dr_byCount : Int32) (dr_stepCount : Int32) (dr_literalCount : Int32) (dr_textEnd : Int32) (tp_bytes : Nat → Int32) (tp_size : Int32) (r : Int32) (o_pa_waiting : Int32) (o_pa_nested : Int32) (o_pa_fault : Int32) (o_sc_token : Int32) (o_sc_start : Int32) (o_sc_end : Int32) (o_dr_steps : Nat → Int32) (o_dr_stepCount : Int32) (hf : f_X0_closeTests pa_waitingSigns pa_waitingPlaces pa_waiting pa_nested pa_fault sc_token sc_start sc_end dr_steps dr_stepCount tp_bytes tp_size = some (r, o_pa_waiting, o_pa_nested, o_pa_fault, o_sc_token, o_sc_start, o_sc_end, o_dr_steps, o_dr_stepCount)) : CI l yX0_closeTests (Cond.code yX0_closeTests cX0_closeTests 2 (some .boolean)) { frames := 7, cells := 0, slots := 0, locals := 151 } E [.ref (a_pa 0)] (w_pa_sc_sh_dr_tp E a_pa a_sc a_sh a_dr a_tp pa_itemPlaces pa_waitingSigns pa_waitingPlaces pa_waiting pa_nested pa_fault sc_token sc_start sc_end sc_numberRead sc_escaped sc_bytesBehind sh_names sh_nameLengths sh_groups sh_types sh_flat sh_size dr_items dr_behindBy dr_steps dr_literalTypes dr_numbers dr_textStarts dr_textLengths dr_textBytes dr_itemCount dr_byCount dr_stepCount dr_literalCount dr_textEnd tp_bytes tp_size) r (w_pa_sc_sh_dr_tp E a_pa a_sc a_sh a_dr a_tp pa_itemPlaces pa_waitingSigns pa_waitingPlaces o_pa_waiting o_pa_nested o_pa_fault o_sc_token o_sc_start o_sc_end sc_numberRead sc_escaped sc_bytesBehind sh_names sh_nameLengths sh_groups sh_types sh_flat sh_size dr_items dr_behindBy o_dr_steps dr_literalTypes dr_numbers dr_textStarts dr_textLengths dr_textBytes dr_itemCount dr_byCount o_dr_stepCount dr_literalCount dr_textEnd tp_bytes tp_size) := by
  intro sz
  refine met_start [(0, .ref (a_pa 0))] (by decide) rfl rfl (Nat.le_of_ble_eq_true rfl) rfl ?_
  intro p e s m below meth c ls C hnm hmt hw hl
  have hx := C.1
  have hb := C.2.1
  generalize va_A (w_pa_sc_sh_dr_tp E a_pa a_sc a_sh a_dr a_tp pa_itemPlaces pa_waitingSigns pa_waitingPlaces pa_waiting pa_nested pa_fault sc_token sc_start sc_end sc_numberRead sc_escaped sc_bytesBehind sh_names sh_nameLengths sh_groups sh_types sh_flat sh_size dr_items dr_behindBy dr_steps dr_literalTypes dr_numbers dr_textStarts dr_textLengths dr_textBytes dr_itemCount dr_byCount dr_stepCount dr_literalCount dr_textEnd tp_bytes tp_size) sz = A at C hw ⊢
  unfold f_X0_closeTests at hf
  refine lv_iconst (v := 0) hx hb dX0_closeTests_0 (by decide) ?_
  refine lv_istore_n (lv' := [(1, .int (0 : Int32)), (0, .ref (a_pa 0))]) hx hb dX0_closeTests_1 rfl hl (by decide) rfl (fun ls hl => ?_)
  exact w_X0_closeTests_2 C FU hw (lv_sub hl [1, 0] rfl) hf
def f_X0_readWhere_34 : Nat → (Int32) → (Int32) → (Nat → Int32) → (Nat → Int32) → (Int32) → (Int32) → (Int32) → (Int32) → (Int32) → (Int32) → (Int64) → (Int32) → (Int32) → (Nat → Int32) → (Nat → Int32) → (Nat → Int32) → (Nat → Int32) → (Nat → Int32) → (Int32) → (Nat → Int32) → (Nat → Int32) → (Nat → Int64) → (Nat → Int32) → (Nat → Int32) → (Nat → Int32) → (Int32) → (Int32) → (Int32) → (Nat → Int32) → (Int32) → Option ((Int32) × (Nat → Int32) × (Nat → Int32) × (Int32) × (Int32) × (Int32) × (Int32) × (Int32) × (Int32) × (Int64) × (Int32) × (Int32) × (Nat → Int32) × (Nat → Int32) × (Nat → Int64) × (Nat → Int32) × (Nat → Int32) × (Nat → Int32) × (Int32) × (Int32) × (Int32))
  | 0, _, _, _, _, _, _, _, _, _, _, _, _, _, _, _, _, _, _, _, _, _, _, _, _, _, _, _, _, _, _ => none
  | n + 1, l1, l2, pa_waitingSigns, pa_waitingPlaces, pa_waiting, pa_nested, pa_fault, sc_token, sc_start, sc_end, sc_numberRead, sc_escaped, sc_bytesBehind, sh_names, sh_nameLengths, sh_groups, sh_types, sh_flat, sh_size, dr_steps, dr_literalTypes, dr_numbers, dr_textStarts, dr_textLengths, dr_textBytes, dr_stepCount, dr_literalCount, dr_textEnd, tp_bytes, tp_size =>
  if (2000 : Int32) < l2 then (some ((1 : Int32), pa_waitingSigns, pa_waitingPlaces, pa_waiting, pa_nested, pa_fault, sc_token, sc_start, sc_end, sc_numberRead, sc_escaped, sc_bytesBehind, dr_steps, dr_literalTypes, dr_numbers, dr_textStarts, dr_textLengths, dr_textBytes, dr_stepCount, dr_literalCount, dr_textEnd))
  else (if l1 = (0 : Int32) then (some ((1 : Int32), pa_waitingSigns, pa_waitingPlaces, pa_waiting, pa_nested, pa_fault, sc_token, sc_start, sc_end, sc_numberRead, sc_escaped, sc_bytesBehind, dr_steps, dr_literalTypes, dr_numbers, dr_textStarts, dr_textLengths, dr_textBytes, dr_stepCount, dr_literalCount, dr_textEnd))
  else (ob9 (f_X0_openTests pa_waitingSigns pa_waitingPlaces pa_waiting pa_nested pa_fault sc_token sc_start sc_end tp_bytes tp_size) (fun x1 x2 x3 x4 x5 x6 x7 x8 x9 =>
  if x1 = (0 : Int32) then (some ((0 : Int32), x2, x3, x4, x5, x6, x7, x8, x9, sc_numberRead, sc_escaped, sc_bytesBehind, dr_steps, dr_literalTypes, dr_numbers, dr_textStarts, dr_textLengths, dr_textBytes, dr_stepCount, dr_literalCount, dr_textEnd))
  else (ob17 (f_X0_readTest x6 x7 x8 x9 sc_numberRead sc_escaped sc_bytesBehind sh_names sh_nameLengths sh_groups sh_types sh_flat sh_size dr_steps dr_literalTypes dr_numbers dr_textStarts dr_textLengths dr_textBytes dr_stepCount dr_literalCount dr_textEnd tp_bytes tp_size) (fun x10 x11 x12 x13 x14 x15 x16 x17 x18 x19 x20 x21 x22 x23 x24 x25 x26 =>
  if x10 = (0 : Int32) then (some ((0 : Int32), x2, x3, x4, x5, x11, x12, x13, x14, x15, x16, x17, x18, x19, x20, x21, x22, x23, x24, x25, x26))
  else (ob9 (f_X0_closeTests x2 x3 x4 x5 x11 x12 x13 x14 x18 x24 tp_bytes tp_size) (fun x27 x28 x29 x30 x31 x32 x33 x34 x35 =>
  if x27 = (0 : Int32) then (some ((0 : Int32), x2, x3, x28, x29, x30, x31, x32, x33, x15, x16, x17, x34, x19, x20, x21, x22, x23, x35, x25, x26))
  else (if x31 = (4 : Int32) then (if (1 : Int32) = (0 : Int32) then (on (l2 + (1 : Int32)) (fun x36 =>
  f_X0_readWhere_34 n (1 : Int32) x36 x2 x3 x28 x29 x30 x31 x32 x33 x15 x16 x17 sh_names sh_nameLengths sh_groups sh_types sh_flat sh_size x34 x19 x20 x21 x22 x23 x35 x25 x26 tp_bytes tp_size))
  else (ob8 (f_X0_await x2 x3 x28 x30 x31 x32 x33 tp_bytes tp_size) (fun x37 x38 x39 x40 x41 x42 x43 x44 =>
  if x37 = (0 : Int32) then (some ((0 : Int32), x38, x39, x40, x29, x41, x42, x43, x44, x15, x16, x17, x34, x19, x20, x21, x22, x23, x35, x25, x26))
  else (on (l2 + (1 : Int32)) (fun x45 =>
  f_X0_readWhere_34 n (1 : Int32) x45 x38 x39 x40 x29 x41 x42 x43 x44 x15 x16 x17 sh_names sh_nameLengths sh_groups sh_types sh_flat sh_size x34 x19 x20 x21 x22 x23 x35 x25 x26 tp_bytes tp_size)))))
  else (if x31 = (5 : Int32) then (if (1 : Int32) = (0 : Int32) then (on (l2 + (1 : Int32)) (fun x56 =>
  f_X0_readWhere_34 n (1 : Int32) x56 x2 x3 x28 x29 x30 x31 x32 x33 x15 x16 x17 sh_names sh_nameLengths sh_groups sh_types sh_flat sh_size x34 x19 x20 x21 x22 x23 x35 x25 x26 tp_bytes tp_size))
  else (ob8 (f_X0_await x2 x3 x28 x30 x31 x32 x33 tp_bytes tp_size) (fun x57 x58 x59 x60 x61 x62 x63 x64 =>
  if x57 = (0 : Int32) then (some ((0 : Int32), x58, x59, x60, x29, x61, x62, x63, x64, x15, x16, x17, x34, x19, x20, x21, x22, x23, x35, x25, x26))
  else (on (l2 + (1 : Int32)) (fun x65 =>
  f_X0_readWhere_34 n (1 : Int32) x65 x58 x59 x60 x29 x61 x62 x63 x64 x15 x16 x17 sh_names sh_nameLengths sh_groups sh_types sh_flat sh_size x34 x19 x20 x21 x22 x23 x35 x25 x26 tp_bytes tp_size)))))
  else (if (0 : Int32) = (0 : Int32) then (on (l2 + (1 : Int32)) (fun x46 =>
  f_X0_readWhere_34 n (0 : Int32) x46 x2 x3 x28 x29 x30 x31 x32 x33 x15 x16 x17 sh_names sh_nameLengths sh_groups sh_types sh_flat sh_size x34 x19 x20 x21 x22 x23 x35 x25 x26 tp_bytes tp_size))
  else (ob8 (f_X0_await x2 x3 x28 x30 x31 x32 x33 tp_bytes tp_size) (fun x47 x48 x49 x50 x51 x52 x53 x54 =>
  if x47 = (0 : Int32) then (some ((0 : Int32), x48, x49, x50, x29, x51, x52, x53, x54, x15, x16, x17, x34, x19, x20, x21, x22, x23, x35, x25, x26))
  else (on (l2 + (1 : Int32)) (fun x55 =>
  f_X0_readWhere_34 n (0 : Int32) x55 x48 x49 x50 x29 x51 x52 x53 x54 x15 x16 x17 sh_names sh_nameLengths sh_groups sh_types sh_flat sh_size x34 x19 x20 x21 x22 x23 x35 x25 x26 tp_bytes tp_size))))))))))))))
set_option maxHeartbeats 4000000 in
set_option maxRecDepth 100000 in
theorem w_X0_readWhere_34 {p : Program} {l : Launch} {e : Env} {s : State} {m : MethodId} {args : Array Value} {below : List Frame} {meth : Method} {c : Code} {E : EnvT} {A : Nat → Prop} {a_pa : Nat → Nat} {a_sc : Nat → Nat} {a_sh : Nat → Nat} {a_dr : Nat → Nat} {a_tp : Nat → Nat} {pa_itemPlaces : Nat → Int32} {dr_items : Nat → Int32} {dr_behindBy : Nat → Int32} {dr_itemCount : Int32} {dr_byCount : Int32} {r : Int32} {o_pa_waitingSigns : Nat → Int32} {o_pa_waitingPlaces : Nat → Int32} {o_pa_waiting : Int32} {o_pa_nested : Int32} {o_pa_fault : Int32} {o_sc_token : Int32} {o_sc_start : Int32} {o_sc_end : Int32} {o_sc_numberRead : Int64} {o_sc_escaped : Int32} {o_sc_bytesBehind : Int32} {o_dr_steps : Nat → Int32} {o_dr_literalTypes : Nat → Int32} {o_dr_numbers : Nat → Int64} {o_dr_textStarts : Nat → Int32} {o_dr_textLengths : Nat → Int32} {o_dr_textBytes : Nat → Int32} {o_dr_stepCount : Int32} {o_dr_literalCount : Int32} {o_dr_textEnd : Int32} (C : MC p s m args meth c E A cX0_readWhere 4 RX0 (some .boolean)) : ∀ (n : Nat) {l1 : Int32} {l2 : Int32} {pa_waitingSigns : Nat → Int32} {pa_waitingPlaces : Nat → Int32} {pa_waiting : Int32} {pa_nested : Int32} {pa_fault : Int32} {sc_token : Int32} {sc_start : Int32} {sc_end : Int32} {sc_numberRead : Int64} {sc_escaped : Int32} {sc_bytesBehind : Int32} {sh_names : Nat → Int32} {sh_nameLengths : Nat → Int32} {sh_groups : Nat → Int32} {sh_types : Nat → Int32} {sh_flat : Nat → Int32} {sh_size : Int32} {dr_steps : Nat → Int32} {dr_literalTypes : Nat → Int32} {dr_numbers : Nat → Int64} {dr_textStarts : Nat → Int32} {dr_textLengths : Nat → Int32} {dr_textBytes : Nat → Int32} {dr_stepCount : Int32} {dr_literalCount : Int32} {dr_textEnd : Int32} {tp_bytes : Nat → Int32} {tp_size : Int32} {H : Heap} {locs : List Loc} {ls : Array Slot}, WS E A s (w_pa_sc_sh_dr_tp E a_pa a_sc a_sh a_dr a_tp pa_itemPlaces pa_waitingSigns pa_waitingPlaces pa_waiting pa_nested pa_fault sc_token sc_start sc_end sc_numberRead sc_escaped sc_bytesBehind sh_names sh_nameLengths sh_groups sh_types sh_flat sh_size dr_items dr_behindBy dr_steps dr_literalTypes dr_numbers dr_textStarts dr_textLengths dr_textBytes dr_itemCount dr_byCount dr_stepCount dr_literalCount dr_textEnd tp_bytes tp_size) H locs → lv_has ls 4 [(0, .ref (a_pa 0)), (1, .int l1), (2, .int l2)] → f_X0_readWhere_34 n l1 l2 pa_waitingSigns pa_waitingPlaces pa_waiting pa_nested pa_fault sc_token sc_start sc_end sc_numberRead sc_escaped sc_bytesBehind sh_names sh_nameLengths sh_groups sh_types sh_flat sh_size dr_steps dr_literalTypes dr_numbers dr_textStarts dr_textLengths dr_textBytes dr_stepCount dr_literalCount dr_textEnd tp_bytes tp_size = some (r, o_pa_waitingSigns, o_pa_waitingPlaces, o_pa_waiting, o_pa_nested, o_pa_fault, o_sc_token, o_sc_start, o_sc_end, o_sc_numberRead, o_sc_escaped, o_sc_bytesBehind, o_dr_steps, o_dr_literalTypes, o_dr_numbers, o_dr_textStarts, o_dr_textLengths, o_dr_textBytes, o_dr_stepCount, o_dr_literalCount, o_dr_textEnd) → W p l e { frames := 9, cells := 0, slots := 0, locals := 205 } s m args below meth c H locs 0 0 (MQ below (QcI E A (w_pa_sc_sh_dr_tp E a_pa a_sc a_sh a_dr a_tp pa_itemPlaces o_pa_waitingSigns o_pa_waitingPlaces o_pa_waiting o_pa_nested o_pa_fault o_sc_token o_sc_start o_sc_end o_sc_numberRead o_sc_escaped o_sc_bytesBehind sh_names sh_nameLengths sh_groups sh_types sh_flat sh_size dr_items dr_behindBy o_dr_steps o_dr_literalTypes o_dr_numbers o_dr_textStarts o_dr_textLengths o_dr_textBytes dr_itemCount dr_byCount o_dr_stepCount o_dr_literalCount o_dr_textEnd tp_bytes tp_size) r) args s 0 0 A) (F0 m 34 ls []) := by
  have hx := C.1
  have hb := C.2.1
  intro n
  induction n with
  | zero =>
    intro l1 l2 pa_waitingSigns pa_waitingPlaces pa_waiting pa_nested pa_fault sc_token sc_start sc_end sc_numberRead sc_escaped sc_bytesBehind sh_names sh_nameLengths sh_groups sh_types sh_flat sh_size dr_steps dr_literalTypes dr_numbers dr_textStarts dr_textLengths dr_textBytes dr_stepCount dr_literalCount dr_textEnd tp_bytes tp_size H locs ls hw hl hf
    unfold f_X0_readWhere_34 at hf
    cases hf
  | succ n ih =>
    intro l1 l2 pa_waitingSigns pa_waitingPlaces pa_waiting pa_nested pa_fault sc_token sc_start sc_end sc_numberRead sc_escaped sc_bytesBehind sh_names sh_nameLengths sh_groups sh_types sh_flat sh_size dr_steps dr_literalTypes dr_numbers dr_textStarts dr_textLengths dr_textBytes dr_stepCount dr_literalCount dr_textEnd tp_bytes tp_size H locs ls hw hl hf
    unfold f_X0_readWhere_34 at hf
    refine lv_iload_n hx hb dX0_readWhere_34 rfl (lv_at hl 2 rfl) ?_
    refine lv_sipush (v := 2000) hx hb dX0_readWhere_35 (by decide) ?_
    refine lv_icmp_gt (tgt := 111) hx hb dX0_readWhere_38 (by decide) (fun c38 => ?_) (fun c38 => ?_)
    · replace hf := it_t c38 hf
      refine lv_iconst (v := 1) hx hb dX0_readWhere_111 (by decide) ?_
      cases hf
      exact rt_z C hw (Or.inr rfl) dX0_readWhere_112
    · replace hf := it_f c38 hf
      refine lv_iload_n hx hb dX0_readWhere_41 rfl (lv_at hl 1 rfl) ?_
      refine lv_if_eq (tgt := 111) hx hb dX0_readWhere_42 (by decide) (fun c42 => ?_) (fun c42 => ?_)
      · replace hf := it_t c42 hf
        refine lv_iconst (v := 1) hx hb dX0_readWhere_111 (by decide) ?_
        cases hf
        exact rt_z C hw (Or.inr rfl) dX0_readWhere_112
      · replace hf := it_f c42 hf
        refine lv_aload_n hx hb dX0_readWhere_45 rfl (lv_at hl 0 rfl) ?_
        obtain ⟨x1, x2, x3, x4, x5, x6, x7, x8, x9, z9, hf⟩ := ob9_el hf
        refine cI_V C hw (c_X0_openTests l E a_pa a_sc a_sh a_dr a_tp pa_itemPlaces pa_waitingSigns pa_waitingPlaces pa_waiting pa_nested pa_fault sc_token sc_start sc_end sc_numberRead sc_escaped sc_bytesBehind sh_names sh_nameLengths sh_groups sh_types sh_flat sh_size dr_items dr_behindBy dr_steps dr_literalTypes dr_numbers dr_textStarts dr_textLengths dr_textBytes dr_itemCount dr_byCount dr_stepCount dr_literalCount dr_textEnd tp_bytes tp_size x1 x2 x3 x4 x5 x6 x7 x8 x9 z9) cs_X0_110 ⟨Nat.le_of_ble_eq_true rfl, Nat.le_of_ble_eq_true rfl⟩ ⟨rfl, rfl⟩ (ci := 0) (cn := (RX0, TX0, 9)) rfl (q0 := 0) rfl (wn := w_pa_sc_sh_dr_tp E a_pa a_sc a_sh a_dr a_tp pa_itemPlaces x2 x3 x4 x5 x6 x7 x8 x9 sc_numberRead sc_escaped sc_bytesBehind sh_names sh_nameLengths sh_groups sh_types sh_flat sh_size dr_items dr_behindBy dr_steps dr_literalTypes dr_numbers dr_textStarts dr_textLengths dr_textBytes dr_itemCount dr_byCount dr_stepCount dr_literalCount dr_textEnd tp_bytes tp_size) (Jn.all _ _) rfl hl.1 rfl (Nat.le_of_ble_eq_true rfl) dX0_readWhere_46 ⟨Nat.zero_le _, Nat.zero_le _⟩ (fun H locs hw => ?_)
        refine lv_if_eq (tgt := 66) hx hb dX0_readWhere_49 (by decide) (fun c49 => ?_) (fun c49 => ?_)
        · replace hf := it_t c49 hf
          refine lv_iconst (v := 0) hx hb dX0_readWhere_66 (by decide) ?_
          cases hf
          exact rt_z C hw (Or.inl rfl) dX0_readWhere_67
        · replace hf := it_f c49 hf
          refine lv_aload_n hx hb dX0_readWhere_52 rfl (lv_at hl 0 rfl) ?_
          obtain ⟨x10, x11, x12, x13, x14, x15, x16, x17, x18, x19, x20, x21, x22, x23, x24, x25, x26, z26, hf⟩ := ob17_el hf
          refine cI_V C hw (c_X0_readTest l E a_pa a_sc a_sh a_dr a_tp pa_itemPlaces x2 x3 x4 x5 x6 x7 x8 x9 sc_numberRead sc_escaped sc_bytesBehind sh_names sh_nameLengths sh_groups sh_types sh_flat sh_size dr_items dr_behindBy dr_steps dr_literalTypes dr_numbers dr_textStarts dr_textLengths dr_textBytes dr_itemCount dr_byCount dr_stepCount dr_literalCount dr_textEnd tp_bytes tp_size x10 x11 x12 x13 x14 x15 x16 x17 x18 x19 x20 x21 x22 x23 x24 x25 x26 z26) cs_X0_113 ⟨Nat.le_of_ble_eq_true rfl, Nat.le_of_ble_eq_true rfl⟩ ⟨rfl, rfl⟩ (ci := 0) (cn := (RX0, TX0, 9)) rfl (q0 := 0) rfl (wn := w_pa_sc_sh_dr_tp E a_pa a_sc a_sh a_dr a_tp pa_itemPlaces x2 x3 x4 x5 x11 x12 x13 x14 x15 x16 x17 sh_names sh_nameLengths sh_groups sh_types sh_flat sh_size dr_items dr_behindBy x18 x19 x20 x21 x22 x23 dr_itemCount dr_byCount x24 x25 x26 tp_bytes tp_size) (Jn.all _ _) rfl hl.1 rfl (Nat.le_of_ble_eq_true rfl) dX0_readWhere_53 ⟨Nat.zero_le _, Nat.zero_le _⟩ (fun H locs hw => ?_)
          refine lv_if_eq (tgt := 66) hx hb dX0_readWhere_56 (by decide) (fun c56 => ?_) (fun c56 => ?_)
          · replace hf := it_t c56 hf
            refine lv_iconst (v := 0) hx hb dX0_readWhere_66 (by decide) ?_
            cases hf
            exact rt_z C hw (Or.inl rfl) dX0_readWhere_67
          · replace hf := it_f c56 hf
            refine lv_aload_n hx hb dX0_readWhere_59 rfl (lv_at hl 0 rfl) ?_
            obtain ⟨x27, x28, x29, x30, x31, x32, x33, x34, x35, z35, hf⟩ := ob9_el hf
            refine cI_V C hw (c_X0_closeTests l E a_pa a_sc a_sh a_dr a_tp pa_itemPlaces x2 x3 x4 x5 x11 x12 x13 x14 x15 x16 x17 sh_names sh_nameLengths sh_groups sh_types sh_flat sh_size dr_items dr_behindBy x18 x19 x20 x21 x22 x23 dr_itemCount dr_byCount x24 x25 x26 tp_bytes tp_size x27 x28 x29 x30 x31 x32 x33 x34 x35 z35) cs_X0_116 ⟨Nat.le_of_ble_eq_true rfl, Nat.le_of_ble_eq_true rfl⟩ ⟨rfl, rfl⟩ (ci := 0) (cn := (RX0, TX0, 9)) rfl (q0 := 0) rfl (wn := w_pa_sc_sh_dr_tp E a_pa a_sc a_sh a_dr a_tp pa_itemPlaces x2 x3 x28 x29 x30 x31 x32 x33 x15 x16 x17 sh_names sh_nameLengths sh_groups sh_types sh_flat sh_size dr_items dr_behindBy x34 x19 x20 x21 x22 x23 dr_itemCount dr_byCount x35 x25 x26 tp_bytes tp_size) (Jn.all _ _) rfl hl.1 rfl (Nat.le_of_ble_eq_true rfl) dX0_readWhere_60 ⟨Nat.zero_le _, Nat.zero_le _⟩ (fun H locs hw => ?_)
            refine lv_if_ne (tgt := 68) hx hb dX0_readWhere_63 (by decide) (fun c63 => ?_) (fun c63 => ?_)
            · replace hf := it_f c63 hf
              refine lv_aload_n hx hb dX0_readWhere_68 rfl (lv_at hl 0 rfl) ?_
              refine fg_X0_37 C hw 0 rfl rfl dX0_readWhere_69 ?_
              refine fg_X0_51 C hw 4 rfl rfl dX0_readWhere_72 ?_
              refine lv_istore_n (lv' := [(3, .int x31), (0, .ref (a_pa 0)), (1, .int l1), (2, .int l2)]) hx hb dX0_readWhere_75 rfl hl (by decide) rfl (fun ls hl => ?_)
              refine lv_iload_n hx hb dX0_readWhere_76 rfl (lv_at hl 0 rfl) ?_
              refine lv_iconst (v := 4) hx hb dX0_readWhere_77 (by decide) ?_
              refine lv_icmp_eq (tgt := 86) hx hb dX0_readWhere_78 (by decide) (fun c78 => ?_) (fun c78 => ?_)
              · replace hf := it_t c78 hf
                refine lv_iconst (v := 1) hx hb dX0_readWhere_86 (by decide) ?_
                refine lv_goto (tgt := 91) hx hb dX0_readWhere_87 (by decide) ?_
                refine lv_istore_n (lv' := [(1, .int (1 : Int32)), (3, .int x31), (0, .ref (a_pa 0)), (2, .int l2)]) hx hb dX0_readWhere_91 rfl hl (by decide) rfl (fun ls hl => ?_)
                refine lv_iload_n hx hb dX0_readWhere_92 rfl (lv_at hl 0 rfl) ?_
                refine lv_if_eq (tgt := 105) hx hb dX0_readWhere_93 (by decide) (fun c93 => ?_) (fun c93 => ?_)
                · replace hf := it_t c93 hf
                  obtain ⟨x36, ex36, hf⟩ := on_el hf
                  refine lv_iinc (v := x36) (lv' := [(2, .int x36), (1, .int (1 : Int32)), (3, .int x31), (0, .ref (a_pa 0))]) hx hb dX0_readWhere_105 hl (k := 3) rfl (by rw [← ex36]; rfl) (by decide) rfl (fun ls hl => ?_)
                  refine lv_goto (tgt := 34) hx hb dX0_readWhere_108 (by decide) ?_
                  exact ih hw (lv_sub hl [3, 1, 0] rfl) hf
                · replace hf := it_f c93 hf
                  refine lv_aload_n hx hb dX0_readWhere_96 rfl (lv_at hl 2 rfl) ?_
                  obtain ⟨x37, x38, x39, x40, x41, x42, x43, x44, z44, hf⟩ := ob8_el hf
                  refine cI_V C hw (c_X0_await l E a_pa a_sc a_sh a_dr a_tp pa_itemPlaces x2 x3 x28 x29 x30 x31 x32 x33 x15 x16 x17 sh_names sh_nameLengths sh_groups sh_types sh_flat sh_size dr_items dr_behindBy x34 x19 x20 x21 x22 x23 dr_itemCount dr_byCount x35 x25 x26 tp_bytes tp_size x37 x38 x39 x40 x41 x42 x43 x44 z44) cs_X0_119 ⟨Nat.le_of_ble_eq_true rfl, Nat.le_of_ble_eq_true rfl⟩ ⟨rfl, rfl⟩ (ci := 0) (cn := (RX0, TX0, 9)) rfl (q0 := 0) rfl (wn := w_pa_sc_sh_dr_tp E a_pa a_sc a_sh a_dr a_tp pa_itemPlaces x38 x39 x40 x29 x41 x42 x43 x44 x15 x16 x17 sh_names sh_nameLengths sh_groups sh_types sh_flat sh_size dr_items dr_behindBy x34 x19 x20 x21 x22 x23 dr_itemCount dr_byCount x35 x25 x26 tp_bytes tp_size) (Jn.all _ _) rfl hl.1 rfl (Nat.le_of_ble_eq_true rfl) dX0_readWhere_97 ⟨Nat.zero_le _, Nat.zero_le _⟩ (fun H locs hw => ?_)
                  refine lv_if_ne (tgt := 105) hx hb dX0_readWhere_100 (by decide) (fun c100 => ?_) (fun c100 => ?_)
                  · replace hf := it_f c100 hf
                    obtain ⟨x45, ex45, hf⟩ := on_el hf
                    refine lv_iinc (v := x45) (lv' := [(2, .int x45), (1, .int (1 : Int32)), (3, .int x31), (0, .ref (a_pa 0))]) hx hb dX0_readWhere_105 hl (k := 3) rfl (by rw [← ex45]; rfl) (by decide) rfl (fun ls hl => ?_)
                    refine lv_goto (tgt := 34) hx hb dX0_readWhere_108 (by decide) ?_
                    exact ih hw (lv_sub hl [3, 1, 0] rfl) hf
                  · replace hf := it_t c100 hf
                    refine lv_iconst (v := 0) hx hb dX0_readWhere_103 (by decide) ?_
                    cases hf
                    exact rt_z C hw (Or.inl rfl) dX0_readWhere_104
              · replace hf := it_f c78 hf
                refine lv_iload_n hx hb dX0_readWhere_81 rfl (lv_at hl 0 rfl) ?_
                refine lv_iconst (v := 5) hx hb dX0_readWhere_82 (by decide) ?_
                refine lv_icmp_ne (tgt := 90) hx hb dX0_readWhere_83 (by decide) (fun c83 => ?_) (fun c83 => ?_)
                · replace hf := it_f c83 hf
                  refine lv_iconst (v := 0) hx hb dX0_readWhere_90 (by decide) ?_
                  refine lv_istore_n (lv' := [(1, .int (0 : Int32)), (3, .int x31), (0, .ref (a_pa 0)), (2, .int l2)]) hx hb dX0_readWhere_91 rfl hl (by decide) rfl (fun ls hl => ?_)
                  refine lv_iload_n hx hb dX0_readWhere_92 rfl (lv_at hl 0 rfl) ?_
                  refine lv_if_eq (tgt := 105) hx hb dX0_readWhere_93 (by decide) (fun c93 => ?_) (fun c93 => ?_)
                  · replace hf := it_t c93 hf
                    obtain ⟨x46, ex46, hf⟩ := on_el hf
                    refine lv_iinc (v := x46) (lv' := [(2, .int x46), (1, .int (0 : Int32)), (3, .int x31), (0, .ref (a_pa 0))]) hx hb dX0_readWhere_105 hl (k := 3) rfl (by rw [← ex46]; rfl) (by decide) rfl (fun ls hl => ?_)
                    refine lv_goto (tgt := 34) hx hb dX0_readWhere_108 (by decide) ?_
                    exact ih hw (lv_sub hl [3, 1, 0] rfl) hf
                  · replace hf := it_f c93 hf
                    refine lv_aload_n hx hb dX0_readWhere_96 rfl (lv_at hl 2 rfl) ?_
                    obtain ⟨x47, x48, x49, x50, x51, x52, x53, x54, z54, hf⟩ := ob8_el hf
                    refine cI_V C hw (c_X0_await l E a_pa a_sc a_sh a_dr a_tp pa_itemPlaces x2 x3 x28 x29 x30 x31 x32 x33 x15 x16 x17 sh_names sh_nameLengths sh_groups sh_types sh_flat sh_size dr_items dr_behindBy x34 x19 x20 x21 x22 x23 dr_itemCount dr_byCount x35 x25 x26 tp_bytes tp_size x47 x48 x49 x50 x51 x52 x53 x54 z54) cs_X0_119 ⟨Nat.le_of_ble_eq_true rfl, Nat.le_of_ble_eq_true rfl⟩ ⟨rfl, rfl⟩ (ci := 0) (cn := (RX0, TX0, 9)) rfl (q0 := 0) rfl (wn := w_pa_sc_sh_dr_tp E a_pa a_sc a_sh a_dr a_tp pa_itemPlaces x48 x49 x50 x29 x51 x52 x53 x54 x15 x16 x17 sh_names sh_nameLengths sh_groups sh_types sh_flat sh_size dr_items dr_behindBy x34 x19 x20 x21 x22 x23 dr_itemCount dr_byCount x35 x25 x26 tp_bytes tp_size) (Jn.all _ _) rfl hl.1 rfl (Nat.le_of_ble_eq_true rfl) dX0_readWhere_97 ⟨Nat.zero_le _, Nat.zero_le _⟩ (fun H locs hw => ?_)
                    refine lv_if_ne (tgt := 105) hx hb dX0_readWhere_100 (by decide) (fun c100 => ?_) (fun c100 => ?_)
                    · replace hf := it_f c100 hf
                      obtain ⟨x55, ex55, hf⟩ := on_el hf
                      refine lv_iinc (v := x55) (lv' := [(2, .int x55), (1, .int (0 : Int32)), (3, .int x31), (0, .ref (a_pa 0))]) hx hb dX0_readWhere_105 hl (k := 3) rfl (by rw [← ex55]; rfl) (by decide) rfl (fun ls hl => ?_)
                      refine lv_goto (tgt := 34) hx hb dX0_readWhere_108 (by decide) ?_
                      exact ih hw (lv_sub hl [3, 1, 0] rfl) hf
                    · replace hf := it_t c100 hf
                      refine lv_iconst (v := 0) hx hb dX0_readWhere_103 (by decide) ?_
                      cases hf
                      exact rt_z C hw (Or.inl rfl) dX0_readWhere_104
                · replace hf := it_t c83 hf
                  refine lv_iconst (v := 1) hx hb dX0_readWhere_86 (by decide) ?_
                  refine lv_goto (tgt := 91) hx hb dX0_readWhere_87 (by decide) ?_
                  refine lv_istore_n (lv' := [(1, .int (1 : Int32)), (3, .int x31), (0, .ref (a_pa 0)), (2, .int l2)]) hx hb dX0_readWhere_91 rfl hl (by decide) rfl (fun ls hl => ?_)
                  refine lv_iload_n hx hb dX0_readWhere_92 rfl (lv_at hl 0 rfl) ?_
                  refine lv_if_eq (tgt := 105) hx hb dX0_readWhere_93 (by decide) (fun c93 => ?_) (fun c93 => ?_)
                  · replace hf := it_t c93 hf
                    obtain ⟨x56, ex56, hf⟩ := on_el hf
                    refine lv_iinc (v := x56) (lv' := [(2, .int x56), (1, .int (1 : Int32)), (3, .int x31), (0, .ref (a_pa 0))]) hx hb dX0_readWhere_105 hl (k := 3) rfl (by rw [← ex56]; rfl) (by decide) rfl (fun ls hl => ?_)
                    refine lv_goto (tgt := 34) hx hb dX0_readWhere_108 (by decide) ?_
                    exact ih hw (lv_sub hl [3, 1, 0] rfl) hf
                  · replace hf := it_f c93 hf
                    refine lv_aload_n hx hb dX0_readWhere_96 rfl (lv_at hl 2 rfl) ?_
                    obtain ⟨x57, x58, x59, x60, x61, x62, x63, x64, z64, hf⟩ := ob8_el hf
                    refine cI_V C hw (c_X0_await l E a_pa a_sc a_sh a_dr a_tp pa_itemPlaces x2 x3 x28 x29 x30 x31 x32 x33 x15 x16 x17 sh_names sh_nameLengths sh_groups sh_types sh_flat sh_size dr_items dr_behindBy x34 x19 x20 x21 x22 x23 dr_itemCount dr_byCount x35 x25 x26 tp_bytes tp_size x57 x58 x59 x60 x61 x62 x63 x64 z64) cs_X0_119 ⟨Nat.le_of_ble_eq_true rfl, Nat.le_of_ble_eq_true rfl⟩ ⟨rfl, rfl⟩ (ci := 0) (cn := (RX0, TX0, 9)) rfl (q0 := 0) rfl (wn := w_pa_sc_sh_dr_tp E a_pa a_sc a_sh a_dr a_tp pa_itemPlaces x58 x59 x60 x29 x61 x62 x63 x64 x15 x16 x17 sh_names sh_nameLengths sh_groups sh_types sh_flat sh_size dr_items dr_behindBy x34 x19 x20 x21 x22 x23 dr_itemCount dr_byCount x35 x25 x26 tp_bytes tp_size) (Jn.all _ _) rfl hl.1 rfl (Nat.le_of_ble_eq_true rfl) dX0_readWhere_97 ⟨Nat.zero_le _, Nat.zero_le _⟩ (fun H locs hw => ?_)
                    refine lv_if_ne (tgt := 105) hx hb dX0_readWhere_100 (by decide) (fun c100 => ?_) (fun c100 => ?_)
                    · replace hf := it_f c100 hf
                      obtain ⟨x65, ex65, hf⟩ := on_el hf
                      refine lv_iinc (v := x65) (lv' := [(2, .int x65), (1, .int (1 : Int32)), (3, .int x31), (0, .ref (a_pa 0))]) hx hb dX0_readWhere_105 hl (k := 3) rfl (by rw [← ex65]; rfl) (by decide) rfl (fun ls hl => ?_)
                      refine lv_goto (tgt := 34) hx hb dX0_readWhere_108 (by decide) ?_
                      exact ih hw (lv_sub hl [3, 1, 0] rfl) hf
                    · replace hf := it_t c100 hf
                      refine lv_iconst (v := 0) hx hb dX0_readWhere_103 (by decide) ?_
                      cases hf
                      exact rt_z C hw (Or.inl rfl) dX0_readWhere_104
            · replace hf := it_t c63 hf
              refine lv_iconst (v := 0) hx hb dX0_readWhere_66 (by decide) ?_
              cases hf
              exact rt_z C hw (Or.inl rfl) dX0_readWhere_67
def f_X0_readWhere (pa_waitingSigns : Nat → Int32) (pa_waitingPlaces : Nat → Int32) (pa_waiting : Int32) (pa_nested : Int32) (pa_fault : Int32) (sc_token : Int32) (sc_start : Int32) (sc_end : Int32) (sc_numberRead : Int64) (sc_escaped : Int32) (sc_bytesBehind : Int32) (sh_names : Nat → Int32) (sh_nameLengths : Nat → Int32) (sh_groups : Nat → Int32) (sh_types : Nat → Int32) (sh_flat : Nat → Int32) (sh_size : Int32) (dr_steps : Nat → Int32) (dr_literalTypes : Nat → Int32) (dr_numbers : Nat → Int64) (dr_textStarts : Nat → Int32) (dr_textLengths : Nat → Int32) (dr_textBytes : Nat → Int32) (dr_stepCount : Int32) (dr_literalCount : Int32) (dr_textEnd : Int32) (tp_bytes : Nat → Int32) (tp_size : Int32) : Option ((Int32) × (Nat → Int32) × (Nat → Int32) × (Int32) × (Int32) × (Int32) × (Int32) × (Int32) × (Int32) × (Int64) × (Int32) × (Int32) × (Nat → Int32) × (Nat → Int32) × (Nat → Int64) × (Nat → Int32) × (Nat → Int32) × (Nat → Int32) × (Int32) × (Int32) × (Int32)) :=
  if sc_token = (1 : Int32) then (ob3 (f_X2_advance sc_token sc_start sc_end tp_bytes tp_size) (fun x1 x2 x3 =>
  f_X0_readWhere_34 FU (1 : Int32) (0 : Int32) pa_waitingSigns pa_waitingPlaces (0 : Int32) (0 : Int32) pa_fault x1 x2 x3 sc_numberRead sc_escaped sc_bytesBehind sh_names sh_nameLengths sh_groups sh_types sh_flat sh_size dr_steps dr_literalTypes dr_numbers dr_textStarts dr_textLengths dr_textBytes dr_stepCount dr_literalCount dr_textEnd tp_bytes tp_size))
  else (some ((1 : Int32), pa_waitingSigns, pa_waitingPlaces, pa_waiting, pa_nested, pa_fault, sc_token, sc_start, sc_end, sc_numberRead, sc_escaped, sc_bytesBehind, dr_steps, dr_literalTypes, dr_numbers, dr_textStarts, dr_textLengths, dr_textBytes, dr_stepCount, dr_literalCount, dr_textEnd))
set_option maxHeartbeats 4000000 in
set_option maxRecDepth 100000 in
theorem c_X0_readWhere (l : Launch) (E : EnvT) (a_pa : Nat → Nat) (a_sc : Nat → Nat) (a_sh : Nat → Nat) (a_dr : Nat → Nat) (a_tp : Nat → Nat) (pa_itemPlaces : Nat → Int32) (pa_waitingSigns : Nat → Int32) (pa_waitingPlaces : Nat → Int32) (pa_waiting : Int32) (pa_nested : Int32) (pa_fault : Int32) (sc_token : Int32) (sc_start : Int32) (sc_end : Int32) (sc_numberRead : Int64) (sc_escaped : Int32) (sc_bytesBehind : Int32) (sh_names : Nat → Int32) (sh_nameLengths : Nat → Int32) (sh_groups : Nat → Int32) (sh_types : Nat → Int32) (sh_flat : Nat → Int32) (sh_size : Int32) (dr_items : Nat → Int32) (dr_behindBy : Nat → Int32) (dr_steps : Nat → Int32) (dr_literalTypes : Nat → Int32) (dr_numbers : Nat → Int64) (dr_textStarts : Nat → Int32) (dr_textLengths : Nat → Int32) (dr_textBytes : Nat → Int32) (dr_itemCount : Int32) (dr_byCount : Int32) (dr_stepCount : Int32) (dr_literalCount : Int32) (dr_textEnd : Int32) (tp_bytes : Nat → Int32) (tp_size : Int32) (r : Int32) (o_pa_waitingSigns : Nat → Int32) (o_pa_waitingPlaces : Nat → Int32) (o_pa_waiting : Int32) (o_pa_nested : Int32) (o_pa_fault : Int32) (o_sc_token : Int32) (o_sc_start : Int32) (o_sc_end : Int32) (o_sc_numberRead : Int64) (o_sc_escaped : Int32) (o_sc_bytesBehind : Int32) (o_dr_steps : Nat → Int32) (o_dr_literalTypes : Nat → Int32) (o_dr_numbers : Nat → Int64) (o_dr_textStarts : Nat → Int32) (o_dr_textLengths : Nat → Int32) (o_dr_textBytes : Nat → Int32) (o_dr_stepCount : Int32) (o_dr_literalCount : Int32) (o_dr_textEnd : Int32) (hf : f_X0_readWhere pa_waitingSigns pa_waitingPlaces pa_waiting pa_nested pa_fault sc_token sc_start sc_end sc_numberRead sc_escaped sc_bytesBehind sh_names sh_nameLengths sh_groups sh_types sh_flat sh_size dr_steps dr_literalTypes dr_numbers dr_textStarts dr_textLengths dr_textBytes dr_stepCount dr_literalCount dr_textEnd tp_bytes tp_size = some (r, o_pa_waitingSigns, o_pa_waitingPlaces, o_pa_waiting, o_pa_nested, o_pa_fault, o_sc_token, o_sc_start, o_sc_end, o_sc_numberRead, o_sc_escaped, o_sc_bytesBehind, o_dr_steps, o_dr_literalTypes, o_dr_numbers, o_dr_textStarts, o_dr_textLengths, o_dr_textBytes, o_dr_stepCount, o_dr_literalCount, o_dr_textEnd)) : CI l yX0_readWhere (Cond.code yX0_readWhere cX0_readWhere 4 (some .boolean)) { frames := 9, cells := 0, slots := 0, locals := 205 } E [.ref (a_pa 0)] (w_pa_sc_sh_dr_tp E a_pa a_sc a_sh a_dr a_tp pa_itemPlaces pa_waitingSigns pa_waitingPlaces pa_waiting pa_nested pa_fault sc_token sc_start sc_end sc_numberRead sc_escaped sc_bytesBehind sh_names sh_nameLengths sh_groups sh_types sh_flat sh_size dr_items dr_behindBy dr_steps dr_literalTypes dr_numbers dr_textStarts dr_textLengths dr_textBytes dr_itemCount dr_byCount dr_stepCount dr_literalCount dr_textEnd tp_bytes tp_size) r (w_pa_sc_sh_dr_tp E a_pa a_sc a_sh a_dr a_tp pa_itemPlaces o_pa_waitingSigns o_pa_waitingPlaces o_pa_waiting o_pa_nested o_pa_fault o_sc_token o_sc_start o_sc_end o_sc_numberRead o_sc_escaped o_sc_bytesBehind sh_names sh_nameLengths sh_groups sh_types sh_flat sh_size dr_items dr_behindBy o_dr_steps o_dr_literalTypes o_dr_numbers o_dr_textStarts o_dr_textLengths o_dr_textBytes dr_itemCount dr_byCount o_dr_stepCount o_dr_literalCount o_dr_textEnd tp_bytes tp_size) := by
  intro sz
  refine met_start [(0, .ref (a_pa 0))] (by decide) rfl rfl (Nat.le_of_ble_eq_true rfl) rfl ?_
  intro p e s m below meth c ls C hnm hmt hw hl
  have hx := C.1
  have hb := C.2.1
  generalize va_A (w_pa_sc_sh_dr_tp E a_pa a_sc a_sh a_dr a_tp pa_itemPlaces pa_waitingSigns pa_waitingPlaces pa_waiting pa_nested pa_fault sc_token sc_start sc_end sc_numberRead sc_escaped sc_bytesBehind sh_names sh_nameLengths sh_groups sh_types sh_flat sh_size dr_items dr_behindBy dr_steps dr_literalTypes dr_numbers dr_textStarts dr_textLengths dr_textBytes dr_itemCount dr_byCount dr_stepCount dr_literalCount dr_textEnd tp_bytes tp_size) sz = A at C hw ⊢
  unfold f_X0_readWhere at hf
  refine lv_aload_n hx hb dX0_readWhere_0 rfl (lv_at hl 0 rfl) ?_
  refine fg_X0_37 C hw 0 rfl rfl dX0_readWhere_1 ?_
  refine fg_X0_51 C hw 4 rfl rfl dX0_readWhere_4 ?_
  refine lv_iconst (v := 1) hx hb dX0_readWhere_7 (by decide) ?_
  refine lv_icmp_eq (tgt := 13) hx hb dX0_readWhere_8 (by decide) (fun c8 => ?_) (fun c8 => ?_)
  · replace hf := it_t c8 hf
    refine lv_aload_n hx hb dX0_readWhere_13 rfl (lv_at hl 0 rfl) ?_
    refine fg_X0_37 C hw 0 rfl rfl dX0_readWhere_14 ?_
    obtain ⟨x1, x2, x3, z3, hf⟩ := ob3_el hf
    refine cV_V C hw (c_X2_advance l E a_sc a_tp sc_token sc_start sc_end sc_numberRead sc_escaped sc_bytesBehind tp_bytes tp_size x1 x2 x3 z3) cs_X0_61 ⟨Nat.le_of_ble_eq_true rfl, Nat.le_of_ble_eq_true rfl⟩ ⟨rfl, rfl⟩ (ci := 2) (cn := (RX2, TX2, 7)) rfl (q0 := 4) rfl (wn := w_pa_sc_sh_dr_tp E a_pa a_sc a_sh a_dr a_tp pa_itemPlaces pa_waitingSigns pa_waitingPlaces pa_waiting pa_nested pa_fault x1 x2 x3 sc_numberRead sc_escaped sc_bytesBehind sh_names sh_nameLengths sh_groups sh_types sh_flat sh_size dr_items dr_behindBy dr_steps dr_literalTypes dr_numbers dr_textStarts dr_textLengths dr_textBytes dr_itemCount dr_byCount dr_stepCount dr_literalCount dr_textEnd tp_bytes tp_size) ⟨[4, 20, 21], [0, 1, 2, 3, 5, 6, 7, 8, 9, 10, 11, 12, 13, 14, 15, 16, 17, 18, 19], [0, 1, 2, 3, 19, 4, 5, 6, 7, 8, 9, 10, 11, 12, 13, 14, 15, 16, 17, 18, 20, 21], rfl, rfl, rfl, rfl, by decide, rfl, rfl⟩ rfl hl.1 rfl (Nat.le_of_ble_eq_true rfl) dX0_readWhere_17 ⟨Nat.zero_le _, Nat.zero_le _⟩ (fun H locs hw => ?_)
    refine lv_aload_n hx hb dX0_readWhere_20 rfl (lv_at hl 0 rfl) ?_
    refine lv_iconst (v := 0) hx hb dX0_readWhere_21 (by decide) ?_
    refine fp_X0_104 C hw 0 rfl (Nat.le_of_ble_eq_true rfl) (ws' := w_pa_sc_sh_dr_tp E a_pa a_sc a_sh a_dr a_tp pa_itemPlaces pa_waitingSigns pa_waitingPlaces (0 : Int32) pa_nested pa_fault x1 x2 x3 sc_numberRead sc_escaped sc_bytesBehind sh_names sh_nameLengths sh_groups sh_types sh_flat sh_size dr_items dr_behindBy dr_steps dr_literalTypes dr_numbers dr_textStarts dr_textLengths dr_textBytes dr_itemCount dr_byCount dr_stepCount dr_literalCount dr_textEnd tp_bytes tp_size) rfl dX0_readWhere_22 (fun H locs hw => ?_)
    refine lv_aload_n hx hb dX0_readWhere_25 rfl (lv_at hl 0 rfl) ?_
    refine lv_iconst (v := 0) hx hb dX0_readWhere_26 (by decide) ?_
    refine fp_X0_107 C hw 0 rfl (Nat.le_of_ble_eq_true rfl) (ws' := w_pa_sc_sh_dr_tp E a_pa a_sc a_sh a_dr a_tp pa_itemPlaces pa_waitingSigns pa_waitingPlaces (0 : Int32) (0 : Int32) pa_fault x1 x2 x3 sc_numberRead sc_escaped sc_bytesBehind sh_names sh_nameLengths sh_groups sh_types sh_flat sh_size dr_items dr_behindBy dr_steps dr_literalTypes dr_numbers dr_textStarts dr_textLengths dr_textBytes dr_itemCount dr_byCount dr_stepCount dr_literalCount dr_textEnd tp_bytes tp_size) rfl dX0_readWhere_27 (fun H locs hw => ?_)
    refine lv_iconst (v := 1) hx hb dX0_readWhere_30 (by decide) ?_
    refine lv_istore_n (lv' := [(1, .int (1 : Int32)), (0, .ref (a_pa 0))]) hx hb dX0_readWhere_31 rfl hl (by decide) rfl (fun ls hl => ?_)
    refine lv_iconst (v := 0) hx hb dX0_readWhere_32 (by decide) ?_
    refine lv_istore_n (lv' := [(2, .int (0 : Int32)), (1, .int (1 : Int32)), (0, .ref (a_pa 0))]) hx hb dX0_readWhere_33 rfl hl (by decide) rfl (fun ls hl => ?_)
    exact w_X0_readWhere_34 C FU hw (lv_sub hl [2, 1, 0] rfl) hf
  · replace hf := it_f c8 hf
    refine lv_iconst (v := 1) hx hb dX0_readWhere_11 (by decide) ?_
    cases hf
    exact rt_z C hw (Or.inr rfl) dX0_readWhere_12
def f_X0_readBehindBy_2 : Nat → (Int32) → (Int32) → (Int32) → (Int32) → (Int32) → (Nat → Int32) → (Nat → Int32) → (Nat → Int32) → (Nat → Int32) → (Nat → Int32) → (Int32) → (Nat → Int32) → (Int32) → (Nat → Int32) → (Int32) → Option ((Int32) × (Int32) × (Int32) × (Int32) × (Int32) × (Nat → Int32) × (Int32))
  | 0, _, _, _, _, _, _, _, _, _, _, _, _, _, _, _ => none
  | n + 1, l1, pa_fault, sc_token, sc_start, sc_end, sh_names, sh_nameLengths, sh_groups, sh_types, sh_flat, sh_size, dr_behindBy, dr_byCount, tp_bytes, tp_size =>
  if (8 : Int32) ≤ l1 then (ob2 (f_X0_refuse sc_start pa_fault) (fun x1 x2 =>
  gz x1 (some (x1, x2, sc_token, sc_start, sc_end, dr_behindBy, dr_byCount))))
  else (ob5 (f_X0_readPath pa_fault sc_token sc_start sc_end sh_names sh_nameLengths sh_groups sh_size tp_bytes tp_size) (fun x3 x4 x5 x6 x7 =>
  if x3 = (-1 : Int32) then (some ((0 : Int32), x4, x5, x6, x7, dr_behindBy, dr_byCount))
  else (ob1 (f_X3_isFlatValue x3 sh_types sh_flat sh_size) (fun x8 =>
  if x8 = (0 : Int32) then (ob2 (f_X0_refuse sc_start x4) (fun x9 x10 =>
  gz x9 (some (x9, x10, x5, x6, x7, dr_behindBy, dr_byCount))))
  else (ob3 (f_X1_addBehindBy x3 dr_behindBy dr_byCount) (fun x11 x12 x13 =>
  if x11 = (0 : Int32) then (ob2 (f_X0_refuse sc_start x4) (fun x18 x19 =>
  gz x18 (some (x18, x19, x5, x6, x7, x12, x13))))
  else (if x5 = (19 : Int32) then (ob3 (f_X2_advance x5 x6 x7 tp_bytes tp_size) (fun x14 x15 x16 =>
  on (l1 + (1 : Int32)) (fun x17 =>
  f_X0_readBehindBy_2 n x17 x4 x14 x15 x16 sh_names sh_nameLengths sh_groups sh_types sh_flat sh_size x12 x13 tp_bytes tp_size)))
  else (some ((1 : Int32), x4, x5, x6, x7, x12, x13)))))))))
set_option maxHeartbeats 4000000 in
set_option maxRecDepth 100000 in
theorem w_X0_readBehindBy_2 {p : Program} {l : Launch} {e : Env} {s : State} {m : MethodId} {args : Array Value} {below : List Frame} {meth : Method} {c : Code} {E : EnvT} {A : Nat → Prop} {a_pa : Nat → Nat} {a_sc : Nat → Nat} {a_sh : Nat → Nat} {a_dr : Nat → Nat} {a_tp : Nat → Nat} {pa_itemPlaces : Nat → Int32} {pa_waitingSigns : Nat → Int32} {pa_waitingPlaces : Nat → Int32} {pa_waiting : Int32} {pa_nested : Int32} {sc_numberRead : Int64} {sc_escaped : Int32} {sc_bytesBehind : Int32} {dr_items : Nat → Int32} {dr_steps : Nat → Int32} {dr_literalTypes : Nat → Int32} {dr_numbers : Nat → Int64} {dr_textStarts : Nat → Int32} {dr_textLengths : Nat → Int32} {dr_textBytes : Nat → Int32} {dr_itemCount : Int32} {dr_stepCount : Int32} {dr_literalCount : Int32} {dr_textEnd : Int32} {r : Int32} {o_pa_fault : Int32} {o_sc_token : Int32} {o_sc_start : Int32} {o_sc_end : Int32} {o_dr_behindBy : Nat → Int32} {o_dr_byCount : Int32} (C : MC p s m args meth c E A cX0_readBehindBy 4 RX0 (some .boolean)) : ∀ (n : Nat) {l1 : Int32} {pa_fault : Int32} {sc_token : Int32} {sc_start : Int32} {sc_end : Int32} {sh_names : Nat → Int32} {sh_nameLengths : Nat → Int32} {sh_groups : Nat → Int32} {sh_types : Nat → Int32} {sh_flat : Nat → Int32} {sh_size : Int32} {dr_behindBy : Nat → Int32} {dr_byCount : Int32} {tp_bytes : Nat → Int32} {tp_size : Int32} {H : Heap} {locs : List Loc} {ls : Array Slot}, WS E A s (w_pa_sc_sh_dr_tp E a_pa a_sc a_sh a_dr a_tp pa_itemPlaces pa_waitingSigns pa_waitingPlaces pa_waiting pa_nested pa_fault sc_token sc_start sc_end sc_numberRead sc_escaped sc_bytesBehind sh_names sh_nameLengths sh_groups sh_types sh_flat sh_size dr_items dr_behindBy dr_steps dr_literalTypes dr_numbers dr_textStarts dr_textLengths dr_textBytes dr_itemCount dr_byCount dr_stepCount dr_literalCount dr_textEnd tp_bytes tp_size) H locs → lv_has ls 4 [(0, .ref (a_pa 0)), (1, .int l1)] → f_X0_readBehindBy_2 n l1 pa_fault sc_token sc_start sc_end sh_names sh_nameLengths sh_groups sh_types sh_flat sh_size dr_behindBy dr_byCount tp_bytes tp_size = some (r, o_pa_fault, o_sc_token, o_sc_start, o_sc_end, o_dr_behindBy, o_dr_byCount) → W p l e { frames := 7, cells := 0, slots := 0, locals := 153 } s m args below meth c H locs 0 0 (MQ below (QcI E A (w_pa_sc_sh_dr_tp E a_pa a_sc a_sh a_dr a_tp pa_itemPlaces pa_waitingSigns pa_waitingPlaces pa_waiting pa_nested o_pa_fault o_sc_token o_sc_start o_sc_end sc_numberRead sc_escaped sc_bytesBehind sh_names sh_nameLengths sh_groups sh_types sh_flat sh_size dr_items o_dr_behindBy dr_steps dr_literalTypes dr_numbers dr_textStarts dr_textLengths dr_textBytes dr_itemCount o_dr_byCount dr_stepCount dr_literalCount dr_textEnd tp_bytes tp_size) r) args s 0 0 A) (F0 m 2 ls []) := by
  have hx := C.1
  have hb := C.2.1
  intro n
  induction n with
  | zero =>
    intro l1 pa_fault sc_token sc_start sc_end sh_names sh_nameLengths sh_groups sh_types sh_flat sh_size dr_behindBy dr_byCount tp_bytes tp_size H locs ls hw hl hf
    unfold f_X0_readBehindBy_2 at hf
    cases hf
  | succ n ih =>
    intro l1 pa_fault sc_token sc_start sc_end sh_names sh_nameLengths sh_groups sh_types sh_flat sh_size dr_behindBy dr_byCount tp_bytes tp_size H locs ls hw hl hf
    unfold f_X0_readBehindBy_2 at hf
    refine lv_iload_n hx hb dX0_readBehindBy_2 rfl (lv_at hl 1 rfl) ?_
    refine lv_bipush (v := 8) hx hb dX0_readBehindBy_3 (by decide) ?_
    refine lv_icmp_ge (tgt := 83) hx hb dX0_readBehindBy_5 (by decide) (fun c5 => ?_) (fun c5 => ?_)
    · replace hf := it_t c5 hf
      refine lv_aload_n hx hb dX0_readBehindBy_83 rfl (lv_at hl 0 rfl) ?_
      refine lv_aload_n hx hb dX0_readBehindBy_84 rfl (lv_at hl 0 rfl) ?_
      refine fg_X0_37 C hw 0 rfl rfl dX0_readBehindBy_85 ?_
      refine fg_X0_54 C hw 4 rfl rfl dX0_readBehindBy_88 ?_
      obtain ⟨x1, x2, z2, hf⟩ := ob2_el hf
      refine cI_V C hw (c_X0_refuse l E a_pa a_sc a_sh a_dr a_tp pa_itemPlaces pa_waitingSigns pa_waitingPlaces pa_waiting pa_nested pa_fault sc_token sc_start sc_end sc_numberRead sc_escaped sc_bytesBehind sh_names sh_nameLengths sh_groups sh_types sh_flat sh_size dr_items dr_behindBy dr_steps dr_literalTypes dr_numbers dr_textStarts dr_textLengths dr_textBytes dr_itemCount dr_byCount dr_stepCount dr_literalCount dr_textEnd tp_bytes tp_size sc_start x1 x2 z2) cs_X0_57 ⟨Nat.le_of_ble_eq_true rfl, Nat.le_of_ble_eq_true rfl⟩ ⟨rfl, rfl⟩ (ci := 0) (cn := (RX0, TX0, 9)) rfl (q0 := 0) rfl (wn := w_pa_sc_sh_dr_tp E a_pa a_sc a_sh a_dr a_tp pa_itemPlaces pa_waitingSigns pa_waitingPlaces pa_waiting pa_nested x2 sc_token sc_start sc_end sc_numberRead sc_escaped sc_bytesBehind sh_names sh_nameLengths sh_groups sh_types sh_flat sh_size dr_items dr_behindBy dr_steps dr_literalTypes dr_numbers dr_textStarts dr_textLengths dr_textBytes dr_itemCount dr_byCount dr_stepCount dr_literalCount dr_textEnd tp_bytes tp_size) (Jn.all _ _) rfl hl.1 rfl (Nat.le_of_ble_eq_true rfl) dX0_readBehindBy_91 ⟨Nat.zero_le _, Nat.zero_le _⟩ (fun H locs hw => ?_)
      obtain ⟨hz, hf⟩ := gz_el hf
      cases hf
      exact rt_z C hw hz dX0_readBehindBy_94
    · replace hf := it_f c5 hf
      refine lv_aload_n hx hb dX0_readBehindBy_8 rfl (lv_at hl 0 rfl) ?_
      refine fg_X0_37 C hw 0 rfl rfl dX0_readBehindBy_9 ?_
      refine fg_X0_54 C hw 4 rfl rfl dX0_readBehindBy_12 ?_
      refine lv_istore_n (lv' := [(2, .int sc_start), (0, .ref (a_pa 0)), (1, .int l1)]) hx hb dX0_readBehindBy_15 rfl hl (by decide) rfl (fun ls hl => ?_)
      refine lv_aload_n hx hb dX0_readBehindBy_16 rfl (lv_at hl 1 rfl) ?_
      obtain ⟨x3, x4, x5, x6, x7, z7, hf⟩ := ob5_el hf
      refine cI_V C hw (c_X0_readPath l E a_pa a_sc a_sh a_dr a_tp pa_itemPlaces pa_waitingSigns pa_waitingPlaces pa_waiting pa_nested pa_fault sc_token sc_start sc_end sc_numberRead sc_escaped sc_bytesBehind sh_names sh_nameLengths sh_groups sh_types sh_flat sh_size dr_items dr_behindBy dr_steps dr_literalTypes dr_numbers dr_textStarts dr_textLengths dr_textBytes dr_itemCount dr_byCount dr_stepCount dr_literalCount dr_textEnd tp_bytes tp_size x3 x4 x5 x6 x7 z7) cs_X0_71 ⟨Nat.le_of_ble_eq_true rfl, Nat.le_of_ble_eq_true rfl⟩ ⟨rfl, rfl⟩ (ci := 0) (cn := (RX0, TX0, 9)) rfl (q0 := 0) rfl (wn := w_pa_sc_sh_dr_tp E a_pa a_sc a_sh a_dr a_tp pa_itemPlaces pa_waitingSigns pa_waitingPlaces pa_waiting pa_nested x4 x5 x6 x7 sc_numberRead sc_escaped sc_bytesBehind sh_names sh_nameLengths sh_groups sh_types sh_flat sh_size dr_items dr_behindBy dr_steps dr_literalTypes dr_numbers dr_textStarts dr_textLengths dr_textBytes dr_itemCount dr_byCount dr_stepCount dr_literalCount dr_textEnd tp_bytes tp_size) (Jn.all _ _) rfl hl.1 rfl (Nat.le_of_ble_eq_true rfl) dX0_readBehindBy_17 ⟨Nat.zero_le _, Nat.zero_le _⟩ (fun H locs hw => ?_)
      refine lv_istore_n (lv' := [(3, .int x3), (2, .int sc_start), (0, .ref (a_pa 0)), (1, .int l1)]) hx hb dX0_readBehindBy_20 rfl hl (by decide) rfl (fun ls hl => ?_)
      refine lv_iload_n hx hb dX0_readBehindBy_21 rfl (lv_at hl 0 rfl) ?_
      refine lv_iconst (v := -1) hx hb dX0_readBehindBy_22 (by decide) ?_
      refine lv_icmp_ne (tgt := 28) hx hb dX0_readBehindBy_23 (by decide) (fun c23 => ?_) (fun c23 => ?_)
      · replace hf := it_f c23 hf
        refine lv_aload_n hx hb dX0_readBehindBy_28 rfl (lv_at hl 2 rfl) ?_
        refine fg_X0_28 C hw 0 rfl rfl dX0_readBehindBy_29 ?_
        refine lv_iload_n hx hb dX0_readBehindBy_32 rfl (lv_at hl 0 rfl) ?_
        obtain ⟨x8, z8, hf⟩ := ob1_el hf
        refine cI_V C hw (c_X3_isFlatValue l E a_sh a_tp sh_names sh_nameLengths sh_groups sh_types sh_flat sh_size tp_bytes tp_size x3 x8 z8) cs_X0_79 ⟨Nat.le_of_ble_eq_true rfl, Nat.le_of_ble_eq_true rfl⟩ ⟨rfl, rfl⟩ (ci := 3) (cn := (RX3, TX3, 7)) rfl (q0 := 5) rfl (wn := w_pa_sc_sh_dr_tp E a_pa a_sc a_sh a_dr a_tp pa_itemPlaces pa_waitingSigns pa_waitingPlaces pa_waiting pa_nested x4 x5 x6 x7 sc_numberRead sc_escaped sc_bytesBehind sh_names sh_nameLengths sh_groups sh_types sh_flat sh_size dr_items dr_behindBy dr_steps dr_literalTypes dr_numbers dr_textStarts dr_textLengths dr_textBytes dr_itemCount dr_byCount dr_stepCount dr_literalCount dr_textEnd tp_bytes tp_size) ⟨[5, 6, 7, 8, 9, 10, 20, 21], [0, 1, 2, 3, 4, 11, 12, 13, 14, 15, 16, 17, 18, 19], [0, 1, 2, 3, 4, 14, 15, 16, 17, 18, 19, 5, 6, 7, 8, 9, 10, 11, 12, 13, 20, 21], rfl, rfl, rfl, rfl, by decide, rfl, rfl⟩ rfl hl.1 rfl (Nat.le_of_ble_eq_true rfl) dX0_readBehindBy_33 ⟨Nat.zero_le _, Nat.zero_le _⟩ (fun H locs hw => ?_)
        refine lv_if_eq (tgt := 50) hx hb dX0_readBehindBy_36 (by decide) (fun c36 => ?_) (fun c36 => ?_)
        · replace hf := it_t c36 hf
          refine lv_aload_n hx hb dX0_readBehindBy_50 rfl (lv_at hl 2 rfl) ?_
          refine lv_iload_n hx hb dX0_readBehindBy_51 rfl (lv_at hl 1 rfl) ?_
          obtain ⟨x9, x10, z10, hf⟩ := ob2_el hf
          refine cI_V C hw (c_X0_refuse l E a_pa a_sc a_sh a_dr a_tp pa_itemPlaces pa_waitingSigns pa_waitingPlaces pa_waiting pa_nested x4 x5 x6 x7 sc_numberRead sc_escaped sc_bytesBehind sh_names sh_nameLengths sh_groups sh_types sh_flat sh_size dr_items dr_behindBy dr_steps dr_literalTypes dr_numbers dr_textStarts dr_textLengths dr_textBytes dr_itemCount dr_byCount dr_stepCount dr_literalCount dr_textEnd tp_bytes tp_size sc_start x9 x10 z10) cs_X0_57 ⟨Nat.le_of_ble_eq_true rfl, Nat.le_of_ble_eq_true rfl⟩ ⟨rfl, rfl⟩ (ci := 0) (cn := (RX0, TX0, 9)) rfl (q0 := 0) rfl (wn := w_pa_sc_sh_dr_tp E a_pa a_sc a_sh a_dr a_tp pa_itemPlaces pa_waitingSigns pa_waitingPlaces pa_waiting pa_nested x10 x5 x6 x7 sc_numberRead sc_escaped sc_bytesBehind sh_names sh_nameLengths sh_groups sh_types sh_flat sh_size dr_items dr_behindBy dr_steps dr_literalTypes dr_numbers dr_textStarts dr_textLengths dr_textBytes dr_itemCount dr_byCount dr_stepCount dr_literalCount dr_textEnd tp_bytes tp_size) (Jn.all _ _) rfl hl.1 rfl (Nat.le_of_ble_eq_true rfl) dX0_readBehindBy_52 ⟨Nat.zero_le _, Nat.zero_le _⟩ (fun H locs hw => ?_)
          obtain ⟨hz, hf⟩ := gz_el hf
          cases hf
          exact rt_z C hw hz dX0_readBehindBy_55
        · replace hf := it_f c36 hf
          refine lv_aload_n hx hb dX0_readBehindBy_39 rfl (lv_at hl 2 rfl) ?_
          refine fg_X0_12 C hw 0 rfl rfl dX0_readBehindBy_40 ?_
          refine lv_iload_n hx hb dX0_readBehindBy_43 rfl (lv_at hl 0 rfl) ?_
          obtain ⟨x11, x12, x13, z13, hf⟩ := ob3_el hf
          refine cI_V C hw (c_X1_addBehindBy l E a_dr dr_items dr_behindBy dr_steps dr_literalTypes dr_numbers dr_textStarts dr_textLengths dr_textBytes dr_itemCount dr_byCount dr_stepCount dr_literalCount dr_textEnd x3 x11 x12 x13 z13) cs_X0_168 ⟨Nat.le_of_ble_eq_true rfl, Nat.le_of_ble_eq_true rfl⟩ ⟨rfl, rfl⟩ (ci := 1) (cn := (RX1, TX1, 13)) rfl (q0 := 11) rfl (wn := w_pa_sc_sh_dr_tp E a_pa a_sc a_sh a_dr a_tp pa_itemPlaces pa_waitingSigns pa_waitingPlaces pa_waiting pa_nested x4 x5 x6 x7 sc_numberRead sc_escaped sc_bytesBehind sh_names sh_nameLengths sh_groups sh_types sh_flat sh_size dr_items x12 dr_steps dr_literalTypes dr_numbers dr_textStarts dr_textLengths dr_textBytes dr_itemCount x13 dr_stepCount dr_literalCount dr_textEnd tp_bytes tp_size) ⟨[11, 12, 13, 14, 15, 16, 17, 18, 19], [0, 1, 2, 3, 4, 5, 6, 7, 8, 9, 10, 20, 21], [0, 1, 2, 3, 4, 5, 6, 7, 8, 9, 10, 13, 14, 15, 16, 17, 18, 19, 20, 21, 11, 12], rfl, rfl, rfl, rfl, by decide, rfl, rfl⟩ rfl hl.1 rfl (Nat.le_of_ble_eq_true rfl) dX0_readBehindBy_44 ⟨Nat.zero_le _, Nat.zero_le _⟩ (fun H locs hw => ?_)
          refine lv_if_ne (tgt := 56) hx hb dX0_readBehindBy_47 (by decide) (fun c47 => ?_) (fun c47 => ?_)
          · replace hf := it_f c47 hf
            refine lv_aload_n hx hb dX0_readBehindBy_56 rfl (lv_at hl 2 rfl) ?_
            refine fg_X0_37 C hw 0 rfl rfl dX0_readBehindBy_57 ?_
            refine fg_X0_51 C hw 4 rfl rfl dX0_readBehindBy_60 ?_
            refine lv_bipush (v := 19) hx hb dX0_readBehindBy_63 (by decide) ?_
            refine lv_icmp_eq (tgt := 70) hx hb dX0_readBehindBy_65 (by decide) (fun c65 => ?_) (fun c65 => ?_)
            · replace hf := it_t c65 hf
              refine lv_aload_n hx hb dX0_readBehindBy_70 rfl (lv_at hl 2 rfl) ?_
              refine fg_X0_37 C hw 0 rfl rfl dX0_readBehindBy_71 ?_
              obtain ⟨x14, x15, x16, z16, hf⟩ := ob3_el hf
              refine cV_V C hw (c_X2_advance l E a_sc a_tp x5 x6 x7 sc_numberRead sc_escaped sc_bytesBehind tp_bytes tp_size x14 x15 x16 z16) cs_X0_61 ⟨Nat.le_of_ble_eq_true rfl, Nat.le_of_ble_eq_true rfl⟩ ⟨rfl, rfl⟩ (ci := 2) (cn := (RX2, TX2, 7)) rfl (q0 := 4) rfl (wn := w_pa_sc_sh_dr_tp E a_pa a_sc a_sh a_dr a_tp pa_itemPlaces pa_waitingSigns pa_waitingPlaces pa_waiting pa_nested x4 x14 x15 x16 sc_numberRead sc_escaped sc_bytesBehind sh_names sh_nameLengths sh_groups sh_types sh_flat sh_size dr_items x12 dr_steps dr_literalTypes dr_numbers dr_textStarts dr_textLengths dr_textBytes dr_itemCount x13 dr_stepCount dr_literalCount dr_textEnd tp_bytes tp_size) ⟨[4, 20, 21], [0, 1, 2, 3, 5, 6, 7, 8, 9, 10, 11, 12, 13, 14, 15, 16, 17, 18, 19], [0, 1, 2, 3, 19, 4, 5, 6, 7, 8, 9, 10, 11, 12, 13, 14, 15, 16, 17, 18, 20, 21], rfl, rfl, rfl, rfl, by decide, rfl, rfl⟩ rfl hl.1 rfl (Nat.le_of_ble_eq_true rfl) dX0_readBehindBy_74 ⟨Nat.zero_le _, Nat.zero_le _⟩ (fun H locs hw => ?_)
              obtain ⟨x17, ex17, hf⟩ := on_el hf
              refine lv_iinc (v := x17) (lv' := [(1, .int x17), (3, .int x3), (2, .int sc_start), (0, .ref (a_pa 0))]) hx hb dX0_readBehindBy_77 hl (k := 3) rfl (by rw [← ex17]; rfl) (by decide) rfl (fun ls hl => ?_)
              refine lv_goto (tgt := 2) hx hb dX0_readBehindBy_80 (by decide) ?_
              exact ih hw (lv_sub hl [3, 0] rfl) hf
            · replace hf := it_f c65 hf
              refine lv_iconst (v := 1) hx hb dX0_readBehindBy_68 (by decide) ?_
              cases hf
              exact rt_z C hw (Or.inr rfl) dX0_readBehindBy_69
          · replace hf := it_t c47 hf
            refine lv_aload_n hx hb dX0_readBehindBy_50 rfl (lv_at hl 2 rfl) ?_
            refine lv_iload_n hx hb dX0_readBehindBy_51 rfl (lv_at hl 1 rfl) ?_
            obtain ⟨x18, x19, z19, hf⟩ := ob2_el hf
            refine cI_V C hw (c_X0_refuse l E a_pa a_sc a_sh a_dr a_tp pa_itemPlaces pa_waitingSigns pa_waitingPlaces pa_waiting pa_nested x4 x5 x6 x7 sc_numberRead sc_escaped sc_bytesBehind sh_names sh_nameLengths sh_groups sh_types sh_flat sh_size dr_items x12 dr_steps dr_literalTypes dr_numbers dr_textStarts dr_textLengths dr_textBytes dr_itemCount x13 dr_stepCount dr_literalCount dr_textEnd tp_bytes tp_size sc_start x18 x19 z19) cs_X0_57 ⟨Nat.le_of_ble_eq_true rfl, Nat.le_of_ble_eq_true rfl⟩ ⟨rfl, rfl⟩ (ci := 0) (cn := (RX0, TX0, 9)) rfl (q0 := 0) rfl (wn := w_pa_sc_sh_dr_tp E a_pa a_sc a_sh a_dr a_tp pa_itemPlaces pa_waitingSigns pa_waitingPlaces pa_waiting pa_nested x19 x5 x6 x7 sc_numberRead sc_escaped sc_bytesBehind sh_names sh_nameLengths sh_groups sh_types sh_flat sh_size dr_items x12 dr_steps dr_literalTypes dr_numbers dr_textStarts dr_textLengths dr_textBytes dr_itemCount x13 dr_stepCount dr_literalCount dr_textEnd tp_bytes tp_size) (Jn.all _ _) rfl hl.1 rfl (Nat.le_of_ble_eq_true rfl) dX0_readBehindBy_52 ⟨Nat.zero_le _, Nat.zero_le _⟩ (fun H locs hw => ?_)
            obtain ⟨hz, hf⟩ := gz_el hf
            cases hf
            exact rt_z C hw hz dX0_readBehindBy_55
      · replace hf := it_t c23 hf
        refine lv_iconst (v := 0) hx hb dX0_readBehindBy_26 (by decide) ?_
        cases hf
        exact rt_z C hw (Or.inl rfl) dX0_readBehindBy_27
def f_X0_readBehindBy (pa_fault : Int32) (sc_token : Int32) (sc_start : Int32) (sc_end : Int32) (sh_names : Nat → Int32) (sh_nameLengths : Nat → Int32) (sh_groups : Nat → Int32) (sh_types : Nat → Int32) (sh_flat : Nat → Int32) (sh_size : Int32) (dr_behindBy : Nat → Int32) (dr_byCount : Int32) (tp_bytes : Nat → Int32) (tp_size : Int32) : Option ((Int32) × (Int32) × (Int32) × (Int32) × (Int32) × (Nat → Int32) × (Int32)) :=
  f_X0_readBehindBy_2 FU (0 : Int32) pa_fault sc_token sc_start sc_end sh_names sh_nameLengths sh_groups sh_types sh_flat sh_size dr_behindBy dr_byCount tp_bytes tp_size
set_option maxHeartbeats 4000000 in
set_option maxRecDepth 100000 in
theorem c_X0_readBehindBy (l : Launch) (E : EnvT) (a_pa : Nat → Nat) (a_sc : Nat → Nat) (a_sh : Nat → Nat) (a_dr : Nat → Nat) (a_tp : Nat → Nat) (pa_itemPlaces : Nat → Int32) (pa_waitingSigns : Nat → Int32) (pa_waitingPlaces : Nat → Int32) (pa_waiting : Int32) (pa_nested : Int32) (pa_fault : Int32) (sc_token : Int32) (sc_start : Int32) (sc_end : Int32) (sc_numberRead : Int64) (sc_escaped : Int32) (sc_bytesBehind : Int32) (sh_names : Nat → Int32) (sh_nameLengths : Nat → Int32) (sh_groups : Nat → Int32) (sh_types : Nat → Int32) (sh_flat : Nat → Int32) (sh_size : Int32) (dr_items : Nat → Int32) (dr_behindBy : Nat → Int32) (dr_steps : Nat → Int32) (dr_literalTypes : Nat → Int32) (dr_numbers : Nat → Int64) (dr_textStarts : Nat → Int32) (dr_textLengths : Nat → Int32) (dr_textBytes : Nat → Int32) (dr_itemCount : Int32) (dr_byCount : Int32) (dr_stepCount : Int32) (dr_literalCount : Int32) (dr_textEnd : Int32) (tp_bytes : Nat → Int32) (tp_size : Int32) (r : Int32) (o_pa_fault : Int32) (o_sc_token : Int32) (o_sc_start : Int32) (o_sc_end : Int32) (o_dr_behindBy : Nat → Int32) (o_dr_byCount : Int32) (hf : f_X0_readBehindBy pa_fault sc_token sc_start sc_end sh_names sh_nameLengths sh_groups sh_types sh_flat sh_size dr_behindBy dr_byCount tp_bytes tp_size = some (r, o_pa_fault, o_sc_token, o_sc_start, o_sc_end, o_dr_behindBy, o_dr_byCount)) : CI l yX0_readBehindBy (Cond.code yX0_readBehindBy cX0_readBehindBy 4 (some .boolean)) { frames := 7, cells := 0, slots := 0, locals := 153 } E [.ref (a_pa 0)] (w_pa_sc_sh_dr_tp E a_pa a_sc a_sh a_dr a_tp pa_itemPlaces pa_waitingSigns pa_waitingPlaces pa_waiting pa_nested pa_fault sc_token sc_start sc_end sc_numberRead sc_escaped sc_bytesBehind sh_names sh_nameLengths sh_groups sh_types sh_flat sh_size dr_items dr_behindBy dr_steps dr_literalTypes dr_numbers dr_textStarts dr_textLengths dr_textBytes dr_itemCount dr_byCount dr_stepCount dr_literalCount dr_textEnd tp_bytes tp_size) r (w_pa_sc_sh_dr_tp E a_pa a_sc a_sh a_dr a_tp pa_itemPlaces pa_waitingSigns pa_waitingPlaces pa_waiting pa_nested o_pa_fault o_sc_token o_sc_start o_sc_end sc_numberRead sc_escaped sc_bytesBehind sh_names sh_nameLengths sh_groups sh_types sh_flat sh_size dr_items o_dr_behindBy dr_steps dr_literalTypes dr_numbers dr_textStarts dr_textLengths dr_textBytes dr_itemCount o_dr_byCount dr_stepCount dr_literalCount dr_textEnd tp_bytes tp_size) := by
  intro sz
  refine met_start [(0, .ref (a_pa 0))] (by decide) rfl rfl (Nat.le_of_ble_eq_true rfl) rfl ?_
  intro p e s m below meth c ls C hnm hmt hw hl
  have hx := C.1
  have hb := C.2.1
  generalize va_A (w_pa_sc_sh_dr_tp E a_pa a_sc a_sh a_dr a_tp pa_itemPlaces pa_waitingSigns pa_waitingPlaces pa_waiting pa_nested pa_fault sc_token sc_start sc_end sc_numberRead sc_escaped sc_bytesBehind sh_names sh_nameLengths sh_groups sh_types sh_flat sh_size dr_items dr_behindBy dr_steps dr_literalTypes dr_numbers dr_textStarts dr_textLengths dr_textBytes dr_itemCount dr_byCount dr_stepCount dr_literalCount dr_textEnd tp_bytes tp_size) sz = A at C hw ⊢
  unfold f_X0_readBehindBy at hf
  refine lv_iconst (v := 0) hx hb dX0_readBehindBy_0 (by decide) ?_
  refine lv_istore_n (lv' := [(1, .int (0 : Int32)), (0, .ref (a_pa 0))]) hx hb dX0_readBehindBy_1 rfl hl (by decide) rfl (fun ls hl => ?_)
  exact w_X0_readBehindBy_2 C FU hw (lv_sub hl [1, 0] rfl) hf
def f_X0_readGroup_35 (pa_fault : Int32) (sc_token : Int32) (sc_start : Int32) (sc_end : Int32) (dr_behindBy : Nat → Int32) (dr_byCount : Int32) : Option ((Int32) × (Int32) × (Int32) × (Int32) × (Int32) × (Nat → Int32) × (Int32)) :=
  if sc_token = (29 : Int32) then (some ((1 : Int32), pa_fault, sc_token, sc_start, sc_end, dr_behindBy, dr_byCount))
  else (ob2 (f_X0_refuse sc_start pa_fault) (fun x1 x2 =>
  if x1 = (0 : Int32) then (some ((0 : Int32), x2, sc_token, sc_start, sc_end, dr_behindBy, dr_byCount))
  else (some ((1 : Int32), x2, sc_token, sc_start, sc_end, dr_behindBy, dr_byCount))))
set_option maxHeartbeats 4000000 in
set_option maxRecDepth 100000 in
theorem w_X0_readGroup_35 {p : Program} {l : Launch} {e : Env} {s : State} {m : MethodId} {args : Array Value} {below : List Frame} {meth : Method} {c : Code} {E : EnvT} {A : Nat → Prop} {a_pa : Nat → Nat} {a_sc : Nat → Nat} {a_sh : Nat → Nat} {a_dr : Nat → Nat} {a_tp : Nat → Nat} {pa_itemPlaces : Nat → Int32} {pa_waitingSigns : Nat → Int32} {pa_waitingPlaces : Nat → Int32} {pa_waiting : Int32} {pa_nested : Int32} {sc_numberRead : Int64} {sc_escaped : Int32} {sc_bytesBehind : Int32} {sh_names : Nat → Int32} {sh_nameLengths : Nat → Int32} {sh_groups : Nat → Int32} {sh_types : Nat → Int32} {sh_flat : Nat → Int32} {sh_size : Int32} {dr_items : Nat → Int32} {dr_steps : Nat → Int32} {dr_literalTypes : Nat → Int32} {dr_numbers : Nat → Int64} {dr_textStarts : Nat → Int32} {dr_textLengths : Nat → Int32} {dr_textBytes : Nat → Int32} {dr_itemCount : Int32} {dr_stepCount : Int32} {dr_literalCount : Int32} {dr_textEnd : Int32} {tp_bytes : Nat → Int32} {tp_size : Int32} {r : Int32} {o_pa_fault : Int32} {o_sc_token : Int32} {o_sc_start : Int32} {o_sc_end : Int32} {o_dr_behindBy : Nat → Int32} {o_dr_byCount : Int32} {pa_fault : Int32} {sc_token : Int32} {sc_start : Int32} {sc_end : Int32} {dr_behindBy : Nat → Int32} {dr_byCount : Int32} {H : Heap} {locs : List Loc} {ls : Array Slot} (C : MC p s m args meth c E A cX0_readGroup 1 RX0 (some .boolean)) (hw : WS E A s (w_pa_sc_sh_dr_tp E a_pa a_sc a_sh a_dr a_tp pa_itemPlaces pa_waitingSigns pa_waitingPlaces pa_waiting pa_nested pa_fault sc_token sc_start sc_end sc_numberRead sc_escaped sc_bytesBehind sh_names sh_nameLengths sh_groups sh_types sh_flat sh_size dr_items dr_behindBy dr_steps dr_literalTypes dr_numbers dr_textStarts dr_textLengths dr_textBytes dr_itemCount dr_byCount dr_stepCount dr_literalCount dr_textEnd tp_bytes tp_size) H locs) (hl : lv_has ls 1 [(0, .ref (a_pa 0))]) (hf : f_X0_readGroup_35 pa_fault sc_token sc_start sc_end dr_behindBy dr_byCount = some (r, o_pa_fault, o_sc_token, o_sc_start, o_sc_end, o_dr_behindBy, o_dr_byCount)) : W p l e { frames := 8, cells := 0, slots := 0, locals := 176 } s m args below meth c H locs 0 0 (MQ below (QcI E A (w_pa_sc_sh_dr_tp E a_pa a_sc a_sh a_dr a_tp pa_itemPlaces pa_waitingSigns pa_waitingPlaces pa_waiting pa_nested o_pa_fault o_sc_token o_sc_start o_sc_end sc_numberRead sc_escaped sc_bytesBehind sh_names sh_nameLengths sh_groups sh_types sh_flat sh_size dr_items o_dr_behindBy dr_steps dr_literalTypes dr_numbers dr_textStarts dr_textLengths dr_textBytes dr_itemCount o_dr_byCount dr_stepCount dr_literalCount dr_textEnd tp_bytes tp_size) r) args s 0 0 A) (F0 m 35 ls []) := by
  have hx := C.1
  have hb := C.2.1
  unfold f_X0_readGroup_35 at hf
  refine lv_aload_n hx hb dX0_readGroup_35 rfl (lv_at hl 0 rfl) ?_
  refine fg_X0_37 C hw 0 rfl rfl dX0_readGroup_36 ?_
  refine fg_X0_51 C hw 4 rfl rfl dX0_readGroup_39 ?_
  refine lv_bipush (v := 29) hx hb dX0_readGroup_42 (by decide) ?_
  refine lv_icmp_eq (tgt := 61) hx hb dX0_readGroup_44 (by decide) (fun c44 => ?_) (fun c44 => ?_)
  · replace hf := it_t c44 hf
    refine lv_iconst (v := 1) hx hb dX0_readGroup_61 (by decide) ?_
    refine lv_goto (tgt := 66) hx hb dX0_readGroup_62 (by decide) ?_
    cases hf
    exact rt_z C hw (Or.inr rfl) dX0_readGroup_66
  · replace hf := it_f c44 hf
    refine lv_aload_n hx hb dX0_readGroup_47 rfl (lv_at hl 0 rfl) ?_
    refine lv_aload_n hx hb dX0_readGroup_48 rfl (lv_at hl 0 rfl) ?_
    refine fg_X0_37 C hw 0 rfl rfl dX0_readGroup_49 ?_
    refine fg_X0_54 C hw 4 rfl rfl dX0_readGroup_52 ?_
    obtain ⟨x1, x2, z2, hf⟩ := ob2_el hf
    refine cI_V C hw (c_X0_refuse l E a_pa a_sc a_sh a_dr a_tp pa_itemPlaces pa_waitingSigns pa_waitingPlaces pa_waiting pa_nested pa_fault sc_token sc_start sc_end sc_numberRead sc_escaped sc_bytesBehind sh_names sh_nameLengths sh_groups sh_types sh_flat sh_size dr_items dr_behindBy dr_steps dr_literalTypes dr_numbers dr_textStarts dr_textLengths dr_textBytes dr_itemCount dr_byCount dr_stepCount dr_literalCount dr_textEnd tp_bytes tp_size sc_start x1 x2 z2) cs_X0_57 ⟨Nat.le_of_ble_eq_true rfl, Nat.le_of_ble_eq_true rfl⟩ ⟨rfl, rfl⟩ (ci := 0) (cn := (RX0, TX0, 9)) rfl (q0 := 0) rfl (wn := w_pa_sc_sh_dr_tp E a_pa a_sc a_sh a_dr a_tp pa_itemPlaces pa_waitingSigns pa_waitingPlaces pa_waiting pa_nested x2 sc_token sc_start sc_end sc_numberRead sc_escaped sc_bytesBehind sh_names sh_nameLengths sh_groups sh_types sh_flat sh_size dr_items dr_behindBy dr_steps dr_literalTypes dr_numbers dr_textStarts dr_textLengths dr_textBytes dr_itemCount dr_byCount dr_stepCount dr_literalCount dr_textEnd tp_bytes tp_size) (Jn.all _ _) rfl hl.1 rfl (Nat.le_of_ble_eq_true rfl) dX0_readGroup_55 ⟨Nat.zero_le _, Nat.zero_le _⟩ (fun H locs hw => ?_)
    refine lv_if_eq (tgt := 65) hx hb dX0_readGroup_58 (by decide) (fun c58 => ?_) (fun c58 => ?_)
    · replace hf := it_t c58 hf
      refine lv_iconst (v := 0) hx hb dX0_readGroup_65 (by decide) ?_
      cases hf
      exact rt_z C hw (Or.inl rfl) dX0_readGroup_66
    · replace hf := it_f c58 hf
      refine lv_iconst (v := 1) hx hb dX0_readGroup_61 (by decide) ?_
      refine lv_goto (tgt := 66) hx hb dX0_readGroup_62 (by decide) ?_
      cases hf
      exact rt_z C hw (Or.inr rfl) dX0_readGroup_66
def f_X0_readGroup (pa_fault : Int32) (sc_token : Int32) (sc_start : Int32) (sc_end : Int32) (sh_names : Nat → Int32) (sh_nameLengths : Nat → Int32) (sh_groups : Nat → Int32) (sh_types : Nat → Int32) (sh_flat : Nat → Int32) (sh_size : Int32) (dr_behindBy : Nat → Int32) (dr_byCount : Int32) (tp_bytes : Nat → Int32) (tp_size : Int32) : Option ((Int32) × (Int32) × (Int32) × (Int32) × (Int32) × (Nat → Int32) × (Int32)) :=
  if sc_token = (2 : Int32) then (ob3 (f_X2_advance sc_token sc_start sc_end tp_bytes tp_size) (fun x1 x2 x3 =>
  ob5 (f_X0_take (3 : Int32) pa_fault x1 x2 x3 tp_bytes tp_size) (fun x4 x5 x6 x7 x8 =>
  if x4 = (0 : Int32) then (some ((0 : Int32), x5, x6, x7, x8, dr_behindBy, dr_byCount))
  else (ob7 (f_X0_readBehindBy x5 x6 x7 x8 sh_names sh_nameLengths sh_groups sh_types sh_flat sh_size dr_behindBy dr_byCount tp_bytes tp_size) (fun x9 x10 x11 x12 x13 x14 x15 =>
  if x9 = (0 : Int32) then (some ((0 : Int32), x10, x11, x12, x13, x14, x15))
  else (f_X0_readGroup_35 x10 x11 x12 x13 x14 x15))))))
  else (f_X0_readGroup_35 pa_fault sc_token sc_start sc_end dr_behindBy dr_byCount)
set_option maxHeartbeats 4000000 in
set_option maxRecDepth 100000 in
theorem c_X0_readGroup (l : Launch) (E : EnvT) (a_pa : Nat → Nat) (a_sc : Nat → Nat) (a_sh : Nat → Nat) (a_dr : Nat → Nat) (a_tp : Nat → Nat) (pa_itemPlaces : Nat → Int32) (pa_waitingSigns : Nat → Int32) (pa_waitingPlaces : Nat → Int32) (pa_waiting : Int32) (pa_nested : Int32) (pa_fault : Int32) (sc_token : Int32) (sc_start : Int32) (sc_end : Int32) (sc_numberRead : Int64) (sc_escaped : Int32) (sc_bytesBehind : Int32) (sh_names : Nat → Int32) (sh_nameLengths : Nat → Int32) (sh_groups : Nat → Int32) (sh_types : Nat → Int32) (sh_flat : Nat → Int32) (sh_size : Int32) (dr_items : Nat → Int32) (dr_behindBy : Nat → Int32) (dr_steps : Nat → Int32) (dr_literalTypes : Nat → Int32) (dr_numbers : Nat → Int64) (dr_textStarts : Nat → Int32) (dr_textLengths : Nat → Int32) (dr_textBytes : Nat → Int32) (dr_itemCount : Int32) (dr_byCount : Int32) (dr_stepCount : Int32) (dr_literalCount : Int32) (dr_textEnd : Int32) (tp_bytes : Nat → Int32) (tp_size : Int32) (r : Int32) (o_pa_fault : Int32) (o_sc_token : Int32) (o_sc_start : Int32) (o_sc_end : Int32) (o_dr_behindBy : Nat → Int32) (o_dr_byCount : Int32) (hf : f_X0_readGroup pa_fault sc_token sc_start sc_end sh_names sh_nameLengths sh_groups sh_types sh_flat sh_size dr_behindBy dr_byCount tp_bytes tp_size = some (r, o_pa_fault, o_sc_token, o_sc_start, o_sc_end, o_dr_behindBy, o_dr_byCount)) : CI l yX0_readGroup (Cond.code yX0_readGroup cX0_readGroup 1 (some .boolean)) { frames := 8, cells := 0, slots := 0, locals := 176 } E [.ref (a_pa 0)] (w_pa_sc_sh_dr_tp E a_pa a_sc a_sh a_dr a_tp pa_itemPlaces pa_waitingSigns pa_waitingPlaces pa_waiting pa_nested pa_fault sc_token sc_start sc_end sc_numberRead sc_escaped sc_bytesBehind sh_names sh_nameLengths sh_groups sh_types sh_flat sh_size dr_items dr_behindBy dr_steps dr_literalTypes dr_numbers dr_textStarts dr_textLengths dr_textBytes dr_itemCount dr_byCount dr_stepCount dr_literalCount dr_textEnd tp_bytes tp_size) r (w_pa_sc_sh_dr_tp E a_pa a_sc a_sh a_dr a_tp pa_itemPlaces pa_waitingSigns pa_waitingPlaces pa_waiting pa_nested o_pa_fault o_sc_token o_sc_start o_sc_end sc_numberRead sc_escaped sc_bytesBehind sh_names sh_nameLengths sh_groups sh_types sh_flat sh_size dr_items o_dr_behindBy dr_steps dr_literalTypes dr_numbers dr_textStarts dr_textLengths dr_textBytes dr_itemCount o_dr_byCount dr_stepCount dr_literalCount dr_textEnd tp_bytes tp_size) := by
  intro sz
  refine met_start [(0, .ref (a_pa 0))] (by decide) rfl rfl (Nat.le_of_ble_eq_true rfl) rfl ?_
  intro p e s m below meth c ls C hnm hmt hw hl
  have hx := C.1
  have hb := C.2.1
  generalize va_A (w_pa_sc_sh_dr_tp E a_pa a_sc a_sh a_dr a_tp pa_itemPlaces pa_waitingSigns pa_waitingPlaces pa_waiting pa_nested pa_fault sc_token sc_start sc_end sc_numberRead sc_escaped sc_bytesBehind sh_names sh_nameLengths sh_groups sh_types sh_flat sh_size dr_items dr_behindBy dr_steps dr_literalTypes dr_numbers dr_textStarts dr_textLengths dr_textBytes dr_itemCount dr_byCount dr_stepCount dr_literalCount dr_textEnd tp_bytes tp_size) sz = A at C hw ⊢
  unfold f_X0_readGroup at hf
  refine lv_aload_n hx hb dX0_readGroup_0 rfl (lv_at hl 0 rfl) ?_
  refine fg_X0_37 C hw 0 rfl rfl dX0_readGroup_1 ?_
  refine fg_X0_51 C hw 4 rfl rfl dX0_readGroup_4 ?_
  refine lv_iconst (v := 2) hx hb dX0_readGroup_7 (by decide) ?_
  refine lv_icmp_ne (tgt := 35) hx hb dX0_readGroup_8 (by decide) (fun c8 => ?_) (fun c8 => ?_)
  · replace hf := it_f c8 hf
    exact w_X0_readGroup_35 C hw (lv_sub hl [0] rfl) hf
  · replace hf := it_t c8 hf
    refine lv_aload_n hx hb dX0_readGroup_11 rfl (lv_at hl 0 rfl) ?_
    refine fg_X0_37 C hw 0 rfl rfl dX0_readGroup_12 ?_
    obtain ⟨x1, x2, x3, z3, hf⟩ := ob3_el hf
    refine cV_V C hw (c_X2_advance l E a_sc a_tp sc_token sc_start sc_end sc_numberRead sc_escaped sc_bytesBehind tp_bytes tp_size x1 x2 x3 z3) cs_X0_61 ⟨Nat.le_of_ble_eq_true rfl, Nat.le_of_ble_eq_true rfl⟩ ⟨rfl, rfl⟩ (ci := 2) (cn := (RX2, TX2, 7)) rfl (q0 := 4) rfl (wn := w_pa_sc_sh_dr_tp E a_pa a_sc a_sh a_dr a_tp pa_itemPlaces pa_waitingSigns pa_waitingPlaces pa_waiting pa_nested pa_fault x1 x2 x3 sc_numberRead sc_escaped sc_bytesBehind sh_names sh_nameLengths sh_groups sh_types sh_flat sh_size dr_items dr_behindBy dr_steps dr_literalTypes dr_numbers dr_textStarts dr_textLengths dr_textBytes dr_itemCount dr_byCount dr_stepCount dr_literalCount dr_textEnd tp_bytes tp_size) ⟨[4, 20, 21], [0, 1, 2, 3, 5, 6, 7, 8, 9, 10, 11, 12, 13, 14, 15, 16, 17, 18, 19], [0, 1, 2, 3, 19, 4, 5, 6, 7, 8, 9, 10, 11, 12, 13, 14, 15, 16, 17, 18, 20, 21], rfl, rfl, rfl, rfl, by decide, rfl, rfl⟩ rfl hl.1 rfl (Nat.le_of_ble_eq_true rfl) dX0_readGroup_15 ⟨Nat.zero_le _, Nat.zero_le _⟩ (fun H locs hw => ?_)
    refine lv_aload_n hx hb dX0_readGroup_18 rfl (lv_at hl 0 rfl) ?_
    refine lv_iconst (v := 3) hx hb dX0_readGroup_19 (by decide) ?_
    obtain ⟨x4, x5, x6, x7, x8, z8, hf⟩ := ob5_el hf
    refine cI_V C hw (c_X0_take l E a_pa a_sc a_sh a_dr a_tp pa_itemPlaces pa_waitingSigns pa_waitingPlaces pa_waiting pa_nested pa_fault x1 x2 x3 sc_numberRead sc_escaped sc_bytesBehind sh_names sh_nameLengths sh_groups sh_types sh_flat sh_size dr_items dr_behindBy dr_steps dr_literalTypes dr_numbers dr_textStarts dr_textLengths dr_textBytes dr_itemCount dr_byCount dr_stepCount dr_literalCount dr_textEnd tp_bytes tp_size (3 : Int32) x4 x5 x6 x7 x8 z8) cs_X0_64 ⟨Nat.le_of_ble_eq_true rfl, Nat.le_of_ble_eq_true rfl⟩ ⟨rfl, rfl⟩ (ci := 0) (cn := (RX0, TX0, 9)) rfl (q0 := 0) rfl (wn := w_pa_sc_sh_dr_tp E a_pa a_sc a_sh a_dr a_tp pa_itemPlaces pa_waitingSigns pa_waitingPlaces pa_waiting pa_nested x5 x6 x7 x8 sc_numberRead sc_escaped sc_bytesBehind sh_names sh_nameLengths sh_groups sh_types sh_flat sh_size dr_items dr_behindBy dr_steps dr_literalTypes dr_numbers dr_textStarts dr_textLengths dr_textBytes dr_itemCount dr_byCount dr_stepCount dr_literalCount dr_textEnd tp_bytes tp_size) (Jn.all _ _) rfl hl.1 rfl (Nat.le_of_ble_eq_true rfl) dX0_readGroup_20 ⟨Nat.zero_le _, Nat.zero_le _⟩ (fun H locs hw => ?_)
    refine lv_if_eq (tgt := 33) hx hb dX0_readGroup_23 (by decide) (fun c23 => ?_) (fun c23 => ?_)
    · replace hf := it_t c23 hf
      refine lv_iconst (v := 0) hx hb dX0_readGroup_33 (by decide) ?_
      cases hf
      exact rt_z C hw (Or.inl rfl) dX0_readGroup_34
    · replace hf := it_f c23 hf
      refine lv_aload_n hx hb dX0_readGroup_26 rfl (lv_at hl 0 rfl) ?_
      obtain ⟨x9, x10, x11, x12, x13, x14, x15, z15, hf⟩ := ob7_el hf
      refine cI_V C hw (c_X0_readBehindBy l E a_pa a_sc a_sh a_dr a_tp pa_itemPlaces pa_waitingSigns pa_waitingPlaces pa_waiting pa_nested x5 x6 x7 x8 sc_numberRead sc_escaped sc_bytesBehind sh_names sh_nameLengths sh_groups sh_types sh_flat sh_size dr_items dr_behindBy dr_steps dr_literalTypes dr_numbers dr_textStarts dr_textLengths dr_textBytes dr_itemCount dr_byCount dr_stepCount dr_literalCount dr_textEnd tp_bytes tp_size x9 x10 x11 x12 x13 x14 x15 z15) cs_X0_165 ⟨Nat.le_of_ble_eq_true rfl, Nat.le_of_ble_eq_true rfl⟩ ⟨rfl, rfl⟩ (ci := 0) (cn := (RX0, TX0, 9)) rfl (q0 := 0) rfl (wn := w_pa_sc_sh_dr_tp E a_pa a_sc a_sh a_dr a_tp pa_itemPlaces pa_waitingSigns pa_waitingPlaces pa_waiting pa_nested x10 x11 x12 x13 sc_numberRead sc_escaped sc_bytesBehind sh_names sh_nameLengths sh_groups sh_types sh_flat sh_size dr_items x14 dr_steps dr_literalTypes dr_numbers dr_textStarts dr_textLengths dr_textBytes dr_itemCount x15 dr_stepCount dr_literalCount dr_textEnd tp_bytes tp_size) (Jn.all _ _) rfl hl.1 rfl (Nat.le_of_ble_eq_true rfl) dX0_readGroup_27 ⟨Nat.zero_le _, Nat.zero_le _⟩ (fun H locs hw => ?_)
      refine lv_if_ne (tgt := 35) hx hb dX0_readGroup_30 (by decide) (fun c30 => ?_) (fun c30 => ?_)
      · replace hf := it_f c30 hf
        exact w_X0_readGroup_35 C hw (lv_sub hl [0] rfl) hf
      · replace hf := it_t c30 hf
        refine lv_iconst (v := 0) hx hb dX0_readGroup_33 (by decide) ?_
        cases hf
        exact rt_z C hw (Or.inl rfl) dX0_readGroup_34
