def f_X0_openTests_2 : Nat → (Int32) → (Nat → Int32) → (Nat → Int32) → (Int32) → (Int32) → (Int32) → (Int32) → (Int32) → (Int32) → (Nat → Int32) → (Int32) → Option ((Int32) × (Nat → Int32) × (Nat → Int32) × (Int32) × (Int32) × (Int32) × (Int32) × (Int32) × (Int32))
  | 0, _, _, _, _, _, _, _, _, _, _, _ => none
  | n + 1, l1, pa_waitingSigns, pa_waitingPlaces, pa_waiting, pa_nested, pa_fault, sc_token, sc_start, sc_end, tp_bytes, tp_size =>
  if (32 : Int32) < l1 then (some ((1 : Int32), pa_waitingSigns, pa_waitingPlaces, pa_waiting, pa_nested, pa_fault, sc_token, sc_start, sc_end))
  else (if sc_token = (6 : Int32) then (if pa_nested < (32 : Int32) then (on (pa_nested + (1 : Int32)) (fun x1 =>
  ob8 (f_X0_await pa_waitingSigns pa_waitingPlaces pa_waiting pa_fault sc_token sc_start sc_end tp_bytes tp_size) (fun x2 x3 x4 x5 x6 x7 x8 x9 =>
  if x2 = (0 : Int32) then (some ((0 : Int32), x3, x4, x5, x1, x6, x7, x8, x9))
  else (on (l1 + (1 : Int32)) (fun x10 =>
  f_X0_openTests_2 n x10 x3 x4 x5 x1 x6 x7 x8 x9 tp_bytes tp_size)))))
  else (ob2 (f_X0_refuse sc_start pa_fault) (fun x11 x12 =>
  gz x11 (some (x11, pa_waitingSigns, pa_waitingPlaces, pa_waiting, pa_nested, x12, sc_token, sc_start, sc_end)))))
  else (if sc_token = (20 : Int32) then (if pa_nested < (32 : Int32) then (on (pa_nested + (1 : Int32)) (fun x13 =>
  ob8 (f_X0_await pa_waitingSigns pa_waitingPlaces pa_waiting pa_fault sc_token sc_start sc_end tp_bytes tp_size) (fun x14 x15 x16 x17 x18 x19 x20 x21 =>
  if x14 = (0 : Int32) then (some ((0 : Int32), x15, x16, x17, x13, x18, x19, x20, x21))
  else (on (l1 + (1 : Int32)) (fun x22 =>
  f_X0_openTests_2 n x22 x15 x16 x17 x13 x18 x19 x20 x21 tp_bytes tp_size)))))
  else (ob2 (f_X0_refuse sc_start pa_fault) (fun x23 x24 =>
  gz x23 (some (x23, pa_waitingSigns, pa_waitingPlaces, pa_waiting, pa_nested, x24, sc_token, sc_start, sc_end)))))
  else (some ((1 : Int32), pa_waitingSigns, pa_waitingPlaces, pa_waiting, pa_nested, pa_fault, sc_token, sc_start, sc_end))))
set_option maxHeartbeats 4000000 in
set_option maxRecDepth 100000 in
theorem w_X0_openTests_2 {p : Program} {l : Launch} {e : Env} {s : State} {m : MethodId} {args : Array Value} {below : List Frame} {meth : Method} {c : Code} {E : EnvT} {A : Nat → Prop} {a_pa : Nat → Nat} {a_sc : Nat → Nat} {a_sh : Nat → Nat} {a_dr : Nat → Nat} {a_tp : Nat → Nat} {pa_itemPlaces : Nat → Int32} {sc_numberRead : Int64} {sc_escaped : Int32} {sc_bytesBehind : Int32} {sh_names : Nat → Int32} {sh_nameLengths : Nat → Int32} {sh_groups : Nat → Int32} {sh_types : Nat → Int32} {sh_flat : Nat → Int32} {sh_size : Int32} {dr_items : Nat → Int32} {dr_behindBy : Nat → Int32} {dr_steps : Nat → Int32} {dr_literalTypes : Nat → Int32} {dr_numbers : Nat → Int64} {dr_textStarts : Nat → Int32} {dr_textLengths : Nat → Int32} {dr_textBytes : Nat → Int32} {dr_itemCount : Int32} {dr_byCount : Int32} {dr_stepCount : Int32} {dr_literalCount : Int32} {dr_textEnd : Int32} {r : Int32} {o_pa_waitingSigns : Nat → Int32} {o_pa_waitingPlaces : Nat → Int32} {o_pa_waiting : Int32} {o_pa_nested : Int32} {o_pa_fault : Int32} {o_sc_token : Int32} {o_sc_start : Int32} {o_sc_end : Int32} (C : MC p s m args meth c E A cX0_openTests 2 RX0 (some .boolean)) : ∀ (n : Nat) {l1 : Int32} {pa_waitingSigns : Nat → Int32} {pa_waitingPlaces : Nat → Int32} {pa_waiting : Int32} {pa_nested : Int32} {pa_fault : Int32} {sc_token : Int32} {sc_start : Int32} {sc_end : Int32} {tp_bytes : Nat → Int32} {tp_size : Int32} {H : Heap} {locs : List Loc} {ls : Array Slot}, WS E A s (w_pa_sc_sh_dr_tp E a_pa a_sc a_sh a_dr a_tp pa_itemPlaces pa_waitingSigns pa_waitingPlaces pa_waiting pa_nested pa_fault sc_token sc_start sc_end sc_numberRead sc_escaped sc_bytesBehind sh_names sh_nameLengths sh_groups sh_types sh_flat sh_size dr_items dr_behindBy dr_steps dr_literalTypes dr_numbers dr_textStarts dr_textLengths dr_textBytes dr_itemCount dr_byCount dr_stepCount dr_literalCount dr_textEnd tp_bytes tp_size) H locs → lv_has ls 2 [(0, .ref (a_pa 0)), (1, .int l1)] → f_X0_openTests_2 n l1 pa_waitingSigns pa_waitingPlaces pa_waiting pa_nested pa_fault sc_token sc_start sc_end tp_bytes tp_size = some (r, o_pa_waitingSigns, o_pa_waitingPlaces, o_pa_waiting, o_pa_nested, o_pa_fault, o_sc_token, o_sc_start, o_sc_end) → W p l e { frames := 7, cells := 0, slots := 0, locals := 150 } s m args below meth c H locs 0 0 (MQ below (QcI E A (w_pa_sc_sh_dr_tp E a_pa a_sc a_sh a_dr a_tp pa_itemPlaces o_pa_waitingSigns o_pa_waitingPlaces o_pa_waiting o_pa_nested o_pa_fault o_sc_token o_sc_start o_sc_end sc_numberRead sc_escaped sc_bytesBehind sh_names sh_nameLengths sh_groups sh_types sh_flat sh_size dr_items dr_behindBy dr_steps dr_literalTypes dr_numbers dr_textStarts dr_textLengths dr_textBytes dr_itemCount dr_byCount dr_stepCount dr_literalCount dr_textEnd tp_bytes tp_size) r) args s 0 0 A) (F0 m 2 ls []) := by
  have hx := C.1
  have hb := C.2.1
  intro n
  induction n with
  | zero =>
    intro l1 pa_waitingSigns pa_waitingPlaces pa_waiting pa_nested pa_fault sc_token sc_start sc_end tp_bytes tp_size H locs ls hw hl hf
    unfold f_X0_openTests_2 at hf
    cases hf
  | succ n ih =>
    intro l1 pa_waitingSigns pa_waitingPlaces pa_waiting pa_nested pa_fault sc_token sc_start sc_end tp_bytes tp_size H locs ls hw hl hf
    unfold f_X0_openTests_2 at hf
    refine lv_iload_n hx hb dX0_openTests_2 rfl (lv_at hl 1 rfl) ?_
    refine lv_bipush (v := 32) hx hb dX0_openTests_3 (by decide) ?_
    refine lv_icmp_gt (tgt := 78) hx hb dX0_openTests_5 (by decide) (fun c5 => ?_) (fun c5 => ?_)
    · replace hf := it_t c5 hf
      refine lv_iconst (v := 1) hx hb dX0_openTests_78 (by decide) ?_
      cases hf
      exact rt_z C hw (Or.inr rfl) dX0_openTests_79
    · replace hf := it_f c5 hf
      refine lv_aload_n hx hb dX0_openTests_8 rfl (lv_at hl 0 rfl) ?_
      refine fg_X0_37 C hw 0 rfl rfl dX0_openTests_9 ?_
      refine fg_X0_51 C hw 4 rfl rfl dX0_openTests_12 ?_
      refine lv_bipush (v := 6) hx hb dX0_openTests_15 (by decide) ?_
      refine lv_icmp_eq (tgt := 32) hx hb dX0_openTests_17 (by decide) (fun c17 => ?_) (fun c17 => ?_)
      · replace hf := it_t c17 hf
        refine lv_aload_n hx hb dX0_openTests_32 rfl (lv_at hl 0 rfl) ?_
        refine fg_X0_107 C hw 0 rfl rfl dX0_openTests_33 ?_
        refine lv_bipush (v := 32) hx hb dX0_openTests_36 (by decide) ?_
        refine lv_icmp_lt (tgt := 53) hx hb dX0_openTests_38 (by decide) (fun c38 => ?_) (fun c38 => ?_)
        · replace hf := it_t c38 hf
          refine lv_aload_n hx hb dX0_openTests_53 rfl (lv_at hl 0 rfl) ?_
          refine lv_dup hx hb dX0_openTests_54 rfl ?_
          refine fg_X0_107 C hw 0 rfl rfl dX0_openTests_55 ?_
          refine lv_iconst (v := 1) hx hb dX0_openTests_58 (by decide) ?_
          refine lv_iadd hx hb dX0_openTests_59 ?_
          obtain ⟨x1, ex1, hf⟩ := on_el hf
          refine tp_i ex1 ?_
          refine fp_X0_107 C hw 0 rfl (Nat.le_of_ble_eq_true rfl) (ws' := w_pa_sc_sh_dr_tp E a_pa a_sc a_sh a_dr a_tp pa_itemPlaces pa_waitingSigns pa_waitingPlaces pa_waiting x1 pa_fault sc_token sc_start sc_end sc_numberRead sc_escaped sc_bytesBehind sh_names sh_nameLengths sh_groups sh_types sh_flat sh_size dr_items dr_behindBy dr_steps dr_literalTypes dr_numbers dr_textStarts dr_textLengths dr_textBytes dr_itemCount dr_byCount dr_stepCount dr_literalCount dr_textEnd tp_bytes tp_size) rfl dX0_openTests_60 (fun H locs hw => ?_)
          refine lv_aload_n hx hb dX0_openTests_63 rfl (lv_at hl 0 rfl) ?_
          obtain ⟨x2, x3, x4, x5, x6, x7, x8, x9, z9, hf⟩ := ob8_el hf
          refine cI_V C hw (c_X0_await l E a_pa a_sc a_sh a_dr a_tp pa_itemPlaces pa_waitingSigns pa_waitingPlaces pa_waiting x1 pa_fault sc_token sc_start sc_end sc_numberRead sc_escaped sc_bytesBehind sh_names sh_nameLengths sh_groups sh_types sh_flat sh_size dr_items dr_behindBy dr_steps dr_literalTypes dr_numbers dr_textStarts dr_textLengths dr_textBytes dr_itemCount dr_byCount dr_stepCount dr_literalCount dr_textEnd tp_bytes tp_size x2 x3 x4 x5 x6 x7 x8 x9 z9) cs_X0_119 ⟨Nat.le_of_ble_eq_true rfl, Nat.le_of_ble_eq_true rfl⟩ ⟨rfl, rfl⟩ (ci := 0) (cn := (RX0, TX0, 9)) rfl (q0 := 0) rfl (wn := w_pa_sc_sh_dr_tp E a_pa a_sc a_sh a_dr a_tp pa_itemPlaces x3 x4 x5 x1 x6 x7 x8 x9 sc_numberRead sc_escaped sc_bytesBehind sh_names sh_nameLengths sh_groups sh_types sh_flat sh_size dr_items dr_behindBy dr_steps dr_literalTypes dr_numbers dr_textStarts dr_textLengths dr_textBytes dr_itemCount dr_byCount dr_stepCount dr_literalCount dr_textEnd tp_bytes tp_size) (Jn.all _ _) rfl hl.1 rfl (Nat.le_of_ble_eq_true rfl) dX0_openTests_64 ⟨Nat.zero_le _, Nat.zero_le _⟩ (fun H locs hw => ?_)
          refine lv_if_ne (tgt := 72) hx hb dX0_openTests_67 (by decide) (fun c67 => ?_) (fun c67 => ?_)
          · replace hf := it_f c67 hf
            obtain ⟨x10, ex10, hf⟩ := on_el hf
            refine lv_iinc (v := x10) (lv' := [(1, .int x10), (0, .ref (a_pa 0))]) hx hb dX0_openTests_72 hl (k := 1) rfl (by rw [← ex10]; rfl) (by decide) rfl (fun ls hl => ?_)
            refine lv_goto (tgt := 2) hx hb dX0_openTests_75 (by decide) ?_
            exact ih hw (lv_sub hl [1, 0] rfl) hf
          · replace hf := it_t c67 hf
            refine lv_iconst (v := 0) hx hb dX0_openTests_70 (by decide) ?_
            cases hf
            exact rt_z C hw (Or.inl rfl) dX0_openTests_71
        · replace hf := it_f c38 hf
          refine lv_aload_n hx hb dX0_openTests_41 rfl (lv_at hl 0 rfl) ?_
          refine lv_aload_n hx hb dX0_openTests_42 rfl (lv_at hl 0 rfl) ?_
          refine fg_X0_37 C hw 0 rfl rfl dX0_openTests_43 ?_
          refine fg_X0_54 C hw 4 rfl rfl dX0_openTests_46 ?_
          obtain ⟨x11, x12, z12, hf⟩ := ob2_el hf
          refine cI_V C hw (c_X0_refuse l E a_pa a_sc a_sh a_dr a_tp pa_itemPlaces pa_waitingSigns pa_waitingPlaces pa_waiting pa_nested pa_fault sc_token sc_start sc_end sc_numberRead sc_escaped sc_bytesBehind sh_names sh_nameLengths sh_groups sh_types sh_flat sh_size dr_items dr_behindBy dr_steps dr_literalTypes dr_numbers dr_textStarts dr_textLengths dr_textBytes dr_itemCount dr_byCount dr_stepCount dr_literalCount dr_textEnd tp_bytes tp_size sc_start x11 x12 z12) cs_X0_57 ⟨Nat.le_of_ble_eq_true rfl, Nat.le_of_ble_eq_true rfl⟩ ⟨rfl, rfl⟩ (ci := 0) (cn := (RX0, TX0, 9)) rfl (q0 := 0) rfl (wn := w_pa_sc_sh_dr_tp E a_pa a_sc a_sh a_dr a_tp pa_itemPlaces pa_waitingSigns pa_waitingPlaces pa_waiting pa_nested x12 sc_token sc_start sc_end sc_numberRead sc_escaped sc_bytesBehind sh_names sh_nameLengths sh_groups sh_types sh_flat sh_size dr_items dr_behindBy dr_steps dr_literalTypes dr_numbers dr_textStarts dr_textLengths dr_textBytes dr_itemCount dr_byCount dr_stepCount dr_literalCount dr_textEnd tp_bytes tp_size) (Jn.all _ _) rfl hl.1 rfl (Nat.le_of_ble_eq_true rfl) dX0_openTests_49 ⟨Nat.zero_le _, Nat.zero_le _⟩ (fun H locs hw => ?_)
          obtain ⟨hz, hf⟩ := gz_el hf
          cases hf
          exact rt_z C hw hz dX0_openTests_52
      · replace hf := it_f c17 hf
        refine lv_aload_n hx hb dX0_openTests_20 rfl (lv_at hl 0 rfl) ?_
        refine fg_X0_37 C hw 0 rfl rfl dX0_openTests_21 ?_
        refine fg_X0_51 C hw 4 rfl rfl dX0_openTests_24 ?_
        refine lv_bipush (v := 20) hx hb dX0_openTests_27 (by decide) ?_
        refine lv_icmp_ne (tgt := 78) hx hb dX0_openTests_29 (by decide) (fun c29 => ?_) (fun c29 => ?_)
        · replace hf := it_f c29 hf
          refine lv_iconst (v := 1) hx hb dX0_openTests_78 (by decide) ?_
          cases hf
          exact rt_z C hw (Or.inr rfl) dX0_openTests_79
        · replace hf := it_t c29 hf
          refine lv_aload_n hx hb dX0_openTests_32 rfl (lv_at hl 0 rfl) ?_
          refine fg_X0_107 C hw 0 rfl rfl dX0_openTests_33 ?_
          refine lv_bipush (v := 32) hx hb dX0_openTests_36 (by decide) ?_
          refine lv_icmp_lt (tgt := 53) hx hb dX0_openTests_38 (by decide) (fun c38 => ?_) (fun c38 => ?_)
          · replace hf := it_t c38 hf
            refine lv_aload_n hx hb dX0_openTests_53 rfl (lv_at hl 0 rfl) ?_
            refine lv_dup hx hb dX0_openTests_54 rfl ?_
            refine fg_X0_107 C hw 0 rfl rfl dX0_openTests_55 ?_
            refine lv_iconst (v := 1) hx hb dX0_openTests_58 (by decide) ?_
            refine lv_iadd hx hb dX0_openTests_59 ?_
            obtain ⟨x13, ex13, hf⟩ := on_el hf
            refine tp_i ex13 ?_
            refine fp_X0_107 C hw 0 rfl (Nat.le_of_ble_eq_true rfl) (ws' := w_pa_sc_sh_dr_tp E a_pa a_sc a_sh a_dr a_tp pa_itemPlaces pa_waitingSigns pa_waitingPlaces pa_waiting x13 pa_fault sc_token sc_start sc_end sc_numberRead sc_escaped sc_bytesBehind sh_names sh_nameLengths sh_groups sh_types sh_flat sh_size dr_items dr_behindBy dr_steps dr_literalTypes dr_numbers dr_textStarts dr_textLengths dr_textBytes dr_itemCount dr_byCount dr_stepCount dr_literalCount dr_textEnd tp_bytes tp_size) rfl dX0_openTests_60 (fun H locs hw => ?_)
            refine lv_aload_n hx hb dX0_openTests_63 rfl (lv_at hl 0 rfl) ?_
            obtain ⟨x14, x15, x16, x17, x18, x19, x20, x21, z21, hf⟩ := ob8_el hf
            refine cI_V C hw (c_X0_await l E a_pa a_sc a_sh a_dr a_tp pa_itemPlaces pa_waitingSigns pa_waitingPlaces pa_waiting x13 pa_fault sc_token sc_start sc_end sc_numberRead sc_escaped sc_bytesBehind sh_names sh_nameLengths sh_groups sh_types sh_flat sh_size dr_items dr_behindBy dr_steps dr_literalTypes dr_numbers dr_textStarts dr_textLengths dr_textBytes dr_itemCount dr_byCount dr_stepCount dr_literalCount dr_textEnd tp_bytes tp_size x14 x15 x16 x17 x18 x19 x20 x21 z21) cs_X0_119 ⟨Nat.le_of_ble_eq_true rfl, Nat.le_of_ble_eq_true rfl⟩ ⟨rfl, rfl⟩ (ci := 0) (cn := (RX0, TX0, 9)) rfl (q0 := 0) rfl (wn := w_pa_sc_sh_dr_tp E a_pa a_sc a_sh a_dr a_tp pa_itemPlaces x15 x16 x17 x13 x18 x19 x20 x21 sc_numberRead sc_escaped sc_bytesBehind sh_names sh_nameLengths sh_groups sh_types sh_flat sh_size dr_items dr_behindBy dr_steps dr_literalTypes dr_numbers dr_textStarts dr_textLengths dr_textBytes dr_itemCount dr_byCount dr_stepCount dr_literalCount dr_textEnd tp_bytes tp_size) (Jn.all _ _) rfl hl.1 rfl (Nat.le_of_ble_eq_true rfl) dX0_openTests_64 ⟨Nat.zero_le _, Nat.zero_le _⟩ (fun H locs hw => ?_)
            refine lv_if_ne (tgt := 72) hx hb dX0_openTests_67 (by decide) (fun c67 => ?_) (fun c67 => ?_)
            · replace hf := it_f c67 hf
              obtain ⟨x22, ex22, hf⟩ := on_el hf
              refine lv_iinc (v := x22) (lv' := [(1, .int x22), (0, .ref (a_pa 0))]) hx hb dX0_openTests_72 hl (k := 1) rfl (by rw [← ex22]; rfl) (by decide) rfl (fun ls hl => ?_)
              refine lv_goto (tgt := 2) hx hb dX0_openTests_75 (by decide) ?_
              exact ih hw (lv_sub hl [1, 0] rfl) hf
            · replace hf := it_t c67 hf
              refine lv_iconst (v := 0) hx hb dX0_openTests_70 (by decide) ?_
              cases hf
              exact rt_z C hw (Or.inl rfl) dX0_openTests_71
          · replace hf := it_f c38 hf
            refine lv_aload_n hx hb dX0_openTests_41 rfl (lv_at hl 0 rfl) ?_
            refine lv_aload_n hx hb dX0_openTests_42 rfl (lv_at hl 0 rfl) ?_
            refine fg_X0_37 C hw 0 rfl rfl dX0_openTests_43 ?_
            refine fg_X0_54 C hw 4 rfl rfl dX0_openTests_46 ?_
            obtain ⟨x23, x24, z24, hf⟩ := ob2_el hf
            refine cI_V C hw (c_X0_refuse l E a_pa a_sc a_sh a_dr a_tp pa_itemPlaces pa_waitingSigns pa_waitingPlaces pa_waiting pa_nested pa_fault sc_token sc_start sc_end sc_numberRead sc_escaped sc_bytesBehind sh_names sh_nameLengths sh_groups sh_types sh_flat sh_size dr_items dr_behindBy dr_steps dr_literalTypes dr_numbers dr_textStarts dr_textLengths dr_textBytes dr_itemCount dr_byCount dr_stepCount dr_literalCount dr_textEnd tp_bytes tp_size sc_start x23 x24 z24) cs_X0_57 ⟨Nat.le_of_ble_eq_true rfl, Nat.le_of_ble_eq_true rfl⟩ ⟨rfl, rfl⟩ (ci := 0) (cn := (RX0, TX0, 9)) rfl (q0 := 0) rfl (wn := w_pa_sc_sh_dr_tp E a_pa a_sc a_sh a_dr a_tp pa_itemPlaces pa_waitingSigns pa_waitingPlaces pa_waiting pa_nested x24 sc_token sc_start sc_end sc_numberRead sc_escaped sc_bytesBehind sh_names sh_nameLengths sh_groups sh_types sh_flat sh_size dr_items dr_behindBy dr_steps dr_literalTypes dr_numbers dr_textStarts dr_textLengths dr_textBytes dr_itemCount dr_byCount dr_stepCount dr_literalCount dr_textEnd tp_bytes tp_size) (Jn.all _ _) rfl hl.1 rfl (Nat.le_of_ble_eq_true rfl) dX0_openTests_49 ⟨Nat.zero_le _, Nat.zero_le _⟩ (fun H locs hw => ?_)
            obtain ⟨hz, hf⟩ := gz_el hf
            cases hf
            exact rt_z C hw hz dX0_openTests_52
def f_X0_openTests (pa_waitingSigns : Nat → Int32) (pa_waitingPlaces : Nat → Int32) (pa_waiting : Int32) (pa_nested : Int32) (pa_fault : Int32) (sc_token : Int32) (sc_start : Int32) (sc_end : Int32) (tp_bytes : Nat → Int32) (tp_size : Int32) : Option ((Int32) × (Nat → Int32) × (Nat → Int32) × (Int32) × (Int32) × (Int32) × (Int32) × (Int32) × (Int32)) :=
  f_X0_openTests_2 FU (0 : Int32) pa_waitingSigns pa_waitingPlaces pa_waiting pa_nested pa_fault sc_token sc_start sc_end tp_bytes tp_size
set_option maxHeartbeats 4000000 in
set_option maxRecDepth 100000 in
theorem c_X0_openTests (l : Launch) (E : EnvT) (a_pa : Nat → Nat) (a_sc : Nat → Nat) (a_sh : Nat → Nat) (a_dr : Nat → Nat) (a_tp : Nat → Nat) (pa_itemPlaces : Nat → Int32) (pa_waitingSigns : Nat → Int32) (pa_waitingPlaces : Nat → Int32) (pa_waiting : Int32) (pa_nested : Int32) (pa_fault : Int32) (sc_token : Int32) (sc_start : Int32) (sc_end : Int32) (sc_numberRead : Int64) (sc_escaped : Int32) (sc_bytesBehind : Int32) (sh_names : Nat → Int32) (sh_nameLengths : Nat → Int32) (sh_groups : Nat → Int32) (sh_types : Nat → Int32) (sh_flat : Nat → Int32) (sh_size : Int32) (dr_items : Nat → Int32) (dr_behindBy : Nat → Int32) (dr_steps : Nat → Int32) (dr_literalTypes : Nat → Int32) (dr_numbers : Nat → Int64) (dr_textStarts : Nat → Int32) (dr_textLengths : Nat → Int32) (dr_textBytes : Nat → Int32) (dr_itemCount : Int32) (dr_byCount : Int32) (dr_stepCount : Int32) (dr_literalCount : Int32) (dr_textEnd : Int32) (tp_bytes : Nat → Int32) (tp_size : Int32) (r : Int32) (o_pa_waitingSigns : Nat → Int32) (o_pa_waitingPlaces : Nat → Int32) (o_pa_waiting : Int32) (o_pa_nested : Int32) (o_pa_fault : Int32) (o_sc_token : Int32) (o_sc_start : Int32) (o_sc_end : Int32) (hf : f_X0_openTests pa_waitingSigns pa_waitingPlaces pa_waiting pa_nested pa_fault sc_token sc_start sc_end tp_bytes tp_size = some (r, o_pa_waitingSigns, o_pa_waitingPlaces, o_pa_waiting, o_pa_nested, o_pa_fault, o_sc_token, o_sc_start, o_sc_end)) : CI l yX0_openTests (Cond.code yX0_openTests cX0_openTests 2 (some .boolean)) { frames := 7, cells := 0, slots := 0, locals := 150 } E [.ref (a_pa 0)] (w_pa_sc_sh_dr_tp E a_pa a_sc a_sh a_dr a_tp pa_itemPlaces pa_waitingSigns pa_waitingPlaces pa_waiting pa_nested pa_fault sc_token sc_start sc_end sc_numberRead sc_escaped sc_bytesBehind sh_names sh_nameLengths sh_groups sh_types sh_flat sh_size dr_items dr_behindBy dr_steps dr_literalTypes dr_numbers dr_textStarts dr_textLengths dr_textBytes dr_itemCount dr_byCount dr_stepCount dr_literalCount dr_textEnd tp_bytes tp_size) r (w_pa_sc_sh_dr_tp E a_pa a_sc a_sh a_dr a_tp pa_itemPlaces o_pa_waitingSigns o_pa_waitingPlaces o_pa_waiting o_pa_nested o_pa_fault o_sc_token o_sc_start o_sc_end sc_numberRead sc_escaped sc_bytesBehind sh_names sh_nameLengths sh_groups sh_types sh_flat sh_size dr_items dr_behindBy dr_steps dr_literalTypes dr_numbers dr_textStarts dr_textLengths dr_textBytes dr_itemCount dr_byCount dr_stepCount dr_literalCount dr_textEnd tp_bytes tp_size) := by
  intro sz
  refine met_start [(0, .ref (a_pa 0))] (by decide) rfl rfl (Nat.le_of_ble_eq_true rfl) rfl ?_
  intro p e s m below meth c ls C hnm hmt hw hl
  have hx := C.1
  have hb := C.2.1
  generalize va_A (w_pa_sc_sh_dr_tp E a_pa a_sc a_sh a_dr a_tp pa_itemPlaces pa_waitingSigns pa_waitingPlaces pa_waiting pa_nested pa_fault sc_token sc_start sc_end sc_numberRead sc_escaped sc_bytesBehind sh_names sh_nameLengths sh_groups sh_types sh_flat sh_size dr_items dr_behindBy dr_steps dr_literalTypes dr_numbers dr_textStarts dr_textLengths dr_textBytes dr_itemCount dr_byCount dr_stepCount dr_literalCount dr_textEnd tp_bytes tp_size) sz = A at C hw ⊢
  unfold f_X0_openTests at hf
  refine lv_iconst (v := 0) hx hb dX0_openTests_0 (by decide) ?_
  refine lv_istore_n (lv' := [(1, .int (0 : Int32)), (0, .ref (a_pa 0))]) hx hb dX0_openTests_1 rfl hl (by decide) rfl (fun ls hl => ?_)
  exact w_X0_openTests_2 C FU hw (lv_sub hl [1, 0] rfl) hf
def f_X0_readIsNull_30 (l1 : Int32) (l2 : Int32) (l3 : Int32) (pa_fault : Int32) (sc_token : Int32) (sc_start : Int32) (sc_end : Int32) (dr_steps : Nat → Int32) (dr_stepCount : Int32) (tp_bytes : Nat → Int32) (tp_size : Int32) : Option ((Int32) × (Int32) × (Int32) × (Int32) × (Int32) × (Nat → Int32) × (Int32)) :=
  ob5 (f_X0_take (8 : Int32) pa_fault sc_token sc_start sc_end tp_bytes tp_size) (fun x1 x2 x3 x4 x5 =>
  if x1 = (0 : Int32) then (some ((0 : Int32), x2, x3, x4, x5, dr_steps, dr_stepCount))
  else (ob3 (f_X1_addStep l3 l1 (-1 : Int32) (-1 : Int32) (0 : Int32) dr_steps dr_stepCount) (fun x6 x7 x8 =>
  if x6 = (0 : Int32) then (ob2 (f_X0_refuse l2 x2) (fun x9 x10 =>
  if x9 = (0 : Int32) then (some ((0 : Int32), x10, x3, x4, x5, x7, x8))
  else (some ((1 : Int32), x10, x3, x4, x5, x7, x8))))
  else (some ((1 : Int32), x2, x3, x4, x5, x7, x8)))))
set_option maxHeartbeats 4000000 in
set_option maxRecDepth 100000 in
theorem w_X0_readIsNull_30 {p : Program} {l : Launch} {e : Env} {s : State} {m : MethodId} {args : Array Value} {below : List Frame} {meth : Method} {c : Code} {E : EnvT} {A : Nat → Prop} {a_pa : Nat → Nat} {a_sc : Nat → Nat} {a_sh : Nat → Nat} {a_dr : Nat → Nat} {a_tp : Nat → Nat} {pa_itemPlaces : Nat → Int32} {pa_waitingSigns : Nat → Int32} {pa_waitingPlaces : Nat → Int32} {pa_waiting : Int32} {pa_nested : Int32} {sc_numberRead : Int64} {sc_escaped : Int32} {sc_bytesBehind : Int32} {sh_names : Nat → Int32} {sh_nameLengths : Nat → Int32} {sh_groups : Nat → Int32} {sh_types : Nat → Int32} {sh_flat : Nat → Int32} {sh_size : Int32} {dr_items : Nat → Int32} {dr_behindBy : Nat → Int32} {dr_literalTypes : Nat → Int32} {dr_numbers : Nat → Int64} {dr_textStarts : Nat → Int32} {dr_textLengths : Nat → Int32} {dr_textBytes : Nat → Int32} {dr_itemCount : Int32} {dr_byCount : Int32} {dr_literalCount : Int32} {dr_textEnd : Int32} {r : Int32} {o_pa_fault : Int32} {o_sc_token : Int32} {o_sc_start : Int32} {o_sc_end : Int32} {o_dr_steps : Nat → Int32} {o_dr_stepCount : Int32} {l1 : Int32} {l2 : Int32} {l3 : Int32} {pa_fault : Int32} {sc_token : Int32} {sc_start : Int32} {sc_end : Int32} {dr_steps : Nat → Int32} {dr_stepCount : Int32} {tp_bytes : Nat → Int32} {tp_size : Int32} {H : Heap} {locs : List Loc} {ls : Array Slot} (C : MC p s m args meth c E A cX0_readIsNull 4 RX0 (some .boolean)) (hw : WS E A s (w_pa_sc_sh_dr_tp E a_pa a_sc a_sh a_dr a_tp pa_itemPlaces pa_waitingSigns pa_waitingPlaces pa_waiting pa_nested pa_fault sc_token sc_start sc_end sc_numberRead sc_escaped sc_bytesBehind sh_names sh_nameLengths sh_groups sh_types sh_flat sh_size dr_items dr_behindBy dr_steps dr_literalTypes dr_numbers dr_textStarts dr_textLengths dr_textBytes dr_itemCount dr_byCount dr_stepCount dr_literalCount dr_textEnd tp_bytes tp_size) H locs) (hl : lv_has ls 4 [(0, .ref (a_pa 0)), (1, .int l1), (2, .int l2), (3, .int l3)]) (hf : f_X0_readIsNull_30 l1 l2 l3 pa_fault sc_token sc_start sc_end dr_steps dr_stepCount tp_bytes tp_size = some (r, o_pa_fault, o_sc_token, o_sc_start, o_sc_end, o_dr_steps, o_dr_stepCount)) : W p l e { frames := 7, cells := 0, slots := 0, locals := 151 } s m args below meth c H locs 0 0 (MQ below (QcI E A (w_pa_sc_sh_dr_tp E a_pa a_sc a_sh a_dr a_tp pa_itemPlaces pa_waitingSigns pa_waitingPlaces pa_waiting pa_nested o_pa_fault o_sc_token o_sc_start o_sc_end sc_numberRead sc_escaped sc_bytesBehind sh_names sh_nameLengths sh_groups sh_types sh_flat sh_size dr_items dr_behindBy o_dr_steps dr_literalTypes dr_numbers dr_textStarts dr_textLengths dr_textBytes dr_itemCount dr_byCount o_dr_stepCount dr_literalCount dr_textEnd tp_bytes tp_size) r) args s 0 0 A) (F0 m 30 ls []) := by
  have hx := C.1
  have hb := C.2.1
  unfold f_X0_readIsNull_30 at hf
  refine lv_aload_n hx hb dX0_readIsNull_30 rfl (lv_at hl 0 rfl) ?_
  refine lv_bipush (v := 8) hx hb dX0_readIsNull_31 (by decide) ?_
  obtain ⟨x1, x2, x3, x4, x5, z5, hf⟩ := ob5_el hf
  refine cI_V C hw (c_X0_take l E a_pa a_sc a_sh a_dr a_tp pa_itemPlaces pa_waitingSigns pa_waitingPlaces pa_waiting pa_nested pa_fault sc_token sc_start sc_end sc_numberRead sc_escaped sc_bytesBehind sh_names sh_nameLengths sh_groups sh_types sh_flat sh_size dr_items dr_behindBy dr_steps dr_literalTypes dr_numbers dr_textStarts dr_textLengths dr_textBytes dr_itemCount dr_byCount dr_stepCount dr_literalCount dr_textEnd tp_bytes tp_size (8 : Int32) x1 x2 x3 x4 x5 z5) cs_X0_64 ⟨Nat.le_of_ble_eq_true rfl, Nat.le_of_ble_eq_true rfl⟩ ⟨rfl, rfl⟩ (ci := 0) (cn := (RX0, TX0, 9)) rfl (q0 := 0) rfl (wn := w_pa_sc_sh_dr_tp E a_pa a_sc a_sh a_dr a_tp pa_itemPlaces pa_waitingSigns pa_waitingPlaces pa_waiting pa_nested x2 x3 x4 x5 sc_numberRead sc_escaped sc_bytesBehind sh_names sh_nameLengths sh_groups sh_types sh_flat sh_size dr_items dr_behindBy dr_steps dr_literalTypes dr_numbers dr_textStarts dr_textLengths dr_textBytes dr_itemCount dr_byCount dr_stepCount dr_literalCount dr_textEnd tp_bytes tp_size) (Jn.all _ _) rfl hl.1 rfl (Nat.le_of_ble_eq_true rfl) dX0_readIsNull_33 ⟨Nat.zero_le _, Nat.zero_le _⟩ (fun H locs hw => ?_)
  refine lv_if_eq (tgt := 66) hx hb dX0_readIsNull_36 (by decide) (fun c36 => ?_) (fun c36 => ?_)
  · replace hf := it_t c36 hf
    refine lv_iconst (v := 0) hx hb dX0_readIsNull_66 (by decide) ?_
    cases hf
    exact rt_z C hw (Or.inl rfl) dX0_readIsNull_67
  · replace hf := it_f c36 hf
    refine lv_aload_n hx hb dX0_readIsNull_39 rfl (lv_at hl 0 rfl) ?_
    refine fg_X0_12 C hw 0 rfl rfl dX0_readIsNull_40 ?_
    refine lv_iload_n hx hb dX0_readIsNull_43 rfl (lv_at hl 3 rfl) ?_
    refine lv_iload_n hx hb dX0_readIsNull_44 rfl (lv_at hl 1 rfl) ?_
    refine lv_iconst (v := -1) hx hb dX0_readIsNull_45 (by decide) ?_
    refine lv_iconst (v := -1) hx hb dX0_readIsNull_46 (by decide) ?_
    refine lv_iconst (v := 0) hx hb dX0_readIsNull_47 (by decide) ?_
    obtain ⟨x6, x7, x8, z8, hf⟩ := ob3_el hf
    refine cI_V C hw (c_X1_addStep l E a_dr dr_items dr_behindBy dr_steps dr_literalTypes dr_numbers dr_textStarts dr_textLengths dr_textBytes dr_itemCount dr_byCount dr_stepCount dr_literalCount dr_textEnd l3 l1 (-1 : Int32) (-1 : Int32) (0 : Int32) x6 x7 x8 z8) cs_X0_125 ⟨Nat.le_of_ble_eq_true rfl, Nat.le_of_ble_eq_true rfl⟩ ⟨rfl, rfl⟩ (ci := 1) (cn := (RX1, TX1, 13)) rfl (q0 := 11) rfl (wn := w_pa_sc_sh_dr_tp E a_pa a_sc a_sh a_dr a_tp pa_itemPlaces pa_waitingSigns pa_waitingPlaces pa_waiting pa_nested x2 x3 x4 x5 sc_numberRead sc_escaped sc_bytesBehind sh_names sh_nameLengths sh_groups sh_types sh_flat sh_size dr_items dr_behindBy x7 dr_literalTypes dr_numbers dr_textStarts dr_textLengths dr_textBytes dr_itemCount dr_byCount x8 dr_literalCount dr_textEnd tp_bytes tp_size) ⟨[11, 12, 13, 14, 15, 16, 17, 18, 19], [0, 1, 2, 3, 4, 5, 6, 7, 8, 9, 10, 20, 21], [0, 1, 2, 3, 4, 5, 6, 7, 8, 9, 10, 13, 14, 15, 16, 17, 18, 19, 20, 21, 11, 12], rfl, rfl, rfl, rfl, by decide, rfl, rfl⟩ rfl hl.1 rfl (Nat.le_of_ble_eq_true rfl) dX0_readIsNull_48 ⟨Nat.zero_le _, Nat.zero_le _⟩ (fun H locs hw => ?_)
    refine lv_if_ne (tgt := 62) hx hb dX0_readIsNull_51 (by decide) (fun c51 => ?_) (fun c51 => ?_)
    · replace hf := it_f c51 hf
      refine lv_iconst (v := 1) hx hb dX0_readIsNull_62 (by decide) ?_
      refine lv_goto (tgt := 67) hx hb dX0_readIsNull_63 (by decide) ?_
      cases hf
      exact rt_z C hw (Or.inr rfl) dX0_readIsNull_67
    · replace hf := it_t c51 hf
      refine lv_aload_n hx hb dX0_readIsNull_54 rfl (lv_at hl 0 rfl) ?_
      refine lv_iload_n hx hb dX0_readIsNull_55 rfl (lv_at hl 2 rfl) ?_
      obtain ⟨x9, x10, z10, hf⟩ := ob2_el hf
      refine cI_V C hw (c_X0_refuse l E a_pa a_sc a_sh a_dr a_tp pa_itemPlaces pa_waitingSigns pa_waitingPlaces pa_waiting pa_nested x2 x3 x4 x5 sc_numberRead sc_escaped sc_bytesBehind sh_names sh_nameLengths sh_groups sh_types sh_flat sh_size dr_items dr_behindBy x7 dr_literalTypes dr_numbers dr_textStarts dr_textLengths dr_textBytes dr_itemCount dr_byCount x8 dr_literalCount dr_textEnd tp_bytes tp_size l2 x9 x10 z10) cs_X0_57 ⟨Nat.le_of_ble_eq_true rfl, Nat.le_of_ble_eq_true rfl⟩ ⟨rfl, rfl⟩ (ci := 0) (cn := (RX0, TX0, 9)) rfl (q0 := 0) rfl (wn := w_pa_sc_sh_dr_tp E a_pa a_sc a_sh a_dr a_tp pa_itemPlaces pa_waitingSigns pa_waitingPlaces pa_waiting pa_nested x10 x3 x4 x5 sc_numberRead sc_escaped sc_bytesBehind sh_names sh_nameLengths sh_groups sh_types sh_flat sh_size dr_items dr_behindBy x7 dr_literalTypes dr_numbers dr_textStarts dr_textLengths dr_textBytes dr_itemCount dr_byCount x8 dr_literalCount dr_textEnd tp_bytes tp_size) (Jn.all _ _) rfl hl.1 rfl (Nat.le_of_ble_eq_true rfl) dX0_readIsNull_56 ⟨Nat.zero_le _, Nat.zero_le _⟩ (fun H locs hw => ?_)
      refine lv_if_eq (tgt := 66) hx hb dX0_readIsNull_59 (by decide) (fun c59 => ?_) (fun c59 => ?_)
      · replace hf := it_t c59 hf
        refine lv_iconst (v := 0) hx hb dX0_readIsNull_66 (by decide) ?_
        cases hf
        exact rt_z C hw (Or.inl rfl) dX0_readIsNull_67
      · replace hf := it_f c59 hf
        refine lv_iconst (v := 1) hx hb dX0_readIsNull_62 (by decide) ?_
        refine lv_goto (tgt := 67) hx hb dX0_readIsNull_63 (by decide) ?_
        cases hf
        exact rt_z C hw (Or.inr rfl) dX0_readIsNull_67
def f_X0_readIsNull (p1 : Int32) (p2 : Int32) (pa_fault : Int32) (sc_token : Int32) (sc_start : Int32) (sc_end : Int32) (dr_steps : Nat → Int32) (dr_stepCount : Int32) (tp_bytes : Nat → Int32) (tp_size : Int32) : Option ((Int32) × (Int32) × (Int32) × (Int32) × (Int32) × (Nat → Int32) × (Int32)) :=
  ob3 (f_X2_advance sc_token sc_start sc_end tp_bytes tp_size) (fun x1 x2 x3 =>
  if x1 = (6 : Int32) then (ob3 (f_X2_advance x1 x2 x3 tp_bytes tp_size) (fun x4 x5 x6 =>
  f_X0_readIsNull_30 p1 p2 (1 : Int32) pa_fault x4 x5 x6 dr_steps dr_stepCount tp_bytes tp_size))
  else (f_X0_readIsNull_30 p1 p2 (0 : Int32) pa_fault x1 x2 x3 dr_steps dr_stepCount tp_bytes tp_size))
set_option maxHeartbeats 4000000 in
set_option maxRecDepth 100000 in
theorem c_X0_readIsNull (l : Launch) (E : EnvT) (a_pa : Nat → Nat) (a_sc : Nat → Nat) (a_sh : Nat → Nat) (a_dr : Nat → Nat) (a_tp : Nat → Nat) (pa_itemPlaces : Nat → Int32) (pa_waitingSigns : Nat → Int32) (pa_waitingPlaces : Nat → Int32) (pa_waiting : Int32) (pa_nested : Int32) (pa_fault : Int32) (sc_token : Int32) (sc_start : Int32) (sc_end : Int32) (sc_numberRead : Int64) (sc_escaped : Int32) (sc_bytesBehind : Int32) (sh_names : Nat → Int32) (sh_nameLengths : Nat → Int32) (sh_groups : Nat → Int32) (sh_types : Nat → Int32) (sh_flat : Nat → Int32) (sh_size : Int32) (dr_items : Nat → Int32) (dr_behindBy : Nat → Int32) (dr_steps : Nat → Int32) (dr_literalTypes : Nat → Int32) (dr_numbers : Nat → Int64) (dr_textStarts : Nat → Int32) (dr_textLengths : Nat → Int32) (dr_textBytes : Nat → Int32) (dr_itemCount : Int32) (dr_byCount : Int32) (dr_stepCount : Int32) (dr_literalCount : Int32) (dr_textEnd : Int32) (tp_bytes : Nat → Int32) (tp_size : Int32) (p1 : Int32) (p2 : Int32) (r : Int32) (o_pa_fault : Int32) (o_sc_token : Int32) (o_sc_start : Int32) (o_sc_end : Int32) (o_dr_steps : Nat → Int32) (o_dr_stepCount : Int32) (hf : f_X0_readIsNull p1 p2 pa_fault sc_token sc_start sc_end dr_steps dr_stepCount tp_bytes tp_size = some (r, o_pa_fault, o_sc_token, o_sc_start, o_sc_end, o_dr_steps, o_dr_stepCount)) : CI l yX0_readIsNull (Cond.code yX0_readIsNull cX0_readIsNull 4 (some .boolean)) { frames := 7, cells := 0, slots := 0, locals := 151 } E [.ref (a_pa 0), .int p1, .int p2] (w_pa_sc_sh_dr_tp E a_pa a_sc a_sh a_dr a_tp pa_itemPlaces pa_waitingSigns pa_waitingPlaces pa_waiting pa_nested pa_fault sc_token sc_start sc_end sc_numberRead sc_escaped sc_bytesBehind sh_names sh_nameLengths sh_groups sh_types sh_flat sh_size dr_items dr_behindBy dr_steps dr_literalTypes dr_numbers dr_textStarts dr_textLengths dr_textBytes dr_itemCount dr_byCount dr_stepCount dr_literalCount dr_textEnd tp_bytes tp_size) r (w_pa_sc_sh_dr_tp E a_pa a_sc a_sh a_dr a_tp pa_itemPlaces pa_waitingSigns pa_waitingPlaces pa_waiting pa_nested o_pa_fault o_sc_token o_sc_start o_sc_end sc_numberRead sc_escaped sc_bytesBehind sh_names sh_nameLengths sh_groups sh_types sh_flat sh_size dr_items dr_behindBy o_dr_steps dr_literalTypes dr_numbers dr_textStarts dr_textLengths dr_textBytes dr_itemCount dr_byCount o_dr_stepCount dr_literalCount dr_textEnd tp_bytes tp_size) := by
  intro sz
  refine met_start [(0, .ref (a_pa 0)), (1, .int p1), (2, .int p2)] (by decide) rfl rfl (Nat.le_of_ble_eq_true rfl) rfl ?_
  intro p e s m below meth c ls C hnm hmt hw hl
  have hx := C.1
  have hb := C.2.1
  generalize va_A (w_pa_sc_sh_dr_tp E a_pa a_sc a_sh a_dr a_tp pa_itemPlaces pa_waitingSigns pa_waitingPlaces pa_waiting pa_nested pa_fault sc_token sc_start sc_end sc_numberRead sc_escaped sc_bytesBehind sh_names sh_nameLengths sh_groups sh_types sh_flat sh_size dr_items dr_behindBy dr_steps dr_literalTypes dr_numbers dr_textStarts dr_textLengths dr_textBytes dr_itemCount dr_byCount dr_stepCount dr_literalCount dr_textEnd tp_bytes tp_size) sz = A at C hw ⊢
  unfold f_X0_readIsNull at hf
  refine lv_aload_n hx hb dX0_readIsNull_0 rfl (lv_at hl 0 rfl) ?_
  refine fg_X0_37 C hw 0 rfl rfl dX0_readIsNull_1 ?_
  obtain ⟨x1, x2, x3, z3, hf⟩ := ob3_el hf
  refine cV_V C hw (c_X2_advance l E a_sc a_tp sc_token sc_start sc_end sc_numberRead sc_escaped sc_bytesBehind tp_bytes tp_size x1 x2 x3 z3) cs_X0_61 ⟨Nat.le_of_ble_eq_true rfl, Nat.le_of_ble_eq_true rfl⟩ ⟨rfl, rfl⟩ (ci := 2) (cn := (RX2, TX2, 7)) rfl (q0 := 4) rfl (wn := w_pa_sc_sh_dr_tp E a_pa a_sc a_sh a_dr a_tp pa_itemPlaces pa_waitingSigns pa_waitingPlaces pa_waiting pa_nested pa_fault x1 x2 x3 sc_numberRead sc_escaped sc_bytesBehind sh_names sh_nameLengths sh_groups sh_types sh_flat sh_size dr_items dr_behindBy dr_steps dr_literalTypes dr_numbers dr_textStarts dr_textLengths dr_textBytes dr_itemCount dr_byCount dr_stepCount dr_literalCount dr_textEnd tp_bytes tp_size) ⟨[4, 20, 21], [0, 1, 2, 3, 5, 6, 7, 8, 9, 10, 11, 12, 13, 14, 15, 16, 17, 18, 19], [0, 1, 2, 3, 19, 4, 5, 6, 7, 8, 9, 10, 11, 12, 13, 14, 15, 16, 17, 18, 20, 21], rfl, rfl, rfl, rfl, by decide, rfl, rfl⟩ rfl hl.1 rfl (Nat.le_of_ble_eq_true rfl) dX0_readIsNull_4 ⟨Nat.zero_le _, Nat.zero_le _⟩ (fun H locs hw => ?_)
  refine lv_iconst (v := 0) hx hb dX0_readIsNull_7 (by decide) ?_
  refine lv_istore_n (lv' := [(3, .int (0 : Int32)), (0, .ref (a_pa 0)), (1, .int p1), (2, .int p2)]) hx hb dX0_readIsNull_8 rfl hl (by decide) rfl (fun ls hl => ?_)
  refine lv_aload_n hx hb dX0_readIsNull_9 rfl (lv_at hl 1 rfl) ?_
  refine fg_X0_37 C hw 0 rfl rfl dX0_readIsNull_10 ?_
  refine fg_X0_51 C hw 4 rfl rfl dX0_readIsNull_13 ?_
  refine lv_bipush (v := 6) hx hb dX0_readIsNull_16 (by decide) ?_
  refine lv_icmp_ne (tgt := 30) hx hb dX0_readIsNull_18 (by decide) (fun c18 => ?_) (fun c18 => ?_)
  · replace hf := it_f c18 hf
    exact w_X0_readIsNull_30 C hw (lv_sub hl [1, 2, 3, 0] rfl) hf
  · replace hf := it_t c18 hf
    refine lv_iconst (v := 1) hx hb dX0_readIsNull_21 (by decide) ?_
    refine lv_istore_n (lv' := [(3, .int (1 : Int32)), (0, .ref (a_pa 0)), (1, .int p1), (2, .int p2)]) hx hb dX0_readIsNull_22 rfl hl (by decide) rfl (fun ls hl => ?_)
    refine lv_aload_n hx hb dX0_readIsNull_23 rfl (lv_at hl 1 rfl) ?_
    refine fg_X0_37 C hw 0 rfl rfl dX0_readIsNull_24 ?_
    obtain ⟨x4, x5, x6, z6, hf⟩ := ob3_el hf
    refine cV_V C hw (c_X2_advance l E a_sc a_tp x1 x2 x3 sc_numberRead sc_escaped sc_bytesBehind tp_bytes tp_size x4 x5 x6 z6) cs_X0_61 ⟨Nat.le_of_ble_eq_true rfl, Nat.le_of_ble_eq_true rfl⟩ ⟨rfl, rfl⟩ (ci := 2) (cn := (RX2, TX2, 7)) rfl (q0 := 4) rfl (wn := w_pa_sc_sh_dr_tp E a_pa a_sc a_sh a_dr a_tp pa_itemPlaces pa_waitingSigns pa_waitingPlaces pa_waiting pa_nested pa_fault x4 x5 x6 sc_numberRead sc_escaped sc_bytesBehind sh_names sh_nameLengths sh_groups sh_types sh_flat sh_size dr_items dr_behindBy dr_steps dr_literalTypes dr_numbers dr_textStarts dr_textLengths dr_textBytes dr_itemCount dr_byCount dr_stepCount dr_literalCount dr_textEnd tp_bytes tp_size) ⟨[4, 20, 21], [0, 1, 2, 3, 5, 6, 7, 8, 9, 10, 11, 12, 13, 14, 15, 16, 17, 18, 19], [0, 1, 2, 3, 19, 4, 5, 6, 7, 8, 9, 10, 11, 12, 13, 14, 15, 16, 17, 18, 20, 21], rfl, rfl, rfl, rfl, by decide, rfl, rfl⟩ rfl hl.1 rfl (Nat.le_of_ble_eq_true rfl) dX0_readIsNull_27 ⟨Nat.zero_le _, Nat.zero_le _⟩ (fun H locs hw => ?_)
    exact w_X0_readIsNull_30 C hw (lv_sub hl [1, 2, 3, 0] rfl) hf
def f_X0_canCompare (p1 : Int32) (p2 : Int32) : Option ((Int32)) :=
  if p1 = p2 then (some (1 : Int32))
  else (ob1 (f_X0_isOfNumbers p1) (fun x1 =>
  if x1 = (0 : Int32) then (some (0 : Int32))
  else (ob1 (f_X0_isOfNumbers p2) (fun x2 =>
  if x2 = (0 : Int32) then (some (0 : Int32))
  else (some (1 : Int32))))))
set_option maxHeartbeats 4000000 in
set_option maxRecDepth 100000 in
theorem c_X0_canCompare (l : Launch) (E : EnvT) (a_pa : Nat → Nat) (a_sc : Nat → Nat) (a_sh : Nat → Nat) (a_dr : Nat → Nat) (a_tp : Nat → Nat) (pa_itemPlaces : Nat → Int32) (pa_waitingSigns : Nat → Int32) (pa_waitingPlaces : Nat → Int32) (pa_waiting : Int32) (pa_nested : Int32) (pa_fault : Int32) (sc_token : Int32) (sc_start : Int32) (sc_end : Int32) (sc_numberRead : Int64) (sc_escaped : Int32) (sc_bytesBehind : Int32) (sh_names : Nat → Int32) (sh_nameLengths : Nat → Int32) (sh_groups : Nat → Int32) (sh_types : Nat → Int32) (sh_flat : Nat → Int32) (sh_size : Int32) (dr_items : Nat → Int32) (dr_behindBy : Nat → Int32) (dr_steps : Nat → Int32) (dr_literalTypes : Nat → Int32) (dr_numbers : Nat → Int64) (dr_textStarts : Nat → Int32) (dr_textLengths : Nat → Int32) (dr_textBytes : Nat → Int32) (dr_itemCount : Int32) (dr_byCount : Int32) (dr_stepCount : Int32) (dr_literalCount : Int32) (dr_textEnd : Int32) (tp_bytes : Nat → Int32) (tp_size : Int32) (p1 : Int32) (p2 : Int32) (r : Int32) (hf : f_X0_canCompare p1 p2 = some r) : CI l yX0_canCompare (Cond.code yX0_canCompare cX0_canCompare 3 (some .boolean)) { frames := 1, cells := 0, slots := 0, locals := 21 } E [.ref (a_pa 0), .int p1, .int p2] (w_pa_sc_sh_dr_tp E a_pa a_sc a_sh a_dr a_tp pa_itemPlaces pa_waitingSigns pa_waitingPlaces pa_waiting pa_nested pa_fault sc_token sc_start sc_end sc_numberRead sc_escaped sc_bytesBehind sh_names sh_nameLengths sh_groups sh_types sh_flat sh_size dr_items dr_behindBy dr_steps dr_literalTypes dr_numbers dr_textStarts dr_textLengths dr_textBytes dr_itemCount dr_byCount dr_stepCount dr_literalCount dr_textEnd tp_bytes tp_size) r (w_pa_sc_sh_dr_tp E a_pa a_sc a_sh a_dr a_tp pa_itemPlaces pa_waitingSigns pa_waitingPlaces pa_waiting pa_nested pa_fault sc_token sc_start sc_end sc_numberRead sc_escaped sc_bytesBehind sh_names sh_nameLengths sh_groups sh_types sh_flat sh_size dr_items dr_behindBy dr_steps dr_literalTypes dr_numbers dr_textStarts dr_textLengths dr_textBytes dr_itemCount dr_byCount dr_stepCount dr_literalCount dr_textEnd tp_bytes tp_size) := by
  intro sz
  refine met_start [(0, .ref (a_pa 0)), (1, .int p1), (2, .int p2)] (by decide) rfl rfl (Nat.le_of_ble_eq_true rfl) rfl ?_
  intro p e s m below meth c ls C hnm hmt hw hl
  have hx := C.1
  have hb := C.2.1
  generalize va_A (w_pa_sc_sh_dr_tp E a_pa a_sc a_sh a_dr a_tp pa_itemPlaces pa_waitingSigns pa_waitingPlaces pa_waiting pa_nested pa_fault sc_token sc_start sc_end sc_numberRead sc_escaped sc_bytesBehind sh_names sh_nameLengths sh_groups sh_types sh_flat sh_size dr_items dr_behindBy dr_steps dr_literalTypes dr_numbers dr_textStarts dr_textLengths dr_textBytes dr_itemCount dr_byCount dr_stepCount dr_literalCount dr_textEnd tp_bytes tp_size) sz = A at C hw ⊢
  unfold f_X0_canCompare at hf
  refine lv_iload_n hx hb dX0_canCompare_0 rfl (lv_at hl 1 rfl) ?_
  refine lv_iload_n hx hb dX0_canCompare_1 rfl (lv_at hl 2 rfl) ?_
  refine lv_icmp_eq (tgt := 21) hx hb dX0_canCompare_2 (by decide) (fun c2 => ?_) (fun c2 => ?_)
  · replace hf := it_t c2 hf
    refine lv_iconst (v := 1) hx hb dX0_canCompare_21 (by decide) ?_
    refine lv_goto (tgt := 26) hx hb dX0_canCompare_22 (by decide) ?_
    cases hf
    exact rt_z C hw (Or.inr rfl) dX0_canCompare_26
  · replace hf := it_f c2 hf
    refine lv_aload_n hx hb dX0_canCompare_5 rfl (lv_at hl 0 rfl) ?_
    refine lv_iload_n hx hb dX0_canCompare_6 rfl (lv_at hl 1 rfl) ?_
    obtain ⟨x1, z1, hf⟩ := ob1_el hf
    refine cI_V C hw (c_X0_isOfNumbers l E a_pa a_sc a_sh a_dr a_tp pa_itemPlaces pa_waitingSigns pa_waitingPlaces pa_waiting pa_nested pa_fault sc_token sc_start sc_end sc_numberRead sc_escaped sc_bytesBehind sh_names sh_nameLengths sh_groups sh_types sh_flat sh_size dr_items dr_behindBy dr_steps dr_literalTypes dr_numbers dr_textStarts dr_textLengths dr_textBytes dr_itemCount dr_byCount dr_stepCount dr_literalCount dr_textEnd tp_bytes tp_size p1 x1 z1) cs_X0_88 ⟨Nat.le_of_ble_eq_true rfl, Nat.le_of_ble_eq_true rfl⟩ ⟨rfl, rfl⟩ (ci := 0) (cn := (RX0, TX0, 9)) rfl (q0 := 0) rfl (wn := w_pa_sc_sh_dr_tp E a_pa a_sc a_sh a_dr a_tp pa_itemPlaces pa_waitingSigns pa_waitingPlaces pa_waiting pa_nested pa_fault sc_token sc_start sc_end sc_numberRead sc_escaped sc_bytesBehind sh_names sh_nameLengths sh_groups sh_types sh_flat sh_size dr_items dr_behindBy dr_steps dr_literalTypes dr_numbers dr_textStarts dr_textLengths dr_textBytes dr_itemCount dr_byCount dr_stepCount dr_literalCount dr_textEnd tp_bytes tp_size) (Jn.all _ _) rfl hl.1 rfl (Nat.le_of_ble_eq_true rfl) dX0_canCompare_7 ⟨Nat.zero_le _, Nat.zero_le _⟩ (fun H locs hw => ?_)
    refine lv_if_eq (tgt := 25) hx hb dX0_canCompare_10 (by decide) (fun c10 => ?_) (fun c10 => ?_)
    · replace hf := it_t c10 hf
      refine lv_iconst (v := 0) hx hb dX0_canCompare_25 (by decide) ?_
      cases hf
      exact rt_z C hw (Or.inl rfl) dX0_canCompare_26
    · replace hf := it_f c10 hf
      refine lv_aload_n hx hb dX0_canCompare_13 rfl (lv_at hl 0 rfl) ?_
      refine lv_iload_n hx hb dX0_canCompare_14 rfl (lv_at hl 2 rfl) ?_
      obtain ⟨x2, z2, hf⟩ := ob1_el hf
      refine cI_V C hw (c_X0_isOfNumbers l E a_pa a_sc a_sh a_dr a_tp pa_itemPlaces pa_waitingSigns pa_waitingPlaces pa_waiting pa_nested pa_fault sc_token sc_start sc_end sc_numberRead sc_escaped sc_bytesBehind sh_names sh_nameLengths sh_groups sh_types sh_flat sh_size dr_items dr_behindBy dr_steps dr_literalTypes dr_numbers dr_textStarts dr_textLengths dr_textBytes dr_itemCount dr_byCount dr_stepCount dr_literalCount dr_textEnd tp_bytes tp_size p2 x2 z2) cs_X0_88 ⟨Nat.le_of_ble_eq_true rfl, Nat.le_of_ble_eq_true rfl⟩ ⟨rfl, rfl⟩ (ci := 0) (cn := (RX0, TX0, 9)) rfl (q0 := 0) rfl (wn := w_pa_sc_sh_dr_tp E a_pa a_sc a_sh a_dr a_tp pa_itemPlaces pa_waitingSigns pa_waitingPlaces pa_waiting pa_nested pa_fault sc_token sc_start sc_end sc_numberRead sc_escaped sc_bytesBehind sh_names sh_nameLengths sh_groups sh_types sh_flat sh_size dr_items dr_behindBy dr_steps dr_literalTypes dr_numbers dr_textStarts dr_textLengths dr_textBytes dr_itemCount dr_byCount dr_stepCount dr_literalCount dr_textEnd tp_bytes tp_size) (Jn.all _ _) rfl hl.1 rfl (Nat.le_of_ble_eq_true rfl) dX0_canCompare_15 ⟨Nat.zero_le _, Nat.zero_le _⟩ (fun H locs hw => ?_)
      refine lv_if_eq (tgt := 25) hx hb dX0_canCompare_18 (by decide) (fun c18 => ?_) (fun c18 => ?_)
      · replace hf := it_t c18 hf
        refine lv_iconst (v := 0) hx hb dX0_canCompare_25 (by decide) ?_
        cases hf
        exact rt_z C hw (Or.inl rfl) dX0_canCompare_26
      · replace hf := it_f c18 hf
        refine lv_iconst (v := 1) hx hb dX0_canCompare_21 (by decide) ?_
        refine lv_goto (tgt := 26) hx hb dX0_canCompare_22 (by decide) ?_
        cases hf
        exact rt_z C hw (Or.inr rfl) dX0_canCompare_26
def f_X0_readLiteral_139 (l1 : Int32) (l2 : Int32) (l3 : Int32) (l4 : Int32) (l5 : Int64) (l7 : Int32) (pa_fault : Int32) (sc_token : Int32) (sc_start : Int32) (sc_end : Int32) (sc_numberRead : Int64) (sc_escaped : Int32) (sc_bytesBehind : Int32) (sh_types : Nat → Int32) (sh_size : Int32) (dr_literalTypes : Nat → Int32) (dr_numbers : Nat → Int64) (dr_textStarts : Nat → Int32) (dr_textLengths : Nat → Int32) (dr_textBytes : Nat → Int32) (dr_literalCount : Int32) (dr_textEnd : Int32) (tp_bytes : Nat → Int32) (tp_size : Int32) : Option ((Int32) × (Int32) × (Int32) × (Int32) × (Int32) × (Int64) × (Int32) × (Int32) × (Nat → Int32) × (Nat → Int64) × (Nat → Int32) × (Nat → Int32) × (Nat → Int32) × (Int32) × (Int32)) :=
  if l7 = (-1 : Int32) then (ob3 (f_X2_advance sc_token sc_start sc_end tp_bytes tp_size) (fun x1 x2 x3 =>
  ob1 (f_X3_typeOf l1 sh_types sh_size) (fun x4 =>
  ob1 (f_X0_canCompare x4 l4) (fun x5 =>
  if x5 = (0 : Int32) then (ob2 (f_X0_refuse l2 pa_fault) (fun x6 x7 =>
  if x6 = (0 : Int32) then (some ((0 : Int32), x7, x1, x2, x3, sc_numberRead, sc_escaped, sc_bytesBehind, dr_literalTypes, dr_numbers, dr_textStarts, dr_textLengths, dr_textBytes, dr_literalCount, dr_textEnd))
  else (some ((1 : Int32), x7, x1, x2, x3, sc_numberRead, sc_escaped, sc_bytesBehind, dr_literalTypes, dr_numbers, dr_textStarts, dr_textLengths, dr_textBytes, dr_literalCount, dr_textEnd))))
  else (ob6 (f_X1_addLiteral l4 l5 l3 dr_literalTypes dr_numbers dr_textStarts dr_textLengths dr_literalCount dr_textEnd) (fun x8 x9 x10 x11 x12 x13 =>
  if x8 = (0 : Int32) then (ob2 (f_X0_refuse l2 pa_fault) (fun x14 x15 =>
  if x14 = (0 : Int32) then (some ((0 : Int32), x15, x1, x2, x3, sc_numberRead, sc_escaped, sc_bytesBehind, x9, x10, x11, x12, dr_textBytes, x13, dr_textEnd))
  else (some ((1 : Int32), x15, x1, x2, x3, sc_numberRead, sc_escaped, sc_bytesBehind, x9, x10, x11, x12, dr_textBytes, x13, dr_textEnd))))
  else (some ((1 : Int32), pa_fault, x1, x2, x3, sc_numberRead, sc_escaped, sc_bytesBehind, x9, x10, x11, x12, dr_textBytes, x13, dr_textEnd))))))))
  else (ob2 (f_X0_refuse l7 pa_fault) (fun x16 x17 =>
  gz x16 (some (x16, x17, sc_token, sc_start, sc_end, sc_numberRead, sc_escaped, sc_bytesBehind, dr_literalTypes, dr_numbers, dr_textStarts, dr_textLengths, dr_textBytes, dr_literalCount, dr_textEnd))))
set_option maxHeartbeats 4000000 in
set_option maxRecDepth 100000 in
theorem w_X0_readLiteral_139 {p : Program} {l : Launch} {e : Env} {s : State} {m : MethodId} {args : Array Value} {below : List Frame} {meth : Method} {c : Code} {E : EnvT} {A : Nat → Prop} {a_pa : Nat → Nat} {a_sc : Nat → Nat} {a_sh : Nat → Nat} {a_dr : Nat → Nat} {a_tp : Nat → Nat} {pa_itemPlaces : Nat → Int32} {pa_waitingSigns : Nat → Int32} {pa_waitingPlaces : Nat → Int32} {pa_waiting : Int32} {pa_nested : Int32} {sh_names : Nat → Int32} {sh_nameLengths : Nat → Int32} {sh_groups : Nat → Int32} {sh_flat : Nat → Int32} {dr_items : Nat → Int32} {dr_behindBy : Nat → Int32} {dr_steps : Nat → Int32} {dr_itemCount : Int32} {dr_byCount : Int32} {dr_stepCount : Int32} {r : Int32} {o_pa_fault : Int32} {o_sc_token : Int32} {o_sc_start : Int32} {o_sc_end : Int32} {o_sc_numberRead : Int64} {o_sc_escaped : Int32} {o_sc_bytesBehind : Int32} {o_dr_literalTypes : Nat → Int32} {o_dr_numbers : Nat → Int64} {o_dr_textStarts : Nat → Int32} {o_dr_textLengths : Nat → Int32} {o_dr_textBytes : Nat → Int32} {o_dr_literalCount : Int32} {o_dr_textEnd : Int32} {l1 : Int32} {l2 : Int32} {l3 : Int32} {l4 : Int32} {l5 : Int64} {l7 : Int32} {pa_fault : Int32} {sc_token : Int32} {sc_start : Int32} {sc_end : Int32} {sc_numberRead : Int64} {sc_escaped : Int32} {sc_bytesBehind : Int32} {sh_types : Nat → Int32} {sh_size : Int32} {dr_literalTypes : Nat → Int32} {dr_numbers : Nat → Int64} {dr_textStarts : Nat → Int32} {dr_textLengths : Nat → Int32} {dr_textBytes : Nat → Int32} {dr_literalCount : Int32} {dr_textEnd : Int32} {tp_bytes : Nat → Int32} {tp_size : Int32} {H : Heap} {locs : List Loc} {ls : Array Slot} (C : MC p s m args meth c E A cX0_readLiteral 8 RX0 (some .boolean)) (hw : WS E A s (w_pa_sc_sh_dr_tp E a_pa a_sc a_sh a_dr a_tp pa_itemPlaces pa_waitingSigns pa_waitingPlaces pa_waiting pa_nested pa_fault sc_token sc_start sc_end sc_numberRead sc_escaped sc_bytesBehind sh_names sh_nameLengths sh_groups sh_types sh_flat sh_size dr_items dr_behindBy dr_steps dr_literalTypes dr_numbers dr_textStarts dr_textLengths dr_textBytes dr_itemCount dr_byCount dr_stepCount dr_literalCount dr_textEnd tp_bytes tp_size) H locs) (hl : lv_has ls 8 [(0, .ref (a_pa 0)), (1, .int l1), (2, .int l2), (3, .int l3), (4, .int l4), (5, .long l5), (7, .int l7)]) (hf : f_X0_readLiteral_139 l1 l2 l3 l4 l5 l7 pa_fault sc_token sc_start sc_end sc_numberRead sc_escaped sc_bytesBehind sh_types sh_size dr_literalTypes dr_numbers dr_textStarts dr_textLengths dr_textBytes dr_literalCount dr_textEnd tp_bytes tp_size = some (r, o_pa_fault, o_sc_token, o_sc_start, o_sc_end, o_sc_numberRead, o_sc_escaped, o_sc_bytesBehind, o_dr_literalTypes, o_dr_numbers, o_dr_textStarts, o_dr_textLengths, o_dr_textBytes, o_dr_literalCount, o_dr_textEnd)) : W p l e { frames := 6, cells := 0, slots := 0, locals := 130 } s m args below meth c H locs 0 0 (MQ below (QcI E A (w_pa_sc_sh_dr_tp E a_pa a_sc a_sh a_dr a_tp pa_itemPlaces pa_waitingSigns pa_waitingPlaces pa_waiting pa_nested o_pa_fault o_sc_token o_sc_start o_sc_end o_sc_numberRead o_sc_escaped o_sc_bytesBehind sh_names sh_nameLengths sh_groups sh_types sh_flat sh_size dr_items dr_behindBy dr_steps o_dr_literalTypes o_dr_numbers o_dr_textStarts o_dr_textLengths o_dr_textBytes dr_itemCount dr_byCount dr_stepCount o_dr_literalCount o_dr_textEnd tp_bytes tp_size) r) args s 0 0 A) (F0 m 139 ls []) := by
  have hx := C.1
  have hb := C.2.1
  unfold f_X0_readLiteral_139 at hf
  refine lv_iload hx hb dX0_readLiteral_139 (lv_at hl 6 rfl) ?_
  refine lv_iconst (v := -1) hx hb dX0_readLiteral_141 (by decide) ?_
  refine lv_icmp_eq (tgt := 152) hx hb dX0_readLiteral_142 (by decide) (fun c142 => ?_) (fun c142 => ?_)
  · replace hf := it_t c142 hf
    refine lv_aload_n hx hb dX0_readLiteral_152 rfl (lv_at hl 0 rfl) ?_
    refine fg_X0_37 C hw 0 rfl rfl dX0_readLiteral_153 ?_
    obtain ⟨x1, x2, x3, z3, hf⟩ := ob3_el hf
    refine cV_V C hw (c_X2_advance l E a_sc a_tp sc_token sc_start sc_end sc_numberRead sc_escaped sc_bytesBehind tp_bytes tp_size x1 x2 x3 z3) cs_X0_61 ⟨Nat.le_of_ble_eq_true rfl, Nat.le_of_ble_eq_true rfl⟩ ⟨rfl, rfl⟩ (ci := 2) (cn := (RX2, TX2, 7)) rfl (q0 := 4) rfl (wn := w_pa_sc_sh_dr_tp E a_pa a_sc a_sh a_dr a_tp pa_itemPlaces pa_waitingSigns pa_waitingPlaces pa_waiting pa_nested pa_fault x1 x2 x3 sc_numberRead sc_escaped sc_bytesBehind sh_names sh_nameLengths sh_groups sh_types sh_flat sh_size dr_items dr_behindBy dr_steps dr_literalTypes dr_numbers dr_textStarts dr_textLengths dr_textBytes dr_itemCount dr_byCount dr_stepCount dr_literalCount dr_textEnd tp_bytes tp_size) ⟨[4, 20, 21], [0, 1, 2, 3, 5, 6, 7, 8, 9, 10, 11, 12, 13, 14, 15, 16, 17, 18, 19], [0, 1, 2, 3, 19, 4, 5, 6, 7, 8, 9, 10, 11, 12, 13, 14, 15, 16, 17, 18, 20, 21], rfl, rfl, rfl, rfl, by decide, rfl, rfl⟩ rfl hl.1 rfl (Nat.le_of_ble_eq_true rfl) dX0_readLiteral_156 ⟨Nat.zero_le _, Nat.zero_le _⟩ (fun H locs hw => ?_)
    refine lv_aload_n hx hb dX0_readLiteral_159 rfl (lv_at hl 0 rfl) ?_
    refine lv_aload_n hx hb dX0_readLiteral_160 rfl (lv_at hl 0 rfl) ?_
    refine fg_X0_28 C hw 0 rfl rfl dX0_readLiteral_161 ?_
    refine lv_iload_n hx hb dX0_readLiteral_164 rfl (lv_at hl 1 rfl) ?_
    obtain ⟨x4, z4, hf⟩ := ob1_el hf
    refine cI_V C hw (c_X3_typeOf l E a_sh a_tp sh_names sh_nameLengths sh_groups sh_types sh_flat sh_size tp_bytes tp_size l1 x4 z4) cs_X0_84 ⟨Nat.le_of_ble_eq_true rfl, Nat.le_of_ble_eq_true rfl⟩ ⟨rfl, rfl⟩ (ci := 3) (cn := (RX3, TX3, 7)) rfl (q0 := 5) rfl (wn := w_pa_sc_sh_dr_tp E a_pa a_sc a_sh a_dr a_tp pa_itemPlaces pa_waitingSigns pa_waitingPlaces pa_waiting pa_nested pa_fault x1 x2 x3 sc_numberRead sc_escaped sc_bytesBehind sh_names sh_nameLengths sh_groups sh_types sh_flat sh_size dr_items dr_behindBy dr_steps dr_literalTypes dr_numbers dr_textStarts dr_textLengths dr_textBytes dr_itemCount dr_byCount dr_stepCount dr_literalCount dr_textEnd tp_bytes tp_size) ⟨[5, 6, 7, 8, 9, 10, 20, 21], [0, 1, 2, 3, 4, 11, 12, 13, 14, 15, 16, 17, 18, 19], [0, 1, 2, 3, 4, 14, 15, 16, 17, 18, 19, 5, 6, 7, 8, 9, 10, 11, 12, 13, 20, 21], rfl, rfl, rfl, rfl, by decide, rfl, rfl⟩ rfl hl.1 rfl (Nat.le_of_ble_eq_true rfl) dX0_readLiteral_165 ⟨Nat.zero_le _, Nat.zero_le _⟩ (fun H locs hw => ?_)
    refine lv_iload hx hb dX0_readLiteral_168 (lv_at hl 4 rfl) ?_
    obtain ⟨x5, z5, hf⟩ := ob1_el hf
    refine cI_V C hw (c_X0_canCompare l E a_pa a_sc a_sh a_dr a_tp pa_itemPlaces pa_waitingSigns pa_waitingPlaces pa_waiting pa_nested pa_fault x1 x2 x3 sc_numberRead sc_escaped sc_bytesBehind sh_names sh_nameLengths sh_groups sh_types sh_flat sh_size dr_items dr_behindBy dr_steps dr_literalTypes dr_numbers dr_textStarts dr_textLengths dr_textBytes dr_itemCount dr_byCount dr_stepCount dr_literalCount dr_textEnd tp_bytes tp_size x4 l4 x5 z5) cs_X0_144 ⟨Nat.le_of_ble_eq_true rfl, Nat.le_of_ble_eq_true rfl⟩ ⟨rfl, rfl⟩ (ci := 0) (cn := (RX0, TX0, 9)) rfl (q0 := 0) rfl (wn := w_pa_sc_sh_dr_tp E a_pa a_sc a_sh a_dr a_tp pa_itemPlaces pa_waitingSigns pa_waitingPlaces pa_waiting pa_nested pa_fault x1 x2 x3 sc_numberRead sc_escaped sc_bytesBehind sh_names sh_nameLengths sh_groups sh_types sh_flat sh_size dr_items dr_behindBy dr_steps dr_literalTypes dr_numbers dr_textStarts dr_textLengths dr_textBytes dr_itemCount dr_byCount dr_stepCount dr_literalCount dr_textEnd tp_bytes tp_size) (Jn.all _ _) rfl hl.1 rfl (Nat.le_of_ble_eq_true rfl) dX0_readLiteral_170 ⟨Nat.zero_le _, Nat.zero_le _⟩ (fun H locs hw => ?_)
    refine lv_if_eq (tgt := 191) hx hb dX0_readLiteral_173 (by decide) (fun c173 => ?_) (fun c173 => ?_)
    · replace hf := it_t c173 hf
      refine lv_aload_n hx hb dX0_readLiteral_191 rfl (lv_at hl 0 rfl) ?_
      refine lv_iload_n hx hb dX0_readLiteral_192 rfl (lv_at hl 2 rfl) ?_
      obtain ⟨x6, x7, z7, hf⟩ := ob2_el hf
      refine cI_V C hw (c_X0_refuse l E a_pa a_sc a_sh a_dr a_tp pa_itemPlaces pa_waitingSigns pa_waitingPlaces pa_waiting pa_nested pa_fault x1 x2 x3 sc_numberRead sc_escaped sc_bytesBehind sh_names sh_nameLengths sh_groups sh_types sh_flat sh_size dr_items dr_behindBy dr_steps dr_literalTypes dr_numbers dr_textStarts dr_textLengths dr_textBytes dr_itemCount dr_byCount dr_stepCount dr_literalCount dr_textEnd tp_bytes tp_size l2 x6 x7 z7) cs_X0_57 ⟨Nat.le_of_ble_eq_true rfl, Nat.le_of_ble_eq_true rfl⟩ ⟨rfl, rfl⟩ (ci := 0) (cn := (RX0, TX0, 9)) rfl (q0 := 0) rfl (wn := w_pa_sc_sh_dr_tp E a_pa a_sc a_sh a_dr a_tp pa_itemPlaces pa_waitingSigns pa_waitingPlaces pa_waiting pa_nested x7 x1 x2 x3 sc_numberRead sc_escaped sc_bytesBehind sh_names sh_nameLengths sh_groups sh_types sh_flat sh_size dr_items dr_behindBy dr_steps dr_literalTypes dr_numbers dr_textStarts dr_textLengths dr_textBytes dr_itemCount dr_byCount dr_stepCount dr_literalCount dr_textEnd tp_bytes tp_size) (Jn.all _ _) rfl hl.1 rfl (Nat.le_of_ble_eq_true rfl) dX0_readLiteral_193 ⟨Nat.zero_le _, Nat.zero_le _⟩ (fun H locs hw => ?_)
      refine lv_if_eq (tgt := 203) hx hb dX0_readLiteral_196 (by decide) (fun c196 => ?_) (fun c196 => ?_)
      · replace hf := it_t c196 hf
        refine lv_iconst (v := 0) hx hb dX0_readLiteral_203 (by decide) ?_
        cases hf
        exact rt_z C hw (Or.inl rfl) dX0_readLiteral_204
      · replace hf := it_f c196 hf
        refine lv_iconst (v := 1) hx hb dX0_readLiteral_199 (by decide) ?_
        refine lv_goto (tgt := 204) hx hb dX0_readLiteral_200 (by decide) ?_
        cases hf
        exact rt_z C hw (Or.inr rfl) dX0_readLiteral_204
    · replace hf := it_f c173 hf
      refine lv_aload_n hx hb dX0_readLiteral_176 rfl (lv_at hl 0 rfl) ?_
      refine fg_X0_12 C hw 0 rfl rfl dX0_readLiteral_177 ?_
      refine lv_iload hx hb dX0_readLiteral_180 (lv_at hl 4 rfl) ?_
      refine lv_lload hx hb dX0_readLiteral_182 (lv_at hl 5 rfl) ?_
      refine lv_iload_n hx hb dX0_readLiteral_184 rfl (lv_at hl 3 rfl) ?_
      obtain ⟨x8, x9, x10, x11, x12, x13, z13, hf⟩ := ob6_el hf
      refine cI_V C hw (c_X1_addLiteral l E a_dr dr_items dr_behindBy dr_steps dr_literalTypes dr_numbers dr_textStarts dr_textLengths dr_textBytes dr_itemCount dr_byCount dr_stepCount dr_literalCount dr_textEnd l4 l5 l3 x8 x9 x10 x11 x12 x13 z13) cs_X0_161 ⟨Nat.le_of_ble_eq_true rfl, Nat.le_of_ble_eq_true rfl⟩ ⟨rfl, rfl⟩ (ci := 1) (cn := (RX1, TX1, 13)) rfl (q0 := 11) rfl (wn := w_pa_sc_sh_dr_tp E a_pa a_sc a_sh a_dr a_tp pa_itemPlaces pa_waitingSigns pa_waitingPlaces pa_waiting pa_nested pa_fault x1 x2 x3 sc_numberRead sc_escaped sc_bytesBehind sh_names sh_nameLengths sh_groups sh_types sh_flat sh_size dr_items dr_behindBy dr_steps x9 x10 x11 x12 dr_textBytes dr_itemCount dr_byCount dr_stepCount x13 dr_textEnd tp_bytes tp_size) ⟨[11, 12, 13, 14, 15, 16, 17, 18, 19], [0, 1, 2, 3, 4, 5, 6, 7, 8, 9, 10, 20, 21], [0, 1, 2, 3, 4, 5, 6, 7, 8, 9, 10, 13, 14, 15, 16, 17, 18, 19, 20, 21, 11, 12], rfl, rfl, rfl, rfl, by decide, rfl, rfl⟩ rfl hl.1 rfl (Nat.le_of_ble_eq_true rfl) dX0_readLiteral_185 ⟨Nat.zero_le _, Nat.zero_le _⟩ (fun H locs hw => ?_)
      refine lv_if_ne (tgt := 199) hx hb dX0_readLiteral_188 (by decide) (fun c188 => ?_) (fun c188 => ?_)
      · replace hf := it_f c188 hf
        refine lv_iconst (v := 1) hx hb dX0_readLiteral_199 (by decide) ?_
        refine lv_goto (tgt := 204) hx hb dX0_readLiteral_200 (by decide) ?_
        cases hf
        exact rt_z C hw (Or.inr rfl) dX0_readLiteral_204
      · replace hf := it_t c188 hf
        refine lv_aload_n hx hb dX0_readLiteral_191 rfl (lv_at hl 0 rfl) ?_
        refine lv_iload_n hx hb dX0_readLiteral_192 rfl (lv_at hl 2 rfl) ?_
        obtain ⟨x14, x15, z15, hf⟩ := ob2_el hf
        refine cI_V C hw (c_X0_refuse l E a_pa a_sc a_sh a_dr a_tp pa_itemPlaces pa_waitingSigns pa_waitingPlaces pa_waiting pa_nested pa_fault x1 x2 x3 sc_numberRead sc_escaped sc_bytesBehind sh_names sh_nameLengths sh_groups sh_types sh_flat sh_size dr_items dr_behindBy dr_steps x9 x10 x11 x12 dr_textBytes dr_itemCount dr_byCount dr_stepCount x13 dr_textEnd tp_bytes tp_size l2 x14 x15 z15) cs_X0_57 ⟨Nat.le_of_ble_eq_true rfl, Nat.le_of_ble_eq_true rfl⟩ ⟨rfl, rfl⟩ (ci := 0) (cn := (RX0, TX0, 9)) rfl (q0 := 0) rfl (wn := w_pa_sc_sh_dr_tp E a_pa a_sc a_sh a_dr a_tp pa_itemPlaces pa_waitingSigns pa_waitingPlaces pa_waiting pa_nested x15 x1 x2 x3 sc_numberRead sc_escaped sc_bytesBehind sh_names sh_nameLengths sh_groups sh_types sh_flat sh_size dr_items dr_behindBy dr_steps x9 x10 x11 x12 dr_textBytes dr_itemCount dr_byCount dr_stepCount x13 dr_textEnd tp_bytes tp_size) (Jn.all _ _) rfl hl.1 rfl (Nat.le_of_ble_eq_true rfl) dX0_readLiteral_193 ⟨Nat.zero_le _, Nat.zero_le _⟩ (fun H locs hw => ?_)
        refine lv_if_eq (tgt := 203) hx hb dX0_readLiteral_196 (by decide) (fun c196 => ?_) (fun c196 => ?_)
        · replace hf := it_t c196 hf
          refine lv_iconst (v := 0) hx hb dX0_readLiteral_203 (by decide) ?_
          cases hf
          exact rt_z C hw (Or.inl rfl) dX0_readLiteral_204
        · replace hf := it_f c196 hf
          refine lv_iconst (v := 1) hx hb dX0_readLiteral_199 (by decide) ?_
          refine lv_goto (tgt := 204) hx hb dX0_readLiteral_200 (by decide) ?_
          cases hf
          exact rt_z C hw (Or.inr rfl) dX0_readLiteral_204
  · replace hf := it_f c142 hf
    refine lv_aload_n hx hb dX0_readLiteral_145 rfl (lv_at hl 0 rfl) ?_
    refine lv_iload hx hb dX0_readLiteral_146 (lv_at hl 6 rfl) ?_
    obtain ⟨x16, x17, z17, hf⟩ := ob2_el hf
    refine cI_V C hw (c_X0_refuse l E a_pa a_sc a_sh a_dr a_tp pa_itemPlaces pa_waitingSigns pa_waitingPlaces pa_waiting pa_nested pa_fault sc_token sc_start sc_end sc_numberRead sc_escaped sc_bytesBehind sh_names sh_nameLengths sh_groups sh_types sh_flat sh_size dr_items dr_behindBy dr_steps dr_literalTypes dr_numbers dr_textStarts dr_textLengths dr_textBytes dr_itemCount dr_byCount dr_stepCount dr_literalCount dr_textEnd tp_bytes tp_size l7 x16 x17 z17) cs_X0_57 ⟨Nat.le_of_ble_eq_true rfl, Nat.le_of_ble_eq_true rfl⟩ ⟨rfl, rfl⟩ (ci := 0) (cn := (RX0, TX0, 9)) rfl (q0 := 0) rfl (wn := w_pa_sc_sh_dr_tp E a_pa a_sc a_sh a_dr a_tp pa_itemPlaces pa_waitingSigns pa_waitingPlaces pa_waiting pa_nested x17 sc_token sc_start sc_end sc_numberRead sc_escaped sc_bytesBehind sh_names sh_nameLengths sh_groups sh_types sh_flat sh_size dr_items dr_behindBy dr_steps dr_literalTypes dr_numbers dr_textStarts dr_textLengths dr_textBytes dr_itemCount dr_byCount dr_stepCount dr_literalCount dr_textEnd tp_bytes tp_size) (Jn.all _ _) rfl hl.1 rfl (Nat.le_of_ble_eq_true rfl) dX0_readLiteral_148 ⟨Nat.zero_le _, Nat.zero_le _⟩ (fun H locs hw => ?_)
    obtain ⟨hz, hf⟩ := gz_el hf
    cases hf
    exact rt_z C hw hz dX0_readLiteral_151
def f_X0_readLiteral (p1 : Int32) (pa_fault : Int32) (sc_token : Int32) (sc_start : Int32) (sc_end : Int32) (sc_numberRead : Int64) (sc_escaped : Int32) (sc_bytesBehind : Int32) (sh_types : Nat → Int32) (sh_size : Int32) (dr_literalTypes : Nat → Int32) (dr_numbers : Nat → Int64) (dr_textStarts : Nat → Int32) (dr_textLengths : Nat → Int32) (dr_textBytes : Nat → Int32) (dr_literalCount : Int32) (dr_textEnd : Int32) (tp_bytes : Nat → Int32) (tp_size : Int32) : Option ((Int32) × (Int32) × (Int32) × (Int32) × (Int32) × (Int64) × (Int32) × (Int32) × (Nat → Int32) × (Nat → Int64) × (Nat → Int32) × (Nat → Int32) × (Nat → Int32) × (Int32) × (Int32)) :=
  if sc_token = (10 : Int32) then (f_X0_readLiteral_139 p1 sc_start dr_textEnd (0 : Int32) (1 : Int64) (-1 : Int32) pa_fault sc_token sc_start sc_end sc_numberRead sc_escaped sc_bytesBehind sh_types sh_size dr_literalTypes dr_numbers dr_textStarts dr_textLengths dr_textBytes dr_literalCount dr_textEnd tp_bytes tp_size)
  else (if sc_token = (11 : Int32) then (f_X0_readLiteral_139 p1 sc_start dr_textEnd (0 : Int32) (0 : Int64) (-1 : Int32) pa_fault sc_token sc_start sc_end sc_numberRead sc_escaped sc_bytesBehind sh_types sh_size dr_literalTypes dr_numbers dr_textStarts dr_textLengths dr_textBytes dr_literalCount dr_textEnd tp_bytes tp_size)
  else (if sc_token = (17 : Int32) then (ob3 (f_X2_readNumber sc_start sc_end sc_numberRead tp_bytes tp_size) (fun x1 x2 x3 =>
  f_X0_readLiteral_139 p1 sc_start dr_textEnd (2 : Int32) x3 x1 pa_fault sc_token sc_start x2 x3 sc_escaped sc_bytesBehind sh_types sh_size dr_literalTypes dr_numbers dr_textStarts dr_textLengths dr_textBytes dr_literalCount dr_textEnd tp_bytes tp_size))
  else (if sc_token = (18 : Int32) then (ob6 (f_X2_readText sc_start sc_end sc_escaped sc_bytesBehind tp_bytes tp_size dr_textBytes dr_textEnd) (fun x4 x5 x6 x7 x8 x9 =>
  f_X0_readLiteral_139 p1 sc_start dr_textEnd (3 : Int32) (0 : Int64) x4 pa_fault sc_token sc_start x5 sc_numberRead x6 x7 sh_types sh_size dr_literalTypes dr_numbers dr_textStarts dr_textLengths x8 dr_literalCount x9 tp_bytes tp_size))
  else (f_X0_readLiteral_139 p1 sc_start dr_textEnd (0 : Int32) (0 : Int64) sc_start pa_fault sc_token sc_start sc_end sc_numberRead sc_escaped sc_bytesBehind sh_types sh_size dr_literalTypes dr_numbers dr_textStarts dr_textLengths dr_textBytes dr_literalCount dr_textEnd tp_bytes tp_size))))
set_option maxHeartbeats 4000000 in
set_option maxRecDepth 100000 in
theorem c_X0_readLiteral (l : Launch) (E : EnvT) (a_pa : Nat → Nat) (a_sc : Nat → Nat) (a_sh : Nat → Nat) (a_dr : Nat → Nat) (a_tp : Nat → Nat) (pa_itemPlaces : Nat → Int32) (pa_waitingSigns : Nat → Int32) (pa_waitingPlaces : Nat → Int32) (pa_waiting : Int32) (pa_nested : Int32) (pa_fault : Int32) (sc_token : Int32) (sc_start : Int32) (sc_end : Int32) (sc_numberRead : Int64) (sc_escaped : Int32) (sc_bytesBehind : Int32) (sh_names : Nat → Int32) (sh_nameLengths : Nat → Int32) (sh_groups : Nat → Int32) (sh_types : Nat → Int32) (sh_flat : Nat → Int32) (sh_size : Int32) (dr_items : Nat → Int32) (dr_behindBy : Nat → Int32) (dr_steps : Nat → Int32) (dr_literalTypes : Nat → Int32) (dr_numbers : Nat → Int64) (dr_textStarts : Nat → Int32) (dr_textLengths : Nat → Int32) (dr_textBytes : Nat → Int32) (dr_itemCount : Int32) (dr_byCount : Int32) (dr_stepCount : Int32) (dr_literalCount : Int32) (dr_textEnd : Int32) (tp_bytes : Nat → Int32) (tp_size : Int32) (p1 : Int32) (r : Int32) (o_pa_fault : Int32) (o_sc_token : Int32) (o_sc_start : Int32) (o_sc_end : Int32) (o_sc_numberRead : Int64) (o_sc_escaped : Int32) (o_sc_bytesBehind : Int32) (o_dr_literalTypes : Nat → Int32) (o_dr_numbers : Nat → Int64) (o_dr_textStarts : Nat → Int32) (o_dr_textLengths : Nat → Int32) (o_dr_textBytes : Nat → Int32) (o_dr_literalCount : Int32) (o_dr_textEnd : Int32) (hf : f_X0_readLiteral p1 pa_fault sc_token sc_start sc_end sc_numberRead sc_escaped sc_bytesBehind sh_types sh_size dr_literalTypes dr_numbers dr_textStarts dr_textLengths dr_textBytes dr_literalCount dr_textEnd tp_bytes tp_size = some (r, o_pa_fault, o_sc_token, o_sc_start, o_sc_end, o_sc_numberRead, o_sc_escaped, o_sc_bytesBehind, o_dr_literalTypes, o_dr_numbers, o_dr_textStarts, o_dr_textLengths, o_dr_textBytes, o_dr_literalCount, o_dr_textEnd)) : CI l yX0_readLiteral (Cond.code yX0_readLiteral cX0_readLiteral 8 (some .boolean)) { frames := 6, cells := 0, slots := 0, locals := 130 } E [.ref (a_pa 0), .int p1] (w_pa_sc_sh_dr_tp E a_pa a_sc a_sh a_dr a_tp pa_itemPlaces pa_waitingSigns pa_waitingPlaces pa_waiting pa_nested pa_fault sc_token sc_start sc_end sc_numberRead sc_escaped sc_bytesBehind sh_names sh_nameLengths sh_groups sh_types sh_flat sh_size dr_items dr_behindBy dr_steps dr_literalTypes dr_numbers dr_textStarts dr_textLengths dr_textBytes dr_itemCount dr_byCount dr_stepCount dr_literalCount dr_textEnd tp_bytes tp_size) r (w_pa_sc_sh_dr_tp E a_pa a_sc a_sh a_dr a_tp pa_itemPlaces pa_waitingSigns pa_waitingPlaces pa_waiting pa_nested o_pa_fault o_sc_token o_sc_start o_sc_end o_sc_numberRead o_sc_escaped o_sc_bytesBehind sh_names sh_nameLengths sh_groups sh_types sh_flat sh_size dr_items dr_behindBy dr_steps o_dr_literalTypes o_dr_numbers o_dr_textStarts o_dr_textLengths o_dr_textBytes dr_itemCount dr_byCount dr_stepCount o_dr_literalCount o_dr_textEnd tp_bytes tp_size) := by
  intro sz
  refine met_start [(0, .ref (a_pa 0)), (1, .int p1)] (by decide) rfl rfl (Nat.le_of_ble_eq_true rfl) rfl ?_
  intro p e s m below meth c ls C hnm hmt hw hl
  have hx := C.1
  have hb := C.2.1
  generalize va_A (w_pa_sc_sh_dr_tp E a_pa a_sc a_sh a_dr a_tp pa_itemPlaces pa_waitingSigns pa_waitingPlaces pa_waiting pa_nested pa_fault sc_token sc_start sc_end sc_numberRead sc_escaped sc_bytesBehind sh_names sh_nameLengths sh_groups sh_types sh_flat sh_size dr_items dr_behindBy dr_steps dr_literalTypes dr_numbers dr_textStarts dr_textLengths dr_textBytes dr_itemCount dr_byCount dr_stepCount dr_literalCount dr_textEnd tp_bytes tp_size) sz = A at C hw ⊢
  unfold f_X0_readLiteral at hf
  refine lv_aload_n hx hb dX0_readLiteral_0 rfl (lv_at hl 0 rfl) ?_
  refine fg_X0_37 C hw 0 rfl rfl dX0_readLiteral_1 ?_
  refine fg_X0_54 C hw 4 rfl rfl dX0_readLiteral_4 ?_
  refine lv_istore_n (lv' := [(2, .int sc_start), (0, .ref (a_pa 0)), (1, .int p1)]) hx hb dX0_readLiteral_7 rfl hl (by decide) rfl (fun ls hl => ?_)
  refine lv_aload_n hx hb dX0_readLiteral_8 rfl (lv_at hl 1 rfl) ?_
  refine fg_X0_12 C hw 0 rfl rfl dX0_readLiteral_9 ?_
  refine fg_X0_147 C hw 11 rfl rfl dX0_readLiteral_12 ?_
  refine lv_istore_n (lv' := [(3, .int dr_textEnd), (2, .int sc_start), (0, .ref (a_pa 0)), (1, .int p1)]) hx hb dX0_readLiteral_15 rfl hl (by decide) rfl (fun ls hl => ?_)
  refine lv_iconst (v := 0) hx hb dX0_readLiteral_16 (by decide) ?_
  refine lv_istore (lv' := [(4, .int (0 : Int32)), (3, .int dr_textEnd), (2, .int sc_start), (0, .ref (a_pa 0)), (1, .int p1)]) hx hb dX0_readLiteral_17 hl (by decide) rfl (fun ls hl => ?_)
  refine lv_lconst (v := 0) hx hb dX0_readLiteral_19 (by decide) ?_
  refine lv_lstore (lv' := [(5, .long (0 : Int64)), (4, .int (0 : Int32)), (3, .int dr_textEnd), (2, .int sc_start), (0, .ref (a_pa 0)), (1, .int p1)]) hx hb dX0_readLiteral_20 hl (by decide) rfl (fun ls hl => ?_)
  refine lv_iconst (v := -1) hx hb dX0_readLiteral_22 (by decide) ?_
  refine lv_istore (lv' := [(7, .int (-1 : Int32)), (5, .long (0 : Int64)), (4, .int (0 : Int32)), (3, .int dr_textEnd), (2, .int sc_start), (0, .ref (a_pa 0)), (1, .int p1)]) hx hb dX0_readLiteral_23 hl (by decide) rfl (fun ls hl => ?_)
  refine lv_aload_n hx hb dX0_readLiteral_25 rfl (lv_at hl 5 rfl) ?_
  refine fg_X0_37 C hw 0 rfl rfl dX0_readLiteral_26 ?_
  refine fg_X0_51 C hw 4 rfl rfl dX0_readLiteral_29 ?_
  by_cases k32_10 : sc_token = (10 : Int32)
  · replace hf := it_t k32_10 hf
    refine lv_tab (off := 52) (tgt := 84) hx hb dX0_readLiteral_32 (by rw [k32_10]; rfl) (by decide) ?_
    refine lv_lconst (v := 1) hx hb dX0_readLiteral_84 (by decide) ?_
    refine lv_lstore (lv' := [(5, .long (1 : Int64)), (7, .int (-1 : Int32)), (4, .int (0 : Int32)), (3, .int dr_textEnd), (2, .int sc_start), (0, .ref (a_pa 0)), (1, .int p1)]) hx hb dX0_readLiteral_85 hl (by decide) rfl (fun ls hl => ?_)
    refine lv_goto (tgt := 139) hx hb dX0_readLiteral_87 (by decide) ?_
    exact w_X0_readLiteral_139 C hw (lv_sub hl [5, 6, 4, 3, 2, 0, 1] rfl) hf
  replace hf := it_f k32_10 hf
  by_cases k32_11 : sc_token = (11 : Int32)
  · replace hf := it_t k32_11 hf
    refine lv_tab (off := 58) (tgt := 90) hx hb dX0_readLiteral_32 (by rw [k32_11]; rfl) (by decide) ?_
    refine lv_goto (tgt := 139) hx hb dX0_readLiteral_90 (by decide) ?_
    exact w_X0_readLiteral_139 C hw (lv_sub hl [5, 6, 4, 3, 2, 1, 0] rfl) hf
  replace hf := it_f k32_11 hf
  by_cases k32_17 : sc_token = (17 : Int32)
  · replace hf := it_t k32_17 hf
    refine lv_tab (off := 61) (tgt := 93) hx hb dX0_readLiteral_32 (by rw [k32_17]; rfl) (by decide) ?_
    refine lv_iconst (v := 2) hx hb dX0_readLiteral_93 (by decide) ?_
    refine lv_istore (lv' := [(4, .int (2 : Int32)), (7, .int (-1 : Int32)), (5, .long (0 : Int64)), (3, .int dr_textEnd), (2, .int sc_start), (0, .ref (a_pa 0)), (1, .int p1)]) hx hb dX0_readLiteral_94 hl (by decide) rfl (fun ls hl => ?_)
    refine lv_aload_n hx hb dX0_readLiteral_96 rfl (lv_at hl 5 rfl) ?_
    refine fg_X0_37 C hw 0 rfl rfl dX0_readLiteral_97 ?_
    obtain ⟨x1, x2, x3, z3, hf⟩ := ob3_el hf
    refine cI_V C hw (c_X2_readNumber l E a_sc a_tp sc_token sc_start sc_end sc_numberRead sc_escaped sc_bytesBehind tp_bytes tp_size x1 x2 x3 z3) cs_X0_150 ⟨Nat.le_of_ble_eq_true rfl, Nat.le_of_ble_eq_true rfl⟩ ⟨rfl, rfl⟩ (ci := 2) (cn := (RX2, TX2, 7)) rfl (q0 := 4) rfl (wn := w_pa_sc_sh_dr_tp E a_pa a_sc a_sh a_dr a_tp pa_itemPlaces pa_waitingSigns pa_waitingPlaces pa_waiting pa_nested pa_fault sc_token sc_start x2 x3 sc_escaped sc_bytesBehind sh_names sh_nameLengths sh_groups sh_types sh_flat sh_size dr_items dr_behindBy dr_steps dr_literalTypes dr_numbers dr_textStarts dr_textLengths dr_textBytes dr_itemCount dr_byCount dr_stepCount dr_literalCount dr_textEnd tp_bytes tp_size) ⟨[4, 20, 21], [0, 1, 2, 3, 5, 6, 7, 8, 9, 10, 11, 12, 13, 14, 15, 16, 17, 18, 19], [0, 1, 2, 3, 19, 4, 5, 6, 7, 8, 9, 10, 11, 12, 13, 14, 15, 16, 17, 18, 20, 21], rfl, rfl, rfl, rfl, by decide, rfl, rfl⟩ rfl hl.1 rfl (Nat.le_of_ble_eq_true rfl) dX0_readLiteral_100 ⟨Nat.zero_le _, Nat.zero_le _⟩ (fun H locs hw => ?_)
    refine lv_istore (lv' := [(7, .int x1), (4, .int (2 : Int32)), (5, .long (0 : Int64)), (3, .int dr_textEnd), (2, .int sc_start), (0, .ref (a_pa 0)), (1, .int p1)]) hx hb dX0_readLiteral_103 hl (by decide) rfl (fun ls hl => ?_)
    refine lv_aload_n hx hb dX0_readLiteral_105 rfl (lv_at hl 5 rfl) ?_
    refine fg_X0_37 C hw 0 rfl rfl dX0_readLiteral_106 ?_
    refine fg_X0_153 C hw 4 rfl rfl dX0_readLiteral_109 ?_
    refine lv_lstore (lv' := [(5, .long x3), (7, .int x1), (4, .int (2 : Int32)), (3, .int dr_textEnd), (2, .int sc_start), (0, .ref (a_pa 0)), (1, .int p1)]) hx hb dX0_readLiteral_112 hl (by decide) rfl (fun ls hl => ?_)
    refine lv_goto (tgt := 139) hx hb dX0_readLiteral_114 (by decide) ?_
    exact w_X0_readLiteral_139 C hw (lv_sub hl [5, 6, 4, 3, 2, 0, 1] rfl) hf
  replace hf := it_f k32_17 hf
  by_cases k32_18 : sc_token = (18 : Int32)
  · replace hf := it_t k32_18 hf
    refine lv_tab (off := 85) (tgt := 117) hx hb dX0_readLiteral_32 (by rw [k32_18]; rfl) (by decide) ?_
    refine lv_iconst (v := 3) hx hb dX0_readLiteral_117 (by decide) ?_
    refine lv_istore (lv' := [(4, .int (3 : Int32)), (7, .int (-1 : Int32)), (5, .long (0 : Int64)), (3, .int dr_textEnd), (2, .int sc_start), (0, .ref (a_pa 0)), (1, .int p1)]) hx hb dX0_readLiteral_118 hl (by decide) rfl (fun ls hl => ?_)
    refine lv_aload_n hx hb dX0_readLiteral_120 rfl (lv_at hl 5 rfl) ?_
    refine fg_X0_37 C hw 0 rfl rfl dX0_readLiteral_121 ?_
    refine lv_aload_n hx hb dX0_readLiteral_124 rfl (lv_at hl 5 rfl) ?_
    refine fg_X0_12 C hw 0 rfl rfl dX0_readLiteral_125 ?_
    obtain ⟨x4, x5, x6, x7, x8, x9, z9, hf⟩ := ob6_el hf
    refine cI_V C hw (c_X2_readText l E a_sc a_tp a_dr sc_token sc_start sc_end sc_numberRead sc_escaped sc_bytesBehind tp_bytes tp_size dr_items dr_behindBy dr_steps dr_literalTypes dr_numbers dr_textStarts dr_textLengths dr_textBytes dr_itemCount dr_byCount dr_stepCount dr_literalCount dr_textEnd x4 x5 x6 x7 x8 x9 z9) cs_X0_157 ⟨Nat.le_of_ble_eq_true rfl, Nat.le_of_ble_eq_true rfl⟩ ⟨rfl, rfl⟩ (ci := 2) (cn := (RX2, TX2, 7)) rfl (q0 := 4) rfl (wn := w_pa_sc_sh_dr_tp E a_pa a_sc a_sh a_dr a_tp pa_itemPlaces pa_waitingSigns pa_waitingPlaces pa_waiting pa_nested pa_fault sc_token sc_start x5 sc_numberRead x6 x7 sh_names sh_nameLengths sh_groups sh_types sh_flat sh_size dr_items dr_behindBy dr_steps dr_literalTypes dr_numbers dr_textStarts dr_textLengths x8 dr_itemCount dr_byCount dr_stepCount dr_literalCount x9 tp_bytes tp_size) ⟨[4, 20, 21, 11, 12, 13, 14, 15, 16, 17, 18, 19], [0, 1, 2, 3, 5, 6, 7, 8, 9, 10], [0, 1, 2, 3, 10, 4, 5, 6, 7, 8, 9, 13, 14, 15, 16, 17, 18, 19, 20, 21, 11, 12], rfl, rfl, rfl, rfl, by decide, rfl, rfl⟩ rfl hl.1 rfl (Nat.le_of_ble_eq_true rfl) dX0_readLiteral_128 ⟨Nat.zero_le _, Nat.zero_le _⟩ (fun H locs hw => ?_)
    refine lv_istore (lv' := [(7, .int x4), (4, .int (3 : Int32)), (5, .long (0 : Int64)), (3, .int dr_textEnd), (2, .int sc_start), (0, .ref (a_pa 0)), (1, .int p1)]) hx hb dX0_readLiteral_131 hl (by decide) rfl (fun ls hl => ?_)
    refine lv_goto (tgt := 139) hx hb dX0_readLiteral_133 (by decide) ?_
    exact w_X0_readLiteral_139 C hw (lv_sub hl [5, 6, 4, 3, 1, 2, 0] rfl) hf
  replace hf := it_f k32_18 hf
  have n10 := lv_neT k32_10 (a := 10) rfl
  have n11 := lv_neT k32_11 (a := 11) rfl
  have n17 := lv_neT k32_17 (a := 17) rfl
  have n18 := lv_neT k32_18 (a := 18) rfl
  have hq : (if sc_token.toInt < 10 ∨ 18 < sc_token.toInt then some (104 : Int) else (#[52, 58, 104, 104, 104, 104, 104, 61, 85] : Array Int)[(sc_token.toInt - 10).toNat]?) = some (104) := by
    by_cases hq : sc_token.toInt < 10 ∨ 18 < sc_token.toInt
    · rw [if_pos hq]
    · rw [if_neg hq]
      rcases (show sc_token.toInt = 10 ∨ sc_token.toInt = 11 ∨ sc_token.toInt = 12 ∨ sc_token.toInt = 13 ∨ sc_token.toInt = 14 ∨ sc_token.toInt = 15 ∨ sc_token.toInt = 16 ∨ sc_token.toInt = 17 ∨ sc_token.toInt = 18 by omega) with q | q | q | q | q | q | q | q | q
      · exact absurd q n10
      · exact absurd q n11
      · rw [q]; rfl
      · rw [q]; rfl
      · rw [q]; rfl
      · rw [q]; rfl
      · rw [q]; rfl
      · exact absurd q n17
      · exact absurd q n18
  refine lv_tab (off := 104) (tgt := 136) hx hb dX0_readLiteral_32 hq (by decide) ?_
  refine lv_iload_n hx hb dX0_readLiteral_136 rfl (lv_at hl 4 rfl) ?_
  refine lv_istore (lv' := [(7, .int sc_start), (5, .long (0 : Int64)), (4, .int (0 : Int32)), (3, .int dr_textEnd), (2, .int sc_start), (0, .ref (a_pa 0)), (1, .int p1)]) hx hb dX0_readLiteral_137 hl (by decide) rfl (fun ls hl => ?_)
  exact w_X0_readLiteral_139 C hw (lv_sub hl [5, 6, 4, 3, 2, 1, 0] rfl) hf
def f_X0_readIn_74 (l1 : Int32) (l2 : Int32) (l3 : Int32) (pa_fault : Int32) (sc_token : Int32) (sc_start : Int32) (sc_end : Int32) (sc_numberRead : Int64) (sc_escaped : Int32) (sc_bytesBehind : Int32) (dr_steps : Nat → Int32) (dr_literalTypes : Nat → Int32) (dr_numbers : Nat → Int64) (dr_textStarts : Nat → Int32) (dr_textLengths : Nat → Int32) (dr_textBytes : Nat → Int32) (dr_stepCount : Int32) (dr_literalCount : Int32) (dr_textEnd : Int32) (tp_bytes : Nat → Int32) (tp_size : Int32) : Option ((Int32) × (Int32) × (Int32) × (Int32) × (Int32) × (Int64) × (Int32) × (Int32) × (Nat → Int32) × (Nat → Int32) × (Nat → Int64) × (Nat → Int32) × (Nat → Int32) × (Nat → Int32) × (Int32) × (Int32) × (Int32)) :=
  on (dr_literalCount - l3) (fun x1 =>
  ob5 (f_X0_take (21 : Int32) pa_fault sc_token sc_start sc_end tp_bytes tp_size) (fun x2 x3 x4 x5 x6 =>
  if x2 = (0 : Int32) then (some ((0 : Int32), x3, x4, x5, x6, sc_numberRead, sc_escaped, sc_bytesBehind, dr_steps, dr_literalTypes, dr_numbers, dr_textStarts, dr_textLengths, dr_textBytes, dr_stepCount, dr_literalCount, dr_textEnd))
  else (ob3 (f_X1_addStep (2 : Int32) l1 (-1 : Int32) l3 x1 dr_steps dr_stepCount) (fun x7 x8 x9 =>
  if x7 = (0 : Int32) then (ob2 (f_X0_refuse l2 x3) (fun x10 x11 =>
  if x10 = (0 : Int32) then (some ((0 : Int32), x11, x4, x5, x6, sc_numberRead, sc_escaped, sc_bytesBehind, x8, dr_literalTypes, dr_numbers, dr_textStarts, dr_textLengths, dr_textBytes, x9, dr_literalCount, dr_textEnd))
  else (some ((1 : Int32), x11, x4, x5, x6, sc_numberRead, sc_escaped, sc_bytesBehind, x8, dr_literalTypes, dr_numbers, dr_textStarts, dr_textLengths, dr_textBytes, x9, dr_literalCount, dr_textEnd))))
  else (some ((1 : Int32), x3, x4, x5, x6, sc_numberRead, sc_escaped, sc_bytesBehind, x8, dr_literalTypes, dr_numbers, dr_textStarts, dr_textLengths, dr_textBytes, x9, dr_literalCount, dr_textEnd))))))
set_option maxHeartbeats 4000000 in
set_option maxRecDepth 100000 in
theorem w_X0_readIn_74 {p : Program} {l : Launch} {e : Env} {s : State} {m : MethodId} {args : Array Value} {below : List Frame} {meth : Method} {c : Code} {E : EnvT} {A : Nat → Prop} {a_pa : Nat → Nat} {a_sc : Nat → Nat} {a_sh : Nat → Nat} {a_dr : Nat → Nat} {a_tp : Nat → Nat} {pa_itemPlaces : Nat → Int32} {pa_waitingSigns : Nat → Int32} {pa_waitingPlaces : Nat → Int32} {pa_waiting : Int32} {pa_nested : Int32} {sh_names : Nat → Int32} {sh_nameLengths : Nat → Int32} {sh_groups : Nat → Int32} {sh_types : Nat → Int32} {sh_flat : Nat → Int32} {sh_size : Int32} {dr_items : Nat → Int32} {dr_behindBy : Nat → Int32} {dr_itemCount : Int32} {dr_byCount : Int32} {r : Int32} {o_pa_fault : Int32} {o_sc_token : Int32} {o_sc_start : Int32} {o_sc_end : Int32} {o_sc_numberRead : Int64} {o_sc_escaped : Int32} {o_sc_bytesBehind : Int32} {o_dr_steps : Nat → Int32} {o_dr_literalTypes : Nat → Int32} {o_dr_numbers : Nat → Int64} {o_dr_textStarts : Nat → Int32} {o_dr_textLengths : Nat → Int32} {o_dr_textBytes : Nat → Int32} {o_dr_stepCount : Int32} {o_dr_literalCount : Int32} {o_dr_textEnd : Int32} {l1 : Int32} {l2 : Int32} {l3 : Int32} {pa_fault : Int32} {sc_token : Int32} {sc_start : Int32} {sc_end : Int32} {sc_numberRead : Int64} {sc_escaped : Int32} {sc_bytesBehind : Int32} {dr_steps : Nat → Int32} {dr_literalTypes : Nat → Int32} {dr_numbers : Nat → Int64} {dr_textStarts : Nat → Int32} {dr_textLengths : Nat → Int32} {dr_textBytes : Nat → Int32} {dr_stepCount : Int32} {dr_literalCount : Int32} {dr_textEnd : Int32} {tp_bytes : Nat → Int32} {tp_size : Int32} {H : Heap} {locs : List Loc} {ls : Array Slot} (C : MC p s m args meth c E A cX0_readIn 5 RX0 (some .boolean)) (hw : WS E A s (w_pa_sc_sh_dr_tp E a_pa a_sc a_sh a_dr a_tp pa_itemPlaces pa_waitingSigns pa_waitingPlaces pa_waiting pa_nested pa_fault sc_token sc_start sc_end sc_numberRead sc_escaped sc_bytesBehind sh_names sh_nameLengths sh_groups sh_types sh_flat sh_size dr_items dr_behindBy dr_steps dr_literalTypes dr_numbers dr_textStarts dr_textLengths dr_textBytes dr_itemCount dr_byCount dr_stepCount dr_literalCount dr_textEnd tp_bytes tp_size) H locs) (hl : lv_has ls 5 [(0, .ref (a_pa 0)), (1, .int l1), (2, .int l2), (3, .int l3)]) (hf : f_X0_readIn_74 l1 l2 l3 pa_fault sc_token sc_start sc_end sc_numberRead sc_escaped sc_bytesBehind dr_steps dr_literalTypes dr_numbers dr_textStarts dr_textLengths dr_textBytes dr_stepCount dr_literalCount dr_textEnd tp_bytes tp_size = some (r, o_pa_fault, o_sc_token, o_sc_start, o_sc_end, o_sc_numberRead, o_sc_escaped, o_sc_bytesBehind, o_dr_steps, o_dr_literalTypes, o_dr_numbers, o_dr_textStarts, o_dr_textLengths, o_dr_textBytes, o_dr_stepCount, o_dr_literalCount, o_dr_textEnd)) : W p l e { frames := 7, cells := 0, slots := 0, locals := 157 } s m args below meth c H locs 0 0 (MQ below (QcI E A (w_pa_sc_sh_dr_tp E a_pa a_sc a_sh a_dr a_tp pa_itemPlaces pa_waitingSigns pa_waitingPlaces pa_waiting pa_nested o_pa_fault o_sc_token o_sc_start o_sc_end o_sc_numberRead o_sc_escaped o_sc_bytesBehind sh_names sh_nameLengths sh_groups sh_types sh_flat sh_size dr_items dr_behindBy o_dr_steps o_dr_literalTypes o_dr_numbers o_dr_textStarts o_dr_textLengths o_dr_textBytes dr_itemCount dr_byCount o_dr_stepCount o_dr_literalCount o_dr_textEnd tp_bytes tp_size) r) args s 0 0 A) (F0 m 74 ls []) := by
  have hx := C.1
  have hb := C.2.1
  unfold f_X0_readIn_74 at hf
  refine lv_aload_n hx hb dX0_readIn_74 rfl (lv_at hl 0 rfl) ?_
  refine fg_X0_12 C hw 0 rfl rfl dX0_readIn_75 ?_
  refine fg_X0_138 C hw 11 rfl rfl dX0_readIn_78 ?_
  refine lv_iload_n hx hb dX0_readIn_81 rfl (lv_at hl 3 rfl) ?_
  refine lv_isub hx hb dX0_readIn_82 ?_
  obtain ⟨x1, ex1, hf⟩ := on_el hf
  refine tp_i ex1 ?_
  refine lv_istore (lv' := [(4, .int x1), (0, .ref (a_pa 0)), (1, .int l1), (2, .int l2), (3, .int l3)]) hx hb dX0_readIn_83 hl (by decide) rfl (fun ls hl => ?_)
  refine lv_aload_n hx hb dX0_readIn_85 rfl (lv_at hl 1 rfl) ?_
  refine lv_bipush (v := 21) hx hb dX0_readIn_86 (by decide) ?_
  obtain ⟨x2, x3, x4, x5, x6, z6, hf⟩ := ob5_el hf
  refine cI_V C hw (c_X0_take l E a_pa a_sc a_sh a_dr a_tp pa_itemPlaces pa_waitingSigns pa_waitingPlaces pa_waiting pa_nested pa_fault sc_token sc_start sc_end sc_numberRead sc_escaped sc_bytesBehind sh_names sh_nameLengths sh_groups sh_types sh_flat sh_size dr_items dr_behindBy dr_steps dr_literalTypes dr_numbers dr_textStarts dr_textLengths dr_textBytes dr_itemCount dr_byCount dr_stepCount dr_literalCount dr_textEnd tp_bytes tp_size (21 : Int32) x2 x3 x4 x5 x6 z6) cs_X0_64 ⟨Nat.le_of_ble_eq_true rfl, Nat.le_of_ble_eq_true rfl⟩ ⟨rfl, rfl⟩ (ci := 0) (cn := (RX0, TX0, 9)) rfl (q0 := 0) rfl (wn := w_pa_sc_sh_dr_tp E a_pa a_sc a_sh a_dr a_tp pa_itemPlaces pa_waitingSigns pa_waitingPlaces pa_waiting pa_nested x3 x4 x5 x6 sc_numberRead sc_escaped sc_bytesBehind sh_names sh_nameLengths sh_groups sh_types sh_flat sh_size dr_items dr_behindBy dr_steps dr_literalTypes dr_numbers dr_textStarts dr_textLengths dr_textBytes dr_itemCount dr_byCount dr_stepCount dr_literalCount dr_textEnd tp_bytes tp_size) (Jn.all _ _) rfl hl.1 rfl (Nat.le_of_ble_eq_true rfl) dX0_readIn_88 ⟨Nat.zero_le _, Nat.zero_le _⟩ (fun H locs hw => ?_)
  refine lv_if_eq (tgt := 122) hx hb dX0_readIn_91 (by decide) (fun c91 => ?_) (fun c91 => ?_)
  · replace hf := it_t c91 hf
    refine lv_iconst (v := 0) hx hb dX0_readIn_122 (by decide) ?_
    cases hf
    exact rt_z C hw (Or.inl rfl) dX0_readIn_123
  · replace hf := it_f c91 hf
    refine lv_aload_n hx hb dX0_readIn_94 rfl (lv_at hl 1 rfl) ?_
    refine fg_X0_12 C hw 0 rfl rfl dX0_readIn_95 ?_
    refine lv_iconst (v := 2) hx hb dX0_readIn_98 (by decide) ?_
    refine lv_iload_n hx hb dX0_readIn_99 rfl (lv_at hl 2 rfl) ?_
    refine lv_iconst (v := -1) hx hb dX0_readIn_100 (by decide) ?_
    refine lv_iload_n hx hb dX0_readIn_101 rfl (lv_at hl 4 rfl) ?_
    refine lv_iload hx hb dX0_readIn_102 (lv_at hl 0 rfl) ?_
    obtain ⟨x7, x8, x9, z9, hf⟩ := ob3_el hf
    refine cI_V C hw (c_X1_addStep l E a_dr dr_items dr_behindBy dr_steps dr_literalTypes dr_numbers dr_textStarts dr_textLengths dr_textBytes dr_itemCount dr_byCount dr_stepCount dr_literalCount dr_textEnd (2 : Int32) l1 (-1 : Int32) l3 x1 x7 x8 x9 z9) cs_X0_125 ⟨Nat.le_of_ble_eq_true rfl, Nat.le_of_ble_eq_true rfl⟩ ⟨rfl, rfl⟩ (ci := 1) (cn := (RX1, TX1, 13)) rfl (q0 := 11) rfl (wn := w_pa_sc_sh_dr_tp E a_pa a_sc a_sh a_dr a_tp pa_itemPlaces pa_waitingSigns pa_waitingPlaces pa_waiting pa_nested x3 x4 x5 x6 sc_numberRead sc_escaped sc_bytesBehind sh_names sh_nameLengths sh_groups sh_types sh_flat sh_size dr_items dr_behindBy x8 dr_literalTypes dr_numbers dr_textStarts dr_textLengths dr_textBytes dr_itemCount dr_byCount x9 dr_literalCount dr_textEnd tp_bytes tp_size) ⟨[11, 12, 13, 14, 15, 16, 17, 18, 19], [0, 1, 2, 3, 4, 5, 6, 7, 8, 9, 10, 20, 21], [0, 1, 2, 3, 4, 5, 6, 7, 8, 9, 10, 13, 14, 15, 16, 17, 18, 19, 20, 21, 11, 12], rfl, rfl, rfl, rfl, by decide, rfl, rfl⟩ rfl hl.1 rfl (Nat.le_of_ble_eq_true rfl) dX0_readIn_104 ⟨Nat.zero_le _, Nat.zero_le _⟩ (fun H locs hw => ?_)
    refine lv_if_ne (tgt := 118) hx hb dX0_readIn_107 (by decide) (fun c107 => ?_) (fun c107 => ?_)
    · replace hf := it_f c107 hf
      refine lv_iconst (v := 1) hx hb dX0_readIn_118 (by decide) ?_
      refine lv_goto (tgt := 123) hx hb dX0_readIn_119 (by decide) ?_
      cases hf
      exact rt_z C hw (Or.inr rfl) dX0_readIn_123
    · replace hf := it_t c107 hf
      refine lv_aload_n hx hb dX0_readIn_110 rfl (lv_at hl 1 rfl) ?_
      refine lv_iload_n hx hb dX0_readIn_111 rfl (lv_at hl 3 rfl) ?_
      obtain ⟨x10, x11, z11, hf⟩ := ob2_el hf
      refine cI_V C hw (c_X0_refuse l E a_pa a_sc a_sh a_dr a_tp pa_itemPlaces pa_waitingSigns pa_waitingPlaces pa_waiting pa_nested x3 x4 x5 x6 sc_numberRead sc_escaped sc_bytesBehind sh_names sh_nameLengths sh_groups sh_types sh_flat sh_size dr_items dr_behindBy x8 dr_literalTypes dr_numbers dr_textStarts dr_textLengths dr_textBytes dr_itemCount dr_byCount x9 dr_literalCount dr_textEnd tp_bytes tp_size l2 x10 x11 z11) cs_X0_57 ⟨Nat.le_of_ble_eq_true rfl, Nat.le_of_ble_eq_true rfl⟩ ⟨rfl, rfl⟩ (ci := 0) (cn := (RX0, TX0, 9)) rfl (q0 := 0) rfl (wn := w_pa_sc_sh_dr_tp E a_pa a_sc a_sh a_dr a_tp pa_itemPlaces pa_waitingSigns pa_waitingPlaces pa_waiting pa_nested x11 x4 x5 x6 sc_numberRead sc_escaped sc_bytesBehind sh_names sh_nameLengths sh_groups sh_types sh_flat sh_size dr_items dr_behindBy x8 dr_literalTypes dr_numbers dr_textStarts dr_textLengths dr_textBytes dr_itemCount dr_byCount x9 dr_literalCount dr_textEnd tp_bytes tp_size) (Jn.all _ _) rfl hl.1 rfl (Nat.le_of_ble_eq_true rfl) dX0_readIn_112 ⟨Nat.zero_le _, Nat.zero_le _⟩ (fun H locs hw => ?_)
      refine lv_if_eq (tgt := 122) hx hb dX0_readIn_115 (by decide) (fun c115 => ?_) (fun c115 => ?_)
      · replace hf := it_t c115 hf
        refine lv_iconst (v := 0) hx hb dX0_readIn_122 (by decide) ?_
        cases hf
        exact rt_z C hw (Or.inl rfl) dX0_readIn_123
      · replace hf := it_f c115 hf
        refine lv_iconst (v := 1) hx hb dX0_readIn_118 (by decide) ?_
        refine lv_goto (tgt := 123) hx hb dX0_readIn_119 (by decide) ?_
        cases hf
        exact rt_z C hw (Or.inr rfl) dX0_readIn_123
def f_X0_readIn_29 : Nat → (Int32) → (Int32) → (Int32) → (Int32) → (Int32) → (Int32) → (Int32) → (Int32) → (Int64) → (Int32) → (Int32) → (Nat → Int32) → (Int32) → (Nat → Int32) → (Nat → Int32) → (Nat → Int64) → (Nat → Int32) → (Nat → Int32) → (Nat → Int32) → (Int32) → (Int32) → (Int32) → (Nat → Int32) → (Int32) → Option ((Int32) × (Int32) × (Int32) × (Int32) × (Int32) × (Int64) × (Int32) × (Int32) × (Nat → Int32) × (Nat → Int32) × (Nat → Int64) × (Nat → Int32) × (Nat → Int32) × (Nat → Int32) × (Int32) × (Int32) × (Int32))
  | 0, _, _, _, _, _, _, _, _, _, _, _, _, _, _, _, _, _, _, _, _, _, _, _, _ => none
  | n + 1, l1, l2, l3, l4, pa_fault, sc_token, sc_start, sc_end, sc_numberRead, sc_escaped, sc_bytesBehind, sh_types, sh_size, dr_steps, dr_literalTypes, dr_numbers, dr_textStarts, dr_textLengths, dr_textBytes, dr_stepCount, dr_literalCount, dr_textEnd, tp_bytes, tp_size =>
  if (64 : Int32) < l4 then (f_X0_readIn_74 l1 l2 l3 pa_fault sc_token sc_start sc_end sc_numberRead sc_escaped sc_bytesBehind dr_steps dr_literalTypes dr_numbers dr_textStarts dr_textLengths dr_textBytes dr_stepCount dr_literalCount dr_textEnd tp_bytes tp_size)
  else (ob15 (f_X0_readLiteral l1 pa_fault sc_token sc_start sc_end sc_numberRead sc_escaped sc_bytesBehind sh_types sh_size dr_literalTypes dr_numbers dr_textStarts dr_textLengths dr_textBytes dr_literalCount dr_textEnd tp_bytes tp_size) (fun x1 x2 x3 x4 x5 x6 x7 x8 x9 x10 x11 x12 x13 x14 x15 =>
  if x1 = (0 : Int32) then (some ((0 : Int32), x2, x3, x4, x5, x6, x7, x8, dr_steps, x9, x10, x11, x12, x13, dr_stepCount, x14, x15))
  else (if x3 = (19 : Int32) then (ob3 (f_X2_advance x3 x4 x5 tp_bytes tp_size) (fun x16 x17 x18 =>
  on (l4 + (1 : Int32)) (fun x19 =>
  f_X0_readIn_29 n l1 l2 l3 x19 x2 x16 x17 x18 x6 x7 x8 sh_types sh_size dr_steps x9 x10 x11 x12 x13 dr_stepCount x14 x15 tp_bytes tp_size)))
  else (f_X0_readIn_74 l1 l2 l3 x2 x3 x4 x5 x6 x7 x8 dr_steps x9 x10 x11 x12 x13 dr_stepCount x14 x15 tp_bytes tp_size))))
set_option maxHeartbeats 4000000 in
set_option maxRecDepth 100000 in
theorem w_X0_readIn_29 {p : Program} {l : Launch} {e : Env} {s : State} {m : MethodId} {args : Array Value} {below : List Frame} {meth : Method} {c : Code} {E : EnvT} {A : Nat → Prop} {a_pa : Nat → Nat} {a_sc : Nat → Nat} {a_sh : Nat → Nat} {a_dr : Nat → Nat} {a_tp : Nat → Nat} {pa_itemPlaces : Nat → Int32} {pa_waitingSigns : Nat → Int32} {pa_waitingPlaces : Nat → Int32} {pa_waiting : Int32} {pa_nested : Int32} {sh_names : Nat → Int32} {sh_nameLengths : Nat → Int32} {sh_groups : Nat → Int32} {sh_flat : Nat → Int32} {dr_items : Nat → Int32} {dr_behindBy : Nat → Int32} {dr_itemCount : Int32} {dr_byCount : Int32} {r : Int32} {o_pa_fault : Int32} {o_sc_token : Int32} {o_sc_start : Int32} {o_sc_end : Int32} {o_sc_numberRead : Int64} {o_sc_escaped : Int32} {o_sc_bytesBehind : Int32} {o_dr_steps : Nat → Int32} {o_dr_literalTypes : Nat → Int32} {o_dr_numbers : Nat → Int64} {o_dr_textStarts : Nat → Int32} {o_dr_textLengths : Nat → Int32} {o_dr_textBytes : Nat → Int32} {o_dr_stepCount : Int32} {o_dr_literalCount : Int32} {o_dr_textEnd : Int32} (C : MC p s m args meth c E A cX0_readIn 5 RX0 (some .boolean)) : ∀ (n : Nat) {l1 : Int32} {l2 : Int32} {l3 : Int32} {l4 : Int32} {pa_fault : Int32} {sc_token : Int32} {sc_start : Int32} {sc_end : Int32} {sc_numberRead : Int64} {sc_escaped : Int32} {sc_bytesBehind : Int32} {sh_types : Nat → Int32} {sh_size : Int32} {dr_steps : Nat → Int32} {dr_literalTypes : Nat → Int32} {dr_numbers : Nat → Int64} {dr_textStarts : Nat → Int32} {dr_textLengths : Nat → Int32} {dr_textBytes : Nat → Int32} {dr_stepCount : Int32} {dr_literalCount : Int32} {dr_textEnd : Int32} {tp_bytes : Nat → Int32} {tp_size : Int32} {H : Heap} {locs : List Loc} {ls : Array Slot}, WS E A s (w_pa_sc_sh_dr_tp E a_pa a_sc a_sh a_dr a_tp pa_itemPlaces pa_waitingSigns pa_waitingPlaces pa_waiting pa_nested pa_fault sc_token sc_start sc_end sc_numberRead sc_escaped sc_bytesBehind sh_names sh_nameLengths sh_groups sh_types sh_flat sh_size dr_items dr_behindBy dr_steps dr_literalTypes dr_numbers dr_textStarts dr_textLengths dr_textBytes dr_itemCount dr_byCount dr_stepCount dr_literalCount dr_textEnd tp_bytes tp_size) H locs → lv_has ls 5 [(0, .ref (a_pa 0)), (1, .int l1), (2, .int l2), (3, .int l3), (4, .int l4)] → f_X0_readIn_29 n l1 l2 l3 l4 pa_fault sc_token sc_start sc_end sc_numberRead sc_escaped sc_bytesBehind sh_types sh_size dr_steps dr_literalTypes dr_numbers dr_textStarts dr_textLengths dr_textBytes dr_stepCount dr_literalCount dr_textEnd tp_bytes tp_size = some (r, o_pa_fault, o_sc_token, o_sc_start, o_sc_end, o_sc_numberRead, o_sc_escaped, o_sc_bytesBehind, o_dr_steps, o_dr_literalTypes, o_dr_numbers, o_dr_textStarts, o_dr_textLengths, o_dr_textBytes, o_dr_stepCount, o_dr_literalCount, o_dr_textEnd) → W p l e { frames := 7, cells := 0, slots := 0, locals := 157 } s m args below meth c H locs 0 0 (MQ below (QcI E A (w_pa_sc_sh_dr_tp E a_pa a_sc a_sh a_dr a_tp pa_itemPlaces pa_waitingSigns pa_waitingPlaces pa_waiting pa_nested o_pa_fault o_sc_token o_sc_start o_sc_end o_sc_numberRead o_sc_escaped o_sc_bytesBehind sh_names sh_nameLengths sh_groups sh_types sh_flat sh_size dr_items dr_behindBy o_dr_steps o_dr_literalTypes o_dr_numbers o_dr_textStarts o_dr_textLengths o_dr_textBytes dr_itemCount dr_byCount o_dr_stepCount o_dr_literalCount o_dr_textEnd tp_bytes tp_size) r) args s 0 0 A) (F0 m 29 ls []) := by
  have hx := C.1
  have hb := C.2.1
  intro n
  induction n with
  | zero =>
    intro l1 l2 l3 l4 pa_fault sc_token sc_start sc_end sc_numberRead sc_escaped sc_bytesBehind sh_types sh_size dr_steps dr_literalTypes dr_numbers dr_textStarts dr_textLengths dr_textBytes dr_stepCount dr_literalCount dr_textEnd tp_bytes tp_size H locs ls hw hl hf
    unfold f_X0_readIn_29 at hf
    cases hf
  | succ n ih =>
    intro l1 l2 l3 l4 pa_fault sc_token sc_start sc_end sc_numberRead sc_escaped sc_bytesBehind sh_types sh_size dr_steps dr_literalTypes dr_numbers dr_textStarts dr_textLengths dr_textBytes dr_stepCount dr_literalCount dr_textEnd tp_bytes tp_size H locs ls hw hl hf
    unfold f_X0_readIn_29 at hf
    refine lv_iload hx hb dX0_readIn_29 (lv_at hl 4 rfl) ?_
    refine lv_bipush (v := 64) hx hb dX0_readIn_31 (by decide) ?_
    refine lv_icmp_gt (tgt := 74) hx hb dX0_readIn_33 (by decide) (fun c33 => ?_) (fun c33 => ?_)
    · replace hf := it_t c33 hf
      exact w_X0_readIn_74 C hw (lv_sub hl [0, 1, 2, 3] rfl) hf
    · replace hf := it_f c33 hf
      refine lv_aload_n hx hb dX0_readIn_36 rfl (lv_at hl 0 rfl) ?_
      refine lv_iload_n hx hb dX0_readIn_37 rfl (lv_at hl 1 rfl) ?_
      obtain ⟨x1, x2, x3, x4, x5, x6, x7, x8, x9, x10, x11, x12, x13, x14, x15, z15, hf⟩ := ob15_el hf
      refine cI_V C hw (c_X0_readLiteral l E a_pa a_sc a_sh a_dr a_tp pa_itemPlaces pa_waitingSigns pa_waitingPlaces pa_waiting pa_nested pa_fault sc_token sc_start sc_end sc_numberRead sc_escaped sc_bytesBehind sh_names sh_nameLengths sh_groups sh_types sh_flat sh_size dr_items dr_behindBy dr_steps dr_literalTypes dr_numbers dr_textStarts dr_textLengths dr_textBytes dr_itemCount dr_byCount dr_stepCount dr_literalCount dr_textEnd tp_bytes tp_size l1 x1 x2 x3 x4 x5 x6 x7 x8 x9 x10 x11 x12 x13 x14 x15 z15) cs_X0_141 ⟨Nat.le_of_ble_eq_true rfl, Nat.le_of_ble_eq_true rfl⟩ ⟨rfl, rfl⟩ (ci := 0) (cn := (RX0, TX0, 9)) rfl (q0 := 0) rfl (wn := w_pa_sc_sh_dr_tp E a_pa a_sc a_sh a_dr a_tp pa_itemPlaces pa_waitingSigns pa_waitingPlaces pa_waiting pa_nested x2 x3 x4 x5 x6 x7 x8 sh_names sh_nameLengths sh_groups sh_types sh_flat sh_size dr_items dr_behindBy dr_steps x9 x10 x11 x12 x13 dr_itemCount dr_byCount dr_stepCount x14 x15 tp_bytes tp_size) (Jn.all _ _) rfl hl.1 rfl (Nat.le_of_ble_eq_true rfl) dX0_readIn_38 ⟨Nat.zero_le _, Nat.zero_le _⟩ (fun H locs hw => ?_)
      refine lv_if_ne (tgt := 46) hx hb dX0_readIn_41 (by decide) (fun c41 => ?_) (fun c41 => ?_)
      · replace hf := it_f c41 hf
        refine lv_aload_n hx hb dX0_readIn_46 rfl (lv_at hl 0 rfl) ?_
        refine fg_X0_37 C hw 0 rfl rfl dX0_readIn_47 ?_
        refine fg_X0_51 C hw 4 rfl rfl dX0_readIn_50 ?_
        refine lv_bipush (v := 19) hx hb dX0_readIn_53 (by decide) ?_
        refine lv_icmp_eq (tgt := 61) hx hb dX0_readIn_55 (by decide) (fun c55 => ?_) (fun c55 => ?_)
        · replace hf := it_t c55 hf
          refine lv_aload_n hx hb dX0_readIn_61 rfl (lv_at hl 0 rfl) ?_
          refine fg_X0_37 C hw 0 rfl rfl dX0_readIn_62 ?_
          obtain ⟨x16, x17, x18, z18, hf⟩ := ob3_el hf
          refine cV_V C hw (c_X2_advance l E a_sc a_tp x3 x4 x5 x6 x7 x8 tp_bytes tp_size x16 x17 x18 z18) cs_X0_61 ⟨Nat.le_of_ble_eq_true rfl, Nat.le_of_ble_eq_true rfl⟩ ⟨rfl, rfl⟩ (ci := 2) (cn := (RX2, TX2, 7)) rfl (q0 := 4) rfl (wn := w_pa_sc_sh_dr_tp E a_pa a_sc a_sh a_dr a_tp pa_itemPlaces pa_waitingSigns pa_waitingPlaces pa_waiting pa_nested x2 x16 x17 x18 x6 x7 x8 sh_names sh_nameLengths sh_groups sh_types sh_flat sh_size dr_items dr_behindBy dr_steps x9 x10 x11 x12 x13 dr_itemCount dr_byCount dr_stepCount x14 x15 tp_bytes tp_size) ⟨[4, 20, 21], [0, 1, 2, 3, 5, 6, 7, 8, 9, 10, 11, 12, 13, 14, 15, 16, 17, 18, 19], [0, 1, 2, 3, 19, 4, 5, 6, 7, 8, 9, 10, 11, 12, 13, 14, 15, 16, 17, 18, 20, 21], rfl, rfl, rfl, rfl, by decide, rfl, rfl⟩ rfl hl.1 rfl (Nat.le_of_ble_eq_true rfl) dX0_readIn_65 ⟨Nat.zero_le _, Nat.zero_le _⟩ (fun H locs hw => ?_)
          obtain ⟨x19, ex19, hf⟩ := on_el hf
          refine lv_iinc (v := x19) (lv' := [(4, .int x19), (0, .ref (a_pa 0)), (1, .int l1), (2, .int l2), (3, .int l3)]) hx hb dX0_readIn_68 hl (k := 4) rfl (by rw [← ex19]; rfl) (by decide) rfl (fun ls hl => ?_)
          refine lv_goto (tgt := 29) hx hb dX0_readIn_71 (by decide) ?_
          exact ih hw (lv_sub hl [1, 2, 3, 4, 0] rfl) hf
        · replace hf := it_f c55 hf
          refine lv_goto (tgt := 74) hx hb dX0_readIn_58 (by decide) ?_
          exact w_X0_readIn_74 C hw (lv_sub hl [0, 1, 2, 3] rfl) hf
      · replace hf := it_t c41 hf
        refine lv_iconst (v := 0) hx hb dX0_readIn_44 (by decide) ?_
        cases hf
        exact rt_z C hw (Or.inl rfl) dX0_readIn_45
def f_X0_readIn (p1 : Int32) (p2 : Int32) (pa_fault : Int32) (sc_token : Int32) (sc_start : Int32) (sc_end : Int32) (sc_numberRead : Int64) (sc_escaped : Int32) (sc_bytesBehind : Int32) (sh_types : Nat → Int32) (sh_size : Int32) (dr_steps : Nat → Int32) (dr_literalTypes : Nat → Int32) (dr_numbers : Nat → Int64) (dr_textStarts : Nat → Int32) (dr_textLengths : Nat → Int32) (dr_textBytes : Nat → Int32) (dr_stepCount : Int32) (dr_literalCount : Int32) (dr_textEnd : Int32) (tp_bytes : Nat → Int32) (tp_size : Int32) : Option ((Int32) × (Int32) × (Int32) × (Int32) × (Int32) × (Int64) × (Int32) × (Int32) × (Nat → Int32) × (Nat → Int32) × (Nat → Int64) × (Nat → Int32) × (Nat → Int32) × (Nat → Int32) × (Int32) × (Int32) × (Int32)) :=
  ob3 (f_X2_advance sc_token sc_start sc_end tp_bytes tp_size) (fun x1 x2 x3 =>
  ob5 (f_X0_take (20 : Int32) pa_fault x1 x2 x3 tp_bytes tp_size) (fun x4 x5 x6 x7 x8 =>
  if x4 = (0 : Int32) then (some ((0 : Int32), x5, x6, x7, x8, sc_numberRead, sc_escaped, sc_bytesBehind, dr_steps, dr_literalTypes, dr_numbers, dr_textStarts, dr_textLengths, dr_textBytes, dr_stepCount, dr_literalCount, dr_textEnd))
  else (f_X0_readIn_29 FU p1 p2 dr_literalCount (0 : Int32) x5 x6 x7 x8 sc_numberRead sc_escaped sc_bytesBehind sh_types sh_size dr_steps dr_literalTypes dr_numbers dr_textStarts dr_textLengths dr_textBytes dr_stepCount dr_literalCount dr_textEnd tp_bytes tp_size)))
set_option maxHeartbeats 4000000 in
set_option maxRecDepth 100000 in
theorem c_X0_readIn (l : Launch) (E : EnvT) (a_pa : Nat → Nat) (a_sc : Nat → Nat) (a_sh : Nat → Nat) (a_dr : Nat → Nat) (a_tp : Nat → Nat) (pa_itemPlaces : Nat → Int32) (pa_waitingSigns : Nat → Int32) (pa_waitingPlaces : Nat → Int32) (pa_waiting : Int32) (pa_nested : Int32) (pa_fault : Int32) (sc_token : Int32) (sc_start : Int32) (sc_end : Int32) (sc_numberRead : Int64) (sc_escaped : Int32) (sc_bytesBehind : Int32) (sh_names : Nat → Int32) (sh_nameLengths : Nat → Int32) (sh_groups : Nat → Int32) (sh_types : Nat → Int32) (sh_flat : Nat → Int32) (sh_size : Int32) (dr_items : Nat → Int32) (dr_behindBy : Nat → Int32) (dr_steps : Nat → Int32) (dr_literalTypes : Nat → Int32) (dr_numbers : Nat → Int64) (dr_textStarts : Nat → Int32) (dr_textLengths : Nat → Int32) (dr_textBytes : Nat → Int32) (dr_itemCount : Int32) (dr_byCount : Int32) (dr_stepCount : Int32) (dr_literalCount : Int32) (dr_textEnd : Int32) (tp_bytes : Nat → Int32) (tp_size : Int32) (p1 : Int32) (p2 : Int32) (r : Int32) (o_pa_fault : Int32) (o_sc_token : Int32) (o_sc_start : Int32) (o_sc_end : Int32) (o_sc_numberRead : Int64) (o_sc_escaped : Int32) (o_sc_bytesBehind : Int32) (o_dr_steps : Nat → Int32) (o_dr_literalTypes : Nat → Int32) (o_dr_numbers : Nat → Int64) (o_dr_textStarts : Nat → Int32) (o_dr_textLengths : Nat → Int32) (o_dr_textBytes : Nat → Int32) (o_dr_stepCount : Int32) (o_dr_literalCount : Int32) (o_dr_textEnd : Int32) (hf : f_X0_readIn p1 p2 pa_fault sc_token sc_start sc_end sc_numberRead sc_escaped sc_bytesBehind sh_types sh_size dr_steps dr_literalTypes dr_numbers dr_textStarts dr_textLengths dr_textBytes dr_stepCount dr_literalCount dr_textEnd tp_bytes tp_size = some (r, o_pa_fault, o_sc_token, o_sc_start, o_sc_end, o_sc_numberRead, o_sc_escaped, o_sc_bytesBehind, o_dr_steps, o_dr_literalTypes, o_dr_numbers, o_dr_textStarts, o_dr_textLengths, o_dr_textBytes, o_dr_stepCount, o_dr_literalCount, o_dr_textEnd)) : CI l yX0_readIn (Cond.code yX0_readIn cX0_readIn 5 (some .boolean)) { frames := 7, cells := 0, slots := 0, locals := 157 } E [.ref (a_pa 0), .int p1, .int p2] (w_pa_sc_sh_dr_tp E a_pa a_sc a_sh a_dr a_tp pa_itemPlaces pa_waitingSigns pa_waitingPlaces pa_waiting pa_nested pa_fault sc_token sc_start sc_end sc_numberRead sc_escaped sc_bytesBehind sh_names sh_nameLengths sh_groups sh_types sh_flat sh_size dr_items dr_behindBy dr_steps dr_literalTypes dr_numbers dr_textStarts dr_textLengths dr_textBytes dr_itemCount dr_byCount dr_stepCount dr_literalCount dr_textEnd tp_bytes tp_size) r (w_pa_sc_sh_dr_tp E a_pa a_sc a_sh a_dr a_tp pa_itemPlaces pa_waitingSigns pa_waitingPlaces pa_waiting pa_nested o_pa_fault o_sc_token o_sc_start o_sc_end o_sc_numberRead o_sc_escaped o_sc_bytesBehind sh_names sh_nameLengths sh_groups sh_types sh_flat sh_size dr_items dr_behindBy o_dr_steps o_dr_literalTypes o_dr_numbers o_dr_textStarts o_dr_textLengths o_dr_textBytes dr_itemCount dr_byCount o_dr_stepCount o_dr_literalCount o_dr_textEnd tp_bytes tp_size) := by
  intro sz
  refine met_start [(0, .ref (a_pa 0)), (1, .int p1), (2, .int p2)] (by decide) rfl rfl (Nat.le_of_ble_eq_true rfl) rfl ?_
  intro p e s m below meth c ls C hnm hmt hw hl
  have hx := C.1
  have hb := C.2.1
  generalize va_A (w_pa_sc_sh_dr_tp E a_pa a_sc a_sh a_dr a_tp pa_itemPlaces pa_waitingSigns pa_waitingPlaces pa_waiting pa_nested pa_fault sc_token sc_start sc_end sc_numberRead sc_escaped sc_bytesBehind sh_names sh_nameLengths sh_groups sh_types sh_flat sh_size dr_items dr_behindBy dr_steps dr_literalTypes dr_numbers dr_textStarts dr_textLengths dr_textBytes dr_itemCount dr_byCount dr_stepCount dr_literalCount dr_textEnd tp_bytes tp_size) sz = A at C hw ⊢
  unfold f_X0_readIn at hf
  refine lv_aload_n hx hb dX0_readIn_0 rfl (lv_at hl 0 rfl) ?_
  refine fg_X0_37 C hw 0 rfl rfl dX0_readIn_1 ?_
  obtain ⟨x1, x2, x3, z3, hf⟩ := ob3_el hf
  refine cV_V C hw (c_X2_advance l E a_sc a_tp sc_token sc_start sc_end sc_numberRead sc_escaped sc_bytesBehind tp_bytes tp_size x1 x2 x3 z3) cs_X0_61 ⟨Nat.le_of_ble_eq_true rfl, Nat.le_of_ble_eq_true rfl⟩ ⟨rfl, rfl⟩ (ci := 2) (cn := (RX2, TX2, 7)) rfl (q0 := 4) rfl (wn := w_pa_sc_sh_dr_tp E a_pa a_sc a_sh a_dr a_tp pa_itemPlaces pa_waitingSigns pa_waitingPlaces pa_waiting pa_nested pa_fault x1 x2 x3 sc_numberRead sc_escaped sc_bytesBehind sh_names sh_nameLengths sh_groups sh_types sh_flat sh_size dr_items dr_behindBy dr_steps dr_literalTypes dr_numbers dr_textStarts dr_textLengths dr_textBytes dr_itemCount dr_byCount dr_stepCount dr_literalCount dr_textEnd tp_bytes tp_size) ⟨[4, 20, 21], [0, 1, 2, 3, 5, 6, 7, 8, 9, 10, 11, 12, 13, 14, 15, 16, 17, 18, 19], [0, 1, 2, 3, 19, 4, 5, 6, 7, 8, 9, 10, 11, 12, 13, 14, 15, 16, 17, 18, 20, 21], rfl, rfl, rfl, rfl, by decide, rfl, rfl⟩ rfl hl.1 rfl (Nat.le_of_ble_eq_true rfl) dX0_readIn_4 ⟨Nat.zero_le _, Nat.zero_le _⟩ (fun H locs hw => ?_)
  refine lv_aload_n hx hb dX0_readIn_7 rfl (lv_at hl 0 rfl) ?_
  refine lv_bipush (v := 20) hx hb dX0_readIn_8 (by decide) ?_
  obtain ⟨x4, x5, x6, x7, x8, z8, hf⟩ := ob5_el hf
  refine cI_V C hw (c_X0_take l E a_pa a_sc a_sh a_dr a_tp pa_itemPlaces pa_waitingSigns pa_waitingPlaces pa_waiting pa_nested pa_fault x1 x2 x3 sc_numberRead sc_escaped sc_bytesBehind sh_names sh_nameLengths sh_groups sh_types sh_flat sh_size dr_items dr_behindBy dr_steps dr_literalTypes dr_numbers dr_textStarts dr_textLengths dr_textBytes dr_itemCount dr_byCount dr_stepCount dr_literalCount dr_textEnd tp_bytes tp_size (20 : Int32) x4 x5 x6 x7 x8 z8) cs_X0_64 ⟨Nat.le_of_ble_eq_true rfl, Nat.le_of_ble_eq_true rfl⟩ ⟨rfl, rfl⟩ (ci := 0) (cn := (RX0, TX0, 9)) rfl (q0 := 0) rfl (wn := w_pa_sc_sh_dr_tp E a_pa a_sc a_sh a_dr a_tp pa_itemPlaces pa_waitingSigns pa_waitingPlaces pa_waiting pa_nested x5 x6 x7 x8 sc_numberRead sc_escaped sc_bytesBehind sh_names sh_nameLengths sh_groups sh_types sh_flat sh_size dr_items dr_behindBy dr_steps dr_literalTypes dr_numbers dr_textStarts dr_textLengths dr_textBytes dr_itemCount dr_byCount dr_stepCount dr_literalCount dr_textEnd tp_bytes tp_size) (Jn.all _ _) rfl hl.1 rfl (Nat.le_of_ble_eq_true rfl) dX0_readIn_10 ⟨Nat.zero_le _, Nat.zero_le _⟩ (fun H locs hw => ?_)
  refine lv_if_ne (tgt := 18) hx hb dX0_readIn_13 (by decide) (fun c13 => ?_) (fun c13 => ?_)
  · replace hf := it_f c13 hf
    refine lv_aload_n hx hb dX0_readIn_18 rfl (lv_at hl 0 rfl) ?_
    refine fg_X0_12 C hw 0 rfl rfl dX0_readIn_19 ?_
    refine fg_X0_138 C hw 11 rfl rfl dX0_readIn_22 ?_
    refine lv_istore_n (lv' := [(3, .int dr_literalCount), (0, .ref (a_pa 0)), (1, .int p1), (2, .int p2)]) hx hb dX0_readIn_25 rfl hl (by decide) rfl (fun ls hl => ?_)
    refine lv_iconst (v := 0) hx hb dX0_readIn_26 (by decide) ?_
    refine lv_istore (lv' := [(4, .int (0 : Int32)), (3, .int dr_literalCount), (0, .ref (a_pa 0)), (1, .int p1), (2, .int p2)]) hx hb dX0_readIn_27 hl (by decide) rfl (fun ls hl => ?_)
    exact w_X0_readIn_29 C FU hw (lv_sub hl [2, 3, 4, 1, 0] rfl) hf
  · replace hf := it_t c13 hf
    refine lv_iconst (v := 0) hx hb dX0_readIn_16 (by decide) ?_
    cases hf
    exact rt_z C hw (Or.inl rfl) dX0_readIn_17
def f_X0_readCompared (p1 : Int32) (p2 : Int32) (pa_fault : Int32) (sc_token : Int32) (sc_start : Int32) (sc_end : Int32) (sc_numberRead : Int64) (sc_escaped : Int32) (sc_bytesBehind : Int32) (sh_names : Nat → Int32) (sh_nameLengths : Nat → Int32) (sh_groups : Nat → Int32) (sh_types : Nat → Int32) (sh_flat : Nat → Int32) (sh_size : Int32) (dr_steps : Nat → Int32) (dr_literalTypes : Nat → Int32) (dr_numbers : Nat → Int64) (dr_textStarts : Nat → Int32) (dr_textLengths : Nat → Int32) (dr_textBytes : Nat → Int32) (dr_stepCount : Int32) (dr_literalCount : Int32) (dr_textEnd : Int32) (tp_bytes : Nat → Int32) (tp_size : Int32) : Option ((Int32) × (Int32) × (Int32) × (Int32) × (Int32) × (Int64) × (Int32) × (Int32) × (Nat → Int32) × (Nat → Int32) × (Nat → Int64) × (Nat → Int32) × (Nat → Int32) × (Nat → Int32) × (Int32) × (Int32) × (Int32)) :=
  on (sc_token - (22 : Int32)) (fun x1 =>
  ob3 (f_X2_advance sc_token sc_start sc_end tp_bytes tp_size) (fun x2 x3 x4 =>
  if x2 = (16 : Int32) then (ob5 (f_X0_readPath pa_fault x2 x3 x4 sh_names sh_nameLengths sh_groups sh_size tp_bytes tp_size) (fun x5 x6 x7 x8 x9 =>
  if x5 = (-1 : Int32) then (some ((0 : Int32), x6, x7, x8, x9, sc_numberRead, sc_escaped, sc_bytesBehind, dr_steps, dr_literalTypes, dr_numbers, dr_textStarts, dr_textLengths, dr_textBytes, dr_stepCount, dr_literalCount, dr_textEnd))
  else (ob1 (f_X3_isFlatValue x5 sh_types sh_flat sh_size) (fun x10 =>
  if x10 = (0 : Int32) then (ob2 (f_X0_refuse x3 x6) (fun x11 x12 =>
  gz x11 (some (x11, x12, x7, x8, x9, sc_numberRead, sc_escaped, sc_bytesBehind, dr_steps, dr_literalTypes, dr_numbers, dr_textStarts, dr_textLengths, dr_textBytes, dr_stepCount, dr_literalCount, dr_textEnd))))
  else (ob1 (f_X3_typeOf p1 sh_types sh_size) (fun x13 =>
  ob1 (f_X3_typeOf x5 sh_types sh_size) (fun x14 =>
  ob1 (f_X0_canCompare x13 x14) (fun x15 =>
  if x15 = (0 : Int32) then (ob2 (f_X0_refuse x3 x6) (fun x21 x22 =>
  gz x21 (some (x21, x22, x7, x8, x9, sc_numberRead, sc_escaped, sc_bytesBehind, dr_steps, dr_literalTypes, dr_numbers, dr_textStarts, dr_textLengths, dr_textBytes, dr_stepCount, dr_literalCount, dr_textEnd))))
  else (ob3 (f_X1_addStep (4 : Int32) p1 x1 x5 (0 : Int32) dr_steps dr_stepCount) (fun x16 x17 x18 =>
  if x16 = (0 : Int32) then (ob2 (f_X0_refuse p2 x6) (fun x19 x20 =>
  if x19 = (0 : Int32) then (some ((0 : Int32), x20, x7, x8, x9, sc_numberRead, sc_escaped, sc_bytesBehind, x17, dr_literalTypes, dr_numbers, dr_textStarts, dr_textLengths, dr_textBytes, x18, dr_literalCount, dr_textEnd))
  else (some ((1 : Int32), x20, x7, x8, x9, sc_numberRead, sc_escaped, sc_bytesBehind, x17, dr_literalTypes, dr_numbers, dr_textStarts, dr_textLengths, dr_textBytes, x18, dr_literalCount, dr_textEnd))))
  else (some ((1 : Int32), x6, x7, x8, x9, sc_numberRead, sc_escaped, sc_bytesBehind, x17, dr_literalTypes, dr_numbers, dr_textStarts, dr_textLengths, dr_textBytes, x18, dr_literalCount, dr_textEnd))))))))))))
  else (ob15 (f_X0_readLiteral p1 pa_fault x2 x3 x4 sc_numberRead sc_escaped sc_bytesBehind sh_types sh_size dr_literalTypes dr_numbers dr_textStarts dr_textLengths dr_textBytes dr_literalCount dr_textEnd tp_bytes tp_size) (fun x23 x24 x25 x26 x27 x28 x29 x30 x31 x32 x33 x34 x35 x36 x37 =>
  if x23 = (0 : Int32) then (some ((0 : Int32), x24, x25, x26, x27, x28, x29, x30, dr_steps, x31, x32, x33, x34, x35, dr_stepCount, x36, x37))
  else (ob3 (f_X1_addStep (3 : Int32) p1 x1 dr_literalCount (1 : Int32) dr_steps dr_stepCount) (fun x38 x39 x40 =>
  if x38 = (0 : Int32) then (ob2 (f_X0_refuse p2 x24) (fun x41 x42 =>
  if x41 = (0 : Int32) then (some ((0 : Int32), x42, x25, x26, x27, x28, x29, x30, x39, x31, x32, x33, x34, x35, x40, x36, x37))
  else (some ((1 : Int32), x42, x25, x26, x27, x28, x29, x30, x39, x31, x32, x33, x34, x35, x40, x36, x37))))
  else (some ((1 : Int32), x24, x25, x26, x27, x28, x29, x30, x39, x31, x32, x33, x34, x35, x40, x36, x37))))))))
set_option maxHeartbeats 4000000 in
set_option maxRecDepth 100000 in
theorem c_X0_readCompared (l : Launch) (E : EnvT) (a_pa : Nat → Nat) (a_sc : Nat → Nat) (a_sh : Nat → Nat) (a_dr : Nat → Nat) (a_tp : Nat → Nat) (pa_itemPlaces : Nat → Int32) (pa_waitingSigns : Nat → Int32) (pa_waitingPlaces : Nat → Int32) (pa_waiting : Int32) (pa_nested : Int32) (pa_fault : Int32) (sc_token : Int32) (sc_start : Int32) (sc_end : Int32) (sc_numberRead : Int64) (sc_escaped : Int32) (sc_bytesBehind : Int32) (sh_names : Nat → Int32) (sh_nameLengths : Nat → Int32) (sh_groups : Nat → Int32) (sh_types : Nat → Int32) (sh_flat : Nat → Int32) (sh_size : Int32) (dr_items : Nat → Int32) (dr_behindBy : Nat → Int32) (dr_steps : Nat → Int32) (dr_literalTypes : Nat → Int32) (dr_numbers : Nat → Int64) (dr_textStarts : Nat → Int32) (dr_textLengths : Nat → Int32) (dr_textBytes : Nat → Int32) (dr_itemCount : Int32) (dr_byCount : Int32) (dr_stepCount : Int32) (dr_literalCount : Int32) (dr_textEnd : Int32) (tp_bytes : Nat → Int32) (tp_size : Int32) (p1 : Int32) (p2 : Int32) (r : Int32) (o_pa_fault : Int32) (o_sc_token : Int32) (o_sc_start : Int32) (o_sc_end : Int32) (o_sc_numberRead : Int64) (o_sc_escaped : Int32) (o_sc_bytesBehind : Int32) (o_dr_steps : Nat → Int32) (o_dr_literalTypes : Nat → Int32) (o_dr_numbers : Nat → Int64) (o_dr_textStarts : Nat → Int32) (o_dr_textLengths : Nat → Int32) (o_dr_textBytes : Nat → Int32) (o_dr_stepCount : Int32) (o_dr_literalCount : Int32) (o_dr_textEnd : Int32) (hf : f_X0_readCompared p1 p2 pa_fault sc_token sc_start sc_end sc_numberRead sc_escaped sc_bytesBehind sh_names sh_nameLengths sh_groups sh_types sh_flat sh_size dr_steps dr_literalTypes dr_numbers dr_textStarts dr_textLengths dr_textBytes dr_stepCount dr_literalCount dr_textEnd tp_bytes tp_size = some (r, o_pa_fault, o_sc_token, o_sc_start, o_sc_end, o_sc_numberRead, o_sc_escaped, o_sc_bytesBehind, o_dr_steps, o_dr_literalTypes, o_dr_numbers, o_dr_textStarts, o_dr_textLengths, o_dr_textBytes, o_dr_stepCount, o_dr_literalCount, o_dr_textEnd)) : CI l yX0_readCompared (Cond.code yX0_readCompared cX0_readCompared 6 (some .boolean)) { frames := 7, cells := 0, slots := 0, locals := 157 } E [.ref (a_pa 0), .int p1, .int p2] (w_pa_sc_sh_dr_tp E a_pa a_sc a_sh a_dr a_tp pa_itemPlaces pa_waitingSigns pa_waitingPlaces pa_waiting pa_nested pa_fault sc_token sc_start sc_end sc_numberRead sc_escaped sc_bytesBehind sh_names sh_nameLengths sh_groups sh_types sh_flat sh_size dr_items dr_behindBy dr_steps dr_literalTypes dr_numbers dr_textStarts dr_textLengths dr_textBytes dr_itemCount dr_byCount dr_stepCount dr_literalCount dr_textEnd tp_bytes tp_size) r (w_pa_sc_sh_dr_tp E a_pa a_sc a_sh a_dr a_tp pa_itemPlaces pa_waitingSigns pa_waitingPlaces pa_waiting pa_nested o_pa_fault o_sc_token o_sc_start o_sc_end o_sc_numberRead o_sc_escaped o_sc_bytesBehind sh_names sh_nameLengths sh_groups sh_types sh_flat sh_size dr_items dr_behindBy o_dr_steps o_dr_literalTypes o_dr_numbers o_dr_textStarts o_dr_textLengths o_dr_textBytes dr_itemCount dr_byCount o_dr_stepCount o_dr_literalCount o_dr_textEnd tp_bytes tp_size) := by
  intro sz
  refine met_start [(0, .ref (a_pa 0)), (1, .int p1), (2, .int p2)] (by decide) rfl rfl (Nat.le_of_ble_eq_true rfl) rfl ?_
  intro p e s m below meth c ls C hnm hmt hw hl
  have hx := C.1
  have hb := C.2.1
  generalize va_A (w_pa_sc_sh_dr_tp E a_pa a_sc a_sh a_dr a_tp pa_itemPlaces pa_waitingSigns pa_waitingPlaces pa_waiting pa_nested pa_fault sc_token sc_start sc_end sc_numberRead sc_escaped sc_bytesBehind sh_names sh_nameLengths sh_groups sh_types sh_flat sh_size dr_items dr_behindBy dr_steps dr_literalTypes dr_numbers dr_textStarts dr_textLengths dr_textBytes dr_itemCount dr_byCount dr_stepCount dr_literalCount dr_textEnd tp_bytes tp_size) sz = A at C hw ⊢
  unfold f_X0_readCompared at hf
  refine lv_aload_n hx hb dX0_readCompared_0 rfl (lv_at hl 0 rfl) ?_
  refine fg_X0_37 C hw 0 rfl rfl dX0_readCompared_1 ?_
  refine fg_X0_51 C hw 4 rfl rfl dX0_readCompared_4 ?_
  refine lv_bipush (v := 22) hx hb dX0_readCompared_7 (by decide) ?_
  refine lv_isub hx hb dX0_readCompared_9 ?_
  obtain ⟨x1, ex1, hf⟩ := on_el hf
  refine tp_i ex1 ?_
  refine lv_istore_n (lv' := [(3, .int x1), (0, .ref (a_pa 0)), (1, .int p1), (2, .int p2)]) hx hb dX0_readCompared_10 rfl hl (by decide) rfl (fun ls hl => ?_)
  refine lv_aload_n hx hb dX0_readCompared_11 rfl (lv_at hl 1 rfl) ?_
  refine fg_X0_37 C hw 0 rfl rfl dX0_readCompared_12 ?_
  obtain ⟨x2, x3, x4, z4, hf⟩ := ob3_el hf
  refine cV_V C hw (c_X2_advance l E a_sc a_tp sc_token sc_start sc_end sc_numberRead sc_escaped sc_bytesBehind tp_bytes tp_size x2 x3 x4 z4) cs_X0_61 ⟨Nat.le_of_ble_eq_true rfl, Nat.le_of_ble_eq_true rfl⟩ ⟨rfl, rfl⟩ (ci := 2) (cn := (RX2, TX2, 7)) rfl (q0 := 4) rfl (wn := w_pa_sc_sh_dr_tp E a_pa a_sc a_sh a_dr a_tp pa_itemPlaces pa_waitingSigns pa_waitingPlaces pa_waiting pa_nested pa_fault x2 x3 x4 sc_numberRead sc_escaped sc_bytesBehind sh_names sh_nameLengths sh_groups sh_types sh_flat sh_size dr_items dr_behindBy dr_steps dr_literalTypes dr_numbers dr_textStarts dr_textLengths dr_textBytes dr_itemCount dr_byCount dr_stepCount dr_literalCount dr_textEnd tp_bytes tp_size) ⟨[4, 20, 21], [0, 1, 2, 3, 5, 6, 7, 8, 9, 10, 11, 12, 13, 14, 15, 16, 17, 18, 19], [0, 1, 2, 3, 19, 4, 5, 6, 7, 8, 9, 10, 11, 12, 13, 14, 15, 16, 17, 18, 20, 21], rfl, rfl, rfl, rfl, by decide, rfl, rfl⟩ rfl hl.1 rfl (Nat.le_of_ble_eq_true rfl) dX0_readCompared_15 ⟨Nat.zero_le _, Nat.zero_le _⟩ (fun H locs hw => ?_)
  refine lv_aload_n hx hb dX0_readCompared_18 rfl (lv_at hl 1 rfl) ?_
  refine fg_X0_37 C hw 0 rfl rfl dX0_readCompared_19 ?_
  refine fg_X0_51 C hw 4 rfl rfl dX0_readCompared_22 ?_
  refine lv_bipush (v := 16) hx hb dX0_readCompared_25 (by decide) ?_
  refine lv_icmp_eq (tgt := 77) hx hb dX0_readCompared_27 (by decide) (fun c27 => ?_) (fun c27 => ?_)
  · replace hf := it_t c27 hf
    refine lv_aload_n hx hb dX0_readCompared_77 rfl (lv_at hl 1 rfl) ?_
    refine fg_X0_37 C hw 0 rfl rfl dX0_readCompared_78 ?_
    refine fg_X0_54 C hw 4 rfl rfl dX0_readCompared_81 ?_
    refine lv_istore (lv' := [(4, .int x3), (3, .int x1), (0, .ref (a_pa 0)), (1, .int p1), (2, .int p2)]) hx hb dX0_readCompared_84 hl (by decide) rfl (fun ls hl => ?_)
    refine lv_aload_n hx hb dX0_readCompared_86 rfl (lv_at hl 2 rfl) ?_
    obtain ⟨x5, x6, x7, x8, x9, z9, hf⟩ := ob5_el hf
    refine cI_V C hw (c_X0_readPath l E a_pa a_sc a_sh a_dr a_tp pa_itemPlaces pa_waitingSigns pa_waitingPlaces pa_waiting pa_nested pa_fault x2 x3 x4 sc_numberRead sc_escaped sc_bytesBehind sh_names sh_nameLengths sh_groups sh_types sh_flat sh_size dr_items dr_behindBy dr_steps dr_literalTypes dr_numbers dr_textStarts dr_textLengths dr_textBytes dr_itemCount dr_byCount dr_stepCount dr_literalCount dr_textEnd tp_bytes tp_size x5 x6 x7 x8 x9 z9) cs_X0_71 ⟨Nat.le_of_ble_eq_true rfl, Nat.le_of_ble_eq_true rfl⟩ ⟨rfl, rfl⟩ (ci := 0) (cn := (RX0, TX0, 9)) rfl (q0 := 0) rfl (wn := w_pa_sc_sh_dr_tp E a_pa a_sc a_sh a_dr a_tp pa_itemPlaces pa_waitingSigns pa_waitingPlaces pa_waiting pa_nested x6 x7 x8 x9 sc_numberRead sc_escaped sc_bytesBehind sh_names sh_nameLengths sh_groups sh_types sh_flat sh_size dr_items dr_behindBy dr_steps dr_literalTypes dr_numbers dr_textStarts dr_textLengths dr_textBytes dr_itemCount dr_byCount dr_stepCount dr_literalCount dr_textEnd tp_bytes tp_size) (Jn.all _ _) rfl hl.1 rfl (Nat.le_of_ble_eq_true rfl) dX0_readCompared_87 ⟨Nat.zero_le _, Nat.zero_le _⟩ (fun H locs hw => ?_)
    refine lv_istore (lv' := [(5, .int x5), (4, .int x3), (3, .int x1), (0, .ref (a_pa 0)), (1, .int p1), (2, .int p2)]) hx hb dX0_readCompared_90 hl (by decide) rfl (fun ls hl => ?_)
    refine lv_iload hx hb dX0_readCompared_92 (lv_at hl 0 rfl) ?_
    refine lv_iconst (v := -1) hx hb dX0_readCompared_94 (by decide) ?_
    refine lv_icmp_ne (tgt := 100) hx hb dX0_readCompared_95 (by decide) (fun c95 => ?_) (fun c95 => ?_)
    · replace hf := it_f c95 hf
      refine lv_aload_n hx hb dX0_readCompared_100 rfl (lv_at hl 3 rfl) ?_
      refine fg_X0_28 C hw 0 rfl rfl dX0_readCompared_101 ?_
      refine lv_iload hx hb dX0_readCompared_104 (lv_at hl 0 rfl) ?_
      obtain ⟨x10, z10, hf⟩ := ob1_el hf
      refine cI_V C hw (c_X3_isFlatValue l E a_sh a_tp sh_names sh_nameLengths sh_groups sh_types sh_flat sh_size tp_bytes tp_size x5 x10 z10) cs_X0_79 ⟨Nat.le_of_ble_eq_true rfl, Nat.le_of_ble_eq_true rfl⟩ ⟨rfl, rfl⟩ (ci := 3) (cn := (RX3, TX3, 7)) rfl (q0 := 5) rfl (wn := w_pa_sc_sh_dr_tp E a_pa a_sc a_sh a_dr a_tp pa_itemPlaces pa_waitingSigns pa_waitingPlaces pa_waiting pa_nested x6 x7 x8 x9 sc_numberRead sc_escaped sc_bytesBehind sh_names sh_nameLengths sh_groups sh_types sh_flat sh_size dr_items dr_behindBy dr_steps dr_literalTypes dr_numbers dr_textStarts dr_textLengths dr_textBytes dr_itemCount dr_byCount dr_stepCount dr_literalCount dr_textEnd tp_bytes tp_size) ⟨[5, 6, 7, 8, 9, 10, 20, 21], [0, 1, 2, 3, 4, 11, 12, 13, 14, 15, 16, 17, 18, 19], [0, 1, 2, 3, 4, 14, 15, 16, 17, 18, 19, 5, 6, 7, 8, 9, 10, 11, 12, 13, 20, 21], rfl, rfl, rfl, rfl, by decide, rfl, rfl⟩ rfl hl.1 rfl (Nat.le_of_ble_eq_true rfl) dX0_readCompared_106 ⟨Nat.zero_le _, Nat.zero_le _⟩ (fun H locs hw => ?_)
      refine lv_if_eq (tgt := 136) hx hb dX0_readCompared_109 (by decide) (fun c109 => ?_) (fun c109 => ?_)
      · replace hf := it_t c109 hf
        refine lv_aload_n hx hb dX0_readCompared_136 rfl (lv_at hl 3 rfl) ?_
        refine lv_iload hx hb dX0_readCompared_137 (lv_at hl 1 rfl) ?_
        obtain ⟨x11, x12, z12, hf⟩ := ob2_el hf
        refine cI_V C hw (c_X0_refuse l E a_pa a_sc a_sh a_dr a_tp pa_itemPlaces pa_waitingSigns pa_waitingPlaces pa_waiting pa_nested x6 x7 x8 x9 sc_numberRead sc_escaped sc_bytesBehind sh_names sh_nameLengths sh_groups sh_types sh_flat sh_size dr_items dr_behindBy dr_steps dr_literalTypes dr_numbers dr_textStarts dr_textLengths dr_textBytes dr_itemCount dr_byCount dr_stepCount dr_literalCount dr_textEnd tp_bytes tp_size x3 x11 x12 z12) cs_X0_57 ⟨Nat.le_of_ble_eq_true rfl, Nat.le_of_ble_eq_true rfl⟩ ⟨rfl, rfl⟩ (ci := 0) (cn := (RX0, TX0, 9)) rfl (q0 := 0) rfl (wn := w_pa_sc_sh_dr_tp E a_pa a_sc a_sh a_dr a_tp pa_itemPlaces pa_waitingSigns pa_waitingPlaces pa_waiting pa_nested x12 x7 x8 x9 sc_numberRead sc_escaped sc_bytesBehind sh_names sh_nameLengths sh_groups sh_types sh_flat sh_size dr_items dr_behindBy dr_steps dr_literalTypes dr_numbers dr_textStarts dr_textLengths dr_textBytes dr_itemCount dr_byCount dr_stepCount dr_literalCount dr_textEnd tp_bytes tp_size) (Jn.all _ _) rfl hl.1 rfl (Nat.le_of_ble_eq_true rfl) dX0_readCompared_139 ⟨Nat.zero_le _, Nat.zero_le _⟩ (fun H locs hw => ?_)
        obtain ⟨hz, hf⟩ := gz_el hf
        cases hf
        exact rt_z C hw hz dX0_readCompared_142
      · replace hf := it_f c109 hf
        refine lv_aload_n hx hb dX0_readCompared_112 rfl (lv_at hl 3 rfl) ?_
        refine lv_aload_n hx hb dX0_readCompared_113 rfl (lv_at hl 3 rfl) ?_
        refine fg_X0_28 C hw 0 rfl rfl dX0_readCompared_114 ?_
        refine lv_iload_n hx hb dX0_readCompared_117 rfl (lv_at hl 4 rfl) ?_
        obtain ⟨x13, z13, hf⟩ := ob1_el hf
        refine cI_V C hw (c_X3_typeOf l E a_sh a_tp sh_names sh_nameLengths sh_groups sh_types sh_flat sh_size tp_bytes tp_size p1 x13 z13) cs_X0_84 ⟨Nat.le_of_ble_eq_true rfl, Nat.le_of_ble_eq_true rfl⟩ ⟨rfl, rfl⟩ (ci := 3) (cn := (RX3, TX3, 7)) rfl (q0 := 5) rfl (wn := w_pa_sc_sh_dr_tp E a_pa a_sc a_sh a_dr a_tp pa_itemPlaces pa_waitingSigns pa_waitingPlaces pa_waiting pa_nested x6 x7 x8 x9 sc_numberRead sc_escaped sc_bytesBehind sh_names sh_nameLengths sh_groups sh_types sh_flat sh_size dr_items dr_behindBy dr_steps dr_literalTypes dr_numbers dr_textStarts dr_textLengths dr_textBytes dr_itemCount dr_byCount dr_stepCount dr_literalCount dr_textEnd tp_bytes tp_size) ⟨[5, 6, 7, 8, 9, 10, 20, 21], [0, 1, 2, 3, 4, 11, 12, 13, 14, 15, 16, 17, 18, 19], [0, 1, 2, 3, 4, 14, 15, 16, 17, 18, 19, 5, 6, 7, 8, 9, 10, 11, 12, 13, 20, 21], rfl, rfl, rfl, rfl, by decide, rfl, rfl⟩ rfl hl.1 rfl (Nat.le_of_ble_eq_true rfl) dX0_readCompared_118 ⟨Nat.zero_le _, Nat.zero_le _⟩ (fun H locs hw => ?_)
        refine lv_aload_n hx hb dX0_readCompared_121 rfl (lv_at hl 3 rfl) ?_
        refine fg_X0_28 C hw 0 rfl rfl dX0_readCompared_122 ?_
        refine lv_iload hx hb dX0_readCompared_125 (lv_at hl 0 rfl) ?_
        obtain ⟨x14, z14, hf⟩ := ob1_el hf
        refine cI_V C hw (c_X3_typeOf l E a_sh a_tp sh_names sh_nameLengths sh_groups sh_types sh_flat sh_size tp_bytes tp_size x5 x14 z14) cs_X0_84 ⟨Nat.le_of_ble_eq_true rfl, Nat.le_of_ble_eq_true rfl⟩ ⟨rfl, rfl⟩ (ci := 3) (cn := (RX3, TX3, 7)) rfl (q0 := 5) rfl (wn := w_pa_sc_sh_dr_tp E a_pa a_sc a_sh a_dr a_tp pa_itemPlaces pa_waitingSigns pa_waitingPlaces pa_waiting pa_nested x6 x7 x8 x9 sc_numberRead sc_escaped sc_bytesBehind sh_names sh_nameLengths sh_groups sh_types sh_flat sh_size dr_items dr_behindBy dr_steps dr_literalTypes dr_numbers dr_textStarts dr_textLengths dr_textBytes dr_itemCount dr_byCount dr_stepCount dr_literalCount dr_textEnd tp_bytes tp_size) ⟨[5, 6, 7, 8, 9, 10, 20, 21], [0, 1, 2, 3, 4, 11, 12, 13, 14, 15, 16, 17, 18, 19], [0, 1, 2, 3, 4, 14, 15, 16, 17, 18, 19, 5, 6, 7, 8, 9, 10, 11, 12, 13, 20, 21], rfl, rfl, rfl, rfl, by decide, rfl, rfl⟩ rfl hl.1 rfl (Nat.le_of_ble_eq_true rfl) dX0_readCompared_127 ⟨Nat.zero_le _, Nat.zero_le _⟩ (fun H locs hw => ?_)
        obtain ⟨x15, z15, hf⟩ := ob1_el hf
        refine cI_V C hw (c_X0_canCompare l E a_pa a_sc a_sh a_dr a_tp pa_itemPlaces pa_waitingSigns pa_waitingPlaces pa_waiting pa_nested x6 x7 x8 x9 sc_numberRead sc_escaped sc_bytesBehind sh_names sh_nameLengths sh_groups sh_types sh_flat sh_size dr_items dr_behindBy dr_steps dr_literalTypes dr_numbers dr_textStarts dr_textLengths dr_textBytes dr_itemCount dr_byCount dr_stepCount dr_literalCount dr_textEnd tp_bytes tp_size x13 x14 x15 z15) cs_X0_144 ⟨Nat.le_of_ble_eq_true rfl, Nat.le_of_ble_eq_true rfl⟩ ⟨rfl, rfl⟩ (ci := 0) (cn := (RX0, TX0, 9)) rfl (q0 := 0) rfl (wn := w_pa_sc_sh_dr_tp E a_pa a_sc a_sh a_dr a_tp pa_itemPlaces pa_waitingSigns pa_waitingPlaces pa_waiting pa_nested x6 x7 x8 x9 sc_numberRead sc_escaped sc_bytesBehind sh_names sh_nameLengths sh_groups sh_types sh_flat sh_size dr_items dr_behindBy dr_steps dr_literalTypes dr_numbers dr_textStarts dr_textLengths dr_textBytes dr_itemCount dr_byCount dr_stepCount dr_literalCount dr_textEnd tp_bytes tp_size) (Jn.all _ _) rfl hl.1 rfl (Nat.le_of_ble_eq_true rfl) dX0_readCompared_130 ⟨Nat.zero_le _, Nat.zero_le _⟩ (fun H locs hw => ?_)
        refine lv_if_ne (tgt := 143) hx hb dX0_readCompared_133 (by decide) (fun c133 => ?_) (fun c133 => ?_)
        · replace hf := it_f c133 hf
          refine lv_aload_n hx hb dX0_readCompared_143 rfl (lv_at hl 3 rfl) ?_
          refine fg_X0_12 C hw 0 rfl rfl dX0_readCompared_144 ?_
          refine lv_iconst (v := 4) hx hb dX0_readCompared_147 (by decide) ?_
          refine lv_iload_n hx hb dX0_readCompared_148 rfl (lv_at hl 4 rfl) ?_
          refine lv_iload_n hx hb dX0_readCompared_149 rfl (lv_at hl 2 rfl) ?_
          refine lv_iload hx hb dX0_readCompared_150 (lv_at hl 0 rfl) ?_
          refine lv_iconst (v := 0) hx hb dX0_readCompared_152 (by decide) ?_
          obtain ⟨x16, x17, x18, z18, hf⟩ := ob3_el hf
          refine cI_V C hw (c_X1_addStep l E a_dr dr_items dr_behindBy dr_steps dr_literalTypes dr_numbers dr_textStarts dr_textLengths dr_textBytes dr_itemCount dr_byCount dr_stepCount dr_literalCount dr_textEnd (4 : Int32) p1 x1 x5 (0 : Int32) x16 x17 x18 z18) cs_X0_125 ⟨Nat.le_of_ble_eq_true rfl, Nat.le_of_ble_eq_true rfl⟩ ⟨rfl, rfl⟩ (ci := 1) (cn := (RX1, TX1, 13)) rfl (q0 := 11) rfl (wn := w_pa_sc_sh_dr_tp E a_pa a_sc a_sh a_dr a_tp pa_itemPlaces pa_waitingSigns pa_waitingPlaces pa_waiting pa_nested x6 x7 x8 x9 sc_numberRead sc_escaped sc_bytesBehind sh_names sh_nameLengths sh_groups sh_types sh_flat sh_size dr_items dr_behindBy x17 dr_literalTypes dr_numbers dr_textStarts dr_textLengths dr_textBytes dr_itemCount dr_byCount x18 dr_literalCount dr_textEnd tp_bytes tp_size) ⟨[11, 12, 13, 14, 15, 16, 17, 18, 19], [0, 1, 2, 3, 4, 5, 6, 7, 8, 9, 10, 20, 21], [0, 1, 2, 3, 4, 5, 6, 7, 8, 9, 10, 13, 14, 15, 16, 17, 18, 19, 20, 21, 11, 12], rfl, rfl, rfl, rfl, by decide, rfl, rfl⟩ rfl hl.1 rfl (Nat.le_of_ble_eq_true rfl) dX0_readCompared_153 ⟨Nat.zero_le _, Nat.zero_le _⟩ (fun H locs hw => ?_)
          refine lv_if_ne (tgt := 167) hx hb dX0_readCompared_156 (by decide) (fun c156 => ?_) (fun c156 => ?_)
          · replace hf := it_f c156 hf
            refine lv_iconst (v := 1) hx hb dX0_readCompared_167 (by decide) ?_
            refine lv_goto (tgt := 172) hx hb dX0_readCompared_168 (by decide) ?_
            cases hf
            exact rt_z C hw (Or.inr rfl) dX0_readCompared_172
          · replace hf := it_t c156 hf
            refine lv_aload_n hx hb dX0_readCompared_159 rfl (lv_at hl 3 rfl) ?_
            refine lv_iload_n hx hb dX0_readCompared_160 rfl (lv_at hl 5 rfl) ?_
            obtain ⟨x19, x20, z20, hf⟩ := ob2_el hf
            refine cI_V C hw (c_X0_refuse l E a_pa a_sc a_sh a_dr a_tp pa_itemPlaces pa_waitingSigns pa_waitingPlaces pa_waiting pa_nested x6 x7 x8 x9 sc_numberRead sc_escaped sc_bytesBehind sh_names sh_nameLengths sh_groups sh_types sh_flat sh_size dr_items dr_behindBy x17 dr_literalTypes dr_numbers dr_textStarts dr_textLengths dr_textBytes dr_itemCount dr_byCount x18 dr_literalCount dr_textEnd tp_bytes tp_size p2 x19 x20 z20) cs_X0_57 ⟨Nat.le_of_ble_eq_true rfl, Nat.le_of_ble_eq_true rfl⟩ ⟨rfl, rfl⟩ (ci := 0) (cn := (RX0, TX0, 9)) rfl (q0 := 0) rfl (wn := w_pa_sc_sh_dr_tp E a_pa a_sc a_sh a_dr a_tp pa_itemPlaces pa_waitingSigns pa_waitingPlaces pa_waiting pa_nested x20 x7 x8 x9 sc_numberRead sc_escaped sc_bytesBehind sh_names sh_nameLengths sh_groups sh_types sh_flat sh_size dr_items dr_behindBy x17 dr_literalTypes dr_numbers dr_textStarts dr_textLengths dr_textBytes dr_itemCount dr_byCount x18 dr_literalCount dr_textEnd tp_bytes tp_size) (Jn.all _ _) rfl hl.1 rfl (Nat.le_of_ble_eq_true rfl) dX0_readCompared_161 ⟨Nat.zero_le _, Nat.zero_le _⟩ (fun H locs hw => ?_)
            refine lv_if_eq (tgt := 171) hx hb dX0_readCompared_164 (by decide) (fun c164 => ?_) (fun c164 => ?_)
            · replace hf := it_t c164 hf
              refine lv_iconst (v := 0) hx hb dX0_readCompared_171 (by decide) ?_
              cases hf
              exact rt_z C hw (Or.inl rfl) dX0_readCompared_172
            · replace hf := it_f c164 hf
              refine lv_iconst (v := 1) hx hb dX0_readCompared_167 (by decide) ?_
              refine lv_goto (tgt := 172) hx hb dX0_readCompared_168 (by decide) ?_
              cases hf
              exact rt_z C hw (Or.inr rfl) dX0_readCompared_172
        · replace hf := it_t c133 hf
          refine lv_aload_n hx hb dX0_readCompared_136 rfl (lv_at hl 3 rfl) ?_
          refine lv_iload hx hb dX0_readCompared_137 (lv_at hl 1 rfl) ?_
          obtain ⟨x21, x22, z22, hf⟩ := ob2_el hf
          refine cI_V C hw (c_X0_refuse l E a_pa a_sc a_sh a_dr a_tp pa_itemPlaces pa_waitingSigns pa_waitingPlaces pa_waiting pa_nested x6 x7 x8 x9 sc_numberRead sc_escaped sc_bytesBehind sh_names sh_nameLengths sh_groups sh_types sh_flat sh_size dr_items dr_behindBy dr_steps dr_literalTypes dr_numbers dr_textStarts dr_textLengths dr_textBytes dr_itemCount dr_byCount dr_stepCount dr_literalCount dr_textEnd tp_bytes tp_size x3 x21 x22 z22) cs_X0_57 ⟨Nat.le_of_ble_eq_true rfl, Nat.le_of_ble_eq_true rfl⟩ ⟨rfl, rfl⟩ (ci := 0) (cn := (RX0, TX0, 9)) rfl (q0 := 0) rfl (wn := w_pa_sc_sh_dr_tp E a_pa a_sc a_sh a_dr a_tp pa_itemPlaces pa_waitingSigns pa_waitingPlaces pa_waiting pa_nested x22 x7 x8 x9 sc_numberRead sc_escaped sc_bytesBehind sh_names sh_nameLengths sh_groups sh_types sh_flat sh_size dr_items dr_behindBy dr_steps dr_literalTypes dr_numbers dr_textStarts dr_textLengths dr_textBytes dr_itemCount dr_byCount dr_stepCount dr_literalCount dr_textEnd tp_bytes tp_size) (Jn.all _ _) rfl hl.1 rfl (Nat.le_of_ble_eq_true rfl) dX0_readCompared_139 ⟨Nat.zero_le _, Nat.zero_le _⟩ (fun H locs hw => ?_)
          obtain ⟨hz, hf⟩ := gz_el hf
          cases hf
          exact rt_z C hw hz dX0_readCompared_142
    · replace hf := it_t c95 hf
      refine lv_iconst (v := 0) hx hb dX0_readCompared_98 (by decide) ?_
      cases hf
      exact rt_z C hw (Or.inl rfl) dX0_readCompared_99
  · replace hf := it_f c27 hf
    refine lv_aload_n hx hb dX0_readCompared_30 rfl (lv_at hl 1 rfl) ?_
    refine fg_X0_12 C hw 0 rfl rfl dX0_readCompared_31 ?_
    refine fg_X0_138 C hw 11 rfl rfl dX0_readCompared_34 ?_
    refine lv_istore (lv' := [(4, .int dr_literalCount), (3, .int x1), (0, .ref (a_pa 0)), (1, .int p1), (2, .int p2)]) hx hb dX0_readCompared_37 hl (by decide) rfl (fun ls hl => ?_)
    refine lv_aload_n hx hb dX0_readCompared_39 rfl (lv_at hl 2 rfl) ?_
    refine lv_iload_n hx hb dX0_readCompared_40 rfl (lv_at hl 3 rfl) ?_
    obtain ⟨x23, x24, x25, x26, x27, x28, x29, x30, x31, x32, x33, x34, x35, x36, x37, z37, hf⟩ := ob15_el hf
    refine cI_V C hw (c_X0_readLiteral l E a_pa a_sc a_sh a_dr a_tp pa_itemPlaces pa_waitingSigns pa_waitingPlaces pa_waiting pa_nested pa_fault x2 x3 x4 sc_numberRead sc_escaped sc_bytesBehind sh_names sh_nameLengths sh_groups sh_types sh_flat sh_size dr_items dr_behindBy dr_steps dr_literalTypes dr_numbers dr_textStarts dr_textLengths dr_textBytes dr_itemCount dr_byCount dr_stepCount dr_literalCount dr_textEnd tp_bytes tp_size p1 x23 x24 x25 x26 x27 x28 x29 x30 x31 x32 x33 x34 x35 x36 x37 z37) cs_X0_141 ⟨Nat.le_of_ble_eq_true rfl, Nat.le_of_ble_eq_true rfl⟩ ⟨rfl, rfl⟩ (ci := 0) (cn := (RX0, TX0, 9)) rfl (q0 := 0) rfl (wn := w_pa_sc_sh_dr_tp E a_pa a_sc a_sh a_dr a_tp pa_itemPlaces pa_waitingSigns pa_waitingPlaces pa_waiting pa_nested x24 x25 x26 x27 x28 x29 x30 sh_names sh_nameLengths sh_groups sh_types sh_flat sh_size dr_items dr_behindBy dr_steps x31 x32 x33 x34 x35 dr_itemCount dr_byCount dr_stepCount x36 x37 tp_bytes tp_size) (Jn.all _ _) rfl hl.1 rfl (Nat.le_of_ble_eq_true rfl) dX0_readCompared_41 ⟨Nat.zero_le _, Nat.zero_le _⟩ (fun H locs hw => ?_)
    refine lv_if_eq (tgt := 75) hx hb dX0_readCompared_44 (by decide) (fun c44 => ?_) (fun c44 => ?_)
    · replace hf := it_t c44 hf
      refine lv_iconst (v := 0) hx hb dX0_readCompared_75 (by decide) ?_
      cases hf
      exact rt_z C hw (Or.inl rfl) dX0_readCompared_76
    · replace hf := it_f c44 hf
      refine lv_aload_n hx hb dX0_readCompared_47 rfl (lv_at hl 2 rfl) ?_
      refine fg_X0_12 C hw 0 rfl rfl dX0_readCompared_48 ?_
      refine lv_iconst (v := 3) hx hb dX0_readCompared_51 (by decide) ?_
      refine lv_iload_n hx hb dX0_readCompared_52 rfl (lv_at hl 3 rfl) ?_
      refine lv_iload_n hx hb dX0_readCompared_53 rfl (lv_at hl 1 rfl) ?_
      refine lv_iload hx hb dX0_readCompared_54 (lv_at hl 0 rfl) ?_
      refine lv_iconst (v := 1) hx hb dX0_readCompared_56 (by decide) ?_
      obtain ⟨x38, x39, x40, z40, hf⟩ := ob3_el hf
      refine cI_V C hw (c_X1_addStep l E a_dr dr_items dr_behindBy dr_steps x31 x32 x33 x34 x35 dr_itemCount dr_byCount dr_stepCount x36 x37 (3 : Int32) p1 x1 dr_literalCount (1 : Int32) x38 x39 x40 z40) cs_X0_125 ⟨Nat.le_of_ble_eq_true rfl, Nat.le_of_ble_eq_true rfl⟩ ⟨rfl, rfl⟩ (ci := 1) (cn := (RX1, TX1, 13)) rfl (q0 := 11) rfl (wn := w_pa_sc_sh_dr_tp E a_pa a_sc a_sh a_dr a_tp pa_itemPlaces pa_waitingSigns pa_waitingPlaces pa_waiting pa_nested x24 x25 x26 x27 x28 x29 x30 sh_names sh_nameLengths sh_groups sh_types sh_flat sh_size dr_items dr_behindBy x39 x31 x32 x33 x34 x35 dr_itemCount dr_byCount x40 x36 x37 tp_bytes tp_size) ⟨[11, 12, 13, 14, 15, 16, 17, 18, 19], [0, 1, 2, 3, 4, 5, 6, 7, 8, 9, 10, 20, 21], [0, 1, 2, 3, 4, 5, 6, 7, 8, 9, 10, 13, 14, 15, 16, 17, 18, 19, 20, 21, 11, 12], rfl, rfl, rfl, rfl, by decide, rfl, rfl⟩ rfl hl.1 rfl (Nat.le_of_ble_eq_true rfl) dX0_readCompared_57 ⟨Nat.zero_le _, Nat.zero_le _⟩ (fun H locs hw => ?_)
      refine lv_if_ne (tgt := 71) hx hb dX0_readCompared_60 (by decide) (fun c60 => ?_) (fun c60 => ?_)
      · replace hf := it_f c60 hf
        refine lv_iconst (v := 1) hx hb dX0_readCompared_71 (by decide) ?_
        refine lv_goto (tgt := 76) hx hb dX0_readCompared_72 (by decide) ?_
        cases hf
        exact rt_z C hw (Or.inr rfl) dX0_readCompared_76
      · replace hf := it_t c60 hf
        refine lv_aload_n hx hb dX0_readCompared_63 rfl (lv_at hl 2 rfl) ?_
        refine lv_iload_n hx hb dX0_readCompared_64 rfl (lv_at hl 4 rfl) ?_
        obtain ⟨x41, x42, z42, hf⟩ := ob2_el hf
        refine cI_V C hw (c_X0_refuse l E a_pa a_sc a_sh a_dr a_tp pa_itemPlaces pa_waitingSigns pa_waitingPlaces pa_waiting pa_nested x24 x25 x26 x27 x28 x29 x30 sh_names sh_nameLengths sh_groups sh_types sh_flat sh_size dr_items dr_behindBy x39 x31 x32 x33 x34 x35 dr_itemCount dr_byCount x40 x36 x37 tp_bytes tp_size p2 x41 x42 z42) cs_X0_57 ⟨Nat.le_of_ble_eq_true rfl, Nat.le_of_ble_eq_true rfl⟩ ⟨rfl, rfl⟩ (ci := 0) (cn := (RX0, TX0, 9)) rfl (q0 := 0) rfl (wn := w_pa_sc_sh_dr_tp E a_pa a_sc a_sh a_dr a_tp pa_itemPlaces pa_waitingSigns pa_waitingPlaces pa_waiting pa_nested x42 x25 x26 x27 x28 x29 x30 sh_names sh_nameLengths sh_groups sh_types sh_flat sh_size dr_items dr_behindBy x39 x31 x32 x33 x34 x35 dr_itemCount dr_byCount x40 x36 x37 tp_bytes tp_size) (Jn.all _ _) rfl hl.1 rfl (Nat.le_of_ble_eq_true rfl) dX0_readCompared_65 ⟨Nat.zero_le _, Nat.zero_le _⟩ (fun H locs hw => ?_)
        refine lv_if_eq (tgt := 75) hx hb dX0_readCompared_68 (by decide) (fun c68 => ?_) (fun c68 => ?_)
        · replace hf := it_t c68 hf
          refine lv_iconst (v := 0) hx hb dX0_readCompared_75 (by decide) ?_
          cases hf
          exact rt_z C hw (Or.inl rfl) dX0_readCompared_76
        · replace hf := it_f c68 hf
          refine lv_iconst (v := 1) hx hb dX0_readCompared_71 (by decide) ?_
          refine lv_goto (tgt := 76) hx hb dX0_readCompared_72 (by decide) ?_
          cases hf
          exact rt_z C hw (Or.inr rfl) dX0_readCompared_76
