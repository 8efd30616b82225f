def f_X0_checkItems_13 : Nat → (Int32) → (Nat → Int32) → (Int32) → (Nat → Int32) → (Nat → Int32) → (Int32) → (Int32) → Option ((Int32))
  | 0, _, _, _, _, _, _, _ => none
  | n + 1, l1, pa_itemPlaces, pa_fault, dr_items, dr_behindBy, dr_itemCount, dr_byCount =>
  if dr_itemCount ≤ l1 then (some pa_fault)
  else (rd dr_items 32 (l1 * (2 : Int32)) (fun x1 =>
  if x1 = (0 : Int32) then (if (1 : Int32) = (0 : Int32) then (on (l1 + (1 : Int32)) (fun x10 =>
  f_X0_checkItems_13 n x10 pa_itemPlaces pa_fault dr_items dr_behindBy dr_itemCount dr_byCount))
  else (rd dr_items 32 ((l1 * (2 : Int32)) + (1 : Int32)) (fun x11 =>
  ob1 (f_X1_isBehindBy x11 dr_behindBy dr_byCount) (fun x12 =>
  if x12 = (0 : Int32) then (rd pa_itemPlaces 16 l1 (fun x14 =>
  ob2 (f_X0_refuse x14 pa_fault) (fun x15 x16 =>
  on (l1 + (1 : Int32)) (fun x17 =>
  f_X0_checkItems_13 n x17 pa_itemPlaces x16 dr_items dr_behindBy dr_itemCount dr_byCount))))
  else (on (l1 + (1 : Int32)) (fun x13 =>
  f_X0_checkItems_13 n x13 pa_itemPlaces pa_fault dr_items dr_behindBy dr_itemCount dr_byCount))))))
  else (if (0 : Int32) = (0 : Int32) then (on (l1 + (1 : Int32)) (fun x2 =>
  f_X0_checkItems_13 n x2 pa_itemPlaces pa_fault dr_items dr_behindBy dr_itemCount dr_byCount))
  else (rd dr_items 32 ((l1 * (2 : Int32)) + (1 : Int32)) (fun x3 =>
  ob1 (f_X1_isBehindBy x3 dr_behindBy dr_byCount) (fun x4 =>
  if x4 = (0 : Int32) then (rd pa_itemPlaces 16 l1 (fun x6 =>
  ob2 (f_X0_refuse x6 pa_fault) (fun x7 x8 =>
  on (l1 + (1 : Int32)) (fun x9 =>
  f_X0_checkItems_13 n x9 pa_itemPlaces x8 dr_items dr_behindBy dr_itemCount dr_byCount))))
  else (on (l1 + (1 : Int32)) (fun x5 =>
  f_X0_checkItems_13 n x5 pa_itemPlaces pa_fault dr_items dr_behindBy dr_itemCount dr_byCount))))))))
set_option maxHeartbeats 4000000 in
set_option maxRecDepth 100000 in
theorem w_X0_checkItems_13 {p : Program} {l : Launch} {e : Env} {s : State} {m : MethodId} {args : Array Value} {below : List Frame} {meth : Method} {c : Code} {E : EnvT} {A : Nat → Prop} {a_pa : Nat → Nat} {a_sc : Nat → Nat} {a_sh : Nat → Nat} {a_dr : Nat → Nat} {a_tp : Nat → Nat} {Q : State → Prop} {pa_waitingSigns : Nat → Int32} {pa_waitingPlaces : Nat → Int32} {pa_waiting : Int32} {pa_nested : Int32} {sc_token : Int32} {sc_start : Int32} {sc_end : Int32} {sc_numberRead : Int64} {sc_escaped : Int32} {sc_bytesBehind : Int32} {sh_names : Nat → Int32} {sh_nameLengths : Nat → Int32} {sh_groups : Nat → Int32} {sh_types : Nat → Int32} {sh_flat : Nat → Int32} {sh_size : Int32} {dr_steps : Nat → Int32} {dr_literalTypes : Nat → Int32} {dr_numbers : Nat → Int64} {dr_textStarts : Nat → Int32} {dr_textLengths : Nat → Int32} {dr_textBytes : Nat → Int32} {dr_stepCount : Int32} {dr_literalCount : Int32} {dr_textEnd : Int32} {tp_bytes : Nat → Int32} {tp_size : Int32} {q_pa_fault : Int32} (C : MC p s m args meth c E A cX0_checkItems 3 RX0 none) : ∀ (n : Nat) {l1 : Int32} {pa_itemPlaces : Nat → Int32} {pa_fault : Int32} {dr_items : Nat → Int32} {dr_behindBy : Nat → Int32} {dr_itemCount : Int32} {dr_byCount : Int32} {H : Heap} {locs : List Loc} {ls : Array Slot}, WS E A s (w_pa_sc_sh_dr_tp E a_pa a_sc a_sh a_dr a_tp pa_itemPlaces pa_waitingSigns pa_waitingPlaces pa_waiting pa_nested pa_fault sc_token sc_start sc_end sc_numberRead sc_escaped sc_bytesBehind sh_names sh_nameLengths sh_groups sh_types sh_flat sh_size dr_items dr_behindBy dr_steps dr_literalTypes dr_numbers dr_textStarts dr_textLengths dr_textBytes dr_itemCount dr_byCount dr_stepCount dr_literalCount dr_textEnd tp_bytes tp_size) H locs → lv_has ls 3 [(0, .ref (a_pa 0)), (1, .int l1)] → f_X0_checkItems_13 n l1 pa_itemPlaces pa_fault dr_items dr_behindBy dr_itemCount dr_byCount = some q_pa_fault → (∀ (H : Heap) (locs : List Loc) (ls : Array Slot), WS E A s (w_pa_sc_sh_dr_tp E a_pa a_sc a_sh a_dr a_tp pa_itemPlaces pa_waitingSigns pa_waitingPlaces pa_waiting pa_nested q_pa_fault sc_token sc_start sc_end sc_numberRead sc_escaped sc_bytesBehind sh_names sh_nameLengths sh_groups sh_types sh_flat sh_size dr_items dr_behindBy dr_steps dr_literalTypes dr_numbers dr_textStarts dr_textLengths dr_textBytes dr_itemCount dr_byCount dr_stepCount dr_literalCount dr_textEnd tp_bytes tp_size) H locs → lv_has ls 3 [] → W p l e { frames := 1, cells := 0, slots := 0, locals := 22 } s m args below meth c H locs 0 0 Q (F0 m 88 ls [])) → W p l e { frames := 1, cells := 0, slots := 0, locals := 22 } s m args below meth c H locs 0 0 Q (F0 m 13 ls []) := by
  have hx := C.1
  have hb := C.2.1
  intro n
  induction n with
  | zero =>
    intro l1 pa_itemPlaces pa_fault dr_items dr_behindBy dr_itemCount dr_byCount H locs ls hw hl hf kk
    unfold f_X0_checkItems_13 at hf
    cases hf
  | succ n ih =>
    intro l1 pa_itemPlaces pa_fault dr_items dr_behindBy dr_itemCount dr_byCount H locs ls hw hl hf kk
    unfold f_X0_checkItems_13 at hf
    refine lv_iload_n hx hb dX0_checkItems_13 rfl (lv_at hl 1 rfl) ?_
    refine lv_aload_n hx hb dX0_checkItems_14 rfl (lv_at hl 0 rfl) ?_
    refine fg_X0_12 C hw 0 rfl rfl dX0_checkItems_15 ?_
    refine fg_X0_174 C hw 11 rfl rfl dX0_checkItems_18 ?_
    refine lv_icmp_ge (tgt := 88) hx hb dX0_checkItems_21 (by decide) (fun c21 => ?_) (fun c21 => ?_)
    · replace hf := it_t c21 hf
      cases hf
      exact kk _ _ _ hw (lv_sub hl [] rfl)
    · replace hf := it_f c21 hf
      refine lv_aload_n hx hb dX0_checkItems_24 rfl (lv_at hl 0 rfl) ?_
      refine fg_X0_12 C hw 0 rfl rfl dX0_checkItems_25 ?_
      refine fg_X0_177 C hw 11 rfl rfl dX0_checkItems_28 ?_
      refine lv_iload_n hx hb dX0_checkItems_31 rfl (lv_at hl 1 rfl) ?_
      refine lv_iconst (v := 2) hx hb dX0_checkItems_32 (by decide) ?_
      refine lv_imul hx hb dX0_checkItems_33 ?_
      obtain ⟨x1, ex1, gx1, hf⟩ := rd_el hf
      refine ra_i C hw 12 rfl gx1 dX0_checkItems_34 ?_
      refine tp_i ex1 ?_
      refine lv_if_ne (tgt := 42) hx hb dX0_checkItems_35 (by decide) (fun c35 => ?_) (fun c35 => ?_)
      · replace hf := it_f c35 hf
        refine lv_iconst (v := 0) hx hb dX0_checkItems_42 (by decide) ?_
        refine lv_istore_n (lv' := [(2, .int (0 : Int32)), (0, .ref (a_pa 0)), (1, .int l1)]) hx hb dX0_checkItems_43 rfl hl (by decide) rfl (fun ls hl => ?_)
        refine lv_iload_n hx hb dX0_checkItems_44 rfl (lv_at hl 0 rfl) ?_
        refine lv_if_eq (tgt := 82) hx hb dX0_checkItems_45 (by decide) (fun c45 => ?_) (fun c45 => ?_)
        · replace hf := it_t c45 hf
          obtain ⟨x2, ex2, hf⟩ := on_el hf
          refine lv_iinc (v := x2) (lv' := [(1, .int x2), (2, .int (0 : Int32)), (0, .ref (a_pa 0))]) hx hb dX0_checkItems_82 hl (k := 2) rfl (by rw [← ex2]; rfl) (by decide) rfl (fun ls hl => ?_)
          refine lv_goto (tgt := 13) hx hb dX0_checkItems_85 (by decide) ?_
          exact ih hw (lv_sub hl [2, 0] rfl) hf kk
        · replace hf := it_f c45 hf
          refine lv_aload_n hx hb dX0_checkItems_48 rfl (lv_at hl 1 rfl) ?_
          refine fg_X0_12 C hw 0 rfl rfl dX0_checkItems_49 ?_
          refine lv_aload_n hx hb dX0_checkItems_52 rfl (lv_at hl 1 rfl) ?_
          refine fg_X0_12 C hw 0 rfl rfl dX0_checkItems_53 ?_
          refine fg_X0_177 C hw 11 rfl rfl dX0_checkItems_56 ?_
          refine lv_iload_n hx hb dX0_checkItems_59 rfl (lv_at hl 2 rfl) ?_
          refine lv_iconst (v := 2) hx hb dX0_checkItems_60 (by decide) ?_
          refine lv_imul hx hb dX0_checkItems_61 ?_
          refine lv_iconst (v := 1) hx hb dX0_checkItems_62 (by decide) ?_
          refine lv_iadd hx hb dX0_checkItems_63 ?_
          obtain ⟨x3, ex3, gx3, hf⟩ := rd_el hf
          refine ra_i C hw 12 rfl gx3 dX0_checkItems_64 ?_
          refine tp_i ex3 ?_
          obtain ⟨x4, z4, hf⟩ := ob1_el hf
          refine cI_V C hw (c_X1_isBehindBy l E a_dr dr_items dr_behindBy dr_steps dr_literalTypes dr_numbers dr_textStarts dr_textLengths dr_textBytes dr_itemCount dr_byCount dr_stepCount dr_literalCount dr_textEnd x3 x4 z4) cs_X0_180 ⟨Nat.le_of_ble_eq_true rfl, Nat.le_of_ble_eq_true rfl⟩ ⟨rfl, rfl⟩ (ci := 1) (cn := (RX1, TX1, 13)) rfl (q0 := 11) rfl (wn := w_pa_sc_sh_dr_tp E a_pa a_sc a_sh a_dr a_tp pa_itemPlaces pa_waitingSigns pa_waitingPlaces pa_waiting pa_nested pa_fault sc_token sc_start sc_end sc_numberRead sc_escaped sc_bytesBehind sh_names sh_nameLengths sh_groups sh_types sh_flat sh_size dr_items dr_behindBy dr_steps dr_literalTypes dr_numbers dr_textStarts dr_textLengths dr_textBytes dr_itemCount dr_byCount dr_stepCount dr_literalCount dr_textEnd tp_bytes tp_size) ⟨[11, 12, 13, 14, 15, 16, 17, 18, 19], [0, 1, 2, 3, 4, 5, 6, 7, 8, 9, 10, 20, 21], [0, 1, 2, 3, 4, 5, 6, 7, 8, 9, 10, 13, 14, 15, 16, 17, 18, 19, 20, 21, 11, 12], rfl, rfl, rfl, rfl, by decide, rfl, rfl⟩ rfl hl.1 rfl (Nat.le_of_ble_eq_true rfl) dX0_checkItems_65 ⟨Nat.zero_le _, Nat.zero_le _⟩ (fun H locs hw => ?_)
          refine lv_if_ne (tgt := 82) hx hb dX0_checkItems_68 (by decide) (fun c68 => ?_) (fun c68 => ?_)
          · replace hf := it_f c68 hf
            obtain ⟨x5, ex5, hf⟩ := on_el hf
            refine lv_iinc (v := x5) (lv' := [(1, .int x5), (2, .int (0 : Int32)), (0, .ref (a_pa 0))]) hx hb dX0_checkItems_82 hl (k := 2) rfl (by rw [← ex5]; rfl) (by decide) rfl (fun ls hl => ?_)
            refine lv_goto (tgt := 13) hx hb dX0_checkItems_85 (by decide) ?_
            exact ih hw (lv_sub hl [2, 0] rfl) hf kk
          · replace hf := it_t c68 hf
            refine lv_aload_n hx hb dX0_checkItems_71 rfl (lv_at hl 1 rfl) ?_
            refine lv_aload_n hx hb dX0_checkItems_72 rfl (lv_at hl 1 rfl) ?_
            refine fg_X0_18 C hw 0 rfl rfl dX0_checkItems_73 ?_
            refine lv_iload_n hx hb dX0_checkItems_76 rfl (lv_at hl 2 rfl) ?_
            obtain ⟨x6, ex6, gx6, hf⟩ := rd_el hf
            refine ra_i C hw 1 rfl gx6 dX0_checkItems_77 ?_
            refine tp_i ex6 ?_
            obtain ⟨x7, x8, z8, hf⟩ := ob2_el hf
            refine cI_V C hw (c_X0_refuse l E a_pa a_sc a_sh a_dr a_tp pa_itemPlaces pa_waitingSigns pa_waitingPlaces pa_waiting pa_nested pa_fault sc_token sc_start sc_end sc_numberRead sc_escaped sc_bytesBehind sh_names sh_nameLengths sh_groups sh_types sh_flat sh_size dr_items dr_behindBy dr_steps dr_literalTypes dr_numbers dr_textStarts dr_textLengths dr_textBytes dr_itemCount dr_byCount dr_stepCount dr_literalCount dr_textEnd tp_bytes tp_size x6 x7 x8 z8) cs_X0_57 ⟨Nat.le_of_ble_eq_true rfl, Nat.le_of_ble_eq_true rfl⟩ ⟨rfl, rfl⟩ (ci := 0) (cn := (RX0, TX0, 9)) rfl (q0 := 0) rfl (wn := w_pa_sc_sh_dr_tp E a_pa a_sc a_sh a_dr a_tp pa_itemPlaces pa_waitingSigns pa_waitingPlaces pa_waiting pa_nested x8 sc_token sc_start sc_end sc_numberRead sc_escaped sc_bytesBehind sh_names sh_nameLengths sh_groups sh_types sh_flat sh_size dr_items dr_behindBy dr_steps dr_literalTypes dr_numbers dr_textStarts dr_textLengths dr_textBytes dr_itemCount dr_byCount dr_stepCount dr_literalCount dr_textEnd tp_bytes tp_size) (Jn.all _ _) rfl hl.1 rfl (Nat.le_of_ble_eq_true rfl) dX0_checkItems_78 ⟨Nat.zero_le _, Nat.zero_le _⟩ (fun H locs hw => ?_)
            refine lv_pop hx hb dX0_checkItems_81 rfl ?_
            obtain ⟨x9, ex9, hf⟩ := on_el hf
            refine lv_iinc (v := x9) (lv' := [(1, .int x9), (2, .int (0 : Int32)), (0, .ref (a_pa 0))]) hx hb dX0_checkItems_82 hl (k := 2) rfl (by rw [← ex9]; rfl) (by decide) rfl (fun ls hl => ?_)
            refine lv_goto (tgt := 13) hx hb dX0_checkItems_85 (by decide) ?_
            exact ih hw (lv_sub hl [2, 0] rfl) hf kk
      · replace hf := it_t c35 hf
        refine lv_iconst (v := 1) hx hb dX0_checkItems_38 (by decide) ?_
        refine lv_goto (tgt := 43) hx hb dX0_checkItems_39 (by decide) ?_
        refine lv_istore_n (lv' := [(2, .int (1 : Int32)), (0, .ref (a_pa 0)), (1, .int l1)]) hx hb dX0_checkItems_43 rfl hl (by decide) rfl (fun ls hl => ?_)
        refine lv_iload_n hx hb dX0_checkItems_44 rfl (lv_at hl 0 rfl) ?_
        refine lv_if_eq (tgt := 82) hx hb dX0_checkItems_45 (by decide) (fun c45 => ?_) (fun c45 => ?_)
        · replace hf := it_t c45 hf
          obtain ⟨x10, ex10, hf⟩ := on_el hf
          refine lv_iinc (v := x10) (lv' := [(1, .int x10), (2, .int (1 : Int32)), (0, .ref (a_pa 0))]) hx hb dX0_checkItems_82 hl (k := 2) rfl (by rw [← ex10]; rfl) (by decide) rfl (fun ls hl => ?_)
          refine lv_goto (tgt := 13) hx hb dX0_checkItems_85 (by decide) ?_
          exact ih hw (lv_sub hl [2, 0] rfl) hf kk
        · replace hf := it_f c45 hf
          refine lv_aload_n hx hb dX0_checkItems_48 rfl (lv_at hl 1 rfl) ?_
          refine fg_X0_12 C hw 0 rfl rfl dX0_checkItems_49 ?_
          refine lv_aload_n hx hb dX0_checkItems_52 rfl (lv_at hl 1 rfl) ?_
          refine fg_X0_12 C hw 0 rfl rfl dX0_checkItems_53 ?_
          refine fg_X0_177 C hw 11 rfl rfl dX0_checkItems_56 ?_
          refine lv_iload_n hx hb dX0_checkItems_59 rfl (lv_at hl 2 rfl) ?_
          refine lv_iconst (v := 2) hx hb dX0_checkItems_60 (by decide) ?_
          refine lv_imul hx hb dX0_checkItems_61 ?_
          refine lv_iconst (v := 1) hx hb dX0_checkItems_62 (by decide) ?_
          refine lv_iadd hx hb dX0_checkItems_63 ?_
          obtain ⟨x11, ex11, gx11, hf⟩ := rd_el hf
          refine ra_i C hw 12 rfl gx11 dX0_checkItems_64 ?_
          refine tp_i ex11 ?_
          obtain ⟨x12, z12, hf⟩ := ob1_el hf
          refine cI_V C hw (c_X1_isBehindBy l E a_dr dr_items dr_behindBy dr_steps dr_literalTypes dr_numbers dr_textStarts dr_textLengths dr_textBytes dr_itemCount dr_byCount dr_stepCount dr_literalCount dr_textEnd x11 x12 z12) cs_X0_180 ⟨Nat.le_of_ble_eq_true rfl, Nat.le_of_ble_eq_true rfl⟩ ⟨rfl, rfl⟩ (ci := 1) (cn := (RX1, TX1, 13)) rfl (q0 := 11) rfl (wn := w_pa_sc_sh_dr_tp E a_pa a_sc a_sh a_dr a_tp pa_itemPlaces pa_waitingSigns pa_waitingPlaces pa_waiting pa_nested pa_fault sc_token sc_start sc_end sc_numberRead sc_escaped sc_bytesBehind sh_names sh_nameLengths sh_groups sh_types sh_flat sh_size dr_items dr_behindBy dr_steps dr_literalTypes dr_numbers dr_textStarts dr_textLengths dr_textBytes dr_itemCount dr_byCount dr_stepCount dr_literalCount dr_textEnd tp_bytes tp_size) ⟨[11, 12, 13, 14, 15, 16, 17, 18, 19], [0, 1, 2, 3, 4, 5, 6, 7, 8, 9, 10, 20, 21], [0, 1, 2, 3, 4, 5, 6, 7, 8, 9, 10, 13, 14, 15, 16, 17, 18, 19, 20, 21, 11, 12], rfl, rfl, rfl, rfl, by decide, rfl, rfl⟩ rfl hl.1 rfl (Nat.le_of_ble_eq_true rfl) dX0_checkItems_65 ⟨Nat.zero_le _, Nat.zero_le _⟩ (fun H locs hw => ?_)
          refine lv_if_ne (tgt := 82) hx hb dX0_checkItems_68 (by decide) (fun c68 => ?_) (fun c68 => ?_)
          · replace hf := it_f c68 hf
            obtain ⟨x13, ex13, hf⟩ := on_el hf
            refine lv_iinc (v := x13) (lv' := [(1, .int x13), (2, .int (1 : Int32)), (0, .ref (a_pa 0))]) hx hb dX0_checkItems_82 hl (k := 2) rfl (by rw [← ex13]; rfl) (by decide) rfl (fun ls hl => ?_)
            refine lv_goto (tgt := 13) hx hb dX0_checkItems_85 (by decide) ?_
            exact ih hw (lv_sub hl [2, 0] rfl) hf kk
          · replace hf := it_t c68 hf
            refine lv_aload_n hx hb dX0_checkItems_71 rfl (lv_at hl 1 rfl) ?_
            refine lv_aload_n hx hb dX0_checkItems_72 rfl (lv_at hl 1 rfl) ?_
            refine fg_X0_18 C hw 0 rfl rfl dX0_checkItems_73 ?_
            refine lv_iload_n hx hb dX0_checkItems_76 rfl (lv_at hl 2 rfl) ?_
            obtain ⟨x14, ex14, gx14, hf⟩ := rd_el hf
            refine ra_i C hw 1 rfl gx14 dX0_checkItems_77 ?_
            refine tp_i ex14 ?_
            obtain ⟨x15, x16, z16, hf⟩ := ob2_el hf
            refine cI_V C hw (c_X0_refuse l E a_pa a_sc a_sh a_dr a_tp pa_itemPlaces pa_waitingSigns pa_waitingPlaces pa_waiting pa_nested pa_fault sc_token sc_start sc_end sc_numberRead sc_escaped sc_bytesBehind sh_names sh_nameLengths sh_groups sh_types sh_flat sh_size dr_items dr_behindBy dr_steps dr_literalTypes dr_numbers dr_textStarts dr_textLengths dr_textBytes dr_itemCount dr_byCount dr_stepCount dr_literalCount dr_textEnd tp_bytes tp_size x14 x15 x16 z16) cs_X0_57 ⟨Nat.le_of_ble_eq_true rfl, Nat.le_of_ble_eq_true rfl⟩ ⟨rfl, rfl⟩ (ci := 0) (cn := (RX0, TX0, 9)) rfl (q0 := 0) rfl (wn := w_pa_sc_sh_dr_tp E a_pa a_sc a_sh a_dr a_tp pa_itemPlaces pa_waitingSigns pa_waitingPlaces pa_waiting pa_nested x16 sc_token sc_start sc_end sc_numberRead sc_escaped sc_bytesBehind sh_names sh_nameLengths sh_groups sh_types sh_flat sh_size dr_items dr_behindBy dr_steps dr_literalTypes dr_numbers dr_textStarts dr_textLengths dr_textBytes dr_itemCount dr_byCount dr_stepCount dr_literalCount dr_textEnd tp_bytes tp_size) (Jn.all _ _) rfl hl.1 rfl (Nat.le_of_ble_eq_true rfl) dX0_checkItems_78 ⟨Nat.zero_le _, Nat.zero_le _⟩ (fun H locs hw => ?_)
            refine lv_pop hx hb dX0_checkItems_81 rfl ?_
            obtain ⟨x17, ex17, hf⟩ := on_el hf
            refine lv_iinc (v := x17) (lv' := [(1, .int x17), (2, .int (1 : Int32)), (0, .ref (a_pa 0))]) hx hb dX0_checkItems_82 hl (k := 2) rfl (by rw [← ex17]; rfl) (by decide) rfl (fun ls hl => ?_)
            refine lv_goto (tgt := 13) hx hb dX0_checkItems_85 (by decide) ?_
            exact ih hw (lv_sub hl [2, 0] rfl) hf kk
def f_X0_checkItems (pa_itemPlaces : Nat → Int32) (pa_fault : Int32) (dr_items : Nat → Int32) (dr_behindBy : Nat → Int32) (dr_itemCount : Int32) (dr_byCount : Int32) : Option ((Int32)) :=
  ob1 (f_X1_collects dr_items dr_itemCount dr_byCount) (fun x1 =>
  if x1 = (0 : Int32) then (some pa_fault)
  else (ob1 (f_X0_checkItems_13 FU (0 : Int32) pa_itemPlaces pa_fault dr_items dr_behindBy dr_itemCount dr_byCount) (fun x2 =>
  some x2)))
set_option maxHeartbeats 4000000 in
set_option maxRecDepth 100000 in
theorem c_X0_checkItems (l : Launch) (E : EnvT) (a_pa : Nat → Nat) (a_sc : Nat → Nat) (a_sh : Nat → Nat) (a_dr : Nat → Nat) (a_tp : Nat → Nat) (pa_itemPlaces : Nat → Int32) (pa_waitingSigns : Nat → Int32) (pa_waitingPlaces : Nat → Int32) (pa_waiting : Int32) (pa_nested : Int32) (pa_fault : Int32) (sc_token : Int32) (sc_start : Int32) (sc_end : Int32) (sc_numberRead : Int64) (sc_escaped : Int32) (sc_bytesBehind : Int32) (sh_names : Nat → Int32) (sh_nameLengths : Nat → Int32) (sh_groups : Nat → Int32) (sh_types : Nat → Int32) (sh_flat : Nat → Int32) (sh_size : Int32) (dr_items : Nat → Int32) (dr_behindBy : Nat → Int32) (dr_steps : Nat → Int32) (dr_literalTypes : Nat → Int32) (dr_numbers : Nat → Int64) (dr_textStarts : Nat → Int32) (dr_textLengths : Nat → Int32) (dr_textBytes : Nat → Int32) (dr_itemCount : Int32) (dr_byCount : Int32) (dr_stepCount : Int32) (dr_literalCount : Int32) (dr_textEnd : Int32) (tp_bytes : Nat → Int32) (tp_size : Int32) (o_pa_fault : Int32) (hf : f_X0_checkItems pa_itemPlaces pa_fault dr_items dr_behindBy dr_itemCount dr_byCount = some o_pa_fault) : CV l yX0_checkItems (Cond.code yX0_checkItems cX0_checkItems 3 none) { frames := 1, cells := 0, slots := 0, locals := 22 } E [.ref (a_pa 0)] (w_pa_sc_sh_dr_tp E a_pa a_sc a_sh a_dr a_tp pa_itemPlaces pa_waitingSigns pa_waitingPlaces pa_waiting pa_nested pa_fault sc_token sc_start sc_end sc_numberRead sc_escaped sc_bytesBehind sh_names sh_nameLengths sh_groups sh_types sh_flat sh_size dr_items dr_behindBy dr_steps dr_literalTypes dr_numbers dr_textStarts dr_textLengths dr_textBytes dr_itemCount dr_byCount dr_stepCount dr_literalCount dr_textEnd tp_bytes tp_size) (w_pa_sc_sh_dr_tp E a_pa a_sc a_sh a_dr a_tp pa_itemPlaces pa_waitingSigns pa_waitingPlaces pa_waiting pa_nested o_pa_fault sc_token sc_start sc_end sc_numberRead sc_escaped sc_bytesBehind sh_names sh_nameLengths sh_groups sh_types sh_flat sh_size dr_items dr_behindBy dr_steps dr_literalTypes dr_numbers dr_textStarts dr_textLengths dr_textBytes dr_itemCount dr_byCount dr_stepCount dr_literalCount dr_textEnd tp_bytes tp_size) := by
  intro sz
  refine met_start [(0, .ref (a_pa 0))] (by decide) rfl rfl (Nat.le_of_ble_eq_true rfl) rfl ?_
  intro p e s m below meth c ls C hnm hmt hw hl
  have hx := C.1
  have hb := C.2.1
  generalize va_A (w_pa_sc_sh_dr_tp E a_pa a_sc a_sh a_dr a_tp pa_itemPlaces pa_waitingSigns pa_waitingPlaces pa_waiting pa_nested pa_fault sc_token sc_start sc_end sc_numberRead sc_escaped sc_bytesBehind sh_names sh_nameLengths sh_groups sh_types sh_flat sh_size dr_items dr_behindBy dr_steps dr_literalTypes dr_numbers dr_textStarts dr_textLengths dr_textBytes dr_itemCount dr_byCount dr_stepCount dr_literalCount dr_textEnd tp_bytes tp_size) sz = A at C hw ⊢
  unfold f_X0_checkItems at hf
  refine lv_aload_n hx hb dX0_checkItems_0 rfl (lv_at hl 0 rfl) ?_
  refine fg_X0_12 C hw 0 rfl rfl dX0_checkItems_1 ?_
  obtain ⟨x1, z1, hf⟩ := ob1_el hf
  refine cI_V C hw (c_X1_collects l E a_dr dr_items dr_behindBy dr_steps dr_literalTypes dr_numbers dr_textStarts dr_textLengths dr_textBytes dr_itemCount dr_byCount dr_stepCount dr_literalCount dr_textEnd x1 z1) cs_X0_171 ⟨Nat.le_of_ble_eq_true rfl, Nat.le_of_ble_eq_true rfl⟩ ⟨rfl, rfl⟩ (ci := 1) (cn := (RX1, TX1, 13)) rfl (q0 := 11) rfl (wn := w_pa_sc_sh_dr_tp E a_pa a_sc a_sh a_dr a_tp pa_itemPlaces pa_waitingSigns pa_waitingPlaces pa_waiting pa_nested pa_fault sc_token sc_start sc_end sc_numberRead sc_escaped sc_bytesBehind sh_names sh_nameLengths sh_groups sh_types sh_flat sh_size dr_items dr_behindBy dr_steps dr_literalTypes dr_numbers dr_textStarts dr_textLengths dr_textBytes dr_itemCount dr_byCount dr_stepCount dr_literalCount dr_textEnd tp_bytes tp_size) ⟨[11, 12, 13, 14, 15, 16, 17, 18, 19], [0, 1, 2, 3, 4, 5, 6, 7, 8, 9, 10, 20, 21], [0, 1, 2, 3, 4, 5, 6, 7, 8, 9, 10, 13, 14, 15, 16, 17, 18, 19, 20, 21, 11, 12], rfl, rfl, rfl, rfl, by decide, rfl, rfl⟩ rfl hl.1 rfl (Nat.le_of_ble_eq_true rfl) dX0_checkItems_4 ⟨Nat.zero_le _, Nat.zero_le _⟩ (fun H locs hw => ?_)
  refine lv_if_ne (tgt := 11) hx hb dX0_checkItems_7 (by decide) (fun c7 => ?_) (fun c7 => ?_)
  · replace hf := it_f c7 hf
    refine lv_iconst (v := 0) hx hb dX0_checkItems_11 (by decide) ?_
    refine lv_istore_n (lv' := [(1, .int (0 : Int32)), (0, .ref (a_pa 0))]) hx hb dX0_checkItems_12 rfl hl (by decide) rfl (fun ls hl => ?_)
    obtain ⟨x2, hx2, hf⟩ := ob1_el hf
    refine w_X0_checkItems_13 C FU hw (lv_sub hl [1, 0] rfl) hx2 ?_
    clear hw hl
    intro H locs ls hw hl
    cases hf
    exact rt_v C hw dX0_checkItems_88
  · replace hf := it_t c7 hf
    cases hf
    exact rt_v C hw dX0_checkItems_10
