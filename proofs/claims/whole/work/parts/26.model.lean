def f_X6_count (p1 : Int32) (mo_code : Int32) (mo_kept : Int32) (mo_many : Nat → Int32) (mo_itemKind : Nat → Int32) : Option ((Int32) × (Int32)) :=
  if p1 < (0 : Int32) then (some ((-1 : Int32), (0 : Int32)))
  else (if p1 ≤ (4 : Int32) then (if mo_kept = (-1 : Int32) then (some ((0 : Int32), (0 : Int32)))
  else (if (4 : Int32) ≤ p1 then (ob1 (f_X6_collects mo_kept mo_many mo_itemKind) (fun x1 =>
  if x1 = (0 : Int32) then (some ((0 : Int32), (0 : Int32)))
  else (some ((1 : Int32), (0 : Int32)))))
  else (rd mo_many 8 (((4 : Int32) * mo_kept) + p1) (fun x2 =>
  some (x2, (0 : Int32))))))
  else (some ((-1 : Int32), (0 : Int32))))
set_option maxHeartbeats 4000000 in
set_option maxRecDepth 100000 in
theorem c_X6_count (l : Launch) (E : EnvT) (a_mo : Nat → Nat) (mo_code : Int32) (mo_tape : Nat → Int32) (mo_text : Nat → Int32) (mo_taped : Int32) (mo_size : Int32) (mo_at : Int32) (mo_ill : Int32) (mo_in : Nat → Int32) (mo_kind : Nat → Int32) (mo_type : Nat → Int32) (mo_long1 : Nat → Int32) (mo_letters : Nat → Int32) (mo_fields : Int32) (mo_kept : Int32) (mo_now : Int32) (mo_many : Nat → Int32) (mo_itemKind : Nat → Int32) (mo_itemField : Nat → Int32) (mo_itemPlace : Nat → Int32) (mo_by : Nat → Int32) (mo_stepKind : Nat → Int32) (mo_stepField : Nat → Int32) (mo_stepOperator : Nat → Int32) (mo_stepOther : Nat → Int32) (mo_stepMany : Nat → Int32) (mo_literalType : Nat → Int32) (mo_literalFrom : Nat → Int32) (mo_literalSize : Nat → Int32) (mo_bytes : Nat → Int32) (mo_said : Nat → Int32) (mo_number : Nat → Int64) (mo_pile : Nat → Int32) (mo_pilePlace : Nat → Int32) (mo_top : Int32) (mo_open : Int32) (p1 : Int32) (r : Int32) (o_mo_code : Int32) (hf : f_X6_count p1 mo_code mo_kept mo_many mo_itemKind = some (r, o_mo_code)) : CI l yX6_count (Cond.code yX6_count cX6_count 2 (some .int)) { frames := 1, cells := 0, slots := 0, locals := 23 } E [.ref (a_mo 0), .int p1] (w_mo E a_mo mo_code mo_tape mo_text mo_taped mo_size mo_at mo_ill mo_in mo_kind mo_type mo_long1 mo_letters mo_fields mo_kept mo_now mo_many mo_itemKind mo_itemField mo_itemPlace mo_by mo_stepKind mo_stepField mo_stepOperator mo_stepOther mo_stepMany mo_literalType mo_literalFrom mo_literalSize mo_bytes mo_said mo_number mo_pile mo_pilePlace mo_top mo_open) r (w_mo E a_mo o_mo_code mo_tape mo_text mo_taped mo_size mo_at mo_ill mo_in mo_kind mo_type mo_long1 mo_letters mo_fields mo_kept mo_now mo_many mo_itemKind mo_itemField mo_itemPlace mo_by mo_stepKind mo_stepField mo_stepOperator mo_stepOther mo_stepMany mo_literalType mo_literalFrom mo_literalSize mo_bytes mo_said mo_number mo_pile mo_pilePlace mo_top mo_open) := by
  intro sz
  refine met_start [(0, .ref (a_mo 0)), (1, .int p1)] (by decide) rfl rfl (Nat.le_of_ble_eq_true rfl) rfl ?_
  intro p e s m below meth c ls C hnm hmt hw hl
  have hx := C.1
  have hb := C.2.1
  generalize va_A (w_mo E a_mo mo_code mo_tape mo_text mo_taped mo_size mo_at mo_ill mo_in mo_kind mo_type mo_long1 mo_letters mo_fields mo_kept mo_now mo_many mo_itemKind mo_itemField mo_itemPlace mo_by mo_stepKind mo_stepField mo_stepOperator mo_stepOther mo_stepMany mo_literalType mo_literalFrom mo_literalSize mo_bytes mo_said mo_number mo_pile mo_pilePlace mo_top mo_open) sz = A at C hw ⊢
  unfold f_X6_count at hf
  refine lv_aload_n hx hb dX6_count_0 rfl (lv_at hl 0 rfl) ?_
  refine lv_iconst (v := 0) hx hb dX6_count_1 (by decide) ?_
  refine fp_X6_90 C hw 0 rfl (Nat.le_of_ble_eq_true rfl) (ws' := w_mo E a_mo (0 : Int32) mo_tape mo_text mo_taped mo_size mo_at mo_ill mo_in mo_kind mo_type mo_long1 mo_letters mo_fields mo_kept mo_now mo_many mo_itemKind mo_itemField mo_itemPlace mo_by mo_stepKind mo_stepField mo_stepOperator mo_stepOther mo_stepMany mo_literalType mo_literalFrom mo_literalSize mo_bytes mo_said mo_number mo_pile mo_pilePlace mo_top mo_open) rfl dX6_count_2 (fun H locs hw => ?_)
  refine lv_iload_n hx hb dX6_count_5 rfl (lv_at hl 1 rfl) ?_
  refine lv_if_lt (tgt := 14) hx hb dX6_count_6 (by decide) (fun c6 => ?_) (fun c6 => ?_)
  · replace hf := it_t c6 hf
    refine lv_iconst (v := -1) hx hb dX6_count_14 (by decide) ?_
    cases hf
    exact rt_i C hw dX6_count_15
  · replace hf := it_f c6 hf
    refine lv_iload_n hx hb dX6_count_9 rfl (lv_at hl 1 rfl) ?_
    refine lv_iconst (v := 4) hx hb dX6_count_10 (by decide) ?_
    refine lv_icmp_le (tgt := 16) hx hb dX6_count_11 (by decide) (fun c11 => ?_) (fun c11 => ?_)
    · replace hf := it_t c11 hf
      refine lv_aload_n hx hb dX6_count_16 rfl (lv_at hl 0 rfl) ?_
      refine fg_X6_31 C hw 0 rfl rfl dX6_count_17 ?_
      refine lv_iconst (v := -1) hx hb dX6_count_20 (by decide) ?_
      refine lv_icmp_ne (tgt := 28) hx hb dX6_count_21 (by decide) (fun c21 => ?_) (fun c21 => ?_)
      · replace hf := it_f c21 hf
        refine lv_iload_n hx hb dX6_count_28 rfl (lv_at hl 1 rfl) ?_
        refine lv_iconst (v := 4) hx hb dX6_count_29 (by decide) ?_
        refine lv_icmp_ge (tgt := 49) hx hb dX6_count_30 (by decide) (fun c30 => ?_) (fun c30 => ?_)
        · replace hf := it_t c30 hf
          refine lv_aload_n hx hb dX6_count_49 rfl (lv_at hl 0 rfl) ?_
          refine lv_aload_n hx hb dX6_count_50 rfl (lv_at hl 0 rfl) ?_
          refine fg_X6_31 C hw 0 rfl rfl dX6_count_51 ?_
          obtain ⟨x1, z1, hf⟩ := ob1_el hf
          refine cI_V C hw (c_X6_collects l E a_mo (0 : Int32) mo_tape mo_text mo_taped mo_size mo_at mo_ill mo_in mo_kind mo_type mo_long1 mo_letters mo_fields mo_kept mo_now mo_many mo_itemKind mo_itemField mo_itemPlace mo_by mo_stepKind mo_stepField mo_stepOperator mo_stepOther mo_stepMany mo_literalType mo_literalFrom mo_literalSize mo_bytes mo_said mo_number mo_pile mo_pilePlace mo_top mo_open mo_kept x1 z1) cs_X6_262 ⟨Nat.le_of_ble_eq_true rfl, Nat.le_of_ble_eq_true rfl⟩ ⟨rfl, rfl⟩ (ci := 6) (cn := (RX6, TX6, 35)) rfl (q0 := 0) rfl (wn := w_mo E a_mo (0 : Int32) mo_tape mo_text mo_taped mo_size mo_at mo_ill mo_in mo_kind mo_type mo_long1 mo_letters mo_fields mo_kept mo_now mo_many mo_itemKind mo_itemField mo_itemPlace mo_by mo_stepKind mo_stepField mo_stepOperator mo_stepOther mo_stepMany mo_literalType mo_literalFrom mo_literalSize mo_bytes mo_said mo_number mo_pile mo_pilePlace mo_top mo_open) (Jn.all _ _) rfl hl.1 rfl (Nat.le_of_ble_eq_true rfl) dX6_count_54 ⟨Nat.zero_le _, Nat.zero_le _⟩ (fun H locs hw => ?_)
          refine lv_if_eq (tgt := 64) hx hb dX6_count_57 (by decide) (fun c57 => ?_) (fun c57 => ?_)
          · replace hf := it_t c57 hf
            refine lv_iconst (v := 0) hx hb dX6_count_64 (by decide) ?_
            cases hf
            exact rt_i C hw dX6_count_65
          · replace hf := it_f c57 hf
            refine lv_iconst (v := 1) hx hb dX6_count_60 (by decide) ?_
            refine lv_goto (tgt := 65) hx hb dX6_count_61 (by decide) ?_
            cases hf
            exact rt_i C hw dX6_count_65
        · replace hf := it_f c30 hf
          refine lv_aload_n hx hb dX6_count_33 rfl (lv_at hl 0 rfl) ?_
          refine fg_X6_35 C hw 0 rfl rfl dX6_count_34 ?_
          refine lv_iconst (v := 4) hx hb dX6_count_37 (by decide) ?_
          refine lv_aload_n hx hb dX6_count_38 rfl (lv_at hl 0 rfl) ?_
          refine fg_X6_31 C hw 0 rfl rfl dX6_count_39 ?_
          refine lv_imul hx hb dX6_count_42 ?_
          refine lv_iload_n hx hb dX6_count_43 rfl (lv_at hl 1 rfl) ?_
          refine lv_iadd hx hb dX6_count_44 ?_
          obtain ⟨x2, ex2, gx2, hf⟩ := rd_el hf
          refine ra_i C hw 8 rfl gx2 dX6_count_45 ?_
          refine tp_i ex2 ?_
          refine lv_goto (tgt := 65) hx hb dX6_count_46 (by decide) ?_
          cases hf
          exact rt_i C hw dX6_count_65
      · replace hf := it_t c21 hf
        refine lv_iconst (v := 0) hx hb dX6_count_24 (by decide) ?_
        refine lv_goto (tgt := 65) hx hb dX6_count_25 (by decide) ?_
        cases hf
        exact rt_i C hw dX6_count_65
    · replace hf := it_f c11 hf
      refine lv_iconst (v := -1) hx hb dX6_count_14 (by decide) ?_
      cases hf
      exact rt_i C hw dX6_count_15
def f_X6_has (p1 : Int32) (p2 : Int32) (mo_kept : Int32) (mo_many : Nat → Int32) : Option ((Int32)) :=
  if mo_kept = (-1 : Int32) then (some (0 : Int32))
  else (if p1 < (0 : Int32) then (some (0 : Int32))
  else (rd mo_many 8 (((4 : Int32) * mo_kept) + p2) (fun x1 =>
  if x1 ≤ p1 then (some (0 : Int32))
  else (some (1 : Int32)))))
set_option maxHeartbeats 4000000 in
set_option maxRecDepth 100000 in
theorem c_X6_has (l : Launch) (E : EnvT) (a_mo : Nat → Nat) (mo_code : Int32) (mo_tape : Nat → Int32) (mo_text : Nat → Int32) (mo_taped : Int32) (mo_size : Int32) (mo_at : Int32) (mo_ill : Int32) (mo_in : Nat → Int32) (mo_kind : Nat → Int32) (mo_type : Nat → Int32) (mo_long1 : Nat → Int32) (mo_letters : Nat → Int32) (mo_fields : Int32) (mo_kept : Int32) (mo_now : Int32) (mo_many : Nat → Int32) (mo_itemKind : Nat → Int32) (mo_itemField : Nat → Int32) (mo_itemPlace : Nat → Int32) (mo_by : Nat → Int32) (mo_stepKind : Nat → Int32) (mo_stepField : Nat → Int32) (mo_stepOperator : Nat → Int32) (mo_stepOther : Nat → Int32) (mo_stepMany : Nat → Int32) (mo_literalType : Nat → Int32) (mo_literalFrom : Nat → Int32) (mo_literalSize : Nat → Int32) (mo_bytes : Nat → Int32) (mo_said : Nat → Int32) (mo_number : Nat → Int64) (mo_pile : Nat → Int32) (mo_pilePlace : Nat → Int32) (mo_top : Int32) (mo_open : Int32) (p1 : Int32) (p2 : Int32) (r : Int32) (hf : f_X6_has p1 p2 mo_kept mo_many = some r) : CI l yX6_has (Cond.code yX6_has cX6_has 3 (some .boolean)) { frames := 0, cells := 0, slots := 0, locals := 0 } E [.ref (a_mo 0), .int p1, .int p2] (w_mo E a_mo mo_code mo_tape mo_text mo_taped mo_size mo_at mo_ill mo_in mo_kind mo_type mo_long1 mo_letters mo_fields mo_kept mo_now mo_many mo_itemKind mo_itemField mo_itemPlace mo_by mo_stepKind mo_stepField mo_stepOperator mo_stepOther mo_stepMany mo_literalType mo_literalFrom mo_literalSize mo_bytes mo_said mo_number mo_pile mo_pilePlace mo_top mo_open) r (w_mo E a_mo mo_code mo_tape mo_text mo_taped mo_size mo_at mo_ill mo_in mo_kind mo_type mo_long1 mo_letters mo_fields mo_kept mo_now mo_many mo_itemKind mo_itemField mo_itemPlace mo_by mo_stepKind mo_stepField mo_stepOperator mo_stepOther mo_stepMany mo_literalType mo_literalFrom mo_literalSize mo_bytes mo_said mo_number mo_pile mo_pilePlace mo_top mo_open) := by
  intro sz
  refine met_start [(0, .ref (a_mo 0)), (1, .int p1), (2, .int p2)] (by decide) rfl rfl (Nat.le_of_ble_eq_true rfl) rfl ?_
  intro p e s m below meth c ls C hnm hmt hw hl
  have hx := C.1
  have hb := C.2.1
  generalize va_A (w_mo E a_mo mo_code mo_tape mo_text mo_taped mo_size mo_at mo_ill mo_in mo_kind mo_type mo_long1 mo_letters mo_fields mo_kept mo_now mo_many mo_itemKind mo_itemField mo_itemPlace mo_by mo_stepKind mo_stepField mo_stepOperator mo_stepOther mo_stepMany mo_literalType mo_literalFrom mo_literalSize mo_bytes mo_said mo_number mo_pile mo_pilePlace mo_top mo_open) sz = A at C hw ⊢
  unfold f_X6_has at hf
  refine lv_aload_n hx hb dX6_has_0 rfl (lv_at hl 0 rfl) ?_
  refine fg_X6_31 C hw 0 rfl rfl dX6_has_1 ?_
  refine lv_iconst (v := -1) hx hb dX6_has_4 (by decide) ?_
  refine lv_icmp_eq (tgt := 33) hx hb dX6_has_5 (by decide) (fun c5 => ?_) (fun c5 => ?_)
  · replace hf := it_t c5 hf
    refine lv_iconst (v := 0) hx hb dX6_has_33 (by decide) ?_
    cases hf
    exact rt_z C hw (Or.inl rfl) dX6_has_34
  · replace hf := it_f c5 hf
    refine lv_iload_n hx hb dX6_has_8 rfl (lv_at hl 1 rfl) ?_
    refine lv_if_lt (tgt := 33) hx hb dX6_has_9 (by decide) (fun c9 => ?_) (fun c9 => ?_)
    · replace hf := it_t c9 hf
      refine lv_iconst (v := 0) hx hb dX6_has_33 (by decide) ?_
      cases hf
      exact rt_z C hw (Or.inl rfl) dX6_has_34
    · replace hf := it_f c9 hf
      refine lv_iload_n hx hb dX6_has_12 rfl (lv_at hl 1 rfl) ?_
      refine lv_aload_n hx hb dX6_has_13 rfl (lv_at hl 0 rfl) ?_
      refine fg_X6_35 C hw 0 rfl rfl dX6_has_14 ?_
      refine lv_iconst (v := 4) hx hb dX6_has_17 (by decide) ?_
      refine lv_aload_n hx hb dX6_has_18 rfl (lv_at hl 0 rfl) ?_
      refine fg_X6_31 C hw 0 rfl rfl dX6_has_19 ?_
      refine lv_imul hx hb dX6_has_22 ?_
      refine lv_iload_n hx hb dX6_has_23 rfl (lv_at hl 2 rfl) ?_
      refine lv_iadd hx hb dX6_has_24 ?_
      obtain ⟨x1, ex1, gx1, hf⟩ := rd_el hf
      refine ra_i C hw 8 rfl gx1 dX6_has_25 ?_
      refine tp_i ex1 ?_
      refine lv_icmp_ge (tgt := 33) hx hb dX6_has_26 (by decide) (fun c26 => ?_) (fun c26 => ?_)
      · replace hf := it_t c26 hf
        refine lv_iconst (v := 0) hx hb dX6_has_33 (by decide) ?_
        cases hf
        exact rt_z C hw (Or.inl rfl) dX6_has_34
      · replace hf := it_f c26 hf
        refine lv_iconst (v := 1) hx hb dX6_has_29 (by decide) ?_
        refine lv_goto (tgt := 34) hx hb dX6_has_30 (by decide) ?_
        cases hf
        exact rt_z C hw (Or.inr rfl) dX6_has_34
def f_X6_item (p1 : Int32) (p2 : Int32) (mo_code : Int32) (mo_kept : Int32) (mo_many : Nat → Int32) (mo_itemKind : Nat → Int32) (mo_itemField : Nat → Int32) : Option ((Int32) × (Int32)) :=
  ob1 (f_X6_has p1 (0 : Int32) mo_kept mo_many) (fun x1 =>
  if x1 = (0 : Int32) then (some ((-1 : Int32), (0 : Int32)))
  else (if p2 = (0 : Int32) then (rd mo_itemKind 32 (((16 : Int32) * mo_kept) + p1) (fun x3 =>
  some (x3, (0 : Int32))))
  else (if p2 = (1 : Int32) then (rd mo_itemField 32 (((16 : Int32) * mo_kept) + p1) (fun x2 =>
  some (x2, (0 : Int32))))
  else (some ((-1 : Int32), (0 : Int32))))))
set_option maxHeartbeats 4000000 in
set_option maxRecDepth 100000 in
theorem c_X6_item (l : Launch) (E : EnvT) (a_mo : Nat → Nat) (mo_code : Int32) (mo_tape : Nat → Int32) (mo_text : Nat → Int32) (mo_taped : Int32) (mo_size : Int32) (mo_at : Int32) (mo_ill : Int32) (mo_in : Nat → Int32) (mo_kind : Nat → Int32) (mo_type : Nat → Int32) (mo_long1 : Nat → Int32) (mo_letters : Nat → Int32) (mo_fields : Int32) (mo_kept : Int32) (mo_now : Int32) (mo_many : Nat → Int32) (mo_itemKind : Nat → Int32) (mo_itemField : Nat → Int32) (mo_itemPlace : Nat → Int32) (mo_by : Nat → Int32) (mo_stepKind : Nat → Int32) (mo_stepField : Nat → Int32) (mo_stepOperator : Nat → Int32) (mo_stepOther : Nat → Int32) (mo_stepMany : Nat → Int32) (mo_literalType : Nat → Int32) (mo_literalFrom : Nat → Int32) (mo_literalSize : Nat → Int32) (mo_bytes : Nat → Int32) (mo_said : Nat → Int32) (mo_number : Nat → Int64) (mo_pile : Nat → Int32) (mo_pilePlace : Nat → Int32) (mo_top : Int32) (mo_open : Int32) (p1 : Int32) (p2 : Int32) (r : Int32) (o_mo_code : Int32) (hf : f_X6_item p1 p2 mo_code mo_kept mo_many mo_itemKind mo_itemField = some (r, o_mo_code)) : CI l yX6_item (Cond.code yX6_item cX6_item 3 (some .int)) { frames := 1, cells := 0, slots := 0, locals := 22 } E [.ref (a_mo 0), .int p1, .int p2] (w_mo E a_mo mo_code mo_tape mo_text mo_taped mo_size mo_at mo_ill mo_in mo_kind mo_type mo_long1 mo_letters mo_fields mo_kept mo_now mo_many mo_itemKind mo_itemField mo_itemPlace mo_by mo_stepKind mo_stepField mo_stepOperator mo_stepOther mo_stepMany mo_literalType mo_literalFrom mo_literalSize mo_bytes mo_said mo_number mo_pile mo_pilePlace mo_top mo_open) r (w_mo E a_mo o_mo_code mo_tape mo_text mo_taped mo_size mo_at mo_ill mo_in mo_kind mo_type mo_long1 mo_letters mo_fields mo_kept mo_now mo_many mo_itemKind mo_itemField mo_itemPlace mo_by mo_stepKind mo_stepField mo_stepOperator mo_stepOther mo_stepMany mo_literalType mo_literalFrom mo_literalSize mo_bytes mo_said mo_number mo_pile mo_pilePlace mo_top mo_open) := by
  intro sz
  refine met_start [(0, .ref (a_mo 0)), (1, .int p1), (2, .int p2)] (by decide) rfl rfl (Nat.le_of_ble_eq_true rfl) rfl ?_
  intro p e s m below meth c ls C hnm hmt hw hl
  have hx := C.1
  have hb := C.2.1
  generalize va_A (w_mo E a_mo mo_code mo_tape mo_text mo_taped mo_size mo_at mo_ill mo_in mo_kind mo_type mo_long1 mo_letters mo_fields mo_kept mo_now mo_many mo_itemKind mo_itemField mo_itemPlace mo_by mo_stepKind mo_stepField mo_stepOperator mo_stepOther mo_stepMany mo_literalType mo_literalFrom mo_literalSize mo_bytes mo_said mo_number mo_pile mo_pilePlace mo_top mo_open) sz = A at C hw ⊢
  unfold f_X6_item at hf
  refine lv_aload_n hx hb dX6_item_0 rfl (lv_at hl 0 rfl) ?_
  refine lv_iconst (v := 0) hx hb dX6_item_1 (by decide) ?_
  refine fp_X6_90 C hw 0 rfl (Nat.le_of_ble_eq_true rfl) (ws' := w_mo E a_mo (0 : Int32) mo_tape mo_text mo_taped mo_size mo_at mo_ill mo_in mo_kind mo_type mo_long1 mo_letters mo_fields mo_kept mo_now mo_many mo_itemKind mo_itemField mo_itemPlace mo_by mo_stepKind mo_stepField mo_stepOperator mo_stepOther mo_stepMany mo_literalType mo_literalFrom mo_literalSize mo_bytes mo_said mo_number mo_pile mo_pilePlace mo_top mo_open) rfl dX6_item_2 (fun H locs hw => ?_)
  refine lv_aload_n hx hb dX6_item_5 rfl (lv_at hl 0 rfl) ?_
  refine lv_iload_n hx hb dX6_item_6 rfl (lv_at hl 1 rfl) ?_
  refine lv_iconst (v := 0) hx hb dX6_item_7 (by decide) ?_
  obtain ⟨x1, z1, hf⟩ := ob1_el hf
  refine cI_V C hw (c_X6_has l E a_mo (0 : Int32) mo_tape mo_text mo_taped mo_size mo_at mo_ill mo_in mo_kind mo_type mo_long1 mo_letters mo_fields mo_kept mo_now mo_many mo_itemKind mo_itemField mo_itemPlace mo_by mo_stepKind mo_stepField mo_stepOperator mo_stepOther mo_stepMany mo_literalType mo_literalFrom mo_literalSize mo_bytes mo_said mo_number mo_pile mo_pilePlace mo_top mo_open p1 (0 : Int32) x1 z1) cs_X6_265 ⟨Nat.le_of_ble_eq_true rfl, Nat.le_of_ble_eq_true rfl⟩ ⟨rfl, rfl⟩ (ci := 6) (cn := (RX6, TX6, 35)) rfl (q0 := 0) rfl (wn := w_mo E a_mo (0 : Int32) mo_tape mo_text mo_taped mo_size mo_at mo_ill mo_in mo_kind mo_type mo_long1 mo_letters mo_fields mo_kept mo_now mo_many mo_itemKind mo_itemField mo_itemPlace mo_by mo_stepKind mo_stepField mo_stepOperator mo_stepOther mo_stepMany mo_literalType mo_literalFrom mo_literalSize mo_bytes mo_said mo_number mo_pile mo_pilePlace mo_top mo_open) (Jn.all _ _) rfl hl.1 rfl (Nat.le_of_ble_eq_true rfl) dX6_item_8 ⟨Nat.zero_le _, Nat.zero_le _⟩ (fun H locs hw => ?_)
  refine lv_if_ne (tgt := 16) hx hb dX6_item_11 (by decide) (fun c11 => ?_) (fun c11 => ?_)
  · replace hf := it_f c11 hf
    refine lv_iload_n hx hb dX6_item_16 rfl (lv_at hl 2 rfl) ?_
    refine lv_if_ne (tgt := 37) hx hb dX6_item_17 (by decide) (fun c17 => ?_) (fun c17 => ?_)
    · replace hf := it_f c17 hf
      refine lv_iload_n hx hb dX6_item_37 rfl (lv_at hl 2 rfl) ?_
      refine lv_iconst (v := 1) hx hb dX6_item_38 (by decide) ?_
      refine lv_icmp_ne (tgt := 59) hx hb dX6_item_39 (by decide) (fun c39 => ?_) (fun c39 => ?_)
      · replace hf := it_f c39 hf
        refine lv_iconst (v := -1) hx hb dX6_item_59 (by decide) ?_
        cases hf
        exact rt_i C hw dX6_item_60
      · replace hf := it_t c39 hf
        refine lv_aload_n hx hb dX6_item_42 rfl (lv_at hl 0 rfl) ?_
        refine fg_X6_41 C hw 0 rfl rfl dX6_item_43 ?_
        refine lv_bipush (v := 16) hx hb dX6_item_46 (by decide) ?_
        refine lv_aload_n hx hb dX6_item_48 rfl (lv_at hl 0 rfl) ?_
        refine fg_X6_31 C hw 0 rfl rfl dX6_item_49 ?_
        refine lv_imul hx hb dX6_item_52 ?_
        refine lv_iload_n hx hb dX6_item_53 rfl (lv_at hl 1 rfl) ?_
        refine lv_iadd hx hb dX6_item_54 ?_
        obtain ⟨x2, ex2, gx2, hf⟩ := rd_el hf
        refine ra_i C hw 10 rfl gx2 dX6_item_55 ?_
        refine tp_i ex2 ?_
        refine lv_goto (tgt := 60) hx hb dX6_item_56 (by decide) ?_
        cases hf
        exact rt_i C hw dX6_item_60
    · replace hf := it_t c17 hf
      refine lv_aload_n hx hb dX6_item_20 rfl (lv_at hl 0 rfl) ?_
      refine fg_X6_38 C hw 0 rfl rfl dX6_item_21 ?_
      refine lv_bipush (v := 16) hx hb dX6_item_24 (by decide) ?_
      refine lv_aload_n hx hb dX6_item_26 rfl (lv_at hl 0 rfl) ?_
      refine fg_X6_31 C hw 0 rfl rfl dX6_item_27 ?_
      refine lv_imul hx hb dX6_item_30 ?_
      refine lv_iload_n hx hb dX6_item_31 rfl (lv_at hl 1 rfl) ?_
      refine lv_iadd hx hb dX6_item_32 ?_
      obtain ⟨x3, ex3, gx3, hf⟩ := rd_el hf
      refine ra_i C hw 9 rfl gx3 dX6_item_33 ?_
      refine tp_i ex3 ?_
      refine lv_goto (tgt := 60) hx hb dX6_item_34 (by decide) ?_
      cases hf
      exact rt_i C hw dX6_item_60
  · replace hf := it_t c11 hf
    refine lv_iconst (v := -1) hx hb dX6_item_14 (by decide) ?_
    cases hf
    exact rt_i C hw dX6_item_15
def f_X6_by (p1 : Int32) (mo_code : Int32) (mo_kept : Int32) (mo_many : Nat → Int32) (mo_by : Nat → Int32) : Option ((Int32) × (Int32)) :=
  ob1 (f_X6_has p1 (1 : Int32) mo_kept mo_many) (fun x1 =>
  if x1 = (0 : Int32) then (some ((-1 : Int32), (0 : Int32)))
  else (rd mo_by 16 (((8 : Int32) * mo_kept) + p1) (fun x2 =>
  some (x2, (0 : Int32)))))
set_option maxHeartbeats 4000000 in
set_option maxRecDepth 100000 in
theorem c_X6_by (l : Launch) (E : EnvT) (a_mo : Nat → Nat) (mo_code : Int32) (mo_tape : Nat → Int32) (mo_text : Nat → Int32) (mo_taped : Int32) (mo_size : Int32) (mo_at : Int32) (mo_ill : Int32) (mo_in : Nat → Int32) (mo_kind : Nat → Int32) (mo_type : Nat → Int32) (mo_long1 : Nat → Int32) (mo_letters : Nat → Int32) (mo_fields : Int32) (mo_kept : Int32) (mo_now : Int32) (mo_many : Nat → Int32) (mo_itemKind : Nat → Int32) (mo_itemField : Nat → Int32) (mo_itemPlace : Nat → Int32) (mo_by : Nat → Int32) (mo_stepKind : Nat → Int32) (mo_stepField : Nat → Int32) (mo_stepOperator : Nat → Int32) (mo_stepOther : Nat → Int32) (mo_stepMany : Nat → Int32) (mo_literalType : Nat → Int32) (mo_literalFrom : Nat → Int32) (mo_literalSize : Nat → Int32) (mo_bytes : Nat → Int32) (mo_said : Nat → Int32) (mo_number : Nat → Int64) (mo_pile : Nat → Int32) (mo_pilePlace : Nat → Int32) (mo_top : Int32) (mo_open : Int32) (p1 : Int32) (r : Int32) (o_mo_code : Int32) (hf : f_X6_by p1 mo_code mo_kept mo_many mo_by = some (r, o_mo_code)) : CI l yX6_by (Cond.code yX6_by cX6_by 2 (some .int)) { frames := 1, cells := 0, slots := 0, locals := 22 } E [.ref (a_mo 0), .int p1] (w_mo E a_mo mo_code mo_tape mo_text mo_taped mo_size mo_at mo_ill mo_in mo_kind mo_type mo_long1 mo_letters mo_fields mo_kept mo_now mo_many mo_itemKind mo_itemField mo_itemPlace mo_by mo_stepKind mo_stepField mo_stepOperator mo_stepOther mo_stepMany mo_literalType mo_literalFrom mo_literalSize mo_bytes mo_said mo_number mo_pile mo_pilePlace mo_top mo_open) r (w_mo E a_mo o_mo_code mo_tape mo_text mo_taped mo_size mo_at mo_ill mo_in mo_kind mo_type mo_long1 mo_letters mo_fields mo_kept mo_now mo_many mo_itemKind mo_itemField mo_itemPlace mo_by mo_stepKind mo_stepField mo_stepOperator mo_stepOther mo_stepMany mo_literalType mo_literalFrom mo_literalSize mo_bytes mo_said mo_number mo_pile mo_pilePlace mo_top mo_open) := by
  intro sz
  refine met_start [(0, .ref (a_mo 0)), (1, .int p1)] (by decide) rfl rfl (Nat.le_of_ble_eq_true rfl) rfl ?_
  intro p e s m below meth c ls C hnm hmt hw hl
  have hx := C.1
  have hb := C.2.1
  generalize va_A (w_mo E a_mo mo_code mo_tape mo_text mo_taped mo_size mo_at mo_ill mo_in mo_kind mo_type mo_long1 mo_letters mo_fields mo_kept mo_now mo_many mo_itemKind mo_itemField mo_itemPlace mo_by mo_stepKind mo_stepField mo_stepOperator mo_stepOther mo_stepMany mo_literalType mo_literalFrom mo_literalSize mo_bytes mo_said mo_number mo_pile mo_pilePlace mo_top mo_open) sz = A at C hw ⊢
  unfold f_X6_by at hf
  refine lv_aload_n hx hb dX6_by_0 rfl (lv_at hl 0 rfl) ?_
  refine lv_iconst (v := 0) hx hb dX6_by_1 (by decide) ?_
  refine fp_X6_90 C hw 0 rfl (Nat.le_of_ble_eq_true rfl) (ws' := w_mo E a_mo (0 : Int32) mo_tape mo_text mo_taped mo_size mo_at mo_ill mo_in mo_kind mo_type mo_long1 mo_letters mo_fields mo_kept mo_now mo_many mo_itemKind mo_itemField mo_itemPlace mo_by mo_stepKind mo_stepField mo_stepOperator mo_stepOther mo_stepMany mo_literalType mo_literalFrom mo_literalSize mo_bytes mo_said mo_number mo_pile mo_pilePlace mo_top mo_open) rfl dX6_by_2 (fun H locs hw => ?_)
  refine lv_aload_n hx hb dX6_by_5 rfl (lv_at hl 0 rfl) ?_
  refine lv_iload_n hx hb dX6_by_6 rfl (lv_at hl 1 rfl) ?_
  refine lv_iconst (v := 1) hx hb dX6_by_7 (by decide) ?_
  obtain ⟨x1, z1, hf⟩ := ob1_el hf
  refine cI_V C hw (c_X6_has l E a_mo (0 : Int32) mo_tape mo_text mo_taped mo_size mo_at mo_ill mo_in mo_kind mo_type mo_long1 mo_letters mo_fields mo_kept mo_now mo_many mo_itemKind mo_itemField mo_itemPlace mo_by mo_stepKind mo_stepField mo_stepOperator mo_stepOther mo_stepMany mo_literalType mo_literalFrom mo_literalSize mo_bytes mo_said mo_number mo_pile mo_pilePlace mo_top mo_open p1 (1 : Int32) x1 z1) cs_X6_265 ⟨Nat.le_of_ble_eq_true rfl, Nat.le_of_ble_eq_true rfl⟩ ⟨rfl, rfl⟩ (ci := 6) (cn := (RX6, TX6, 35)) rfl (q0 := 0) rfl (wn := w_mo E a_mo (0 : Int32) mo_tape mo_text mo_taped mo_size mo_at mo_ill mo_in mo_kind mo_type mo_long1 mo_letters mo_fields mo_kept mo_now mo_many mo_itemKind mo_itemField mo_itemPlace mo_by mo_stepKind mo_stepField mo_stepOperator mo_stepOther mo_stepMany mo_literalType mo_literalFrom mo_literalSize mo_bytes mo_said mo_number mo_pile mo_pilePlace mo_top mo_open) (Jn.all _ _) rfl hl.1 rfl (Nat.le_of_ble_eq_true rfl) dX6_by_8 ⟨Nat.zero_le _, Nat.zero_le _⟩ (fun H locs hw => ?_)
  refine lv_if_eq (tgt := 31) hx hb dX6_by_11 (by decide) (fun c11 => ?_) (fun c11 => ?_)
  · replace hf := it_t c11 hf
    refine lv_iconst (v := -1) hx hb dX6_by_31 (by decide) ?_
    cases hf
    exact rt_i C hw dX6_by_32
  · replace hf := it_f c11 hf
    refine lv_aload_n hx hb dX6_by_14 rfl (lv_at hl 0 rfl) ?_
    refine fg_X6_47 C hw 0 rfl rfl dX6_by_15 ?_
    refine lv_bipush (v := 8) hx hb dX6_by_18 (by decide) ?_
    refine lv_aload_n hx hb dX6_by_20 rfl (lv_at hl 0 rfl) ?_
    refine fg_X6_31 C hw 0 rfl rfl dX6_by_21 ?_
    refine lv_imul hx hb dX6_by_24 ?_
    refine lv_iload_n hx hb dX6_by_25 rfl (lv_at hl 1 rfl) ?_
    refine lv_iadd hx hb dX6_by_26 ?_
    obtain ⟨x2, ex2, gx2, hf⟩ := rd_el hf
    refine ra_i C hw 12 rfl gx2 dX6_by_27 ?_
    refine tp_i ex2 ?_
    refine lv_goto (tgt := 32) hx hb dX6_by_28 (by decide) ?_
    cases hf
    exact rt_i C hw dX6_by_32
def f_X6_step (p1 : Int32) (p2 : Int32) (mo_code : Int32) (mo_kept : Int32) (mo_many : Nat → Int32) (mo_stepKind : Nat → Int32) (mo_stepField : Nat → Int32) (mo_stepOperator : Nat → Int32) (mo_stepOther : Nat → Int32) (mo_stepMany : Nat → Int32) : Option ((Int32) × (Int32)) :=
  ob1 (f_X6_has p1 (2 : Int32) mo_kept mo_many) (fun x1 =>
  if x1 = (0 : Int32) then (some ((-1 : Int32), (0 : Int32)))
  else (on (((64 : Int32) * mo_kept) + p1) (fun x2 =>
  if p2 = (0 : Int32) then (rd mo_stepKind 128 x2 (fun x7 =>
  some (x7, (0 : Int32))))
  else (if p2 = (1 : Int32) then (rd mo_stepField 128 x2 (fun x6 =>
  some (x6, (0 : Int32))))
  else (if p2 = (2 : Int32) then (rd mo_stepOperator 128 x2 (fun x5 =>
  some (x5, (0 : Int32))))
  else (if p2 = (3 : Int32) then (rd mo_stepOther 128 x2 (fun x4 =>
  some (x4, (0 : Int32))))
  else (if p2 = (4 : Int32) then (rd mo_stepMany 128 x2 (fun x3 =>
  some (x3, (0 : Int32))))
  else (some ((-1 : Int32), (0 : Int32))))))))))
set_option maxHeartbeats 4000000 in
set_option maxRecDepth 100000 in
theorem c_X6_step (l : Launch) (E : EnvT) (a_mo : Nat → Nat) (mo_code : Int32) (mo_tape : Nat → Int32) (mo_text : Nat → Int32) (mo_taped : Int32) (mo_size : Int32) (mo_at : Int32) (mo_ill : Int32) (mo_in : Nat → Int32) (mo_kind : Nat → Int32) (mo_type : Nat → Int32) (mo_long1 : Nat → Int32) (mo_letters : Nat → Int32) (mo_fields : Int32) (mo_kept : Int32) (mo_now : Int32) (mo_many : Nat → Int32) (mo_itemKind : Nat → Int32) (mo_itemField : Nat → Int32) (mo_itemPlace : Nat → Int32) (mo_by : Nat → Int32) (mo_stepKind : Nat → Int32) (mo_stepField : Nat → Int32) (mo_stepOperator : Nat → Int32) (mo_stepOther : Nat → Int32) (mo_stepMany : Nat → Int32) (mo_literalType : Nat → Int32) (mo_literalFrom : Nat → Int32) (mo_literalSize : Nat → Int32) (mo_bytes : Nat → Int32) (mo_said : Nat → Int32) (mo_number : Nat → Int64) (mo_pile : Nat → Int32) (mo_pilePlace : Nat → Int32) (mo_top : Int32) (mo_open : Int32) (p1 : Int32) (p2 : Int32) (r : Int32) (o_mo_code : Int32) (hf : f_X6_step p1 p2 mo_code mo_kept mo_many mo_stepKind mo_stepField mo_stepOperator mo_stepOther mo_stepMany = some (r, o_mo_code)) : CI l yX6_step (Cond.code yX6_step cX6_step 4 (some .int)) { frames := 1, cells := 0, slots := 0, locals := 22 } E [.ref (a_mo 0), .int p1, .int p2] (w_mo E a_mo mo_code mo_tape mo_text mo_taped mo_size mo_at mo_ill mo_in mo_kind mo_type mo_long1 mo_letters mo_fields mo_kept mo_now mo_many mo_itemKind mo_itemField mo_itemPlace mo_by mo_stepKind mo_stepField mo_stepOperator mo_stepOther mo_stepMany mo_literalType mo_literalFrom mo_literalSize mo_bytes mo_said mo_number mo_pile mo_pilePlace mo_top mo_open) r (w_mo E a_mo o_mo_code mo_tape mo_text mo_taped mo_size mo_at mo_ill mo_in mo_kind mo_type mo_long1 mo_letters mo_fields mo_kept mo_now mo_many mo_itemKind mo_itemField mo_itemPlace mo_by mo_stepKind mo_stepField mo_stepOperator mo_stepOther mo_stepMany mo_literalType mo_literalFrom mo_literalSize mo_bytes mo_said mo_number mo_pile mo_pilePlace mo_top mo_open) := by
  intro sz
  refine met_start [(0, .ref (a_mo 0)), (1, .int p1), (2, .int p2)] (by decide) rfl rfl (Nat.le_of_ble_eq_true rfl) rfl ?_
  intro p e s m below meth c ls C hnm hmt hw hl
  have hx := C.1
  have hb := C.2.1
  generalize va_A (w_mo E a_mo mo_code mo_tape mo_text mo_taped mo_size mo_at mo_ill mo_in mo_kind mo_type mo_long1 mo_letters mo_fields mo_kept mo_now mo_many mo_itemKind mo_itemField mo_itemPlace mo_by mo_stepKind mo_stepField mo_stepOperator mo_stepOther mo_stepMany mo_literalType mo_literalFrom mo_literalSize mo_bytes mo_said mo_number mo_pile mo_pilePlace mo_top mo_open) sz = A at C hw ⊢
  unfold f_X6_step at hf
  refine lv_aload_n hx hb dX6_step_0 rfl (lv_at hl 0 rfl) ?_
  refine lv_iconst (v := 0) hx hb dX6_step_1 (by decide) ?_
  refine fp_X6_90 C hw 0 rfl (Nat.le_of_ble_eq_true rfl) (ws' := w_mo E a_mo (0 : Int32) mo_tape mo_text mo_taped mo_size mo_at mo_ill mo_in mo_kind mo_type mo_long1 mo_letters mo_fields mo_kept mo_now mo_many mo_itemKind mo_itemField mo_itemPlace mo_by mo_stepKind mo_stepField mo_stepOperator mo_stepOther mo_stepMany mo_literalType mo_literalFrom mo_literalSize mo_bytes mo_said mo_number mo_pile mo_pilePlace mo_top mo_open) rfl dX6_step_2 (fun H locs hw => ?_)
  refine lv_aload_n hx hb dX6_step_5 rfl (lv_at hl 0 rfl) ?_
  refine lv_iload_n hx hb dX6_step_6 rfl (lv_at hl 1 rfl) ?_
  refine lv_iconst (v := 2) hx hb dX6_step_7 (by decide) ?_
  obtain ⟨x1, z1, hf⟩ := ob1_el hf
  refine cI_V C hw (c_X6_has l E a_mo (0 : Int32) mo_tape mo_text mo_taped mo_size mo_at mo_ill mo_in mo_kind mo_type mo_long1 mo_letters mo_fields mo_kept mo_now mo_many mo_itemKind mo_itemField mo_itemPlace mo_by mo_stepKind mo_stepField mo_stepOperator mo_stepOther mo_stepMany mo_literalType mo_literalFrom mo_literalSize mo_bytes mo_said mo_number mo_pile mo_pilePlace mo_top mo_open p1 (2 : Int32) x1 z1) cs_X6_265 ⟨Nat.le_of_ble_eq_true rfl, Nat.le_of_ble_eq_true rfl⟩ ⟨rfl, rfl⟩ (ci := 6) (cn := (RX6, TX6, 35)) rfl (q0 := 0) rfl (wn := w_mo E a_mo (0 : Int32) mo_tape mo_text mo_taped mo_size mo_at mo_ill mo_in mo_kind mo_type mo_long1 mo_letters mo_fields mo_kept mo_now mo_many mo_itemKind mo_itemField mo_itemPlace mo_by mo_stepKind mo_stepField mo_stepOperator mo_stepOther mo_stepMany mo_literalType mo_literalFrom mo_literalSize mo_bytes mo_said mo_number mo_pile mo_pilePlace mo_top mo_open) (Jn.all _ _) rfl hl.1 rfl (Nat.le_of_ble_eq_true rfl) dX6_step_8 ⟨Nat.zero_le _, Nat.zero_le _⟩ (fun H locs hw => ?_)
  refine lv_if_ne (tgt := 16) hx hb dX6_step_11 (by decide) (fun c11 => ?_) (fun c11 => ?_)
  · replace hf := it_f c11 hf
    refine lv_bipush (v := 64) hx hb dX6_step_16 (by decide) ?_
    refine lv_aload_n hx hb dX6_step_18 rfl (lv_at hl 0 rfl) ?_
    refine fg_X6_31 C hw 0 rfl rfl dX6_step_19 ?_
    refine lv_imul hx hb dX6_step_22 ?_
    refine lv_iload_n hx hb dX6_step_23 rfl (lv_at hl 1 rfl) ?_
    refine lv_iadd hx hb dX6_step_24 ?_
    obtain ⟨x2, ex2, hf⟩ := on_el hf
    refine tp_i ex2 ?_
    refine lv_istore_n (lv' := [(3, .int x2), (0, .ref (a_mo 0)), (1, .int p1), (2, .int p2)]) hx hb dX6_step_25 rfl hl (by decide) rfl (fun ls hl => ?_)
    refine lv_iload_n hx hb dX6_step_26 rfl (lv_at hl 3 rfl) ?_
    refine lv_if_ne (tgt := 39) hx hb dX6_step_27 (by decide) (fun c27 => ?_) (fun c27 => ?_)
    · replace hf := it_f c27 hf
      refine lv_iload_n hx hb dX6_step_39 rfl (lv_at hl 3 rfl) ?_
      refine lv_iconst (v := 1) hx hb dX6_step_40 (by decide) ?_
      refine lv_icmp_ne (tgt := 53) hx hb dX6_step_41 (by decide) (fun c41 => ?_) (fun c41 => ?_)
      · replace hf := it_f c41 hf
        refine lv_iload_n hx hb dX6_step_53 rfl (lv_at hl 3 rfl) ?_
        refine lv_iconst (v := 2) hx hb dX6_step_54 (by decide) ?_
        refine lv_icmp_ne (tgt := 67) hx hb dX6_step_55 (by decide) (fun c55 => ?_) (fun c55 => ?_)
        · replace hf := it_f c55 hf
          refine lv_iload_n hx hb dX6_step_67 rfl (lv_at hl 3 rfl) ?_
          refine lv_iconst (v := 3) hx hb dX6_step_68 (by decide) ?_
          refine lv_icmp_ne (tgt := 81) hx hb dX6_step_69 (by decide) (fun c69 => ?_) (fun c69 => ?_)
          · replace hf := it_f c69 hf
            refine lv_iload_n hx hb dX6_step_81 rfl (lv_at hl 3 rfl) ?_
            refine lv_iconst (v := 4) hx hb dX6_step_82 (by decide) ?_
            refine lv_icmp_ne (tgt := 95) hx hb dX6_step_83 (by decide) (fun c83 => ?_) (fun c83 => ?_)
            · replace hf := it_f c83 hf
              refine lv_iconst (v := -1) hx hb dX6_step_95 (by decide) ?_
              cases hf
              exact rt_i C hw dX6_step_96
            · replace hf := it_t c83 hf
              refine lv_aload_n hx hb dX6_step_86 rfl (lv_at hl 1 rfl) ?_
              refine fg_X6_62 C hw 0 rfl rfl dX6_step_87 ?_
              refine lv_iload_n hx hb dX6_step_90 rfl (lv_at hl 0 rfl) ?_
              obtain ⟨x3, ex3, gx3, hf⟩ := rd_el hf
              refine ra_i C hw 17 rfl gx3 dX6_step_91 ?_
              refine tp_i ex3 ?_
              refine lv_goto (tgt := 96) hx hb dX6_step_92 (by decide) ?_
              cases hf
              exact rt_i C hw dX6_step_96
          · replace hf := it_t c69 hf
            refine lv_aload_n hx hb dX6_step_72 rfl (lv_at hl 1 rfl) ?_
            refine fg_X6_59 C hw 0 rfl rfl dX6_step_73 ?_
            refine lv_iload_n hx hb dX6_step_76 rfl (lv_at hl 0 rfl) ?_
            obtain ⟨x4, ex4, gx4, hf⟩ := rd_el hf
            refine ra_i C hw 16 rfl gx4 dX6_step_77 ?_
            refine tp_i ex4 ?_
            refine lv_goto (tgt := 96) hx hb dX6_step_78 (by decide) ?_
            cases hf
            exact rt_i C hw dX6_step_96
        · replace hf := it_t c55 hf
          refine lv_aload_n hx hb dX6_step_58 rfl (lv_at hl 1 rfl) ?_
          refine fg_X6_56 C hw 0 rfl rfl dX6_step_59 ?_
          refine lv_iload_n hx hb dX6_step_62 rfl (lv_at hl 0 rfl) ?_
          obtain ⟨x5, ex5, gx5, hf⟩ := rd_el hf
          refine ra_i C hw 15 rfl gx5 dX6_step_63 ?_
          refine tp_i ex5 ?_
          refine lv_goto (tgt := 96) hx hb dX6_step_64 (by decide) ?_
          cases hf
          exact rt_i C hw dX6_step_96
      · replace hf := it_t c41 hf
        refine lv_aload_n hx hb dX6_step_44 rfl (lv_at hl 1 rfl) ?_
        refine fg_X6_53 C hw 0 rfl rfl dX6_step_45 ?_
        refine lv_iload_n hx hb dX6_step_48 rfl (lv_at hl 0 rfl) ?_
        obtain ⟨x6, ex6, gx6, hf⟩ := rd_el hf
        refine ra_i C hw 14 rfl gx6 dX6_step_49 ?_
        refine tp_i ex6 ?_
        refine lv_goto (tgt := 96) hx hb dX6_step_50 (by decide) ?_
        cases hf
        exact rt_i C hw dX6_step_96
    · replace hf := it_t c27 hf
      refine lv_aload_n hx hb dX6_step_30 rfl (lv_at hl 1 rfl) ?_
      refine fg_X6_50 C hw 0 rfl rfl dX6_step_31 ?_
      refine lv_iload_n hx hb dX6_step_34 rfl (lv_at hl 0 rfl) ?_
      obtain ⟨x7, ex7, gx7, hf⟩ := rd_el hf
      refine ra_i C hw 13 rfl gx7 dX6_step_35 ?_
      refine tp_i ex7 ?_
      refine lv_goto (tgt := 96) hx hb dX6_step_36 (by decide) ?_
      cases hf
      exact rt_i C hw dX6_step_96
  · replace hf := it_t c11 hf
    refine lv_iconst (v := -1) hx hb dX6_step_14 (by decide) ?_
    cases hf
    exact rt_i C hw dX6_step_15
def f_X6_literal (p1 : Int32) (mo_code : Int32) (mo_kept : Int32) (mo_many : Nat → Int32) (mo_literalType : Nat → Int32) : Option ((Int32) × (Int32)) :=
  ob1 (f_X6_has p1 (3 : Int32) mo_kept mo_many) (fun x1 =>
  if x1 = (0 : Int32) then (some ((-1 : Int32), (0 : Int32)))
  else (rd mo_literalType 128 (((64 : Int32) * mo_kept) + p1) (fun x2 =>
  some (x2, (0 : Int32)))))
set_option maxHeartbeats 4000000 in
set_option maxRecDepth 100000 in
theorem c_X6_literal (l : Launch) (E : EnvT) (a_mo : Nat → Nat) (mo_code : Int32) (mo_tape : Nat → Int32) (mo_text : Nat → Int32) (mo_taped : Int32) (mo_size : Int32) (mo_at : Int32) (mo_ill : Int32) (mo_in : Nat → Int32) (mo_kind : Nat → Int32) (mo_type : Nat → Int32) (mo_long1 : Nat → Int32) (mo_letters : Nat → Int32) (mo_fields : Int32) (mo_kept : Int32) (mo_now : Int32) (mo_many : Nat → Int32) (mo_itemKind : Nat → Int32) (mo_itemField : Nat → Int32) (mo_itemPlace : Nat → Int32) (mo_by : Nat → Int32) (mo_stepKind : Nat → Int32) (mo_stepField : Nat → Int32) (mo_stepOperator : Nat → Int32) (mo_stepOther : Nat → Int32) (mo_stepMany : Nat → Int32) (mo_literalType : Nat → Int32) (mo_literalFrom : Nat → Int32) (mo_literalSize : Nat → Int32) (mo_bytes : Nat → Int32) (mo_said : Nat → Int32) (mo_number : Nat → Int64) (mo_pile : Nat → Int32) (mo_pilePlace : Nat → Int32) (mo_top : Int32) (mo_open : Int32) (p1 : Int32) (r : Int32) (o_mo_code : Int32) (hf : f_X6_literal p1 mo_code mo_kept mo_many mo_literalType = some (r, o_mo_code)) : CI l yX6_literal (Cond.code yX6_literal cX6_literal 2 (some .int)) { frames := 1, cells := 0, slots := 0, locals := 22 } E [.ref (a_mo 0), .int p1] (w_mo E a_mo mo_code mo_tape mo_text mo_taped mo_size mo_at mo_ill mo_in mo_kind mo_type mo_long1 mo_letters mo_fields mo_kept mo_now mo_many mo_itemKind mo_itemField mo_itemPlace mo_by mo_stepKind mo_stepField mo_stepOperator mo_stepOther mo_stepMany mo_literalType mo_literalFrom mo_literalSize mo_bytes mo_said mo_number mo_pile mo_pilePlace mo_top mo_open) r (w_mo E a_mo o_mo_code mo_tape mo_text mo_taped mo_size mo_at mo_ill mo_in mo_kind mo_type mo_long1 mo_letters mo_fields mo_kept mo_now mo_many mo_itemKind mo_itemField mo_itemPlace mo_by mo_stepKind mo_stepField mo_stepOperator mo_stepOther mo_stepMany mo_literalType mo_literalFrom mo_literalSize mo_bytes mo_said mo_number mo_pile mo_pilePlace mo_top mo_open) := by
  intro sz
  refine met_start [(0, .ref (a_mo 0)), (1, .int p1)] (by decide) rfl rfl (Nat.le_of_ble_eq_true rfl) rfl ?_
  intro p e s m below meth c ls C hnm hmt hw hl
  have hx := C.1
  have hb := C.2.1
  generalize va_A (w_mo E a_mo mo_code mo_tape mo_text mo_taped mo_size mo_at mo_ill mo_in mo_kind mo_type mo_long1 mo_letters mo_fields mo_kept mo_now mo_many mo_itemKind mo_itemField mo_itemPlace mo_by mo_stepKind mo_stepField mo_stepOperator mo_stepOther mo_stepMany mo_literalType mo_literalFrom mo_literalSize mo_bytes mo_said mo_number mo_pile mo_pilePlace mo_top mo_open) sz = A at C hw ⊢
  unfold f_X6_literal at hf
  refine lv_aload_n hx hb dX6_literal_0 rfl (lv_at hl 0 rfl) ?_
  refine lv_iconst (v := 0) hx hb dX6_literal_1 (by decide) ?_
  refine fp_X6_90 C hw 0 rfl (Nat.le_of_ble_eq_true rfl) (ws' := w_mo E a_mo (0 : Int32) mo_tape mo_text mo_taped mo_size mo_at mo_ill mo_in mo_kind mo_type mo_long1 mo_letters mo_fields mo_kept mo_now mo_many mo_itemKind mo_itemField mo_itemPlace mo_by mo_stepKind mo_stepField mo_stepOperator mo_stepOther mo_stepMany mo_literalType mo_literalFrom mo_literalSize mo_bytes mo_said mo_number mo_pile mo_pilePlace mo_top mo_open) rfl dX6_literal_2 (fun H locs hw => ?_)
  refine lv_aload_n hx hb dX6_literal_5 rfl (lv_at hl 0 rfl) ?_
  refine lv_iload_n hx hb dX6_literal_6 rfl (lv_at hl 1 rfl) ?_
  refine lv_iconst (v := 3) hx hb dX6_literal_7 (by decide) ?_
  obtain ⟨x1, z1, hf⟩ := ob1_el hf
  refine cI_V C hw (c_X6_has l E a_mo (0 : Int32) mo_tape mo_text mo_taped mo_size mo_at mo_ill mo_in mo_kind mo_type mo_long1 mo_letters mo_fields mo_kept mo_now mo_many mo_itemKind mo_itemField mo_itemPlace mo_by mo_stepKind mo_stepField mo_stepOperator mo_stepOther mo_stepMany mo_literalType mo_literalFrom mo_literalSize mo_bytes mo_said mo_number mo_pile mo_pilePlace mo_top mo_open p1 (3 : Int32) x1 z1) cs_X6_265 ⟨Nat.le_of_ble_eq_true rfl, Nat.le_of_ble_eq_true rfl⟩ ⟨rfl, rfl⟩ (ci := 6) (cn := (RX6, TX6, 35)) rfl (q0 := 0) rfl (wn := w_mo E a_mo (0 : Int32) mo_tape mo_text mo_taped mo_size mo_at mo_ill mo_in mo_kind mo_type mo_long1 mo_letters mo_fields mo_kept mo_now mo_many mo_itemKind mo_itemField mo_itemPlace mo_by mo_stepKind mo_stepField mo_stepOperator mo_stepOther mo_stepMany mo_literalType mo_literalFrom mo_literalSize mo_bytes mo_said mo_number mo_pile mo_pilePlace mo_top mo_open) (Jn.all _ _) rfl hl.1 rfl (Nat.le_of_ble_eq_true rfl) dX6_literal_8 ⟨Nat.zero_le _, Nat.zero_le _⟩ (fun H locs hw => ?_)
  refine lv_if_eq (tgt := 31) hx hb dX6_literal_11 (by decide) (fun c11 => ?_) (fun c11 => ?_)
  · replace hf := it_t c11 hf
    refine lv_iconst (v := -1) hx hb dX6_literal_31 (by decide) ?_
    cases hf
    exact rt_i C hw dX6_literal_32
  · replace hf := it_f c11 hf
    refine lv_aload_n hx hb dX6_literal_14 rfl (lv_at hl 0 rfl) ?_
    refine fg_X6_65 C hw 0 rfl rfl dX6_literal_15 ?_
    refine lv_bipush (v := 64) hx hb dX6_literal_18 (by decide) ?_
    refine lv_aload_n hx hb dX6_literal_20 rfl (lv_at hl 0 rfl) ?_
    refine fg_X6_31 C hw 0 rfl rfl dX6_literal_21 ?_
    refine lv_imul hx hb dX6_literal_24 ?_
    refine lv_iload_n hx hb dX6_literal_25 rfl (lv_at hl 1 rfl) ?_
    refine lv_iadd hx hb dX6_literal_26 ?_
    obtain ⟨x2, ex2, gx2, hf⟩ := rd_el hf
    refine ra_i C hw 18 rfl gx2 dX6_literal_27 ?_
    refine tp_i ex2 ?_
    refine lv_goto (tgt := 32) hx hb dX6_literal_28 (by decide) ?_
    cases hf
    exact rt_i C hw dX6_literal_32
def f_X6_number (p1 : Int32) (mo_code : Int32) (mo_kept : Int32) (mo_many : Nat → Int32) (mo_number : Nat → Int64) : Option ((Int64) × (Int32)) :=
  ob1 (f_X6_has p1 (3 : Int32) mo_kept mo_many) (fun x1 =>
  if x1 = (0 : Int32) then (some ((0 : Int64), (0 : Int32)))
  else (rd mo_number 128 (((64 : Int32) * mo_kept) + p1) (fun x2 =>
  some (x2, (0 : Int32)))))
set_option maxHeartbeats 4000000 in
set_option maxRecDepth 100000 in
theorem c_X6_number (l : Launch) (E : EnvT) (a_mo : Nat → Nat) (mo_code : Int32) (mo_tape : Nat → Int32) (mo_text : Nat → Int32) (mo_taped : Int32) (mo_size : Int32) (mo_at : Int32) (mo_ill : Int32) (mo_in : Nat → Int32) (mo_kind : Nat → Int32) (mo_type : Nat → Int32) (mo_long1 : Nat → Int32) (mo_letters : Nat → Int32) (mo_fields : Int32) (mo_kept : Int32) (mo_now : Int32) (mo_many : Nat → Int32) (mo_itemKind : Nat → Int32) (mo_itemField : Nat → Int32) (mo_itemPlace : Nat → Int32) (mo_by : Nat → Int32) (mo_stepKind : Nat → Int32) (mo_stepField : Nat → Int32) (mo_stepOperator : Nat → Int32) (mo_stepOther : Nat → Int32) (mo_stepMany : Nat → Int32) (mo_literalType : Nat → Int32) (mo_literalFrom : Nat → Int32) (mo_literalSize : Nat → Int32) (mo_bytes : Nat → Int32) (mo_said : Nat → Int32) (mo_number : Nat → Int64) (mo_pile : Nat → Int32) (mo_pilePlace : Nat → Int32) (mo_top : Int32) (mo_open : Int32) (p1 : Int32) (r : Int64) (o_mo_code : Int32) (hf : f_X6_number p1 mo_code mo_kept mo_many mo_number = some (r, o_mo_code)) : CL l yX6_number (Cond.code yX6_number cX6_number 2 (some .long)) { frames := 1, cells := 0, slots := 0, locals := 22 } E [.ref (a_mo 0), .int p1] (w_mo E a_mo mo_code mo_tape mo_text mo_taped mo_size mo_at mo_ill mo_in mo_kind mo_type mo_long1 mo_letters mo_fields mo_kept mo_now mo_many mo_itemKind mo_itemField mo_itemPlace mo_by mo_stepKind mo_stepField mo_stepOperator mo_stepOther mo_stepMany mo_literalType mo_literalFrom mo_literalSize mo_bytes mo_said mo_number mo_pile mo_pilePlace mo_top mo_open) r (w_mo E a_mo o_mo_code mo_tape mo_text mo_taped mo_size mo_at mo_ill mo_in mo_kind mo_type mo_long1 mo_letters mo_fields mo_kept mo_now mo_many mo_itemKind mo_itemField mo_itemPlace mo_by mo_stepKind mo_stepField mo_stepOperator mo_stepOther mo_stepMany mo_literalType mo_literalFrom mo_literalSize mo_bytes mo_said mo_number mo_pile mo_pilePlace mo_top mo_open) := by
  intro sz
  refine met_start [(0, .ref (a_mo 0)), (1, .int p1)] (by decide) rfl rfl (Nat.le_of_ble_eq_true rfl) rfl ?_
  intro p e s m below meth c ls C hnm hmt hw hl
  have hx := C.1
  have hb := C.2.1
  generalize va_A (w_mo E a_mo mo_code mo_tape mo_text mo_taped mo_size mo_at mo_ill mo_in mo_kind mo_type mo_long1 mo_letters mo_fields mo_kept mo_now mo_many mo_itemKind mo_itemField mo_itemPlace mo_by mo_stepKind mo_stepField mo_stepOperator mo_stepOther mo_stepMany mo_literalType mo_literalFrom mo_literalSize mo_bytes mo_said mo_number mo_pile mo_pilePlace mo_top mo_open) sz = A at C hw ⊢
  unfold f_X6_number at hf
  refine lv_aload_n hx hb dX6_number_0 rfl (lv_at hl 0 rfl) ?_
  refine lv_iconst (v := 0) hx hb dX6_number_1 (by decide) ?_
  refine fp_X6_90 C hw 0 rfl (Nat.le_of_ble_eq_true rfl) (ws' := w_mo E a_mo (0 : Int32) mo_tape mo_text mo_taped mo_size mo_at mo_ill mo_in mo_kind mo_type mo_long1 mo_letters mo_fields mo_kept mo_now mo_many mo_itemKind mo_itemField mo_itemPlace mo_by mo_stepKind mo_stepField mo_stepOperator mo_stepOther mo_stepMany mo_literalType mo_literalFrom mo_literalSize mo_bytes mo_said mo_number mo_pile mo_pilePlace mo_top mo_open) rfl dX6_number_2 (fun H locs hw => ?_)
  refine lv_aload_n hx hb dX6_number_5 rfl (lv_at hl 0 rfl) ?_
  refine lv_iload_n hx hb dX6_number_6 rfl (lv_at hl 1 rfl) ?_
  refine lv_iconst (v := 3) hx hb dX6_number_7 (by decide) ?_
  obtain ⟨x1, z1, hf⟩ := ob1_el hf
  refine cI_V C hw (c_X6_has l E a_mo (0 : Int32) mo_tape mo_text mo_taped mo_size mo_at mo_ill mo_in mo_kind mo_type mo_long1 mo_letters mo_fields mo_kept mo_now mo_many mo_itemKind mo_itemField mo_itemPlace mo_by mo_stepKind mo_stepField mo_stepOperator mo_stepOther mo_stepMany mo_literalType mo_literalFrom mo_literalSize mo_bytes mo_said mo_number mo_pile mo_pilePlace mo_top mo_open p1 (3 : Int32) x1 z1) cs_X6_265 ⟨Nat.le_of_ble_eq_true rfl, Nat.le_of_ble_eq_true rfl⟩ ⟨rfl, rfl⟩ (ci := 6) (cn := (RX6, TX6, 35)) rfl (q0 := 0) rfl (wn := w_mo E a_mo (0 : Int32) mo_tape mo_text mo_taped mo_size mo_at mo_ill mo_in mo_kind mo_type mo_long1 mo_letters mo_fields mo_kept mo_now mo_many mo_itemKind mo_itemField mo_itemPlace mo_by mo_stepKind mo_stepField mo_stepOperator mo_stepOther mo_stepMany mo_literalType mo_literalFrom mo_literalSize mo_bytes mo_said mo_number mo_pile mo_pilePlace mo_top mo_open) (Jn.all _ _) rfl hl.1 rfl (Nat.le_of_ble_eq_true rfl) dX6_number_8 ⟨Nat.zero_le _, Nat.zero_le _⟩ (fun H locs hw => ?_)
  refine lv_if_eq (tgt := 31) hx hb dX6_number_11 (by decide) (fun c11 => ?_) (fun c11 => ?_)
  · replace hf := it_t c11 hf
    refine lv_lconst (v := 0) hx hb dX6_number_31 (by decide) ?_
    cases hf
    exact rt_l C hw dX6_number_32
  · replace hf := it_f c11 hf
    refine lv_aload_n hx hb dX6_number_14 rfl (lv_at hl 0 rfl) ?_
    refine fg_X6_80 C hw 0 rfl rfl dX6_number_15 ?_
    refine lv_bipush (v := 64) hx hb dX6_number_18 (by decide) ?_
    refine lv_aload_n hx hb dX6_number_20 rfl (lv_at hl 0 rfl) ?_
    refine fg_X6_31 C hw 0 rfl rfl dX6_number_21 ?_
    refine lv_imul hx hb dX6_number_24 ?_
    refine lv_iload_n hx hb dX6_number_25 rfl (lv_at hl 1 rfl) ?_
    refine lv_iadd hx hb dX6_number_26 ?_
    obtain ⟨x2, ex2, gx2, hf⟩ := rd_el hf
    refine ra_l C hw 23 rfl gx2 dX6_number_27 ?_
    refine tp_l ex2 ?_
    refine lv_goto (tgt := 32) hx hb dX6_number_28 (by decide) ?_
    cases hf
    exact rt_l C hw dX6_number_32
def f_X6_sizeOf (p1 : Int32) (mo_kept : Int32) (mo_many : Nat → Int32) (mo_literalType : Nat → Int32) (mo_literalSize : Nat → Int32) : Option ((Int32)) :=
  ob1 (f_X6_has p1 (3 : Int32) mo_kept mo_many) (fun x1 =>
  if x1 = (0 : Int32) then (some (-1 : Int32))
  else (rd mo_literalType 128 (((64 : Int32) * mo_kept) + p1) (fun x2 =>
  if x2 = (3 : Int32) then (rd mo_literalSize 128 (((64 : Int32) * mo_kept) + p1) (fun x3 =>
  some x3))
  else (some (-1 : Int32)))))
set_option maxHeartbeats 4000000 in
set_option maxRecDepth 100000 in
theorem c_X6_sizeOf (l : Launch) (E : EnvT) (a_mo : Nat → Nat) (mo_code : Int32) (mo_tape : Nat → Int32) (mo_text : Nat → Int32) (mo_taped : Int32) (mo_size : Int32) (mo_at : Int32) (mo_ill : Int32) (mo_in : Nat → Int32) (mo_kind : Nat → Int32) (mo_type : Nat → Int32) (mo_long1 : Nat → Int32) (mo_letters : Nat → Int32) (mo_fields : Int32) (mo_kept : Int32) (mo_now : Int32) (mo_many : Nat → Int32) (mo_itemKind : Nat → Int32) (mo_itemField : Nat → Int32) (mo_itemPlace : Nat → Int32) (mo_by : Nat → Int32) (mo_stepKind : Nat → Int32) (mo_stepField : Nat → Int32) (mo_stepOperator : Nat → Int32) (mo_stepOther : Nat → Int32) (mo_stepMany : Nat → Int32) (mo_literalType : Nat → Int32) (mo_literalFrom : Nat → Int32) (mo_literalSize : Nat → Int32) (mo_bytes : Nat → Int32) (mo_said : Nat → Int32) (mo_number : Nat → Int64) (mo_pile : Nat → Int32) (mo_pilePlace : Nat → Int32) (mo_top : Int32) (mo_open : Int32) (p1 : Int32) (r : Int32) (hf : f_X6_sizeOf p1 mo_kept mo_many mo_literalType mo_literalSize = some r) : CI l yX6_sizeOf (Cond.code yX6_sizeOf cX6_sizeOf 2 (some .int)) { frames := 1, cells := 0, slots := 0, locals := 22 } E [.ref (a_mo 0), .int p1] (w_mo E a_mo mo_code mo_tape mo_text mo_taped mo_size mo_at mo_ill mo_in mo_kind mo_type mo_long1 mo_letters mo_fields mo_kept mo_now mo_many mo_itemKind mo_itemField mo_itemPlace mo_by mo_stepKind mo_stepField mo_stepOperator mo_stepOther mo_stepMany mo_literalType mo_literalFrom mo_literalSize mo_bytes mo_said mo_number mo_pile mo_pilePlace mo_top mo_open) r (w_mo E a_mo mo_code mo_tape mo_text mo_taped mo_size mo_at mo_ill mo_in mo_kind mo_type mo_long1 mo_letters mo_fields mo_kept mo_now mo_many mo_itemKind mo_itemField mo_itemPlace mo_by mo_stepKind mo_stepField mo_stepOperator mo_stepOther mo_stepMany mo_literalType mo_literalFrom mo_literalSize mo_bytes mo_said mo_number mo_pile mo_pilePlace mo_top mo_open) := by
  intro sz
  refine met_start [(0, .ref (a_mo 0)), (1, .int p1)] (by decide) rfl rfl (Nat.le_of_ble_eq_true rfl) rfl ?_
  intro p e s m below meth c ls C hnm hmt hw hl
  have hx := C.1
  have hb := C.2.1
  generalize va_A (w_mo E a_mo mo_code mo_tape mo_text mo_taped mo_size mo_at mo_ill mo_in mo_kind mo_type mo_long1 mo_letters mo_fields mo_kept mo_now mo_many mo_itemKind mo_itemField mo_itemPlace mo_by mo_stepKind mo_stepField mo_stepOperator mo_stepOther mo_stepMany mo_literalType mo_literalFrom mo_literalSize mo_bytes mo_said mo_number mo_pile mo_pilePlace mo_top mo_open) sz = A at C hw ⊢
  unfold f_X6_sizeOf at hf
  refine lv_aload_n hx hb dX6_sizeOf_0 rfl (lv_at hl 0 rfl) ?_
  refine lv_iload_n hx hb dX6_sizeOf_1 rfl (lv_at hl 1 rfl) ?_
  refine lv_iconst (v := 3) hx hb dX6_sizeOf_2 (by decide) ?_
  obtain ⟨x1, z1, hf⟩ := ob1_el hf
  refine cI_V C hw (c_X6_has l E a_mo mo_code mo_tape mo_text mo_taped mo_size mo_at mo_ill mo_in mo_kind mo_type mo_long1 mo_letters mo_fields mo_kept mo_now mo_many mo_itemKind mo_itemField mo_itemPlace mo_by mo_stepKind mo_stepField mo_stepOperator mo_stepOther mo_stepMany mo_literalType mo_literalFrom mo_literalSize mo_bytes mo_said mo_number mo_pile mo_pilePlace mo_top mo_open p1 (3 : Int32) x1 z1) cs_X6_265 ⟨Nat.le_of_ble_eq_true rfl, Nat.le_of_ble_eq_true rfl⟩ ⟨rfl, rfl⟩ (ci := 6) (cn := (RX6, TX6, 35)) rfl (q0 := 0) rfl (wn := w_mo E a_mo mo_code mo_tape mo_text mo_taped mo_size mo_at mo_ill mo_in mo_kind mo_type mo_long1 mo_letters mo_fields mo_kept mo_now mo_many mo_itemKind mo_itemField mo_itemPlace mo_by mo_stepKind mo_stepField mo_stepOperator mo_stepOther mo_stepMany mo_literalType mo_literalFrom mo_literalSize mo_bytes mo_said mo_number mo_pile mo_pilePlace mo_top mo_open) (Jn.all _ _) rfl hl.1 rfl (Nat.le_of_ble_eq_true rfl) dX6_sizeOf_3 ⟨Nat.zero_le _, Nat.zero_le _⟩ (fun H locs hw => ?_)
  refine lv_if_eq (tgt := 44) hx hb dX6_sizeOf_6 (by decide) (fun c6 => ?_) (fun c6 => ?_)
  · replace hf := it_t c6 hf
    refine lv_iconst (v := -1) hx hb dX6_sizeOf_44 (by decide) ?_
    cases hf
    exact rt_i C hw dX6_sizeOf_45
  · replace hf := it_f c6 hf
    refine lv_aload_n hx hb dX6_sizeOf_9 rfl (lv_at hl 0 rfl) ?_
    refine fg_X6_65 C hw 0 rfl rfl dX6_sizeOf_10 ?_
    refine lv_bipush (v := 64) hx hb dX6_sizeOf_13 (by decide) ?_
    refine lv_aload_n hx hb dX6_sizeOf_15 rfl (lv_at hl 0 rfl) ?_
    refine fg_X6_31 C hw 0 rfl rfl dX6_sizeOf_16 ?_
    refine lv_imul hx hb dX6_sizeOf_19 ?_
    refine lv_iload_n hx hb dX6_sizeOf_20 rfl (lv_at hl 1 rfl) ?_
    refine lv_iadd hx hb dX6_sizeOf_21 ?_
    obtain ⟨x2, ex2, gx2, hf⟩ := rd_el hf
    refine ra_i C hw 18 rfl gx2 dX6_sizeOf_22 ?_
    refine tp_i ex2 ?_
    refine lv_iconst (v := 3) hx hb dX6_sizeOf_23 (by decide) ?_
    refine lv_icmp_ne (tgt := 44) hx hb dX6_sizeOf_24 (by decide) (fun c24 => ?_) (fun c24 => ?_)
    · replace hf := it_f c24 hf
      refine lv_iconst (v := -1) hx hb dX6_sizeOf_44 (by decide) ?_
      cases hf
      exact rt_i C hw dX6_sizeOf_45
    · replace hf := it_t c24 hf
      refine lv_aload_n hx hb dX6_sizeOf_27 rfl (lv_at hl 0 rfl) ?_
      refine fg_X6_71 C hw 0 rfl rfl dX6_sizeOf_28 ?_
      refine lv_bipush (v := 64) hx hb dX6_sizeOf_31 (by decide) ?_
      refine lv_aload_n hx hb dX6_sizeOf_33 rfl (lv_at hl 0 rfl) ?_
      refine fg_X6_31 C hw 0 rfl rfl dX6_sizeOf_34 ?_
      refine lv_imul hx hb dX6_sizeOf_37 ?_
      refine lv_iload_n hx hb dX6_sizeOf_38 rfl (lv_at hl 1 rfl) ?_
      refine lv_iadd hx hb dX6_sizeOf_39 ?_
      obtain ⟨x3, ex3, gx3, hf⟩ := rd_el hf
      refine ra_i C hw 20 rfl gx3 dX6_sizeOf_40 ?_
      refine tp_i ex3 ?_
      refine lv_goto (tgt := 45) hx hb dX6_sizeOf_41 (by decide) ?_
      cases hf
      exact rt_i C hw dX6_sizeOf_45
def f_X6_length (p1 : Int32) (mo_code : Int32) (mo_kept : Int32) (mo_many : Nat → Int32) (mo_literalType : Nat → Int32) (mo_literalSize : Nat → Int32) : Option ((Int32) × (Int32)) :=
  ob1 (f_X6_sizeOf p1 mo_kept mo_many mo_literalType mo_literalSize) (fun x1 =>
  some (x1, (0 : Int32)))
set_option maxHeartbeats 4000000 in
set_option maxRecDepth 100000 in
theorem c_X6_length (l : Launch) (E : EnvT) (a_mo : Nat → Nat) (mo_code : Int32) (mo_tape : Nat → Int32) (mo_text : Nat → Int32) (mo_taped : Int32) (mo_size : Int32) (mo_at : Int32) (mo_ill : Int32) (mo_in : Nat → Int32) (mo_kind : Nat → Int32) (mo_type : Nat → Int32) (mo_long1 : Nat → Int32) (mo_letters : Nat → Int32) (mo_fields : Int32) (mo_kept : Int32) (mo_now : Int32) (mo_many : Nat → Int32) (mo_itemKind : Nat → Int32) (mo_itemField : Nat → Int32) (mo_itemPlace : Nat → Int32) (mo_by : Nat → Int32) (mo_stepKind : Nat → Int32) (mo_stepField : Nat → Int32) (mo_stepOperator : Nat → Int32) (mo_stepOther : Nat → Int32) (mo_stepMany : Nat → Int32) (mo_literalType : Nat → Int32) (mo_literalFrom : Nat → Int32) (mo_literalSize : Nat → Int32) (mo_bytes : Nat → Int32) (mo_said : Nat → Int32) (mo_number : Nat → Int64) (mo_pile : Nat → Int32) (mo_pilePlace : Nat → Int32) (mo_top : Int32) (mo_open : Int32) (p1 : Int32) (r : Int32) (o_mo_code : Int32) (hf : f_X6_length p1 mo_code mo_kept mo_many mo_literalType mo_literalSize = some (r, o_mo_code)) : CI l yX6_length (Cond.code yX6_length cX6_length 2 (some .int)) { frames := 2, cells := 0, slots := 0, locals := 43 } E [.ref (a_mo 0), .int p1] (w_mo E a_mo mo_code mo_tape mo_text mo_taped mo_size mo_at mo_ill mo_in mo_kind mo_type mo_long1 mo_letters mo_fields mo_kept mo_now mo_many mo_itemKind mo_itemField mo_itemPlace mo_by mo_stepKind mo_stepField mo_stepOperator mo_stepOther mo_stepMany mo_literalType mo_literalFrom mo_literalSize mo_bytes mo_said mo_number mo_pile mo_pilePlace mo_top mo_open) r (w_mo E a_mo o_mo_code mo_tape mo_text mo_taped mo_size mo_at mo_ill mo_in mo_kind mo_type mo_long1 mo_letters mo_fields mo_kept mo_now mo_many mo_itemKind mo_itemField mo_itemPlace mo_by mo_stepKind mo_stepField mo_stepOperator mo_stepOther mo_stepMany mo_literalType mo_literalFrom mo_literalSize mo_bytes mo_said mo_number mo_pile mo_pilePlace mo_top mo_open) := by
  intro sz
  refine met_start [(0, .ref (a_mo 0)), (1, .int p1)] (by decide) rfl rfl (Nat.le_of_ble_eq_true rfl) rfl ?_
  intro p e s m below meth c ls C hnm hmt hw hl
  have hx := C.1
  have hb := C.2.1
  generalize va_A (w_mo E a_mo mo_code mo_tape mo_text mo_taped mo_size mo_at mo_ill mo_in mo_kind mo_type mo_long1 mo_letters mo_fields mo_kept mo_now mo_many mo_itemKind mo_itemField mo_itemPlace mo_by mo_stepKind mo_stepField mo_stepOperator mo_stepOther mo_stepMany mo_literalType mo_literalFrom mo_literalSize mo_bytes mo_said mo_number mo_pile mo_pilePlace mo_top mo_open) sz = A at C hw ⊢
  unfold f_X6_length at hf
  refine lv_aload_n hx hb dX6_length_0 rfl (lv_at hl 0 rfl) ?_
  refine lv_iconst (v := 0) hx hb dX6_length_1 (by decide) ?_
  refine fp_X6_90 C hw 0 rfl (Nat.le_of_ble_eq_true rfl) (ws' := w_mo E a_mo (0 : Int32) mo_tape mo_text mo_taped mo_size mo_at mo_ill mo_in mo_kind mo_type mo_long1 mo_letters mo_fields mo_kept mo_now mo_many mo_itemKind mo_itemField mo_itemPlace mo_by mo_stepKind mo_stepField mo_stepOperator mo_stepOther mo_stepMany mo_literalType mo_literalFrom mo_literalSize mo_bytes mo_said mo_number mo_pile mo_pilePlace mo_top mo_open) rfl dX6_length_2 (fun H locs hw => ?_)
  refine lv_aload_n hx hb dX6_length_5 rfl (lv_at hl 0 rfl) ?_
  refine lv_iload_n hx hb dX6_length_6 rfl (lv_at hl 1 rfl) ?_
  obtain ⟨x1, z1, hf⟩ := ob1_el hf
  refine cI_V C hw (c_X6_sizeOf l E a_mo (0 : Int32) mo_tape mo_text mo_taped mo_size mo_at mo_ill mo_in mo_kind mo_type mo_long1 mo_letters mo_fields mo_kept mo_now mo_many mo_itemKind mo_itemField mo_itemPlace mo_by mo_stepKind mo_stepField mo_stepOperator mo_stepOther mo_stepMany mo_literalType mo_literalFrom mo_literalSize mo_bytes mo_said mo_number mo_pile mo_pilePlace mo_top mo_open p1 x1 z1) cs_X6_269 ⟨Nat.le_of_ble_eq_true rfl, Nat.le_of_ble_eq_true rfl⟩ ⟨rfl, rfl⟩ (ci := 6) (cn := (RX6, TX6, 35)) rfl (q0 := 0) rfl (wn := w_mo E a_mo (0 : Int32) mo_tape mo_text mo_taped mo_size mo_at mo_ill mo_in mo_kind mo_type mo_long1 mo_letters mo_fields mo_kept mo_now mo_many mo_itemKind mo_itemField mo_itemPlace mo_by mo_stepKind mo_stepField mo_stepOperator mo_stepOther mo_stepMany mo_literalType mo_literalFrom mo_literalSize mo_bytes mo_said mo_number mo_pile mo_pilePlace mo_top mo_open) (Jn.all _ _) rfl hl.1 rfl (Nat.le_of_ble_eq_true rfl) dX6_length_7 ⟨Nat.zero_le _, Nat.zero_le _⟩ (fun H locs hw => ?_)
  cases hf
  exact rt_i C hw dX6_length_10
def f_X6_byteOf (p1 : Int32) (p2 : Int32) (mo_code : Int32) (mo_kept : Int32) (mo_many : Nat → Int32) (mo_literalType : Nat → Int32) (mo_literalFrom : Nat → Int32) (mo_literalSize : Nat → Int32) (mo_bytes : Nat → Int32) : Option ((Int32) × (Int32)) :=
  if p2 < (0 : Int32) then (some ((-1 : Int32), (0 : Int32)))
  else (ob1 (f_X6_sizeOf p1 mo_kept mo_many mo_literalType mo_literalSize) (fun x1 =>
  if p2 < x1 then (rd mo_literalFrom 128 (((64 : Int32) * mo_kept) + p1) (fun x2 =>
  rd mo_bytes 4000 ((((2000 : Int32) * mo_kept) + x2) + p2) (fun x3 =>
  some (x3, (0 : Int32)))))
  else (some ((-1 : Int32), (0 : Int32)))))
set_option maxHeartbeats 4000000 in
set_option maxRecDepth 100000 in
theorem c_X6_byteOf (l : Launch) (E : EnvT) (a_mo : Nat → Nat) (mo_code : Int32) (mo_tape : Nat → Int32) (mo_text : Nat → Int32) (mo_taped : Int32) (mo_size : Int32) (mo_at : Int32) (mo_ill : Int32) (mo_in : Nat → Int32) (mo_kind : Nat → Int32) (mo_type : Nat → Int32) (mo_long1 : Nat → Int32) (mo_letters : Nat → Int32) (mo_fields : Int32) (mo_kept : Int32) (mo_now : Int32) (mo_many : Nat → Int32) (mo_itemKind : Nat → Int32) (mo_itemField : Nat → Int32) (mo_itemPlace : Nat → Int32) (mo_by : Nat → Int32) (mo_stepKind : Nat → Int32) (mo_stepField : Nat → Int32) (mo_stepOperator : Nat → Int32) (mo_stepOther : Nat → Int32) (mo_stepMany : Nat → Int32) (mo_literalType : Nat → Int32) (mo_literalFrom : Nat → Int32) (mo_literalSize : Nat → Int32) (mo_bytes : Nat → Int32) (mo_said : Nat → Int32) (mo_number : Nat → Int64) (mo_pile : Nat → Int32) (mo_pilePlace : Nat → Int32) (mo_top : Int32) (mo_open : Int32) (p1 : Int32) (p2 : Int32) (r : Int32) (o_mo_code : Int32) (hf : f_X6_byteOf p1 p2 mo_code mo_kept mo_many mo_literalType mo_literalFrom mo_literalSize mo_bytes = some (r, o_mo_code)) : CI l yX6_byteOf (Cond.code yX6_byteOf cX6_byteOf 3 (some .int)) { frames := 2, cells := 0, slots := 0, locals := 43 } E [.ref (a_mo 0), .int p1, .int p2] (w_mo E a_mo mo_code mo_tape mo_text mo_taped mo_size mo_at mo_ill mo_in mo_kind mo_type mo_long1 mo_letters mo_fields mo_kept mo_now mo_many mo_itemKind mo_itemField mo_itemPlace mo_by mo_stepKind mo_stepField mo_stepOperator mo_stepOther mo_stepMany mo_literalType mo_literalFrom mo_literalSize mo_bytes mo_said mo_number mo_pile mo_pilePlace mo_top mo_open) r (w_mo E a_mo o_mo_code mo_tape mo_text mo_taped mo_size mo_at mo_ill mo_in mo_kind mo_type mo_long1 mo_letters mo_fields mo_kept mo_now mo_many mo_itemKind mo_itemField mo_itemPlace mo_by mo_stepKind mo_stepField mo_stepOperator mo_stepOther mo_stepMany mo_literalType mo_literalFrom mo_literalSize mo_bytes mo_said mo_number mo_pile mo_pilePlace mo_top mo_open) := by
  intro sz
  refine met_start [(0, .ref (a_mo 0)), (1, .int p1), (2, .int p2)] (by decide) rfl rfl (Nat.le_of_ble_eq_true rfl) rfl ?_
  intro p e s m below meth c ls C hnm hmt hw hl
  have hx := C.1
  have hb := C.2.1
  generalize va_A (w_mo E a_mo mo_code mo_tape mo_text mo_taped mo_size mo_at mo_ill mo_in mo_kind mo_type mo_long1 mo_letters mo_fields mo_kept mo_now mo_many mo_itemKind mo_itemField mo_itemPlace mo_by mo_stepKind mo_stepField mo_stepOperator mo_stepOther mo_stepMany mo_literalType mo_literalFrom mo_literalSize mo_bytes mo_said mo_number mo_pile mo_pilePlace mo_top mo_open) sz = A at C hw ⊢
  unfold f_X6_byteOf at hf
  refine lv_aload_n hx hb dX6_byteOf_0 rfl (lv_at hl 0 rfl) ?_
  refine lv_iconst (v := 0) hx hb dX6_byteOf_1 (by decide) ?_
  refine fp_X6_90 C hw 0 rfl (Nat.le_of_ble_eq_true rfl) (ws' := w_mo E a_mo (0 : Int32) mo_tape mo_text mo_taped mo_size mo_at mo_ill mo_in mo_kind mo_type mo_long1 mo_letters mo_fields mo_kept mo_now mo_many mo_itemKind mo_itemField mo_itemPlace mo_by mo_stepKind mo_stepField mo_stepOperator mo_stepOther mo_stepMany mo_literalType mo_literalFrom mo_literalSize mo_bytes mo_said mo_number mo_pile mo_pilePlace mo_top mo_open) rfl dX6_byteOf_2 (fun H locs hw => ?_)
  refine lv_iload_n hx hb dX6_byteOf_5 rfl (lv_at hl 2 rfl) ?_
  refine lv_if_lt (tgt := 18) hx hb dX6_byteOf_6 (by decide) (fun c6 => ?_) (fun c6 => ?_)
  · replace hf := it_t c6 hf
    refine lv_iconst (v := -1) hx hb dX6_byteOf_18 (by decide) ?_
    refine lv_goto (tgt := 52) hx hb dX6_byteOf_19 (by decide) ?_
    cases hf
    exact rt_i C hw dX6_byteOf_52
  · replace hf := it_f c6 hf
    refine lv_iload_n hx hb dX6_byteOf_9 rfl (lv_at hl 2 rfl) ?_
    refine lv_aload_n hx hb dX6_byteOf_10 rfl (lv_at hl 0 rfl) ?_
    refine lv_iload_n hx hb dX6_byteOf_11 rfl (lv_at hl 1 rfl) ?_
    obtain ⟨x1, z1, hf⟩ := ob1_el hf
    refine cI_V C hw (c_X6_sizeOf l E a_mo (0 : Int32) mo_tape mo_text mo_taped mo_size mo_at mo_ill mo_in mo_kind mo_type mo_long1 mo_letters mo_fields mo_kept mo_now mo_many mo_itemKind mo_itemField mo_itemPlace mo_by mo_stepKind mo_stepField mo_stepOperator mo_stepOther mo_stepMany mo_literalType mo_literalFrom mo_literalSize mo_bytes mo_said mo_number mo_pile mo_pilePlace mo_top mo_open p1 x1 z1) cs_X6_269 ⟨Nat.le_of_ble_eq_true rfl, Nat.le_of_ble_eq_true rfl⟩ ⟨rfl, rfl⟩ (ci := 6) (cn := (RX6, TX6, 35)) rfl (q0 := 0) rfl (wn := w_mo E a_mo (0 : Int32) mo_tape mo_text mo_taped mo_size mo_at mo_ill mo_in mo_kind mo_type mo_long1 mo_letters mo_fields mo_kept mo_now mo_many mo_itemKind mo_itemField mo_itemPlace mo_by mo_stepKind mo_stepField mo_stepOperator mo_stepOther mo_stepMany mo_literalType mo_literalFrom mo_literalSize mo_bytes mo_said mo_number mo_pile mo_pilePlace mo_top mo_open) (Jn.all _ _) rfl hl.1 rfl (Nat.le_of_ble_eq_true rfl) dX6_byteOf_12 ⟨Nat.zero_le _, Nat.zero_le _⟩ (fun H locs hw => ?_)
    refine lv_icmp_lt (tgt := 22) hx hb dX6_byteOf_15 (by decide) (fun c15 => ?_) (fun c15 => ?_)
    · replace hf := it_t c15 hf
      refine lv_aload_n hx hb dX6_byteOf_22 rfl (lv_at hl 0 rfl) ?_
      refine fg_X6_74 C hw 0 rfl rfl dX6_byteOf_23 ?_
      refine lv_sipush (v := 2000) hx hb dX6_byteOf_26 (by decide) ?_
      refine lv_aload_n hx hb dX6_byteOf_29 rfl (lv_at hl 0 rfl) ?_
      refine fg_X6_31 C hw 0 rfl rfl dX6_byteOf_30 ?_
      refine lv_imul hx hb dX6_byteOf_33 ?_
      refine lv_aload_n hx hb dX6_byteOf_34 rfl (lv_at hl 0 rfl) ?_
      refine fg_X6_68 C hw 0 rfl rfl dX6_byteOf_35 ?_
      refine lv_bipush (v := 64) hx hb dX6_byteOf_38 (by decide) ?_
      refine lv_aload_n hx hb dX6_byteOf_40 rfl (lv_at hl 0 rfl) ?_
      refine fg_X6_31 C hw 0 rfl rfl dX6_byteOf_41 ?_
      refine lv_imul hx hb dX6_byteOf_44 ?_
      refine lv_iload_n hx hb dX6_byteOf_45 rfl (lv_at hl 1 rfl) ?_
      refine lv_iadd hx hb dX6_byteOf_46 ?_
      obtain ⟨x2, ex2, gx2, hf⟩ := rd_el hf
      refine ra_i C hw 19 rfl gx2 dX6_byteOf_47 ?_
      refine tp_i ex2 ?_
      refine lv_iadd hx hb dX6_byteOf_48 ?_
      refine lv_iload_n hx hb dX6_byteOf_49 rfl (lv_at hl 2 rfl) ?_
      refine lv_iadd hx hb dX6_byteOf_50 ?_
      obtain ⟨x3, ex3, gx3, hf⟩ := rd_el hf
      refine ra_i C hw 21 rfl gx3 dX6_byteOf_51 ?_
      refine tp_i ex3 ?_
      cases hf
      exact rt_i C hw dX6_byteOf_52
    · replace hf := it_f c15 hf
      refine lv_iconst (v := -1) hx hb dX6_byteOf_18 (by decide) ?_
      refine lv_goto (tgt := 52) hx hb dX6_byteOf_19 (by decide) ?_
      cases hf
      exact rt_i C hw dX6_byteOf_52
