def f_X1_clear (pl_itemCount : Int32) (pl_byCount : Int32) (pl_stepCount : Int32) (pl_literalCount : Int32) (pl_textEnd : Int32) : Option ((Int32) × (Int32) × (Int32) × (Int32) × (Int32)) :=
  some ((0 : Int32), (0 : Int32), (0 : Int32), (0 : Int32), (0 : Int32))
set_option maxHeartbeats 4000000 in
set_option maxRecDepth 100000 in
theorem c_X1_clear (l : Launch) (E : EnvT) (a_pl : Nat → Nat) (pl_items : Nat → Int32) (pl_behindBy : Nat → Int32) (pl_steps : Nat → Int32) (pl_literalTypes : Nat → Int32) (pl_numbers : Nat → Int64) (pl_textStarts : Nat → Int32) (pl_textLengths : Nat → Int32) (pl_textBytes : Nat → Int32) (pl_itemCount : Int32) (pl_byCount : Int32) (pl_stepCount : Int32) (pl_literalCount : Int32) (pl_textEnd : Int32) (o_pl_itemCount : Int32) (o_pl_byCount : Int32) (o_pl_stepCount : Int32) (o_pl_literalCount : Int32) (o_pl_textEnd : Int32) (hf : f_X1_clear pl_itemCount pl_byCount pl_stepCount pl_literalCount pl_textEnd = some (o_pl_itemCount, o_pl_byCount, o_pl_stepCount, o_pl_literalCount, o_pl_textEnd)) : CV l yX1_clear (Cond.code yX1_clear cX1_clear 1 none) { frames := 0, cells := 0, slots := 0, locals := 0 } E [.ref (a_pl 0)] (w_pl E a_pl pl_items pl_behindBy pl_steps pl_literalTypes pl_numbers pl_textStarts pl_textLengths pl_textBytes pl_itemCount pl_byCount pl_stepCount pl_literalCount pl_textEnd) (w_pl E a_pl pl_items pl_behindBy pl_steps pl_literalTypes pl_numbers pl_textStarts pl_textLengths pl_textBytes o_pl_itemCount o_pl_byCount o_pl_stepCount o_pl_literalCount o_pl_textEnd) := by
  intro sz
  refine met_start [(0, .ref (a_pl 0))] (by decide) rfl rfl (Nat.le_of_ble_eq_true rfl) rfl ?_
  intro p e s m below meth c ls C hnm hmt hw hl
  have hx := C.1
  have hb := C.2.1
  generalize va_A (w_pl E a_pl pl_items pl_behindBy pl_steps pl_literalTypes pl_numbers pl_textStarts pl_textLengths pl_textBytes pl_itemCount pl_byCount pl_stepCount pl_literalCount pl_textEnd) sz = A at C hw ⊢
  unfold f_X1_clear at hf
  refine lv_aload_n hx hb dX1_clear_0 rfl (lv_at hl 0 rfl) ?_
  refine lv_iconst (v := 0) hx hb dX1_clear_1 (by decide) ?_
  refine fp_X1_37 C hw 0 rfl (Nat.le_of_ble_eq_true rfl) (ws' := w_pl E a_pl pl_items pl_behindBy pl_steps pl_literalTypes pl_numbers pl_textStarts pl_textLengths pl_textBytes (0 : Int32) pl_byCount pl_stepCount pl_literalCount pl_textEnd) rfl dX1_clear_2 (fun H locs hw => ?_)
  refine lv_aload_n hx hb dX1_clear_5 rfl (lv_at hl 0 rfl) ?_
  refine lv_iconst (v := 0) hx hb dX1_clear_6 (by decide) ?_
  refine fp_X1_41 C hw 0 rfl (Nat.le_of_ble_eq_true rfl) (ws' := w_pl E a_pl pl_items pl_behindBy pl_steps pl_literalTypes pl_numbers pl_textStarts pl_textLengths pl_textBytes (0 : Int32) (0 : Int32) pl_stepCount pl_literalCount pl_textEnd) rfl dX1_clear_7 (fun H locs hw => ?_)
  refine lv_aload_n hx hb dX1_clear_10 rfl (lv_at hl 0 rfl) ?_
  refine lv_iconst (v := 0) hx hb dX1_clear_11 (by decide) ?_
  refine fp_X1_44 C hw 0 rfl (Nat.le_of_ble_eq_true rfl) (ws' := w_pl E a_pl pl_items pl_behindBy pl_steps pl_literalTypes pl_numbers pl_textStarts pl_textLengths pl_textBytes (0 : Int32) (0 : Int32) (0 : Int32) pl_literalCount pl_textEnd) rfl dX1_clear_12 (fun H locs hw => ?_)
  refine lv_aload_n hx hb dX1_clear_15 rfl (lv_at hl 0 rfl) ?_
  refine lv_iconst (v := 0) hx hb dX1_clear_16 (by decide) ?_
  refine fp_X1_47 C hw 0 rfl (Nat.le_of_ble_eq_true rfl) (ws' := w_pl E a_pl pl_items pl_behindBy pl_steps pl_literalTypes pl_numbers pl_textStarts pl_textLengths pl_textBytes (0 : Int32) (0 : Int32) (0 : Int32) (0 : Int32) pl_textEnd) rfl dX1_clear_17 (fun H locs hw => ?_)
  refine lv_aload_n hx hb dX1_clear_20 rfl (lv_at hl 0 rfl) ?_
  refine lv_iconst (v := 0) hx hb dX1_clear_21 (by decide) ?_
  refine fp_X1_50 C hw 0 rfl (Nat.le_of_ble_eq_true rfl) (ws' := w_pl E a_pl pl_items pl_behindBy pl_steps pl_literalTypes pl_numbers pl_textStarts pl_textLengths pl_textBytes (0 : Int32) (0 : Int32) (0 : Int32) (0 : Int32) (0 : Int32)) rfl dX1_clear_22 (fun H locs hw => ?_)
  cases hf
  exact rt_v C hw dX1_clear_25
def f_X1_addItem (p1 : Int32) (p2 : Int32) (pl_items : Nat → Int32) (pl_itemCount : Int32) : Option ((Int32) × (Nat → Int32) × (Int32)) :=
  if pl_itemCount < (16 : Int32) then (wr pl_items 32 (pl_itemCount * (2 : Int32)) p1 (fun x1 =>
  wr x1 32 ((pl_itemCount * (2 : Int32)) + (1 : Int32)) p2 (fun x2 =>
  on (pl_itemCount + (1 : Int32)) (fun x3 =>
  some ((1 : Int32), x2, x3)))))
  else (some ((0 : Int32), pl_items, pl_itemCount))
set_option maxHeartbeats 4000000 in
set_option maxRecDepth 100000 in
theorem c_X1_addItem (l : Launch) (E : EnvT) (a_pl : Nat → Nat) (pl_items : Nat → Int32) (pl_behindBy : Nat → Int32) (pl_steps : Nat → Int32) (pl_literalTypes : Nat → Int32) (pl_numbers : Nat → Int64) (pl_textStarts : Nat → Int32) (pl_textLengths : Nat → Int32) (pl_textBytes : Nat → Int32) (pl_itemCount : Int32) (pl_byCount : Int32) (pl_stepCount : Int32) (pl_literalCount : Int32) (pl_textEnd : Int32) (p1 : Int32) (p2 : Int32) (r : Int32) (o_pl_items : Nat → Int32) (o_pl_itemCount : Int32) (hf : f_X1_addItem p1 p2 pl_items pl_itemCount = some (r, o_pl_items, o_pl_itemCount)) : CI l yX1_addItem (Cond.code yX1_addItem cX1_addItem 3 (some .boolean)) { frames := 0, cells := 0, slots := 0, locals := 0 } E [.ref (a_pl 0), .int p1, .int p2] (w_pl E a_pl pl_items pl_behindBy pl_steps pl_literalTypes pl_numbers pl_textStarts pl_textLengths pl_textBytes pl_itemCount pl_byCount pl_stepCount pl_literalCount pl_textEnd) r (w_pl E a_pl o_pl_items pl_behindBy pl_steps pl_literalTypes pl_numbers pl_textStarts pl_textLengths pl_textBytes o_pl_itemCount pl_byCount pl_stepCount pl_literalCount pl_textEnd) := by
  intro sz
  refine met_start [(0, .ref (a_pl 0)), (1, .int p1), (2, .int p2)] (by decide) rfl rfl (Nat.le_of_ble_eq_true rfl) rfl ?_
  intro p e s m below meth c ls C hnm hmt hw hl
  have hx := C.1
  have hb := C.2.1
  generalize va_A (w_pl E a_pl pl_items pl_behindBy pl_steps pl_literalTypes pl_numbers pl_textStarts pl_textLengths pl_textBytes pl_itemCount pl_byCount pl_stepCount pl_literalCount pl_textEnd) sz = A at C hw ⊢
  unfold f_X1_addItem at hf
  refine lv_aload_n hx hb dX1_addItem_0 rfl (lv_at hl 0 rfl) ?_
  refine fg_X1_37 C hw 0 rfl rfl dX1_addItem_1 ?_
  refine lv_bipush (v := 16) hx hb dX1_addItem_4 (by decide) ?_
  refine lv_icmp_lt (tgt := 11) hx hb dX1_addItem_6 (by decide) (fun c6 => ?_) (fun c6 => ?_)
  · replace hf := it_t c6 hf
    refine lv_aload_n hx hb dX1_addItem_11 rfl (lv_at hl 0 rfl) ?_
    refine fg_X1_9 C hw 0 rfl rfl dX1_addItem_12 ?_
    refine lv_aload_n hx hb dX1_addItem_15 rfl (lv_at hl 0 rfl) ?_
    refine fg_X1_37 C hw 0 rfl rfl dX1_addItem_16 ?_
    refine lv_iconst (v := 2) hx hb dX1_addItem_19 (by decide) ?_
    refine lv_imul hx hb dX1_addItem_20 ?_
    refine lv_iload_n hx hb dX1_addItem_21 rfl (lv_at hl 1 rfl) ?_
    obtain ⟨x1, ex1, gx1, hf⟩ := wr_el hf
    refine rs_i C hw 1 rfl gx1 (ws' := w_pl E a_pl x1 pl_behindBy pl_steps pl_literalTypes pl_numbers pl_textStarts pl_textLengths pl_textBytes pl_itemCount pl_byCount pl_stepCount pl_literalCount pl_textEnd) (by subst ex1; rfl) dX1_addItem_22 (fun H locs hw => ?_)
    refine lv_aload_n hx hb dX1_addItem_23 rfl (lv_at hl 0 rfl) ?_
    refine fg_X1_9 C hw 0 rfl rfl dX1_addItem_24 ?_
    refine lv_aload_n hx hb dX1_addItem_27 rfl (lv_at hl 0 rfl) ?_
    refine fg_X1_37 C hw 0 rfl rfl dX1_addItem_28 ?_
    refine lv_iconst (v := 2) hx hb dX1_addItem_31 (by decide) ?_
    refine lv_imul hx hb dX1_addItem_32 ?_
    refine lv_iconst (v := 1) hx hb dX1_addItem_33 (by decide) ?_
    refine lv_iadd hx hb dX1_addItem_34 ?_
    refine lv_iload_n hx hb dX1_addItem_35 rfl (lv_at hl 2 rfl) ?_
    obtain ⟨x2, ex2, gx2, hf⟩ := wr_el hf
    refine rs_i C hw 1 rfl gx2 (ws' := w_pl E a_pl x2 pl_behindBy pl_steps pl_literalTypes pl_numbers pl_textStarts pl_textLengths pl_textBytes pl_itemCount pl_byCount pl_stepCount pl_literalCount pl_textEnd) (by subst ex2; rfl) dX1_addItem_36 (fun H locs hw => ?_)
    refine lv_aload_n hx hb dX1_addItem_37 rfl (lv_at hl 0 rfl) ?_
    refine lv_dup hx hb dX1_addItem_38 rfl ?_
    refine fg_X1_37 C hw 0 rfl rfl dX1_addItem_39 ?_
    refine lv_iconst (v := 1) hx hb dX1_addItem_42 (by decide) ?_
    refine lv_iadd hx hb dX1_addItem_43 ?_
    obtain ⟨x3, ex3, hf⟩ := on_el hf
    refine tp_i ex3 ?_
    refine fp_X1_37 C hw 0 rfl (Nat.le_of_ble_eq_true rfl) (ws' := w_pl E a_pl x2 pl_behindBy pl_steps pl_literalTypes pl_numbers pl_textStarts pl_textLengths pl_textBytes x3 pl_byCount pl_stepCount pl_literalCount pl_textEnd) rfl dX1_addItem_44 (fun H locs hw => ?_)
    refine lv_iconst (v := 1) hx hb dX1_addItem_47 (by decide) ?_
    cases hf
    exact rt_z C hw (Or.inr rfl) dX1_addItem_48
  · replace hf := it_f c6 hf
    refine lv_iconst (v := 0) hx hb dX1_addItem_9 (by decide) ?_
    cases hf
    exact rt_z C hw (Or.inl rfl) dX1_addItem_10
def f_X1_addStep (p1 : Int32) (p2 : Int32) (p3 : Int32) (p4 : Int32) (p5 : Int32) (pl_steps : Nat → Int32) (pl_stepCount : Int32) : Option ((Int32) × (Nat → Int32) × (Int32)) :=
  if pl_stepCount < (64 : Int32) then (on (pl_stepCount * (5 : Int32)) (fun x1 =>
  wr pl_steps 320 x1 p1 (fun x2 =>
  wr x2 320 (x1 + (1 : Int32)) p2 (fun x3 =>
  wr x3 320 (x1 + (2 : Int32)) p3 (fun x4 =>
  wr x4 320 (x1 + (3 : Int32)) p4 (fun x5 =>
  wr x5 320 (x1 + (4 : Int32)) p5 (fun x6 =>
  on (pl_stepCount + (1 : Int32)) (fun x7 =>
  some ((1 : Int32), x6, x7)))))))))
  else (some ((0 : Int32), pl_steps, pl_stepCount))
set_option maxHeartbeats 4000000 in
set_option maxRecDepth 100000 in
theorem c_X1_addStep (l : Launch) (E : EnvT) (a_pl : Nat → Nat) (pl_items : Nat → Int32) (pl_behindBy : Nat → Int32) (pl_steps : Nat → Int32) (pl_literalTypes : Nat → Int32) (pl_numbers : Nat → Int64) (pl_textStarts : Nat → Int32) (pl_textLengths : Nat → Int32) (pl_textBytes : Nat → Int32) (pl_itemCount : Int32) (pl_byCount : Int32) (pl_stepCount : Int32) (pl_literalCount : Int32) (pl_textEnd : Int32) (p1 : Int32) (p2 : Int32) (p3 : Int32) (p4 : Int32) (p5 : Int32) (r : Int32) (o_pl_steps : Nat → Int32) (o_pl_stepCount : Int32) (hf : f_X1_addStep p1 p2 p3 p4 p5 pl_steps pl_stepCount = some (r, o_pl_steps, o_pl_stepCount)) : CI l yX1_addStep (Cond.code yX1_addStep cX1_addStep 7 (some .boolean)) { frames := 0, cells := 0, slots := 0, locals := 0 } E [.ref (a_pl 0), .int p1, .int p2, .int p3, .int p4, .int p5] (w_pl E a_pl pl_items pl_behindBy pl_steps pl_literalTypes pl_numbers pl_textStarts pl_textLengths pl_textBytes pl_itemCount pl_byCount pl_stepCount pl_literalCount pl_textEnd) r (w_pl E a_pl pl_items pl_behindBy o_pl_steps pl_literalTypes pl_numbers pl_textStarts pl_textLengths pl_textBytes pl_itemCount pl_byCount o_pl_stepCount pl_literalCount pl_textEnd) := by
  intro sz
  refine met_start [(0, .ref (a_pl 0)), (1, .int p1), (2, .int p2), (3, .int p3), (4, .int p4), (5, .int p5)] (by decide) rfl rfl (Nat.le_of_ble_eq_true rfl) rfl ?_
  intro p e s m below meth c ls C hnm hmt hw hl
  have hx := C.1
  have hb := C.2.1
  generalize va_A (w_pl E a_pl pl_items pl_behindBy pl_steps pl_literalTypes pl_numbers pl_textStarts pl_textLengths pl_textBytes pl_itemCount pl_byCount pl_stepCount pl_literalCount pl_textEnd) sz = A at C hw ⊢
  unfold f_X1_addStep at hf
  refine lv_aload_n hx hb dX1_addStep_0 rfl (lv_at hl 0 rfl) ?_
  refine fg_X1_44 C hw 0 rfl rfl dX1_addStep_1 ?_
  refine lv_bipush (v := 64) hx hb dX1_addStep_4 (by decide) ?_
  refine lv_icmp_lt (tgt := 11) hx hb dX1_addStep_6 (by decide) (fun c6 => ?_) (fun c6 => ?_)
  · replace hf := it_t c6 hf
    refine lv_aload_n hx hb dX1_addStep_11 rfl (lv_at hl 0 rfl) ?_
    refine fg_X1_44 C hw 0 rfl rfl dX1_addStep_12 ?_
    refine lv_iconst (v := 5) hx hb dX1_addStep_15 (by decide) ?_
    refine lv_imul hx hb dX1_addStep_16 ?_
    obtain ⟨x1, ex1, hf⟩ := on_el hf
    refine tp_i ex1 ?_
    refine lv_istore (lv' := [(6, .int x1), (0, .ref (a_pl 0)), (1, .int p1), (2, .int p2), (3, .int p3), (4, .int p4), (5, .int p5)]) hx hb dX1_addStep_17 hl (by decide) rfl (fun ls hl => ?_)
    refine lv_aload_n hx hb dX1_addStep_19 rfl (lv_at hl 1 rfl) ?_
    refine fg_X1_18 C hw 0 rfl rfl dX1_addStep_20 ?_
    refine lv_iload hx hb dX1_addStep_23 (lv_at hl 0 rfl) ?_
    refine lv_iload_n hx hb dX1_addStep_25 rfl (lv_at hl 2 rfl) ?_
    obtain ⟨x2, ex2, gx2, hf⟩ := wr_el hf
    refine rs_i C hw 3 rfl gx2 (ws' := w_pl E a_pl pl_items pl_behindBy x2 pl_literalTypes pl_numbers pl_textStarts pl_textLengths pl_textBytes pl_itemCount pl_byCount pl_stepCount pl_literalCount pl_textEnd) (by subst ex2; rfl) dX1_addStep_26 (fun H locs hw => ?_)
    refine lv_aload_n hx hb dX1_addStep_27 rfl (lv_at hl 1 rfl) ?_
    refine fg_X1_18 C hw 0 rfl rfl dX1_addStep_28 ?_
    refine lv_iload hx hb dX1_addStep_31 (lv_at hl 0 rfl) ?_
    refine lv_iconst (v := 1) hx hb dX1_addStep_33 (by decide) ?_
    refine lv_iadd hx hb dX1_addStep_34 ?_
    refine lv_iload_n hx hb dX1_addStep_35 rfl (lv_at hl 3 rfl) ?_
    obtain ⟨x3, ex3, gx3, hf⟩ := wr_el hf
    refine rs_i C hw 3 rfl gx3 (ws' := w_pl E a_pl pl_items pl_behindBy x3 pl_literalTypes pl_numbers pl_textStarts pl_textLengths pl_textBytes pl_itemCount pl_byCount pl_stepCount pl_literalCount pl_textEnd) (by subst ex3; rfl) dX1_addStep_36 (fun H locs hw => ?_)
    refine lv_aload_n hx hb dX1_addStep_37 rfl (lv_at hl 1 rfl) ?_
    refine fg_X1_18 C hw 0 rfl rfl dX1_addStep_38 ?_
    refine lv_iload hx hb dX1_addStep_41 (lv_at hl 0 rfl) ?_
    refine lv_iconst (v := 2) hx hb dX1_addStep_43 (by decide) ?_
    refine lv_iadd hx hb dX1_addStep_44 ?_
    refine lv_iload_n hx hb dX1_addStep_45 rfl (lv_at hl 4 rfl) ?_
    obtain ⟨x4, ex4, gx4, hf⟩ := wr_el hf
    refine rs_i C hw 3 rfl gx4 (ws' := w_pl E a_pl pl_items pl_behindBy x4 pl_literalTypes pl_numbers pl_textStarts pl_textLengths pl_textBytes pl_itemCount pl_byCount pl_stepCount pl_literalCount pl_textEnd) (by subst ex4; rfl) dX1_addStep_46 (fun H locs hw => ?_)
    refine lv_aload_n hx hb dX1_addStep_47 rfl (lv_at hl 1 rfl) ?_
    refine fg_X1_18 C hw 0 rfl rfl dX1_addStep_48 ?_
    refine lv_iload hx hb dX1_addStep_51 (lv_at hl 0 rfl) ?_
    refine lv_iconst (v := 3) hx hb dX1_addStep_53 (by decide) ?_
    refine lv_iadd hx hb dX1_addStep_54 ?_
    refine lv_iload hx hb dX1_addStep_55 (lv_at hl 5 rfl) ?_
    obtain ⟨x5, ex5, gx5, hf⟩ := wr_el hf
    refine rs_i C hw 3 rfl gx5 (ws' := w_pl E a_pl pl_items pl_behindBy x5 pl_literalTypes pl_numbers pl_textStarts pl_textLengths pl_textBytes pl_itemCount pl_byCount pl_stepCount pl_literalCount pl_textEnd) (by subst ex5; rfl) dX1_addStep_57 (fun H locs hw => ?_)
    refine lv_aload_n hx hb dX1_addStep_58 rfl (lv_at hl 1 rfl) ?_
    refine fg_X1_18 C hw 0 rfl rfl dX1_addStep_59 ?_
    refine lv_iload hx hb dX1_addStep_62 (lv_at hl 0 rfl) ?_
    refine lv_iconst (v := 4) hx hb dX1_addStep_64 (by decide) ?_
    refine lv_iadd hx hb dX1_addStep_65 ?_
    refine lv_iload hx hb dX1_addStep_66 (lv_at hl 6 rfl) ?_
    obtain ⟨x6, ex6, gx6, hf⟩ := wr_el hf
    refine rs_i C hw 3 rfl gx6 (ws' := w_pl E a_pl pl_items pl_behindBy x6 pl_literalTypes pl_numbers pl_textStarts pl_textLengths pl_textBytes pl_itemCount pl_byCount pl_stepCount pl_literalCount pl_textEnd) (by subst ex6; rfl) dX1_addStep_68 (fun H locs hw => ?_)
    refine lv_aload_n hx hb dX1_addStep_69 rfl (lv_at hl 1 rfl) ?_
    refine lv_dup hx hb dX1_addStep_70 rfl ?_
    refine fg_X1_44 C hw 0 rfl rfl dX1_addStep_71 ?_
    refine lv_iconst (v := 1) hx hb dX1_addStep_74 (by decide) ?_
    refine lv_iadd hx hb dX1_addStep_75 ?_
    obtain ⟨x7, ex7, hf⟩ := on_el hf
    refine tp_i ex7 ?_
    refine fp_X1_44 C hw 0 rfl (Nat.le_of_ble_eq_true rfl) (ws' := w_pl E a_pl pl_items pl_behindBy x6 pl_literalTypes pl_numbers pl_textStarts pl_textLengths pl_textBytes pl_itemCount pl_byCount x7 pl_literalCount pl_textEnd) rfl dX1_addStep_76 (fun H locs hw => ?_)
    refine lv_iconst (v := 1) hx hb dX1_addStep_79 (by decide) ?_
    cases hf
    exact rt_z C hw (Or.inr rfl) dX1_addStep_80
  · replace hf := it_f c6 hf
    refine lv_iconst (v := 0) hx hb dX1_addStep_9 (by decide) ?_
    cases hf
    exact rt_z C hw (Or.inl rfl) dX1_addStep_10
def f_X1_addTextByte (p1 : Int32) (pl_textBytes : Nat → Int32) (pl_textEnd : Int32) : Option ((Nat → Int32) × (Int32)) :=
  if (2000 : Int32) ≤ pl_textEnd then (some (pl_textBytes, pl_textEnd))
  else (wr pl_textBytes 2000 pl_textEnd p1 (fun x1 =>
  on (pl_textEnd + (1 : Int32)) (fun x2 =>
  some (x1, x2))))
set_option maxHeartbeats 4000000 in
set_option maxRecDepth 100000 in
theorem c_X1_addTextByte (l : Launch) (E : EnvT) (a_pl : Nat → Nat) (pl_items : Nat → Int32) (pl_behindBy : Nat → Int32) (pl_steps : Nat → Int32) (pl_literalTypes : Nat → Int32) (pl_numbers : Nat → Int64) (pl_textStarts : Nat → Int32) (pl_textLengths : Nat → Int32) (pl_textBytes : Nat → Int32) (pl_itemCount : Int32) (pl_byCount : Int32) (pl_stepCount : Int32) (pl_literalCount : Int32) (pl_textEnd : Int32) (p1 : Int32) (o_pl_textBytes : Nat → Int32) (o_pl_textEnd : Int32) (hf : f_X1_addTextByte p1 pl_textBytes pl_textEnd = some (o_pl_textBytes, o_pl_textEnd)) : CV l yX1_addTextByte (Cond.code yX1_addTextByte cX1_addTextByte 2 none) { frames := 0, cells := 0, slots := 0, locals := 0 } E [.ref (a_pl 0), .int p1] (w_pl E a_pl pl_items pl_behindBy pl_steps pl_literalTypes pl_numbers pl_textStarts pl_textLengths pl_textBytes pl_itemCount pl_byCount pl_stepCount pl_literalCount pl_textEnd) (w_pl E a_pl pl_items pl_behindBy pl_steps pl_literalTypes pl_numbers pl_textStarts pl_textLengths o_pl_textBytes pl_itemCount pl_byCount pl_stepCount pl_literalCount o_pl_textEnd) := by
  intro sz
  refine met_start [(0, .ref (a_pl 0)), (1, .int p1)] (by decide) rfl rfl (Nat.le_of_ble_eq_true rfl) rfl ?_
  intro p e s m below meth c ls C hnm hmt hw hl
  have hx := C.1
  have hb := C.2.1
  generalize va_A (w_pl E a_pl pl_items pl_behindBy pl_steps pl_literalTypes pl_numbers pl_textStarts pl_textLengths pl_textBytes pl_itemCount pl_byCount pl_stepCount pl_literalCount pl_textEnd) sz = A at C hw ⊢
  unfold f_X1_addTextByte at hf
  refine lv_aload_n hx hb dX1_addTextByte_0 rfl (lv_at hl 0 rfl) ?_
  refine fg_X1_50 C hw 0 rfl rfl dX1_addTextByte_1 ?_
  refine lv_sipush (v := 2000) hx hb dX1_addTextByte_4 (by decide) ?_
  refine lv_icmp_ge (tgt := 30) hx hb dX1_addTextByte_7 (by decide) (fun c7 => ?_) (fun c7 => ?_)
  · replace hf := it_t c7 hf
    cases hf
    exact rt_v C hw dX1_addTextByte_30
  · replace hf := it_f c7 hf
    refine lv_aload_n hx hb dX1_addTextByte_10 rfl (lv_at hl 0 rfl) ?_
    refine fg_X1_34 C hw 0 rfl rfl dX1_addTextByte_11 ?_
    refine lv_aload_n hx hb dX1_addTextByte_14 rfl (lv_at hl 0 rfl) ?_
    refine fg_X1_50 C hw 0 rfl rfl dX1_addTextByte_15 ?_
    refine lv_iload_n hx hb dX1_addTextByte_18 rfl (lv_at hl 1 rfl) ?_
    obtain ⟨x1, ex1, gx1, hf⟩ := wr_el hf
    refine rs_i C hw 8 rfl gx1 (ws' := w_pl E a_pl pl_items pl_behindBy pl_steps pl_literalTypes pl_numbers pl_textStarts pl_textLengths x1 pl_itemCount pl_byCount pl_stepCount pl_literalCount pl_textEnd) (by subst ex1; rfl) dX1_addTextByte_19 (fun H locs hw => ?_)
    refine lv_aload_n hx hb dX1_addTextByte_20 rfl (lv_at hl 0 rfl) ?_
    refine lv_dup hx hb dX1_addTextByte_21 rfl ?_
    refine fg_X1_50 C hw 0 rfl rfl dX1_addTextByte_22 ?_
    refine lv_iconst (v := 1) hx hb dX1_addTextByte_25 (by decide) ?_
    refine lv_iadd hx hb dX1_addTextByte_26 ?_
    obtain ⟨x2, ex2, hf⟩ := on_el hf
    refine tp_i ex2 ?_
    refine fp_X1_50 C hw 0 rfl (Nat.le_of_ble_eq_true rfl) (ws' := w_pl E a_pl pl_items pl_behindBy pl_steps pl_literalTypes pl_numbers pl_textStarts pl_textLengths x1 pl_itemCount pl_byCount pl_stepCount pl_literalCount x2) rfl dX1_addTextByte_27 (fun H locs hw => ?_)
    cases hf
    exact rt_v C hw dX1_addTextByte_30
def f_X1_addLiteral (p1 : Int32) (p2 : Int64) (p4 : Int32) (pl_literalTypes : Nat → Int32) (pl_numbers : Nat → Int64) (pl_textStarts : Nat → Int32) (pl_textLengths : Nat → Int32) (pl_literalCount : Int32) (pl_textEnd : Int32) : Option ((Int32) × (Nat → Int32) × (Nat → Int64) × (Nat → Int32) × (Nat → Int32) × (Int32)) :=
  if pl_literalCount < (64 : Int32) then (wr pl_literalTypes 64 pl_literalCount p1 (fun x1 =>
  wrL pl_numbers 64 pl_literalCount p2 (fun x2 =>
  wr pl_textStarts 64 pl_literalCount p4 (fun x3 =>
  on (pl_textEnd - p4) (fun x4 =>
  wr pl_textLengths 64 pl_literalCount x4 (fun x5 =>
  on (pl_literalCount + (1 : Int32)) (fun x6 =>
  some ((1 : Int32), x1, x2, x3, x5, x6))))))))
  else (some ((0 : Int32), pl_literalTypes, pl_numbers, pl_textStarts, pl_textLengths, pl_literalCount))
set_option maxHeartbeats 4000000 in
set_option maxRecDepth 100000 in
theorem c_X1_addLiteral (l : Launch) (E : EnvT) (a_pl : Nat → Nat) (pl_items : Nat → Int32) (pl_behindBy : Nat → Int32) (pl_steps : Nat → Int32) (pl_literalTypes : Nat → Int32) (pl_numbers : Nat → Int64) (pl_textStarts : Nat → Int32) (pl_textLengths : Nat → Int32) (pl_textBytes : Nat → Int32) (pl_itemCount : Int32) (pl_byCount : Int32) (pl_stepCount : Int32) (pl_literalCount : Int32) (pl_textEnd : Int32) (p1 : Int32) (p2 : Int64) (p4 : Int32) (r : Int32) (o_pl_literalTypes : Nat → Int32) (o_pl_numbers : Nat → Int64) (o_pl_textStarts : Nat → Int32) (o_pl_textLengths : Nat → Int32) (o_pl_literalCount : Int32) (hf : f_X1_addLiteral p1 p2 p4 pl_literalTypes pl_numbers pl_textStarts pl_textLengths pl_literalCount pl_textEnd = some (r, o_pl_literalTypes, o_pl_numbers, o_pl_textStarts, o_pl_textLengths, o_pl_literalCount)) : CI l yX1_addLiteral (Cond.code yX1_addLiteral cX1_addLiteral 5 (some .boolean)) { frames := 0, cells := 0, slots := 0, locals := 0 } E [.ref (a_pl 0), .int p1, .long p2, .int p4] (w_pl E a_pl pl_items pl_behindBy pl_steps pl_literalTypes pl_numbers pl_textStarts pl_textLengths pl_textBytes pl_itemCount pl_byCount pl_stepCount pl_literalCount pl_textEnd) r (w_pl E a_pl pl_items pl_behindBy pl_steps o_pl_literalTypes o_pl_numbers o_pl_textStarts o_pl_textLengths pl_textBytes pl_itemCount pl_byCount pl_stepCount o_pl_literalCount pl_textEnd) := by
  intro sz
  refine met_start [(0, .ref (a_pl 0)), (1, .int p1), (2, .long p2), (4, .int p4)] (by decide) rfl rfl (Nat.le_of_ble_eq_true rfl) rfl ?_
  intro p e s m below meth c ls C hnm hmt hw hl
  have hx := C.1
  have hb := C.2.1
  generalize va_A (w_pl E a_pl pl_items pl_behindBy pl_steps pl_literalTypes pl_numbers pl_textStarts pl_textLengths pl_textBytes pl_itemCount pl_byCount pl_stepCount pl_literalCount pl_textEnd) sz = A at C hw ⊢
  unfold f_X1_addLiteral at hf
  refine lv_aload_n hx hb dX1_addLiteral_0 rfl (lv_at hl 0 rfl) ?_
  refine fg_X1_47 C hw 0 rfl rfl dX1_addLiteral_1 ?_
  refine lv_bipush (v := 64) hx hb dX1_addLiteral_4 (by decide) ?_
  refine lv_icmp_lt (tgt := 11) hx hb dX1_addLiteral_6 (by decide) (fun c6 => ?_) (fun c6 => ?_)
  · replace hf := it_t c6 hf
    refine lv_aload_n hx hb dX1_addLiteral_11 rfl (lv_at hl 0 rfl) ?_
    refine fg_X1_21 C hw 0 rfl rfl dX1_addLiteral_12 ?_
    refine lv_aload_n hx hb dX1_addLiteral_15 rfl (lv_at hl 0 rfl) ?_
    refine fg_X1_47 C hw 0 rfl rfl dX1_addLiteral_16 ?_
    refine lv_iload_n hx hb dX1_addLiteral_19 rfl (lv_at hl 1 rfl) ?_
    obtain ⟨x1, ex1, gx1, hf⟩ := wr_el hf
    refine rs_i C hw 4 rfl gx1 (ws' := w_pl E a_pl pl_items pl_behindBy pl_steps x1 pl_numbers pl_textStarts pl_textLengths pl_textBytes pl_itemCount pl_byCount pl_stepCount pl_literalCount pl_textEnd) (by subst ex1; rfl) dX1_addLiteral_20 (fun H locs hw => ?_)
    refine lv_aload_n hx hb dX1_addLiteral_21 rfl (lv_at hl 0 rfl) ?_
    refine fg_X1_24 C hw 0 rfl rfl dX1_addLiteral_22 ?_
    refine lv_aload_n hx hb dX1_addLiteral_25 rfl (lv_at hl 0 rfl) ?_
    refine fg_X1_47 C hw 0 rfl rfl dX1_addLiteral_26 ?_
    refine lv_lload_n hx hb dX1_addLiteral_29 rfl (lv_at hl 2 rfl) ?_
    obtain ⟨x2, ex2, gx2, hf⟩ := wrL_el hf
    refine rs_l C hw 5 rfl gx2 (ws' := w_pl E a_pl pl_items pl_behindBy pl_steps x1 x2 pl_textStarts pl_textLengths pl_textBytes pl_itemCount pl_byCount pl_stepCount pl_literalCount pl_textEnd) (by subst ex2; rfl) dX1_addLiteral_30 (fun H locs hw => ?_)
    refine lv_aload_n hx hb dX1_addLiteral_31 rfl (lv_at hl 0 rfl) ?_
    refine fg_X1_28 C hw 0 rfl rfl dX1_addLiteral_32 ?_
    refine lv_aload_n hx hb dX1_addLiteral_35 rfl (lv_at hl 0 rfl) ?_
    refine fg_X1_47 C hw 0 rfl rfl dX1_addLiteral_36 ?_
    refine lv_iload hx hb dX1_addLiteral_39 (lv_at hl 3 rfl) ?_
    obtain ⟨x3, ex3, gx3, hf⟩ := wr_el hf
    refine rs_i C hw 6 rfl gx3 (ws' := w_pl E a_pl pl_items pl_behindBy pl_steps x1 x2 x3 pl_textLengths pl_textBytes pl_itemCount pl_byCount pl_stepCount pl_literalCount pl_textEnd) (by subst ex3; rfl) dX1_addLiteral_41 (fun H locs hw => ?_)
    refine lv_aload_n hx hb dX1_addLiteral_42 rfl (lv_at hl 0 rfl) ?_
    refine fg_X1_31 C hw 0 rfl rfl dX1_addLiteral_43 ?_
    refine lv_aload_n hx hb dX1_addLiteral_46 rfl (lv_at hl 0 rfl) ?_
    refine fg_X1_47 C hw 0 rfl rfl dX1_addLiteral_47 ?_
    refine lv_aload_n hx hb dX1_addLiteral_50 rfl (lv_at hl 0 rfl) ?_
    refine fg_X1_50 C hw 0 rfl rfl dX1_addLiteral_51 ?_
    refine lv_iload hx hb dX1_addLiteral_54 (lv_at hl 3 rfl) ?_
    refine lv_isub hx hb dX1_addLiteral_56 ?_
    obtain ⟨x4, ex4, hf⟩ := on_el hf
    refine tp_i ex4 ?_
    obtain ⟨x5, ex5, gx5, hf⟩ := wr_el hf
    refine rs_i C hw 7 rfl gx5 (ws' := w_pl E a_pl pl_items pl_behindBy pl_steps x1 x2 x3 x5 pl_textBytes pl_itemCount pl_byCount pl_stepCount pl_literalCount pl_textEnd) (by subst ex5; rfl) dX1_addLiteral_57 (fun H locs hw => ?_)
    refine lv_aload_n hx hb dX1_addLiteral_58 rfl (lv_at hl 0 rfl) ?_
    refine lv_dup hx hb dX1_addLiteral_59 rfl ?_
    refine fg_X1_47 C hw 0 rfl rfl dX1_addLiteral_60 ?_
    refine lv_iconst (v := 1) hx hb dX1_addLiteral_63 (by decide) ?_
    refine lv_iadd hx hb dX1_addLiteral_64 ?_
    obtain ⟨x6, ex6, hf⟩ := on_el hf
    refine tp_i ex6 ?_
    refine fp_X1_47 C hw 0 rfl (Nat.le_of_ble_eq_true rfl) (ws' := w_pl E a_pl pl_items pl_behindBy pl_steps x1 x2 x3 x5 pl_textBytes pl_itemCount pl_byCount pl_stepCount x6 pl_textEnd) rfl dX1_addLiteral_65 (fun H locs hw => ?_)
    refine lv_iconst (v := 1) hx hb dX1_addLiteral_68 (by decide) ?_
    cases hf
    exact rt_z C hw (Or.inr rfl) dX1_addLiteral_69
  · replace hf := it_f c6 hf
    refine lv_iconst (v := 0) hx hb dX1_addLiteral_9 (by decide) ?_
    cases hf
    exact rt_z C hw (Or.inl rfl) dX1_addLiteral_10
def f_X1_isBehindBy_2 : Nat → (Int32) → (Int32) → (Nat → Int32) → (Int32) → Option ((Int32))
  | 0, _, _, _, _ => none
  | n + 1, l1, l2, pl_behindBy, pl_byCount =>
  if pl_byCount ≤ l2 then (some (0 : Int32))
  else (rd pl_behindBy 8 l2 (fun x1 =>
  if x1 = l1 then (some (1 : Int32))
  else (on (l2 + (1 : Int32)) (fun x2 =>
  f_X1_isBehindBy_2 n l1 x2 pl_behindBy pl_byCount))))
set_option maxHeartbeats 4000000 in
set_option maxRecDepth 100000 in
theorem w_X1_isBehindBy_2 {p : Program} {l : Launch} {e : Env} {s : State} {m : MethodId} {args : Array Value} {below : List Frame} {meth : Method} {c : Code} {E : EnvT} {A : Nat → Prop} {a_pl : Nat → Nat} {pl_items : Nat → Int32} {pl_steps : Nat → Int32} {pl_literalTypes : Nat → Int32} {pl_numbers : Nat → Int64} {pl_textStarts : Nat → Int32} {pl_textLengths : Nat → Int32} {pl_textBytes : Nat → Int32} {pl_itemCount : Int32} {pl_stepCount : Int32} {pl_literalCount : Int32} {pl_textEnd : Int32} {r : Int32} (C : MC p s m args meth c E A cX1_isBehindBy 3 RX1 (some .boolean)) : ∀ (n : Nat) {l1 : Int32} {l2 : Int32} {pl_behindBy : Nat → Int32} {pl_byCount : Int32} {H : Heap} {locs : List Loc} {ls : Array Slot}, WS E A s (w_pl E a_pl pl_items pl_behindBy pl_steps pl_literalTypes pl_numbers pl_textStarts pl_textLengths pl_textBytes pl_itemCount pl_byCount pl_stepCount pl_literalCount pl_textEnd) H locs → lv_has ls 3 [(0, .ref (a_pl 0)), (1, .int l1), (2, .int l2)] → f_X1_isBehindBy_2 n l1 l2 pl_behindBy pl_byCount = some r → W p l e { frames := 0, cells := 0, slots := 0, locals := 0 } s m args below meth c H locs 0 0 (MQ below (QcI E A (w_pl E a_pl pl_items pl_behindBy pl_steps pl_literalTypes pl_numbers pl_textStarts pl_textLengths pl_textBytes pl_itemCount pl_byCount pl_stepCount pl_literalCount pl_textEnd) r) args s 0 0 A) (F0 m 2 ls []) := by
  have hx := C.1
  have hb := C.2.1
  intro n
  induction n with
  | zero =>
    intro l1 l2 pl_behindBy pl_byCount H locs ls hw hl hf
    unfold f_X1_isBehindBy_2 at hf
    cases hf
  | succ n ih =>
    intro l1 l2 pl_behindBy pl_byCount H locs ls hw hl hf
    unfold f_X1_isBehindBy_2 at hf
    refine lv_iload_n hx hb dX1_isBehindBy_2 rfl (lv_at hl 2 rfl) ?_
    refine lv_aload_n hx hb dX1_isBehindBy_3 rfl (lv_at hl 0 rfl) ?_
    refine fg_X1_41 C hw 0 rfl rfl dX1_isBehindBy_4 ?_
    refine lv_icmp_ge (tgt := 28) hx hb dX1_isBehindBy_7 (by decide) (fun c7 => ?_) (fun c7 => ?_)
    · replace hf := it_t c7 hf
      refine lv_iconst (v := 0) hx hb dX1_isBehindBy_28 (by decide) ?_
      cases hf
      exact rt_z C hw (Or.inl rfl) dX1_isBehindBy_29
    · replace hf := it_f c7 hf
      refine lv_aload_n hx hb dX1_isBehindBy_10 rfl (lv_at hl 0 rfl) ?_
      refine fg_X1_15 C hw 0 rfl rfl dX1_isBehindBy_11 ?_
      refine lv_iload_n hx hb dX1_isBehindBy_14 rfl (lv_at hl 2 rfl) ?_
      obtain ⟨x1, ex1, gx1, hf⟩ := rd_el hf
      refine ra_i C hw 2 rfl gx1 dX1_isBehindBy_15 ?_
      refine tp_i ex1 ?_
      refine lv_iload_n hx hb dX1_isBehindBy_16 rfl (lv_at hl 1 rfl) ?_
      refine lv_icmp_ne (tgt := 22) hx hb dX1_isBehindBy_17 (by decide) (fun c17 => ?_) (fun c17 => ?_)
      · replace hf := it_f c17 hf
        obtain ⟨x2, ex2, hf⟩ := on_el hf
        refine lv_iinc (v := x2) (lv' := [(2, .int x2), (0, .ref (a_pl 0)), (1, .int l1)]) hx hb dX1_isBehindBy_22 hl (k := 2) rfl (by rw [← ex2]; rfl) (by decide) rfl (fun ls hl => ?_)
        refine lv_goto (tgt := 2) hx hb dX1_isBehindBy_25 (by decide) ?_
        exact ih hw (lv_sub hl [1, 2, 0] rfl) hf
      · replace hf := it_t c17 hf
        refine lv_iconst (v := 1) hx hb dX1_isBehindBy_20 (by decide) ?_
        cases hf
        exact rt_z C hw (Or.inr rfl) dX1_isBehindBy_21
def f_X1_isBehindBy (p1 : Int32) (pl_behindBy : Nat → Int32) (pl_byCount : Int32) : Option ((Int32)) :=
  f_X1_isBehindBy_2 FU p1 (0 : Int32) pl_behindBy pl_byCount
set_option maxHeartbeats 4000000 in
set_option maxRecDepth 100000 in
theorem c_X1_isBehindBy (l : Launch) (E : EnvT) (a_pl : Nat → Nat) (pl_items : Nat → Int32) (pl_behindBy : Nat → Int32) (pl_steps : Nat → Int32) (pl_literalTypes : Nat → Int32) (pl_numbers : Nat → Int64) (pl_textStarts : Nat → Int32) (pl_textLengths : Nat → Int32) (pl_textBytes : Nat → Int32) (pl_itemCount : Int32) (pl_byCount : Int32) (pl_stepCount : Int32) (pl_literalCount : Int32) (pl_textEnd : Int32) (p1 : Int32) (r : Int32) (hf : f_X1_isBehindBy p1 pl_behindBy pl_byCount = some r) : CI l yX1_isBehindBy (Cond.code yX1_isBehindBy cX1_isBehindBy 3 (some .boolean)) { frames := 0, cells := 0, slots := 0, locals := 0 } E [.ref (a_pl 0), .int p1] (w_pl E a_pl pl_items pl_behindBy pl_steps pl_literalTypes pl_numbers pl_textStarts pl_textLengths pl_textBytes pl_itemCount pl_byCount pl_stepCount pl_literalCount pl_textEnd) r (w_pl E a_pl pl_items pl_behindBy pl_steps pl_literalTypes pl_numbers pl_textStarts pl_textLengths pl_textBytes pl_itemCount pl_byCount pl_stepCount pl_literalCount pl_textEnd) := by
  intro sz
  refine met_start [(0, .ref (a_pl 0)), (1, .int p1)] (by decide) rfl rfl (Nat.le_of_ble_eq_true rfl) rfl ?_
  intro p e s m below meth c ls C hnm hmt hw hl
  have hx := C.1
  have hb := C.2.1
  generalize va_A (w_pl E a_pl pl_items pl_behindBy pl_steps pl_literalTypes pl_numbers pl_textStarts pl_textLengths pl_textBytes pl_itemCount pl_byCount pl_stepCount pl_literalCount pl_textEnd) sz = A at C hw ⊢
  unfold f_X1_isBehindBy at hf
  refine lv_iconst (v := 0) hx hb dX1_isBehindBy_0 (by decide) ?_
  refine lv_istore_n (lv' := [(2, .int (0 : Int32)), (0, .ref (a_pl 0)), (1, .int p1)]) hx hb dX1_isBehindBy_1 rfl hl (by decide) rfl (fun ls hl => ?_)
  exact w_X1_isBehindBy_2 C FU hw (lv_sub hl [1, 2, 0] rfl) hf
def f_X1_addBehindBy (p1 : Int32) (pl_behindBy : Nat → Int32) (pl_byCount : Int32) : Option ((Int32) × (Nat → Int32) × (Int32)) :=
  if (8 : Int32) ≤ pl_byCount then (some ((0 : Int32), pl_behindBy, pl_byCount))
  else (ob1 (f_X1_isBehindBy p1 pl_behindBy pl_byCount) (fun x1 =>
  if x1 = (0 : Int32) then (wr pl_behindBy 8 pl_byCount p1 (fun x2 =>
  on (pl_byCount + (1 : Int32)) (fun x3 =>
  some ((1 : Int32), x2, x3))))
  else (some ((0 : Int32), pl_behindBy, pl_byCount))))
set_option maxHeartbeats 4000000 in
set_option maxRecDepth 100000 in
theorem c_X1_addBehindBy (l : Launch) (E : EnvT) (a_pl : Nat → Nat) (pl_items : Nat → Int32) (pl_behindBy : Nat → Int32) (pl_steps : Nat → Int32) (pl_literalTypes : Nat → Int32) (pl_numbers : Nat → Int64) (pl_textStarts : Nat → Int32) (pl_textLengths : Nat → Int32) (pl_textBytes : Nat → Int32) (pl_itemCount : Int32) (pl_byCount : Int32) (pl_stepCount : Int32) (pl_literalCount : Int32) (pl_textEnd : Int32) (p1 : Int32) (r : Int32) (o_pl_behindBy : Nat → Int32) (o_pl_byCount : Int32) (hf : f_X1_addBehindBy p1 pl_behindBy pl_byCount = some (r, o_pl_behindBy, o_pl_byCount)) : CI l yX1_addBehindBy (Cond.code yX1_addBehindBy cX1_addBehindBy 2 (some .boolean)) { frames := 1, cells := 0, slots := 0, locals := 22 } E [.ref (a_pl 0), .int p1] (w_pl E a_pl pl_items pl_behindBy pl_steps pl_literalTypes pl_numbers pl_textStarts pl_textLengths pl_textBytes pl_itemCount pl_byCount pl_stepCount pl_literalCount pl_textEnd) r (w_pl E a_pl pl_items o_pl_behindBy pl_steps pl_literalTypes pl_numbers pl_textStarts pl_textLengths pl_textBytes pl_itemCount o_pl_byCount pl_stepCount pl_literalCount pl_textEnd) := by
  intro sz
  refine met_start [(0, .ref (a_pl 0)), (1, .int p1)] (by decide) rfl rfl (Nat.le_of_ble_eq_true rfl) rfl ?_
  intro p e s m below meth c ls C hnm hmt hw hl
  have hx := C.1
  have hb := C.2.1
  generalize va_A (w_pl E a_pl pl_items pl_behindBy pl_steps pl_literalTypes pl_numbers pl_textStarts pl_textLengths pl_textBytes pl_itemCount pl_byCount pl_stepCount pl_literalCount pl_textEnd) sz = A at C hw ⊢
  unfold f_X1_addBehindBy at hf
  refine lv_aload_n hx hb dX1_addBehindBy_0 rfl (lv_at hl 0 rfl) ?_
  refine fg_X1_41 C hw 0 rfl rfl dX1_addBehindBy_1 ?_
  refine lv_bipush (v := 8) hx hb dX1_addBehindBy_4 (by decide) ?_
  refine lv_icmp_ge (tgt := 17) hx hb dX1_addBehindBy_6 (by decide) (fun c6 => ?_) (fun c6 => ?_)
  · replace hf := it_t c6 hf
    refine lv_iconst (v := 0) hx hb dX1_addBehindBy_17 (by decide) ?_
    cases hf
    exact rt_z C hw (Or.inl rfl) dX1_addBehindBy_18
  · replace hf := it_f c6 hf
    refine lv_aload_n hx hb dX1_addBehindBy_9 rfl (lv_at hl 0 rfl) ?_
    refine lv_iload_n hx hb dX1_addBehindBy_10 rfl (lv_at hl 1 rfl) ?_
    obtain ⟨x1, z1, hf⟩ := ob1_el hf
    refine cI_V C hw (c_X1_isBehindBy l E a_pl pl_items pl_behindBy pl_steps pl_literalTypes pl_numbers pl_textStarts pl_textLengths pl_textBytes pl_itemCount pl_byCount pl_stepCount pl_literalCount pl_textEnd p1 x1 z1) cs_X1_59 ⟨Nat.le_of_ble_eq_true rfl, Nat.le_of_ble_eq_true rfl⟩ ⟨rfl, rfl⟩ (ci := 1) (cn := (RX1, TX1, 13)) rfl (q0 := 0) rfl (wn := w_pl E a_pl pl_items pl_behindBy pl_steps pl_literalTypes pl_numbers pl_textStarts pl_textLengths pl_textBytes pl_itemCount pl_byCount pl_stepCount pl_literalCount pl_textEnd) (Jn.all _ _) rfl hl.1 rfl (Nat.le_of_ble_eq_true rfl) dX1_addBehindBy_11 ⟨Nat.zero_le _, Nat.zero_le _⟩ (fun H locs hw => ?_)
    refine lv_if_eq (tgt := 19) hx hb dX1_addBehindBy_14 (by decide) (fun c14 => ?_) (fun c14 => ?_)
    · replace hf := it_t c14 hf
      refine lv_aload_n hx hb dX1_addBehindBy_19 rfl (lv_at hl 0 rfl) ?_
      refine fg_X1_15 C hw 0 rfl rfl dX1_addBehindBy_20 ?_
      refine lv_aload_n hx hb dX1_addBehindBy_23 rfl (lv_at hl 0 rfl) ?_
      refine fg_X1_41 C hw 0 rfl rfl dX1_addBehindBy_24 ?_
      refine lv_iload_n hx hb dX1_addBehindBy_27 rfl (lv_at hl 1 rfl) ?_
      obtain ⟨x2, ex2, gx2, hf⟩ := wr_el hf
      refine rs_i C hw 2 rfl gx2 (ws' := w_pl E a_pl pl_items x2 pl_steps pl_literalTypes pl_numbers pl_textStarts pl_textLengths pl_textBytes pl_itemCount pl_byCount pl_stepCount pl_literalCount pl_textEnd) (by subst ex2; rfl) dX1_addBehindBy_28 (fun H locs hw => ?_)
      refine lv_aload_n hx hb dX1_addBehindBy_29 rfl (lv_at hl 0 rfl) ?_
      refine lv_dup hx hb dX1_addBehindBy_30 rfl ?_
      refine fg_X1_41 C hw 0 rfl rfl dX1_addBehindBy_31 ?_
      refine lv_iconst (v := 1) hx hb dX1_addBehindBy_34 (by decide) ?_
      refine lv_iadd hx hb dX1_addBehindBy_35 ?_
      obtain ⟨x3, ex3, hf⟩ := on_el hf
      refine tp_i ex3 ?_
      refine fp_X1_41 C hw 0 rfl (Nat.le_of_ble_eq_true rfl) (ws' := w_pl E a_pl pl_items x2 pl_steps pl_literalTypes pl_numbers pl_textStarts pl_textLengths pl_textBytes pl_itemCount x3 pl_stepCount pl_literalCount pl_textEnd) rfl dX1_addBehindBy_36 (fun H locs hw => ?_)
      refine lv_iconst (v := 1) hx hb dX1_addBehindBy_39 (by decide) ?_
      cases hf
      exact rt_z C hw (Or.inr rfl) dX1_addBehindBy_40
    · replace hf := it_f c14 hf
      refine lv_iconst (v := 0) hx hb dX1_addBehindBy_17 (by decide) ?_
      cases hf
      exact rt_z C hw (Or.inl rfl) dX1_addBehindBy_18
def f_X1_collects_15 : Nat → (Int32) → (Int32) → (Nat → Int32) → (Int32) → Option ((Int32))
  | 0, _, _, _, _ => none
  | n + 1, l1, l2, pl_items, pl_itemCount =>
  if pl_itemCount ≤ l2 then (some l1)
  else (if l1 = (0 : Int32) then (rd pl_items 32 (l2 * (2 : Int32)) (fun x2 =>
  if x2 = (0 : Int32) then (on (l2 + (1 : Int32)) (fun x3 =>
  f_X1_collects_15 n (0 : Int32) x3 pl_items pl_itemCount))
  else (on (l2 + (1 : Int32)) (fun x4 =>
  f_X1_collects_15 n (1 : Int32) x4 pl_items pl_itemCount))))
  else (on (l2 + (1 : Int32)) (fun x1 =>
  f_X1_collects_15 n (1 : Int32) x1 pl_items pl_itemCount)))
set_option maxHeartbeats 4000000 in
set_option maxRecDepth 100000 in
theorem w_X1_collects_15 {p : Program} {l : Launch} {e : Env} {s : State} {m : MethodId} {args : Array Value} {below : List Frame} {meth : Method} {c : Code} {E : EnvT} {A : Nat → Prop} {a_pl : Nat → Nat} {Q : State → Prop} {pl_behindBy : Nat → Int32} {pl_steps : Nat → Int32} {pl_literalTypes : Nat → Int32} {pl_numbers : Nat → Int64} {pl_textStarts : Nat → Int32} {pl_textLengths : Nat → Int32} {pl_textBytes : Nat → Int32} {pl_byCount : Int32} {pl_stepCount : Int32} {pl_literalCount : Int32} {pl_textEnd : Int32} {q_l1 : Int32} (C : MC p s m args meth c E A cX1_collects 3 RX1 (some .boolean)) : ∀ (n : Nat) {l1 : Int32} {l2 : Int32} {pl_items : Nat → Int32} {pl_itemCount : Int32} {H : Heap} {locs : List Loc} {ls : Array Slot}, WS E A s (w_pl E a_pl pl_items pl_behindBy pl_steps pl_literalTypes pl_numbers pl_textStarts pl_textLengths pl_textBytes pl_itemCount pl_byCount pl_stepCount pl_literalCount pl_textEnd) H locs → lv_has ls 3 [(0, .ref (a_pl 0)), (1, .int l1), (2, .int l2)] → f_X1_collects_15 n l1 l2 pl_items pl_itemCount = some q_l1 → (∀ (H : Heap) (locs : List Loc) (ls : Array Slot), WS E A s (w_pl E a_pl pl_items pl_behindBy pl_steps pl_literalTypes pl_numbers pl_textStarts pl_textLengths pl_textBytes pl_itemCount pl_byCount pl_stepCount pl_literalCount pl_textEnd) H locs → lv_has ls 3 [(1, .int q_l1)] → W p l e { frames := 0, cells := 0, slots := 0, locals := 0 } s m args below meth c H locs 0 0 Q (F0 m 50 ls [])) → W p l e { frames := 0, cells := 0, slots := 0, locals := 0 } s m args below meth c H locs 0 0 Q (F0 m 15 ls []) := by
  have hx := C.1
  have hb := C.2.1
  intro n
  induction n with
  | zero =>
    intro l1 l2 pl_items pl_itemCount H locs ls hw hl hf kk
    unfold f_X1_collects_15 at hf
    cases hf
  | succ n ih =>
    intro l1 l2 pl_items pl_itemCount H locs ls hw hl hf kk
    unfold f_X1_collects_15 at hf
    refine lv_iload_n hx hb dX1_collects_15 rfl (lv_at hl 2 rfl) ?_
    refine lv_aload_n hx hb dX1_collects_16 rfl (lv_at hl 0 rfl) ?_
    refine fg_X1_37 C hw 0 rfl rfl dX1_collects_17 ?_
    refine lv_icmp_ge (tgt := 50) hx hb dX1_collects_20 (by decide) (fun c20 => ?_) (fun c20 => ?_)
    · replace hf := it_t c20 hf
      cases hf
      exact kk _ _ _ hw (lv_sub hl [1] rfl)
    · replace hf := it_f c20 hf
      refine lv_iload_n hx hb dX1_collects_23 rfl (lv_at hl 1 rfl) ?_
      refine lv_if_ne (tgt := 38) hx hb dX1_collects_24 (by decide) (fun c24 => ?_) (fun c24 => ?_)
      · replace hf := it_f c24 hf
        refine lv_iconst (v := 1) hx hb dX1_collects_38 (by decide) ?_
        refine lv_goto (tgt := 43) hx hb dX1_collects_39 (by decide) ?_
        refine lv_istore_n (lv' := [(1, .int (1 : Int32)), (0, .ref (a_pl 0)), (2, .int l2)]) hx hb dX1_collects_43 rfl hl (by decide) rfl (fun ls hl => ?_)
        obtain ⟨x1, ex1, hf⟩ := on_el hf
        refine lv_iinc (v := x1) (lv' := [(2, .int x1), (1, .int (1 : Int32)), (0, .ref (a_pl 0))]) hx hb dX1_collects_44 hl (k := 2) rfl (by rw [← ex1]; rfl) (by decide) rfl (fun ls hl => ?_)
        refine lv_goto (tgt := 15) hx hb dX1_collects_47 (by decide) ?_
        exact ih hw (lv_sub hl [2, 1, 0] rfl) hf kk
      · replace hf := it_t c24 hf
        refine lv_aload_n hx hb dX1_collects_27 rfl (lv_at hl 0 rfl) ?_
        refine fg_X1_9 C hw 0 rfl rfl dX1_collects_28 ?_
        refine lv_iload_n hx hb dX1_collects_31 rfl (lv_at hl 2 rfl) ?_
        refine lv_iconst (v := 2) hx hb dX1_collects_32 (by decide) ?_
        refine lv_imul hx hb dX1_collects_33 ?_
        obtain ⟨x2, ex2, gx2, hf⟩ := rd_el hf
        refine ra_i C hw 1 rfl gx2 dX1_collects_34 ?_
        refine tp_i ex2 ?_
        refine lv_if_eq (tgt := 42) hx hb dX1_collects_35 (by decide) (fun c35 => ?_) (fun c35 => ?_)
        · replace hf := it_t c35 hf
          refine lv_iconst (v := 0) hx hb dX1_collects_42 (by decide) ?_
          refine lv_istore_n (lv' := [(1, .int (0 : Int32)), (0, .ref (a_pl 0)), (2, .int l2)]) hx hb dX1_collects_43 rfl hl (by decide) rfl (fun ls hl => ?_)
          obtain ⟨x3, ex3, hf⟩ := on_el hf
          refine lv_iinc (v := x3) (lv' := [(2, .int x3), (1, .int (0 : Int32)), (0, .ref (a_pl 0))]) hx hb dX1_collects_44 hl (k := 2) rfl (by rw [← ex3]; rfl) (by decide) rfl (fun ls hl => ?_)
          refine lv_goto (tgt := 15) hx hb dX1_collects_47 (by decide) ?_
          exact ih hw (lv_sub hl [2, 1, 0] rfl) hf kk
        · replace hf := it_f c35 hf
          refine lv_iconst (v := 1) hx hb dX1_collects_38 (by decide) ?_
          refine lv_goto (tgt := 43) hx hb dX1_collects_39 (by decide) ?_
          refine lv_istore_n (lv' := [(1, .int (1 : Int32)), (0, .ref (a_pl 0)), (2, .int l2)]) hx hb dX1_collects_43 rfl hl (by decide) rfl (fun ls hl => ?_)
          obtain ⟨x4, ex4, hf⟩ := on_el hf
          refine lv_iinc (v := x4) (lv' := [(2, .int x4), (1, .int (1 : Int32)), (0, .ref (a_pl 0))]) hx hb dX1_collects_44 hl (k := 2) rfl (by rw [← ex4]; rfl) (by decide) rfl (fun ls hl => ?_)
          refine lv_goto (tgt := 15) hx hb dX1_collects_47 (by decide) ?_
          exact ih hw (lv_sub hl [2, 1, 0] rfl) hf kk
def f_X1_collects_12 (s0 : Int32) (pl_items : Nat → Int32) (pl_itemCount : Int32) : Option ((Int32)) :=
  ob1 (f_X1_collects_15 FU s0 (0 : Int32) pl_items pl_itemCount) (fun x1 =>
  gz x1 (some x1))
set_option maxHeartbeats 4000000 in
set_option maxRecDepth 100000 in
theorem w_X1_collects_12 {p : Program} {l : Launch} {e : Env} {s : State} {m : MethodId} {args : Array Value} {below : List Frame} {meth : Method} {c : Code} {E : EnvT} {A : Nat → Prop} {a_pl : Nat → Nat} {pl_behindBy : Nat → Int32} {pl_steps : Nat → Int32} {pl_literalTypes : Nat → Int32} {pl_numbers : Nat → Int64} {pl_textStarts : Nat → Int32} {pl_textLengths : Nat → Int32} {pl_textBytes : Nat → Int32} {pl_byCount : Int32} {pl_stepCount : Int32} {pl_literalCount : Int32} {pl_textEnd : Int32} {r : Int32} {s0 : Int32} {pl_items : Nat → Int32} {pl_itemCount : Int32} {H : Heap} {locs : List Loc} {ls : Array Slot} (C : MC p s m args meth c E A cX1_collects 3 RX1 (some .boolean)) (hw : WS E A s (w_pl E a_pl pl_items pl_behindBy pl_steps pl_literalTypes pl_numbers pl_textStarts pl_textLengths pl_textBytes pl_itemCount pl_byCount pl_stepCount pl_literalCount pl_textEnd) H locs) (hl : lv_has ls 3 [(0, .ref (a_pl 0))]) (hf : f_X1_collects_12 s0 pl_items pl_itemCount = some r) : W p l e { frames := 0, cells := 0, slots := 0, locals := 0 } s m args below meth c H locs 0 0 (MQ below (QcI E A (w_pl E a_pl pl_items pl_behindBy pl_steps pl_literalTypes pl_numbers pl_textStarts pl_textLengths pl_textBytes pl_itemCount pl_byCount pl_stepCount pl_literalCount pl_textEnd) r) args s 0 0 A) (F0 m 12 ls [.int s0]) := by
  have hx := C.1
  have hb := C.2.1
  unfold f_X1_collects_12 at hf
  refine lv_istore_n (lv' := [(1, .int s0), (0, .ref (a_pl 0))]) hx hb dX1_collects_12 rfl hl (by decide) rfl (fun ls hl => ?_)
  refine lv_iconst (v := 0) hx hb dX1_collects_13 (by decide) ?_
  refine lv_istore_n (lv' := [(2, .int (0 : Int32)), (1, .int s0), (0, .ref (a_pl 0))]) hx hb dX1_collects_14 rfl hl (by decide) rfl (fun ls hl => ?_)
  obtain ⟨x1, hx1, hf⟩ := ob1_el hf
  refine w_X1_collects_15 C FU hw (lv_sub hl [2, 1, 0] rfl) hx1 ?_
  clear hw hl
  intro H locs ls hw hl
  refine lv_iload_n hx hb dX1_collects_50 rfl (lv_at hl 0 rfl) ?_
  obtain ⟨hz, hf⟩ := gz_el hf
  cases hf
  exact rt_z C hw hz dX1_collects_51
def f_X1_collects (pl_items : Nat → Int32) (pl_itemCount : Int32) (pl_byCount : Int32) : Option ((Int32)) :=
  if pl_byCount ≤ (0 : Int32) then (f_X1_collects_12 (0 : Int32) pl_items pl_itemCount)
  else (f_X1_collects_12 (1 : Int32) pl_items pl_itemCount)
set_option maxHeartbeats 4000000 in
set_option maxRecDepth 100000 in
theorem c_X1_collects (l : Launch) (E : EnvT) (a_pl : Nat → Nat) (pl_items : Nat → Int32) (pl_behindBy : Nat → Int32) (pl_steps : Nat → Int32) (pl_literalTypes : Nat → Int32) (pl_numbers : Nat → Int64) (pl_textStarts : Nat → Int32) (pl_textLengths : Nat → Int32) (pl_textBytes : Nat → Int32) (pl_itemCount : Int32) (pl_byCount : Int32) (pl_stepCount : Int32) (pl_literalCount : Int32) (pl_textEnd : Int32) (r : Int32) (hf : f_X1_collects pl_items pl_itemCount pl_byCount = some r) : CI l yX1_collects (Cond.code yX1_collects cX1_collects 3 (some .boolean)) { frames := 0, cells := 0, slots := 0, locals := 0 } E [.ref (a_pl 0)] (w_pl E a_pl pl_items pl_behindBy pl_steps pl_literalTypes pl_numbers pl_textStarts pl_textLengths pl_textBytes pl_itemCount pl_byCount pl_stepCount pl_literalCount pl_textEnd) r (w_pl E a_pl pl_items pl_behindBy pl_steps pl_literalTypes pl_numbers pl_textStarts pl_textLengths pl_textBytes pl_itemCount pl_byCount pl_stepCount pl_literalCount pl_textEnd) := by
  intro sz
  refine met_start [(0, .ref (a_pl 0))] (by decide) rfl rfl (Nat.le_of_ble_eq_true rfl) rfl ?_
  intro p e s m below meth c ls C hnm hmt hw hl
  have hx := C.1
  have hb := C.2.1
  generalize va_A (w_pl E a_pl pl_items pl_behindBy pl_steps pl_literalTypes pl_numbers pl_textStarts pl_textLengths pl_textBytes pl_itemCount pl_byCount pl_stepCount pl_literalCount pl_textEnd) sz = A at C hw ⊢
  unfold f_X1_collects at hf
  refine lv_aload_n hx hb dX1_collects_0 rfl (lv_at hl 0 rfl) ?_
  refine fg_X1_41 C hw 0 rfl rfl dX1_collects_1 ?_
  refine lv_if_le (tgt := 11) hx hb dX1_collects_4 (by decide) (fun c4 => ?_) (fun c4 => ?_)
  · replace hf := it_t c4 hf
    refine lv_iconst (v := 0) hx hb dX1_collects_11 (by decide) ?_
    exact w_X1_collects_12 C hw (lv_sub hl [0] rfl) hf
  · replace hf := it_f c4 hf
    refine lv_iconst (v := 1) hx hb dX1_collects_7 (by decide) ?_
    refine lv_goto (tgt := 12) hx hb dX1_collects_8 (by decide) ?_
    exact w_X1_collects_12 C hw (lv_sub hl [0] rfl) hf
def f_X1_copy (pl_items : Nat → Int32) (pl_behindBy : Nat → Int32) (pl_steps : Nat → Int32) (pl_literalTypes : Nat → Int32) (pl_numbers : Nat → Int64) (pl_textStarts : Nat → Int32) (pl_textLengths : Nat → Int32) (pl_textBytes : Nat → Int32) (pl_itemCount : Int32) (pl_byCount : Int32) (pl_stepCount : Int32) (pl_literalCount : Int32) (pl_textEnd : Int32) (po_items : Nat → Int32) (po_behindBy : Nat → Int32) (po_steps : Nat → Int32) (po_literalTypes : Nat → Int32) (po_numbers : Nat → Int64) (po_textStarts : Nat → Int32) (po_textLengths : Nat → Int32) (po_textBytes : Nat → Int32) (po_itemCount : Int32) (po_byCount : Int32) (po_stepCount : Int32) (po_literalCount : Int32) (po_textEnd : Int32) : Option ((Nat → Int32) × (Nat → Int32) × (Nat → Int32) × (Nat → Int32) × (Nat → Int64) × (Nat → Int32) × (Nat → Int32) × (Nat → Int32) × (Int32) × (Int32) × (Int32) × (Int32) × (Int32)) :=
  on (va_cpy po_items pl_items 0 0 32) (fun x1 =>
  on (va_cpy po_behindBy pl_behindBy 0 0 8) (fun x2 =>
  on (va_cpy po_steps pl_steps 0 0 320) (fun x3 =>
  on (va_cpy po_literalTypes pl_literalTypes 0 0 64) (fun x4 =>
  on (va_cpy po_numbers pl_numbers 0 0 64) (fun x5 =>
  on (va_cpy po_textStarts pl_textStarts 0 0 64) (fun x6 =>
  on (va_cpy po_textLengths pl_textLengths 0 0 64) (fun x7 =>
  on (va_cpy po_textBytes pl_textBytes 0 0 2000) (fun x8 =>
  some (x1, x2, x3, x4, x5, x6, x7, x8, po_itemCount, po_byCount, po_stepCount, po_literalCount, po_textEnd)))))))))
set_option maxHeartbeats 4000000 in
set_option maxRecDepth 100000 in
theorem c_X1_copy (l : Launch) (E : EnvT) (a_pl : Nat → Nat) (a_po : Nat → Nat) (pl_items : Nat → Int32) (pl_behindBy : Nat → Int32) (pl_steps : Nat → Int32) (pl_literalTypes : Nat → Int32) (pl_numbers : Nat → Int64) (pl_textStarts : Nat → Int32) (pl_textLengths : Nat → Int32) (pl_textBytes : Nat → Int32) (pl_itemCount : Int32) (pl_byCount : Int32) (pl_stepCount : Int32) (pl_literalCount : Int32) (pl_textEnd : Int32) (po_items : Nat → Int32) (po_behindBy : Nat → Int32) (po_steps : Nat → Int32) (po_literalTypes : Nat → Int32) (po_numbers : Nat → Int64) (po_textStarts : Nat → Int32) (po_textLengths : Nat → Int32) (po_textBytes : Nat → Int32) (po_itemCount : Int32) (po_byCount : Int32) (po_stepCount : Int32) (po_literalCount : Int32) (po_textEnd : Int32) (o_pl_items : Nat → Int32) (o_pl_behindBy : Nat → Int32) (o_pl_steps : Nat → Int32) (o_pl_literalTypes : Nat → Int32) (o_pl_numbers : Nat → Int64) (o_pl_textStarts : Nat → Int32) (o_pl_textLengths : Nat → Int32) (o_pl_textBytes : Nat → Int32) (o_pl_itemCount : Int32) (o_pl_byCount : Int32) (o_pl_stepCount : Int32) (o_pl_literalCount : Int32) (o_pl_textEnd : Int32) (hf : f_X1_copy pl_items pl_behindBy pl_steps pl_literalTypes pl_numbers pl_textStarts pl_textLengths pl_textBytes pl_itemCount pl_byCount pl_stepCount pl_literalCount pl_textEnd po_items po_behindBy po_steps po_literalTypes po_numbers po_textStarts po_textLengths po_textBytes po_itemCount po_byCount po_stepCount po_literalCount po_textEnd = some (o_pl_items, o_pl_behindBy, o_pl_steps, o_pl_literalTypes, o_pl_numbers, o_pl_textStarts, o_pl_textLengths, o_pl_textBytes, o_pl_itemCount, o_pl_byCount, o_pl_stepCount, o_pl_literalCount, o_pl_textEnd)) : CV l yX1_copy (Cond.code yX1_copy cX1_copy 2 none) { frames := 1, cells := 0, slots := 0, locals := 26 } E [.ref (a_pl 0), .ref (a_po 0)] (w_pl_po E a_pl a_po pl_items pl_behindBy pl_steps pl_literalTypes pl_numbers pl_textStarts pl_textLengths pl_textBytes pl_itemCount pl_byCount pl_stepCount pl_literalCount pl_textEnd po_items po_behindBy po_steps po_literalTypes po_numbers po_textStarts po_textLengths po_textBytes po_itemCount po_byCount po_stepCount po_literalCount po_textEnd) (w_pl_po E a_pl a_po o_pl_items o_pl_behindBy o_pl_steps o_pl_literalTypes o_pl_numbers o_pl_textStarts o_pl_textLengths o_pl_textBytes o_pl_itemCount o_pl_byCount o_pl_stepCount o_pl_literalCount o_pl_textEnd po_items po_behindBy po_steps po_literalTypes po_numbers po_textStarts po_textLengths po_textBytes po_itemCount po_byCount po_stepCount po_literalCount po_textEnd) := by
  intro sz
  refine met_start [(0, .ref (a_pl 0)), (1, .ref (a_po 0))] (by decide) rfl rfl (Nat.le_of_ble_eq_true rfl) rfl ?_
  intro p e s m below meth c ls C hnm hmt hw hl
  have hx := C.1
  have hb := C.2.1
  generalize va_A (w_pl_po E a_pl a_po pl_items pl_behindBy pl_steps pl_literalTypes pl_numbers pl_textStarts pl_textLengths pl_textBytes pl_itemCount pl_byCount pl_stepCount pl_literalCount pl_textEnd po_items po_behindBy po_steps po_literalTypes po_numbers po_textStarts po_textLengths po_textBytes po_itemCount po_byCount po_stepCount po_literalCount po_textEnd) sz = A at C hw ⊢
  unfold f_X1_copy at hf
  refine lv_aload_n hx hb dX1_copy_0 rfl (lv_at hl 1 rfl) ?_
  refine fg_X1_9 C hw 9 rfl rfl dX1_copy_1 ?_
  refine lv_iconst (v := 0) hx hb dX1_copy_4 (by decide) ?_
  refine lv_aload_n hx hb dX1_copy_5 rfl (lv_at hl 0 rfl) ?_
  refine fg_X1_9 C hw 0 rfl rfl dX1_copy_6 ?_
  refine lv_iconst (v := 0) hx hb dX1_copy_9 (by decide) ?_
  refine lv_bipush (v := 32) hx hb dX1_copy_10 (by decide) ?_
  obtain ⟨x1, ex1, hf⟩ := on_el hf
  refine rcp_i C hw mw_557 mw_559 mw_558 mw_66 hl.1 10 1 rfl rfl (by decide) (by decide) (by decide) (Nat.le_of_ble_eq_true rfl) (Nat.le_of_ble_eq_true rfl) (Nat.le_of_ble_eq_true rfl) (Nat.le_of_ble_eq_true rfl) (ws' := w_pl_po E a_pl a_po x1 pl_behindBy pl_steps pl_literalTypes pl_numbers pl_textStarts pl_textLengths pl_textBytes pl_itemCount pl_byCount pl_stepCount pl_literalCount pl_textEnd po_items po_behindBy po_steps po_literalTypes po_numbers po_textStarts po_textLengths po_textBytes po_itemCount po_byCount po_stepCount po_literalCount po_textEnd) (by subst ex1; rfl) dX1_copy_12 (fun H locs hw => ?_)
  refine lv_aload_n hx hb dX1_copy_15 rfl (lv_at hl 1 rfl) ?_
  refine fg_X1_15 C hw 9 rfl rfl dX1_copy_16 ?_
  refine lv_iconst (v := 0) hx hb dX1_copy_19 (by decide) ?_
  refine lv_aload_n hx hb dX1_copy_20 rfl (lv_at hl 0 rfl) ?_
  refine fg_X1_15 C hw 0 rfl rfl dX1_copy_21 ?_
  refine lv_iconst (v := 0) hx hb dX1_copy_24 (by decide) ?_
  refine lv_bipush (v := 8) hx hb dX1_copy_25 (by decide) ?_
  obtain ⟨x2, ex2, hf⟩ := on_el hf
  refine rcp_i C hw mw_557 mw_559 mw_558 mw_66 hl.1 11 2 rfl rfl (by decide) (by decide) (by decide) (Nat.le_of_ble_eq_true rfl) (Nat.le_of_ble_eq_true rfl) (Nat.le_of_ble_eq_true rfl) (Nat.le_of_ble_eq_true rfl) (ws' := w_pl_po E a_pl a_po x1 x2 pl_steps pl_literalTypes pl_numbers pl_textStarts pl_textLengths pl_textBytes pl_itemCount pl_byCount pl_stepCount pl_literalCount pl_textEnd po_items po_behindBy po_steps po_literalTypes po_numbers po_textStarts po_textLengths po_textBytes po_itemCount po_byCount po_stepCount po_literalCount po_textEnd) (by subst ex2; rfl) dX1_copy_27 (fun H locs hw => ?_)
  refine lv_aload_n hx hb dX1_copy_30 rfl (lv_at hl 1 rfl) ?_
  refine fg_X1_18 C hw 9 rfl rfl dX1_copy_31 ?_
  refine lv_iconst (v := 0) hx hb dX1_copy_34 (by decide) ?_
  refine lv_aload_n hx hb dX1_copy_35 rfl (lv_at hl 0 rfl) ?_
  refine fg_X1_18 C hw 0 rfl rfl dX1_copy_36 ?_
  refine lv_iconst (v := 0) hx hb dX1_copy_39 (by decide) ?_
  refine lv_sipush (v := 320) hx hb dX1_copy_40 (by decide) ?_
  obtain ⟨x3, ex3, hf⟩ := on_el hf
  refine rcp_i C hw mw_557 mw_559 mw_558 mw_66 hl.1 12 3 rfl rfl (by decide) (by decide) (by decide) (Nat.le_of_ble_eq_true rfl) (Nat.le_of_ble_eq_true rfl) (Nat.le_of_ble_eq_true rfl) (Nat.le_of_ble_eq_true rfl) (ws' := w_pl_po E a_pl a_po x1 x2 x3 pl_literalTypes pl_numbers pl_textStarts pl_textLengths pl_textBytes pl_itemCount pl_byCount pl_stepCount pl_literalCount pl_textEnd po_items po_behindBy po_steps po_literalTypes po_numbers po_textStarts po_textLengths po_textBytes po_itemCount po_byCount po_stepCount po_literalCount po_textEnd) (by subst ex3; rfl) dX1_copy_43 (fun H locs hw => ?_)
  refine lv_aload_n hx hb dX1_copy_46 rfl (lv_at hl 1 rfl) ?_
  refine fg_X1_21 C hw 9 rfl rfl dX1_copy_47 ?_
  refine lv_iconst (v := 0) hx hb dX1_copy_50 (by decide) ?_
  refine lv_aload_n hx hb dX1_copy_51 rfl (lv_at hl 0 rfl) ?_
  refine fg_X1_21 C hw 0 rfl rfl dX1_copy_52 ?_
  refine lv_iconst (v := 0) hx hb dX1_copy_55 (by decide) ?_
  refine lv_bipush (v := 64) hx hb dX1_copy_56 (by decide) ?_
  obtain ⟨x4, ex4, hf⟩ := on_el hf
  refine rcp_i C hw mw_557 mw_559 mw_558 mw_66 hl.1 13 4 rfl rfl (by decide) (by decide) (by decide) (Nat.le_of_ble_eq_true rfl) (Nat.le_of_ble_eq_true rfl) (Nat.le_of_ble_eq_true rfl) (Nat.le_of_ble_eq_true rfl) (ws' := w_pl_po E a_pl a_po x1 x2 x3 x4 pl_numbers pl_textStarts pl_textLengths pl_textBytes pl_itemCount pl_byCount pl_stepCount pl_literalCount pl_textEnd po_items po_behindBy po_steps po_literalTypes po_numbers po_textStarts po_textLengths po_textBytes po_itemCount po_byCount po_stepCount po_literalCount po_textEnd) (by subst ex4; rfl) dX1_copy_58 (fun H locs hw => ?_)
  refine lv_aload_n hx hb dX1_copy_61 rfl (lv_at hl 1 rfl) ?_
  refine fg_X1_24 C hw 9 rfl rfl dX1_copy_62 ?_
  refine lv_iconst (v := 0) hx hb dX1_copy_65 (by decide) ?_
  refine lv_aload_n hx hb dX1_copy_66 rfl (lv_at hl 0 rfl) ?_
  refine fg_X1_24 C hw 0 rfl rfl dX1_copy_67 ?_
  refine lv_iconst (v := 0) hx hb dX1_copy_70 (by decide) ?_
  refine lv_bipush (v := 64) hx hb dX1_copy_71 (by decide) ?_
  obtain ⟨x5, ex5, hf⟩ := on_el hf
  refine rcp_l C hw mw_557 mw_559 mw_558 mw_66 hl.1 14 5 rfl rfl (by decide) (by decide) (by decide) (Nat.le_of_ble_eq_true rfl) (Nat.le_of_ble_eq_true rfl) (Nat.le_of_ble_eq_true rfl) (Nat.le_of_ble_eq_true rfl) (ws' := w_pl_po E a_pl a_po x1 x2 x3 x4 x5 pl_textStarts pl_textLengths pl_textBytes pl_itemCount pl_byCount pl_stepCount pl_literalCount pl_textEnd po_items po_behindBy po_steps po_literalTypes po_numbers po_textStarts po_textLengths po_textBytes po_itemCount po_byCount po_stepCount po_literalCount po_textEnd) (by subst ex5; rfl) dX1_copy_73 (fun H locs hw => ?_)
  refine lv_aload_n hx hb dX1_copy_76 rfl (lv_at hl 1 rfl) ?_
  refine fg_X1_28 C hw 9 rfl rfl dX1_copy_77 ?_
  refine lv_iconst (v := 0) hx hb dX1_copy_80 (by decide) ?_
  refine lv_aload_n hx hb dX1_copy_81 rfl (lv_at hl 0 rfl) ?_
  refine fg_X1_28 C hw 0 rfl rfl dX1_copy_82 ?_
  refine lv_iconst (v := 0) hx hb dX1_copy_85 (by decide) ?_
  refine lv_bipush (v := 64) hx hb dX1_copy_86 (by decide) ?_
  obtain ⟨x6, ex6, hf⟩ := on_el hf
  refine rcp_i C hw mw_557 mw_559 mw_558 mw_66 hl.1 15 6 rfl rfl (by decide) (by decide) (by decide) (Nat.le_of_ble_eq_true rfl) (Nat.le_of_ble_eq_true rfl) (Nat.le_of_ble_eq_true rfl) (Nat.le_of_ble_eq_true rfl) (ws' := w_pl_po E a_pl a_po x1 x2 x3 x4 x5 x6 pl_textLengths pl_textBytes pl_itemCount pl_byCount pl_stepCount pl_literalCount pl_textEnd po_items po_behindBy po_steps po_literalTypes po_numbers po_textStarts po_textLengths po_textBytes po_itemCount po_byCount po_stepCount po_literalCount po_textEnd) (by subst ex6; rfl) dX1_copy_88 (fun H locs hw => ?_)
  refine lv_aload_n hx hb dX1_copy_91 rfl (lv_at hl 1 rfl) ?_
  refine fg_X1_31 C hw 9 rfl rfl dX1_copy_92 ?_
  refine lv_iconst (v := 0) hx hb dX1_copy_95 (by decide) ?_
  refine lv_aload_n hx hb dX1_copy_96 rfl (lv_at hl 0 rfl) ?_
  refine fg_X1_31 C hw 0 rfl rfl dX1_copy_97 ?_
  refine lv_iconst (v := 0) hx hb dX1_copy_100 (by decide) ?_
  refine lv_bipush (v := 64) hx hb dX1_copy_101 (by decide) ?_
  obtain ⟨x7, ex7, hf⟩ := on_el hf
  refine rcp_i C hw mw_557 mw_559 mw_558 mw_66 hl.1 16 7 rfl rfl (by decide) (by decide) (by decide) (Nat.le_of_ble_eq_true rfl) (Nat.le_of_ble_eq_true rfl) (Nat.le_of_ble_eq_true rfl) (Nat.le_of_ble_eq_true rfl) (ws' := w_pl_po E a_pl a_po x1 x2 x3 x4 x5 x6 x7 pl_textBytes pl_itemCount pl_byCount pl_stepCount pl_literalCount pl_textEnd po_items po_behindBy po_steps po_literalTypes po_numbers po_textStarts po_textLengths po_textBytes po_itemCount po_byCount po_stepCount po_literalCount po_textEnd) (by subst ex7; rfl) dX1_copy_103 (fun H locs hw => ?_)
  refine lv_aload_n hx hb dX1_copy_106 rfl (lv_at hl 1 rfl) ?_
  refine fg_X1_34 C hw 9 rfl rfl dX1_copy_107 ?_
  refine lv_iconst (v := 0) hx hb dX1_copy_110 (by decide) ?_
  refine lv_aload_n hx hb dX1_copy_111 rfl (lv_at hl 0 rfl) ?_
  refine fg_X1_34 C hw 0 rfl rfl dX1_copy_112 ?_
  refine lv_iconst (v := 0) hx hb dX1_copy_115 (by decide) ?_
  refine lv_sipush (v := 2000) hx hb dX1_copy_116 (by decide) ?_
  obtain ⟨x8, ex8, hf⟩ := on_el hf
  refine rcp_i C hw mw_557 mw_559 mw_558 mw_66 hl.1 17 8 rfl rfl (by decide) (by decide) (by decide) (Nat.le_of_ble_eq_true rfl) (Nat.le_of_ble_eq_true rfl) (Nat.le_of_ble_eq_true rfl) (Nat.le_of_ble_eq_true rfl) (ws' := w_pl_po E a_pl a_po x1 x2 x3 x4 x5 x6 x7 x8 pl_itemCount pl_byCount pl_stepCount pl_literalCount pl_textEnd po_items po_behindBy po_steps po_literalTypes po_numbers po_textStarts po_textLengths po_textBytes po_itemCount po_byCount po_stepCount po_literalCount po_textEnd) (by subst ex8; rfl) dX1_copy_119 (fun H locs hw => ?_)
  refine lv_aload_n hx hb dX1_copy_122 rfl (lv_at hl 0 rfl) ?_
  refine lv_aload_n hx hb dX1_copy_123 rfl (lv_at hl 1 rfl) ?_
  refine fg_X1_37 C hw 9 rfl rfl dX1_copy_124 ?_
  refine fp_X1_37 C hw 0 rfl (Nat.le_of_ble_eq_true rfl) (ws' := w_pl_po E a_pl a_po x1 x2 x3 x4 x5 x6 x7 x8 po_itemCount pl_byCount pl_stepCount pl_literalCount pl_textEnd po_items po_behindBy po_steps po_literalTypes po_numbers po_textStarts po_textLengths po_textBytes po_itemCount po_byCount po_stepCount po_literalCount po_textEnd) rfl dX1_copy_127 (fun H locs hw => ?_)
  refine lv_aload_n hx hb dX1_copy_130 rfl (lv_at hl 0 rfl) ?_
  refine lv_aload_n hx hb dX1_copy_131 rfl (lv_at hl 1 rfl) ?_
  refine fg_X1_41 C hw 9 rfl rfl dX1_copy_132 ?_
  refine fp_X1_41 C hw 0 rfl (Nat.le_of_ble_eq_true rfl) (ws' := w_pl_po E a_pl a_po x1 x2 x3 x4 x5 x6 x7 x8 po_itemCount po_byCount pl_stepCount pl_literalCount pl_textEnd po_items po_behindBy po_steps po_literalTypes po_numbers po_textStarts po_textLengths po_textBytes po_itemCount po_byCount po_stepCount po_literalCount po_textEnd) rfl dX1_copy_135 (fun H locs hw => ?_)
  refine lv_aload_n hx hb dX1_copy_138 rfl (lv_at hl 0 rfl) ?_
  refine lv_aload_n hx hb dX1_copy_139 rfl (lv_at hl 1 rfl) ?_
  refine fg_X1_44 C hw 9 rfl rfl dX1_copy_140 ?_
  refine fp_X1_44 C hw 0 rfl (Nat.le_of_ble_eq_true rfl) (ws' := w_pl_po E a_pl a_po x1 x2 x3 x4 x5 x6 x7 x8 po_itemCount po_byCount po_stepCount pl_literalCount pl_textEnd po_items po_behindBy po_steps po_literalTypes po_numbers po_textStarts po_textLengths po_textBytes po_itemCount po_byCount po_stepCount po_literalCount po_textEnd) rfl dX1_copy_143 (fun H locs hw => ?_)
  refine lv_aload_n hx hb dX1_copy_146 rfl (lv_at hl 0 rfl) ?_
  refine lv_aload_n hx hb dX1_copy_147 rfl (lv_at hl 1 rfl) ?_
  refine fg_X1_47 C hw 9 rfl rfl dX1_copy_148 ?_
  refine fp_X1_47 C hw 0 rfl (Nat.le_of_ble_eq_true rfl) (ws' := w_pl_po E a_pl a_po x1 x2 x3 x4 x5 x6 x7 x8 po_itemCount po_byCount po_stepCount po_literalCount pl_textEnd po_items po_behindBy po_steps po_literalTypes po_numbers po_textStarts po_textLengths po_textBytes po_itemCount po_byCount po_stepCount po_literalCount po_textEnd) rfl dX1_copy_151 (fun H locs hw => ?_)
  refine lv_aload_n hx hb dX1_copy_154 rfl (lv_at hl 0 rfl) ?_
  refine lv_aload_n hx hb dX1_copy_155 rfl (lv_at hl 1 rfl) ?_
  refine fg_X1_50 C hw 9 rfl rfl dX1_copy_156 ?_
  refine fp_X1_50 C hw 0 rfl (Nat.le_of_ble_eq_true rfl) (ws' := w_pl_po E a_pl a_po x1 x2 x3 x4 x5 x6 x7 x8 po_itemCount po_byCount po_stepCount po_literalCount po_textEnd po_items po_behindBy po_steps po_literalTypes po_numbers po_textStarts po_textLengths po_textBytes po_itemCount po_byCount po_stepCount po_literalCount po_textEnd) rfl dX1_copy_159 (fun H locs hw => ?_)
  cases hf
  exact rt_v C hw dX1_copy_162
def f_X1_hasLiteral (p1 : Int32) (pl_literalCount : Int32) : Option ((Int32)) :=
  if p1 < (0 : Int32) then (some (0 : Int32))
  else (if pl_literalCount ≤ p1 then (some (0 : Int32))
  else (some (1 : Int32)))
set_option maxHeartbeats 4000000 in
set_option maxRecDepth 100000 in
theorem c_X1_hasLiteral (l : Launch) (E : EnvT) (a_pl : Nat → Nat) (pl_items : Nat → Int32) (pl_behindBy : Nat → Int32) (pl_steps : Nat → Int32) (pl_literalTypes : Nat → Int32) (pl_numbers : Nat → Int64) (pl_textStarts : Nat → Int32) (pl_textLengths : Nat → Int32) (pl_textBytes : Nat → Int32) (pl_itemCount : Int32) (pl_byCount : Int32) (pl_stepCount : Int32) (pl_literalCount : Int32) (pl_textEnd : Int32) (p1 : Int32) (r : Int32) (hf : f_X1_hasLiteral p1 pl_literalCount = some r) : CI l yX1_hasLiteral (Cond.code yX1_hasLiteral cX1_hasLiteral 2 (some .boolean)) { frames := 0, cells := 0, slots := 0, locals := 0 } E [.ref (a_pl 0), .int p1] (w_pl E a_pl pl_items pl_behindBy pl_steps pl_literalTypes pl_numbers pl_textStarts pl_textLengths pl_textBytes pl_itemCount pl_byCount pl_stepCount pl_literalCount pl_textEnd) r (w_pl E a_pl pl_items pl_behindBy pl_steps pl_literalTypes pl_numbers pl_textStarts pl_textLengths pl_textBytes pl_itemCount pl_byCount pl_stepCount pl_literalCount pl_textEnd) := by
  intro sz
  refine met_start [(0, .ref (a_pl 0)), (1, .int p1)] (by decide) rfl rfl (Nat.le_of_ble_eq_true rfl) rfl ?_
  intro p e s m below meth c ls C hnm hmt hw hl
  have hx := C.1
  have hb := C.2.1
  generalize va_A (w_pl E a_pl pl_items pl_behindBy pl_steps pl_literalTypes pl_numbers pl_textStarts pl_textLengths pl_textBytes pl_itemCount pl_byCount pl_stepCount pl_literalCount pl_textEnd) sz = A at C hw ⊢
  unfold f_X1_hasLiteral at hf
  refine lv_iload_n hx hb dX1_hasLiteral_0 rfl (lv_at hl 1 rfl) ?_
  refine lv_if_lt (tgt := 16) hx hb dX1_hasLiteral_1 (by decide) (fun c1 => ?_) (fun c1 => ?_)
  · replace hf := it_t c1 hf
    refine lv_iconst (v := 0) hx hb dX1_hasLiteral_16 (by decide) ?_
    cases hf
    exact rt_z C hw (Or.inl rfl) dX1_hasLiteral_17
  · replace hf := it_f c1 hf
    refine lv_iload_n hx hb dX1_hasLiteral_4 rfl (lv_at hl 1 rfl) ?_
    refine lv_aload_n hx hb dX1_hasLiteral_5 rfl (lv_at hl 0 rfl) ?_
    refine fg_X1_47 C hw 0 rfl rfl dX1_hasLiteral_6 ?_
    refine lv_icmp_ge (tgt := 16) hx hb dX1_hasLiteral_9 (by decide) (fun c9 => ?_) (fun c9 => ?_)
    · replace hf := it_t c9 hf
      refine lv_iconst (v := 0) hx hb dX1_hasLiteral_16 (by decide) ?_
      cases hf
      exact rt_z C hw (Or.inl rfl) dX1_hasLiteral_17
    · replace hf := it_f c9 hf
      refine lv_iconst (v := 1) hx hb dX1_hasLiteral_12 (by decide) ?_
      refine lv_goto (tgt := 17) hx hb dX1_hasLiteral_13 (by decide) ?_
      cases hf
      exact rt_z C hw (Or.inr rfl) dX1_hasLiteral_17
def f_X1_hasText (p1 : Int32) (pl_literalTypes : Nat → Int32) (pl_literalCount : Int32) : Option ((Int32)) :=
  if p1 < (0 : Int32) then (some (0 : Int32))
  else (if pl_literalCount ≤ p1 then (some (0 : Int32))
  else (rd pl_literalTypes 64 p1 (fun x1 =>
  if x1 = (3 : Int32) then (some (1 : Int32))
  else (some (0 : Int32)))))
set_option maxHeartbeats 4000000 in
set_option maxRecDepth 100000 in
theorem c_X1_hasText (l : Launch) (E : EnvT) (a_pl : Nat → Nat) (pl_items : Nat → Int32) (pl_behindBy : Nat → Int32) (pl_steps : Nat → Int32) (pl_literalTypes : Nat → Int32) (pl_numbers : Nat → Int64) (pl_textStarts : Nat → Int32) (pl_textLengths : Nat → Int32) (pl_textBytes : Nat → Int32) (pl_itemCount : Int32) (pl_byCount : Int32) (pl_stepCount : Int32) (pl_literalCount : Int32) (pl_textEnd : Int32) (p1 : Int32) (r : Int32) (hf : f_X1_hasText p1 pl_literalTypes pl_literalCount = some r) : CI l yX1_hasText (Cond.code yX1_hasText cX1_hasText 2 (some .boolean)) { frames := 0, cells := 0, slots := 0, locals := 0 } E [.ref (a_pl 0), .int p1] (w_pl E a_pl pl_items pl_behindBy pl_steps pl_literalTypes pl_numbers pl_textStarts pl_textLengths pl_textBytes pl_itemCount pl_byCount pl_stepCount pl_literalCount pl_textEnd) r (w_pl E a_pl pl_items pl_behindBy pl_steps pl_literalTypes pl_numbers pl_textStarts pl_textLengths pl_textBytes pl_itemCount pl_byCount pl_stepCount pl_literalCount pl_textEnd) := by
  intro sz
  refine met_start [(0, .ref (a_pl 0)), (1, .int p1)] (by decide) rfl rfl (Nat.le_of_ble_eq_true rfl) rfl ?_
  intro p e s m below meth c ls C hnm hmt hw hl
  have hx := C.1
  have hb := C.2.1
  generalize va_A (w_pl E a_pl pl_items pl_behindBy pl_steps pl_literalTypes pl_numbers pl_textStarts pl_textLengths pl_textBytes pl_itemCount pl_byCount pl_stepCount pl_literalCount pl_textEnd) sz = A at C hw ⊢
  unfold f_X1_hasText at hf
  refine lv_iload_n hx hb dX1_hasText_0 rfl (lv_at hl 1 rfl) ?_
  refine lv_if_lt (tgt := 26) hx hb dX1_hasText_1 (by decide) (fun c1 => ?_) (fun c1 => ?_)
  · replace hf := it_t c1 hf
    refine lv_iconst (v := 0) hx hb dX1_hasText_26 (by decide) ?_
    cases hf
    exact rt_z C hw (Or.inl rfl) dX1_hasText_27
  · replace hf := it_f c1 hf
    refine lv_iload_n hx hb dX1_hasText_4 rfl (lv_at hl 1 rfl) ?_
    refine lv_aload_n hx hb dX1_hasText_5 rfl (lv_at hl 0 rfl) ?_
    refine fg_X1_47 C hw 0 rfl rfl dX1_hasText_6 ?_
    refine lv_icmp_ge (tgt := 26) hx hb dX1_hasText_9 (by decide) (fun c9 => ?_) (fun c9 => ?_)
    · replace hf := it_t c9 hf
      refine lv_iconst (v := 0) hx hb dX1_hasText_26 (by decide) ?_
      cases hf
      exact rt_z C hw (Or.inl rfl) dX1_hasText_27
    · replace hf := it_f c9 hf
      refine lv_aload_n hx hb dX1_hasText_12 rfl (lv_at hl 0 rfl) ?_
      refine fg_X1_21 C hw 0 rfl rfl dX1_hasText_13 ?_
      refine lv_iload_n hx hb dX1_hasText_16 rfl (lv_at hl 1 rfl) ?_
      obtain ⟨x1, ex1, gx1, hf⟩ := rd_el hf
      refine ra_i C hw 4 rfl gx1 dX1_hasText_17 ?_
      refine tp_i ex1 ?_
      refine lv_iconst (v := 3) hx hb dX1_hasText_18 (by decide) ?_
      refine lv_icmp_ne (tgt := 26) hx hb dX1_hasText_19 (by decide) (fun c19 => ?_) (fun c19 => ?_)
      · replace hf := it_f c19 hf
        refine lv_iconst (v := 0) hx hb dX1_hasText_26 (by decide) ?_
        cases hf
        exact rt_z C hw (Or.inl rfl) dX1_hasText_27
      · replace hf := it_t c19 hf
        refine lv_iconst (v := 1) hx hb dX1_hasText_22 (by decide) ?_
        refine lv_goto (tgt := 27) hx hb dX1_hasText_23 (by decide) ?_
        cases hf
        exact rt_z C hw (Or.inr rfl) dX1_hasText_27
