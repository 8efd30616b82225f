def f_X6_isBy_4 : Nat → (Int32) → (Int32) → (Int32) → (Int32) → (Nat → Int32) → (Nat → Int32) → Option ((Int32))
  | 0, _, _, _, _, _, _ => none
  | n + 1, l1, l2, l3, mo_now, mo_many, mo_by =>
  rd mo_many 8 (((4 : Int32) * mo_now) + (1 : Int32)) (fun x1 =>
  if x1 ≤ l3 then (some l2)
  else (if l2 = (0 : Int32) then (rd mo_by 16 (((8 : Int32) * mo_now) + l3) (fun x3 =>
  if x3 = l1 then (on (l3 + (1 : Int32)) (fun x5 =>
  f_X6_isBy_4 n l1 (1 : Int32) x5 mo_now mo_many mo_by))
  else (on (l3 + (1 : Int32)) (fun x4 =>
  f_X6_isBy_4 n l1 (0 : Int32) x4 mo_now mo_many mo_by))))
  else (on (l3 + (1 : Int32)) (fun x2 =>
  f_X6_isBy_4 n l1 (1 : Int32) x2 mo_now mo_many mo_by))))
set_option maxHeartbeats 4000000 in
set_option maxRecDepth 100000 in
theorem w_X6_isBy_4 {p : Program} {l : Launch} {e : Env} {s : State} {m : MethodId} {args : Array Value} {below : List Frame} {meth : Method} {c : Code} {E : EnvT} {A : Nat → Prop} {a_mo : Nat → Nat} {Q : State → Prop} {mo_code : Int32} {mo_tape : Nat → Int32} {mo_text : Nat → Int32} {mo_taped : Int32} {mo_size : Int32} {mo_at : Int32} {mo_ill : Int32} {mo_in : Nat → Int32} {mo_kind : Nat → Int32} {mo_type : Nat → Int32} {mo_long1 : Nat → Int32} {mo_letters : Nat → Int32} {mo_fields : Int32} {mo_kept : Int32} {mo_itemKind : Nat → Int32} {mo_itemField : Nat → Int32} {mo_itemPlace : Nat → Int32} {mo_stepKind : Nat → Int32} {mo_stepField : Nat → Int32} {mo_stepOperator : Nat → Int32} {mo_stepOther : Nat → Int32} {mo_stepMany : Nat → Int32} {mo_literalType : Nat → Int32} {mo_literalFrom : Nat → Int32} {mo_literalSize : Nat → Int32} {mo_bytes : Nat → Int32} {mo_said : Nat → Int32} {mo_number : Nat → Int64} {mo_pile : Nat → Int32} {mo_pilePlace : Nat → Int32} {mo_top : Int32} {mo_open : Int32} {q_l2 : Int32} (C : MC p s m args meth c E A cX6_isBy 4 RX6 (some .boolean)) : ∀ (n : Nat) {l1 : Int32} {l2 : Int32} {l3 : Int32} {mo_now : Int32} {mo_many : Nat → Int32} {mo_by : Nat → Int32} {H : Heap} {locs : List Loc} {ls : Array Slot}, WS E A s (w_mo E a_mo mo_code mo_tape mo_text mo_taped mo_size mo_at mo_ill mo_in mo_kind mo_type mo_long1 mo_letters mo_fields mo_kept mo_now mo_many mo_itemKind mo_itemField mo_itemPlace mo_by mo_stepKind mo_stepField mo_stepOperator mo_stepOther mo_stepMany mo_literalType mo_literalFrom mo_literalSize mo_bytes mo_said mo_number mo_pile mo_pilePlace mo_top mo_open) H locs → lv_has ls 4 [(0, .ref (a_mo 0)), (1, .int l1), (2, .int l2), (3, .int l3)] → f_X6_isBy_4 n l1 l2 l3 mo_now mo_many mo_by = some q_l2 → (∀ (H : Heap) (locs : List Loc) (ls : Array Slot), WS E A s (w_mo E a_mo mo_code mo_tape mo_text mo_taped mo_size mo_at mo_ill mo_in mo_kind mo_type mo_long1 mo_letters mo_fields mo_kept mo_now mo_many mo_itemKind mo_itemField mo_itemPlace mo_by mo_stepKind mo_stepField mo_stepOperator mo_stepOther mo_stepMany mo_literalType mo_literalFrom mo_literalSize mo_bytes mo_said mo_number mo_pile mo_pilePlace mo_top mo_open) H locs → lv_has ls 4 [(2, .int q_l2)] → W p l e { frames := 0, cells := 0, slots := 0, locals := 0 } s m args below meth c H locs 0 0 Q (F0 m 55 ls [])) → W p l e { frames := 0, cells := 0, slots := 0, locals := 0 } s m args below meth c H locs 0 0 Q (F0 m 4 ls []) := by
  have hx := C.1
  have hb := C.2.1
  intro n
  induction n with
  | zero =>
    intro l1 l2 l3 mo_now mo_many mo_by H locs ls hw hl hf kk
    unfold f_X6_isBy_4 at hf
    cases hf
  | succ n ih =>
    intro l1 l2 l3 mo_now mo_many mo_by H locs ls hw hl hf kk
    unfold f_X6_isBy_4 at hf
    refine lv_iload_n hx hb dX6_isBy_4 rfl (lv_at hl 3 rfl) ?_
    refine lv_aload_n hx hb dX6_isBy_5 rfl (lv_at hl 0 rfl) ?_
    refine fg_X6_35 C hw 0 rfl rfl dX6_isBy_6 ?_
    refine lv_iconst (v := 4) hx hb dX6_isBy_9 (by decide) ?_
    refine lv_aload_n hx hb dX6_isBy_10 rfl (lv_at hl 0 rfl) ?_
    refine fg_X6_189 C hw 0 rfl rfl dX6_isBy_11 ?_
    refine lv_imul hx hb dX6_isBy_14 ?_
    refine lv_iconst (v := 1) hx hb dX6_isBy_15 (by decide) ?_
    refine lv_iadd hx hb dX6_isBy_16 ?_
    obtain ⟨x1, ex1, gx1, hf⟩ := rd_el hf
    refine ra_i C hw 8 rfl gx1 dX6_isBy_17 ?_
    refine tp_i ex1 ?_
    refine lv_icmp_ge (tgt := 55) hx hb dX6_isBy_18 (by decide) (fun c18 => ?_) (fun c18 => ?_)
    · replace hf := it_t c18 hf
      cases hf
      exact kk _ _ _ hw (lv_sub hl [2] rfl)
    · replace hf := it_f c18 hf
      refine lv_iload_n hx hb dX6_isBy_21 rfl (lv_at hl 2 rfl) ?_
      refine lv_if_ne (tgt := 43) hx hb dX6_isBy_22 (by decide) (fun c22 => ?_) (fun c22 => ?_)
      · replace hf := it_f c22 hf
        refine lv_iconst (v := 1) hx hb dX6_isBy_43 (by decide) ?_
        refine lv_goto (tgt := 48) hx hb dX6_isBy_44 (by decide) ?_
        refine lv_istore_n (lv' := [(2, .int (1 : Int32)), (0, .ref (a_mo 0)), (1, .int l1), (3, .int l3)]) hx hb dX6_isBy_48 rfl hl (by decide) rfl (fun ls hl => ?_)
        obtain ⟨x2, ex2, hf⟩ := on_el hf
        refine lv_iinc (v := x2) (lv' := [(3, .int x2), (2, .int (1 : Int32)), (0, .ref (a_mo 0)), (1, .int l1)]) hx hb dX6_isBy_49 hl (k := 3) rfl (by rw [← ex2]; rfl) (by decide) rfl (fun ls hl => ?_)
        refine lv_goto (tgt := 4) hx hb dX6_isBy_52 (by decide) ?_
        exact ih hw (lv_sub hl [2, 3, 1, 0] rfl) hf kk
      · replace hf := it_t c22 hf
        refine lv_aload_n hx hb dX6_isBy_25 rfl (lv_at hl 0 rfl) ?_
        refine fg_X6_47 C hw 0 rfl rfl dX6_isBy_26 ?_
        refine lv_bipush (v := 8) hx hb dX6_isBy_29 (by decide) ?_
        refine lv_aload_n hx hb dX6_isBy_31 rfl (lv_at hl 0 rfl) ?_
        refine fg_X6_189 C hw 0 rfl rfl dX6_isBy_32 ?_
        refine lv_imul hx hb dX6_isBy_35 ?_
        refine lv_iload_n hx hb dX6_isBy_36 rfl (lv_at hl 3 rfl) ?_
        refine lv_iadd hx hb dX6_isBy_37 ?_
        obtain ⟨x3, ex3, gx3, hf⟩ := rd_el hf
        refine ra_i C hw 12 rfl gx3 dX6_isBy_38 ?_
        refine tp_i ex3 ?_
        refine lv_iload_n hx hb dX6_isBy_39 rfl (lv_at hl 1 rfl) ?_
        refine lv_icmp_ne (tgt := 47) hx hb dX6_isBy_40 (by decide) (fun c40 => ?_) (fun c40 => ?_)
        · replace hf := it_f c40 hf
          refine lv_iconst (v := 0) hx hb dX6_isBy_47 (by decide) ?_
          refine lv_istore_n (lv' := [(2, .int (0 : Int32)), (0, .ref (a_mo 0)), (1, .int l1), (3, .int l3)]) hx hb dX6_isBy_48 rfl hl (by decide) rfl (fun ls hl => ?_)
          obtain ⟨x4, ex4, hf⟩ := on_el hf
          refine lv_iinc (v := x4) (lv' := [(3, .int x4), (2, .int (0 : Int32)), (0, .ref (a_mo 0)), (1, .int l1)]) hx hb dX6_isBy_49 hl (k := 3) rfl (by rw [← ex4]; rfl) (by decide) rfl (fun ls hl => ?_)
          refine lv_goto (tgt := 4) hx hb dX6_isBy_52 (by decide) ?_
          exact ih hw (lv_sub hl [2, 3, 1, 0] rfl) hf kk
        · replace hf := it_t c40 hf
          refine lv_iconst (v := 1) hx hb dX6_isBy_43 (by decide) ?_
          refine lv_goto (tgt := 48) hx hb dX6_isBy_44 (by decide) ?_
          refine lv_istore_n (lv' := [(2, .int (1 : Int32)), (0, .ref (a_mo 0)), (1, .int l1), (3, .int l3)]) hx hb dX6_isBy_48 rfl hl (by decide) rfl (fun ls hl => ?_)
          obtain ⟨x5, ex5, hf⟩ := on_el hf
          refine lv_iinc (v := x5) (lv' := [(3, .int x5), (2, .int (1 : Int32)), (0, .ref (a_mo 0)), (1, .int l1)]) hx hb dX6_isBy_49 hl (k := 3) rfl (by rw [← ex5]; rfl) (by decide) rfl (fun ls hl => ?_)
          refine lv_goto (tgt := 4) hx hb dX6_isBy_52 (by decide) ?_
          exact ih hw (lv_sub hl [2, 3, 1, 0] rfl) hf kk
def f_X6_isBy (p1 : Int32) (mo_now : Int32) (mo_many : Nat → Int32) (mo_by : Nat → Int32) : Option ((Int32)) :=
  ob1 (f_X6_isBy_4 FU p1 (0 : Int32) (0 : Int32) mo_now mo_many mo_by) (fun x1 =>
  gz x1 (some x1))
set_option maxHeartbeats 4000000 in
set_option maxRecDepth 100000 in
theorem c_X6_isBy (l : Launch) (E : EnvT) (a_mo : Nat → Nat) (mo_code : Int32) (mo_tape : Nat → Int32) (mo_text : Nat → Int32) (mo_taped : Int32) (mo_size : Int32) (mo_at : Int32) (mo_ill : Int32) (mo_in : Nat → Int32) (mo_kind : Nat → Int32) (mo_type : Nat → Int32) (mo_long1 : Nat → Int32) (mo_letters : Nat → Int32) (mo_fields : Int32) (mo_kept : Int32) (mo_now : Int32) (mo_many : Nat → Int32) (mo_itemKind : Nat → Int32) (mo_itemField : Nat → Int32) (mo_itemPlace : Nat → Int32) (mo_by : Nat → Int32) (mo_stepKind : Nat → Int32) (mo_stepField : Nat → Int32) (mo_stepOperator : Nat → Int32) (mo_stepOther : Nat → Int32) (mo_stepMany : Nat → Int32) (mo_literalType : Nat → Int32) (mo_literalFrom : Nat → Int32) (mo_literalSize : Nat → Int32) (mo_bytes : Nat → Int32) (mo_said : Nat → Int32) (mo_number : Nat → Int64) (mo_pile : Nat → Int32) (mo_pilePlace : Nat → Int32) (mo_top : Int32) (mo_open : Int32) (p1 : Int32) (r : Int32) (hf : f_X6_isBy p1 mo_now mo_many mo_by = some r) : CI l yX6_isBy (Cond.code yX6_isBy cX6_isBy 4 (some .boolean)) { frames := 0, cells := 0, slots := 0, locals := 0 } E [.ref (a_mo 0), .int p1] (w_mo E a_mo mo_code mo_tape mo_text mo_taped mo_size mo_at mo_ill mo_in mo_kind mo_type mo_long1 mo_letters mo_fields mo_kept mo_now mo_many mo_itemKind mo_itemField mo_itemPlace mo_by mo_stepKind mo_stepField mo_stepOperator mo_stepOther mo_stepMany mo_literalType mo_literalFrom mo_literalSize mo_bytes mo_said mo_number mo_pile mo_pilePlace mo_top mo_open) r (w_mo E a_mo mo_code mo_tape mo_text mo_taped mo_size mo_at mo_ill mo_in mo_kind mo_type mo_long1 mo_letters mo_fields mo_kept mo_now mo_many mo_itemKind mo_itemField mo_itemPlace mo_by mo_stepKind mo_stepField mo_stepOperator mo_stepOther mo_stepMany mo_literalType mo_literalFrom mo_literalSize mo_bytes mo_said mo_number mo_pile mo_pilePlace mo_top mo_open) := by
  intro sz
  refine met_start [(0, .ref (a_mo 0)), (1, .int p1)] (by decide) rfl rfl (Nat.le_of_ble_eq_true rfl) rfl ?_
  intro p e s m below meth c ls C hnm hmt hw hl
  have hx := C.1
  have hb := C.2.1
  generalize va_A (w_mo E a_mo mo_code mo_tape mo_text mo_taped mo_size mo_at mo_ill mo_in mo_kind mo_type mo_long1 mo_letters mo_fields mo_kept mo_now mo_many mo_itemKind mo_itemField mo_itemPlace mo_by mo_stepKind mo_stepField mo_stepOperator mo_stepOther mo_stepMany mo_literalType mo_literalFrom mo_literalSize mo_bytes mo_said mo_number mo_pile mo_pilePlace mo_top mo_open) sz = A at C hw ⊢
  unfold f_X6_isBy at hf
  refine lv_iconst (v := 0) hx hb dX6_isBy_0 (by decide) ?_
  refine lv_istore_n (lv' := [(2, .int (0 : Int32)), (0, .ref (a_mo 0)), (1, .int p1)]) hx hb dX6_isBy_1 rfl hl (by decide) rfl (fun ls hl => ?_)
  refine lv_iconst (v := 0) hx hb dX6_isBy_2 (by decide) ?_
  refine lv_istore_n (lv' := [(3, .int (0 : Int32)), (2, .int (0 : Int32)), (0, .ref (a_mo 0)), (1, .int p1)]) hx hb dX6_isBy_3 rfl hl (by decide) rfl (fun ls hl => ?_)
  obtain ⟨x1, hx1, hf⟩ := ob1_el hf
  refine w_X6_isBy_4 C FU hw (lv_sub hl [2, 3, 1, 0] rfl) hx1 ?_
  clear hw hl
  intro H locs ls hw hl
  refine lv_iload_n hx hb dX6_isBy_55 rfl (lv_at hl 0 rfl) ?_
  obtain ⟨hz, hf⟩ := gz_el hf
  cases hf
  exact rt_z C hw hz dX6_isBy_56
def f_X6_readBy_58 (l2 : Int32) (mo_at : Int32) (mo_ill : Int32) (mo_now : Int32) (mo_many : Nat → Int32) (mo_by : Nat → Int32) : Option ((Int32) × (Int32) × (Nat → Int32) × (Nat → Int32)) :=
  if mo_ill = (-1 : Int32) then (rd mo_many 8 (((4 : Int32) * mo_now) + (1 : Int32)) (fun x1 =>
  wr mo_by 16 (((8 : Int32) * mo_now) + x1) l2 (fun x2 =>
  on (((4 : Int32) * mo_now) + (1 : Int32)) (fun x3 =>
  rd mo_many 8 x3 (fun x4 =>
  on (x4 + (1 : Int32)) (fun x5 =>
  wr mo_many 8 x3 x5 (fun x6 =>
  some (mo_at, mo_ill, x6, x2))))))))
  else (some (mo_at, mo_ill, mo_many, mo_by))
set_option maxHeartbeats 4000000 in
set_option maxRecDepth 100000 in
theorem w_X6_readBy_58 {p : Program} {l : Launch} {e : Env} {s : State} {m : MethodId} {args : Array Value} {below : List Frame} {meth : Method} {c : Code} {E : EnvT} {A : Nat → Prop} {a_mo : Nat → Nat} {mo_code : Int32} {mo_tape : Nat → Int32} {mo_text : Nat → Int32} {mo_taped : Int32} {mo_size : Int32} {mo_in : Nat → Int32} {mo_kind : Nat → Int32} {mo_type : Nat → Int32} {mo_long1 : Nat → Int32} {mo_letters : Nat → Int32} {mo_fields : Int32} {mo_kept : Int32} {mo_itemKind : Nat → Int32} {mo_itemField : Nat → Int32} {mo_itemPlace : Nat → Int32} {mo_stepKind : Nat → Int32} {mo_stepField : Nat → Int32} {mo_stepOperator : Nat → Int32} {mo_stepOther : Nat → Int32} {mo_stepMany : Nat → Int32} {mo_literalType : Nat → Int32} {mo_literalFrom : Nat → Int32} {mo_literalSize : Nat → Int32} {mo_bytes : Nat → Int32} {mo_said : Nat → Int32} {mo_number : Nat → Int64} {mo_pile : Nat → Int32} {mo_pilePlace : Nat → Int32} {mo_top : Int32} {mo_open : Int32} {o_mo_at : Int32} {o_mo_ill : Int32} {o_mo_many : Nat → Int32} {o_mo_by : Nat → Int32} {l2 : Int32} {mo_at : Int32} {mo_ill : Int32} {mo_now : Int32} {mo_many : Nat → Int32} {mo_by : Nat → Int32} {H : Heap} {locs : List Loc} {ls : Array Slot} (C : MC p s m args meth c E A cX6_readBy 3 RX6 none) (hw : WS E A s (w_mo E a_mo mo_code mo_tape mo_text mo_taped mo_size mo_at mo_ill mo_in mo_kind mo_type mo_long1 mo_letters mo_fields mo_kept mo_now mo_many mo_itemKind mo_itemField mo_itemPlace mo_by mo_stepKind mo_stepField mo_stepOperator mo_stepOther mo_stepMany mo_literalType mo_literalFrom mo_literalSize mo_bytes mo_said mo_number mo_pile mo_pilePlace mo_top mo_open) H locs) (hl : lv_has ls 3 [(0, .ref (a_mo 0)), (2, .int l2)]) (hf : f_X6_readBy_58 l2 mo_at mo_ill mo_now mo_many mo_by = some (o_mo_at, o_mo_ill, o_mo_many, o_mo_by)) : W p l e { frames := 5, cells := 0, slots := 0, locals := 112 } s m args below meth c H locs 0 0 (MQ below (QcV E A (w_mo E a_mo mo_code mo_tape mo_text mo_taped mo_size o_mo_at o_mo_ill mo_in mo_kind mo_type mo_long1 mo_letters mo_fields mo_kept mo_now o_mo_many mo_itemKind mo_itemField mo_itemPlace o_mo_by mo_stepKind mo_stepField mo_stepOperator mo_stepOther mo_stepMany mo_literalType mo_literalFrom mo_literalSize mo_bytes mo_said mo_number mo_pile mo_pilePlace mo_top mo_open)) args s 0 0 A) (F0 m 58 ls []) := by
  have hx := C.1
  have hb := C.2.1
  unfold f_X6_readBy_58 at hf
  refine lv_aload_n hx hb dX6_readBy_58 rfl (lv_at hl 0 rfl) ?_
  refine fg_X6_102 C hw 0 rfl rfl dX6_readBy_59 ?_
  refine lv_iconst (v := -1) hx hb dX6_readBy_62 (by decide) ?_
  refine lv_icmp_eq (tgt := 67) hx hb dX6_readBy_63 (by decide) (fun c63 => ?_) (fun c63 => ?_)
  · replace hf := it_t c63 hf
    refine lv_aload_n hx hb dX6_readBy_67 rfl (lv_at hl 0 rfl) ?_
    refine fg_X6_47 C hw 0 rfl rfl dX6_readBy_68 ?_
    refine lv_bipush (v := 8) hx hb dX6_readBy_71 (by decide) ?_
    refine lv_aload_n hx hb dX6_readBy_73 rfl (lv_at hl 0 rfl) ?_
    refine fg_X6_189 C hw 0 rfl rfl dX6_readBy_74 ?_
    refine lv_imul hx hb dX6_readBy_77 ?_
    refine lv_aload_n hx hb dX6_readBy_78 rfl (lv_at hl 0 rfl) ?_
    refine fg_X6_35 C hw 0 rfl rfl dX6_readBy_79 ?_
    refine lv_iconst (v := 4) hx hb dX6_readBy_82 (by decide) ?_
    refine lv_aload_n hx hb dX6_readBy_83 rfl (lv_at hl 0 rfl) ?_
    refine fg_X6_189 C hw 0 rfl rfl dX6_readBy_84 ?_
    refine lv_imul hx hb dX6_readBy_87 ?_
    refine lv_iconst (v := 1) hx hb dX6_readBy_88 (by decide) ?_
    refine lv_iadd hx hb dX6_readBy_89 ?_
    obtain ⟨x1, ex1, gx1, hf⟩ := rd_el hf
    refine ra_i C hw 8 rfl gx1 dX6_readBy_90 ?_
    refine tp_i ex1 ?_
    refine lv_iadd hx hb dX6_readBy_91 ?_
    refine lv_iload_n hx hb dX6_readBy_92 rfl (lv_at hl 1 rfl) ?_
    obtain ⟨x2, ex2, gx2, hf⟩ := wr_el hf
    refine rs_i C hw 12 rfl gx2 (ws' := w_mo E a_mo mo_code mo_tape mo_text mo_taped mo_size mo_at mo_ill mo_in mo_kind mo_type mo_long1 mo_letters mo_fields mo_kept mo_now mo_many mo_itemKind mo_itemField mo_itemPlace x2 mo_stepKind mo_stepField mo_stepOperator mo_stepOther mo_stepMany mo_literalType mo_literalFrom mo_literalSize mo_bytes mo_said mo_number mo_pile mo_pilePlace mo_top mo_open) (by subst ex2; rfl) dX6_readBy_93 (fun H locs hw => ?_)
    refine lv_aload_n hx hb dX6_readBy_94 rfl (lv_at hl 0 rfl) ?_
    refine fg_X6_35 C hw 0 rfl rfl dX6_readBy_95 ?_
    refine lv_iconst (v := 4) hx hb dX6_readBy_98 (by decide) ?_
    refine lv_aload_n hx hb dX6_readBy_99 rfl (lv_at hl 0 rfl) ?_
    refine fg_X6_189 C hw 0 rfl rfl dX6_readBy_100 ?_
    refine lv_imul hx hb dX6_readBy_103 ?_
    refine lv_iconst (v := 1) hx hb dX6_readBy_104 (by decide) ?_
    refine lv_iadd hx hb dX6_readBy_105 ?_
    obtain ⟨x3, ex3, hf⟩ := on_el hf
    refine tp_i ex3 ?_
    refine lv_dup2_11 hx hb dX6_readBy_106 rfl rfl ?_
    obtain ⟨x4, ex4, gx4, hf⟩ := rd_el hf
    refine ra_i C hw 8 rfl gx4 dX6_readBy_107 ?_
    refine tp_i ex4 ?_
    refine lv_iconst (v := 1) hx hb dX6_readBy_108 (by decide) ?_
    refine lv_iadd hx hb dX6_readBy_109 ?_
    obtain ⟨x5, ex5, hf⟩ := on_el hf
    refine tp_i ex5 ?_
    obtain ⟨x6, ex6, gx6, hf⟩ := wr_el hf
    refine rs_i C hw 8 rfl gx6 (ws' := w_mo E a_mo mo_code mo_tape mo_text mo_taped mo_size mo_at mo_ill mo_in mo_kind mo_type mo_long1 mo_letters mo_fields mo_kept mo_now x6 mo_itemKind mo_itemField mo_itemPlace x2 mo_stepKind mo_stepField mo_stepOperator mo_stepOther mo_stepMany mo_literalType mo_literalFrom mo_literalSize mo_bytes mo_said mo_number mo_pile mo_pilePlace mo_top mo_open) (by subst ex6; rfl) dX6_readBy_110 (fun H locs hw => ?_)
    cases hf
    exact rt_v C hw dX6_readBy_111
  · replace hf := it_f c63 hf
    cases hf
    exact rt_v C hw dX6_readBy_66
def f_X6_readBy_32 (l1 : Int32) (mo_text : Nat → Int32) (mo_size : Int32) (mo_at : Int32) (mo_ill : Int32) (mo_in : Nat → Int32) (mo_kind : Nat → Int32) (mo_type : Nat → Int32) (mo_long1 : Nat → Int32) (mo_letters : Nat → Int32) (mo_fields : Int32) (mo_now : Int32) (mo_many : Nat → Int32) (mo_by : Nat → Int32) : Option ((Int32) × (Int32) × (Nat → Int32) × (Nat → Int32)) :=
  ob3 (f_X6_column mo_text mo_size mo_at mo_ill mo_in mo_kind mo_type mo_long1 mo_letters mo_fields) (fun x1 x2 x3 =>
  if x3 = (-1 : Int32) then (ob1 (f_X6_isBy x1 mo_now mo_many mo_by) (fun x4 =>
  if x4 = (0 : Int32) then (f_X6_readBy_58 x1 x2 x3 mo_now mo_many mo_by)
  else (ob1 (f_X6_fail l1 x3) (fun x5 =>
  f_X6_readBy_58 x1 x2 x5 mo_now mo_many mo_by))))
  else (f_X6_readBy_58 x1 x2 x3 mo_now mo_many mo_by))
set_option maxHeartbeats 4000000 in
set_option maxRecDepth 100000 in
theorem w_X6_readBy_32 {p : Program} {l : Launch} {e : Env} {s : State} {m : MethodId} {args : Array Value} {below : List Frame} {meth : Method} {c : Code} {E : EnvT} {A : Nat → Prop} {a_mo : Nat → Nat} {mo_code : Int32} {mo_tape : Nat → Int32} {mo_taped : Int32} {mo_kept : Int32} {mo_itemKind : Nat → Int32} {mo_itemField : Nat → Int32} {mo_itemPlace : Nat → Int32} {mo_stepKind : Nat → Int32} {mo_stepField : Nat → Int32} {mo_stepOperator : Nat → Int32} {mo_stepOther : Nat → Int32} {mo_stepMany : Nat → Int32} {mo_literalType : Nat → Int32} {mo_literalFrom : Nat → Int32} {mo_literalSize : Nat → Int32} {mo_bytes : Nat → Int32} {mo_said : Nat → Int32} {mo_number : Nat → Int64} {mo_pile : Nat → Int32} {mo_pilePlace : Nat → Int32} {mo_top : Int32} {mo_open : Int32} {o_mo_at : Int32} {o_mo_ill : Int32} {o_mo_many : Nat → Int32} {o_mo_by : Nat → Int32} {l1 : Int32} {mo_text : Nat → Int32} {mo_size : Int32} {mo_at : Int32} {mo_ill : Int32} {mo_in : Nat → Int32} {mo_kind : Nat → Int32} {mo_type : Nat → Int32} {mo_long1 : Nat → Int32} {mo_letters : Nat → Int32} {mo_fields : Int32} {mo_now : Int32} {mo_many : Nat → Int32} {mo_by : Nat → Int32} {H : Heap} {locs : List Loc} {ls : Array Slot} (C : MC p s m args meth c E A cX6_readBy 3 RX6 none) (hw : WS E A s (w_mo E a_mo mo_code mo_tape mo_text mo_taped mo_size mo_at mo_ill mo_in mo_kind mo_type mo_long1 mo_letters mo_fields mo_kept mo_now mo_many mo_itemKind mo_itemField mo_itemPlace mo_by mo_stepKind mo_stepField mo_stepOperator mo_stepOther mo_stepMany mo_literalType mo_literalFrom mo_literalSize mo_bytes mo_said mo_number mo_pile mo_pilePlace mo_top mo_open) H locs) (hl : lv_has ls 3 [(0, .ref (a_mo 0)), (1, .int l1)]) (hf : f_X6_readBy_32 l1 mo_text mo_size mo_at mo_ill mo_in mo_kind mo_type mo_long1 mo_letters mo_fields mo_now mo_many mo_by = some (o_mo_at, o_mo_ill, o_mo_many, o_mo_by)) : W p l e { frames := 5, cells := 0, slots := 0, locals := 112 } s m args below meth c H locs 0 0 (MQ below (QcV E A (w_mo E a_mo mo_code mo_tape mo_text mo_taped mo_size o_mo_at o_mo_ill mo_in mo_kind mo_type mo_long1 mo_letters mo_fields mo_kept mo_now o_mo_many mo_itemKind mo_itemField mo_itemPlace o_mo_by mo_stepKind mo_stepField mo_stepOperator mo_stepOther mo_stepMany mo_literalType mo_literalFrom mo_literalSize mo_bytes mo_said mo_number mo_pile mo_pilePlace mo_top mo_open)) args s 0 0 A) (F0 m 32 ls []) := by
  have hx := C.1
  have hb := C.2.1
  unfold f_X6_readBy_32 at hf
  refine lv_aload_n hx hb dX6_readBy_32 rfl (lv_at hl 0 rfl) ?_
  obtain ⟨x1, x2, x3, z3, hf⟩ := ob3_el hf
  refine cI_V C hw (c_X6_column l E a_mo mo_code mo_tape mo_text mo_taped mo_size mo_at mo_ill mo_in mo_kind mo_type mo_long1 mo_letters mo_fields mo_kept mo_now mo_many mo_itemKind mo_itemField mo_itemPlace mo_by mo_stepKind mo_stepField mo_stepOperator mo_stepOther mo_stepMany mo_literalType mo_literalFrom mo_literalSize mo_bytes mo_said mo_number mo_pile mo_pilePlace mo_top mo_open x1 x2 x3 z3) cs_X6_198 ⟨Nat.le_of_ble_eq_true rfl, Nat.le_of_ble_eq_true rfl⟩ ⟨rfl, rfl⟩ (ci := 6) (cn := (RX6, TX6, 35)) rfl (q0 := 0) rfl (wn := w_mo E a_mo mo_code mo_tape mo_text mo_taped mo_size x2 x3 mo_in mo_kind mo_type mo_long1 mo_letters mo_fields mo_kept mo_now mo_many mo_itemKind mo_itemField mo_itemPlace mo_by mo_stepKind mo_stepField mo_stepOperator mo_stepOther mo_stepMany mo_literalType mo_literalFrom mo_literalSize mo_bytes mo_said mo_number mo_pile mo_pilePlace mo_top mo_open) (Jn.all _ _) rfl hl.1 rfl (Nat.le_of_ble_eq_true rfl) dX6_readBy_33 ⟨Nat.zero_le _, Nat.zero_le _⟩ (fun H locs hw => ?_)
  refine lv_istore_n (lv' := [(2, .int x1), (0, .ref (a_mo 0)), (1, .int l1)]) hx hb dX6_readBy_36 rfl hl (by decide) rfl (fun ls hl => ?_)
  refine lv_aload_n hx hb dX6_readBy_37 rfl (lv_at hl 1 rfl) ?_
  refine fg_X6_102 C hw 0 rfl rfl dX6_readBy_38 ?_
  refine lv_iconst (v := -1) hx hb dX6_readBy_41 (by decide) ?_
  refine lv_icmp_ne (tgt := 58) hx hb dX6_readBy_42 (by decide) (fun c42 => ?_) (fun c42 => ?_)
  · replace hf := it_f c42 hf
    exact w_X6_readBy_58 C hw (lv_sub hl [1, 0] rfl) hf
  · replace hf := it_t c42 hf
    refine lv_aload_n hx hb dX6_readBy_45 rfl (lv_at hl 1 rfl) ?_
    refine lv_iload_n hx hb dX6_readBy_46 rfl (lv_at hl 0 rfl) ?_
    obtain ⟨x4, z4, hf⟩ := ob1_el hf
    refine cI_V C hw (c_X6_isBy l E a_mo mo_code mo_tape mo_text mo_taped mo_size x2 x3 mo_in mo_kind mo_type mo_long1 mo_letters mo_fields mo_kept mo_now mo_many mo_itemKind mo_itemField mo_itemPlace mo_by mo_stepKind mo_stepField mo_stepOperator mo_stepOther mo_stepMany mo_literalType mo_literalFrom mo_literalSize mo_bytes mo_said mo_number mo_pile mo_pilePlace mo_top mo_open x1 x4 z4) cs_X6_204 ⟨Nat.le_of_ble_eq_true rfl, Nat.le_of_ble_eq_true rfl⟩ ⟨rfl, rfl⟩ (ci := 6) (cn := (RX6, TX6, 35)) rfl (q0 := 0) rfl (wn := w_mo E a_mo mo_code mo_tape mo_text mo_taped mo_size x2 x3 mo_in mo_kind mo_type mo_long1 mo_letters mo_fields mo_kept mo_now mo_many mo_itemKind mo_itemField mo_itemPlace mo_by mo_stepKind mo_stepField mo_stepOperator mo_stepOther mo_stepMany mo_literalType mo_literalFrom mo_literalSize mo_bytes mo_said mo_number mo_pile mo_pilePlace mo_top mo_open) (Jn.all _ _) rfl hl.1 rfl (Nat.le_of_ble_eq_true rfl) dX6_readBy_47 ⟨Nat.zero_le _, Nat.zero_le _⟩ (fun H locs hw => ?_)
    refine lv_if_eq (tgt := 58) hx hb dX6_readBy_50 (by decide) (fun c50 => ?_) (fun c50 => ?_)
    · replace hf := it_t c50 hf
      exact w_X6_readBy_58 C hw (lv_sub hl [1, 0] rfl) hf
    · replace hf := it_f c50 hf
      refine lv_aload_n hx hb dX6_readBy_53 rfl (lv_at hl 1 rfl) ?_
      refine lv_iload_n hx hb dX6_readBy_54 rfl (lv_at hl 2 rfl) ?_
      obtain ⟨x5, z5, hf⟩ := ob1_el hf
      refine cV_V C hw (c_X6_fail l E a_mo mo_code mo_tape mo_text mo_taped mo_size x2 x3 mo_in mo_kind mo_type mo_long1 mo_letters mo_fields mo_kept mo_now mo_many mo_itemKind mo_itemField mo_itemPlace mo_by mo_stepKind mo_stepField mo_stepOperator mo_stepOther mo_stepMany mo_literalType mo_literalFrom mo_literalSize mo_bytes mo_said mo_number mo_pile mo_pilePlace mo_top mo_open l1 x5 z5) cs_X6_144 ⟨Nat.le_of_ble_eq_true rfl, Nat.le_of_ble_eq_true rfl⟩ ⟨rfl, rfl⟩ (ci := 6) (cn := (RX6, TX6, 35)) rfl (q0 := 0) rfl (wn := w_mo E a_mo mo_code mo_tape mo_text mo_taped mo_size x2 x5 mo_in mo_kind mo_type mo_long1 mo_letters mo_fields mo_kept mo_now mo_many mo_itemKind mo_itemField mo_itemPlace mo_by mo_stepKind mo_stepField mo_stepOperator mo_stepOther mo_stepMany mo_literalType mo_literalFrom mo_literalSize mo_bytes mo_said mo_number mo_pile mo_pilePlace mo_top mo_open) (Jn.all _ _) rfl hl.1 rfl (Nat.le_of_ble_eq_true rfl) dX6_readBy_55 ⟨Nat.zero_le _, Nat.zero_le _⟩ (fun H locs hw => ?_)
      exact w_X6_readBy_58 C hw (lv_sub hl [1, 0] rfl) hf
def f_X6_readBy (mo_text : Nat → Int32) (mo_size : Int32) (mo_at : Int32) (mo_ill : Int32) (mo_in : Nat → Int32) (mo_kind : Nat → Int32) (mo_type : Nat → Int32) (mo_long1 : Nat → Int32) (mo_letters : Nat → Int32) (mo_fields : Int32) (mo_now : Int32) (mo_many : Nat → Int32) (mo_by : Nat → Int32) : Option ((Int32) × (Int32) × (Nat → Int32) × (Nat → Int32)) :=
  ob1 (f_X6_blanks mo_text mo_size mo_at) (fun x1 =>
  rd mo_many 8 (((4 : Int32) * mo_now) + (1 : Int32)) (fun x2 =>
  if x2 = (8 : Int32) then (ob1 (f_X6_fail x1 mo_ill) (fun x3 =>
  f_X6_readBy_32 x1 mo_text mo_size x1 x3 mo_in mo_kind mo_type mo_long1 mo_letters mo_fields mo_now mo_many mo_by))
  else (f_X6_readBy_32 x1 mo_text mo_size x1 mo_ill mo_in mo_kind mo_type mo_long1 mo_letters mo_fields mo_now mo_many mo_by)))
set_option maxHeartbeats 4000000 in
set_option maxRecDepth 100000 in
theorem c_X6_readBy (l : Launch) (E : EnvT) (a_mo : Nat → Nat) (mo_code : Int32) (mo_tape : Nat → Int32) (mo_text : Nat → Int32) (mo_taped : Int32) (mo_size : Int32) (mo_at : Int32) (mo_ill : Int32) (mo_in : Nat → Int32) (mo_kind : Nat → Int32) (mo_type : Nat → Int32) (mo_long1 : Nat → Int32) (mo_letters : Nat → Int32) (mo_fields : Int32) (mo_kept : Int32) (mo_now : Int32) (mo_many : Nat → Int32) (mo_itemKind : Nat → Int32) (mo_itemField : Nat → Int32) (mo_itemPlace : Nat → Int32) (mo_by : Nat → Int32) (mo_stepKind : Nat → Int32) (mo_stepField : Nat → Int32) (mo_stepOperator : Nat → Int32) (mo_stepOther : Nat → Int32) (mo_stepMany : Nat → Int32) (mo_literalType : Nat → Int32) (mo_literalFrom : Nat → Int32) (mo_literalSize : Nat → Int32) (mo_bytes : Nat → Int32) (mo_said : Nat → Int32) (mo_number : Nat → Int64) (mo_pile : Nat → Int32) (mo_pilePlace : Nat → Int32) (mo_top : Int32) (mo_open : Int32) (o_mo_at : Int32) (o_mo_ill : Int32) (o_mo_many : Nat → Int32) (o_mo_by : Nat → Int32) (hf : f_X6_readBy mo_text mo_size mo_at mo_ill mo_in mo_kind mo_type mo_long1 mo_letters mo_fields mo_now mo_many mo_by = some (o_mo_at, o_mo_ill, o_mo_many, o_mo_by)) : CV l yX6_readBy (Cond.code yX6_readBy cX6_readBy 3 none) { frames := 5, cells := 0, slots := 0, locals := 112 } E [.ref (a_mo 0)] (w_mo E a_mo mo_code mo_tape mo_text mo_taped mo_size mo_at mo_ill mo_in mo_kind mo_type mo_long1 mo_letters mo_fields mo_kept mo_now mo_many mo_itemKind mo_itemField mo_itemPlace mo_by mo_stepKind mo_stepField mo_stepOperator mo_stepOther mo_stepMany mo_literalType mo_literalFrom mo_literalSize mo_bytes mo_said mo_number mo_pile mo_pilePlace mo_top mo_open) (w_mo E a_mo mo_code mo_tape mo_text mo_taped mo_size o_mo_at o_mo_ill mo_in mo_kind mo_type mo_long1 mo_letters mo_fields mo_kept mo_now o_mo_many mo_itemKind mo_itemField mo_itemPlace o_mo_by mo_stepKind mo_stepField mo_stepOperator mo_stepOther mo_stepMany mo_literalType mo_literalFrom mo_literalSize mo_bytes mo_said mo_number mo_pile mo_pilePlace mo_top mo_open) := by
  intro sz
  refine met_start [(0, .ref (a_mo 0))] (by decide) rfl rfl (Nat.le_of_ble_eq_true rfl) rfl ?_
  intro p e s m below meth c ls C hnm hmt hw hl
  have hx := C.1
  have hb := C.2.1
  generalize va_A (w_mo E a_mo mo_code mo_tape mo_text mo_taped mo_size mo_at mo_ill mo_in mo_kind mo_type mo_long1 mo_letters mo_fields mo_kept mo_now mo_many mo_itemKind mo_itemField mo_itemPlace mo_by mo_stepKind mo_stepField mo_stepOperator mo_stepOther mo_stepMany mo_literalType mo_literalFrom mo_literalSize mo_bytes mo_said mo_number mo_pile mo_pilePlace mo_top mo_open) sz = A at C hw ⊢
  unfold f_X6_readBy at hf
  refine lv_aload_n hx hb dX6_readBy_0 rfl (lv_at hl 0 rfl) ?_
  obtain ⟨x1, z1, hf⟩ := ob1_el hf
  refine cV_V C hw (c_X6_blanks l E a_mo mo_code mo_tape mo_text mo_taped mo_size mo_at mo_ill mo_in mo_kind mo_type mo_long1 mo_letters mo_fields mo_kept mo_now mo_many mo_itemKind mo_itemField mo_itemPlace mo_by mo_stepKind mo_stepField mo_stepOperator mo_stepOther mo_stepMany mo_literalType mo_literalFrom mo_literalSize mo_bytes mo_said mo_number mo_pile mo_pilePlace mo_top mo_open x1 z1) cs_X6_130 ⟨Nat.le_of_ble_eq_true rfl, Nat.le_of_ble_eq_true rfl⟩ ⟨rfl, rfl⟩ (ci := 6) (cn := (RX6, TX6, 35)) rfl (q0 := 0) rfl (wn := w_mo E a_mo mo_code mo_tape mo_text mo_taped mo_size x1 mo_ill mo_in mo_kind mo_type mo_long1 mo_letters mo_fields mo_kept mo_now mo_many mo_itemKind mo_itemField mo_itemPlace mo_by mo_stepKind mo_stepField mo_stepOperator mo_stepOther mo_stepMany mo_literalType mo_literalFrom mo_literalSize mo_bytes mo_said mo_number mo_pile mo_pilePlace mo_top mo_open) (Jn.all _ _) rfl hl.1 rfl (Nat.le_of_ble_eq_true rfl) dX6_readBy_1 ⟨Nat.zero_le _, Nat.zero_le _⟩ (fun H locs hw => ?_)
  refine lv_aload_n hx hb dX6_readBy_4 rfl (lv_at hl 0 rfl) ?_
  refine fg_X6_99 C hw 0 rfl rfl dX6_readBy_5 ?_
  refine lv_istore_n (lv' := [(1, .int x1), (0, .ref (a_mo 0))]) hx hb dX6_readBy_8 rfl hl (by decide) rfl (fun ls hl => ?_)
  refine lv_aload_n hx hb dX6_readBy_9 rfl (lv_at hl 1 rfl) ?_
  refine fg_X6_35 C hw 0 rfl rfl dX6_readBy_10 ?_
  refine lv_iconst (v := 4) hx hb dX6_readBy_13 (by decide) ?_
  refine lv_aload_n hx hb dX6_readBy_14 rfl (lv_at hl 1 rfl) ?_
  refine fg_X6_189 C hw 0 rfl rfl dX6_readBy_15 ?_
  refine lv_imul hx hb dX6_readBy_18 ?_
  refine lv_iconst (v := 1) hx hb dX6_readBy_19 (by decide) ?_
  refine lv_iadd hx hb dX6_readBy_20 ?_
  obtain ⟨x2, ex2, gx2, hf⟩ := rd_el hf
  refine ra_i C hw 8 rfl gx2 dX6_readBy_21 ?_
  refine tp_i ex2 ?_
  refine lv_bipush (v := 8) hx hb dX6_readBy_22 (by decide) ?_
  refine lv_icmp_ne (tgt := 32) hx hb dX6_readBy_24 (by decide) (fun c24 => ?_) (fun c24 => ?_)
  · replace hf := it_f c24 hf
    exact w_X6_readBy_32 C hw (lv_sub hl [1, 0] rfl) hf
  · replace hf := it_t c24 hf
    refine lv_aload_n hx hb dX6_readBy_27 rfl (lv_at hl 1 rfl) ?_
    refine lv_iload_n hx hb dX6_readBy_28 rfl (lv_at hl 0 rfl) ?_
    obtain ⟨x3, z3, hf⟩ := ob1_el hf
    refine cV_V C hw (c_X6_fail l E a_mo mo_code mo_tape mo_text mo_taped mo_size x1 mo_ill mo_in mo_kind mo_type mo_long1 mo_letters mo_fields mo_kept mo_now mo_many mo_itemKind mo_itemField mo_itemPlace mo_by mo_stepKind mo_stepField mo_stepOperator mo_stepOther mo_stepMany mo_literalType mo_literalFrom mo_literalSize mo_bytes mo_said mo_number mo_pile mo_pilePlace mo_top mo_open x1 x3 z3) cs_X6_144 ⟨Nat.le_of_ble_eq_true rfl, Nat.le_of_ble_eq_true rfl⟩ ⟨rfl, rfl⟩ (ci := 6) (cn := (RX6, TX6, 35)) rfl (q0 := 0) rfl (wn := w_mo E a_mo mo_code mo_tape mo_text mo_taped mo_size x1 x3 mo_in mo_kind mo_type mo_long1 mo_letters mo_fields mo_kept mo_now mo_many mo_itemKind mo_itemField mo_itemPlace mo_by mo_stepKind mo_stepField mo_stepOperator mo_stepOther mo_stepMany mo_literalType mo_literalFrom mo_literalSize mo_bytes mo_said mo_number mo_pile mo_pilePlace mo_top mo_open) (Jn.all _ _) rfl hl.1 rfl (Nat.le_of_ble_eq_true rfl) dX6_readBy_29 ⟨Nat.zero_le _, Nat.zero_le _⟩ (fun H locs hw => ?_)
    exact w_X6_readBy_32 C hw (lv_sub hl [1, 0] rfl) hf
def f_X6_addStep_23 (l2 : Int32) (l3 : Int32) (l4 : Int32) (l5 : Int32) (l6 : Int32) (mo_ill : Int32) (mo_now : Int32) (mo_many : Nat → Int32) (mo_stepKind : Nat → Int32) (mo_stepField : Nat → Int32) (mo_stepOperator : Nat → Int32) (mo_stepOther : Nat → Int32) (mo_stepMany : Nat → Int32) : Option ((Int32) × (Nat → Int32) × (Nat → Int32) × (Nat → Int32) × (Nat → Int32) × (Nat → Int32) × (Nat → Int32)) :=
  if mo_ill = (-1 : Int32) then (rd mo_many 8 (((4 : Int32) * mo_now) + (2 : Int32)) (fun x1 =>
  on (((64 : Int32) * mo_now) + x1) (fun x2 =>
  wr mo_stepKind 128 x2 l2 (fun x3 =>
  wr mo_stepField 128 x2 l3 (fun x4 =>
  wr mo_stepOperator 128 x2 l4 (fun x5 =>
  wr mo_stepOther 128 x2 l5 (fun x6 =>
  wr mo_stepMany 128 x2 l6 (fun x7 =>
  on (((4 : Int32) * mo_now) + (2 : Int32)) (fun x8 =>
  rd mo_many 8 x8 (fun x9 =>
  on (x9 + (1 : Int32)) (fun x10 =>
  wr mo_many 8 x8 x10 (fun x11 =>
  some (mo_ill, x11, x3, x4, x5, x6, x7)))))))))))))
  else (some (mo_ill, mo_many, mo_stepKind, mo_stepField, mo_stepOperator, mo_stepOther, mo_stepMany))
set_option maxHeartbeats 4000000 in
set_option maxRecDepth 100000 in
theorem w_X6_addStep_23 {p : Program} {l : Launch} {e : Env} {s : State} {m : MethodId} {args : Array Value} {below : List Frame} {meth : Method} {c : Code} {E : EnvT} {A : Nat → Prop} {a_mo : Nat → Nat} {mo_code : Int32} {mo_tape : Nat → Int32} {mo_text : Nat → Int32} {mo_taped : Int32} {mo_size : Int32} {mo_at : Int32} {mo_in : Nat → Int32} {mo_kind : Nat → Int32} {mo_type : Nat → Int32} {mo_long1 : Nat → Int32} {mo_letters : Nat → Int32} {mo_fields : Int32} {mo_kept : Int32} {mo_itemKind : Nat → Int32} {mo_itemField : Nat → Int32} {mo_itemPlace : Nat → Int32} {mo_by : Nat → Int32} {mo_literalType : Nat → Int32} {mo_literalFrom : Nat → Int32} {mo_literalSize : Nat → Int32} {mo_bytes : Nat → Int32} {mo_said : Nat → Int32} {mo_number : Nat → Int64} {mo_pile : Nat → Int32} {mo_pilePlace : Nat → Int32} {mo_top : Int32} {mo_open : Int32} {o_mo_ill : Int32} {o_mo_many : Nat → Int32} {o_mo_stepKind : Nat → Int32} {o_mo_stepField : Nat → Int32} {o_mo_stepOperator : Nat → Int32} {o_mo_stepOther : Nat → Int32} {o_mo_stepMany : Nat → Int32} {l2 : Int32} {l3 : Int32} {l4 : Int32} {l5 : Int32} {l6 : Int32} {mo_ill : Int32} {mo_now : Int32} {mo_many : Nat → Int32} {mo_stepKind : Nat → Int32} {mo_stepField : Nat → Int32} {mo_stepOperator : Nat → Int32} {mo_stepOther : Nat → Int32} {mo_stepMany : Nat → Int32} {H : Heap} {locs : List Loc} {ls : Array Slot} (C : MC p s m args meth c E A cX6_addStep 8 RX6 none) (hw : WS E A s (w_mo E a_mo mo_code mo_tape mo_text mo_taped mo_size mo_at mo_ill mo_in mo_kind mo_type mo_long1 mo_letters mo_fields mo_kept mo_now mo_many mo_itemKind mo_itemField mo_itemPlace mo_by mo_stepKind mo_stepField mo_stepOperator mo_stepOther mo_stepMany mo_literalType mo_literalFrom mo_literalSize mo_bytes mo_said mo_number mo_pile mo_pilePlace mo_top mo_open) H locs) (hl : lv_has ls 8 [(0, .ref (a_mo 0)), (2, .int l2), (3, .int l3), (4, .int l4), (5, .int l5), (6, .int l6)]) (hf : f_X6_addStep_23 l2 l3 l4 l5 l6 mo_ill mo_now mo_many mo_stepKind mo_stepField mo_stepOperator mo_stepOther mo_stepMany = some (o_mo_ill, o_mo_many, o_mo_stepKind, o_mo_stepField, o_mo_stepOperator, o_mo_stepOther, o_mo_stepMany)) : W p l e { frames := 1, cells := 0, slots := 0, locals := 21 } s m args below meth c H locs 0 0 (MQ below (QcV E A (w_mo E a_mo mo_code mo_tape mo_text mo_taped mo_size mo_at o_mo_ill mo_in mo_kind mo_type mo_long1 mo_letters mo_fields mo_kept mo_now o_mo_many mo_itemKind mo_itemField mo_itemPlace mo_by o_mo_stepKind o_mo_stepField o_mo_stepOperator o_mo_stepOther o_mo_stepMany mo_literalType mo_literalFrom mo_literalSize mo_bytes mo_said mo_number mo_pile mo_pilePlace mo_top mo_open)) args s 0 0 A) (F0 m 23 ls []) := by
  have hx := C.1
  have hb := C.2.1
  unfold f_X6_addStep_23 at hf
  refine lv_aload_n hx hb dX6_addStep_23 rfl (lv_at hl 0 rfl) ?_
  refine fg_X6_102 C hw 0 rfl rfl dX6_addStep_24 ?_
  refine lv_iconst (v := -1) hx hb dX6_addStep_27 (by decide) ?_
  refine lv_icmp_eq (tgt := 32) hx hb dX6_addStep_28 (by decide) (fun c28 => ?_) (fun c28 => ?_)
  · replace hf := it_t c28 hf
    refine lv_bipush (v := 64) hx hb dX6_addStep_32 (by decide) ?_
    refine lv_aload_n hx hb dX6_addStep_34 rfl (lv_at hl 0 rfl) ?_
    refine fg_X6_189 C hw 0 rfl rfl dX6_addStep_35 ?_
    refine lv_imul hx hb dX6_addStep_38 ?_
    refine lv_aload_n hx hb dX6_addStep_39 rfl (lv_at hl 0 rfl) ?_
    refine fg_X6_35 C hw 0 rfl rfl dX6_addStep_40 ?_
    refine lv_iconst (v := 4) hx hb dX6_addStep_43 (by decide) ?_
    refine lv_aload_n hx hb dX6_addStep_44 rfl (lv_at hl 0 rfl) ?_
    refine fg_X6_189 C hw 0 rfl rfl dX6_addStep_45 ?_
    refine lv_imul hx hb dX6_addStep_48 ?_
    refine lv_iconst (v := 2) hx hb dX6_addStep_49 (by decide) ?_
    refine lv_iadd hx hb dX6_addStep_50 ?_
    obtain ⟨x1, ex1, gx1, hf⟩ := rd_el hf
    refine ra_i C hw 8 rfl gx1 dX6_addStep_51 ?_
    refine tp_i ex1 ?_
    refine lv_iadd hx hb dX6_addStep_52 ?_
    obtain ⟨x2, ex2, hf⟩ := on_el hf
    refine tp_i ex2 ?_
    refine lv_istore (lv' := [(7, .int x2), (0, .ref (a_mo 0)), (2, .int l2), (3, .int l3), (4, .int l4), (5, .int l5), (6, .int l6)]) hx hb dX6_addStep_53 hl (by decide) rfl (fun ls hl => ?_)
    refine lv_aload_n hx hb dX6_addStep_55 rfl (lv_at hl 1 rfl) ?_
    refine fg_X6_50 C hw 0 rfl rfl dX6_addStep_56 ?_
    refine lv_iload hx hb dX6_addStep_59 (lv_at hl 0 rfl) ?_
    refine lv_iload_n hx hb dX6_addStep_61 rfl (lv_at hl 2 rfl) ?_
    obtain ⟨x3, ex3, gx3, hf⟩ := wr_el hf
    refine rs_i C hw 13 rfl gx3 (ws' := w_mo E a_mo mo_code mo_tape mo_text mo_taped mo_size mo_at mo_ill mo_in mo_kind mo_type mo_long1 mo_letters mo_fields mo_kept mo_now mo_many mo_itemKind mo_itemField mo_itemPlace mo_by x3 mo_stepField mo_stepOperator mo_stepOther mo_stepMany mo_literalType mo_literalFrom mo_literalSize mo_bytes mo_said mo_number mo_pile mo_pilePlace mo_top mo_open) (by subst ex3; rfl) dX6_addStep_62 (fun H locs hw => ?_)
    refine lv_aload_n hx hb dX6_addStep_63 rfl (lv_at hl 1 rfl) ?_
    refine fg_X6_53 C hw 0 rfl rfl dX6_addStep_64 ?_
    refine lv_iload hx hb dX6_addStep_67 (lv_at hl 0 rfl) ?_
    refine lv_iload_n hx hb dX6_addStep_69 rfl (lv_at hl 3 rfl) ?_
    obtain ⟨x4, ex4, gx4, hf⟩ := wr_el hf
    refine rs_i C hw 14 rfl gx4 (ws' := w_mo E a_mo mo_code mo_tape mo_text mo_taped mo_size mo_at mo_ill mo_in mo_kind mo_type mo_long1 mo_letters mo_fields mo_kept mo_now mo_many mo_itemKind mo_itemField mo_itemPlace mo_by x3 x4 mo_stepOperator mo_stepOther mo_stepMany mo_literalType mo_literalFrom mo_literalSize mo_bytes mo_said mo_number mo_pile mo_pilePlace mo_top mo_open) (by subst ex4; rfl) dX6_addStep_70 (fun H locs hw => ?_)
    refine lv_aload_n hx hb dX6_addStep_71 rfl (lv_at hl 1 rfl) ?_
    refine fg_X6_56 C hw 0 rfl rfl dX6_addStep_72 ?_
    refine lv_iload hx hb dX6_addStep_75 (lv_at hl 0 rfl) ?_
    refine lv_iload hx hb dX6_addStep_77 (lv_at hl 4 rfl) ?_
    obtain ⟨x5, ex5, gx5, hf⟩ := wr_el hf
    refine rs_i C hw 15 rfl gx5 (ws' := w_mo E a_mo mo_code mo_tape mo_text mo_taped mo_size mo_at mo_ill mo_in mo_kind mo_type mo_long1 mo_letters mo_fields mo_kept mo_now mo_many mo_itemKind mo_itemField mo_itemPlace mo_by x3 x4 x5 mo_stepOther mo_stepMany mo_literalType mo_literalFrom mo_literalSize mo_bytes mo_said mo_number mo_pile mo_pilePlace mo_top mo_open) (by subst ex5; rfl) dX6_addStep_79 (fun H locs hw => ?_)
    refine lv_aload_n hx hb dX6_addStep_80 rfl (lv_at hl 1 rfl) ?_
    refine fg_X6_59 C hw 0 rfl rfl dX6_addStep_81 ?_
    refine lv_iload hx hb dX6_addStep_84 (lv_at hl 0 rfl) ?_
    refine lv_iload hx hb dX6_addStep_86 (lv_at hl 5 rfl) ?_
    obtain ⟨x6, ex6, gx6, hf⟩ := wr_el hf
    refine rs_i C hw 16 rfl gx6 (ws' := w_mo E a_mo mo_code mo_tape mo_text mo_taped mo_size mo_at mo_ill mo_in mo_kind mo_type mo_long1 mo_letters mo_fields mo_kept mo_now mo_many mo_itemKind mo_itemField mo_itemPlace mo_by x3 x4 x5 x6 mo_stepMany mo_literalType mo_literalFrom mo_literalSize mo_bytes mo_said mo_number mo_pile mo_pilePlace mo_top mo_open) (by subst ex6; rfl) dX6_addStep_88 (fun H locs hw => ?_)
    refine lv_aload_n hx hb dX6_addStep_89 rfl (lv_at hl 1 rfl) ?_
    refine fg_X6_62 C hw 0 rfl rfl dX6_addStep_90 ?_
    refine lv_iload hx hb dX6_addStep_93 (lv_at hl 0 rfl) ?_
    refine lv_iload hx hb dX6_addStep_95 (lv_at hl 6 rfl) ?_
    obtain ⟨x7, ex7, gx7, hf⟩ := wr_el hf
    refine rs_i C hw 17 rfl gx7 (ws' := w_mo E a_mo mo_code mo_tape mo_text mo_taped mo_size mo_at mo_ill mo_in mo_kind mo_type mo_long1 mo_letters mo_fields mo_kept mo_now mo_many mo_itemKind mo_itemField mo_itemPlace mo_by x3 x4 x5 x6 x7 mo_literalType mo_literalFrom mo_literalSize mo_bytes mo_said mo_number mo_pile mo_pilePlace mo_top mo_open) (by subst ex7; rfl) dX6_addStep_97 (fun H locs hw => ?_)
    refine lv_aload_n hx hb dX6_addStep_98 rfl (lv_at hl 1 rfl) ?_
    refine fg_X6_35 C hw 0 rfl rfl dX6_addStep_99 ?_
    refine lv_iconst (v := 4) hx hb dX6_addStep_102 (by decide) ?_
    refine lv_aload_n hx hb dX6_addStep_103 rfl (lv_at hl 1 rfl) ?_
    refine fg_X6_189 C hw 0 rfl rfl dX6_addStep_104 ?_
    refine lv_imul hx hb dX6_addStep_107 ?_
    refine lv_iconst (v := 2) hx hb dX6_addStep_108 (by decide) ?_
    refine lv_iadd hx hb dX6_addStep_109 ?_
    obtain ⟨x8, ex8, hf⟩ := on_el hf
    refine tp_i ex8 ?_
    refine lv_dup2_11 hx hb dX6_addStep_110 rfl rfl ?_
    obtain ⟨x9, ex9, gx9, hf⟩ := rd_el hf
    refine ra_i C hw 8 rfl gx9 dX6_addStep_111 ?_
    refine tp_i ex9 ?_
    refine lv_iconst (v := 1) hx hb dX6_addStep_112 (by decide) ?_
    refine lv_iadd hx hb dX6_addStep_113 ?_
    obtain ⟨x10, ex10, hf⟩ := on_el hf
    refine tp_i ex10 ?_
    obtain ⟨x11, ex11, gx11, hf⟩ := wr_el hf
    refine rs_i C hw 8 rfl gx11 (ws' := w_mo E a_mo mo_code mo_tape mo_text mo_taped mo_size mo_at mo_ill mo_in mo_kind mo_type mo_long1 mo_letters mo_fields mo_kept mo_now x11 mo_itemKind mo_itemField mo_itemPlace mo_by x3 x4 x5 x6 x7 mo_literalType mo_literalFrom mo_literalSize mo_bytes mo_said mo_number mo_pile mo_pilePlace mo_top mo_open) (by subst ex11; rfl) dX6_addStep_114 (fun H locs hw => ?_)
    cases hf
    exact rt_v C hw dX6_addStep_115
  · replace hf := it_f c28 hf
    cases hf
    exact rt_v C hw dX6_addStep_31
def f_X6_addStep (p1 : Int32) (p2 : Int32) (p3 : Int32) (p4 : Int32) (p5 : Int32) (p6 : Int32) (mo_ill : Int32) (mo_now : Int32) (mo_many : Nat → Int32) (mo_stepKind : Nat → Int32) (mo_stepField : Nat → Int32) (mo_stepOperator : Nat → Int32) (mo_stepOther : Nat → Int32) (mo_stepMany : Nat → Int32) : Option ((Int32) × (Nat → Int32) × (Nat → Int32) × (Nat → Int32) × (Nat → Int32) × (Nat → Int32) × (Nat → Int32)) :=
  rd mo_many 8 (((4 : Int32) * mo_now) + (2 : Int32)) (fun x1 =>
  if x1 = (64 : Int32) then (ob1 (f_X6_fail p1 mo_ill) (fun x2 =>
  f_X6_addStep_23 p2 p3 p4 p5 p6 x2 mo_now mo_many mo_stepKind mo_stepField mo_stepOperator mo_stepOther mo_stepMany))
  else (f_X6_addStep_23 p2 p3 p4 p5 p6 mo_ill mo_now mo_many mo_stepKind mo_stepField mo_stepOperator mo_stepOther mo_stepMany))
set_option maxHeartbeats 4000000 in
set_option maxRecDepth 100000 in
theorem c_X6_addStep (l : Launch) (E : EnvT) (a_mo : Nat → Nat) (mo_code : Int32) (mo_tape : Nat → Int32) (mo_text : Nat → Int32) (mo_taped : Int32) (mo_size : Int32) (mo_at : Int32) (mo_ill : Int32) (mo_in : Nat → Int32) (mo_kind : Nat → Int32) (mo_type : Nat → Int32) (mo_long1 : Nat → Int32) (mo_letters : Nat → Int32) (mo_fields : Int32) (mo_kept : Int32) (mo_now : Int32) (mo_many : Nat → Int32) (mo_itemKind : Nat → Int32) (mo_itemField : Nat → Int32) (mo_itemPlace : Nat → Int32) (mo_by : Nat → Int32) (mo_stepKind : Nat → Int32) (mo_stepField : Nat → Int32) (mo_stepOperator : Nat → Int32) (mo_stepOther : Nat → Int32) (mo_stepMany : Nat → Int32) (mo_literalType : Nat → Int32) (mo_literalFrom : Nat → Int32) (mo_literalSize : Nat → Int32) (mo_bytes : Nat → Int32) (mo_said : Nat → Int32) (mo_number : Nat → Int64) (mo_pile : Nat → Int32) (mo_pilePlace : Nat → Int32) (mo_top : Int32) (mo_open : Int32) (p1 : Int32) (p2 : Int32) (p3 : Int32) (p4 : Int32) (p5 : Int32) (p6 : Int32) (o_mo_ill : Int32) (o_mo_many : Nat → Int32) (o_mo_stepKind : Nat → Int32) (o_mo_stepField : Nat → Int32) (o_mo_stepOperator : Nat → Int32) (o_mo_stepOther : Nat → Int32) (o_mo_stepMany : Nat → Int32) (hf : f_X6_addStep p1 p2 p3 p4 p5 p6 mo_ill mo_now mo_many mo_stepKind mo_stepField mo_stepOperator mo_stepOther mo_stepMany = some (o_mo_ill, o_mo_many, o_mo_stepKind, o_mo_stepField, o_mo_stepOperator, o_mo_stepOther, o_mo_stepMany)) : CV l yX6_addStep (Cond.code yX6_addStep cX6_addStep 8 none) { frames := 1, cells := 0, slots := 0, locals := 21 } E [.ref (a_mo 0), .int p1, .int p2, .int p3, .int p4, .int p5, .int p6] (w_mo E a_mo mo_code mo_tape mo_text mo_taped mo_size mo_at mo_ill mo_in mo_kind mo_type mo_long1 mo_letters mo_fields mo_kept mo_now mo_many mo_itemKind mo_itemField mo_itemPlace mo_by mo_stepKind mo_stepField mo_stepOperator mo_stepOther mo_stepMany mo_literalType mo_literalFrom mo_literalSize mo_bytes mo_said mo_number mo_pile mo_pilePlace mo_top mo_open) (w_mo E a_mo mo_code mo_tape mo_text mo_taped mo_size mo_at o_mo_ill mo_in mo_kind mo_type mo_long1 mo_letters mo_fields mo_kept mo_now o_mo_many mo_itemKind mo_itemField mo_itemPlace mo_by o_mo_stepKind o_mo_stepField o_mo_stepOperator o_mo_stepOther o_mo_stepMany mo_literalType mo_literalFrom mo_literalSize mo_bytes mo_said mo_number mo_pile mo_pilePlace mo_top mo_open) := by
  intro sz
  refine met_start [(0, .ref (a_mo 0)), (1, .int p1), (2, .int p2), (3, .int p3), (4, .int p4), (5, .int p5), (6, .int p6)] (by decide) rfl rfl (Nat.le_of_ble_eq_true rfl) rfl ?_
  intro p e s m below meth c ls C hnm hmt hw hl
  have hx := C.1
  have hb := C.2.1
  generalize va_A (w_mo E a_mo mo_code mo_tape mo_text mo_taped mo_size mo_at mo_ill mo_in mo_kind mo_type mo_long1 mo_letters mo_fields mo_kept mo_now mo_many mo_itemKind mo_itemField mo_itemPlace mo_by mo_stepKind mo_stepField mo_stepOperator mo_stepOther mo_stepMany mo_literalType mo_literalFrom mo_literalSize mo_bytes mo_said mo_number mo_pile mo_pilePlace mo_top mo_open) sz = A at C hw ⊢
  unfold f_X6_addStep at hf
  refine lv_aload_n hx hb dX6_addStep_0 rfl (lv_at hl 0 rfl) ?_
  refine fg_X6_35 C hw 0 rfl rfl dX6_addStep_1 ?_
  refine lv_iconst (v := 4) hx hb dX6_addStep_4 (by decide) ?_
  refine lv_aload_n hx hb dX6_addStep_5 rfl (lv_at hl 0 rfl) ?_
  refine fg_X6_189 C hw 0 rfl rfl dX6_addStep_6 ?_
  refine lv_imul hx hb dX6_addStep_9 ?_
  refine lv_iconst (v := 2) hx hb dX6_addStep_10 (by decide) ?_
  refine lv_iadd hx hb dX6_addStep_11 ?_
  obtain ⟨x1, ex1, gx1, hf⟩ := rd_el hf
  refine ra_i C hw 8 rfl gx1 dX6_addStep_12 ?_
  refine tp_i ex1 ?_
  refine lv_bipush (v := 64) hx hb dX6_addStep_13 (by decide) ?_
  refine lv_icmp_ne (tgt := 23) hx hb dX6_addStep_15 (by decide) (fun c15 => ?_) (fun c15 => ?_)
  · replace hf := it_f c15 hf
    exact w_X6_addStep_23 C hw (lv_sub hl [0, 2, 3, 4, 5, 6] rfl) hf
  · replace hf := it_t c15 hf
    refine lv_aload_n hx hb dX6_addStep_18 rfl (lv_at hl 0 rfl) ?_
    refine lv_iload_n hx hb dX6_addStep_19 rfl (lv_at hl 1 rfl) ?_
    obtain ⟨x2, z2, hf⟩ := ob1_el hf
    refine cV_V C hw (c_X6_fail l E a_mo mo_code mo_tape mo_text mo_taped mo_size mo_at mo_ill mo_in mo_kind mo_type mo_long1 mo_letters mo_fields mo_kept mo_now mo_many mo_itemKind mo_itemField mo_itemPlace mo_by mo_stepKind mo_stepField mo_stepOperator mo_stepOther mo_stepMany mo_literalType mo_literalFrom mo_literalSize mo_bytes mo_said mo_number mo_pile mo_pilePlace mo_top mo_open p1 x2 z2) cs_X6_144 ⟨Nat.le_of_ble_eq_true rfl, Nat.le_of_ble_eq_true rfl⟩ ⟨rfl, rfl⟩ (ci := 6) (cn := (RX6, TX6, 35)) rfl (q0 := 0) rfl (wn := w_mo E a_mo mo_code mo_tape mo_text mo_taped mo_size mo_at x2 mo_in mo_kind mo_type mo_long1 mo_letters mo_fields mo_kept mo_now mo_many mo_itemKind mo_itemField mo_itemPlace mo_by mo_stepKind mo_stepField mo_stepOperator mo_stepOther mo_stepMany mo_literalType mo_literalFrom mo_literalSize mo_bytes mo_said mo_number mo_pile mo_pilePlace mo_top mo_open) (Jn.all _ _) rfl hl.1 rfl (Nat.le_of_ble_eq_true rfl) dX6_addStep_20 ⟨Nat.zero_le _, Nat.zero_le _⟩ (fun H locs hw => ?_)
    exact w_X6_addStep_23 C hw (lv_sub hl [0, 2, 3, 4, 5, 6] rfl) hf
def f_X6_push (p1 : Int32) (p2 : Int32) (mo_pile : Nat → Int32) (mo_pilePlace : Nat → Int32) (mo_top : Int32) : Option ((Nat → Int32) × (Nat → Int32) × (Int32)) :=
  wr mo_pile 120 mo_top p1 (fun x1 =>
  wr mo_pilePlace 120 mo_top p2 (fun x2 =>
  on (mo_top + (1 : Int32)) (fun x3 =>
  some (x1, x2, x3))))
set_option maxHeartbeats 4000000 in
set_option maxRecDepth 100000 in
theorem c_X6_push (l : Launch) (E : EnvT) (a_mo : Nat → Nat) (mo_code : Int32) (mo_tape : Nat → Int32) (mo_text : Nat → Int32) (mo_taped : Int32) (mo_size : Int32) (mo_at : Int32) (mo_ill : Int32) (mo_in : Nat → Int32) (mo_kind : Nat → Int32) (mo_type : Nat → Int32) (mo_long1 : Nat → Int32) (mo_letters : Nat → Int32) (mo_fields : Int32) (mo_kept : Int32) (mo_now : Int32) (mo_many : Nat → Int32) (mo_itemKind : Nat → Int32) (mo_itemField : Nat → Int32) (mo_itemPlace : Nat → Int32) (mo_by : Nat → Int32) (mo_stepKind : Nat → Int32) (mo_stepField : Nat → Int32) (mo_stepOperator : Nat → Int32) (mo_stepOther : Nat → Int32) (mo_stepMany : Nat → Int32) (mo_literalType : Nat → Int32) (mo_literalFrom : Nat → Int32) (mo_literalSize : Nat → Int32) (mo_bytes : Nat → Int32) (mo_said : Nat → Int32) (mo_number : Nat → Int64) (mo_pile : Nat → Int32) (mo_pilePlace : Nat → Int32) (mo_top : Int32) (mo_open : Int32) (p1 : Int32) (p2 : Int32) (o_mo_pile : Nat → Int32) (o_mo_pilePlace : Nat → Int32) (o_mo_top : Int32) (hf : f_X6_push p1 p2 mo_pile mo_pilePlace mo_top = some (o_mo_pile, o_mo_pilePlace, o_mo_top)) : CV l yX6_push (Cond.code yX6_push cX6_push 3 none) { frames := 0, cells := 0, slots := 0, locals := 0 } E [.ref (a_mo 0), .int p1, .int p2] (w_mo E a_mo mo_code mo_tape mo_text mo_taped mo_size mo_at mo_ill mo_in mo_kind mo_type mo_long1 mo_letters mo_fields mo_kept mo_now mo_many mo_itemKind mo_itemField mo_itemPlace mo_by mo_stepKind mo_stepField mo_stepOperator mo_stepOther mo_stepMany mo_literalType mo_literalFrom mo_literalSize mo_bytes mo_said mo_number mo_pile mo_pilePlace mo_top mo_open) (w_mo E a_mo mo_code mo_tape mo_text mo_taped mo_size mo_at mo_ill mo_in mo_kind mo_type mo_long1 mo_letters mo_fields mo_kept mo_now mo_many mo_itemKind mo_itemField mo_itemPlace mo_by mo_stepKind mo_stepField mo_stepOperator mo_stepOther mo_stepMany mo_literalType mo_literalFrom mo_literalSize mo_bytes mo_said mo_number o_mo_pile o_mo_pilePlace o_mo_top mo_open) := by
  intro sz
  refine met_start [(0, .ref (a_mo 0)), (1, .int p1), (2, .int p2)] (by decide) rfl rfl (Nat.le_of_ble_eq_true rfl) rfl ?_
  intro p e s m below meth c ls C hnm hmt hw hl
  have hx := C.1
  have hb := C.2.1
  generalize va_A (w_mo E a_mo mo_code mo_tape mo_text mo_taped mo_size mo_at mo_ill mo_in mo_kind mo_type mo_long1 mo_letters mo_fields mo_kept mo_now mo_many mo_itemKind mo_itemField mo_itemPlace mo_by mo_stepKind mo_stepField mo_stepOperator mo_stepOther mo_stepMany mo_literalType mo_literalFrom mo_literalSize mo_bytes mo_said mo_number mo_pile mo_pilePlace mo_top mo_open) sz = A at C hw ⊢
  unfold f_X6_push at hf
  refine lv_aload_n hx hb dX6_push_0 rfl (lv_at hl 0 rfl) ?_
  refine fg_X6_84 C hw 0 rfl rfl dX6_push_1 ?_
  refine lv_aload_n hx hb dX6_push_4 rfl (lv_at hl 0 rfl) ?_
  refine fg_X6_207 C hw 0 rfl rfl dX6_push_5 ?_
  refine lv_iload_n hx hb dX6_push_8 rfl (lv_at hl 1 rfl) ?_
  obtain ⟨x1, ex1, gx1, hf⟩ := wr_el hf
  refine rs_i C hw 24 rfl gx1 (ws' := w_mo E a_mo mo_code mo_tape mo_text mo_taped mo_size mo_at mo_ill mo_in mo_kind mo_type mo_long1 mo_letters mo_fields mo_kept mo_now mo_many mo_itemKind mo_itemField mo_itemPlace mo_by mo_stepKind mo_stepField mo_stepOperator mo_stepOther mo_stepMany mo_literalType mo_literalFrom mo_literalSize mo_bytes mo_said mo_number x1 mo_pilePlace mo_top mo_open) (by subst ex1; rfl) dX6_push_9 (fun H locs hw => ?_)
  refine lv_aload_n hx hb dX6_push_10 rfl (lv_at hl 0 rfl) ?_
  refine fg_X6_87 C hw 0 rfl rfl dX6_push_11 ?_
  refine lv_aload_n hx hb dX6_push_14 rfl (lv_at hl 0 rfl) ?_
  refine fg_X6_207 C hw 0 rfl rfl dX6_push_15 ?_
  refine lv_iload_n hx hb dX6_push_18 rfl (lv_at hl 2 rfl) ?_
  obtain ⟨x2, ex2, gx2, hf⟩ := wr_el hf
  refine rs_i C hw 25 rfl gx2 (ws' := w_mo E a_mo mo_code mo_tape mo_text mo_taped mo_size mo_at mo_ill mo_in mo_kind mo_type mo_long1 mo_letters mo_fields mo_kept mo_now mo_many mo_itemKind mo_itemField mo_itemPlace mo_by mo_stepKind mo_stepField mo_stepOperator mo_stepOther mo_stepMany mo_literalType mo_literalFrom mo_literalSize mo_bytes mo_said mo_number x1 x2 mo_top mo_open) (by subst ex2; rfl) dX6_push_19 (fun H locs hw => ?_)
  refine lv_aload_n hx hb dX6_push_20 rfl (lv_at hl 0 rfl) ?_
  refine lv_dup hx hb dX6_push_21 rfl ?_
  refine fg_X6_207 C hw 0 rfl rfl dX6_push_22 ?_
  refine lv_iconst (v := 1) hx hb dX6_push_25 (by decide) ?_
  refine lv_iadd hx hb dX6_push_26 ?_
  obtain ⟨x3, ex3, hf⟩ := on_el hf
  refine tp_i ex3 ?_
  refine fp_X6_207 C hw 0 rfl (Nat.le_of_ble_eq_true rfl) (ws' := w_mo E a_mo mo_code mo_tape mo_text mo_taped mo_size mo_at mo_ill mo_in mo_kind mo_type mo_long1 mo_letters mo_fields mo_kept mo_now mo_many mo_itemKind mo_itemField mo_itemPlace mo_by mo_stepKind mo_stepField mo_stepOperator mo_stepOther mo_stepMany mo_literalType mo_literalFrom mo_literalSize mo_bytes mo_said mo_number x1 x2 x3 mo_open) rfl dX6_push_27 (fun H locs hw => ?_)
  cases hf
  exact rt_v C hw dX6_push_30
def f_X6_joins_0 : Nat → (Int32) → (Int32) → (Int32) → (Nat → Int32) → (Nat → Int32) → (Nat → Int32) → (Nat → Int32) → (Nat → Int32) → (Nat → Int32) → (Nat → Int32) → (Nat → Int32) → (Int32) → (Int32) → Option ((Int32) × (Nat → Int32) × (Nat → Int32) × (Nat → Int32) × (Nat → Int32) × (Nat → Int32) × (Nat → Int32) × (Int32) × (Int32))
  | 0, _, _, _, _, _, _, _, _, _, _, _, _, _ => none
  | n + 1, l1, mo_ill, mo_now, mo_many, mo_stepKind, mo_stepField, mo_stepOperator, mo_stepOther, mo_stepMany, mo_pile, mo_pilePlace, mo_top, mo_open =>
  if mo_top ≤ (0 : Int32) then (some (mo_ill, mo_many, mo_stepKind, mo_stepField, mo_stepOperator, mo_stepOther, mo_stepMany, mo_top, mo_open))
  else (rd mo_pile 120 (mo_top - (1 : Int32)) (fun x1 =>
  if x1 = l1 then (if mo_ill = (-1 : Int32) then (on (mo_top - (1 : Int32)) (fun x2 =>
  if l1 = (1 : Int32) then (on (mo_open - (1 : Int32)) (fun x12 =>
  rd mo_pilePlace 120 x2 (fun x13 =>
  ob7 (f_X6_addStep x13 (l1 + (4 : Int32)) (-1 : Int32) (-1 : Int32) (-1 : Int32) (0 : Int32) mo_ill mo_now mo_many mo_stepKind mo_stepField mo_stepOperator mo_stepOther mo_stepMany) (fun x14 x15 x16 x17 x18 x19 x20 =>
  f_X6_joins_0 n l1 x14 mo_now x15 x16 x17 x18 x19 x20 mo_pile mo_pilePlace x2 x12))))
  else (on (mo_open - (0 : Int32)) (fun x3 =>
  rd mo_pilePlace 120 x2 (fun x4 =>
  ob7 (f_X6_addStep x4 (l1 + (4 : Int32)) (-1 : Int32) (-1 : Int32) (-1 : Int32) (0 : Int32) mo_ill mo_now mo_many mo_stepKind mo_stepField mo_stepOperator mo_stepOther mo_stepMany) (fun x5 x6 x7 x8 x9 x10 x11 =>
  f_X6_joins_0 n l1 x5 mo_now x6 x7 x8 x9 x10 x11 mo_pile mo_pilePlace x2 x3))))))
  else (some (mo_ill, mo_many, mo_stepKind, mo_stepField, mo_stepOperator, mo_stepOther, mo_stepMany, mo_top, mo_open)))
  else (some (mo_ill, mo_many, mo_stepKind, mo_stepField, mo_stepOperator, mo_stepOther, mo_stepMany, mo_top, mo_open))))
set_option maxHeartbeats 4000000 in
set_option maxRecDepth 100000 in
theorem w_X6_joins_0 {p : Program} {l : Launch} {e : Env} {s : State} {m : MethodId} {args : Array Value} {below : List Frame} {meth : Method} {c : Code} {E : EnvT} {A : Nat → Prop} {a_mo : Nat → Nat} {Q : State → Prop} {mo_code : Int32} {mo_tape : Nat → Int32} {mo_text : Nat → Int32} {mo_taped : Int32} {mo_size : Int32} {mo_at : Int32} {mo_in : Nat → Int32} {mo_kind : Nat → Int32} {mo_type : Nat → Int32} {mo_long1 : Nat → Int32} {mo_letters : Nat → Int32} {mo_fields : Int32} {mo_kept : Int32} {mo_itemKind : Nat → Int32} {mo_itemField : Nat → Int32} {mo_itemPlace : Nat → Int32} {mo_by : Nat → Int32} {mo_literalType : Nat → Int32} {mo_literalFrom : Nat → Int32} {mo_literalSize : Nat → Int32} {mo_bytes : Nat → Int32} {mo_said : Nat → Int32} {mo_number : Nat → Int64} {q_mo_ill : Int32} {q_mo_many : Nat → Int32} {q_mo_stepKind : Nat → Int32} {q_mo_stepField : Nat → Int32} {q_mo_stepOperator : Nat → Int32} {q_mo_stepOther : Nat → Int32} {q_mo_stepMany : Nat → Int32} {q_mo_top : Int32} {q_mo_open : Int32} (C : MC p s m args meth c E A cX6_joins 2 RX6 none) : ∀ (n : Nat) {l1 : Int32} {mo_ill : Int32} {mo_now : Int32} {mo_many : Nat → Int32} {mo_stepKind : Nat → Int32} {mo_stepField : Nat → Int32} {mo_stepOperator : Nat → Int32} {mo_stepOther : Nat → Int32} {mo_stepMany : Nat → Int32} {mo_pile : Nat → Int32} {mo_pilePlace : Nat → Int32} {mo_top : Int32} {mo_open : Int32} {H : Heap} {locs : List Loc} {ls : Array Slot}, WS E A s (w_mo E a_mo mo_code mo_tape mo_text mo_taped mo_size mo_at mo_ill mo_in mo_kind mo_type mo_long1 mo_letters mo_fields mo_kept mo_now mo_many mo_itemKind mo_itemField mo_itemPlace mo_by mo_stepKind mo_stepField mo_stepOperator mo_stepOther mo_stepMany mo_literalType mo_literalFrom mo_literalSize mo_bytes mo_said mo_number mo_pile mo_pilePlace mo_top mo_open) H locs → lv_has ls 2 [(0, .ref (a_mo 0)), (1, .int l1)] → f_X6_joins_0 n l1 mo_ill mo_now mo_many mo_stepKind mo_stepField mo_stepOperator mo_stepOther mo_stepMany mo_pile mo_pilePlace mo_top mo_open = some (q_mo_ill, q_mo_many, q_mo_stepKind, q_mo_stepField, q_mo_stepOperator, q_mo_stepOther, q_mo_stepMany, q_mo_top, q_mo_open) → (∀ (H : Heap) (locs : List Loc) (ls : Array Slot), WS E A s (w_mo E a_mo mo_code mo_tape mo_text mo_taped mo_size mo_at q_mo_ill mo_in mo_kind mo_type mo_long1 mo_letters mo_fields mo_kept mo_now q_mo_many mo_itemKind mo_itemField mo_itemPlace mo_by q_mo_stepKind q_mo_stepField q_mo_stepOperator q_mo_stepOther q_mo_stepMany mo_literalType mo_literalFrom mo_literalSize mo_bytes mo_said mo_number mo_pile mo_pilePlace q_mo_top q_mo_open) H locs → lv_has ls 2 [] → W p l e { frames := 2, cells := 0, slots := 0, locals := 48 } s m args below meth c H locs 0 0 Q (F0 m 82 ls [])) → W p l e { frames := 2, cells := 0, slots := 0, locals := 48 } s m args below meth c H locs 0 0 Q (F0 m 0 ls []) := by
  have hx := C.1
  have hb := C.2.1
  intro n
  induction n with
  | zero =>
    intro l1 mo_ill mo_now mo_many mo_stepKind mo_stepField mo_stepOperator mo_stepOther mo_stepMany mo_pile mo_pilePlace mo_top mo_open H locs ls hw hl hf kk
    unfold f_X6_joins_0 at hf
    cases hf
  | succ n ih =>
    intro l1 mo_ill mo_now mo_many mo_stepKind mo_stepField mo_stepOperator mo_stepOther mo_stepMany mo_pile mo_pilePlace mo_top mo_open H locs ls hw hl hf kk
    unfold f_X6_joins_0 at hf
    refine lv_aload_n hx hb dX6_joins_0 rfl (lv_at hl 0 rfl) ?_
    refine fg_X6_207 C hw 0 rfl rfl dX6_joins_1 ?_
    refine lv_if_le (tgt := 82) hx hb dX6_joins_4 (by decide) (fun c4 => ?_) (fun c4 => ?_)
    · replace hf := it_t c4 hf
      cases hf
      exact kk _ _ _ hw (lv_sub hl [] rfl)
    · replace hf := it_f c4 hf
      refine lv_aload_n hx hb dX6_joins_7 rfl (lv_at hl 0 rfl) ?_
      refine fg_X6_84 C hw 0 rfl rfl dX6_joins_8 ?_
      refine lv_aload_n hx hb dX6_joins_11 rfl (lv_at hl 0 rfl) ?_
      refine fg_X6_207 C hw 0 rfl rfl dX6_joins_12 ?_
      refine lv_iconst (v := 1) hx hb dX6_joins_15 (by decide) ?_
      refine lv_isub hx hb dX6_joins_16 ?_
      obtain ⟨x1, ex1, gx1, hf⟩ := rd_el hf
      refine ra_i C hw 24 rfl gx1 dX6_joins_17 ?_
      refine tp_i ex1 ?_
      refine lv_iload_n hx hb dX6_joins_18 rfl (lv_at hl 1 rfl) ?_
      refine lv_icmp_ne (tgt := 82) hx hb dX6_joins_19 (by decide) (fun c19 => ?_) (fun c19 => ?_)
      · replace hf := it_f c19 hf
        cases hf
        exact kk _ _ _ hw (lv_sub hl [] rfl)
      · replace hf := it_t c19 hf
        refine lv_aload_n hx hb dX6_joins_22 rfl (lv_at hl 0 rfl) ?_
        refine fg_X6_102 C hw 0 rfl rfl dX6_joins_23 ?_
        refine lv_iconst (v := -1) hx hb dX6_joins_26 (by decide) ?_
        refine lv_icmp_ne (tgt := 82) hx hb dX6_joins_27 (by decide) (fun c27 => ?_) (fun c27 => ?_)
        · replace hf := it_f c27 hf
          cases hf
          exact kk _ _ _ hw (lv_sub hl [] rfl)
        · replace hf := it_t c27 hf
          refine lv_aload_n hx hb dX6_joins_30 rfl (lv_at hl 0 rfl) ?_
          refine lv_dup hx hb dX6_joins_31 rfl ?_
          refine fg_X6_207 C hw 0 rfl rfl dX6_joins_32 ?_
          refine lv_iconst (v := 1) hx hb dX6_joins_35 (by decide) ?_
          refine lv_isub hx hb dX6_joins_36 ?_
          obtain ⟨x2, ex2, hf⟩ := on_el hf
          refine tp_i ex2 ?_
          refine fp_X6_207 C hw 0 rfl (Nat.le_of_ble_eq_true rfl) (ws' := w_mo E a_mo mo_code mo_tape mo_text mo_taped mo_size mo_at mo_ill mo_in mo_kind mo_type mo_long1 mo_letters mo_fields mo_kept mo_now mo_many mo_itemKind mo_itemField mo_itemPlace mo_by mo_stepKind mo_stepField mo_stepOperator mo_stepOther mo_stepMany mo_literalType mo_literalFrom mo_literalSize mo_bytes mo_said mo_number mo_pile mo_pilePlace x2 mo_open) rfl dX6_joins_37 (fun H locs hw => ?_)
          refine lv_aload_n hx hb dX6_joins_40 rfl (lv_at hl 0 rfl) ?_
          refine lv_dup hx hb dX6_joins_41 rfl ?_
          refine fg_X6_210 C hw 0 rfl rfl dX6_joins_42 ?_
          refine lv_iload_n hx hb dX6_joins_45 rfl (lv_at hl 1 rfl) ?_
          refine lv_iconst (v := 1) hx hb dX6_joins_46 (by decide) ?_
          refine lv_icmp_ne (tgt := 54) hx hb dX6_joins_47 (by decide) (fun c47 => ?_) (fun c47 => ?_)
          · replace hf := it_f c47 hf
            refine lv_iconst (v := 0) hx hb dX6_joins_54 (by decide) ?_
            refine lv_isub hx hb dX6_joins_55 ?_
            obtain ⟨x3, ex3, hf⟩ := on_el hf
            refine tp_i ex3 ?_
            refine fp_X6_210 C hw 0 rfl (Nat.le_of_ble_eq_true rfl) (ws' := w_mo E a_mo mo_code mo_tape mo_text mo_taped mo_size mo_at mo_ill mo_in mo_kind mo_type mo_long1 mo_letters mo_fields mo_kept mo_now mo_many mo_itemKind mo_itemField mo_itemPlace mo_by mo_stepKind mo_stepField mo_stepOperator mo_stepOther mo_stepMany mo_literalType mo_literalFrom mo_literalSize mo_bytes mo_said mo_number mo_pile mo_pilePlace x2 x3) rfl dX6_joins_56 (fun H locs hw => ?_)
            refine lv_aload_n hx hb dX6_joins_59 rfl (lv_at hl 0 rfl) ?_
            refine lv_aload_n hx hb dX6_joins_60 rfl (lv_at hl 0 rfl) ?_
            refine fg_X6_87 C hw 0 rfl rfl dX6_joins_61 ?_
            refine lv_aload_n hx hb dX6_joins_64 rfl (lv_at hl 0 rfl) ?_
            refine fg_X6_207 C hw 0 rfl rfl dX6_joins_65 ?_
            obtain ⟨x4, ex4, gx4, hf⟩ := rd_el hf
            refine ra_i C hw 25 rfl gx4 dX6_joins_68 ?_
            refine tp_i ex4 ?_
            refine lv_iload_n hx hb dX6_joins_69 rfl (lv_at hl 1 rfl) ?_
            refine lv_iconst (v := 4) hx hb dX6_joins_70 (by decide) ?_
            refine lv_iadd hx hb dX6_joins_71 ?_
            refine lv_iconst (v := -1) hx hb dX6_joins_72 (by decide) ?_
            refine lv_iconst (v := -1) hx hb dX6_joins_73 (by decide) ?_
            refine lv_iconst (v := -1) hx hb dX6_joins_74 (by decide) ?_
            refine lv_iconst (v := 0) hx hb dX6_joins_75 (by decide) ?_
            obtain ⟨x5, x6, x7, x8, x9, x10, x11, z11, hf⟩ := ob7_el hf
            refine cV_V C hw (c_X6_addStep l E a_mo mo_code mo_tape mo_text mo_taped mo_size mo_at mo_ill mo_in mo_kind mo_type mo_long1 mo_letters mo_fields mo_kept mo_now mo_many mo_itemKind mo_itemField mo_itemPlace mo_by mo_stepKind mo_stepField mo_stepOperator mo_stepOther mo_stepMany mo_literalType mo_literalFrom mo_literalSize mo_bytes mo_said mo_number mo_pile mo_pilePlace x2 x3 x4 (l1 + (4 : Int32)) (-1 : Int32) (-1 : Int32) (-1 : Int32) (0 : Int32) x5 x6 x7 x8 x9 x10 x11 z11) cs_X6_213 ⟨Nat.le_of_ble_eq_true rfl, Nat.le_of_ble_eq_true rfl⟩ ⟨rfl, rfl⟩ (ci := 6) (cn := (RX6, TX6, 35)) rfl (q0 := 0) rfl (wn := w_mo E a_mo mo_code mo_tape mo_text mo_taped mo_size mo_at x5 mo_in mo_kind mo_type mo_long1 mo_letters mo_fields mo_kept mo_now x6 mo_itemKind mo_itemField mo_itemPlace mo_by x7 x8 x9 x10 x11 mo_literalType mo_literalFrom mo_literalSize mo_bytes mo_said mo_number mo_pile mo_pilePlace x2 x3) (Jn.all _ _) rfl hl.1 rfl (Nat.le_of_ble_eq_true rfl) dX6_joins_76 ⟨Nat.zero_le _, Nat.zero_le _⟩ (fun H locs hw => ?_)
            refine lv_goto (tgt := 0) hx hb dX6_joins_79 (by decide) ?_
            exact ih hw (lv_sub hl [0, 1] rfl) hf kk
          · replace hf := it_t c47 hf
            refine lv_iconst (v := 1) hx hb dX6_joins_50 (by decide) ?_
            refine lv_goto (tgt := 55) hx hb dX6_joins_51 (by decide) ?_
            refine lv_isub hx hb dX6_joins_55 ?_
            obtain ⟨x12, ex12, hf⟩ := on_el hf
            refine tp_i ex12 ?_
            refine fp_X6_210 C hw 0 rfl (Nat.le_of_ble_eq_true rfl) (ws' := w_mo E a_mo mo_code mo_tape mo_text mo_taped mo_size mo_at mo_ill mo_in mo_kind mo_type mo_long1 mo_letters mo_fields mo_kept mo_now mo_many mo_itemKind mo_itemField mo_itemPlace mo_by mo_stepKind mo_stepField mo_stepOperator mo_stepOther mo_stepMany mo_literalType mo_literalFrom mo_literalSize mo_bytes mo_said mo_number mo_pile mo_pilePlace x2 x12) rfl dX6_joins_56 (fun H locs hw => ?_)
            refine lv_aload_n hx hb dX6_joins_59 rfl (lv_at hl 0 rfl) ?_
            refine lv_aload_n hx hb dX6_joins_60 rfl (lv_at hl 0 rfl) ?_
            refine fg_X6_87 C hw 0 rfl rfl dX6_joins_61 ?_
            refine lv_aload_n hx hb dX6_joins_64 rfl (lv_at hl 0 rfl) ?_
            refine fg_X6_207 C hw 0 rfl rfl dX6_joins_65 ?_
            obtain ⟨x13, ex13, gx13, hf⟩ := rd_el hf
            refine ra_i C hw 25 rfl gx13 dX6_joins_68 ?_
            refine tp_i ex13 ?_
            refine lv_iload_n hx hb dX6_joins_69 rfl (lv_at hl 1 rfl) ?_
            refine lv_iconst (v := 4) hx hb dX6_joins_70 (by decide) ?_
            refine lv_iadd hx hb dX6_joins_71 ?_
            refine lv_iconst (v := -1) hx hb dX6_joins_72 (by decide) ?_
            refine lv_iconst (v := -1) hx hb dX6_joins_73 (by decide) ?_
            refine lv_iconst (v := -1) hx hb dX6_joins_74 (by decide) ?_
            refine lv_iconst (v := 0) hx hb dX6_joins_75 (by decide) ?_
            obtain ⟨x14, x15, x16, x17, x18, x19, x20, z20, hf⟩ := ob7_el hf
            refine cV_V C hw (c_X6_addStep l E a_mo mo_code mo_tape mo_text mo_taped mo_size mo_at mo_ill mo_in mo_kind mo_type mo_long1 mo_letters mo_fields mo_kept mo_now mo_many mo_itemKind mo_itemField mo_itemPlace mo_by mo_stepKind mo_stepField mo_stepOperator mo_stepOther mo_stepMany mo_literalType mo_literalFrom mo_literalSize mo_bytes mo_said mo_number mo_pile mo_pilePlace x2 x12 x13 (l1 + (4 : Int32)) (-1 : Int32) (-1 : Int32) (-1 : Int32) (0 : Int32) x14 x15 x16 x17 x18 x19 x20 z20) cs_X6_213 ⟨Nat.le_of_ble_eq_true rfl, Nat.le_of_ble_eq_true rfl⟩ ⟨rfl, rfl⟩ (ci := 6) (cn := (RX6, TX6, 35)) rfl (q0 := 0) rfl (wn := w_mo E a_mo mo_code mo_tape mo_text mo_taped mo_size mo_at x14 mo_in mo_kind mo_type mo_long1 mo_letters mo_fields mo_kept mo_now x15 mo_itemKind mo_itemField mo_itemPlace mo_by x16 x17 x18 x19 x20 mo_literalType mo_literalFrom mo_literalSize mo_bytes mo_said mo_number mo_pile mo_pilePlace x2 x12) (Jn.all _ _) rfl hl.1 rfl (Nat.le_of_ble_eq_true rfl) dX6_joins_76 ⟨Nat.zero_le _, Nat.zero_le _⟩ (fun H locs hw => ?_)
            refine lv_goto (tgt := 0) hx hb dX6_joins_79 (by decide) ?_
            exact ih hw (lv_sub hl [0, 1] rfl) hf kk
def f_X6_joins (p1 : Int32) (mo_ill : Int32) (mo_now : Int32) (mo_many : Nat → Int32) (mo_stepKind : Nat → Int32) (mo_stepField : Nat → Int32) (mo_stepOperator : Nat → Int32) (mo_stepOther : Nat → Int32) (mo_stepMany : Nat → Int32) (mo_pile : Nat → Int32) (mo_pilePlace : Nat → Int32) (mo_top : Int32) (mo_open : Int32) : Option ((Int32) × (Nat → Int32) × (Nat → Int32) × (Nat → Int32) × (Nat → Int32) × (Nat → Int32) × (Nat → Int32) × (Int32) × (Int32)) :=
  ob9 (f_X6_joins_0 FU p1 mo_ill mo_now mo_many mo_stepKind mo_stepField mo_stepOperator mo_stepOther mo_stepMany mo_pile mo_pilePlace mo_top mo_open) (fun x1 x2 x3 x4 x5 x6 x7 x8 x9 =>
  some (x1, x2, x3, x4, x5, x6, x7, x8, x9))
set_option maxHeartbeats 4000000 in
set_option maxRecDepth 100000 in
theorem c_X6_joins (l : Launch) (E : EnvT) (a_mo : Nat → Nat) (mo_code : Int32) (mo_tape : Nat → Int32) (mo_text : Nat → Int32) (mo_taped : Int32) (mo_size : Int32) (mo_at : Int32) (mo_ill : Int32) (mo_in : Nat → Int32) (mo_kind : Nat → Int32) (mo_type : Nat → Int32) (mo_long1 : Nat → Int32) (mo_letters : Nat → Int32) (mo_fields : Int32) (mo_kept : Int32) (mo_now : Int32) (mo_many : Nat → Int32) (mo_itemKind : Nat → Int32) (mo_itemField : Nat → Int32) (mo_itemPlace : Nat → Int32) (mo_by : Nat → Int32) (mo_stepKind : Nat → Int32) (mo_stepField : Nat → Int32) (mo_stepOperator : Nat → Int32) (mo_stepOther : Nat → Int32) (mo_stepMany : Nat → Int32) (mo_literalType : Nat → Int32) (mo_literalFrom : Nat → Int32) (mo_literalSize : Nat → Int32) (mo_bytes : Nat → Int32) (mo_said : Nat → Int32) (mo_number : Nat → Int64) (mo_pile : Nat → Int32) (mo_pilePlace : Nat → Int32) (mo_top : Int32) (mo_open : Int32) (p1 : Int32) (o_mo_ill : Int32) (o_mo_many : Nat → Int32) (o_mo_stepKind : Nat → Int32) (o_mo_stepField : Nat → Int32) (o_mo_stepOperator : Nat → Int32) (o_mo_stepOther : Nat → Int32) (o_mo_stepMany : Nat → Int32) (o_mo_top : Int32) (o_mo_open : Int32) (hf : f_X6_joins p1 mo_ill mo_now mo_many mo_stepKind mo_stepField mo_stepOperator mo_stepOther mo_stepMany mo_pile mo_pilePlace mo_top mo_open = some (o_mo_ill, o_mo_many, o_mo_stepKind, o_mo_stepField, o_mo_stepOperator, o_mo_stepOther, o_mo_stepMany, o_mo_top, o_mo_open)) : CV l yX6_joins (Cond.code yX6_joins cX6_joins 2 none) { frames := 2, cells := 0, slots := 0, locals := 48 } E [.ref (a_mo 0), .int p1] (w_mo E a_mo mo_code mo_tape mo_text mo_taped mo_size mo_at mo_ill mo_in mo_kind mo_type mo_long1 mo_letters mo_fields mo_kept mo_now mo_many mo_itemKind mo_itemField mo_itemPlace mo_by mo_stepKind mo_stepField mo_stepOperator mo_stepOther mo_stepMany mo_literalType mo_literalFrom mo_literalSize mo_bytes mo_said mo_number mo_pile mo_pilePlace mo_top mo_open) (w_mo E a_mo mo_code mo_tape mo_text mo_taped mo_size mo_at o_mo_ill mo_in mo_kind mo_type mo_long1 mo_letters mo_fields mo_kept mo_now o_mo_many mo_itemKind mo_itemField mo_itemPlace mo_by o_mo_stepKind o_mo_stepField o_mo_stepOperator o_mo_stepOther o_mo_stepMany mo_literalType mo_literalFrom mo_literalSize mo_bytes mo_said mo_number mo_pile mo_pilePlace o_mo_top o_mo_open) := by
  intro sz
  refine met_start [(0, .ref (a_mo 0)), (1, .int p1)] (by decide) rfl rfl (Nat.le_of_ble_eq_true rfl) rfl ?_
  intro p e s m below meth c ls C hnm hmt hw hl
  have hx := C.1
  have hb := C.2.1
  generalize va_A (w_mo E a_mo mo_code mo_tape mo_text mo_taped mo_size mo_at mo_ill mo_in mo_kind mo_type mo_long1 mo_letters mo_fields mo_kept mo_now mo_many mo_itemKind mo_itemField mo_itemPlace mo_by mo_stepKind mo_stepField mo_stepOperator mo_stepOther mo_stepMany mo_literalType mo_literalFrom mo_literalSize mo_bytes mo_said mo_number mo_pile mo_pilePlace mo_top mo_open) sz = A at C hw ⊢
  unfold f_X6_joins at hf
  obtain ⟨x1, x2, x3, x4, x5, x6, x7, x8, x9, hx1, hf⟩ := ob9_el hf
  refine w_X6_joins_0 C FU hw (lv_sub hl [0, 1] rfl) hx1 ?_
  clear hw hl
  intro H locs ls hw hl
  cases hf
  exact rt_v C hw dX6_joins_82
def f_X6_behind_59 : Nat → (Int32) → (Int32) → (Int32) → (Nat → Int32) → (Int32) → (Int32) → (Int32) → Option ((Int32) × (Int32) × (Int32))
  | 0, _, _, _, _, _, _, _ => none
  | n + 1, l1, l3, l4, mo_text, mo_size, mo_at, mo_ill =>
  if (2 : Int32) ≤ l4 then (some (l3, mo_at, mo_ill))
  else (if mo_ill = (-1 : Int32) then (ob1 (f_X6_look mo_text mo_size mo_at) (fun x1 =>
  ob1 (f_X6_isDigit x1) (fun x2 =>
  if x2 = (0 : Int32) then (if x1 < (97 : Int32) then (if (-1 : Int32) = (-1 : Int32) then (if x1 = (-1 : Int32) then (ob1 (f_X6_fail mo_size mo_ill) (fun x10 =>
  on (((16 : Int32) * l3) + (-1 : Int32)) (fun x11 =>
  on (mo_at + (1 : Int32)) (fun x12 =>
  on (l4 + (1 : Int32)) (fun x13 =>
  f_X6_behind_59 n l1 x11 x13 mo_text mo_size x12 x10)))))
  else (ob1 (f_X6_fail l1 mo_ill) (fun x6 =>
  on (((16 : Int32) * l3) + (-1 : Int32)) (fun x7 =>
  on (mo_at + (1 : Int32)) (fun x8 =>
  on (l4 + (1 : Int32)) (fun x9 =>
  f_X6_behind_59 n l1 x7 x9 mo_text mo_size x8 x6))))))
  else (on (((16 : Int32) * l3) + (-1 : Int32)) (fun x3 =>
  on (mo_at + (1 : Int32)) (fun x4 =>
  on (l4 + (1 : Int32)) (fun x5 =>
  f_X6_behind_59 n l1 x3 x5 mo_text mo_size x4 mo_ill)))))
  else (if (102 : Int32) < x1 then (if (-1 : Int32) = (-1 : Int32) then (if x1 = (-1 : Int32) then (ob1 (f_X6_fail mo_size mo_ill) (fun x21 =>
  on (((16 : Int32) * l3) + (-1 : Int32)) (fun x22 =>
  on (mo_at + (1 : Int32)) (fun x23 =>
  on (l4 + (1 : Int32)) (fun x24 =>
  f_X6_behind_59 n l1 x22 x24 mo_text mo_size x23 x21)))))
  else (ob1 (f_X6_fail l1 mo_ill) (fun x17 =>
  on (((16 : Int32) * l3) + (-1 : Int32)) (fun x18 =>
  on (mo_at + (1 : Int32)) (fun x19 =>
  on (l4 + (1 : Int32)) (fun x20 =>
  f_X6_behind_59 n l1 x18 x20 mo_text mo_size x19 x17))))))
  else (on (((16 : Int32) * l3) + (-1 : Int32)) (fun x14 =>
  on (mo_at + (1 : Int32)) (fun x15 =>
  on (l4 + (1 : Int32)) (fun x16 =>
  f_X6_behind_59 n l1 x14 x16 mo_text mo_size x15 mo_ill)))))
  else (on ((x1 - (97 : Int32)) + (10 : Int32)) (fun x25 =>
  if x25 = (-1 : Int32) then (if x1 = (-1 : Int32) then (ob1 (f_X6_fail mo_size mo_ill) (fun x33 =>
  on (((16 : Int32) * l3) + x25) (fun x34 =>
  on (mo_at + (1 : Int32)) (fun x35 =>
  on (l4 + (1 : Int32)) (fun x36 =>
  f_X6_behind_59 n l1 x34 x36 mo_text mo_size x35 x33)))))
  else (ob1 (f_X6_fail l1 mo_ill) (fun x29 =>
  on (((16 : Int32) * l3) + x25) (fun x30 =>
  on (mo_at + (1 : Int32)) (fun x31 =>
  on (l4 + (1 : Int32)) (fun x32 =>
  f_X6_behind_59 n l1 x30 x32 mo_text mo_size x31 x29))))))
  else (on (((16 : Int32) * l3) + x25) (fun x26 =>
  on (mo_at + (1 : Int32)) (fun x27 =>
  on (l4 + (1 : Int32)) (fun x28 =>
  f_X6_behind_59 n l1 x26 x28 mo_text mo_size x27 mo_ill))))))))
  else (on (x1 - (48 : Int32)) (fun x37 =>
  if x37 = (-1 : Int32) then (if x1 = (-1 : Int32) then (ob1 (f_X6_fail mo_size mo_ill) (fun x45 =>
  on (((16 : Int32) * l3) + x37) (fun x46 =>
  on (mo_at + (1 : Int32)) (fun x47 =>
  on (l4 + (1 : Int32)) (fun x48 =>
  f_X6_behind_59 n l1 x46 x48 mo_text mo_size x47 x45)))))
  else (ob1 (f_X6_fail l1 mo_ill) (fun x41 =>
  on (((16 : Int32) * l3) + x37) (fun x42 =>
  on (mo_at + (1 : Int32)) (fun x43 =>
  on (l4 + (1 : Int32)) (fun x44 =>
  f_X6_behind_59 n l1 x42 x44 mo_text mo_size x43 x41))))))
  else (on (((16 : Int32) * l3) + x37) (fun x38 =>
  on (mo_at + (1 : Int32)) (fun x39 =>
  on (l4 + (1 : Int32)) (fun x40 =>
  f_X6_behind_59 n l1 x38 x40 mo_text mo_size x39 mo_ill)))))))))
  else (some (l3, mo_at, mo_ill)))
set_option maxHeartbeats 4000000 in
set_option maxRecDepth 100000 in
theorem w_X6_behind_59 {p : Program} {l : Launch} {e : Env} {s : State} {m : MethodId} {args : Array Value} {below : List Frame} {meth : Method} {c : Code} {E : EnvT} {A : Nat → Prop} {a_mo : Nat → Nat} {Q : State → Prop} {mo_code : Int32} {mo_tape : Nat → Int32} {mo_taped : Int32} {mo_in : Nat → Int32} {mo_kind : Nat → Int32} {mo_type : Nat → Int32} {mo_long1 : Nat → Int32} {mo_letters : Nat → Int32} {mo_fields : Int32} {mo_kept : Int32} {mo_now : Int32} {mo_many : Nat → Int32} {mo_itemKind : Nat → Int32} {mo_itemField : Nat → Int32} {mo_itemPlace : Nat → Int32} {mo_by : Nat → Int32} {mo_stepKind : Nat → Int32} {mo_stepField : Nat → Int32} {mo_stepOperator : Nat → Int32} {mo_stepOther : Nat → Int32} {mo_stepMany : Nat → Int32} {mo_literalType : Nat → Int32} {mo_literalFrom : Nat → Int32} {mo_literalSize : Nat → Int32} {mo_bytes : Nat → Int32} {mo_said : Nat → Int32} {mo_number : Nat → Int64} {mo_pile : Nat → Int32} {mo_pilePlace : Nat → Int32} {mo_top : Int32} {mo_open : Int32} {q_l3 : Int32} {q_mo_at : Int32} {q_mo_ill : Int32} (C : MC p s m args meth c E A cX6_behind 7 RX6 (some .int)) : ∀ (n : Nat) {l1 : Int32} {l3 : Int32} {l4 : Int32} {mo_text : Nat → Int32} {mo_size : Int32} {mo_at : Int32} {mo_ill : Int32} {H : Heap} {locs : List Loc} {ls : Array Slot}, WS E A s (w_mo E a_mo mo_code mo_tape mo_text mo_taped mo_size mo_at mo_ill mo_in mo_kind mo_type mo_long1 mo_letters mo_fields mo_kept mo_now mo_many mo_itemKind mo_itemField mo_itemPlace mo_by mo_stepKind mo_stepField mo_stepOperator mo_stepOther mo_stepMany mo_literalType mo_literalFrom mo_literalSize mo_bytes mo_said mo_number mo_pile mo_pilePlace mo_top mo_open) H locs → lv_has ls 7 [(0, .ref (a_mo 0)), (1, .int l1), (3, .int l3), (4, .int l4)] → f_X6_behind_59 n l1 l3 l4 mo_text mo_size mo_at mo_ill = some (q_l3, q_mo_at, q_mo_ill) → (∀ (H : Heap) (locs : List Loc) (ls : Array Slot), WS E A s (w_mo E a_mo mo_code mo_tape mo_text mo_taped mo_size q_mo_at q_mo_ill mo_in mo_kind mo_type mo_long1 mo_letters mo_fields mo_kept mo_now mo_many mo_itemKind mo_itemField mo_itemPlace mo_by mo_stepKind mo_stepField mo_stepOperator mo_stepOther mo_stepMany mo_literalType mo_literalFrom mo_literalSize mo_bytes mo_said mo_number mo_pile mo_pilePlace mo_top mo_open) H locs → lv_has ls 7 [(3, .int q_l3)] → W p l e { frames := 1, cells := 0, slots := 0, locals := 21 } s m args below meth c H locs 0 0 Q (F0 m 171 ls [])) → W p l e { frames := 1, cells := 0, slots := 0, locals := 21 } s m args below meth c H locs 0 0 Q (F0 m 59 ls []) := by
  have hx := C.1
  have hb := C.2.1
  intro n
  induction n with
  | zero =>
    intro l1 l3 l4 mo_text mo_size mo_at mo_ill H locs ls hw hl hf kk
    unfold f_X6_behind_59 at hf
    cases hf
  | succ n ih =>
    intro l1 l3 l4 mo_text mo_size mo_at mo_ill H locs ls hw hl hf kk
    unfold f_X6_behind_59 at hf
    refine lv_iload hx hb dX6_behind_59 (lv_at hl 3 rfl) ?_
    refine lv_iconst (v := 2) hx hb dX6_behind_61 (by decide) ?_
    refine lv_icmp_ge (tgt := 171) hx hb dX6_behind_62 (by decide) (fun c62 => ?_) (fun c62 => ?_)
    · replace hf := it_t c62 hf
      cases hf
      exact kk _ _ _ hw (lv_sub hl [2] rfl)
    · replace hf := it_f c62 hf
      refine lv_aload_n hx hb dX6_behind_65 rfl (lv_at hl 0 rfl) ?_
      refine fg_X6_102 C hw 0 rfl rfl dX6_behind_66 ?_
      refine lv_iconst (v := -1) hx hb dX6_behind_69 (by decide) ?_
      refine lv_icmp_ne (tgt := 171) hx hb dX6_behind_70 (by decide) (fun c70 => ?_) (fun c70 => ?_)
      · replace hf := it_f c70 hf
        cases hf
        exact kk _ _ _ hw (lv_sub hl [2] rfl)
      · replace hf := it_t c70 hf
        refine lv_aload_n hx hb dX6_behind_73 rfl (lv_at hl 0 rfl) ?_
        obtain ⟨x1, z1, hf⟩ := ob1_el hf
        refine cI_V C hw (c_X6_look l E a_mo mo_code mo_tape mo_text mo_taped mo_size mo_at mo_ill mo_in mo_kind mo_type mo_long1 mo_letters mo_fields mo_kept mo_now mo_many mo_itemKind mo_itemField mo_itemPlace mo_by mo_stepKind mo_stepField mo_stepOperator mo_stepOther mo_stepMany mo_literalType mo_literalFrom mo_literalSize mo_bytes mo_said mo_number mo_pile mo_pilePlace mo_top mo_open x1 z1) cs_X6_126 ⟨Nat.le_of_ble_eq_true rfl, Nat.le_of_ble_eq_true rfl⟩ ⟨rfl, rfl⟩ (ci := 6) (cn := (RX6, TX6, 35)) rfl (q0 := 0) rfl (wn := w_mo E a_mo mo_code mo_tape mo_text mo_taped mo_size mo_at mo_ill mo_in mo_kind mo_type mo_long1 mo_letters mo_fields mo_kept mo_now mo_many mo_itemKind mo_itemField mo_itemPlace mo_by mo_stepKind mo_stepField mo_stepOperator mo_stepOther mo_stepMany mo_literalType mo_literalFrom mo_literalSize mo_bytes mo_said mo_number mo_pile mo_pilePlace mo_top mo_open) (Jn.all _ _) rfl hl.1 rfl (Nat.le_of_ble_eq_true rfl) dX6_behind_74 ⟨Nat.zero_le _, Nat.zero_le _⟩ (fun H locs hw => ?_)
        refine lv_istore (lv' := [(5, .int x1), (0, .ref (a_mo 0)), (1, .int l1), (3, .int l3), (4, .int l4)]) hx hb dX6_behind_77 hl (by decide) rfl (fun ls hl => ?_)
        refine lv_iload hx hb dX6_behind_79 (lv_at hl 0 rfl) ?_
        obtain ⟨x2, z2, hf⟩ := ob1_el hf
        refine cI_S C hw (c_X6_isDigit l E x1 x2 z2) cs_X6_109 ⟨Nat.le_of_ble_eq_true rfl, Nat.le_of_ble_eq_true rfl⟩ ⟨rfl, rfl⟩ (wn := w_mo E a_mo mo_code mo_tape mo_text mo_taped mo_size mo_at mo_ill mo_in mo_kind mo_type mo_long1 mo_letters mo_fields mo_kept mo_now mo_many mo_itemKind mo_itemField mo_itemPlace mo_by mo_stepKind mo_stepField mo_stepOperator mo_stepOther mo_stepMany mo_literalType mo_literalFrom mo_literalSize mo_bytes mo_said mo_number mo_pile mo_pilePlace mo_top mo_open) (Jn.none _) rfl hl.1 rfl (Nat.le_of_ble_eq_true rfl) dX6_behind_81 ⟨Nat.zero_le _, Nat.zero_le _⟩ (fun H locs hw => ?_)
        refine lv_if_eq (tgt := 95) hx hb dX6_behind_84 (by decide) (fun c84 => ?_) (fun c84 => ?_)
        · replace hf := it_t c84 hf
          refine lv_iload hx hb dX6_behind_95 (lv_at hl 0 rfl) ?_
          refine lv_bipush (v := 97) hx hb dX6_behind_97 (by decide) ?_
          refine lv_icmp_lt (tgt := 120) hx hb dX6_behind_99 (by decide) (fun c99 => ?_) (fun c99 => ?_)
          · replace hf := it_t c99 hf
            refine lv_iconst (v := -1) hx hb dX6_behind_120 (by decide) ?_
            refine lv_istore (lv' := [(6, .int (-1 : Int32)), (5, .int x1), (0, .ref (a_mo 0)), (1, .int l1), (3, .int l3), (4, .int l4)]) hx hb dX6_behind_121 hl (by decide) rfl (fun ls hl => ?_)
            refine lv_iload hx hb dX6_behind_123 (lv_at hl 0 rfl) ?_
            refine lv_iconst (v := -1) hx hb dX6_behind_125 (by decide) ?_
            refine lv_icmp_ne (tgt := 147) hx hb dX6_behind_126 (by decide) (fun c126 => ?_) (fun c126 => ?_)
            · replace hf := it_f c126 hf
              refine lv_bipush (v := 16) hx hb dX6_behind_147 (by decide) ?_
              refine lv_iload_n hx hb dX6_behind_149 rfl (lv_at hl 4 rfl) ?_
              refine lv_imul hx hb dX6_behind_150 ?_
              refine lv_iload hx hb dX6_behind_151 (lv_at hl 0 rfl) ?_
              refine lv_iadd hx hb dX6_behind_153 ?_
              obtain ⟨x3, ex3, hf⟩ := on_el hf
              refine tp_i ex3 ?_
              refine lv_istore_n (lv' := [(3, .int x3), (6, .int (-1 : Int32)), (5, .int x1), (0, .ref (a_mo 0)), (1, .int l1), (4, .int l4)]) hx hb dX6_behind_154 rfl hl (by decide) rfl (fun ls hl => ?_)
              refine lv_aload_n hx hb dX6_behind_155 rfl (lv_at hl 3 rfl) ?_
              refine lv_dup hx hb dX6_behind_156 rfl ?_
              refine fg_X6_99 C hw 0 rfl rfl dX6_behind_157 ?_
              refine lv_iconst (v := 1) hx hb dX6_behind_160 (by decide) ?_
              refine lv_iadd hx hb dX6_behind_161 ?_
              obtain ⟨x4, ex4, hf⟩ := on_el hf
              refine tp_i ex4 ?_
              refine fp_X6_99 C hw 0 rfl (Nat.le_of_ble_eq_true rfl) (ws' := w_mo E a_mo mo_code mo_tape mo_text mo_taped mo_size x4 mo_ill mo_in mo_kind mo_type mo_long1 mo_letters mo_fields mo_kept mo_now mo_many mo_itemKind mo_itemField mo_itemPlace mo_by mo_stepKind mo_stepField mo_stepOperator mo_stepOther mo_stepMany mo_literalType mo_literalFrom mo_literalSize mo_bytes mo_said mo_number mo_pile mo_pilePlace mo_top mo_open) rfl dX6_behind_162 (fun H locs hw => ?_)
              obtain ⟨x5, ex5, hf⟩ := on_el hf
              refine lv_iinc (v := x5) (lv' := [(4, .int x5), (3, .int x3), (6, .int (-1 : Int32)), (5, .int x1), (0, .ref (a_mo 0)), (1, .int l1)]) hx hb dX6_behind_165 hl (k := 5) rfl (by rw [← ex5]; rfl) (by decide) rfl (fun ls hl => ?_)
              refine lv_goto (tgt := 59) hx hb dX6_behind_168 (by decide) ?_
              exact ih hw (lv_sub hl [4, 5, 1, 0] rfl) hf kk
            · replace hf := it_t c126 hf
              refine lv_aload_n hx hb dX6_behind_129 rfl (lv_at hl 2 rfl) ?_
              refine lv_iload hx hb dX6_behind_130 (lv_at hl 1 rfl) ?_
              refine lv_iconst (v := -1) hx hb dX6_behind_132 (by decide) ?_
              refine lv_icmp_ne (tgt := 143) hx hb dX6_behind_133 (by decide) (fun c133 => ?_) (fun c133 => ?_)
              · replace hf := it_f c133 hf
                refine lv_iload_n hx hb dX6_behind_143 rfl (lv_at hl 3 rfl) ?_
                obtain ⟨x6, z6, hf⟩ := ob1_el hf
                refine cV_V C hw (c_X6_fail l E a_mo mo_code mo_tape mo_text mo_taped mo_size mo_at mo_ill mo_in mo_kind mo_type mo_long1 mo_letters mo_fields mo_kept mo_now mo_many mo_itemKind mo_itemField mo_itemPlace mo_by mo_stepKind mo_stepField mo_stepOperator mo_stepOther mo_stepMany mo_literalType mo_literalFrom mo_literalSize mo_bytes mo_said mo_number mo_pile mo_pilePlace mo_top mo_open l1 x6 z6) cs_X6_144 ⟨Nat.le_of_ble_eq_true rfl, Nat.le_of_ble_eq_true rfl⟩ ⟨rfl, rfl⟩ (ci := 6) (cn := (RX6, TX6, 35)) rfl (q0 := 0) rfl (wn := w_mo E a_mo mo_code mo_tape mo_text mo_taped mo_size mo_at x6 mo_in mo_kind mo_type mo_long1 mo_letters mo_fields mo_kept mo_now mo_many mo_itemKind mo_itemField mo_itemPlace mo_by mo_stepKind mo_stepField mo_stepOperator mo_stepOther mo_stepMany mo_literalType mo_literalFrom mo_literalSize mo_bytes mo_said mo_number mo_pile mo_pilePlace mo_top mo_open) (Jn.all _ _) rfl hl.1 rfl (Nat.le_of_ble_eq_true rfl) dX6_behind_144 ⟨Nat.zero_le _, Nat.zero_le _⟩ (fun H locs hw => ?_)
                refine lv_bipush (v := 16) hx hb dX6_behind_147 (by decide) ?_
                refine lv_iload_n hx hb dX6_behind_149 rfl (lv_at hl 4 rfl) ?_
                refine lv_imul hx hb dX6_behind_150 ?_
                refine lv_iload hx hb dX6_behind_151 (lv_at hl 0 rfl) ?_
                refine lv_iadd hx hb dX6_behind_153 ?_
                obtain ⟨x7, ex7, hf⟩ := on_el hf
                refine tp_i ex7 ?_
                refine lv_istore_n (lv' := [(3, .int x7), (6, .int (-1 : Int32)), (5, .int x1), (0, .ref (a_mo 0)), (1, .int l1), (4, .int l4)]) hx hb dX6_behind_154 rfl hl (by decide) rfl (fun ls hl => ?_)
                refine lv_aload_n hx hb dX6_behind_155 rfl (lv_at hl 3 rfl) ?_
                refine lv_dup hx hb dX6_behind_156 rfl ?_
                refine fg_X6_99 C hw 0 rfl rfl dX6_behind_157 ?_
                refine lv_iconst (v := 1) hx hb dX6_behind_160 (by decide) ?_
                refine lv_iadd hx hb dX6_behind_161 ?_
                obtain ⟨x8, ex8, hf⟩ := on_el hf
                refine tp_i ex8 ?_
                refine fp_X6_99 C hw 0 rfl (Nat.le_of_ble_eq_true rfl) (ws' := w_mo E a_mo mo_code mo_tape mo_text mo_taped mo_size x8 x6 mo_in mo_kind mo_type mo_long1 mo_letters mo_fields mo_kept mo_now mo_many mo_itemKind mo_itemField mo_itemPlace mo_by mo_stepKind mo_stepField mo_stepOperator mo_stepOther mo_stepMany mo_literalType mo_literalFrom mo_literalSize mo_bytes mo_said mo_number mo_pile mo_pilePlace mo_top mo_open) rfl dX6_behind_162 (fun H locs hw => ?_)
                obtain ⟨x9, ex9, hf⟩ := on_el hf
                refine lv_iinc (v := x9) (lv' := [(4, .int x9), (3, .int x7), (6, .int (-1 : Int32)), (5, .int x1), (0, .ref (a_mo 0)), (1, .int l1)]) hx hb dX6_behind_165 hl (k := 5) rfl (by rw [← ex9]; rfl) (by decide) rfl (fun ls hl => ?_)
                refine lv_goto (tgt := 59) hx hb dX6_behind_168 (by decide) ?_
                exact ih hw (lv_sub hl [4, 5, 1, 0] rfl) hf kk
              · replace hf := it_t c133 hf
                refine lv_aload_n hx hb dX6_behind_136 rfl (lv_at hl 2 rfl) ?_
                refine fg_X6_96 C hw 0 rfl rfl dX6_behind_137 ?_
                refine lv_goto (tgt := 144) hx hb dX6_behind_140 (by decide) ?_
                obtain ⟨x10, z10, hf⟩ := ob1_el hf
                refine cV_V C hw (c_X6_fail l E a_mo mo_code mo_tape mo_text mo_taped mo_size mo_at mo_ill mo_in mo_kind mo_type mo_long1 mo_letters mo_fields mo_kept mo_now mo_many mo_itemKind mo_itemField mo_itemPlace mo_by mo_stepKind mo_stepField mo_stepOperator mo_stepOther mo_stepMany mo_literalType mo_literalFrom mo_literalSize mo_bytes mo_said mo_number mo_pile mo_pilePlace mo_top mo_open mo_size x10 z10) cs_X6_144 ⟨Nat.le_of_ble_eq_true rfl, Nat.le_of_ble_eq_true rfl⟩ ⟨rfl, rfl⟩ (ci := 6) (cn := (RX6, TX6, 35)) rfl (q0 := 0) rfl (wn := w_mo E a_mo mo_code mo_tape mo_text mo_taped mo_size mo_at x10 mo_in mo_kind mo_type mo_long1 mo_letters mo_fields mo_kept mo_now mo_many mo_itemKind mo_itemField mo_itemPlace mo_by mo_stepKind mo_stepField mo_stepOperator mo_stepOther mo_stepMany mo_literalType mo_literalFrom mo_literalSize mo_bytes mo_said mo_number mo_pile mo_pilePlace mo_top mo_open) (Jn.all _ _) rfl hl.1 rfl (Nat.le_of_ble_eq_true rfl) dX6_behind_144 ⟨Nat.zero_le _, Nat.zero_le _⟩ (fun H locs hw => ?_)
                refine lv_bipush (v := 16) hx hb dX6_behind_147 (by decide) ?_
                refine lv_iload_n hx hb dX6_behind_149 rfl (lv_at hl 4 rfl) ?_
                refine lv_imul hx hb dX6_behind_150 ?_
                refine lv_iload hx hb dX6_behind_151 (lv_at hl 0 rfl) ?_
                refine lv_iadd hx hb dX6_behind_153 ?_
                obtain ⟨x11, ex11, hf⟩ := on_el hf
                refine tp_i ex11 ?_
                refine lv_istore_n (lv' := [(3, .int x11), (6, .int (-1 : Int32)), (5, .int x1), (0, .ref (a_mo 0)), (1, .int l1), (4, .int l4)]) hx hb dX6_behind_154 rfl hl (by decide) rfl (fun ls hl => ?_)
                refine lv_aload_n hx hb dX6_behind_155 rfl (lv_at hl 3 rfl) ?_
                refine lv_dup hx hb dX6_behind_156 rfl ?_
                refine fg_X6_99 C hw 0 rfl rfl dX6_behind_157 ?_
                refine lv_iconst (v := 1) hx hb dX6_behind_160 (by decide) ?_
                refine lv_iadd hx hb dX6_behind_161 ?_
                obtain ⟨x12, ex12, hf⟩ := on_el hf
                refine tp_i ex12 ?_
                refine fp_X6_99 C hw 0 rfl (Nat.le_of_ble_eq_true rfl) (ws' := w_mo E a_mo mo_code mo_tape mo_text mo_taped mo_size x12 x10 mo_in mo_kind mo_type mo_long1 mo_letters mo_fields mo_kept mo_now mo_many mo_itemKind mo_itemField mo_itemPlace mo_by mo_stepKind mo_stepField mo_stepOperator mo_stepOther mo_stepMany mo_literalType mo_literalFrom mo_literalSize mo_bytes mo_said mo_number mo_pile mo_pilePlace mo_top mo_open) rfl dX6_behind_162 (fun H locs hw => ?_)
                obtain ⟨x13, ex13, hf⟩ := on_el hf
                refine lv_iinc (v := x13) (lv' := [(4, .int x13), (3, .int x11), (6, .int (-1 : Int32)), (5, .int x1), (0, .ref (a_mo 0)), (1, .int l1)]) hx hb dX6_behind_165 hl (k := 5) rfl (by rw [← ex13]; rfl) (by decide) rfl (fun ls hl => ?_)
                refine lv_goto (tgt := 59) hx hb dX6_behind_168 (by decide) ?_
                exact ih hw (lv_sub hl [4, 5, 1, 0] rfl) hf kk
          · replace hf := it_f c99 hf
            refine lv_iload hx hb dX6_behind_102 (lv_at hl 0 rfl) ?_
            refine lv_bipush (v := 102) hx hb dX6_behind_104 (by decide) ?_
            refine lv_icmp_gt (tgt := 120) hx hb dX6_behind_106 (by decide) (fun c106 => ?_) (fun c106 => ?_)
            · replace hf := it_t c106 hf
              refine lv_iconst (v := -1) hx hb dX6_behind_120 (by decide) ?_
              refine lv_istore (lv' := [(6, .int (-1 : Int32)), (5, .int x1), (0, .ref (a_mo 0)), (1, .int l1), (3, .int l3), (4, .int l4)]) hx hb dX6_behind_121 hl (by decide) rfl (fun ls hl => ?_)
              refine lv_iload hx hb dX6_behind_123 (lv_at hl 0 rfl) ?_
              refine lv_iconst (v := -1) hx hb dX6_behind_125 (by decide) ?_
              refine lv_icmp_ne (tgt := 147) hx hb dX6_behind_126 (by decide) (fun c126 => ?_) (fun c126 => ?_)
              · replace hf := it_f c126 hf
                refine lv_bipush (v := 16) hx hb dX6_behind_147 (by decide) ?_
                refine lv_iload_n hx hb dX6_behind_149 rfl (lv_at hl 4 rfl) ?_
                refine lv_imul hx hb dX6_behind_150 ?_
                refine lv_iload hx hb dX6_behind_151 (lv_at hl 0 rfl) ?_
                refine lv_iadd hx hb dX6_behind_153 ?_
                obtain ⟨x14, ex14, hf⟩ := on_el hf
                refine tp_i ex14 ?_
                refine lv_istore_n (lv' := [(3, .int x14), (6, .int (-1 : Int32)), (5, .int x1), (0, .ref (a_mo 0)), (1, .int l1), (4, .int l4)]) hx hb dX6_behind_154 rfl hl (by decide) rfl (fun ls hl => ?_)
                refine lv_aload_n hx hb dX6_behind_155 rfl (lv_at hl 3 rfl) ?_
                refine lv_dup hx hb dX6_behind_156 rfl ?_
                refine fg_X6_99 C hw 0 rfl rfl dX6_behind_157 ?_
                refine lv_iconst (v := 1) hx hb dX6_behind_160 (by decide) ?_
                refine lv_iadd hx hb dX6_behind_161 ?_
                obtain ⟨x15, ex15, hf⟩ := on_el hf
                refine tp_i ex15 ?_
                refine fp_X6_99 C hw 0 rfl (Nat.le_of_ble_eq_true rfl) (ws' := w_mo E a_mo mo_code mo_tape mo_text mo_taped mo_size x15 mo_ill mo_in mo_kind mo_type mo_long1 mo_letters mo_fields mo_kept mo_now mo_many mo_itemKind mo_itemField mo_itemPlace mo_by mo_stepKind mo_stepField mo_stepOperator mo_stepOther mo_stepMany mo_literalType mo_literalFrom mo_literalSize mo_bytes mo_said mo_number mo_pile mo_pilePlace mo_top mo_open) rfl dX6_behind_162 (fun H locs hw => ?_)
                obtain ⟨x16, ex16, hf⟩ := on_el hf
                refine lv_iinc (v := x16) (lv' := [(4, .int x16), (3, .int x14), (6, .int (-1 : Int32)), (5, .int x1), (0, .ref (a_mo 0)), (1, .int l1)]) hx hb dX6_behind_165 hl (k := 5) rfl (by rw [← ex16]; rfl) (by decide) rfl (fun ls hl => ?_)
                refine lv_goto (tgt := 59) hx hb dX6_behind_168 (by decide) ?_
                exact ih hw (lv_sub hl [4, 5, 1, 0] rfl) hf kk
              · replace hf := it_t c126 hf
                refine lv_aload_n hx hb dX6_behind_129 rfl (lv_at hl 2 rfl) ?_
                refine lv_iload hx hb dX6_behind_130 (lv_at hl 1 rfl) ?_
                refine lv_iconst (v := -1) hx hb dX6_behind_132 (by decide) ?_
                refine lv_icmp_ne (tgt := 143) hx hb dX6_behind_133 (by decide) (fun c133 => ?_) (fun c133 => ?_)
                · replace hf := it_f c133 hf
                  refine lv_iload_n hx hb dX6_behind_143 rfl (lv_at hl 3 rfl) ?_
                  obtain ⟨x17, z17, hf⟩ := ob1_el hf
                  refine cV_V C hw (c_X6_fail l E a_mo mo_code mo_tape mo_text mo_taped mo_size mo_at mo_ill mo_in mo_kind mo_type mo_long1 mo_letters mo_fields mo_kept mo_now mo_many mo_itemKind mo_itemField mo_itemPlace mo_by mo_stepKind mo_stepField mo_stepOperator mo_stepOther mo_stepMany mo_literalType mo_literalFrom mo_literalSize mo_bytes mo_said mo_number mo_pile mo_pilePlace mo_top mo_open l1 x17 z17) cs_X6_144 ⟨Nat.le_of_ble_eq_true rfl, Nat.le_of_ble_eq_true rfl⟩ ⟨rfl, rfl⟩ (ci := 6) (cn := (RX6, TX6, 35)) rfl (q0 := 0) rfl (wn := w_mo E a_mo mo_code mo_tape mo_text mo_taped mo_size mo_at x17 mo_in mo_kind mo_type mo_long1 mo_letters mo_fields mo_kept mo_now mo_many mo_itemKind mo_itemField mo_itemPlace mo_by mo_stepKind mo_stepField mo_stepOperator mo_stepOther mo_stepMany mo_literalType mo_literalFrom mo_literalSize mo_bytes mo_said mo_number mo_pile mo_pilePlace mo_top mo_open) (Jn.all _ _) rfl hl.1 rfl (Nat.le_of_ble_eq_true rfl) dX6_behind_144 ⟨Nat.zero_le _, Nat.zero_le _⟩ (fun H locs hw => ?_)
                  refine lv_bipush (v := 16) hx hb dX6_behind_147 (by decide) ?_
                  refine lv_iload_n hx hb dX6_behind_149 rfl (lv_at hl 4 rfl) ?_
                  refine lv_imul hx hb dX6_behind_150 ?_
                  refine lv_iload hx hb dX6_behind_151 (lv_at hl 0 rfl) ?_
                  refine lv_iadd hx hb dX6_behind_153 ?_
                  obtain ⟨x18, ex18, hf⟩ := on_el hf
                  refine tp_i ex18 ?_
                  refine lv_istore_n (lv' := [(3, .int x18), (6, .int (-1 : Int32)), (5, .int x1), (0, .ref (a_mo 0)), (1, .int l1), (4, .int l4)]) hx hb dX6_behind_154 rfl hl (by decide) rfl (fun ls hl => ?_)
                  refine lv_aload_n hx hb dX6_behind_155 rfl (lv_at hl 3 rfl) ?_
                  refine lv_dup hx hb dX6_behind_156 rfl ?_
                  refine fg_X6_99 C hw 0 rfl rfl dX6_behind_157 ?_
                  refine lv_iconst (v := 1) hx hb dX6_behind_160 (by decide) ?_
                  refine lv_iadd hx hb dX6_behind_161 ?_
                  obtain ⟨x19, ex19, hf⟩ := on_el hf
                  refine tp_i ex19 ?_
                  refine fp_X6_99 C hw 0 rfl (Nat.le_of_ble_eq_true rfl) (ws' := w_mo E a_mo mo_code mo_tape mo_text mo_taped mo_size x19 x17 mo_in mo_kind mo_type mo_long1 mo_letters mo_fields mo_kept mo_now mo_many mo_itemKind mo_itemField mo_itemPlace mo_by mo_stepKind mo_stepField mo_stepOperator mo_stepOther mo_stepMany mo_literalType mo_literalFrom mo_literalSize mo_bytes mo_said mo_number mo_pile mo_pilePlace mo_top mo_open) rfl dX6_behind_162 (fun H locs hw => ?_)
                  obtain ⟨x20, ex20, hf⟩ := on_el hf
                  refine lv_iinc (v := x20) (lv' := [(4, .int x20), (3, .int x18), (6, .int (-1 : Int32)), (5, .int x1), (0, .ref (a_mo 0)), (1, .int l1)]) hx hb dX6_behind_165 hl (k := 5) rfl (by rw [← ex20]; rfl) (by decide) rfl (fun ls hl => ?_)
                  refine lv_goto (tgt := 59) hx hb dX6_behind_168 (by decide) ?_
                  exact ih hw (lv_sub hl [4, 5, 1, 0] rfl) hf kk
                · replace hf := it_t c133 hf
                  refine lv_aload_n hx hb dX6_behind_136 rfl (lv_at hl 2 rfl) ?_
                  refine fg_X6_96 C hw 0 rfl rfl dX6_behind_137 ?_
                  refine lv_goto (tgt := 144) hx hb dX6_behind_140 (by decide) ?_
                  obtain ⟨x21, z21, hf⟩ := ob1_el hf
                  refine cV_V C hw (c_X6_fail l E a_mo mo_code mo_tape mo_text mo_taped mo_size mo_at mo_ill mo_in mo_kind mo_type mo_long1 mo_letters mo_fields mo_kept mo_now mo_many mo_itemKind mo_itemField mo_itemPlace mo_by mo_stepKind mo_stepField mo_stepOperator mo_stepOther mo_stepMany mo_literalType mo_literalFrom mo_literalSize mo_bytes mo_said mo_number mo_pile mo_pilePlace mo_top mo_open mo_size x21 z21) cs_X6_144 ⟨Nat.le_of_ble_eq_true rfl, Nat.le_of_ble_eq_true rfl⟩ ⟨rfl, rfl⟩ (ci := 6) (cn := (RX6, TX6, 35)) rfl (q0 := 0) rfl (wn := w_mo E a_mo mo_code mo_tape mo_text mo_taped mo_size mo_at x21 mo_in mo_kind mo_type mo_long1 mo_letters mo_fields mo_kept mo_now mo_many mo_itemKind mo_itemField mo_itemPlace mo_by mo_stepKind mo_stepField mo_stepOperator mo_stepOther mo_stepMany mo_literalType mo_literalFrom mo_literalSize mo_bytes mo_said mo_number mo_pile mo_pilePlace mo_top mo_open) (Jn.all _ _) rfl hl.1 rfl (Nat.le_of_ble_eq_true rfl) dX6_behind_144 ⟨Nat.zero_le _, Nat.zero_le _⟩ (fun H locs hw => ?_)
                  refine lv_bipush (v := 16) hx hb dX6_behind_147 (by decide) ?_
                  refine lv_iload_n hx hb dX6_behind_149 rfl (lv_at hl 4 rfl) ?_
                  refine lv_imul hx hb dX6_behind_150 ?_
                  refine lv_iload hx hb dX6_behind_151 (lv_at hl 0 rfl) ?_
                  refine lv_iadd hx hb dX6_behind_153 ?_
                  obtain ⟨x22, ex22, hf⟩ := on_el hf
                  refine tp_i ex22 ?_
                  refine lv_istore_n (lv' := [(3, .int x22), (6, .int (-1 : Int32)), (5, .int x1), (0, .ref (a_mo 0)), (1, .int l1), (4, .int l4)]) hx hb dX6_behind_154 rfl hl (by decide) rfl (fun ls hl => ?_)
                  refine lv_aload_n hx hb dX6_behind_155 rfl (lv_at hl 3 rfl) ?_
                  refine lv_dup hx hb dX6_behind_156 rfl ?_
                  refine fg_X6_99 C hw 0 rfl rfl dX6_behind_157 ?_
                  refine lv_iconst (v := 1) hx hb dX6_behind_160 (by decide) ?_
                  refine lv_iadd hx hb dX6_behind_161 ?_
                  obtain ⟨x23, ex23, hf⟩ := on_el hf
                  refine tp_i ex23 ?_
                  refine fp_X6_99 C hw 0 rfl (Nat.le_of_ble_eq_true rfl) (ws' := w_mo E a_mo mo_code mo_tape mo_text mo_taped mo_size x23 x21 mo_in mo_kind mo_type mo_long1 mo_letters mo_fields mo_kept mo_now mo_many mo_itemKind mo_itemField mo_itemPlace mo_by mo_stepKind mo_stepField mo_stepOperator mo_stepOther mo_stepMany mo_literalType mo_literalFrom mo_literalSize mo_bytes mo_said mo_number mo_pile mo_pilePlace mo_top mo_open) rfl dX6_behind_162 (fun H locs hw => ?_)
                  obtain ⟨x24, ex24, hf⟩ := on_el hf
                  refine lv_iinc (v := x24) (lv' := [(4, .int x24), (3, .int x22), (6, .int (-1 : Int32)), (5, .int x1), (0, .ref (a_mo 0)), (1, .int l1)]) hx hb dX6_behind_165 hl (k := 5) rfl (by rw [← ex24]; rfl) (by decide) rfl (fun ls hl => ?_)
                  refine lv_goto (tgt := 59) hx hb dX6_behind_168 (by decide) ?_
                  exact ih hw (lv_sub hl [4, 5, 1, 0] rfl) hf kk
            · replace hf := it_f c106 hf
              refine lv_iload hx hb dX6_behind_109 (lv_at hl 0 rfl) ?_
              refine lv_bipush (v := 97) hx hb dX6_behind_111 (by decide) ?_
              refine lv_isub hx hb dX6_behind_113 ?_
              refine lv_bipush (v := 10) hx hb dX6_behind_114 (by decide) ?_
              refine lv_iadd hx hb dX6_behind_116 ?_
              refine lv_goto (tgt := 121) hx hb dX6_behind_117 (by decide) ?_
              obtain ⟨x25, ex25, hf⟩ := on_el hf
              refine tp_i ex25 ?_
              refine lv_istore (lv' := [(6, .int x25), (5, .int x1), (0, .ref (a_mo 0)), (1, .int l1), (3, .int l3), (4, .int l4)]) hx hb dX6_behind_121 hl (by decide) rfl (fun ls hl => ?_)
              refine lv_iload hx hb dX6_behind_123 (lv_at hl 0 rfl) ?_
              refine lv_iconst (v := -1) hx hb dX6_behind_125 (by decide) ?_
              refine lv_icmp_ne (tgt := 147) hx hb dX6_behind_126 (by decide) (fun c126 => ?_) (fun c126 => ?_)
              · replace hf := it_f c126 hf
                refine lv_bipush (v := 16) hx hb dX6_behind_147 (by decide) ?_
                refine lv_iload_n hx hb dX6_behind_149 rfl (lv_at hl 4 rfl) ?_
                refine lv_imul hx hb dX6_behind_150 ?_
                refine lv_iload hx hb dX6_behind_151 (lv_at hl 0 rfl) ?_
                refine lv_iadd hx hb dX6_behind_153 ?_
                obtain ⟨x26, ex26, hf⟩ := on_el hf
                refine tp_i ex26 ?_
                refine lv_istore_n (lv' := [(3, .int x26), (6, .int x25), (5, .int x1), (0, .ref (a_mo 0)), (1, .int l1), (4, .int l4)]) hx hb dX6_behind_154 rfl hl (by decide) rfl (fun ls hl => ?_)
                refine lv_aload_n hx hb dX6_behind_155 rfl (lv_at hl 3 rfl) ?_
                refine lv_dup hx hb dX6_behind_156 rfl ?_
                refine fg_X6_99 C hw 0 rfl rfl dX6_behind_157 ?_
                refine lv_iconst (v := 1) hx hb dX6_behind_160 (by decide) ?_
                refine lv_iadd hx hb dX6_behind_161 ?_
                obtain ⟨x27, ex27, hf⟩ := on_el hf
                refine tp_i ex27 ?_
                refine fp_X6_99 C hw 0 rfl (Nat.le_of_ble_eq_true rfl) (ws' := w_mo E a_mo mo_code mo_tape mo_text mo_taped mo_size x27 mo_ill mo_in mo_kind mo_type mo_long1 mo_letters mo_fields mo_kept mo_now mo_many mo_itemKind mo_itemField mo_itemPlace mo_by mo_stepKind mo_stepField mo_stepOperator mo_stepOther mo_stepMany mo_literalType mo_literalFrom mo_literalSize mo_bytes mo_said mo_number mo_pile mo_pilePlace mo_top mo_open) rfl dX6_behind_162 (fun H locs hw => ?_)
                obtain ⟨x28, ex28, hf⟩ := on_el hf
                refine lv_iinc (v := x28) (lv' := [(4, .int x28), (3, .int x26), (6, .int x25), (5, .int x1), (0, .ref (a_mo 0)), (1, .int l1)]) hx hb dX6_behind_165 hl (k := 5) rfl (by rw [← ex28]; rfl) (by decide) rfl (fun ls hl => ?_)
                refine lv_goto (tgt := 59) hx hb dX6_behind_168 (by decide) ?_
                exact ih hw (lv_sub hl [4, 5, 1, 0] rfl) hf kk
              · replace hf := it_t c126 hf
                refine lv_aload_n hx hb dX6_behind_129 rfl (lv_at hl 2 rfl) ?_
                refine lv_iload hx hb dX6_behind_130 (lv_at hl 1 rfl) ?_
                refine lv_iconst (v := -1) hx hb dX6_behind_132 (by decide) ?_
                refine lv_icmp_ne (tgt := 143) hx hb dX6_behind_133 (by decide) (fun c133 => ?_) (fun c133 => ?_)
                · replace hf := it_f c133 hf
                  refine lv_iload_n hx hb dX6_behind_143 rfl (lv_at hl 3 rfl) ?_
                  obtain ⟨x29, z29, hf⟩ := ob1_el hf
                  refine cV_V C hw (c_X6_fail l E a_mo mo_code mo_tape mo_text mo_taped mo_size mo_at mo_ill mo_in mo_kind mo_type mo_long1 mo_letters mo_fields mo_kept mo_now mo_many mo_itemKind mo_itemField mo_itemPlace mo_by mo_stepKind mo_stepField mo_stepOperator mo_stepOther mo_stepMany mo_literalType mo_literalFrom mo_literalSize mo_bytes mo_said mo_number mo_pile mo_pilePlace mo_top mo_open l1 x29 z29) cs_X6_144 ⟨Nat.le_of_ble_eq_true rfl, Nat.le_of_ble_eq_true rfl⟩ ⟨rfl, rfl⟩ (ci := 6) (cn := (RX6, TX6, 35)) rfl (q0 := 0) rfl (wn := w_mo E a_mo mo_code mo_tape mo_text mo_taped mo_size mo_at x29 mo_in mo_kind mo_type mo_long1 mo_letters mo_fields mo_kept mo_now mo_many mo_itemKind mo_itemField mo_itemPlace mo_by mo_stepKind mo_stepField mo_stepOperator mo_stepOther mo_stepMany mo_literalType mo_literalFrom mo_literalSize mo_bytes mo_said mo_number mo_pile mo_pilePlace mo_top mo_open) (Jn.all _ _) rfl hl.1 rfl (Nat.le_of_ble_eq_true rfl) dX6_behind_144 ⟨Nat.zero_le _, Nat.zero_le _⟩ (fun H locs hw => ?_)
                  refine lv_bipush (v := 16) hx hb dX6_behind_147 (by decide) ?_
                  refine lv_iload_n hx hb dX6_behind_149 rfl (lv_at hl 4 rfl) ?_
                  refine lv_imul hx hb dX6_behind_150 ?_
                  refine lv_iload hx hb dX6_behind_151 (lv_at hl 0 rfl) ?_
                  refine lv_iadd hx hb dX6_behind_153 ?_
                  obtain ⟨x30, ex30, hf⟩ := on_el hf
                  refine tp_i ex30 ?_
                  refine lv_istore_n (lv' := [(3, .int x30), (6, .int x25), (5, .int x1), (0, .ref (a_mo 0)), (1, .int l1), (4, .int l4)]) hx hb dX6_behind_154 rfl hl (by decide) rfl (fun ls hl => ?_)
                  refine lv_aload_n hx hb dX6_behind_155 rfl (lv_at hl 3 rfl) ?_
                  refine lv_dup hx hb dX6_behind_156 rfl ?_
                  refine fg_X6_99 C hw 0 rfl rfl dX6_behind_157 ?_
                  refine lv_iconst (v := 1) hx hb dX6_behind_160 (by decide) ?_
                  refine lv_iadd hx hb dX6_behind_161 ?_
                  obtain ⟨x31, ex31, hf⟩ := on_el hf
                  refine tp_i ex31 ?_
                  refine fp_X6_99 C hw 0 rfl (Nat.le_of_ble_eq_true rfl) (ws' := w_mo E a_mo mo_code mo_tape mo_text mo_taped mo_size x31 x29 mo_in mo_kind mo_type mo_long1 mo_letters mo_fields mo_kept mo_now mo_many mo_itemKind mo_itemField mo_itemPlace mo_by mo_stepKind mo_stepField mo_stepOperator mo_stepOther mo_stepMany mo_literalType mo_literalFrom mo_literalSize mo_bytes mo_said mo_number mo_pile mo_pilePlace mo_top mo_open) rfl dX6_behind_162 (fun H locs hw => ?_)
                  obtain ⟨x32, ex32, hf⟩ := on_el hf
                  refine lv_iinc (v := x32) (lv' := [(4, .int x32), (3, .int x30), (6, .int x25), (5, .int x1), (0, .ref (a_mo 0)), (1, .int l1)]) hx hb dX6_behind_165 hl (k := 5) rfl (by rw [← ex32]; rfl) (by decide) rfl (fun ls hl => ?_)
                  refine lv_goto (tgt := 59) hx hb dX6_behind_168 (by decide) ?_
                  exact ih hw (lv_sub hl [4, 5, 1, 0] rfl) hf kk
                · replace hf := it_t c133 hf
                  refine lv_aload_n hx hb dX6_behind_136 rfl (lv_at hl 2 rfl) ?_
                  refine fg_X6_96 C hw 0 rfl rfl dX6_behind_137 ?_
                  refine lv_goto (tgt := 144) hx hb dX6_behind_140 (by decide) ?_
                  obtain ⟨x33, z33, hf⟩ := ob1_el hf
                  refine cV_V C hw (c_X6_fail l E a_mo mo_code mo_tape mo_text mo_taped mo_size mo_at mo_ill mo_in mo_kind mo_type mo_long1 mo_letters mo_fields mo_kept mo_now mo_many mo_itemKind mo_itemField mo_itemPlace mo_by mo_stepKind mo_stepField mo_stepOperator mo_stepOther mo_stepMany mo_literalType mo_literalFrom mo_literalSize mo_bytes mo_said mo_number mo_pile mo_pilePlace mo_top mo_open mo_size x33 z33) cs_X6_144 ⟨Nat.le_of_ble_eq_true rfl, Nat.le_of_ble_eq_true rfl⟩ ⟨rfl, rfl⟩ (ci := 6) (cn := (RX6, TX6, 35)) rfl (q0 := 0) rfl (wn := w_mo E a_mo mo_code mo_tape mo_text mo_taped mo_size mo_at x33 mo_in mo_kind mo_type mo_long1 mo_letters mo_fields mo_kept mo_now mo_many mo_itemKind mo_itemField mo_itemPlace mo_by mo_stepKind mo_stepField mo_stepOperator mo_stepOther mo_stepMany mo_literalType mo_literalFrom mo_literalSize mo_bytes mo_said mo_number mo_pile mo_pilePlace mo_top mo_open) (Jn.all _ _) rfl hl.1 rfl (Nat.le_of_ble_eq_true rfl) dX6_behind_144 ⟨Nat.zero_le _, Nat.zero_le _⟩ (fun H locs hw => ?_)
                  refine lv_bipush (v := 16) hx hb dX6_behind_147 (by decide) ?_
                  refine lv_iload_n hx hb dX6_behind_149 rfl (lv_at hl 4 rfl) ?_
                  refine lv_imul hx hb dX6_behind_150 ?_
                  refine lv_iload hx hb dX6_behind_151 (lv_at hl 0 rfl) ?_
                  refine lv_iadd hx hb dX6_behind_153 ?_
                  obtain ⟨x34, ex34, hf⟩ := on_el hf
                  refine tp_i ex34 ?_
                  refine lv_istore_n (lv' := [(3, .int x34), (6, .int x25), (5, .int x1), (0, .ref (a_mo 0)), (1, .int l1), (4, .int l4)]) hx hb dX6_behind_154 rfl hl (by decide) rfl (fun ls hl => ?_)
                  refine lv_aload_n hx hb dX6_behind_155 rfl (lv_at hl 3 rfl) ?_
                  refine lv_dup hx hb dX6_behind_156 rfl ?_
                  refine fg_X6_99 C hw 0 rfl rfl dX6_behind_157 ?_
                  refine lv_iconst (v := 1) hx hb dX6_behind_160 (by decide) ?_
                  refine lv_iadd hx hb dX6_behind_161 ?_
                  obtain ⟨x35, ex35, hf⟩ := on_el hf
                  refine tp_i ex35 ?_
                  refine fp_X6_99 C hw 0 rfl (Nat.le_of_ble_eq_true rfl) (ws' := w_mo E a_mo mo_code mo_tape mo_text mo_taped mo_size x35 x33 mo_in mo_kind mo_type mo_long1 mo_letters mo_fields mo_kept mo_now mo_many mo_itemKind mo_itemField mo_itemPlace mo_by mo_stepKind mo_stepField mo_stepOperator mo_stepOther mo_stepMany mo_literalType mo_literalFrom mo_literalSize mo_bytes mo_said mo_number mo_pile mo_pilePlace mo_top mo_open) rfl dX6_behind_162 (fun H locs hw => ?_)
                  obtain ⟨x36, ex36, hf⟩ := on_el hf
                  refine lv_iinc (v := x36) (lv' := [(4, .int x36), (3, .int x34), (6, .int x25), (5, .int x1), (0, .ref (a_mo 0)), (1, .int l1)]) hx hb dX6_behind_165 hl (k := 5) rfl (by rw [← ex36]; rfl) (by decide) rfl (fun ls hl => ?_)
                  refine lv_goto (tgt := 59) hx hb dX6_behind_168 (by decide) ?_
                  exact ih hw (lv_sub hl [4, 5, 1, 0] rfl) hf kk
        · replace hf := it_f c84 hf
          refine lv_iload hx hb dX6_behind_87 (lv_at hl 0 rfl) ?_
          refine lv_bipush (v := 48) hx hb dX6_behind_89 (by decide) ?_
          refine lv_isub hx hb dX6_behind_91 ?_
          refine lv_goto (tgt := 121) hx hb dX6_behind_92 (by decide) ?_
          obtain ⟨x37, ex37, hf⟩ := on_el hf
          refine tp_i ex37 ?_
          refine lv_istore (lv' := [(6, .int x37), (5, .int x1), (0, .ref (a_mo 0)), (1, .int l1), (3, .int l3), (4, .int l4)]) hx hb dX6_behind_121 hl (by decide) rfl (fun ls hl => ?_)
          refine lv_iload hx hb dX6_behind_123 (lv_at hl 0 rfl) ?_
          refine lv_iconst (v := -1) hx hb dX6_behind_125 (by decide) ?_
          refine lv_icmp_ne (tgt := 147) hx hb dX6_behind_126 (by decide) (fun c126 => ?_) (fun c126 => ?_)
          · replace hf := it_f c126 hf
            refine lv_bipush (v := 16) hx hb dX6_behind_147 (by decide) ?_
            refine lv_iload_n hx hb dX6_behind_149 rfl (lv_at hl 4 rfl) ?_
            refine lv_imul hx hb dX6_behind_150 ?_
            refine lv_iload hx hb dX6_behind_151 (lv_at hl 0 rfl) ?_
            refine lv_iadd hx hb dX6_behind_153 ?_
            obtain ⟨x38, ex38, hf⟩ := on_el hf
            refine tp_i ex38 ?_
            refine lv_istore_n (lv' := [(3, .int x38), (6, .int x37), (5, .int x1), (0, .ref (a_mo 0)), (1, .int l1), (4, .int l4)]) hx hb dX6_behind_154 rfl hl (by decide) rfl (fun ls hl => ?_)
            refine lv_aload_n hx hb dX6_behind_155 rfl (lv_at hl 3 rfl) ?_
            refine lv_dup hx hb dX6_behind_156 rfl ?_
            refine fg_X6_99 C hw 0 rfl rfl dX6_behind_157 ?_
            refine lv_iconst (v := 1) hx hb dX6_behind_160 (by decide) ?_
            refine lv_iadd hx hb dX6_behind_161 ?_
            obtain ⟨x39, ex39, hf⟩ := on_el hf
            refine tp_i ex39 ?_
            refine fp_X6_99 C hw 0 rfl (Nat.le_of_ble_eq_true rfl) (ws' := w_mo E a_mo mo_code mo_tape mo_text mo_taped mo_size x39 mo_ill mo_in mo_kind mo_type mo_long1 mo_letters mo_fields mo_kept mo_now mo_many mo_itemKind mo_itemField mo_itemPlace mo_by mo_stepKind mo_stepField mo_stepOperator mo_stepOther mo_stepMany mo_literalType mo_literalFrom mo_literalSize mo_bytes mo_said mo_number mo_pile mo_pilePlace mo_top mo_open) rfl dX6_behind_162 (fun H locs hw => ?_)
            obtain ⟨x40, ex40, hf⟩ := on_el hf
            refine lv_iinc (v := x40) (lv' := [(4, .int x40), (3, .int x38), (6, .int x37), (5, .int x1), (0, .ref (a_mo 0)), (1, .int l1)]) hx hb dX6_behind_165 hl (k := 5) rfl (by rw [← ex40]; rfl) (by decide) rfl (fun ls hl => ?_)
            refine lv_goto (tgt := 59) hx hb dX6_behind_168 (by decide) ?_
            exact ih hw (lv_sub hl [4, 5, 1, 0] rfl) hf kk
          · replace hf := it_t c126 hf
            refine lv_aload_n hx hb dX6_behind_129 rfl (lv_at hl 2 rfl) ?_
            refine lv_iload hx hb dX6_behind_130 (lv_at hl 1 rfl) ?_
            refine lv_iconst (v := -1) hx hb dX6_behind_132 (by decide) ?_
            refine lv_icmp_ne (tgt := 143) hx hb dX6_behind_133 (by decide) (fun c133 => ?_) (fun c133 => ?_)
            · replace hf := it_f c133 hf
              refine lv_iload_n hx hb dX6_behind_143 rfl (lv_at hl 3 rfl) ?_
              obtain ⟨x41, z41, hf⟩ := ob1_el hf
              refine cV_V C hw (c_X6_fail l E a_mo mo_code mo_tape mo_text mo_taped mo_size mo_at mo_ill mo_in mo_kind mo_type mo_long1 mo_letters mo_fields mo_kept mo_now mo_many mo_itemKind mo_itemField mo_itemPlace mo_by mo_stepKind mo_stepField mo_stepOperator mo_stepOther mo_stepMany mo_literalType mo_literalFrom mo_literalSize mo_bytes mo_said mo_number mo_pile mo_pilePlace mo_top mo_open l1 x41 z41) cs_X6_144 ⟨Nat.le_of_ble_eq_true rfl, Nat.le_of_ble_eq_true rfl⟩ ⟨rfl, rfl⟩ (ci := 6) (cn := (RX6, TX6, 35)) rfl (q0 := 0) rfl (wn := w_mo E a_mo mo_code mo_tape mo_text mo_taped mo_size mo_at x41 mo_in mo_kind mo_type mo_long1 mo_letters mo_fields mo_kept mo_now mo_many mo_itemKind mo_itemField mo_itemPlace mo_by mo_stepKind mo_stepField mo_stepOperator mo_stepOther mo_stepMany mo_literalType mo_literalFrom mo_literalSize mo_bytes mo_said mo_number mo_pile mo_pilePlace mo_top mo_open) (Jn.all _ _) rfl hl.1 rfl (Nat.le_of_ble_eq_true rfl) dX6_behind_144 ⟨Nat.zero_le _, Nat.zero_le _⟩ (fun H locs hw => ?_)
              refine lv_bipush (v := 16) hx hb dX6_behind_147 (by decide) ?_
              refine lv_iload_n hx hb dX6_behind_149 rfl (lv_at hl 4 rfl) ?_
              refine lv_imul hx hb dX6_behind_150 ?_
              refine lv_iload hx hb dX6_behind_151 (lv_at hl 0 rfl) ?_
              refine lv_iadd hx hb dX6_behind_153 ?_
              obtain ⟨x42, ex42, hf⟩ := on_el hf
              refine tp_i ex42 ?_
              refine lv_istore_n (lv' := [(3, .int x42), (6, .int x37), (5, .int x1), (0, .ref (a_mo 0)), (1, .int l1), (4, .int l4)]) hx hb dX6_behind_154 rfl hl (by decide) rfl (fun ls hl => ?_)
              refine lv_aload_n hx hb dX6_behind_155 rfl (lv_at hl 3 rfl) ?_
              refine lv_dup hx hb dX6_behind_156 rfl ?_
              refine fg_X6_99 C hw 0 rfl rfl dX6_behind_157 ?_
              refine lv_iconst (v := 1) hx hb dX6_behind_160 (by decide) ?_
              refine lv_iadd hx hb dX6_behind_161 ?_
              obtain ⟨x43, ex43, hf⟩ := on_el hf
              refine tp_i ex43 ?_
              refine fp_X6_99 C hw 0 rfl (Nat.le_of_ble_eq_true rfl) (ws' := w_mo E a_mo mo_code mo_tape mo_text mo_taped mo_size x43 x41 mo_in mo_kind mo_type mo_long1 mo_letters mo_fields mo_kept mo_now mo_many mo_itemKind mo_itemField mo_itemPlace mo_by mo_stepKind mo_stepField mo_stepOperator mo_stepOther mo_stepMany mo_literalType mo_literalFrom mo_literalSize mo_bytes mo_said mo_number mo_pile mo_pilePlace mo_top mo_open) rfl dX6_behind_162 (fun H locs hw => ?_)
              obtain ⟨x44, ex44, hf⟩ := on_el hf
              refine lv_iinc (v := x44) (lv' := [(4, .int x44), (3, .int x42), (6, .int x37), (5, .int x1), (0, .ref (a_mo 0)), (1, .int l1)]) hx hb dX6_behind_165 hl (k := 5) rfl (by rw [← ex44]; rfl) (by decide) rfl (fun ls hl => ?_)
              refine lv_goto (tgt := 59) hx hb dX6_behind_168 (by decide) ?_
              exact ih hw (lv_sub hl [4, 5, 1, 0] rfl) hf kk
            · replace hf := it_t c133 hf
              refine lv_aload_n hx hb dX6_behind_136 rfl (lv_at hl 2 rfl) ?_
              refine fg_X6_96 C hw 0 rfl rfl dX6_behind_137 ?_
              refine lv_goto (tgt := 144) hx hb dX6_behind_140 (by decide) ?_
              obtain ⟨x45, z45, hf⟩ := ob1_el hf
              refine cV_V C hw (c_X6_fail l E a_mo mo_code mo_tape mo_text mo_taped mo_size mo_at mo_ill mo_in mo_kind mo_type mo_long1 mo_letters mo_fields mo_kept mo_now mo_many mo_itemKind mo_itemField mo_itemPlace mo_by mo_stepKind mo_stepField mo_stepOperator mo_stepOther mo_stepMany mo_literalType mo_literalFrom mo_literalSize mo_bytes mo_said mo_number mo_pile mo_pilePlace mo_top mo_open mo_size x45 z45) cs_X6_144 ⟨Nat.le_of_ble_eq_true rfl, Nat.le_of_ble_eq_true rfl⟩ ⟨rfl, rfl⟩ (ci := 6) (cn := (RX6, TX6, 35)) rfl (q0 := 0) rfl (wn := w_mo E a_mo mo_code mo_tape mo_text mo_taped mo_size mo_at x45 mo_in mo_kind mo_type mo_long1 mo_letters mo_fields mo_kept mo_now mo_many mo_itemKind mo_itemField mo_itemPlace mo_by mo_stepKind mo_stepField mo_stepOperator mo_stepOther mo_stepMany mo_literalType mo_literalFrom mo_literalSize mo_bytes mo_said mo_number mo_pile mo_pilePlace mo_top mo_open) (Jn.all _ _) rfl hl.1 rfl (Nat.le_of_ble_eq_true rfl) dX6_behind_144 ⟨Nat.zero_le _, Nat.zero_le _⟩ (fun H locs hw => ?_)
              refine lv_bipush (v := 16) hx hb dX6_behind_147 (by decide) ?_
              refine lv_iload_n hx hb dX6_behind_149 rfl (lv_at hl 4 rfl) ?_
              refine lv_imul hx hb dX6_behind_150 ?_
              refine lv_iload hx hb dX6_behind_151 (lv_at hl 0 rfl) ?_
              refine lv_iadd hx hb dX6_behind_153 ?_
              obtain ⟨x46, ex46, hf⟩ := on_el hf
              refine tp_i ex46 ?_
              refine lv_istore_n (lv' := [(3, .int x46), (6, .int x37), (5, .int x1), (0, .ref (a_mo 0)), (1, .int l1), (4, .int l4)]) hx hb dX6_behind_154 rfl hl (by decide) rfl (fun ls hl => ?_)
              refine lv_aload_n hx hb dX6_behind_155 rfl (lv_at hl 3 rfl) ?_
              refine lv_dup hx hb dX6_behind_156 rfl ?_
              refine fg_X6_99 C hw 0 rfl rfl dX6_behind_157 ?_
              refine lv_iconst (v := 1) hx hb dX6_behind_160 (by decide) ?_
              refine lv_iadd hx hb dX6_behind_161 ?_
              obtain ⟨x47, ex47, hf⟩ := on_el hf
              refine tp_i ex47 ?_
              refine fp_X6_99 C hw 0 rfl (Nat.le_of_ble_eq_true rfl) (ws' := w_mo E a_mo mo_code mo_tape mo_text mo_taped mo_size x47 x45 mo_in mo_kind mo_type mo_long1 mo_letters mo_fields mo_kept mo_now mo_many mo_itemKind mo_itemField mo_itemPlace mo_by mo_stepKind mo_stepField mo_stepOperator mo_stepOther mo_stepMany mo_literalType mo_literalFrom mo_literalSize mo_bytes mo_said mo_number mo_pile mo_pilePlace mo_top mo_open) rfl dX6_behind_162 (fun H locs hw => ?_)
              obtain ⟨x48, ex48, hf⟩ := on_el hf
              refine lv_iinc (v := x48) (lv' := [(4, .int x48), (3, .int x46), (6, .int x37), (5, .int x1), (0, .ref (a_mo 0)), (1, .int l1)]) hx hb dX6_behind_165 hl (k := 5) rfl (by rw [← ex48]; rfl) (by decide) rfl (fun ls hl => ?_)
              refine lv_goto (tgt := 59) hx hb dX6_behind_168 (by decide) ?_
              exact ih hw (lv_sub hl [4, 5, 1, 0] rfl) hf kk
def f_X6_behind (p1 : Int32) (mo_text : Nat → Int32) (mo_size : Int32) (mo_at : Int32) (mo_ill : Int32) : Option ((Int32) × (Int32) × (Int32)) :=
  ob1 (f_X6_look mo_text mo_size mo_at) (fun x1 =>
  on (mo_at + (1 : Int32)) (fun x2 =>
  if x1 = (39 : Int32) then (some (x1, x2, mo_ill))
  else (if x1 = (92 : Int32) then (some (x1, x2, mo_ill))
  else (if x1 = (120 : Int32) then (ob3 (f_X6_behind_59 FU p1 (0 : Int32) (0 : Int32) mo_text mo_size x2 mo_ill) (fun x3 x4 x5 =>
  some (x3, x4, x5)))
  else (if x1 = (-1 : Int32) then (ob1 (f_X6_fail mo_size mo_ill) (fun x7 =>
  some ((0 : Int32), x2, x7)))
  else (ob1 (f_X6_fail p1 mo_ill) (fun x6 =>
  some ((0 : Int32), x2, x6))))))))
set_option maxHeartbeats 4000000 in
set_option maxRecDepth 100000 in
theorem c_X6_behind (l : Launch) (E : EnvT) (a_mo : Nat → Nat) (mo_code : Int32) (mo_tape : Nat → Int32) (mo_text : Nat → Int32) (mo_taped : Int32) (mo_size : Int32) (mo_at : Int32) (mo_ill : Int32) (mo_in : Nat → Int32) (mo_kind : Nat → Int32) (mo_type : Nat → Int32) (mo_long1 : Nat → Int32) (mo_letters : Nat → Int32) (mo_fields : Int32) (mo_kept : Int32) (mo_now : Int32) (mo_many : Nat → Int32) (mo_itemKind : Nat → Int32) (mo_itemField : Nat → Int32) (mo_itemPlace : Nat → Int32) (mo_by : Nat → Int32) (mo_stepKind : Nat → Int32) (mo_stepField : Nat → Int32) (mo_stepOperator : Nat → Int32) (mo_stepOther : Nat → Int32) (mo_stepMany : Nat → Int32) (mo_literalType : Nat → Int32) (mo_literalFrom : Nat → Int32) (mo_literalSize : Nat → Int32) (mo_bytes : Nat → Int32) (mo_said : Nat → Int32) (mo_number : Nat → Int64) (mo_pile : Nat → Int32) (mo_pilePlace : Nat → Int32) (mo_top : Int32) (mo_open : Int32) (p1 : Int32) (r : Int32) (o_mo_at : Int32) (o_mo_ill : Int32) (hf : f_X6_behind p1 mo_text mo_size mo_at mo_ill = some (r, o_mo_at, o_mo_ill)) : CI l yX6_behind (Cond.code yX6_behind cX6_behind 7 (some .int)) { frames := 1, cells := 0, slots := 0, locals := 21 } E [.ref (a_mo 0), .int p1] (w_mo E a_mo mo_code mo_tape mo_text mo_taped mo_size mo_at mo_ill mo_in mo_kind mo_type mo_long1 mo_letters mo_fields mo_kept mo_now mo_many mo_itemKind mo_itemField mo_itemPlace mo_by mo_stepKind mo_stepField mo_stepOperator mo_stepOther mo_stepMany mo_literalType mo_literalFrom mo_literalSize mo_bytes mo_said mo_number mo_pile mo_pilePlace mo_top mo_open) r (w_mo E a_mo mo_code mo_tape mo_text mo_taped mo_size o_mo_at o_mo_ill mo_in mo_kind mo_type mo_long1 mo_letters mo_fields mo_kept mo_now mo_many mo_itemKind mo_itemField mo_itemPlace mo_by mo_stepKind mo_stepField mo_stepOperator mo_stepOther mo_stepMany mo_literalType mo_literalFrom mo_literalSize mo_bytes mo_said mo_number mo_pile mo_pilePlace mo_top mo_open) := by
  intro sz
  refine met_start [(0, .ref (a_mo 0)), (1, .int p1)] (by decide) rfl rfl (Nat.le_of_ble_eq_true rfl) rfl ?_
  intro p e s m below meth c ls C hnm hmt hw hl
  have hx := C.1
  have hb := C.2.1
  generalize va_A (w_mo E a_mo mo_code mo_tape mo_text mo_taped mo_size mo_at mo_ill mo_in mo_kind mo_type mo_long1 mo_letters mo_fields mo_kept mo_now mo_many mo_itemKind mo_itemField mo_itemPlace mo_by mo_stepKind mo_stepField mo_stepOperator mo_stepOther mo_stepMany mo_literalType mo_literalFrom mo_literalSize mo_bytes mo_said mo_number mo_pile mo_pilePlace mo_top mo_open) sz = A at C hw ⊢
  unfold f_X6_behind at hf
  refine lv_aload_n hx hb dX6_behind_0 rfl (lv_at hl 0 rfl) ?_
  obtain ⟨x1, z1, hf⟩ := ob1_el hf
  refine cI_V C hw (c_X6_look l E a_mo mo_code mo_tape mo_text mo_taped mo_size mo_at mo_ill mo_in mo_kind mo_type mo_long1 mo_letters mo_fields mo_kept mo_now mo_many mo_itemKind mo_itemField mo_itemPlace mo_by mo_stepKind mo_stepField mo_stepOperator mo_stepOther mo_stepMany mo_literalType mo_literalFrom mo_literalSize mo_bytes mo_said mo_number mo_pile mo_pilePlace mo_top mo_open x1 z1) cs_X6_126 ⟨Nat.le_of_ble_eq_true rfl, Nat.le_of_ble_eq_true rfl⟩ ⟨rfl, rfl⟩ (ci := 6) (cn := (RX6, TX6, 35)) rfl (q0 := 0) rfl (wn := w_mo E a_mo mo_code mo_tape mo_text mo_taped mo_size mo_at mo_ill mo_in mo_kind mo_type mo_long1 mo_letters mo_fields mo_kept mo_now mo_many mo_itemKind mo_itemField mo_itemPlace mo_by mo_stepKind mo_stepField mo_stepOperator mo_stepOther mo_stepMany mo_literalType mo_literalFrom mo_literalSize mo_bytes mo_said mo_number mo_pile mo_pilePlace mo_top mo_open) (Jn.all _ _) rfl hl.1 rfl (Nat.le_of_ble_eq_true rfl) dX6_behind_1 ⟨Nat.zero_le _, Nat.zero_le _⟩ (fun H locs hw => ?_)
  refine lv_istore_n (lv' := [(2, .int x1), (0, .ref (a_mo 0)), (1, .int p1)]) hx hb dX6_behind_4 rfl hl (by decide) rfl (fun ls hl => ?_)
  refine lv_aload_n hx hb dX6_behind_5 rfl (lv_at hl 1 rfl) ?_
  refine lv_dup hx hb dX6_behind_6 rfl ?_
  refine fg_X6_99 C hw 0 rfl rfl dX6_behind_7 ?_
  refine lv_iconst (v := 1) hx hb dX6_behind_10 (by decide) ?_
  refine lv_iadd hx hb dX6_behind_11 ?_
  obtain ⟨x2, ex2, hf⟩ := on_el hf
  refine tp_i ex2 ?_
  refine fp_X6_99 C hw 0 rfl (Nat.le_of_ble_eq_true rfl) (ws' := w_mo E a_mo mo_code mo_tape mo_text mo_taped mo_size x2 mo_ill mo_in mo_kind mo_type mo_long1 mo_letters mo_fields mo_kept mo_now mo_many mo_itemKind mo_itemField mo_itemPlace mo_by mo_stepKind mo_stepField mo_stepOperator mo_stepOther mo_stepMany mo_literalType mo_literalFrom mo_literalSize mo_bytes mo_said mo_number mo_pile mo_pilePlace mo_top mo_open) rfl dX6_behind_12 (fun H locs hw => ?_)
  refine lv_iload_n hx hb dX6_behind_15 rfl (lv_at hl 0 rfl) ?_
  refine lv_bipush (v := 39) hx hb dX6_behind_16 (by decide) ?_
  refine lv_icmp_eq (tgt := 27) hx hb dX6_behind_18 (by decide) (fun c18 => ?_) (fun c18 => ?_)
  · replace hf := it_t c18 hf
    refine lv_iload_n hx hb dX6_behind_27 rfl (lv_at hl 0 rfl) ?_
    cases hf
    exact rt_i C hw dX6_behind_28
  · replace hf := it_f c18 hf
    refine lv_iload_n hx hb dX6_behind_21 rfl (lv_at hl 0 rfl) ?_
    refine lv_bipush (v := 92) hx hb dX6_behind_22 (by decide) ?_
    refine lv_icmp_ne (tgt := 29) hx hb dX6_behind_24 (by decide) (fun c24 => ?_) (fun c24 => ?_)
    · replace hf := it_f c24 hf
      refine lv_iload_n hx hb dX6_behind_29 rfl (lv_at hl 0 rfl) ?_
      refine lv_bipush (v := 120) hx hb dX6_behind_30 (by decide) ?_
      refine lv_icmp_eq (tgt := 54) hx hb dX6_behind_32 (by decide) (fun c32 => ?_) (fun c32 => ?_)
      · replace hf := it_t c32 hf
        refine lv_iconst (v := 0) hx hb dX6_behind_54 (by decide) ?_
        refine lv_istore_n (lv' := [(3, .int (0 : Int32)), (2, .int x1), (0, .ref (a_mo 0)), (1, .int p1)]) hx hb dX6_behind_55 rfl hl (by decide) rfl (fun ls hl => ?_)
        refine lv_iconst (v := 0) hx hb dX6_behind_56 (by decide) ?_
        refine lv_istore (lv' := [(4, .int (0 : Int32)), (3, .int (0 : Int32)), (2, .int x1), (0, .ref (a_mo 0)), (1, .int p1)]) hx hb dX6_behind_57 hl (by decide) rfl (fun ls hl => ?_)
        obtain ⟨x3, x4, x5, hx3, hf⟩ := ob3_el hf
        refine w_X6_behind_59 C FU hw (lv_sub hl [3, 4, 1, 0] rfl) hx3 ?_
        clear hw hl
        intro H locs ls hw hl
        refine lv_iload_n hx hb dX6_behind_171 rfl (lv_at hl 0 rfl) ?_
        cases hf
        exact rt_i C hw dX6_behind_172
      · replace hf := it_f c32 hf
        refine lv_aload_n hx hb dX6_behind_35 rfl (lv_at hl 1 rfl) ?_
        refine lv_iload_n hx hb dX6_behind_36 rfl (lv_at hl 0 rfl) ?_
        refine lv_iconst (v := -1) hx hb dX6_behind_37 (by decide) ?_
        refine lv_icmp_ne (tgt := 48) hx hb dX6_behind_38 (by decide) (fun c38 => ?_) (fun c38 => ?_)
        · replace hf := it_f c38 hf
          refine lv_iload_n hx hb dX6_behind_48 rfl (lv_at hl 2 rfl) ?_
          obtain ⟨x6, z6, hf⟩ := ob1_el hf
          refine cV_V C hw (c_X6_fail l E a_mo mo_code mo_tape mo_text mo_taped mo_size x2 mo_ill mo_in mo_kind mo_type mo_long1 mo_letters mo_fields mo_kept mo_now mo_many mo_itemKind mo_itemField mo_itemPlace mo_by mo_stepKind mo_stepField mo_stepOperator mo_stepOther mo_stepMany mo_literalType mo_literalFrom mo_literalSize mo_bytes mo_said mo_number mo_pile mo_pilePlace mo_top mo_open p1 x6 z6) cs_X6_144 ⟨Nat.le_of_ble_eq_true rfl, Nat.le_of_ble_eq_true rfl⟩ ⟨rfl, rfl⟩ (ci := 6) (cn := (RX6, TX6, 35)) rfl (q0 := 0) rfl (wn := w_mo E a_mo mo_code mo_tape mo_text mo_taped mo_size x2 x6 mo_in mo_kind mo_type mo_long1 mo_letters mo_fields mo_kept mo_now mo_many mo_itemKind mo_itemField mo_itemPlace mo_by mo_stepKind mo_stepField mo_stepOperator mo_stepOther mo_stepMany mo_literalType mo_literalFrom mo_literalSize mo_bytes mo_said mo_number mo_pile mo_pilePlace mo_top mo_open) (Jn.all _ _) rfl hl.1 rfl (Nat.le_of_ble_eq_true rfl) dX6_behind_49 ⟨Nat.zero_le _, Nat.zero_le _⟩ (fun H locs hw => ?_)
          refine lv_iconst (v := 0) hx hb dX6_behind_52 (by decide) ?_
          cases hf
          exact rt_i C hw dX6_behind_53
        · replace hf := it_t c38 hf
          refine lv_aload_n hx hb dX6_behind_41 rfl (lv_at hl 1 rfl) ?_
          refine fg_X6_96 C hw 0 rfl rfl dX6_behind_42 ?_
          refine lv_goto (tgt := 49) hx hb dX6_behind_45 (by decide) ?_
          obtain ⟨x7, z7, hf⟩ := ob1_el hf
          refine cV_V C hw (c_X6_fail l E a_mo mo_code mo_tape mo_text mo_taped mo_size x2 mo_ill mo_in mo_kind mo_type mo_long1 mo_letters mo_fields mo_kept mo_now mo_many mo_itemKind mo_itemField mo_itemPlace mo_by mo_stepKind mo_stepField mo_stepOperator mo_stepOther mo_stepMany mo_literalType mo_literalFrom mo_literalSize mo_bytes mo_said mo_number mo_pile mo_pilePlace mo_top mo_open mo_size x7 z7) cs_X6_144 ⟨Nat.le_of_ble_eq_true rfl, Nat.le_of_ble_eq_true rfl⟩ ⟨rfl, rfl⟩ (ci := 6) (cn := (RX6, TX6, 35)) rfl (q0 := 0) rfl (wn := w_mo E a_mo mo_code mo_tape mo_text mo_taped mo_size x2 x7 mo_in mo_kind mo_type mo_long1 mo_letters mo_fields mo_kept mo_now mo_many mo_itemKind mo_itemField mo_itemPlace mo_by mo_stepKind mo_stepField mo_stepOperator mo_stepOther mo_stepMany mo_literalType mo_literalFrom mo_literalSize mo_bytes mo_said mo_number mo_pile mo_pilePlace mo_top mo_open) (Jn.all _ _) rfl hl.1 rfl (Nat.le_of_ble_eq_true rfl) dX6_behind_49 ⟨Nat.zero_le _, Nat.zero_le _⟩ (fun H locs hw => ?_)
          refine lv_iconst (v := 0) hx hb dX6_behind_52 (by decide) ?_
          cases hf
          exact rt_i C hw dX6_behind_53
    · replace hf := it_t c24 hf
      refine lv_iload_n hx hb dX6_behind_27 rfl (lv_at hl 0 rfl) ?_
      cases hf
      exact rt_i C hw dX6_behind_28
def f_X6_say (p1 : Int32) (mo_now : Int32) (mo_bytes : Nat → Int32) (mo_said : Nat → Int32) : Option ((Nat → Int32) × (Nat → Int32)) :=
  rd mo_said 2 mo_now (fun x1 =>
  wr mo_bytes 4000 (((2000 : Int32) * mo_now) + x1) p1 (fun x2 =>
  rd mo_said 2 mo_now (fun x3 =>
  on (x3 + (1 : Int32)) (fun x4 =>
  wr mo_said 2 mo_now x4 (fun x5 =>
  some (x2, x5))))))
set_option maxHeartbeats 4000000 in
set_option maxRecDepth 100000 in
theorem c_X6_say (l : Launch) (E : EnvT) (a_mo : Nat → Nat) (mo_code : Int32) (mo_tape : Nat → Int32) (mo_text : Nat → Int32) (mo_taped : Int32) (mo_size : Int32) (mo_at : Int32) (mo_ill : Int32) (mo_in : Nat → Int32) (mo_kind : Nat → Int32) (mo_type : Nat → Int32) (mo_long1 : Nat → Int32) (mo_letters : Nat → Int32) (mo_fields : Int32) (mo_kept : Int32) (mo_now : Int32) (mo_many : Nat → Int32) (mo_itemKind : Nat → Int32) (mo_itemField : Nat → Int32) (mo_itemPlace : Nat → Int32) (mo_by : Nat → Int32) (mo_stepKind : Nat → Int32) (mo_stepField : Nat → Int32) (mo_stepOperator : Nat → Int32) (mo_stepOther : Nat → Int32) (mo_stepMany : Nat → Int32) (mo_literalType : Nat → Int32) (mo_literalFrom : Nat → Int32) (mo_literalSize : Nat → Int32) (mo_bytes : Nat → Int32) (mo_said : Nat → Int32) (mo_number : Nat → Int64) (mo_pile : Nat → Int32) (mo_pilePlace : Nat → Int32) (mo_top : Int32) (mo_open : Int32) (p1 : Int32) (o_mo_bytes : Nat → Int32) (o_mo_said : Nat → Int32) (hf : f_X6_say p1 mo_now mo_bytes mo_said = some (o_mo_bytes, o_mo_said)) : CV l yX6_say (Cond.code yX6_say cX6_say 2 none) { frames := 0, cells := 0, slots := 0, locals := 0 } E [.ref (a_mo 0), .int p1] (w_mo E a_mo mo_code mo_tape mo_text mo_taped mo_size mo_at mo_ill mo_in mo_kind mo_type mo_long1 mo_letters mo_fields mo_kept mo_now mo_many mo_itemKind mo_itemField mo_itemPlace mo_by mo_stepKind mo_stepField mo_stepOperator mo_stepOther mo_stepMany mo_literalType mo_literalFrom mo_literalSize mo_bytes mo_said mo_number mo_pile mo_pilePlace mo_top mo_open) (w_mo E a_mo mo_code mo_tape mo_text mo_taped mo_size mo_at mo_ill mo_in mo_kind mo_type mo_long1 mo_letters mo_fields mo_kept mo_now mo_many mo_itemKind mo_itemField mo_itemPlace mo_by mo_stepKind mo_stepField mo_stepOperator mo_stepOther mo_stepMany mo_literalType mo_literalFrom mo_literalSize o_mo_bytes o_mo_said mo_number mo_pile mo_pilePlace mo_top mo_open) := by
  intro sz
  refine met_start [(0, .ref (a_mo 0)), (1, .int p1)] (by decide) rfl rfl (Nat.le_of_ble_eq_true rfl) rfl ?_
  intro p e s m below meth c ls C hnm hmt hw hl
  have hx := C.1
  have hb := C.2.1
  generalize va_A (w_mo E a_mo mo_code mo_tape mo_text mo_taped mo_size mo_at mo_ill mo_in mo_kind mo_type mo_long1 mo_letters mo_fields mo_kept mo_now mo_many mo_itemKind mo_itemField mo_itemPlace mo_by mo_stepKind mo_stepField mo_stepOperator mo_stepOther mo_stepMany mo_literalType mo_literalFrom mo_literalSize mo_bytes mo_said mo_number mo_pile mo_pilePlace mo_top mo_open) sz = A at C hw ⊢
  unfold f_X6_say at hf
  refine lv_aload_n hx hb dX6_say_0 rfl (lv_at hl 0 rfl) ?_
  refine fg_X6_74 C hw 0 rfl rfl dX6_say_1 ?_
  refine lv_sipush (v := 2000) hx hb dX6_say_4 (by decide) ?_
  refine lv_aload_n hx hb dX6_say_7 rfl (lv_at hl 0 rfl) ?_
  refine fg_X6_189 C hw 0 rfl rfl dX6_say_8 ?_
  refine lv_imul hx hb dX6_say_11 ?_
  refine lv_aload_n hx hb dX6_say_12 rfl (lv_at hl 0 rfl) ?_
  refine fg_X6_77 C hw 0 rfl rfl dX6_say_13 ?_
  refine lv_aload_n hx hb dX6_say_16 rfl (lv_at hl 0 rfl) ?_
  refine fg_X6_189 C hw 0 rfl rfl dX6_say_17 ?_
  obtain ⟨x1, ex1, gx1, hf⟩ := rd_el hf
  refine ra_i C hw 22 rfl gx1 dX6_say_20 ?_
  refine tp_i ex1 ?_
  refine lv_iadd hx hb dX6_say_21 ?_
  refine lv_iload_n hx hb dX6_say_22 rfl (lv_at hl 1 rfl) ?_
  obtain ⟨x2, ex2, gx2, hf⟩ := wr_el hf
  refine rs_i C hw 21 rfl gx2 (ws' := w_mo E a_mo mo_code mo_tape mo_text mo_taped mo_size mo_at mo_ill mo_in mo_kind mo_type mo_long1 mo_letters mo_fields mo_kept mo_now mo_many mo_itemKind mo_itemField mo_itemPlace mo_by mo_stepKind mo_stepField mo_stepOperator mo_stepOther mo_stepMany mo_literalType mo_literalFrom mo_literalSize x2 mo_said mo_number mo_pile mo_pilePlace mo_top mo_open) (by subst ex2; rfl) dX6_say_23 (fun H locs hw => ?_)
  refine lv_aload_n hx hb dX6_say_24 rfl (lv_at hl 0 rfl) ?_
  refine fg_X6_77 C hw 0 rfl rfl dX6_say_25 ?_
  refine lv_aload_n hx hb dX6_say_28 rfl (lv_at hl 0 rfl) ?_
  refine fg_X6_189 C hw 0 rfl rfl dX6_say_29 ?_
  refine lv_dup2_11 hx hb dX6_say_32 rfl rfl ?_
  obtain ⟨x3, ex3, gx3, hf⟩ := rd_el hf
  refine ra_i C hw 22 rfl gx3 dX6_say_33 ?_
  refine tp_i ex3 ?_
  refine lv_iconst (v := 1) hx hb dX6_say_34 (by decide) ?_
  refine lv_iadd hx hb dX6_say_35 ?_
  obtain ⟨x4, ex4, hf⟩ := on_el hf
  refine tp_i ex4 ?_
  obtain ⟨x5, ex5, gx5, hf⟩ := wr_el hf
  refine rs_i C hw 22 rfl gx5 (ws' := w_mo E a_mo mo_code mo_tape mo_text mo_taped mo_size mo_at mo_ill mo_in mo_kind mo_type mo_long1 mo_letters mo_fields mo_kept mo_now mo_many mo_itemKind mo_itemField mo_itemPlace mo_by mo_stepKind mo_stepField mo_stepOperator mo_stepOther mo_stepMany mo_literalType mo_literalFrom mo_literalSize x2 x5 mo_number mo_pile mo_pilePlace mo_top mo_open) (by subst ex5; rfl) dX6_say_36 (fun H locs hw => ?_)
  cases hf
  exact rt_v C hw dX6_say_37
