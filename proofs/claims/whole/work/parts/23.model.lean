def f_X6_readText_12 : Nat → (Int32) → (Nat → Int32) → (Int32) → (Int32) → (Int32) → (Int32) → (Nat → Int32) → (Nat → Int32) → Option ((Int32) × (Int32) × (Nat → Int32) × (Nat → Int32))
  | 0, _, _, _, _, _, _, _, _ => none
  | n + 1, l1, mo_text, mo_size, mo_at, mo_ill, mo_now, mo_bytes, mo_said =>
  if mo_ill = (-1 : Int32) then (ob1 (f_X6_look mo_text mo_size mo_at) (fun x2 =>
  if x2 = (39 : Int32) then (on (mo_at + (1 : Int32)) (fun x3 =>
  some (x3, mo_ill, mo_bytes, mo_said)))
  else (ob1 (f_X6_look mo_text mo_size mo_at) (fun x4 =>
  if x4 < (32 : Int32) then (ob1 (f_X6_fail mo_at mo_ill) (fun x5 =>
  some (mo_at, x5, mo_bytes, mo_said)))
  else (if (126 : Int32) < x4 then (ob1 (f_X6_fail mo_at mo_ill) (fun x6 =>
  some (mo_at, x6, mo_bytes, mo_said)))
  else (if l1 = (255 : Int32) then (ob1 (f_X6_fail mo_at mo_ill) (fun x17 =>
  some (mo_at, x17, mo_bytes, mo_said)))
  else (on (mo_at + (1 : Int32)) (fun x7 =>
  if x4 = (92 : Int32) then (ob3 (f_X6_behind mo_at mo_text mo_size x7 mo_ill) (fun x11 x12 x13 =>
  ob2 (f_X6_say x11 mo_now mo_bytes mo_said) (fun x14 x15 =>
  on (l1 + (1 : Int32)) (fun x16 =>
  f_X6_readText_12 n x16 mo_text mo_size x12 x13 mo_now x14 x15))))
  else (ob2 (f_X6_say x4 mo_now mo_bytes mo_said) (fun x8 x9 =>
  on (l1 + (1 : Int32)) (fun x10 =>
  f_X6_readText_12 n x10 mo_text mo_size x7 mo_ill mo_now x8 x9)))))))))))
  else (on (mo_at + (1 : Int32)) (fun x1 =>
  some (x1, mo_ill, mo_bytes, mo_said)))
set_option maxHeartbeats 4000000 in
set_option maxRecDepth 100000 in
theorem w_X6_readText_12 {p : Program} {l : Launch} {e : Env} {s : State} {m : MethodId} {args : Array Value} {below : List Frame} {meth : Method} {c : Code} {E : EnvT} {A : Nat → Prop} {a_mo : Nat → Nat} {mo_code : Int32} {mo_tape : Nat → Int32} {mo_taped : Int32} {mo_in : Nat → Int32} {mo_kind : Nat → Int32} {mo_type : Nat → Int32} {mo_long1 : Nat → Int32} {mo_letters : Nat → Int32} {mo_fields : Int32} {mo_kept : Int32} {mo_many : Nat → Int32} {mo_itemKind : Nat → Int32} {mo_itemField : Nat → Int32} {mo_itemPlace : Nat → Int32} {mo_by : Nat → Int32} {mo_stepKind : Nat → Int32} {mo_stepField : Nat → Int32} {mo_stepOperator : Nat → Int32} {mo_stepOther : Nat → Int32} {mo_stepMany : Nat → Int32} {mo_literalType : Nat → Int32} {mo_literalFrom : Nat → Int32} {mo_literalSize : Nat → Int32} {mo_number : Nat → Int64} {mo_pile : Nat → Int32} {mo_pilePlace : Nat → Int32} {mo_top : Int32} {mo_open : Int32} {o_mo_at : Int32} {o_mo_ill : Int32} {o_mo_bytes : Nat → Int32} {o_mo_said : Nat → Int32} (C : MC p s m args meth c E A cX6_readText 4 RX6 none) : ∀ (n : Nat) {l1 : Int32} {mo_text : Nat → Int32} {mo_size : Int32} {mo_at : Int32} {mo_ill : Int32} {mo_now : Int32} {mo_bytes : Nat → Int32} {mo_said : Nat → Int32} {H : Heap} {locs : List Loc} {ls : Array Slot}, WS E A s (w_mo E a_mo mo_code mo_tape mo_text mo_taped mo_size mo_at mo_ill mo_in mo_kind mo_type mo_long1 mo_letters mo_fields mo_kept mo_now mo_many mo_itemKind mo_itemField mo_itemPlace mo_by mo_stepKind mo_stepField mo_stepOperator mo_stepOther mo_stepMany mo_literalType mo_literalFrom mo_literalSize mo_bytes mo_said mo_number mo_pile mo_pilePlace mo_top mo_open) H locs → lv_has ls 4 [(0, .ref (a_mo 0)), (1, .int l1)] → f_X6_readText_12 n l1 mo_text mo_size mo_at mo_ill mo_now mo_bytes mo_said = some (o_mo_at, o_mo_ill, o_mo_bytes, o_mo_said) → W p l e { frames := 2, cells := 0, slots := 0, locals := 47 } s m args below meth c H locs 0 0 (MQ below (QcV E A (w_mo E a_mo mo_code mo_tape mo_text mo_taped mo_size o_mo_at o_mo_ill mo_in mo_kind mo_type mo_long1 mo_letters mo_fields mo_kept mo_now mo_many mo_itemKind mo_itemField mo_itemPlace mo_by mo_stepKind mo_stepField mo_stepOperator mo_stepOther mo_stepMany mo_literalType mo_literalFrom mo_literalSize o_mo_bytes o_mo_said mo_number mo_pile mo_pilePlace mo_top mo_open)) args s 0 0 A) (F0 m 12 ls []) := by
  have hx := C.1
  have hb := C.2.1
  intro n
  induction n with
  | zero =>
    intro l1 mo_text mo_size mo_at mo_ill mo_now mo_bytes mo_said H locs ls hw hl hf
    unfold f_X6_readText_12 at hf
    cases hf
  | succ n ih =>
    intro l1 mo_text mo_size mo_at mo_ill mo_now mo_bytes mo_said H locs ls hw hl hf
    unfold f_X6_readText_12 at hf
    refine lv_aload_n hx hb dX6_readText_12 rfl (lv_at hl 0 rfl) ?_
    refine fg_X6_102 C hw 0 rfl rfl dX6_readText_13 ?_
    refine lv_iconst (v := -1) hx hb dX6_readText_16 (by decide) ?_
    refine lv_icmp_ne (tgt := 102) hx hb dX6_readText_17 (by decide) (fun c17 => ?_) (fun c17 => ?_)
    · replace hf := it_f c17 hf
      refine lv_aload_n hx hb dX6_readText_102 rfl (lv_at hl 0 rfl) ?_
      refine lv_dup hx hb dX6_readText_103 rfl ?_
      refine fg_X6_99 C hw 0 rfl rfl dX6_readText_104 ?_
      refine lv_iconst (v := 1) hx hb dX6_readText_107 (by decide) ?_
      refine lv_iadd hx hb dX6_readText_108 ?_
      obtain ⟨x1, ex1, hf⟩ := on_el hf
      refine tp_i ex1 ?_
      refine fp_X6_99 C hw 0 rfl (Nat.le_of_ble_eq_true rfl) (ws' := w_mo E a_mo mo_code mo_tape mo_text mo_taped mo_size x1 mo_ill mo_in mo_kind mo_type mo_long1 mo_letters mo_fields mo_kept mo_now mo_many mo_itemKind mo_itemField mo_itemPlace mo_by mo_stepKind mo_stepField mo_stepOperator mo_stepOther mo_stepMany mo_literalType mo_literalFrom mo_literalSize mo_bytes mo_said mo_number mo_pile mo_pilePlace mo_top mo_open) rfl dX6_readText_109 (fun H locs hw => ?_)
      cases hf
      exact rt_v C hw dX6_readText_112
    · replace hf := it_t c17 hf
      refine lv_aload_n hx hb dX6_readText_20 rfl (lv_at hl 0 rfl) ?_
      obtain ⟨x2, z2, hf⟩ := ob1_el hf
      refine cI_V C hw (c_X6_look l E a_mo mo_code mo_tape mo_text mo_taped mo_size mo_at mo_ill mo_in mo_kind mo_type mo_long1 mo_letters mo_fields mo_kept mo_now mo_many mo_itemKind mo_itemField mo_itemPlace mo_by mo_stepKind mo_stepField mo_stepOperator mo_stepOther mo_stepMany mo_literalType mo_literalFrom mo_literalSize mo_bytes mo_said mo_number mo_pile mo_pilePlace mo_top mo_open x2 z2) cs_X6_126 ⟨Nat.le_of_ble_eq_true rfl, Nat.le_of_ble_eq_true rfl⟩ ⟨rfl, rfl⟩ (ci := 6) (cn := (RX6, TX6, 35)) rfl (q0 := 0) rfl (wn := w_mo E a_mo mo_code mo_tape mo_text mo_taped mo_size mo_at mo_ill mo_in mo_kind mo_type mo_long1 mo_letters mo_fields mo_kept mo_now mo_many mo_itemKind mo_itemField mo_itemPlace mo_by mo_stepKind mo_stepField mo_stepOperator mo_stepOther mo_stepMany mo_literalType mo_literalFrom mo_literalSize mo_bytes mo_said mo_number mo_pile mo_pilePlace mo_top mo_open) (Jn.all _ _) rfl hl.1 rfl (Nat.le_of_ble_eq_true rfl) dX6_readText_21 ⟨Nat.zero_le _, Nat.zero_le _⟩ (fun H locs hw => ?_)
      refine lv_bipush (v := 39) hx hb dX6_readText_24 (by decide) ?_
      refine lv_icmp_eq (tgt := 102) hx hb dX6_readText_26 (by decide) (fun c26 => ?_) (fun c26 => ?_)
      · replace hf := it_t c26 hf
        refine lv_aload_n hx hb dX6_readText_102 rfl (lv_at hl 0 rfl) ?_
        refine lv_dup hx hb dX6_readText_103 rfl ?_
        refine fg_X6_99 C hw 0 rfl rfl dX6_readText_104 ?_
        refine lv_iconst (v := 1) hx hb dX6_readText_107 (by decide) ?_
        refine lv_iadd hx hb dX6_readText_108 ?_
        obtain ⟨x3, ex3, hf⟩ := on_el hf
        refine tp_i ex3 ?_
        refine fp_X6_99 C hw 0 rfl (Nat.le_of_ble_eq_true rfl) (ws' := w_mo E a_mo mo_code mo_tape mo_text mo_taped mo_size x3 mo_ill mo_in mo_kind mo_type mo_long1 mo_letters mo_fields mo_kept mo_now mo_many mo_itemKind mo_itemField mo_itemPlace mo_by mo_stepKind mo_stepField mo_stepOperator mo_stepOther mo_stepMany mo_literalType mo_literalFrom mo_literalSize mo_bytes mo_said mo_number mo_pile mo_pilePlace mo_top mo_open) rfl dX6_readText_109 (fun H locs hw => ?_)
        cases hf
        exact rt_v C hw dX6_readText_112
      · replace hf := it_f c26 hf
        refine lv_aload_n hx hb dX6_readText_29 rfl (lv_at hl 0 rfl) ?_
        obtain ⟨x4, z4, hf⟩ := ob1_el hf
        refine cI_V C hw (c_X6_look l E a_mo mo_code mo_tape mo_text mo_taped mo_size mo_at mo_ill mo_in mo_kind mo_type mo_long1 mo_letters mo_fields mo_kept mo_now mo_many mo_itemKind mo_itemField mo_itemPlace mo_by mo_stepKind mo_stepField mo_stepOperator mo_stepOther mo_stepMany mo_literalType mo_literalFrom mo_literalSize mo_bytes mo_said mo_number mo_pile mo_pilePlace mo_top mo_open x4 z4) cs_X6_126 ⟨Nat.le_of_ble_eq_true rfl, Nat.le_of_ble_eq_true rfl⟩ ⟨rfl, rfl⟩ (ci := 6) (cn := (RX6, TX6, 35)) rfl (q0 := 0) rfl (wn := w_mo E a_mo mo_code mo_tape mo_text mo_taped mo_size mo_at mo_ill mo_in mo_kind mo_type mo_long1 mo_letters mo_fields mo_kept mo_now mo_many mo_itemKind mo_itemField mo_itemPlace mo_by mo_stepKind mo_stepField mo_stepOperator mo_stepOther mo_stepMany mo_literalType mo_literalFrom mo_literalSize mo_bytes mo_said mo_number mo_pile mo_pilePlace mo_top mo_open) (Jn.all _ _) rfl hl.1 rfl (Nat.le_of_ble_eq_true rfl) dX6_readText_30 ⟨Nat.zero_le _, Nat.zero_le _⟩ (fun H locs hw => ?_)
        refine lv_istore_n (lv' := [(2, .int x4), (0, .ref (a_mo 0)), (1, .int l1)]) hx hb dX6_readText_33 rfl hl (by decide) rfl (fun ls hl => ?_)
        refine lv_iload_n hx hb dX6_readText_34 rfl (lv_at hl 0 rfl) ?_
        refine lv_bipush (v := 32) hx hb dX6_readText_35 (by decide) ?_
        refine lv_icmp_lt (tgt := 53) hx hb dX6_readText_37 (by decide) (fun c37 => ?_) (fun c37 => ?_)
        · replace hf := it_t c37 hf
          refine lv_aload_n hx hb dX6_readText_53 rfl (lv_at hl 1 rfl) ?_
          refine lv_aload_n hx hb dX6_readText_54 rfl (lv_at hl 1 rfl) ?_
          refine fg_X6_99 C hw 0 rfl rfl dX6_readText_55 ?_
          obtain ⟨x5, z5, hf⟩ := ob1_el hf
          refine cV_V C hw (c_X6_fail l E a_mo mo_code mo_tape mo_text mo_taped mo_size mo_at mo_ill mo_in mo_kind mo_type mo_long1 mo_letters mo_fields mo_kept mo_now mo_many mo_itemKind mo_itemField mo_itemPlace mo_by mo_stepKind mo_stepField mo_stepOperator mo_stepOther mo_stepMany mo_literalType mo_literalFrom mo_literalSize mo_bytes mo_said mo_number mo_pile mo_pilePlace mo_top mo_open mo_at x5 z5) cs_X6_144 ⟨Nat.le_of_ble_eq_true rfl, Nat.le_of_ble_eq_true rfl⟩ ⟨rfl, rfl⟩ (ci := 6) (cn := (RX6, TX6, 35)) rfl (q0 := 0) rfl (wn := w_mo E a_mo mo_code mo_tape mo_text mo_taped mo_size mo_at x5 mo_in mo_kind mo_type mo_long1 mo_letters mo_fields mo_kept mo_now mo_many mo_itemKind mo_itemField mo_itemPlace mo_by mo_stepKind mo_stepField mo_stepOperator mo_stepOther mo_stepMany mo_literalType mo_literalFrom mo_literalSize mo_bytes mo_said mo_number mo_pile mo_pilePlace mo_top mo_open) (Jn.all _ _) rfl hl.1 rfl (Nat.le_of_ble_eq_true rfl) dX6_readText_58 ⟨Nat.zero_le _, Nat.zero_le _⟩ (fun H locs hw => ?_)
          cases hf
          exact rt_v C hw dX6_readText_61
        · replace hf := it_f c37 hf
          refine lv_iload_n hx hb dX6_readText_40 rfl (lv_at hl 0 rfl) ?_
          refine lv_bipush (v := 126) hx hb dX6_readText_41 (by decide) ?_
          refine lv_icmp_gt (tgt := 53) hx hb dX6_readText_43 (by decide) (fun c43 => ?_) (fun c43 => ?_)
          · replace hf := it_t c43 hf
            refine lv_aload_n hx hb dX6_readText_53 rfl (lv_at hl 1 rfl) ?_
            refine lv_aload_n hx hb dX6_readText_54 rfl (lv_at hl 1 rfl) ?_
            refine fg_X6_99 C hw 0 rfl rfl dX6_readText_55 ?_
            obtain ⟨x6, z6, hf⟩ := ob1_el hf
            refine cV_V C hw (c_X6_fail l E a_mo mo_code mo_tape mo_text mo_taped mo_size mo_at mo_ill mo_in mo_kind mo_type mo_long1 mo_letters mo_fields mo_kept mo_now mo_many mo_itemKind mo_itemField mo_itemPlace mo_by mo_stepKind mo_stepField mo_stepOperator mo_stepOther mo_stepMany mo_literalType mo_literalFrom mo_literalSize mo_bytes mo_said mo_number mo_pile mo_pilePlace mo_top mo_open mo_at x6 z6) cs_X6_144 ⟨Nat.le_of_ble_eq_true rfl, Nat.le_of_ble_eq_true rfl⟩ ⟨rfl, rfl⟩ (ci := 6) (cn := (RX6, TX6, 35)) rfl (q0 := 0) rfl (wn := w_mo E a_mo mo_code mo_tape mo_text mo_taped mo_size mo_at x6 mo_in mo_kind mo_type mo_long1 mo_letters mo_fields mo_kept mo_now mo_many mo_itemKind mo_itemField mo_itemPlace mo_by mo_stepKind mo_stepField mo_stepOperator mo_stepOther mo_stepMany mo_literalType mo_literalFrom mo_literalSize mo_bytes mo_said mo_number mo_pile mo_pilePlace mo_top mo_open) (Jn.all _ _) rfl hl.1 rfl (Nat.le_of_ble_eq_true rfl) dX6_readText_58 ⟨Nat.zero_le _, Nat.zero_le _⟩ (fun H locs hw => ?_)
            cases hf
            exact rt_v C hw dX6_readText_61
          · replace hf := it_f c43 hf
            refine lv_iload_n hx hb dX6_readText_46 rfl (lv_at hl 2 rfl) ?_
            refine lv_sipush (v := 255) hx hb dX6_readText_47 (by decide) ?_
            refine lv_icmp_ne (tgt := 62) hx hb dX6_readText_50 (by decide) (fun c50 => ?_) (fun c50 => ?_)
            · replace hf := it_f c50 hf
              refine lv_aload_n hx hb dX6_readText_62 rfl (lv_at hl 1 rfl) ?_
              refine fg_X6_99 C hw 0 rfl rfl dX6_readText_63 ?_
              refine lv_istore_n (lv' := [(3, .int mo_at), (2, .int x4), (0, .ref (a_mo 0)), (1, .int l1)]) hx hb dX6_readText_66 rfl hl (by decide) rfl (fun ls hl => ?_)
              refine lv_aload_n hx hb dX6_readText_67 rfl (lv_at hl 2 rfl) ?_
              refine lv_dup hx hb dX6_readText_68 rfl ?_
              refine fg_X6_99 C hw 0 rfl rfl dX6_readText_69 ?_
              refine lv_iconst (v := 1) hx hb dX6_readText_72 (by decide) ?_
              refine lv_iadd hx hb dX6_readText_73 ?_
              obtain ⟨x7, ex7, hf⟩ := on_el hf
              refine tp_i ex7 ?_
              refine fp_X6_99 C hw 0 rfl (Nat.le_of_ble_eq_true rfl) (ws' := w_mo E a_mo mo_code mo_tape mo_text mo_taped mo_size x7 mo_ill mo_in mo_kind mo_type mo_long1 mo_letters mo_fields mo_kept mo_now mo_many mo_itemKind mo_itemField mo_itemPlace mo_by mo_stepKind mo_stepField mo_stepOperator mo_stepOther mo_stepMany mo_literalType mo_literalFrom mo_literalSize mo_bytes mo_said mo_number mo_pile mo_pilePlace mo_top mo_open) rfl dX6_readText_74 (fun H locs hw => ?_)
              refine lv_aload_n hx hb dX6_readText_77 rfl (lv_at hl 2 rfl) ?_
              refine lv_iload_n hx hb dX6_readText_78 rfl (lv_at hl 1 rfl) ?_
              refine lv_bipush (v := 92) hx hb dX6_readText_79 (by decide) ?_
              refine lv_icmp_ne (tgt := 92) hx hb dX6_readText_81 (by decide) (fun c81 => ?_) (fun c81 => ?_)
              · replace hf := it_f c81 hf
                refine lv_iload_n hx hb dX6_readText_92 rfl (lv_at hl 1 rfl) ?_
                obtain ⟨x8, x9, z9, hf⟩ := ob2_el hf
                refine cV_V C hw (c_X6_say l E a_mo mo_code mo_tape mo_text mo_taped mo_size x7 mo_ill mo_in mo_kind mo_type mo_long1 mo_letters mo_fields mo_kept mo_now mo_many mo_itemKind mo_itemField mo_itemPlace mo_by mo_stepKind mo_stepField mo_stepOperator mo_stepOther mo_stepMany mo_literalType mo_literalFrom mo_literalSize mo_bytes mo_said mo_number mo_pile mo_pilePlace mo_top mo_open x4 x8 x9 z9) cs_X6_250 ⟨Nat.le_of_ble_eq_true rfl, Nat.le_of_ble_eq_true rfl⟩ ⟨rfl, rfl⟩ (ci := 6) (cn := (RX6, TX6, 35)) rfl (q0 := 0) rfl (wn := w_mo E a_mo mo_code mo_tape mo_text mo_taped mo_size x7 mo_ill mo_in mo_kind mo_type mo_long1 mo_letters mo_fields mo_kept mo_now mo_many mo_itemKind mo_itemField mo_itemPlace mo_by mo_stepKind mo_stepField mo_stepOperator mo_stepOther mo_stepMany mo_literalType mo_literalFrom mo_literalSize x8 x9 mo_number mo_pile mo_pilePlace mo_top mo_open) (Jn.all _ _) rfl hl.1 rfl (Nat.le_of_ble_eq_true rfl) dX6_readText_93 ⟨Nat.zero_le _, Nat.zero_le _⟩ (fun H locs hw => ?_)
                obtain ⟨x10, ex10, hf⟩ := on_el hf
                refine lv_iinc (v := x10) (lv' := [(1, .int x10), (3, .int mo_at), (2, .int x4), (0, .ref (a_mo 0))]) hx hb dX6_readText_96 hl (k := 3) rfl (by rw [← ex10]; rfl) (by decide) rfl (fun ls hl => ?_)
                refine lv_goto (tgt := 12) hx hb dX6_readText_99 (by decide) ?_
                exact ih hw (lv_sub hl [3, 0] rfl) hf
              · replace hf := it_t c81 hf
                refine lv_aload_n hx hb dX6_readText_84 rfl (lv_at hl 2 rfl) ?_
                refine lv_iload_n hx hb dX6_readText_85 rfl (lv_at hl 0 rfl) ?_
                obtain ⟨x11, x12, x13, z13, hf⟩ := ob3_el hf
                refine cI_V C hw (c_X6_behind l E a_mo mo_code mo_tape mo_text mo_taped mo_size x7 mo_ill mo_in mo_kind mo_type mo_long1 mo_letters mo_fields mo_kept mo_now mo_many mo_itemKind mo_itemField mo_itemPlace mo_by mo_stepKind mo_stepField mo_stepOperator mo_stepOther mo_stepMany mo_literalType mo_literalFrom mo_literalSize mo_bytes mo_said mo_number mo_pile mo_pilePlace mo_top mo_open mo_at x11 x12 x13 z13) cs_X6_247 ⟨Nat.le_of_ble_eq_true rfl, Nat.le_of_ble_eq_true rfl⟩ ⟨rfl, rfl⟩ (ci := 6) (cn := (RX6, TX6, 35)) rfl (q0 := 0) rfl (wn := w_mo E a_mo mo_code mo_tape mo_text mo_taped mo_size x12 x13 mo_in mo_kind mo_type mo_long1 mo_letters mo_fields mo_kept mo_now mo_many mo_itemKind mo_itemField mo_itemPlace mo_by mo_stepKind mo_stepField mo_stepOperator mo_stepOther mo_stepMany mo_literalType mo_literalFrom mo_literalSize mo_bytes mo_said mo_number mo_pile mo_pilePlace mo_top mo_open) (Jn.all _ _) rfl hl.1 rfl (Nat.le_of_ble_eq_true rfl) dX6_readText_86 ⟨Nat.zero_le _, Nat.zero_le _⟩ (fun H locs hw => ?_)
                refine lv_goto (tgt := 93) hx hb dX6_readText_89 (by decide) ?_
                obtain ⟨x14, x15, z15, hf⟩ := ob2_el hf
                refine cV_V C hw (c_X6_say l E a_mo mo_code mo_tape mo_text mo_taped mo_size x12 x13 mo_in mo_kind mo_type mo_long1 mo_letters mo_fields mo_kept mo_now mo_many mo_itemKind mo_itemField mo_itemPlace mo_by mo_stepKind mo_stepField mo_stepOperator mo_stepOther mo_stepMany mo_literalType mo_literalFrom mo_literalSize mo_bytes mo_said mo_number mo_pile mo_pilePlace mo_top mo_open x11 x14 x15 z15) cs_X6_250 ⟨Nat.le_of_ble_eq_true rfl, Nat.le_of_ble_eq_true rfl⟩ ⟨rfl, rfl⟩ (ci := 6) (cn := (RX6, TX6, 35)) rfl (q0 := 0) rfl (wn := w_mo E a_mo mo_code mo_tape mo_text mo_taped mo_size x12 x13 mo_in mo_kind mo_type mo_long1 mo_letters mo_fields mo_kept mo_now mo_many mo_itemKind mo_itemField mo_itemPlace mo_by mo_stepKind mo_stepField mo_stepOperator mo_stepOther mo_stepMany mo_literalType mo_literalFrom mo_literalSize x14 x15 mo_number mo_pile mo_pilePlace mo_top mo_open) (Jn.all _ _) rfl hl.1 rfl (Nat.le_of_ble_eq_true rfl) dX6_readText_93 ⟨Nat.zero_le _, Nat.zero_le _⟩ (fun H locs hw => ?_)
                obtain ⟨x16, ex16, hf⟩ := on_el hf
                refine lv_iinc (v := x16) (lv' := [(1, .int x16), (3, .int mo_at), (2, .int x4), (0, .ref (a_mo 0))]) hx hb dX6_readText_96 hl (k := 3) rfl (by rw [← ex16]; rfl) (by decide) rfl (fun ls hl => ?_)
                refine lv_goto (tgt := 12) hx hb dX6_readText_99 (by decide) ?_
                exact ih hw (lv_sub hl [3, 0] rfl) hf
            · replace hf := it_t c50 hf
              refine lv_aload_n hx hb dX6_readText_53 rfl (lv_at hl 1 rfl) ?_
              refine lv_aload_n hx hb dX6_readText_54 rfl (lv_at hl 1 rfl) ?_
              refine fg_X6_99 C hw 0 rfl rfl dX6_readText_55 ?_
              obtain ⟨x17, z17, hf⟩ := ob1_el hf
              refine cV_V C hw (c_X6_fail l E a_mo mo_code mo_tape mo_text mo_taped mo_size mo_at mo_ill mo_in mo_kind mo_type mo_long1 mo_letters mo_fields mo_kept mo_now mo_many mo_itemKind mo_itemField mo_itemPlace mo_by mo_stepKind mo_stepField mo_stepOperator mo_stepOther mo_stepMany mo_literalType mo_literalFrom mo_literalSize mo_bytes mo_said mo_number mo_pile mo_pilePlace mo_top mo_open mo_at x17 z17) cs_X6_144 ⟨Nat.le_of_ble_eq_true rfl, Nat.le_of_ble_eq_true rfl⟩ ⟨rfl, rfl⟩ (ci := 6) (cn := (RX6, TX6, 35)) rfl (q0 := 0) rfl (wn := w_mo E a_mo mo_code mo_tape mo_text mo_taped mo_size mo_at x17 mo_in mo_kind mo_type mo_long1 mo_letters mo_fields mo_kept mo_now mo_many mo_itemKind mo_itemField mo_itemPlace mo_by mo_stepKind mo_stepField mo_stepOperator mo_stepOther mo_stepMany mo_literalType mo_literalFrom mo_literalSize mo_bytes mo_said mo_number mo_pile mo_pilePlace mo_top mo_open) (Jn.all _ _) rfl hl.1 rfl (Nat.le_of_ble_eq_true rfl) dX6_readText_58 ⟨Nat.zero_le _, Nat.zero_le _⟩ (fun H locs hw => ?_)
              cases hf
              exact rt_v C hw dX6_readText_61
def f_X6_readText (mo_text : Nat → Int32) (mo_size : Int32) (mo_at : Int32) (mo_ill : Int32) (mo_now : Int32) (mo_bytes : Nat → Int32) (mo_said : Nat → Int32) : Option ((Int32) × (Int32) × (Nat → Int32) × (Nat → Int32)) :=
  on (mo_at + (1 : Int32)) (fun x1 =>
  f_X6_readText_12 FU (0 : Int32) mo_text mo_size x1 mo_ill mo_now mo_bytes mo_said)
set_option maxHeartbeats 4000000 in
set_option maxRecDepth 100000 in
theorem c_X6_readText (l : Launch) (E : EnvT) (a_mo : Nat → Nat) (mo_code : Int32) (mo_tape : Nat → Int32) (mo_text : Nat → Int32) (mo_taped : Int32) (mo_size : Int32) (mo_at : Int32) (mo_ill : Int32) (mo_in : Nat → Int32) (mo_kind : Nat → Int32) (mo_type : Nat → Int32) (mo_long1 : Nat → Int32) (mo_letters : Nat → Int32) (mo_fields : Int32) (mo_kept : Int32) (mo_now : Int32) (mo_many : Nat → Int32) (mo_itemKind : Nat → Int32) (mo_itemField : Nat → Int32) (mo_itemPlace : Nat → Int32) (mo_by : Nat → Int32) (mo_stepKind : Nat → Int32) (mo_stepField : Nat → Int32) (mo_stepOperator : Nat → Int32) (mo_stepOther : Nat → Int32) (mo_stepMany : Nat → Int32) (mo_literalType : Nat → Int32) (mo_literalFrom : Nat → Int32) (mo_literalSize : Nat → Int32) (mo_bytes : Nat → Int32) (mo_said : Nat → Int32) (mo_number : Nat → Int64) (mo_pile : Nat → Int32) (mo_pilePlace : Nat → Int32) (mo_top : Int32) (mo_open : Int32) (o_mo_at : Int32) (o_mo_ill : Int32) (o_mo_bytes : Nat → Int32) (o_mo_said : Nat → Int32) (hf : f_X6_readText mo_text mo_size mo_at mo_ill mo_now mo_bytes mo_said = some (o_mo_at, o_mo_ill, o_mo_bytes, o_mo_said)) : CV l yX6_readText (Cond.code yX6_readText cX6_readText 4 none) { frames := 2, cells := 0, slots := 0, locals := 47 } E [.ref (a_mo 0)] (w_mo E a_mo mo_code mo_tape mo_text mo_taped mo_size mo_at mo_ill mo_in mo_kind mo_type mo_long1 mo_letters mo_fields mo_kept mo_now mo_many mo_itemKind mo_itemField mo_itemPlace mo_by mo_stepKind mo_stepField mo_stepOperator mo_stepOther mo_stepMany mo_literalType mo_literalFrom mo_literalSize mo_bytes mo_said mo_number mo_pile mo_pilePlace mo_top mo_open) (w_mo E a_mo mo_code mo_tape mo_text mo_taped mo_size o_mo_at o_mo_ill mo_in mo_kind mo_type mo_long1 mo_letters mo_fields mo_kept mo_now mo_many mo_itemKind mo_itemField mo_itemPlace mo_by mo_stepKind mo_stepField mo_stepOperator mo_stepOther mo_stepMany mo_literalType mo_literalFrom mo_literalSize o_mo_bytes o_mo_said mo_number mo_pile mo_pilePlace mo_top mo_open) := by
  intro sz
  refine met_start [(0, .ref (a_mo 0))] (by decide) rfl rfl (Nat.le_of_ble_eq_true rfl) rfl ?_
  intro p e s m below meth c ls C hnm hmt hw hl
  have hx := C.1
  have hb := C.2.1
  generalize va_A (w_mo E a_mo mo_code mo_tape mo_text mo_taped mo_size mo_at mo_ill mo_in mo_kind mo_type mo_long1 mo_letters mo_fields mo_kept mo_now mo_many mo_itemKind mo_itemField mo_itemPlace mo_by mo_stepKind mo_stepField mo_stepOperator mo_stepOther mo_stepMany mo_literalType mo_literalFrom mo_literalSize mo_bytes mo_said mo_number mo_pile mo_pilePlace mo_top mo_open) sz = A at C hw ⊢
  unfold f_X6_readText at hf
  refine lv_aload_n hx hb dX6_readText_0 rfl (lv_at hl 0 rfl) ?_
  refine lv_dup hx hb dX6_readText_1 rfl ?_
  refine fg_X6_99 C hw 0 rfl rfl dX6_readText_2 ?_
  refine lv_iconst (v := 1) hx hb dX6_readText_5 (by decide) ?_
  refine lv_iadd hx hb dX6_readText_6 ?_
  obtain ⟨x1, ex1, hf⟩ := on_el hf
  refine tp_i ex1 ?_
  refine fp_X6_99 C hw 0 rfl (Nat.le_of_ble_eq_true rfl) (ws' := w_mo E a_mo mo_code mo_tape mo_text mo_taped mo_size x1 mo_ill mo_in mo_kind mo_type mo_long1 mo_letters mo_fields mo_kept mo_now mo_many mo_itemKind mo_itemField mo_itemPlace mo_by mo_stepKind mo_stepField mo_stepOperator mo_stepOther mo_stepMany mo_literalType mo_literalFrom mo_literalSize mo_bytes mo_said mo_number mo_pile mo_pilePlace mo_top mo_open) rfl dX6_readText_7 (fun H locs hw => ?_)
  refine lv_iconst (v := 0) hx hb dX6_readText_10 (by decide) ?_
  refine lv_istore_n (lv' := [(1, .int (0 : Int32)), (0, .ref (a_mo 0))]) hx hb dX6_readText_11 rfl hl (by decide) rfl (fun ls hl => ?_)
  exact w_X6_readText_12 C FU hw (lv_sub hl [1, 0] rfl) hf
def f_X6_readNumber_96 : Nat → (Int64) → (Int32) → (Nat → Int32) → (Int32) → (Int32) → Option ((Int64) × (Int32) × (Int32))
  | 0, _, _, _, _, _ => none
  | n + 1, l5, l7, mo_text, mo_size, mo_at =>
  ob1 (f_X6_look mo_text mo_size mo_at) (fun x1 =>
  ob1 (f_X6_isDigit x1) (fun x2 =>
  if x2 = (0 : Int32) then (some (l5, l7, mo_at))
  else (ob1 (f_X6_look mo_text mo_size mo_at) (fun x3 =>
  on (x3 - (48 : Int32)) (fun x4 =>
  if l7 = (0 : Int32) then (if (0 : Int32) ≤ (lg_cmp l5 (((-9223372036854775808 : Int64) + (Int32.toInt64 x4)) / (10 : Int64))) then (on (((10 : Int64) * l5) - (Int32.toInt64 x4)) (fun x7 =>
  on (mo_at + (1 : Int32)) (fun x8 =>
  f_X6_readNumber_96 n x7 (0 : Int32) mo_text mo_size x8)))
  else (on (((10 : Int64) * l5) - (Int32.toInt64 x4)) (fun x9 =>
  on (mo_at + (1 : Int32)) (fun x10 =>
  f_X6_readNumber_96 n x9 (1 : Int32) mo_text mo_size x10))))
  else (on (((10 : Int64) * l5) - (Int32.toInt64 x4)) (fun x5 =>
  on (mo_at + (1 : Int32)) (fun x6 =>
  f_X6_readNumber_96 n x5 (1 : Int32) mo_text mo_size x6))))))))
set_option maxHeartbeats 4000000 in
set_option maxRecDepth 100000 in
theorem w_X6_readNumber_96 {p : Program} {l : Launch} {e : Env} {s : State} {m : MethodId} {args : Array Value} {below : List Frame} {meth : Method} {c : Code} {E : EnvT} {A : Nat → Prop} {a_mo : Nat → Nat} {Q : State → Prop} {mo_code : Int32} {mo_tape : Nat → Int32} {mo_taped : Int32} {mo_ill : Int32} {mo_in : Nat → Int32} {mo_kind : Nat → Int32} {mo_type : Nat → Int32} {mo_long1 : Nat → Int32} {mo_letters : Nat → Int32} {mo_fields : Int32} {mo_kept : Int32} {mo_now : Int32} {mo_many : Nat → Int32} {mo_itemKind : Nat → Int32} {mo_itemField : Nat → Int32} {mo_itemPlace : Nat → Int32} {mo_by : Nat → Int32} {mo_stepKind : Nat → Int32} {mo_stepField : Nat → Int32} {mo_stepOperator : Nat → Int32} {mo_stepOther : Nat → Int32} {mo_stepMany : Nat → Int32} {mo_literalType : Nat → Int32} {mo_literalFrom : Nat → Int32} {mo_literalSize : Nat → Int32} {mo_bytes : Nat → Int32} {mo_said : Nat → Int32} {mo_number : Nat → Int64} {mo_pile : Nat → Int32} {mo_pilePlace : Nat → Int32} {mo_top : Int32} {mo_open : Int32} {l1 : Int32} {l2 : Int32} {l3 : Int32} {l4 : Int32} {q_l5 : Int64} {q_l7 : Int32} {q_mo_at : Int32} (C : MC p s m args meth c E A cX6_readNumber 9 RX6 (some .long)) : ∀ (n : Nat) {l5 : Int64} {l7 : Int32} {mo_text : Nat → Int32} {mo_size : Int32} {mo_at : Int32} {H : Heap} {locs : List Loc} {ls : Array Slot}, WS E A s (w_mo E a_mo mo_code mo_tape mo_text mo_taped mo_size mo_at mo_ill mo_in mo_kind mo_type mo_long1 mo_letters mo_fields mo_kept mo_now mo_many mo_itemKind mo_itemField mo_itemPlace mo_by mo_stepKind mo_stepField mo_stepOperator mo_stepOther mo_stepMany mo_literalType mo_literalFrom mo_literalSize mo_bytes mo_said mo_number mo_pile mo_pilePlace mo_top mo_open) H locs → lv_has ls 9 [(0, .ref (a_mo 0)), (1, .int l1), (2, .int l2), (3, .int l3), (4, .int l4), (5, .long l5), (7, .int l7)] → f_X6_readNumber_96 n l5 l7 mo_text mo_size mo_at = some (q_l5, q_l7, q_mo_at) → (∀ (H : Heap) (locs : List Loc) (ls : Array Slot), WS E A s (w_mo E a_mo mo_code mo_tape mo_text mo_taped mo_size q_mo_at mo_ill mo_in mo_kind mo_type mo_long1 mo_letters mo_fields mo_kept mo_now mo_many mo_itemKind mo_itemField mo_itemPlace mo_by mo_stepKind mo_stepField mo_stepOperator mo_stepOther mo_stepMany mo_literalType mo_literalFrom mo_literalSize mo_bytes mo_said mo_number mo_pile mo_pilePlace mo_top mo_open) H locs → lv_has ls 9 [(0, .ref (a_mo 0)), (1, .int l1), (2, .int l2), (3, .int l3), (4, .int l4), (5, .long q_l5), (7, .int q_l7)] → W p l e { frames := 1, cells := 0, slots := 0, locals := 21 } s m args below meth c H locs 0 0 Q (F0 m 169 ls [])) → W p l e { frames := 1, cells := 0, slots := 0, locals := 21 } s m args below meth c H locs 0 0 Q (F0 m 96 ls []) := by
  have hx := C.1
  have hb := C.2.1
  intro n
  induction n with
  | zero =>
    intro l5 l7 mo_text mo_size mo_at H locs ls hw hl hf kk
    unfold f_X6_readNumber_96 at hf
    cases hf
  | succ n ih =>
    intro l5 l7 mo_text mo_size mo_at H locs ls hw hl hf kk
    unfold f_X6_readNumber_96 at hf
    refine lv_aload_n hx hb dX6_readNumber_96 rfl (lv_at hl 0 rfl) ?_
    obtain ⟨x1, z1, hf⟩ := ob1_el hf
    refine cI_V C hw (c_X6_look l E a_mo mo_code mo_tape mo_text mo_taped mo_size mo_at mo_ill mo_in mo_kind mo_type mo_long1 mo_letters mo_fields mo_kept mo_now mo_many mo_itemKind mo_itemField mo_itemPlace mo_by mo_stepKind mo_stepField mo_stepOperator mo_stepOther mo_stepMany mo_literalType mo_literalFrom mo_literalSize mo_bytes mo_said mo_number mo_pile mo_pilePlace mo_top mo_open x1 z1) cs_X6_126 ⟨Nat.le_of_ble_eq_true rfl, Nat.le_of_ble_eq_true rfl⟩ ⟨rfl, rfl⟩ (ci := 6) (cn := (RX6, TX6, 35)) rfl (q0 := 0) rfl (wn := w_mo E a_mo mo_code mo_tape mo_text mo_taped mo_size mo_at mo_ill mo_in mo_kind mo_type mo_long1 mo_letters mo_fields mo_kept mo_now mo_many mo_itemKind mo_itemField mo_itemPlace mo_by mo_stepKind mo_stepField mo_stepOperator mo_stepOther mo_stepMany mo_literalType mo_literalFrom mo_literalSize mo_bytes mo_said mo_number mo_pile mo_pilePlace mo_top mo_open) (Jn.all _ _) rfl hl.1 rfl (Nat.le_of_ble_eq_true rfl) dX6_readNumber_97 ⟨Nat.zero_le _, Nat.zero_le _⟩ (fun H locs hw => ?_)
    obtain ⟨x2, z2, hf⟩ := ob1_el hf
    refine cI_S C hw (c_X6_isDigit l E x1 x2 z2) cs_X6_109 ⟨Nat.le_of_ble_eq_true rfl, Nat.le_of_ble_eq_true rfl⟩ ⟨rfl, rfl⟩ (wn := w_mo E a_mo mo_code mo_tape mo_text mo_taped mo_size mo_at mo_ill mo_in mo_kind mo_type mo_long1 mo_letters mo_fields mo_kept mo_now mo_many mo_itemKind mo_itemField mo_itemPlace mo_by mo_stepKind mo_stepField mo_stepOperator mo_stepOther mo_stepMany mo_literalType mo_literalFrom mo_literalSize mo_bytes mo_said mo_number mo_pile mo_pilePlace mo_top mo_open) (Jn.none _) rfl hl.1 rfl (Nat.le_of_ble_eq_true rfl) dX6_readNumber_100 ⟨Nat.zero_le _, Nat.zero_le _⟩ (fun H locs hw => ?_)
    refine lv_if_eq (tgt := 169) hx hb dX6_readNumber_103 (by decide) (fun c103 => ?_) (fun c103 => ?_)
    · replace hf := it_t c103 hf
      cases hf
      exact kk _ _ _ hw (lv_sub hl [0, 1, 2, 3, 4, 5, 6] rfl)
    · replace hf := it_f c103 hf
      refine lv_aload_n hx hb dX6_readNumber_106 rfl (lv_at hl 0 rfl) ?_
      obtain ⟨x3, z3, hf⟩ := ob1_el hf
      refine cI_V C hw (c_X6_look l E a_mo mo_code mo_tape mo_text mo_taped mo_size mo_at mo_ill mo_in mo_kind mo_type mo_long1 mo_letters mo_fields mo_kept mo_now mo_many mo_itemKind mo_itemField mo_itemPlace mo_by mo_stepKind mo_stepField mo_stepOperator mo_stepOther mo_stepMany mo_literalType mo_literalFrom mo_literalSize mo_bytes mo_said mo_number mo_pile mo_pilePlace mo_top mo_open x3 z3) cs_X6_126 ⟨Nat.le_of_ble_eq_true rfl, Nat.le_of_ble_eq_true rfl⟩ ⟨rfl, rfl⟩ (ci := 6) (cn := (RX6, TX6, 35)) rfl (q0 := 0) rfl (wn := w_mo E a_mo mo_code mo_tape mo_text mo_taped mo_size mo_at mo_ill mo_in mo_kind mo_type mo_long1 mo_letters mo_fields mo_kept mo_now mo_many mo_itemKind mo_itemField mo_itemPlace mo_by mo_stepKind mo_stepField mo_stepOperator mo_stepOther mo_stepMany mo_literalType mo_literalFrom mo_literalSize mo_bytes mo_said mo_number mo_pile mo_pilePlace mo_top mo_open) (Jn.all _ _) rfl hl.1 rfl (Nat.le_of_ble_eq_true rfl) dX6_readNumber_107 ⟨Nat.zero_le _, Nat.zero_le _⟩ (fun H locs hw => ?_)
      refine lv_bipush (v := 48) hx hb dX6_readNumber_110 (by decide) ?_
      refine lv_isub hx hb dX6_readNumber_112 ?_
      obtain ⟨x4, ex4, hf⟩ := on_el hf
      refine tp_i ex4 ?_
      refine lv_istore (lv' := [(8, .int x4), (0, .ref (a_mo 0)), (1, .int l1), (2, .int l2), (3, .int l3), (4, .int l4), (5, .long l5), (7, .int l7)]) hx hb dX6_readNumber_113 hl (by decide) rfl (fun ls hl => ?_)
      refine lv_iload hx hb dX6_readNumber_115 (lv_at hl 7 rfl) ?_
      refine lv_if_ne (tgt := 137) hx hb dX6_readNumber_117 (by decide) (fun c117 => ?_) (fun c117 => ?_)
      · replace hf := it_f c117 hf
        refine lv_iconst (v := 1) hx hb dX6_readNumber_137 (by decide) ?_
        refine lv_goto (tgt := 142) hx hb dX6_readNumber_138 (by decide) ?_
        refine lv_istore (lv' := [(7, .int (1 : Int32)), (8, .int x4), (0, .ref (a_mo 0)), (1, .int l1), (2, .int l2), (3, .int l3), (4, .int l4), (5, .long l5)]) hx hb dX6_readNumber_142 hl (by decide) rfl (fun ls hl => ?_)
        refine rc2 C mw_851 dX6_readNumber_144 ?_
        refine lv_lload hx hb dX6_readNumber_147 (lv_at hl 7 rfl) ?_
        refine lv_lmul hx hb dX6_readNumber_149 ?_
        refine lv_iload hx hb dX6_readNumber_150 (lv_at hl 1 rfl) ?_
        refine lv_i2l hx hb dX6_readNumber_152 rfl ?_
        refine lv_lsub hx hb dX6_readNumber_153 ?_
        obtain ⟨x5, ex5, hf⟩ := on_el hf
        refine tp_l ex5 ?_
        refine lv_lstore (lv' := [(5, .long x5), (7, .int (1 : Int32)), (8, .int x4), (0, .ref (a_mo 0)), (1, .int l1), (2, .int l2), (3, .int l3), (4, .int l4)]) hx hb dX6_readNumber_154 hl (by decide) rfl (fun ls hl => ?_)
        refine lv_aload_n hx hb dX6_readNumber_156 rfl (lv_at hl 3 rfl) ?_
        refine lv_dup hx hb dX6_readNumber_157 rfl ?_
        refine fg_X6_99 C hw 0 rfl rfl dX6_readNumber_158 ?_
        refine lv_iconst (v := 1) hx hb dX6_readNumber_161 (by decide) ?_
        refine lv_iadd hx hb dX6_readNumber_162 ?_
        obtain ⟨x6, ex6, hf⟩ := on_el hf
        refine tp_i ex6 ?_
        refine fp_X6_99 C hw 0 rfl (Nat.le_of_ble_eq_true rfl) (ws' := w_mo E a_mo mo_code mo_tape mo_text mo_taped mo_size x6 mo_ill mo_in mo_kind mo_type mo_long1 mo_letters mo_fields mo_kept mo_now mo_many mo_itemKind mo_itemField mo_itemPlace mo_by mo_stepKind mo_stepField mo_stepOperator mo_stepOther mo_stepMany mo_literalType mo_literalFrom mo_literalSize mo_bytes mo_said mo_number mo_pile mo_pilePlace mo_top mo_open) rfl dX6_readNumber_163 (fun H locs hw => ?_)
        refine lv_goto (tgt := 96) hx hb dX6_readNumber_166 (by decide) ?_
        exact ih hw (lv_sub hl [3, 4, 5, 6, 7, 0, 1] rfl) hf kk
      · replace hf := it_t c117 hf
        refine lv_lload hx hb dX6_readNumber_120 (lv_at hl 6 rfl) ?_
        refine rc2 C mw_850 dX6_readNumber_122 ?_
        refine lv_iload hx hb dX6_readNumber_125 (lv_at hl 0 rfl) ?_
        refine lv_i2l hx hb dX6_readNumber_127 rfl ?_
        refine lv_ladd hx hb dX6_readNumber_128 ?_
        refine rc2 C mw_851 dX6_readNumber_129 ?_
        refine lv_ldiv hx hb dX6_readNumber_132 (by decide) ?_
        refine W.lcmp hx hb dX6_readNumber_133 ?_
        refine lv_if_ge (tgt := 141) hx hb dX6_readNumber_134 (by decide) (fun c134 => ?_) (fun c134 => ?_)
        · replace hf := it_t c134 hf
          refine lv_iconst (v := 0) hx hb dX6_readNumber_141 (by decide) ?_
          refine lv_istore (lv' := [(7, .int (0 : Int32)), (8, .int x4), (0, .ref (a_mo 0)), (1, .int l1), (2, .int l2), (3, .int l3), (4, .int l4), (5, .long l5)]) hx hb dX6_readNumber_142 hl (by decide) rfl (fun ls hl => ?_)
          refine rc2 C mw_851 dX6_readNumber_144 ?_
          refine lv_lload hx hb dX6_readNumber_147 (lv_at hl 7 rfl) ?_
          refine lv_lmul hx hb dX6_readNumber_149 ?_
          refine lv_iload hx hb dX6_readNumber_150 (lv_at hl 1 rfl) ?_
          refine lv_i2l hx hb dX6_readNumber_152 rfl ?_
          refine lv_lsub hx hb dX6_readNumber_153 ?_
          obtain ⟨x7, ex7, hf⟩ := on_el hf
          refine tp_l ex7 ?_
          refine lv_lstore (lv' := [(5, .long x7), (7, .int (0 : Int32)), (8, .int x4), (0, .ref (a_mo 0)), (1, .int l1), (2, .int l2), (3, .int l3), (4, .int l4)]) hx hb dX6_readNumber_154 hl (by decide) rfl (fun ls hl => ?_)
          refine lv_aload_n hx hb dX6_readNumber_156 rfl (lv_at hl 3 rfl) ?_
          refine lv_dup hx hb dX6_readNumber_157 rfl ?_
          refine fg_X6_99 C hw 0 rfl rfl dX6_readNumber_158 ?_
          refine lv_iconst (v := 1) hx hb dX6_readNumber_161 (by decide) ?_
          refine lv_iadd hx hb dX6_readNumber_162 ?_
          obtain ⟨x8, ex8, hf⟩ := on_el hf
          refine tp_i ex8 ?_
          refine fp_X6_99 C hw 0 rfl (Nat.le_of_ble_eq_true rfl) (ws' := w_mo E a_mo mo_code mo_tape mo_text mo_taped mo_size x8 mo_ill mo_in mo_kind mo_type mo_long1 mo_letters mo_fields mo_kept mo_now mo_many mo_itemKind mo_itemField mo_itemPlace mo_by mo_stepKind mo_stepField mo_stepOperator mo_stepOther mo_stepMany mo_literalType mo_literalFrom mo_literalSize mo_bytes mo_said mo_number mo_pile mo_pilePlace mo_top mo_open) rfl dX6_readNumber_163 (fun H locs hw => ?_)
          refine lv_goto (tgt := 96) hx hb dX6_readNumber_166 (by decide) ?_
          exact ih hw (lv_sub hl [3, 4, 5, 6, 7, 0, 1] rfl) hf kk
        · replace hf := it_f c134 hf
          refine lv_iconst (v := 1) hx hb dX6_readNumber_137 (by decide) ?_
          refine lv_goto (tgt := 142) hx hb dX6_readNumber_138 (by decide) ?_
          refine lv_istore (lv' := [(7, .int (1 : Int32)), (8, .int x4), (0, .ref (a_mo 0)), (1, .int l1), (2, .int l2), (3, .int l3), (4, .int l4), (5, .long l5)]) hx hb dX6_readNumber_142 hl (by decide) rfl (fun ls hl => ?_)
          refine rc2 C mw_851 dX6_readNumber_144 ?_
          refine lv_lload hx hb dX6_readNumber_147 (lv_at hl 7 rfl) ?_
          refine lv_lmul hx hb dX6_readNumber_149 ?_
          refine lv_iload hx hb dX6_readNumber_150 (lv_at hl 1 rfl) ?_
          refine lv_i2l hx hb dX6_readNumber_152 rfl ?_
          refine lv_lsub hx hb dX6_readNumber_153 ?_
          obtain ⟨x9, ex9, hf⟩ := on_el hf
          refine tp_l ex9 ?_
          refine lv_lstore (lv' := [(5, .long x9), (7, .int (1 : Int32)), (8, .int x4), (0, .ref (a_mo 0)), (1, .int l1), (2, .int l2), (3, .int l3), (4, .int l4)]) hx hb dX6_readNumber_154 hl (by decide) rfl (fun ls hl => ?_)
          refine lv_aload_n hx hb dX6_readNumber_156 rfl (lv_at hl 3 rfl) ?_
          refine lv_dup hx hb dX6_readNumber_157 rfl ?_
          refine fg_X6_99 C hw 0 rfl rfl dX6_readNumber_158 ?_
          refine lv_iconst (v := 1) hx hb dX6_readNumber_161 (by decide) ?_
          refine lv_iadd hx hb dX6_readNumber_162 ?_
          obtain ⟨x10, ex10, hf⟩ := on_el hf
          refine tp_i ex10 ?_
          refine fp_X6_99 C hw 0 rfl (Nat.le_of_ble_eq_true rfl) (ws' := w_mo E a_mo mo_code mo_tape mo_text mo_taped mo_size x10 mo_ill mo_in mo_kind mo_type mo_long1 mo_letters mo_fields mo_kept mo_now mo_many mo_itemKind mo_itemField mo_itemPlace mo_by mo_stepKind mo_stepField mo_stepOperator mo_stepOther mo_stepMany mo_literalType mo_literalFrom mo_literalSize mo_bytes mo_said mo_number mo_pile mo_pilePlace mo_top mo_open) rfl dX6_readNumber_163 (fun H locs hw => ?_)
          refine lv_goto (tgt := 96) hx hb dX6_readNumber_166 (by decide) ?_
          exact ih hw (lv_sub hl [3, 4, 5, 6, 7, 0, 1] rfl) hf kk
def f_X6_readNumber_193 (l1 : Int32) (l2 : Int32) (l5 : Int64) (mo_at : Int32) (mo_ill : Int32) : Option ((Int64) × (Int32) × (Int32)) :=
  if l2 = (0 : Int32) then (if (lg_cmp l5 (-9223372036854775808 : Int64)) = (0 : Int32) then (ob1 (f_X6_fail l1 mo_ill) (fun x1 =>
  if l2 = (0 : Int32) then (some ((-l5), mo_at, x1))
  else (some (l5, mo_at, x1))))
  else (if l2 = (0 : Int32) then (some ((-l5), mo_at, mo_ill))
  else (some (l5, mo_at, mo_ill))))
  else (if l2 = (0 : Int32) then (some ((-l5), mo_at, mo_ill))
  else (some (l5, mo_at, mo_ill)))
set_option maxHeartbeats 4000000 in
set_option maxRecDepth 100000 in
theorem w_X6_readNumber_193 {p : Program} {l : Launch} {e : Env} {s : State} {m : MethodId} {args : Array Value} {below : List Frame} {meth : Method} {c : Code} {E : EnvT} {A : Nat → Prop} {a_mo : Nat → Nat} {mo_code : Int32} {mo_tape : Nat → Int32} {mo_text : Nat → Int32} {mo_taped : Int32} {mo_size : Int32} {mo_in : Nat → Int32} {mo_kind : Nat → Int32} {mo_type : Nat → Int32} {mo_long1 : Nat → Int32} {mo_letters : Nat → Int32} {mo_fields : Int32} {mo_kept : Int32} {mo_now : Int32} {mo_many : Nat → Int32} {mo_itemKind : Nat → Int32} {mo_itemField : Nat → Int32} {mo_itemPlace : Nat → Int32} {mo_by : Nat → Int32} {mo_stepKind : Nat → Int32} {mo_stepField : Nat → Int32} {mo_stepOperator : Nat → Int32} {mo_stepOther : Nat → Int32} {mo_stepMany : Nat → Int32} {mo_literalType : Nat → Int32} {mo_literalFrom : Nat → Int32} {mo_literalSize : Nat → Int32} {mo_bytes : Nat → Int32} {mo_said : Nat → Int32} {mo_number : Nat → Int64} {mo_pile : Nat → Int32} {mo_pilePlace : Nat → Int32} {mo_top : Int32} {mo_open : Int32} {r : Int64} {o_mo_at : Int32} {o_mo_ill : Int32} {l1 : Int32} {l2 : Int32} {l5 : Int64} {mo_at : Int32} {mo_ill : Int32} {H : Heap} {locs : List Loc} {ls : Array Slot} (C : MC p s m args meth c E A cX6_readNumber 9 RX6 (some .long)) (hw : WS E A s (w_mo E a_mo mo_code mo_tape mo_text mo_taped mo_size mo_at mo_ill mo_in mo_kind mo_type mo_long1 mo_letters mo_fields mo_kept mo_now mo_many mo_itemKind mo_itemField mo_itemPlace mo_by mo_stepKind mo_stepField mo_stepOperator mo_stepOther mo_stepMany mo_literalType mo_literalFrom mo_literalSize mo_bytes mo_said mo_number mo_pile mo_pilePlace mo_top mo_open) H locs) (hl : lv_has ls 9 [(0, .ref (a_mo 0)), (1, .int l1), (2, .int l2), (5, .long l5)]) (hf : f_X6_readNumber_193 l1 l2 l5 mo_at mo_ill = some (r, o_mo_at, o_mo_ill)) : W p l e { frames := 1, cells := 0, slots := 0, locals := 21 } s m args below meth c H locs 0 0 (MQ below (QcL E A (w_mo E a_mo mo_code mo_tape mo_text mo_taped mo_size o_mo_at o_mo_ill mo_in mo_kind mo_type mo_long1 mo_letters mo_fields mo_kept mo_now mo_many mo_itemKind mo_itemField mo_itemPlace mo_by mo_stepKind mo_stepField mo_stepOperator mo_stepOther mo_stepMany mo_literalType mo_literalFrom mo_literalSize mo_bytes mo_said mo_number mo_pile mo_pilePlace mo_top mo_open) r) args s 0 0 A) (F0 m 193 ls []) := by
  have hx := C.1
  have hb := C.2.1
  unfold f_X6_readNumber_193 at hf
  refine lv_iload_n hx hb dX6_readNumber_193 rfl (lv_at hl 2 rfl) ?_
  refine lv_if_ne (tgt := 211) hx hb dX6_readNumber_194 (by decide) (fun c194 => ?_) (fun c194 => ?_)
  · replace hf := it_f c194 hf
    refine lv_iload_n hx hb dX6_readNumber_211 rfl (lv_at hl 2 rfl) ?_
    refine lv_if_eq (tgt := 220) hx hb dX6_readNumber_212 (by decide) (fun c212 => ?_) (fun c212 => ?_)
    · replace hf := it_t c212 hf
      refine lv_lload hx hb dX6_readNumber_220 (lv_at hl 3 rfl) ?_
      refine lv_lneg hx hb dX6_readNumber_222 ?_
      cases hf
      exact rt_l C hw dX6_readNumber_223
    · replace hf := it_f c212 hf
      refine lv_lload hx hb dX6_readNumber_215 (lv_at hl 3 rfl) ?_
      refine lv_goto (tgt := 223) hx hb dX6_readNumber_217 (by decide) ?_
      cases hf
      exact rt_l C hw dX6_readNumber_223
  · replace hf := it_t c194 hf
    refine lv_lload hx hb dX6_readNumber_197 (lv_at hl 3 rfl) ?_
    refine rc2 C mw_850 dX6_readNumber_199 ?_
    refine W.lcmp hx hb dX6_readNumber_202 ?_
    refine lv_if_ne (tgt := 211) hx hb dX6_readNumber_203 (by decide) (fun c203 => ?_) (fun c203 => ?_)
    · replace hf := it_f c203 hf
      refine lv_iload_n hx hb dX6_readNumber_211 rfl (lv_at hl 2 rfl) ?_
      refine lv_if_eq (tgt := 220) hx hb dX6_readNumber_212 (by decide) (fun c212 => ?_) (fun c212 => ?_)
      · replace hf := it_t c212 hf
        refine lv_lload hx hb dX6_readNumber_220 (lv_at hl 3 rfl) ?_
        refine lv_lneg hx hb dX6_readNumber_222 ?_
        cases hf
        exact rt_l C hw dX6_readNumber_223
      · replace hf := it_f c212 hf
        refine lv_lload hx hb dX6_readNumber_215 (lv_at hl 3 rfl) ?_
        refine lv_goto (tgt := 223) hx hb dX6_readNumber_217 (by decide) ?_
        cases hf
        exact rt_l C hw dX6_readNumber_223
    · replace hf := it_t c203 hf
      refine lv_aload_n hx hb dX6_readNumber_206 rfl (lv_at hl 0 rfl) ?_
      refine lv_iload_n hx hb dX6_readNumber_207 rfl (lv_at hl 1 rfl) ?_
      obtain ⟨x1, z1, hf⟩ := ob1_el hf
      refine cV_V C hw (c_X6_fail l E a_mo mo_code mo_tape mo_text mo_taped mo_size mo_at mo_ill mo_in mo_kind mo_type mo_long1 mo_letters mo_fields mo_kept mo_now mo_many mo_itemKind mo_itemField mo_itemPlace mo_by mo_stepKind mo_stepField mo_stepOperator mo_stepOther mo_stepMany mo_literalType mo_literalFrom mo_literalSize mo_bytes mo_said mo_number mo_pile mo_pilePlace mo_top mo_open l1 x1 z1) cs_X6_144 ⟨Nat.le_of_ble_eq_true rfl, Nat.le_of_ble_eq_true rfl⟩ ⟨rfl, rfl⟩ (ci := 6) (cn := (RX6, TX6, 35)) rfl (q0 := 0) rfl (wn := w_mo E a_mo mo_code mo_tape mo_text mo_taped mo_size mo_at x1 mo_in mo_kind mo_type mo_long1 mo_letters mo_fields mo_kept mo_now mo_many mo_itemKind mo_itemField mo_itemPlace mo_by mo_stepKind mo_stepField mo_stepOperator mo_stepOther mo_stepMany mo_literalType mo_literalFrom mo_literalSize mo_bytes mo_said mo_number mo_pile mo_pilePlace mo_top mo_open) (Jn.all _ _) rfl hl.1 rfl (Nat.le_of_ble_eq_true rfl) dX6_readNumber_208 ⟨Nat.zero_le _, Nat.zero_le _⟩ (fun H locs hw => ?_)
      refine lv_iload_n hx hb dX6_readNumber_211 rfl (lv_at hl 2 rfl) ?_
      refine lv_if_eq (tgt := 220) hx hb dX6_readNumber_212 (by decide) (fun c212 => ?_) (fun c212 => ?_)
      · replace hf := it_t c212 hf
        refine lv_lload hx hb dX6_readNumber_220 (lv_at hl 3 rfl) ?_
        refine lv_lneg hx hb dX6_readNumber_222 ?_
        cases hf
        exact rt_l C hw dX6_readNumber_223
      · replace hf := it_f c212 hf
        refine lv_lload hx hb dX6_readNumber_215 (lv_at hl 3 rfl) ?_
        refine lv_goto (tgt := 223) hx hb dX6_readNumber_217 (by decide) ?_
        cases hf
        exact rt_l C hw dX6_readNumber_223
def f_X6_readNumber_83 (l1 : Int32) (l2 : Int32) (s0 : Int32) (mo_text : Nat → Int32) (mo_size : Int32) (mo_at : Int32) (mo_ill : Int32) : Option ((Int64) × (Int32) × (Int32)) :=
  ob3 (f_X6_readNumber_96 FU (0 : Int64) (0 : Int32) mo_text mo_size mo_at) (fun x1 x2 x3 =>
  if x2 = (0 : Int32) then (if s0 = (0 : Int32) then (f_X6_readNumber_193 l1 l2 x1 x3 mo_ill)
  else (if l2 = (0 : Int32) then (if (mo_at + (1 : Int32)) < x3 then (ob1 (f_X6_fail l1 mo_ill) (fun x6 =>
  if l2 = (0 : Int32) then (some ((-x1), x3, x6))
  else (some (x1, x3, x6))))
  else (f_X6_readNumber_193 l1 l2 x1 x3 mo_ill))
  else (ob1 (f_X6_fail l1 mo_ill) (fun x5 =>
  if l2 = (0 : Int32) then (some ((-x1), x3, x5))
  else (some (x1, x3, x5))))))
  else (ob1 (f_X6_fail l1 mo_ill) (fun x4 =>
  if l2 = (0 : Int32) then (some ((-x1), x3, x4))
  else (some (x1, x3, x4)))))
set_option maxHeartbeats 4000000 in
set_option maxRecDepth 100000 in
theorem w_X6_readNumber_83 {p : Program} {l : Launch} {e : Env} {s : State} {m : MethodId} {args : Array Value} {below : List Frame} {meth : Method} {c : Code} {E : EnvT} {A : Nat → Prop} {a_mo : Nat → Nat} {mo_code : Int32} {mo_tape : Nat → Int32} {mo_taped : Int32} {mo_in : Nat → Int32} {mo_kind : Nat → Int32} {mo_type : Nat → Int32} {mo_long1 : Nat → Int32} {mo_letters : Nat → Int32} {mo_fields : Int32} {mo_kept : Int32} {mo_now : Int32} {mo_many : Nat → Int32} {mo_itemKind : Nat → Int32} {mo_itemField : Nat → Int32} {mo_itemPlace : Nat → Int32} {mo_by : Nat → Int32} {mo_stepKind : Nat → Int32} {mo_stepField : Nat → Int32} {mo_stepOperator : Nat → Int32} {mo_stepOther : Nat → Int32} {mo_stepMany : Nat → Int32} {mo_literalType : Nat → Int32} {mo_literalFrom : Nat → Int32} {mo_literalSize : Nat → Int32} {mo_bytes : Nat → Int32} {mo_said : Nat → Int32} {mo_number : Nat → Int64} {mo_pile : Nat → Int32} {mo_pilePlace : Nat → Int32} {mo_top : Int32} {mo_open : Int32} {r : Int64} {o_mo_at : Int32} {o_mo_ill : Int32} {l1 : Int32} {l2 : Int32} {s0 : Int32} {mo_text : Nat → Int32} {mo_size : Int32} {mo_at : Int32} {mo_ill : Int32} {H : Heap} {locs : List Loc} {ls : Array Slot} (C : MC p s m args meth c E A cX6_readNumber 9 RX6 (some .long)) (hw : WS E A s (w_mo E a_mo mo_code mo_tape mo_text mo_taped mo_size mo_at mo_ill mo_in mo_kind mo_type mo_long1 mo_letters mo_fields mo_kept mo_now mo_many mo_itemKind mo_itemField mo_itemPlace mo_by mo_stepKind mo_stepField mo_stepOperator mo_stepOther mo_stepMany mo_literalType mo_literalFrom mo_literalSize mo_bytes mo_said mo_number mo_pile mo_pilePlace mo_top mo_open) H locs) (hl : lv_has ls 9 [(0, .ref (a_mo 0)), (1, .int l1), (2, .int l2)]) (hf : f_X6_readNumber_83 l1 l2 s0 mo_text mo_size mo_at mo_ill = some (r, o_mo_at, o_mo_ill)) : W p l e { frames := 1, cells := 0, slots := 0, locals := 21 } s m args below meth c H locs 0 0 (MQ below (QcL E A (w_mo E a_mo mo_code mo_tape mo_text mo_taped mo_size o_mo_at o_mo_ill mo_in mo_kind mo_type mo_long1 mo_letters mo_fields mo_kept mo_now mo_many mo_itemKind mo_itemField mo_itemPlace mo_by mo_stepKind mo_stepField mo_stepOperator mo_stepOther mo_stepMany mo_literalType mo_literalFrom mo_literalSize mo_bytes mo_said mo_number mo_pile mo_pilePlace mo_top mo_open) r) args s 0 0 A) (F0 m 83 ls [.int s0]) := by
  have hx := C.1
  have hb := C.2.1
  unfold f_X6_readNumber_83 at hf
  refine lv_istore_n (lv' := [(3, .int s0), (0, .ref (a_mo 0)), (1, .int l1), (2, .int l2)]) hx hb dX6_readNumber_83 rfl hl (by decide) rfl (fun ls hl => ?_)
  refine lv_aload_n hx hb dX6_readNumber_84 rfl (lv_at hl 1 rfl) ?_
  refine fg_X6_99 C hw 0 rfl rfl dX6_readNumber_85 ?_
  refine lv_istore (lv' := [(4, .int mo_at), (3, .int s0), (0, .ref (a_mo 0)), (1, .int l1), (2, .int l2)]) hx hb dX6_readNumber_88 hl (by decide) rfl (fun ls hl => ?_)
  refine lv_lconst (v := 0) hx hb dX6_readNumber_90 (by decide) ?_
  refine lv_lstore (lv' := [(5, .long (0 : Int64)), (4, .int mo_at), (3, .int s0), (0, .ref (a_mo 0)), (1, .int l1), (2, .int l2)]) hx hb dX6_readNumber_91 hl (by decide) rfl (fun ls hl => ?_)
  refine lv_iconst (v := 0) hx hb dX6_readNumber_93 (by decide) ?_
  refine lv_istore (lv' := [(7, .int (0 : Int32)), (5, .long (0 : Int64)), (4, .int mo_at), (3, .int s0), (0, .ref (a_mo 0)), (1, .int l1), (2, .int l2)]) hx hb dX6_readNumber_94 hl (by decide) rfl (fun ls hl => ?_)
  obtain ⟨x1, x2, x3, hx1, hf⟩ := ob3_el hf
  refine w_X6_readNumber_96 C FU hw (lv_sub hl [4, 5, 6, 3, 2, 1, 0] rfl) hx1 ?_
  clear hw hl
  intro H locs ls hw hl
  refine lv_iload hx hb dX6_readNumber_169 (lv_at hl 6 rfl) ?_
  refine lv_if_ne (tgt := 206) hx hb dX6_readNumber_171 (by decide) (fun c171 => ?_) (fun c171 => ?_)
  · replace hf := it_f c171 hf
    refine lv_aload_n hx hb dX6_readNumber_206 rfl (lv_at hl 0 rfl) ?_
    refine lv_iload_n hx hb dX6_readNumber_207 rfl (lv_at hl 1 rfl) ?_
    obtain ⟨x4, z4, hf⟩ := ob1_el hf
    refine cV_V C hw (c_X6_fail l E a_mo mo_code mo_tape mo_text mo_taped mo_size x3 mo_ill mo_in mo_kind mo_type mo_long1 mo_letters mo_fields mo_kept mo_now mo_many mo_itemKind mo_itemField mo_itemPlace mo_by mo_stepKind mo_stepField mo_stepOperator mo_stepOther mo_stepMany mo_literalType mo_literalFrom mo_literalSize mo_bytes mo_said mo_number mo_pile mo_pilePlace mo_top mo_open l1 x4 z4) cs_X6_144 ⟨Nat.le_of_ble_eq_true rfl, Nat.le_of_ble_eq_true rfl⟩ ⟨rfl, rfl⟩ (ci := 6) (cn := (RX6, TX6, 35)) rfl (q0 := 0) rfl (wn := w_mo E a_mo mo_code mo_tape mo_text mo_taped mo_size x3 x4 mo_in mo_kind mo_type mo_long1 mo_letters mo_fields mo_kept mo_now mo_many mo_itemKind mo_itemField mo_itemPlace mo_by mo_stepKind mo_stepField mo_stepOperator mo_stepOther mo_stepMany mo_literalType mo_literalFrom mo_literalSize mo_bytes mo_said mo_number mo_pile mo_pilePlace mo_top mo_open) (Jn.all _ _) rfl hl.1 rfl (Nat.le_of_ble_eq_true rfl) dX6_readNumber_208 ⟨Nat.zero_le _, Nat.zero_le _⟩ (fun H locs hw => ?_)
    refine lv_iload_n hx hb dX6_readNumber_211 rfl (lv_at hl 2 rfl) ?_
    refine lv_if_eq (tgt := 220) hx hb dX6_readNumber_212 (by decide) (fun c212 => ?_) (fun c212 => ?_)
    · replace hf := it_t c212 hf
      refine lv_lload hx hb dX6_readNumber_220 (lv_at hl 5 rfl) ?_
      refine lv_lneg hx hb dX6_readNumber_222 ?_
      cases hf
      exact rt_l C hw dX6_readNumber_223
    · replace hf := it_f c212 hf
      refine lv_lload hx hb dX6_readNumber_215 (lv_at hl 5 rfl) ?_
      refine lv_goto (tgt := 223) hx hb dX6_readNumber_217 (by decide) ?_
      cases hf
      exact rt_l C hw dX6_readNumber_223
  · replace hf := it_t c171 hf
    refine lv_iload_n hx hb dX6_readNumber_174 rfl (lv_at hl 3 rfl) ?_
    refine lv_if_eq (tgt := 193) hx hb dX6_readNumber_175 (by decide) (fun c175 => ?_) (fun c175 => ?_)
    · replace hf := it_t c175 hf
      exact w_X6_readNumber_193 C hw (lv_sub hl [0, 1, 2, 5] rfl) hf
    · replace hf := it_f c175 hf
      refine lv_iload_n hx hb dX6_readNumber_178 rfl (lv_at hl 2 rfl) ?_
      refine lv_if_ne (tgt := 206) hx hb dX6_readNumber_179 (by decide) (fun c179 => ?_) (fun c179 => ?_)
      · replace hf := it_f c179 hf
        refine lv_aload_n hx hb dX6_readNumber_206 rfl (lv_at hl 0 rfl) ?_
        refine lv_iload_n hx hb dX6_readNumber_207 rfl (lv_at hl 1 rfl) ?_
        obtain ⟨x5, z5, hf⟩ := ob1_el hf
        refine cV_V C hw (c_X6_fail l E a_mo mo_code mo_tape mo_text mo_taped mo_size x3 mo_ill mo_in mo_kind mo_type mo_long1 mo_letters mo_fields mo_kept mo_now mo_many mo_itemKind mo_itemField mo_itemPlace mo_by mo_stepKind mo_stepField mo_stepOperator mo_stepOther mo_stepMany mo_literalType mo_literalFrom mo_literalSize mo_bytes mo_said mo_number mo_pile mo_pilePlace mo_top mo_open l1 x5 z5) cs_X6_144 ⟨Nat.le_of_ble_eq_true rfl, Nat.le_of_ble_eq_true rfl⟩ ⟨rfl, rfl⟩ (ci := 6) (cn := (RX6, TX6, 35)) rfl (q0 := 0) rfl (wn := w_mo E a_mo mo_code mo_tape mo_text mo_taped mo_size x3 x5 mo_in mo_kind mo_type mo_long1 mo_letters mo_fields mo_kept mo_now mo_many mo_itemKind mo_itemField mo_itemPlace mo_by mo_stepKind mo_stepField mo_stepOperator mo_stepOther mo_stepMany mo_literalType mo_literalFrom mo_literalSize mo_bytes mo_said mo_number mo_pile mo_pilePlace mo_top mo_open) (Jn.all _ _) rfl hl.1 rfl (Nat.le_of_ble_eq_true rfl) dX6_readNumber_208 ⟨Nat.zero_le _, Nat.zero_le _⟩ (fun H locs hw => ?_)
        refine lv_iload_n hx hb dX6_readNumber_211 rfl (lv_at hl 2 rfl) ?_
        refine lv_if_eq (tgt := 220) hx hb dX6_readNumber_212 (by decide) (fun c212 => ?_) (fun c212 => ?_)
        · replace hf := it_t c212 hf
          refine lv_lload hx hb dX6_readNumber_220 (lv_at hl 5 rfl) ?_
          refine lv_lneg hx hb dX6_readNumber_222 ?_
          cases hf
          exact rt_l C hw dX6_readNumber_223
        · replace hf := it_f c212 hf
          refine lv_lload hx hb dX6_readNumber_215 (lv_at hl 5 rfl) ?_
          refine lv_goto (tgt := 223) hx hb dX6_readNumber_217 (by decide) ?_
          cases hf
          exact rt_l C hw dX6_readNumber_223
      · replace hf := it_t c179 hf
        refine lv_aload_n hx hb dX6_readNumber_182 rfl (lv_at hl 0 rfl) ?_
        refine fg_X6_99 C hw 0 rfl rfl dX6_readNumber_183 ?_
        refine lv_iload hx hb dX6_readNumber_186 (lv_at hl 4 rfl) ?_
        refine lv_iconst (v := 1) hx hb dX6_readNumber_188 (by decide) ?_
        refine lv_iadd hx hb dX6_readNumber_189 ?_
        refine lv_icmp_gt (tgt := 206) hx hb dX6_readNumber_190 (by decide) (fun c190 => ?_) (fun c190 => ?_)
        · replace hf := it_t c190 hf
          refine lv_aload_n hx hb dX6_readNumber_206 rfl (lv_at hl 0 rfl) ?_
          refine lv_iload_n hx hb dX6_readNumber_207 rfl (lv_at hl 1 rfl) ?_
          obtain ⟨x6, z6, hf⟩ := ob1_el hf
          refine cV_V C hw (c_X6_fail l E a_mo mo_code mo_tape mo_text mo_taped mo_size x3 mo_ill mo_in mo_kind mo_type mo_long1 mo_letters mo_fields mo_kept mo_now mo_many mo_itemKind mo_itemField mo_itemPlace mo_by mo_stepKind mo_stepField mo_stepOperator mo_stepOther mo_stepMany mo_literalType mo_literalFrom mo_literalSize mo_bytes mo_said mo_number mo_pile mo_pilePlace mo_top mo_open l1 x6 z6) cs_X6_144 ⟨Nat.le_of_ble_eq_true rfl, Nat.le_of_ble_eq_true rfl⟩ ⟨rfl, rfl⟩ (ci := 6) (cn := (RX6, TX6, 35)) rfl (q0 := 0) rfl (wn := w_mo E a_mo mo_code mo_tape mo_text mo_taped mo_size x3 x6 mo_in mo_kind mo_type mo_long1 mo_letters mo_fields mo_kept mo_now mo_many mo_itemKind mo_itemField mo_itemPlace mo_by mo_stepKind mo_stepField mo_stepOperator mo_stepOther mo_stepMany mo_literalType mo_literalFrom mo_literalSize mo_bytes mo_said mo_number mo_pile mo_pilePlace mo_top mo_open) (Jn.all _ _) rfl hl.1 rfl (Nat.le_of_ble_eq_true rfl) dX6_readNumber_208 ⟨Nat.zero_le _, Nat.zero_le _⟩ (fun H locs hw => ?_)
          refine lv_iload_n hx hb dX6_readNumber_211 rfl (lv_at hl 2 rfl) ?_
          refine lv_if_eq (tgt := 220) hx hb dX6_readNumber_212 (by decide) (fun c212 => ?_) (fun c212 => ?_)
          · replace hf := it_t c212 hf
            refine lv_lload hx hb dX6_readNumber_220 (lv_at hl 5 rfl) ?_
            refine lv_lneg hx hb dX6_readNumber_222 ?_
            cases hf
            exact rt_l C hw dX6_readNumber_223
          · replace hf := it_f c212 hf
            refine lv_lload hx hb dX6_readNumber_215 (lv_at hl 5 rfl) ?_
            refine lv_goto (tgt := 223) hx hb dX6_readNumber_217 (by decide) ?_
            cases hf
            exact rt_l C hw dX6_readNumber_223
        · replace hf := it_f c190 hf
          exact w_X6_readNumber_193 C hw (lv_sub hl [0, 1, 2, 5] rfl) hf
def f_X6_readNumber_34 (l1 : Int32) (l2 : Int32) (mo_text : Nat → Int32) (mo_size : Int32) (mo_at : Int32) (mo_ill : Int32) : Option ((Int64) × (Int32) × (Int32)) :=
  ob1 (f_X6_look mo_text mo_size mo_at) (fun x1 =>
  ob1 (f_X6_isDigit x1) (fun x2 =>
  if x2 = (0 : Int32) then (if mo_at = mo_size then (ob1 (f_X6_fail mo_size mo_ill) (fun x5 =>
  some ((0 : Int64), mo_at, x5)))
  else (ob1 (f_X6_fail l1 mo_ill) (fun x4 =>
  some ((0 : Int64), mo_at, x4))))
  else (ob1 (f_X6_look mo_text mo_size mo_at) (fun x3 =>
  if x3 = (48 : Int32) then (f_X6_readNumber_83 l1 l2 (1 : Int32) mo_text mo_size mo_at mo_ill)
  else (f_X6_readNumber_83 l1 l2 (0 : Int32) mo_text mo_size mo_at mo_ill)))))
set_option maxHeartbeats 4000000 in
set_option maxRecDepth 100000 in
theorem w_X6_readNumber_34 {p : Program} {l : Launch} {e : Env} {s : State} {m : MethodId} {args : Array Value} {below : List Frame} {meth : Method} {c : Code} {E : EnvT} {A : Nat → Prop} {a_mo : Nat → Nat} {mo_code : Int32} {mo_tape : Nat → Int32} {mo_taped : Int32} {mo_in : Nat → Int32} {mo_kind : Nat → Int32} {mo_type : Nat → Int32} {mo_long1 : Nat → Int32} {mo_letters : Nat → Int32} {mo_fields : Int32} {mo_kept : Int32} {mo_now : Int32} {mo_many : Nat → Int32} {mo_itemKind : Nat → Int32} {mo_itemField : Nat → Int32} {mo_itemPlace : Nat → Int32} {mo_by : Nat → Int32} {mo_stepKind : Nat → Int32} {mo_stepField : Nat → Int32} {mo_stepOperator : Nat → Int32} {mo_stepOther : Nat → Int32} {mo_stepMany : Nat → Int32} {mo_literalType : Nat → Int32} {mo_literalFrom : Nat → Int32} {mo_literalSize : Nat → Int32} {mo_bytes : Nat → Int32} {mo_said : Nat → Int32} {mo_number : Nat → Int64} {mo_pile : Nat → Int32} {mo_pilePlace : Nat → Int32} {mo_top : Int32} {mo_open : Int32} {r : Int64} {o_mo_at : Int32} {o_mo_ill : Int32} {l1 : Int32} {l2 : Int32} {mo_text : Nat → Int32} {mo_size : Int32} {mo_at : Int32} {mo_ill : Int32} {H : Heap} {locs : List Loc} {ls : Array Slot} (C : MC p s m args meth c E A cX6_readNumber 9 RX6 (some .long)) (hw : WS E A s (w_mo E a_mo mo_code mo_tape mo_text mo_taped mo_size mo_at mo_ill mo_in mo_kind mo_type mo_long1 mo_letters mo_fields mo_kept mo_now mo_many mo_itemKind mo_itemField mo_itemPlace mo_by mo_stepKind mo_stepField mo_stepOperator mo_stepOther mo_stepMany mo_literalType mo_literalFrom mo_literalSize mo_bytes mo_said mo_number mo_pile mo_pilePlace mo_top mo_open) H locs) (hl : lv_has ls 9 [(0, .ref (a_mo 0)), (1, .int l1), (2, .int l2)]) (hf : f_X6_readNumber_34 l1 l2 mo_text mo_size mo_at mo_ill = some (r, o_mo_at, o_mo_ill)) : W p l e { frames := 1, cells := 0, slots := 0, locals := 21 } s m args below meth c H locs 0 0 (MQ below (QcL E A (w_mo E a_mo mo_code mo_tape mo_text mo_taped mo_size o_mo_at o_mo_ill mo_in mo_kind mo_type mo_long1 mo_letters mo_fields mo_kept mo_now mo_many mo_itemKind mo_itemField mo_itemPlace mo_by mo_stepKind mo_stepField mo_stepOperator mo_stepOther mo_stepMany mo_literalType mo_literalFrom mo_literalSize mo_bytes mo_said mo_number mo_pile mo_pilePlace mo_top mo_open) r) args s 0 0 A) (F0 m 34 ls []) := by
  have hx := C.1
  have hb := C.2.1
  unfold f_X6_readNumber_34 at hf
  refine lv_aload_n hx hb dX6_readNumber_34 rfl (lv_at hl 0 rfl) ?_
  obtain ⟨x1, z1, hf⟩ := ob1_el hf
  refine cI_V C hw (c_X6_look l E a_mo mo_code mo_tape mo_text mo_taped mo_size mo_at mo_ill mo_in mo_kind mo_type mo_long1 mo_letters mo_fields mo_kept mo_now mo_many mo_itemKind mo_itemField mo_itemPlace mo_by mo_stepKind mo_stepField mo_stepOperator mo_stepOther mo_stepMany mo_literalType mo_literalFrom mo_literalSize mo_bytes mo_said mo_number mo_pile mo_pilePlace mo_top mo_open x1 z1) cs_X6_126 ⟨Nat.le_of_ble_eq_true rfl, Nat.le_of_ble_eq_true rfl⟩ ⟨rfl, rfl⟩ (ci := 6) (cn := (RX6, TX6, 35)) rfl (q0 := 0) rfl (wn := w_mo E a_mo mo_code mo_tape mo_text mo_taped mo_size mo_at mo_ill mo_in mo_kind mo_type mo_long1 mo_letters mo_fields mo_kept mo_now mo_many mo_itemKind mo_itemField mo_itemPlace mo_by mo_stepKind mo_stepField mo_stepOperator mo_stepOther mo_stepMany mo_literalType mo_literalFrom mo_literalSize mo_bytes mo_said mo_number mo_pile mo_pilePlace mo_top mo_open) (Jn.all _ _) rfl hl.1 rfl (Nat.le_of_ble_eq_true rfl) dX6_readNumber_35 ⟨Nat.zero_le _, Nat.zero_le _⟩ (fun H locs hw => ?_)
  obtain ⟨x2, z2, hf⟩ := ob1_el hf
  refine cI_S C hw (c_X6_isDigit l E x1 x2 z2) cs_X6_109 ⟨Nat.le_of_ble_eq_true rfl, Nat.le_of_ble_eq_true rfl⟩ ⟨rfl, rfl⟩ (wn := w_mo E a_mo mo_code mo_tape mo_text mo_taped mo_size mo_at mo_ill mo_in mo_kind mo_type mo_long1 mo_letters mo_fields mo_kept mo_now mo_many mo_itemKind mo_itemField mo_itemPlace mo_by mo_stepKind mo_stepField mo_stepOperator mo_stepOther mo_stepMany mo_literalType mo_literalFrom mo_literalSize mo_bytes mo_said mo_number mo_pile mo_pilePlace mo_top mo_open) (Jn.none _) rfl hl.1 rfl (Nat.le_of_ble_eq_true rfl) dX6_readNumber_38 ⟨Nat.zero_le _, Nat.zero_le _⟩ (fun H locs hw => ?_)
  refine lv_if_ne (tgt := 69) hx hb dX6_readNumber_41 (by decide) (fun c41 => ?_) (fun c41 => ?_)
  · replace hf := it_f c41 hf
    refine lv_aload_n hx hb dX6_readNumber_69 rfl (lv_at hl 0 rfl) ?_
    obtain ⟨x3, z3, hf⟩ := ob1_el hf
    refine cI_V C hw (c_X6_look l E a_mo mo_code mo_tape mo_text mo_taped mo_size mo_at mo_ill mo_in mo_kind mo_type mo_long1 mo_letters mo_fields mo_kept mo_now mo_many mo_itemKind mo_itemField mo_itemPlace mo_by mo_stepKind mo_stepField mo_stepOperator mo_stepOther mo_stepMany mo_literalType mo_literalFrom mo_literalSize mo_bytes mo_said mo_number mo_pile mo_pilePlace mo_top mo_open x3 z3) cs_X6_126 ⟨Nat.le_of_ble_eq_true rfl, Nat.le_of_ble_eq_true rfl⟩ ⟨rfl, rfl⟩ (ci := 6) (cn := (RX6, TX6, 35)) rfl (q0 := 0) rfl (wn := w_mo E a_mo mo_code mo_tape mo_text mo_taped mo_size mo_at mo_ill mo_in mo_kind mo_type mo_long1 mo_letters mo_fields mo_kept mo_now mo_many mo_itemKind mo_itemField mo_itemPlace mo_by mo_stepKind mo_stepField mo_stepOperator mo_stepOther mo_stepMany mo_literalType mo_literalFrom mo_literalSize mo_bytes mo_said mo_number mo_pile mo_pilePlace mo_top mo_open) (Jn.all _ _) rfl hl.1 rfl (Nat.le_of_ble_eq_true rfl) dX6_readNumber_70 ⟨Nat.zero_le _, Nat.zero_le _⟩ (fun H locs hw => ?_)
    refine lv_bipush (v := 48) hx hb dX6_readNumber_73 (by decide) ?_
    refine lv_icmp_ne (tgt := 82) hx hb dX6_readNumber_75 (by decide) (fun c75 => ?_) (fun c75 => ?_)
    · replace hf := it_f c75 hf
      refine lv_iconst (v := 0) hx hb dX6_readNumber_82 (by decide) ?_
      exact w_X6_readNumber_83 C hw (lv_sub hl [0, 1, 2] rfl) hf
    · replace hf := it_t c75 hf
      refine lv_iconst (v := 1) hx hb dX6_readNumber_78 (by decide) ?_
      refine lv_goto (tgt := 83) hx hb dX6_readNumber_79 (by decide) ?_
      exact w_X6_readNumber_83 C hw (lv_sub hl [0, 1, 2] rfl) hf
  · replace hf := it_t c41 hf
    refine lv_aload_n hx hb dX6_readNumber_44 rfl (lv_at hl 0 rfl) ?_
    refine lv_aload_n hx hb dX6_readNumber_45 rfl (lv_at hl 0 rfl) ?_
    refine fg_X6_99 C hw 0 rfl rfl dX6_readNumber_46 ?_
    refine lv_aload_n hx hb dX6_readNumber_49 rfl (lv_at hl 0 rfl) ?_
    refine fg_X6_96 C hw 0 rfl rfl dX6_readNumber_50 ?_
    refine lv_icmp_ne (tgt := 63) hx hb dX6_readNumber_53 (by decide) (fun c53 => ?_) (fun c53 => ?_)
    · replace hf := it_f c53 hf
      refine lv_iload_n hx hb dX6_readNumber_63 rfl (lv_at hl 1 rfl) ?_
      obtain ⟨x4, z4, hf⟩ := ob1_el hf
      refine cV_V C hw (c_X6_fail l E a_mo mo_code mo_tape mo_text mo_taped mo_size mo_at mo_ill mo_in mo_kind mo_type mo_long1 mo_letters mo_fields mo_kept mo_now mo_many mo_itemKind mo_itemField mo_itemPlace mo_by mo_stepKind mo_stepField mo_stepOperator mo_stepOther mo_stepMany mo_literalType mo_literalFrom mo_literalSize mo_bytes mo_said mo_number mo_pile mo_pilePlace mo_top mo_open l1 x4 z4) cs_X6_144 ⟨Nat.le_of_ble_eq_true rfl, Nat.le_of_ble_eq_true rfl⟩ ⟨rfl, rfl⟩ (ci := 6) (cn := (RX6, TX6, 35)) rfl (q0 := 0) rfl (wn := w_mo E a_mo mo_code mo_tape mo_text mo_taped mo_size mo_at x4 mo_in mo_kind mo_type mo_long1 mo_letters mo_fields mo_kept mo_now mo_many mo_itemKind mo_itemField mo_itemPlace mo_by mo_stepKind mo_stepField mo_stepOperator mo_stepOther mo_stepMany mo_literalType mo_literalFrom mo_literalSize mo_bytes mo_said mo_number mo_pile mo_pilePlace mo_top mo_open) (Jn.all _ _) rfl hl.1 rfl (Nat.le_of_ble_eq_true rfl) dX6_readNumber_64 ⟨Nat.zero_le _, Nat.zero_le _⟩ (fun H locs hw => ?_)
      refine lv_lconst (v := 0) hx hb dX6_readNumber_67 (by decide) ?_
      cases hf
      exact rt_l C hw dX6_readNumber_68
    · replace hf := it_t c53 hf
      refine lv_aload_n hx hb dX6_readNumber_56 rfl (lv_at hl 0 rfl) ?_
      refine fg_X6_96 C hw 0 rfl rfl dX6_readNumber_57 ?_
      refine lv_goto (tgt := 64) hx hb dX6_readNumber_60 (by decide) ?_
      obtain ⟨x5, z5, hf⟩ := ob1_el hf
      refine cV_V C hw (c_X6_fail l E a_mo mo_code mo_tape mo_text mo_taped mo_size mo_at mo_ill mo_in mo_kind mo_type mo_long1 mo_letters mo_fields mo_kept mo_now mo_many mo_itemKind mo_itemField mo_itemPlace mo_by mo_stepKind mo_stepField mo_stepOperator mo_stepOther mo_stepMany mo_literalType mo_literalFrom mo_literalSize mo_bytes mo_said mo_number mo_pile mo_pilePlace mo_top mo_open mo_size x5 z5) cs_X6_144 ⟨Nat.le_of_ble_eq_true rfl, Nat.le_of_ble_eq_true rfl⟩ ⟨rfl, rfl⟩ (ci := 6) (cn := (RX6, TX6, 35)) rfl (q0 := 0) rfl (wn := w_mo E a_mo mo_code mo_tape mo_text mo_taped mo_size mo_at x5 mo_in mo_kind mo_type mo_long1 mo_letters mo_fields mo_kept mo_now mo_many mo_itemKind mo_itemField mo_itemPlace mo_by mo_stepKind mo_stepField mo_stepOperator mo_stepOther mo_stepMany mo_literalType mo_literalFrom mo_literalSize mo_bytes mo_said mo_number mo_pile mo_pilePlace mo_top mo_open) (Jn.all _ _) rfl hl.1 rfl (Nat.le_of_ble_eq_true rfl) dX6_readNumber_64 ⟨Nat.zero_le _, Nat.zero_le _⟩ (fun H locs hw => ?_)
      refine lv_lconst (v := 0) hx hb dX6_readNumber_67 (by decide) ?_
      cases hf
      exact rt_l C hw dX6_readNumber_68
def f_X6_readNumber_19 (l1 : Int32) (s0 : Int32) (mo_text : Nat → Int32) (mo_size : Int32) (mo_at : Int32) (mo_ill : Int32) : Option ((Int64) × (Int32) × (Int32)) :=
  if s0 = (0 : Int32) then (f_X6_readNumber_34 l1 s0 mo_text mo_size mo_at mo_ill)
  else (on (mo_at + (1 : Int32)) (fun x1 =>
  f_X6_readNumber_34 l1 s0 mo_text mo_size x1 mo_ill))
set_option maxHeartbeats 4000000 in
set_option maxRecDepth 100000 in
theorem w_X6_readNumber_19 {p : Program} {l : Launch} {e : Env} {s : State} {m : MethodId} {args : Array Value} {below : List Frame} {meth : Method} {c : Code} {E : EnvT} {A : Nat → Prop} {a_mo : Nat → Nat} {mo_code : Int32} {mo_tape : Nat → Int32} {mo_taped : Int32} {mo_in : Nat → Int32} {mo_kind : Nat → Int32} {mo_type : Nat → Int32} {mo_long1 : Nat → Int32} {mo_letters : Nat → Int32} {mo_fields : Int32} {mo_kept : Int32} {mo_now : Int32} {mo_many : Nat → Int32} {mo_itemKind : Nat → Int32} {mo_itemField : Nat → Int32} {mo_itemPlace : Nat → Int32} {mo_by : Nat → Int32} {mo_stepKind : Nat → Int32} {mo_stepField : Nat → Int32} {mo_stepOperator : Nat → Int32} {mo_stepOther : Nat → Int32} {mo_stepMany : Nat → Int32} {mo_literalType : Nat → Int32} {mo_literalFrom : Nat → Int32} {mo_literalSize : Nat → Int32} {mo_bytes : Nat → Int32} {mo_said : Nat → Int32} {mo_number : Nat → Int64} {mo_pile : Nat → Int32} {mo_pilePlace : Nat → Int32} {mo_top : Int32} {mo_open : Int32} {r : Int64} {o_mo_at : Int32} {o_mo_ill : Int32} {l1 : Int32} {s0 : Int32} {mo_text : Nat → Int32} {mo_size : Int32} {mo_at : Int32} {mo_ill : Int32} {H : Heap} {locs : List Loc} {ls : Array Slot} (C : MC p s m args meth c E A cX6_readNumber 9 RX6 (some .long)) (hw : WS E A s (w_mo E a_mo mo_code mo_tape mo_text mo_taped mo_size mo_at mo_ill mo_in mo_kind mo_type mo_long1 mo_letters mo_fields mo_kept mo_now mo_many mo_itemKind mo_itemField mo_itemPlace mo_by mo_stepKind mo_stepField mo_stepOperator mo_stepOther mo_stepMany mo_literalType mo_literalFrom mo_literalSize mo_bytes mo_said mo_number mo_pile mo_pilePlace mo_top mo_open) H locs) (hl : lv_has ls 9 [(0, .ref (a_mo 0)), (1, .int l1)]) (hf : f_X6_readNumber_19 l1 s0 mo_text mo_size mo_at mo_ill = some (r, o_mo_at, o_mo_ill)) : W p l e { frames := 1, cells := 0, slots := 0, locals := 21 } s m args below meth c H locs 0 0 (MQ below (QcL E A (w_mo E a_mo mo_code mo_tape mo_text mo_taped mo_size o_mo_at o_mo_ill mo_in mo_kind mo_type mo_long1 mo_letters mo_fields mo_kept mo_now mo_many mo_itemKind mo_itemField mo_itemPlace mo_by mo_stepKind mo_stepField mo_stepOperator mo_stepOther mo_stepMany mo_literalType mo_literalFrom mo_literalSize mo_bytes mo_said mo_number mo_pile mo_pilePlace mo_top mo_open) r) args s 0 0 A) (F0 m 19 ls [.int s0]) := by
  have hx := C.1
  have hb := C.2.1
  unfold f_X6_readNumber_19 at hf
  refine lv_istore_n (lv' := [(2, .int s0), (0, .ref (a_mo 0)), (1, .int l1)]) hx hb dX6_readNumber_19 rfl hl (by decide) rfl (fun ls hl => ?_)
  refine lv_iload_n hx hb dX6_readNumber_20 rfl (lv_at hl 0 rfl) ?_
  refine lv_if_eq (tgt := 34) hx hb dX6_readNumber_21 (by decide) (fun c21 => ?_) (fun c21 => ?_)
  · replace hf := it_t c21 hf
    exact w_X6_readNumber_34 C hw (lv_sub hl [1, 2, 0] rfl) hf
  · replace hf := it_f c21 hf
    refine lv_aload_n hx hb dX6_readNumber_24 rfl (lv_at hl 1 rfl) ?_
    refine lv_dup hx hb dX6_readNumber_25 rfl ?_
    refine fg_X6_99 C hw 0 rfl rfl dX6_readNumber_26 ?_
    refine lv_iconst (v := 1) hx hb dX6_readNumber_29 (by decide) ?_
    refine lv_iadd hx hb dX6_readNumber_30 ?_
    obtain ⟨x1, ex1, hf⟩ := on_el hf
    refine tp_i ex1 ?_
    refine fp_X6_99 C hw 0 rfl (Nat.le_of_ble_eq_true rfl) (ws' := w_mo E a_mo mo_code mo_tape mo_text mo_taped mo_size x1 mo_ill mo_in mo_kind mo_type mo_long1 mo_letters mo_fields mo_kept mo_now mo_many mo_itemKind mo_itemField mo_itemPlace mo_by mo_stepKind mo_stepField mo_stepOperator mo_stepOther mo_stepMany mo_literalType mo_literalFrom mo_literalSize mo_bytes mo_said mo_number mo_pile mo_pilePlace mo_top mo_open) rfl dX6_readNumber_31 (fun H locs hw => ?_)
    exact w_X6_readNumber_34 C hw (lv_sub hl [1, 2, 0] rfl) hf
def f_X6_readNumber (mo_text : Nat → Int32) (mo_size : Int32) (mo_at : Int32) (mo_ill : Int32) : Option ((Int64) × (Int32) × (Int32)) :=
  ob1 (f_X6_look mo_text mo_size mo_at) (fun x1 =>
  if x1 = (45 : Int32) then (f_X6_readNumber_19 mo_at (1 : Int32) mo_text mo_size mo_at mo_ill)
  else (f_X6_readNumber_19 mo_at (0 : Int32) mo_text mo_size mo_at mo_ill))
set_option maxHeartbeats 4000000 in
set_option maxRecDepth 100000 in
theorem c_X6_readNumber (l : Launch) (E : EnvT) (a_mo : Nat → Nat) (mo_code : Int32) (mo_tape : Nat → Int32) (mo_text : Nat → Int32) (mo_taped : Int32) (mo_size : Int32) (mo_at : Int32) (mo_ill : Int32) (mo_in : Nat → Int32) (mo_kind : Nat → Int32) (mo_type : Nat → Int32) (mo_long1 : Nat → Int32) (mo_letters : Nat → Int32) (mo_fields : Int32) (mo_kept : Int32) (mo_now : Int32) (mo_many : Nat → Int32) (mo_itemKind : Nat → Int32) (mo_itemField : Nat → Int32) (mo_itemPlace : Nat → Int32) (mo_by : Nat → Int32) (mo_stepKind : Nat → Int32) (mo_stepField : Nat → Int32) (mo_stepOperator : Nat → Int32) (mo_stepOther : Nat → Int32) (mo_stepMany : Nat → Int32) (mo_literalType : Nat → Int32) (mo_literalFrom : Nat → Int32) (mo_literalSize : Nat → Int32) (mo_bytes : Nat → Int32) (mo_said : Nat → Int32) (mo_number : Nat → Int64) (mo_pile : Nat → Int32) (mo_pilePlace : Nat → Int32) (mo_top : Int32) (mo_open : Int32) (r : Int64) (o_mo_at : Int32) (o_mo_ill : Int32) (hf : f_X6_readNumber mo_text mo_size mo_at mo_ill = some (r, o_mo_at, o_mo_ill)) : CL l yX6_readNumber (Cond.code yX6_readNumber cX6_readNumber 9 (some .long)) { frames := 1, cells := 0, slots := 0, locals := 21 } E [.ref (a_mo 0)] (w_mo E a_mo mo_code mo_tape mo_text mo_taped mo_size mo_at mo_ill mo_in mo_kind mo_type mo_long1 mo_letters mo_fields mo_kept mo_now mo_many mo_itemKind mo_itemField mo_itemPlace mo_by mo_stepKind mo_stepField mo_stepOperator mo_stepOther mo_stepMany mo_literalType mo_literalFrom mo_literalSize mo_bytes mo_said mo_number mo_pile mo_pilePlace mo_top mo_open) r (w_mo E a_mo mo_code mo_tape mo_text mo_taped mo_size o_mo_at o_mo_ill mo_in mo_kind mo_type mo_long1 mo_letters mo_fields mo_kept mo_now mo_many mo_itemKind mo_itemField mo_itemPlace mo_by mo_stepKind mo_stepField mo_stepOperator mo_stepOther mo_stepMany mo_literalType mo_literalFrom mo_literalSize mo_bytes mo_said mo_number mo_pile mo_pilePlace mo_top mo_open) := by
  intro sz
  refine met_start [(0, .ref (a_mo 0))] (by decide) rfl rfl (Nat.le_of_ble_eq_true rfl) rfl ?_
  intro p e s m below meth c ls C hnm hmt hw hl
  have hx := C.1
  have hb := C.2.1
  generalize va_A (w_mo E a_mo mo_code mo_tape mo_text mo_taped mo_size mo_at mo_ill mo_in mo_kind mo_type mo_long1 mo_letters mo_fields mo_kept mo_now mo_many mo_itemKind mo_itemField mo_itemPlace mo_by mo_stepKind mo_stepField mo_stepOperator mo_stepOther mo_stepMany mo_literalType mo_literalFrom mo_literalSize mo_bytes mo_said mo_number mo_pile mo_pilePlace mo_top mo_open) sz = A at C hw ⊢
  unfold f_X6_readNumber at hf
  refine lv_aload_n hx hb dX6_readNumber_0 rfl (lv_at hl 0 rfl) ?_
  refine fg_X6_99 C hw 0 rfl rfl dX6_readNumber_1 ?_
  refine lv_istore_n (lv' := [(1, .int mo_at), (0, .ref (a_mo 0))]) hx hb dX6_readNumber_4 rfl hl (by decide) rfl (fun ls hl => ?_)
  refine lv_aload_n hx hb dX6_readNumber_5 rfl (lv_at hl 1 rfl) ?_
  obtain ⟨x1, z1, hf⟩ := ob1_el hf
  refine cI_V C hw (c_X6_look l E a_mo mo_code mo_tape mo_text mo_taped mo_size mo_at mo_ill mo_in mo_kind mo_type mo_long1 mo_letters mo_fields mo_kept mo_now mo_many mo_itemKind mo_itemField mo_itemPlace mo_by mo_stepKind mo_stepField mo_stepOperator mo_stepOther mo_stepMany mo_literalType mo_literalFrom mo_literalSize mo_bytes mo_said mo_number mo_pile mo_pilePlace mo_top mo_open x1 z1) cs_X6_126 ⟨Nat.le_of_ble_eq_true rfl, Nat.le_of_ble_eq_true rfl⟩ ⟨rfl, rfl⟩ (ci := 6) (cn := (RX6, TX6, 35)) rfl (q0 := 0) rfl (wn := w_mo E a_mo mo_code mo_tape mo_text mo_taped mo_size mo_at mo_ill mo_in mo_kind mo_type mo_long1 mo_letters mo_fields mo_kept mo_now mo_many mo_itemKind mo_itemField mo_itemPlace mo_by mo_stepKind mo_stepField mo_stepOperator mo_stepOther mo_stepMany mo_literalType mo_literalFrom mo_literalSize mo_bytes mo_said mo_number mo_pile mo_pilePlace mo_top mo_open) (Jn.all _ _) rfl hl.1 rfl (Nat.le_of_ble_eq_true rfl) dX6_readNumber_6 ⟨Nat.zero_le _, Nat.zero_le _⟩ (fun H locs hw => ?_)
  refine lv_bipush (v := 45) hx hb dX6_readNumber_9 (by decide) ?_
  refine lv_icmp_ne (tgt := 18) hx hb dX6_readNumber_11 (by decide) (fun c11 => ?_) (fun c11 => ?_)
  · replace hf := it_f c11 hf
    refine lv_iconst (v := 0) hx hb dX6_readNumber_18 (by decide) ?_
    exact w_X6_readNumber_19 C hw (lv_sub hl [1, 0] rfl) hf
  · replace hf := it_t c11 hf
    refine lv_iconst (v := 1) hx hb dX6_readNumber_14 (by decide) ?_
    refine lv_goto (tgt := 19) hx hb dX6_readNumber_15 (by decide) ?_
    exact w_X6_readNumber_19 C hw (lv_sub hl [1, 0] rfl) hf
def f_X6_readLiteral_134 (l2 : Int32) (l3 : Int32) (l4 : Int32) (l5 : Int64) (l7 : Int32) (mo_at : Int32) (mo_ill : Int32) (mo_now : Int32) (mo_many : Nat → Int32) (mo_literalType : Nat → Int32) (mo_literalFrom : Nat → Int32) (mo_literalSize : Nat → Int32) (mo_bytes : Nat → Int32) (mo_said : Nat → Int32) (mo_number : Nat → Int64) : Option ((Int32) × (Int32) × (Nat → Int32) × (Nat → Int32) × (Nat → Int32) × (Nat → Int32) × (Nat → Int32) × (Nat → Int32) × (Nat → Int64)) :=
  rd mo_many 8 (((4 : Int32) * mo_now) + (3 : Int32)) (fun x1 =>
  if x1 = (64 : Int32) then (ob1 (f_X6_fail l2 mo_ill) (fun x12 =>
  some (mo_at, x12, mo_many, mo_literalType, mo_literalFrom, mo_literalSize, mo_bytes, mo_said, mo_number)))
  else (wr mo_literalType 128 l3 l4 (fun x2 =>
  wrL mo_number 128 l3 l5 (fun x3 =>
  wr mo_literalFrom 128 l3 l7 (fun x4 =>
  rd mo_said 2 mo_now (fun x5 =>
  on (x5 - l7) (fun x6 =>
  wr mo_literalSize 128 l3 x6 (fun x7 =>
  on (((4 : Int32) * mo_now) + (3 : Int32)) (fun x8 =>
  rd mo_many 8 x8 (fun x9 =>
  on (x9 + (1 : Int32)) (fun x10 =>
  wr mo_many 8 x8 x10 (fun x11 =>
  some (mo_at, mo_ill, x11, x2, x4, x7, mo_bytes, mo_said, x3)))))))))))))
set_option maxHeartbeats 4000000 in
set_option maxRecDepth 100000 in
theorem w_X6_readLiteral_134 {p : Program} {l : Launch} {e : Env} {s : State} {m : MethodId} {args : Array Value} {below : List Frame} {meth : Method} {c : Code} {E : EnvT} {A : Nat → Prop} {a_mo : Nat → Nat} {mo_code : Int32} {mo_tape : Nat → Int32} {mo_text : Nat → Int32} {mo_taped : Int32} {mo_size : Int32} {mo_in : Nat → Int32} {mo_kind : Nat → Int32} {mo_type : Nat → Int32} {mo_long1 : Nat → Int32} {mo_letters : Nat → Int32} {mo_fields : Int32} {mo_kept : Int32} {mo_itemKind : Nat → Int32} {mo_itemField : Nat → Int32} {mo_itemPlace : Nat → Int32} {mo_by : Nat → Int32} {mo_stepKind : Nat → Int32} {mo_stepField : Nat → Int32} {mo_stepOperator : Nat → Int32} {mo_stepOther : Nat → Int32} {mo_stepMany : Nat → Int32} {mo_pile : Nat → Int32} {mo_pilePlace : Nat → Int32} {mo_top : Int32} {mo_open : Int32} {o_mo_at : Int32} {o_mo_ill : Int32} {o_mo_many : Nat → Int32} {o_mo_literalType : Nat → Int32} {o_mo_literalFrom : Nat → Int32} {o_mo_literalSize : Nat → Int32} {o_mo_bytes : Nat → Int32} {o_mo_said : Nat → Int32} {o_mo_number : Nat → Int64} {l2 : Int32} {l3 : Int32} {l4 : Int32} {l5 : Int64} {l7 : Int32} {mo_at : Int32} {mo_ill : Int32} {mo_now : Int32} {mo_many : Nat → Int32} {mo_literalType : Nat → Int32} {mo_literalFrom : Nat → Int32} {mo_literalSize : Nat → Int32} {mo_bytes : Nat → Int32} {mo_said : Nat → Int32} {mo_number : Nat → Int64} {H : Heap} {locs : List Loc} {ls : Array Slot} (C : MC p s m args meth c E A cX6_readLiteral 8 RX6 none) (hw : WS E A s (w_mo E a_mo mo_code mo_tape mo_text mo_taped mo_size mo_at mo_ill mo_in mo_kind mo_type mo_long1 mo_letters mo_fields mo_kept mo_now mo_many mo_itemKind mo_itemField mo_itemPlace mo_by mo_stepKind mo_stepField mo_stepOperator mo_stepOther mo_stepMany mo_literalType mo_literalFrom mo_literalSize mo_bytes mo_said mo_number mo_pile mo_pilePlace mo_top mo_open) H locs) (hl : lv_has ls 8 [(0, .ref (a_mo 0)), (2, .int l2), (3, .int l3), (4, .int l4), (5, .long l5), (7, .int l7)]) (hf : f_X6_readLiteral_134 l2 l3 l4 l5 l7 mo_at mo_ill mo_now mo_many mo_literalType mo_literalFrom mo_literalSize mo_bytes mo_said mo_number = some (o_mo_at, o_mo_ill, o_mo_many, o_mo_literalType, o_mo_literalFrom, o_mo_literalSize, o_mo_bytes, o_mo_said, o_mo_number)) : W p l e { frames := 5, cells := 0, slots := 0, locals := 111 } s m args below meth c H locs 0 0 (MQ below (QcV E A (w_mo E a_mo mo_code mo_tape mo_text mo_taped mo_size o_mo_at o_mo_ill mo_in mo_kind mo_type mo_long1 mo_letters mo_fields mo_kept mo_now o_mo_many mo_itemKind mo_itemField mo_itemPlace mo_by mo_stepKind mo_stepField mo_stepOperator mo_stepOther mo_stepMany o_mo_literalType o_mo_literalFrom o_mo_literalSize o_mo_bytes o_mo_said o_mo_number mo_pile mo_pilePlace mo_top mo_open)) args s 0 0 A) (F0 m 134 ls []) := by
  have hx := C.1
  have hb := C.2.1
  unfold f_X6_readLiteral_134 at hf
  refine lv_aload_n hx hb dX6_readLiteral_134 rfl (lv_at hl 0 rfl) ?_
  refine fg_X6_35 C hw 0 rfl rfl dX6_readLiteral_135 ?_
  refine lv_iconst (v := 4) hx hb dX6_readLiteral_138 (by decide) ?_
  refine lv_aload_n hx hb dX6_readLiteral_139 rfl (lv_at hl 0 rfl) ?_
  refine fg_X6_189 C hw 0 rfl rfl dX6_readLiteral_140 ?_
  refine lv_imul hx hb dX6_readLiteral_143 ?_
  refine lv_iconst (v := 3) hx hb dX6_readLiteral_144 (by decide) ?_
  refine lv_iadd hx hb dX6_readLiteral_145 ?_
  obtain ⟨x1, ex1, gx1, hf⟩ := rd_el hf
  refine ra_i C hw 8 rfl gx1 dX6_readLiteral_146 ?_
  refine tp_i ex1 ?_
  refine lv_bipush (v := 64) hx hb dX6_readLiteral_147 (by decide) ?_
  refine lv_icmp_ne (tgt := 158) hx hb dX6_readLiteral_149 (by decide) (fun c149 => ?_) (fun c149 => ?_)
  · replace hf := it_f c149 hf
    refine lv_aload_n hx hb dX6_readLiteral_158 rfl (lv_at hl 0 rfl) ?_
    refine fg_X6_65 C hw 0 rfl rfl dX6_readLiteral_159 ?_
    refine lv_iload_n hx hb dX6_readLiteral_162 rfl (lv_at hl 2 rfl) ?_
    refine lv_iload hx hb dX6_readLiteral_163 (lv_at hl 3 rfl) ?_
    obtain ⟨x2, ex2, gx2, hf⟩ := wr_el hf
    refine rs_i C hw 18 rfl gx2 (ws' := w_mo E a_mo mo_code mo_tape mo_text mo_taped mo_size mo_at mo_ill mo_in mo_kind mo_type mo_long1 mo_letters mo_fields mo_kept mo_now mo_many mo_itemKind mo_itemField mo_itemPlace mo_by mo_stepKind mo_stepField mo_stepOperator mo_stepOther mo_stepMany x2 mo_literalFrom mo_literalSize mo_bytes mo_said mo_number mo_pile mo_pilePlace mo_top mo_open) (by subst ex2; rfl) dX6_readLiteral_165 (fun H locs hw => ?_)
    refine lv_aload_n hx hb dX6_readLiteral_166 rfl (lv_at hl 0 rfl) ?_
    refine fg_X6_80 C hw 0 rfl rfl dX6_readLiteral_167 ?_
    refine lv_iload_n hx hb dX6_readLiteral_170 rfl (lv_at hl 2 rfl) ?_
    refine lv_lload hx hb dX6_readLiteral_171 (lv_at hl 4 rfl) ?_
    obtain ⟨x3, ex3, gx3, hf⟩ := wrL_el hf
    refine rs_l C hw 23 rfl gx3 (ws' := w_mo E a_mo mo_code mo_tape mo_text mo_taped mo_size mo_at mo_ill mo_in mo_kind mo_type mo_long1 mo_letters mo_fields mo_kept mo_now mo_many mo_itemKind mo_itemField mo_itemPlace mo_by mo_stepKind mo_stepField mo_stepOperator mo_stepOther mo_stepMany x2 mo_literalFrom mo_literalSize mo_bytes mo_said x3 mo_pile mo_pilePlace mo_top mo_open) (by subst ex3; rfl) dX6_readLiteral_173 (fun H locs hw => ?_)
    refine lv_aload_n hx hb dX6_readLiteral_174 rfl (lv_at hl 0 rfl) ?_
    refine fg_X6_68 C hw 0 rfl rfl dX6_readLiteral_175 ?_
    refine lv_iload_n hx hb dX6_readLiteral_178 rfl (lv_at hl 2 rfl) ?_
    refine lv_iload hx hb dX6_readLiteral_179 (lv_at hl 5 rfl) ?_
    obtain ⟨x4, ex4, gx4, hf⟩ := wr_el hf
    refine rs_i C hw 19 rfl gx4 (ws' := w_mo E a_mo mo_code mo_tape mo_text mo_taped mo_size mo_at mo_ill mo_in mo_kind mo_type mo_long1 mo_letters mo_fields mo_kept mo_now mo_many mo_itemKind mo_itemField mo_itemPlace mo_by mo_stepKind mo_stepField mo_stepOperator mo_stepOther mo_stepMany x2 x4 mo_literalSize mo_bytes mo_said x3 mo_pile mo_pilePlace mo_top mo_open) (by subst ex4; rfl) dX6_readLiteral_181 (fun H locs hw => ?_)
    refine lv_aload_n hx hb dX6_readLiteral_182 rfl (lv_at hl 0 rfl) ?_
    refine fg_X6_71 C hw 0 rfl rfl dX6_readLiteral_183 ?_
    refine lv_iload_n hx hb dX6_readLiteral_186 rfl (lv_at hl 2 rfl) ?_
    refine lv_aload_n hx hb dX6_readLiteral_187 rfl (lv_at hl 0 rfl) ?_
    refine fg_X6_77 C hw 0 rfl rfl dX6_readLiteral_188 ?_
    refine lv_aload_n hx hb dX6_readLiteral_191 rfl (lv_at hl 0 rfl) ?_
    refine fg_X6_189 C hw 0 rfl rfl dX6_readLiteral_192 ?_
    obtain ⟨x5, ex5, gx5, hf⟩ := rd_el hf
    refine ra_i C hw 22 rfl gx5 dX6_readLiteral_195 ?_
    refine tp_i ex5 ?_
    refine lv_iload hx hb dX6_readLiteral_196 (lv_at hl 5 rfl) ?_
    refine lv_isub hx hb dX6_readLiteral_198 ?_
    obtain ⟨x6, ex6, hf⟩ := on_el hf
    refine tp_i ex6 ?_
    obtain ⟨x7, ex7, gx7, hf⟩ := wr_el hf
    refine rs_i C hw 20 rfl gx7 (ws' := w_mo E a_mo mo_code mo_tape mo_text mo_taped mo_size mo_at mo_ill mo_in mo_kind mo_type mo_long1 mo_letters mo_fields mo_kept mo_now mo_many mo_itemKind mo_itemField mo_itemPlace mo_by mo_stepKind mo_stepField mo_stepOperator mo_stepOther mo_stepMany x2 x4 x7 mo_bytes mo_said x3 mo_pile mo_pilePlace mo_top mo_open) (by subst ex7; rfl) dX6_readLiteral_199 (fun H locs hw => ?_)
    refine lv_aload_n hx hb dX6_readLiteral_200 rfl (lv_at hl 0 rfl) ?_
    refine fg_X6_35 C hw 0 rfl rfl dX6_readLiteral_201 ?_
    refine lv_iconst (v := 4) hx hb dX6_readLiteral_204 (by decide) ?_
    refine lv_aload_n hx hb dX6_readLiteral_205 rfl (lv_at hl 0 rfl) ?_
    refine fg_X6_189 C hw 0 rfl rfl dX6_readLiteral_206 ?_
    refine lv_imul hx hb dX6_readLiteral_209 ?_
    refine lv_iconst (v := 3) hx hb dX6_readLiteral_210 (by decide) ?_
    refine lv_iadd hx hb dX6_readLiteral_211 ?_
    obtain ⟨x8, ex8, hf⟩ := on_el hf
    refine tp_i ex8 ?_
    refine lv_dup2_11 hx hb dX6_readLiteral_212 rfl rfl ?_
    obtain ⟨x9, ex9, gx9, hf⟩ := rd_el hf
    refine ra_i C hw 8 rfl gx9 dX6_readLiteral_213 ?_
    refine tp_i ex9 ?_
    refine lv_iconst (v := 1) hx hb dX6_readLiteral_214 (by decide) ?_
    refine lv_iadd hx hb dX6_readLiteral_215 ?_
    obtain ⟨x10, ex10, hf⟩ := on_el hf
    refine tp_i ex10 ?_
    obtain ⟨x11, ex11, gx11, hf⟩ := wr_el hf
    refine rs_i C hw 8 rfl gx11 (ws' := w_mo E a_mo mo_code mo_tape mo_text mo_taped mo_size mo_at mo_ill mo_in mo_kind mo_type mo_long1 mo_letters mo_fields mo_kept mo_now x11 mo_itemKind mo_itemField mo_itemPlace mo_by mo_stepKind mo_stepField mo_stepOperator mo_stepOther mo_stepMany x2 x4 x7 mo_bytes mo_said x3 mo_pile mo_pilePlace mo_top mo_open) (by subst ex11; rfl) dX6_readLiteral_216 (fun H locs hw => ?_)
    cases hf
    exact rt_v C hw dX6_readLiteral_217
  · replace hf := it_t c149 hf
    refine lv_aload_n hx hb dX6_readLiteral_152 rfl (lv_at hl 0 rfl) ?_
    refine lv_iload_n hx hb dX6_readLiteral_153 rfl (lv_at hl 1 rfl) ?_
    obtain ⟨x12, z12, hf⟩ := ob1_el hf
    refine cV_V C hw (c_X6_fail l E a_mo mo_code mo_tape mo_text mo_taped mo_size mo_at mo_ill mo_in mo_kind mo_type mo_long1 mo_letters mo_fields mo_kept mo_now mo_many mo_itemKind mo_itemField mo_itemPlace mo_by mo_stepKind mo_stepField mo_stepOperator mo_stepOther mo_stepMany mo_literalType mo_literalFrom mo_literalSize mo_bytes mo_said mo_number mo_pile mo_pilePlace mo_top mo_open l2 x12 z12) cs_X6_144 ⟨Nat.le_of_ble_eq_true rfl, Nat.le_of_ble_eq_true rfl⟩ ⟨rfl, rfl⟩ (ci := 6) (cn := (RX6, TX6, 35)) rfl (q0 := 0) rfl (wn := w_mo E a_mo mo_code mo_tape mo_text mo_taped mo_size mo_at x12 mo_in mo_kind mo_type mo_long1 mo_letters mo_fields mo_kept mo_now mo_many mo_itemKind mo_itemField mo_itemPlace mo_by mo_stepKind mo_stepField mo_stepOperator mo_stepOther mo_stepMany mo_literalType mo_literalFrom mo_literalSize mo_bytes mo_said mo_number mo_pile mo_pilePlace mo_top mo_open) (Jn.all _ _) rfl hl.1 rfl (Nat.le_of_ble_eq_true rfl) dX6_readLiteral_154 ⟨Nat.zero_le _, Nat.zero_le _⟩ (fun H locs hw => ?_)
    cases hf
    exact rt_v C hw dX6_readLiteral_157
def f_X6_readLiteral_108 (l1 : Int32) (l2 : Int32) (l3 : Int32) (l4 : Int32) (l5 : Int64) (l7 : Int32) (mo_at : Int32) (mo_ill : Int32) (mo_now : Int32) (mo_many : Nat → Int32) (mo_literalType : Nat → Int32) (mo_literalFrom : Nat → Int32) (mo_literalSize : Nat → Int32) (mo_bytes : Nat → Int32) (mo_said : Nat → Int32) (mo_number : Nat → Int64) : Option ((Int32) × (Int32) × (Nat → Int32) × (Nat → Int32) × (Nat → Int32) × (Nat → Int32) × (Nat → Int32) × (Nat → Int32) × (Nat → Int64)) :=
  if mo_ill = (-1 : Int32) then (if l4 = l1 then (f_X6_readLiteral_134 l2 l3 l4 l5 l7 mo_at mo_ill mo_now mo_many mo_literalType mo_literalFrom mo_literalSize mo_bytes mo_said mo_number)
  else (if l4 = (2 : Int32) then (if l1 = (1 : Int32) then (f_X6_readLiteral_134 l2 l3 l4 l5 l7 mo_at mo_ill mo_now mo_many mo_literalType mo_literalFrom mo_literalSize mo_bytes mo_said mo_number)
  else (ob1 (f_X6_fail l2 mo_ill) (fun x2 =>
  some (mo_at, x2, mo_many, mo_literalType, mo_literalFrom, mo_literalSize, mo_bytes, mo_said, mo_number))))
  else (ob1 (f_X6_fail l2 mo_ill) (fun x1 =>
  some (mo_at, x1, mo_many, mo_literalType, mo_literalFrom, mo_literalSize, mo_bytes, mo_said, mo_number)))))
  else (some (mo_at, mo_ill, mo_many, mo_literalType, mo_literalFrom, mo_literalSize, mo_bytes, mo_said, mo_number))
set_option maxHeartbeats 4000000 in
set_option maxRecDepth 100000 in
theorem w_X6_readLiteral_108 {p : Program} {l : Launch} {e : Env} {s : State} {m : MethodId} {args : Array Value} {below : List Frame} {meth : Method} {c : Code} {E : EnvT} {A : Nat → Prop} {a_mo : Nat → Nat} {mo_code : Int32} {mo_tape : Nat → Int32} {mo_text : Nat → Int32} {mo_taped : Int32} {mo_size : Int32} {mo_in : Nat → Int32} {mo_kind : Nat → Int32} {mo_type : Nat → Int32} {mo_long1 : Nat → Int32} {mo_letters : Nat → Int32} {mo_fields : Int32} {mo_kept : Int32} {mo_itemKind : Nat → Int32} {mo_itemField : Nat → Int32} {mo_itemPlace : Nat → Int32} {mo_by : Nat → Int32} {mo_stepKind : Nat → Int32} {mo_stepField : Nat → Int32} {mo_stepOperator : Nat → Int32} {mo_stepOther : Nat → Int32} {mo_stepMany : Nat → Int32} {mo_pile : Nat → Int32} {mo_pilePlace : Nat → Int32} {mo_top : Int32} {mo_open : Int32} {o_mo_at : Int32} {o_mo_ill : Int32} {o_mo_many : Nat → Int32} {o_mo_literalType : Nat → Int32} {o_mo_literalFrom : Nat → Int32} {o_mo_literalSize : Nat → Int32} {o_mo_bytes : Nat → Int32} {o_mo_said : Nat → Int32} {o_mo_number : Nat → Int64} {l1 : Int32} {l2 : Int32} {l3 : Int32} {l4 : Int32} {l5 : Int64} {l7 : Int32} {mo_at : Int32} {mo_ill : Int32} {mo_now : Int32} {mo_many : Nat → Int32} {mo_literalType : Nat → Int32} {mo_literalFrom : Nat → Int32} {mo_literalSize : Nat → Int32} {mo_bytes : Nat → Int32} {mo_said : Nat → Int32} {mo_number : Nat → Int64} {H : Heap} {locs : List Loc} {ls : Array Slot} (C : MC p s m args meth c E A cX6_readLiteral 8 RX6 none) (hw : WS E A s (w_mo E a_mo mo_code mo_tape mo_text mo_taped mo_size mo_at mo_ill mo_in mo_kind mo_type mo_long1 mo_letters mo_fields mo_kept mo_now mo_many mo_itemKind mo_itemField mo_itemPlace mo_by mo_stepKind mo_stepField mo_stepOperator mo_stepOther mo_stepMany mo_literalType mo_literalFrom mo_literalSize mo_bytes mo_said mo_number mo_pile mo_pilePlace mo_top mo_open) H locs) (hl : lv_has ls 8 [(0, .ref (a_mo 0)), (1, .int l1), (2, .int l2), (3, .int l3), (4, .int l4), (5, .long l5), (7, .int l7)]) (hf : f_X6_readLiteral_108 l1 l2 l3 l4 l5 l7 mo_at mo_ill mo_now mo_many mo_literalType mo_literalFrom mo_literalSize mo_bytes mo_said mo_number = some (o_mo_at, o_mo_ill, o_mo_many, o_mo_literalType, o_mo_literalFrom, o_mo_literalSize, o_mo_bytes, o_mo_said, o_mo_number)) : W p l e { frames := 5, cells := 0, slots := 0, locals := 111 } s m args below meth c H locs 0 0 (MQ below (QcV E A (w_mo E a_mo mo_code mo_tape mo_text mo_taped mo_size o_mo_at o_mo_ill mo_in mo_kind mo_type mo_long1 mo_letters mo_fields mo_kept mo_now o_mo_many mo_itemKind mo_itemField mo_itemPlace mo_by mo_stepKind mo_stepField mo_stepOperator mo_stepOther mo_stepMany o_mo_literalType o_mo_literalFrom o_mo_literalSize o_mo_bytes o_mo_said o_mo_number mo_pile mo_pilePlace mo_top mo_open)) args s 0 0 A) (F0 m 108 ls []) := by
  have hx := C.1
  have hb := C.2.1
  unfold f_X6_readLiteral_108 at hf
  refine lv_aload_n hx hb dX6_readLiteral_108 rfl (lv_at hl 0 rfl) ?_
  refine fg_X6_102 C hw 0 rfl rfl dX6_readLiteral_109 ?_
  refine lv_iconst (v := -1) hx hb dX6_readLiteral_112 (by decide) ?_
  refine lv_icmp_eq (tgt := 117) hx hb dX6_readLiteral_113 (by decide) (fun c113 => ?_) (fun c113 => ?_)
  · replace hf := it_t c113 hf
    refine lv_iload hx hb dX6_readLiteral_117 (lv_at hl 4 rfl) ?_
    refine lv_iload_n hx hb dX6_readLiteral_119 rfl (lv_at hl 1 rfl) ?_
    refine lv_icmp_eq (tgt := 134) hx hb dX6_readLiteral_120 (by decide) (fun c120 => ?_) (fun c120 => ?_)
    · replace hf := it_t c120 hf
      exact w_X6_readLiteral_134 C hw (lv_sub hl [0, 2, 3, 4, 5, 6] rfl) hf
    · replace hf := it_f c120 hf
      refine lv_iload hx hb dX6_readLiteral_123 (lv_at hl 4 rfl) ?_
      refine lv_iconst (v := 2) hx hb dX6_readLiteral_125 (by decide) ?_
      refine lv_icmp_ne (tgt := 152) hx hb dX6_readLiteral_126 (by decide) (fun c126 => ?_) (fun c126 => ?_)
      · replace hf := it_f c126 hf
        refine lv_aload_n hx hb dX6_readLiteral_152 rfl (lv_at hl 0 rfl) ?_
        refine lv_iload_n hx hb dX6_readLiteral_153 rfl (lv_at hl 2 rfl) ?_
        obtain ⟨x1, z1, hf⟩ := ob1_el hf
        refine cV_V C hw (c_X6_fail l E a_mo mo_code mo_tape mo_text mo_taped mo_size mo_at mo_ill mo_in mo_kind mo_type mo_long1 mo_letters mo_fields mo_kept mo_now mo_many mo_itemKind mo_itemField mo_itemPlace mo_by mo_stepKind mo_stepField mo_stepOperator mo_stepOther mo_stepMany mo_literalType mo_literalFrom mo_literalSize mo_bytes mo_said mo_number mo_pile mo_pilePlace mo_top mo_open l2 x1 z1) cs_X6_144 ⟨Nat.le_of_ble_eq_true rfl, Nat.le_of_ble_eq_true rfl⟩ ⟨rfl, rfl⟩ (ci := 6) (cn := (RX6, TX6, 35)) rfl (q0 := 0) rfl (wn := w_mo E a_mo mo_code mo_tape mo_text mo_taped mo_size mo_at x1 mo_in mo_kind mo_type mo_long1 mo_letters mo_fields mo_kept mo_now mo_many mo_itemKind mo_itemField mo_itemPlace mo_by mo_stepKind mo_stepField mo_stepOperator mo_stepOther mo_stepMany mo_literalType mo_literalFrom mo_literalSize mo_bytes mo_said mo_number mo_pile mo_pilePlace mo_top mo_open) (Jn.all _ _) rfl hl.1 rfl (Nat.le_of_ble_eq_true rfl) dX6_readLiteral_154 ⟨Nat.zero_le _, Nat.zero_le _⟩ (fun H locs hw => ?_)
        cases hf
        exact rt_v C hw dX6_readLiteral_157
      · replace hf := it_t c126 hf
        refine lv_iload_n hx hb dX6_readLiteral_129 rfl (lv_at hl 1 rfl) ?_
        refine lv_iconst (v := 1) hx hb dX6_readLiteral_130 (by decide) ?_
        refine lv_icmp_ne (tgt := 152) hx hb dX6_readLiteral_131 (by decide) (fun c131 => ?_) (fun c131 => ?_)
        · replace hf := it_f c131 hf
          refine lv_aload_n hx hb dX6_readLiteral_152 rfl (lv_at hl 0 rfl) ?_
          refine lv_iload_n hx hb dX6_readLiteral_153 rfl (lv_at hl 2 rfl) ?_
          obtain ⟨x2, z2, hf⟩ := ob1_el hf
          refine cV_V C hw (c_X6_fail l E a_mo mo_code mo_tape mo_text mo_taped mo_size mo_at mo_ill mo_in mo_kind mo_type mo_long1 mo_letters mo_fields mo_kept mo_now mo_many mo_itemKind mo_itemField mo_itemPlace mo_by mo_stepKind mo_stepField mo_stepOperator mo_stepOther mo_stepMany mo_literalType mo_literalFrom mo_literalSize mo_bytes mo_said mo_number mo_pile mo_pilePlace mo_top mo_open l2 x2 z2) cs_X6_144 ⟨Nat.le_of_ble_eq_true rfl, Nat.le_of_ble_eq_true rfl⟩ ⟨rfl, rfl⟩ (ci := 6) (cn := (RX6, TX6, 35)) rfl (q0 := 0) rfl (wn := w_mo E a_mo mo_code mo_tape mo_text mo_taped mo_size mo_at x2 mo_in mo_kind mo_type mo_long1 mo_letters mo_fields mo_kept mo_now mo_many mo_itemKind mo_itemField mo_itemPlace mo_by mo_stepKind mo_stepField mo_stepOperator mo_stepOther mo_stepMany mo_literalType mo_literalFrom mo_literalSize mo_bytes mo_said mo_number mo_pile mo_pilePlace mo_top mo_open) (Jn.all _ _) rfl hl.1 rfl (Nat.le_of_ble_eq_true rfl) dX6_readLiteral_154 ⟨Nat.zero_le _, Nat.zero_le _⟩ (fun H locs hw => ?_)
          cases hf
          exact rt_v C hw dX6_readLiteral_157
        · replace hf := it_t c131 hf
          exact w_X6_readLiteral_134 C hw (lv_sub hl [0, 2, 3, 4, 5, 6] rfl) hf
  · replace hf := it_f c113 hf
    cases hf
    exact rt_v C hw dX6_readLiteral_116
def f_X6_readLiteral (p1 : Int32) (mo_text : Nat → Int32) (mo_size : Int32) (mo_at : Int32) (mo_ill : Int32) (mo_now : Int32) (mo_many : Nat → Int32) (mo_literalType : Nat → Int32) (mo_literalFrom : Nat → Int32) (mo_literalSize : Nat → Int32) (mo_bytes : Nat → Int32) (mo_said : Nat → Int32) (mo_number : Nat → Int64) : Option ((Int32) × (Int32) × (Nat → Int32) × (Nat → Int32) × (Nat → Int32) × (Nat → Int32) × (Nat → Int32) × (Nat → Int32) × (Nat → Int64)) :=
  ob1 (f_X6_blanks mo_text mo_size mo_at) (fun x1 =>
  rd mo_many 8 (((4 : Int32) * mo_now) + (3 : Int32)) (fun x2 =>
  on (((64 : Int32) * mo_now) + x2) (fun x3 =>
  rd mo_said 2 mo_now (fun x4 =>
  ob2 (f_X6_takesWord (1953658213 : Int64) mo_text mo_size x1 mo_ill) (fun x5 x6 =>
  if x5 = (0 : Int32) then (ob2 (f_X6_takesWord (439721161573 : Int64) mo_text mo_size x6 mo_ill) (fun x7 x8 =>
  if x7 = (0 : Int32) then (ob1 (f_X6_look mo_text mo_size x8) (fun x9 =>
  if x9 = (39 : Int32) then (ob4 (f_X6_readText mo_text mo_size x8 mo_ill mo_now mo_bytes mo_said) (fun x13 x14 x15 x16 =>
  f_X6_readLiteral_108 p1 x1 x3 (3 : Int32) (0 : Int64) x4 x13 x14 mo_now mo_many mo_literalType mo_literalFrom mo_literalSize x15 x16 mo_number))
  else (ob3 (f_X6_readNumber mo_text mo_size x8 mo_ill) (fun x10 x11 x12 =>
  f_X6_readLiteral_108 p1 x1 x3 (2 : Int32) x10 x4 x11 x12 mo_now mo_many mo_literalType mo_literalFrom mo_literalSize mo_bytes mo_said mo_number))))
  else (f_X6_readLiteral_108 p1 x1 x3 (0 : Int32) (0 : Int64) x4 x8 mo_ill mo_now mo_many mo_literalType mo_literalFrom mo_literalSize mo_bytes mo_said mo_number)))
  else (f_X6_readLiteral_108 p1 x1 x3 (0 : Int32) (1 : Int64) x4 x6 mo_ill mo_now mo_many mo_literalType mo_literalFrom mo_literalSize mo_bytes mo_said mo_number))))))
set_option maxHeartbeats 4000000 in
set_option maxRecDepth 100000 in
theorem c_X6_readLiteral (l : Launch) (E : EnvT) (a_mo : Nat → Nat) (mo_code : Int32) (mo_tape : Nat → Int32) (mo_text : Nat → Int32) (mo_taped : Int32) (mo_size : Int32) (mo_at : Int32) (mo_ill : Int32) (mo_in : Nat → Int32) (mo_kind : Nat → Int32) (mo_type : Nat → Int32) (mo_long1 : Nat → Int32) (mo_letters : Nat → Int32) (mo_fields : Int32) (mo_kept : Int32) (mo_now : Int32) (mo_many : Nat → Int32) (mo_itemKind : Nat → Int32) (mo_itemField : Nat → Int32) (mo_itemPlace : Nat → Int32) (mo_by : Nat → Int32) (mo_stepKind : Nat → Int32) (mo_stepField : Nat → Int32) (mo_stepOperator : Nat → Int32) (mo_stepOther : Nat → Int32) (mo_stepMany : Nat → Int32) (mo_literalType : Nat → Int32) (mo_literalFrom : Nat → Int32) (mo_literalSize : Nat → Int32) (mo_bytes : Nat → Int32) (mo_said : Nat → Int32) (mo_number : Nat → Int64) (mo_pile : Nat → Int32) (mo_pilePlace : Nat → Int32) (mo_top : Int32) (mo_open : Int32) (p1 : Int32) (o_mo_at : Int32) (o_mo_ill : Int32) (o_mo_many : Nat → Int32) (o_mo_literalType : Nat → Int32) (o_mo_literalFrom : Nat → Int32) (o_mo_literalSize : Nat → Int32) (o_mo_bytes : Nat → Int32) (o_mo_said : Nat → Int32) (o_mo_number : Nat → Int64) (hf : f_X6_readLiteral p1 mo_text mo_size mo_at mo_ill mo_now mo_many mo_literalType mo_literalFrom mo_literalSize mo_bytes mo_said mo_number = some (o_mo_at, o_mo_ill, o_mo_many, o_mo_literalType, o_mo_literalFrom, o_mo_literalSize, o_mo_bytes, o_mo_said, o_mo_number)) : CV l yX6_readLiteral (Cond.code yX6_readLiteral cX6_readLiteral 8 none) { frames := 5, cells := 0, slots := 0, locals := 111 } E [.ref (a_mo 0), .int p1] (w_mo E a_mo mo_code mo_tape mo_text mo_taped mo_size mo_at mo_ill mo_in mo_kind mo_type mo_long1 mo_letters mo_fields mo_kept mo_now mo_many mo_itemKind mo_itemField mo_itemPlace mo_by mo_stepKind mo_stepField mo_stepOperator mo_stepOther mo_stepMany mo_literalType mo_literalFrom mo_literalSize mo_bytes mo_said mo_number mo_pile mo_pilePlace mo_top mo_open) (w_mo E a_mo mo_code mo_tape mo_text mo_taped mo_size o_mo_at o_mo_ill mo_in mo_kind mo_type mo_long1 mo_letters mo_fields mo_kept mo_now o_mo_many mo_itemKind mo_itemField mo_itemPlace mo_by mo_stepKind mo_stepField mo_stepOperator mo_stepOther mo_stepMany o_mo_literalType o_mo_literalFrom o_mo_literalSize o_mo_bytes o_mo_said o_mo_number mo_pile mo_pilePlace mo_top mo_open) := by
  intro sz
  refine met_start [(0, .ref (a_mo 0)), (1, .int p1)] (by decide) rfl rfl (Nat.le_of_ble_eq_true rfl) rfl ?_
  intro p e s m below meth c ls C hnm hmt hw hl
  have hx := C.1
  have hb := C.2.1
  generalize va_A (w_mo E a_mo mo_code mo_tape mo_text mo_taped mo_size mo_at mo_ill mo_in mo_kind mo_type mo_long1 mo_letters mo_fields mo_kept mo_now mo_many mo_itemKind mo_itemField mo_itemPlace mo_by mo_stepKind mo_stepField mo_stepOperator mo_stepOther mo_stepMany mo_literalType mo_literalFrom mo_literalSize mo_bytes mo_said mo_number mo_pile mo_pilePlace mo_top mo_open) sz = A at C hw ⊢
  unfold f_X6_readLiteral at hf
  refine lv_aload_n hx hb dX6_readLiteral_0 rfl (lv_at hl 0 rfl) ?_
  obtain ⟨x1, z1, hf⟩ := ob1_el hf
  refine cV_V C hw (c_X6_blanks l E a_mo mo_code mo_tape mo_text mo_taped mo_size mo_at mo_ill mo_in mo_kind mo_type mo_long1 mo_letters mo_fields mo_kept mo_now mo_many mo_itemKind mo_itemField mo_itemPlace mo_by mo_stepKind mo_stepField mo_stepOperator mo_stepOther mo_stepMany mo_literalType mo_literalFrom mo_literalSize mo_bytes mo_said mo_number mo_pile mo_pilePlace mo_top mo_open x1 z1) cs_X6_130 ⟨Nat.le_of_ble_eq_true rfl, Nat.le_of_ble_eq_true rfl⟩ ⟨rfl, rfl⟩ (ci := 6) (cn := (RX6, TX6, 35)) rfl (q0 := 0) rfl (wn := w_mo E a_mo mo_code mo_tape mo_text mo_taped mo_size x1 mo_ill mo_in mo_kind mo_type mo_long1 mo_letters mo_fields mo_kept mo_now mo_many mo_itemKind mo_itemField mo_itemPlace mo_by mo_stepKind mo_stepField mo_stepOperator mo_stepOther mo_stepMany mo_literalType mo_literalFrom mo_literalSize mo_bytes mo_said mo_number mo_pile mo_pilePlace mo_top mo_open) (Jn.all _ _) rfl hl.1 rfl (Nat.le_of_ble_eq_true rfl) dX6_readLiteral_1 ⟨Nat.zero_le _, Nat.zero_le _⟩ (fun H locs hw => ?_)
  refine lv_aload_n hx hb dX6_readLiteral_4 rfl (lv_at hl 0 rfl) ?_
  refine fg_X6_99 C hw 0 rfl rfl dX6_readLiteral_5 ?_
  refine lv_istore_n (lv' := [(2, .int x1), (0, .ref (a_mo 0)), (1, .int p1)]) hx hb dX6_readLiteral_8 rfl hl (by decide) rfl (fun ls hl => ?_)
  refine lv_bipush (v := 64) hx hb dX6_readLiteral_9 (by decide) ?_
  refine lv_aload_n hx hb dX6_readLiteral_11 rfl (lv_at hl 1 rfl) ?_
  refine fg_X6_189 C hw 0 rfl rfl dX6_readLiteral_12 ?_
  refine lv_imul hx hb dX6_readLiteral_15 ?_
  refine lv_aload_n hx hb dX6_readLiteral_16 rfl (lv_at hl 1 rfl) ?_
  refine fg_X6_35 C hw 0 rfl rfl dX6_readLiteral_17 ?_
  refine lv_iconst (v := 4) hx hb dX6_readLiteral_20 (by decide) ?_
  refine lv_aload_n hx hb dX6_readLiteral_21 rfl (lv_at hl 1 rfl) ?_
  refine fg_X6_189 C hw 0 rfl rfl dX6_readLiteral_22 ?_
  refine lv_imul hx hb dX6_readLiteral_25 ?_
  refine lv_iconst (v := 3) hx hb dX6_readLiteral_26 (by decide) ?_
  refine lv_iadd hx hb dX6_readLiteral_27 ?_
  obtain ⟨x2, ex2, gx2, hf⟩ := rd_el hf
  refine ra_i C hw 8 rfl gx2 dX6_readLiteral_28 ?_
  refine tp_i ex2 ?_
  refine lv_iadd hx hb dX6_readLiteral_29 ?_
  obtain ⟨x3, ex3, hf⟩ := on_el hf
  refine tp_i ex3 ?_
  refine lv_istore_n (lv' := [(3, .int x3), (2, .int x1), (0, .ref (a_mo 0)), (1, .int p1)]) hx hb dX6_readLiteral_30 rfl hl (by decide) rfl (fun ls hl => ?_)
  refine lv_iconst (v := 2) hx hb dX6_readLiteral_31 (by decide) ?_
  refine lv_istore (lv' := [(4, .int (2 : Int32)), (3, .int x3), (2, .int x1), (0, .ref (a_mo 0)), (1, .int p1)]) hx hb dX6_readLiteral_32 hl (by decide) rfl (fun ls hl => ?_)
  refine lv_lconst (v := 0) hx hb dX6_readLiteral_34 (by decide) ?_
  refine lv_lstore (lv' := [(5, .long (0 : Int64)), (4, .int (2 : Int32)), (3, .int x3), (2, .int x1), (0, .ref (a_mo 0)), (1, .int p1)]) hx hb dX6_readLiteral_35 hl (by decide) rfl (fun ls hl => ?_)
  refine lv_aload_n hx hb dX6_readLiteral_37 rfl (lv_at hl 4 rfl) ?_
  refine fg_X6_77 C hw 0 rfl rfl dX6_readLiteral_38 ?_
  refine lv_aload_n hx hb dX6_readLiteral_41 rfl (lv_at hl 4 rfl) ?_
  refine fg_X6_189 C hw 0 rfl rfl dX6_readLiteral_42 ?_
  obtain ⟨x4, ex4, gx4, hf⟩ := rd_el hf
  refine ra_i C hw 22 rfl gx4 dX6_readLiteral_45 ?_
  refine tp_i ex4 ?_
  refine lv_istore (lv' := [(7, .int x4), (5, .long (0 : Int64)), (4, .int (2 : Int32)), (3, .int x3), (2, .int x1), (0, .ref (a_mo 0)), (1, .int p1)]) hx hb dX6_readLiteral_46 hl (by decide) rfl (fun ls hl => ?_)
  refine lv_aload_n hx hb dX6_readLiteral_48 rfl (lv_at hl 5 rfl) ?_
  refine rc2 C mw_793 dX6_readLiteral_49 ?_
  obtain ⟨x5, x6, z6, hf⟩ := ob2_el hf
  refine cI_V C hw (c_X6_takesWord l E a_mo mo_code mo_tape mo_text mo_taped mo_size x1 mo_ill mo_in mo_kind mo_type mo_long1 mo_letters mo_fields mo_kept mo_now mo_many mo_itemKind mo_itemField mo_itemPlace mo_by mo_stepKind mo_stepField mo_stepOperator mo_stepOther mo_stepMany mo_literalType mo_literalFrom mo_literalSize mo_bytes mo_said mo_number mo_pile mo_pilePlace mo_top mo_open (1953658213 : Int64) x5 x6 z6) cs_X6_192 ⟨Nat.le_of_ble_eq_true rfl, Nat.le_of_ble_eq_true rfl⟩ ⟨rfl, rfl⟩ (ci := 6) (cn := (RX6, TX6, 35)) rfl (q0 := 0) rfl (wn := w_mo E a_mo mo_code mo_tape mo_text mo_taped mo_size x6 mo_ill mo_in mo_kind mo_type mo_long1 mo_letters mo_fields mo_kept mo_now mo_many mo_itemKind mo_itemField mo_itemPlace mo_by mo_stepKind mo_stepField mo_stepOperator mo_stepOther mo_stepMany mo_literalType mo_literalFrom mo_literalSize mo_bytes mo_said mo_number mo_pile mo_pilePlace mo_top mo_open) (Jn.all _ _) rfl hl.1 rfl (Nat.le_of_ble_eq_true rfl) dX6_readLiteral_52 ⟨Nat.zero_le _, Nat.zero_le _⟩ (fun H locs hw => ?_)
  refine lv_if_eq (tgt := 67) hx hb dX6_readLiteral_55 (by decide) (fun c55 => ?_) (fun c55 => ?_)
  · replace hf := it_t c55 hf
    refine lv_aload_n hx hb dX6_readLiteral_67 rfl (lv_at hl 5 rfl) ?_
    refine rc2 C mw_794 dX6_readLiteral_68 ?_
    obtain ⟨x7, x8, z8, hf⟩ := ob2_el hf
    refine cI_V C hw (c_X6_takesWord l E a_mo mo_code mo_tape mo_text mo_taped mo_size x6 mo_ill mo_in mo_kind mo_type mo_long1 mo_letters mo_fields mo_kept mo_now mo_many mo_itemKind mo_itemField mo_itemPlace mo_by mo_stepKind mo_stepField mo_stepOperator mo_stepOther mo_stepMany mo_literalType mo_literalFrom mo_literalSize mo_bytes mo_said mo_number mo_pile mo_pilePlace mo_top mo_open (439721161573 : Int64) x7 x8 z8) cs_X6_192 ⟨Nat.le_of_ble_eq_true rfl, Nat.le_of_ble_eq_true rfl⟩ ⟨rfl, rfl⟩ (ci := 6) (cn := (RX6, TX6, 35)) rfl (q0 := 0) rfl (wn := w_mo E a_mo mo_code mo_tape mo_text mo_taped mo_size x8 mo_ill mo_in mo_kind mo_type mo_long1 mo_letters mo_fields mo_kept mo_now mo_many mo_itemKind mo_itemField mo_itemPlace mo_by mo_stepKind mo_stepField mo_stepOperator mo_stepOther mo_stepMany mo_literalType mo_literalFrom mo_literalSize mo_bytes mo_said mo_number mo_pile mo_pilePlace mo_top mo_open) (Jn.all _ _) rfl hl.1 rfl (Nat.le_of_ble_eq_true rfl) dX6_readLiteral_71 ⟨Nat.zero_le _, Nat.zero_le _⟩ (fun H locs hw => ?_)
    refine lv_if_eq (tgt := 83) hx hb dX6_readLiteral_74 (by decide) (fun c74 => ?_) (fun c74 => ?_)
    · replace hf := it_t c74 hf
      refine lv_aload_n hx hb dX6_readLiteral_83 rfl (lv_at hl 5 rfl) ?_
      obtain ⟨x9, z9, hf⟩ := ob1_el hf
      refine cI_V C hw (c_X6_look l E a_mo mo_code mo_tape mo_text mo_taped mo_size x8 mo_ill mo_in mo_kind mo_type mo_long1 mo_letters mo_fields mo_kept mo_now mo_many mo_itemKind mo_itemField mo_itemPlace mo_by mo_stepKind mo_stepField mo_stepOperator mo_stepOther mo_stepMany mo_literalType mo_literalFrom mo_literalSize mo_bytes mo_said mo_number mo_pile mo_pilePlace mo_top mo_open x9 z9) cs_X6_126 ⟨Nat.le_of_ble_eq_true rfl, Nat.le_of_ble_eq_true rfl⟩ ⟨rfl, rfl⟩ (ci := 6) (cn := (RX6, TX6, 35)) rfl (q0 := 0) rfl (wn := w_mo E a_mo mo_code mo_tape mo_text mo_taped mo_size x8 mo_ill mo_in mo_kind mo_type mo_long1 mo_letters mo_fields mo_kept mo_now mo_many mo_itemKind mo_itemField mo_itemPlace mo_by mo_stepKind mo_stepField mo_stepOperator mo_stepOther mo_stepMany mo_literalType mo_literalFrom mo_literalSize mo_bytes mo_said mo_number mo_pile mo_pilePlace mo_top mo_open) (Jn.all _ _) rfl hl.1 rfl (Nat.le_of_ble_eq_true rfl) dX6_readLiteral_84 ⟨Nat.zero_le _, Nat.zero_le _⟩ (fun H locs hw => ?_)
      refine lv_bipush (v := 39) hx hb dX6_readLiteral_87 (by decide) ?_
      refine lv_icmp_ne (tgt := 102) hx hb dX6_readLiteral_89 (by decide) (fun c89 => ?_) (fun c89 => ?_)
      · replace hf := it_f c89 hf
        refine lv_aload_n hx hb dX6_readLiteral_102 rfl (lv_at hl 5 rfl) ?_
        obtain ⟨x10, x11, x12, z12, hf⟩ := ob3_el hf
        refine cL_V C hw (c_X6_readNumber l E a_mo mo_code mo_tape mo_text mo_taped mo_size x8 mo_ill mo_in mo_kind mo_type mo_long1 mo_letters mo_fields mo_kept mo_now mo_many mo_itemKind mo_itemField mo_itemPlace mo_by mo_stepKind mo_stepField mo_stepOperator mo_stepOther mo_stepMany mo_literalType mo_literalFrom mo_literalSize mo_bytes mo_said mo_number mo_pile mo_pilePlace mo_top mo_open x10 x11 x12 z12) cs_X6_239 ⟨Nat.le_of_ble_eq_true rfl, Nat.le_of_ble_eq_true rfl⟩ ⟨rfl, rfl⟩ (ci := 6) (cn := (RX6, TX6, 35)) rfl (q0 := 0) rfl (wn := w_mo E a_mo mo_code mo_tape mo_text mo_taped mo_size x11 x12 mo_in mo_kind mo_type mo_long1 mo_letters mo_fields mo_kept mo_now mo_many mo_itemKind mo_itemField mo_itemPlace mo_by mo_stepKind mo_stepField mo_stepOperator mo_stepOther mo_stepMany mo_literalType mo_literalFrom mo_literalSize mo_bytes mo_said mo_number mo_pile mo_pilePlace mo_top mo_open) (Jn.all _ _) rfl hl.1 rfl (Nat.le_of_ble_eq_true rfl) dX6_readLiteral_103 ⟨Nat.zero_le _, Nat.zero_le _⟩ (fun H locs hw => ?_)
        refine lv_lstore (lv' := [(5, .long x10), (7, .int x4), (4, .int (2 : Int32)), (3, .int x3), (2, .int x1), (0, .ref (a_mo 0)), (1, .int p1)]) hx hb dX6_readLiteral_106 hl (by decide) rfl (fun ls hl => ?_)
        exact w_X6_readLiteral_108 C hw (lv_sub hl [5, 6, 4, 3, 2, 0, 1] rfl) hf
      · replace hf := it_t c89 hf
        refine lv_iconst (v := 3) hx hb dX6_readLiteral_92 (by decide) ?_
        refine lv_istore (lv' := [(4, .int (3 : Int32)), (7, .int x4), (5, .long (0 : Int64)), (3, .int x3), (2, .int x1), (0, .ref (a_mo 0)), (1, .int p1)]) hx hb dX6_readLiteral_93 hl (by decide) rfl (fun ls hl => ?_)
        refine lv_aload_n hx hb dX6_readLiteral_95 rfl (lv_at hl 5 rfl) ?_
        obtain ⟨x13, x14, x15, x16, z16, hf⟩ := ob4_el hf
        refine cV_V C hw (c_X6_readText l E a_mo mo_code mo_tape mo_text mo_taped mo_size x8 mo_ill mo_in mo_kind mo_type mo_long1 mo_letters mo_fields mo_kept mo_now mo_many mo_itemKind mo_itemField mo_itemPlace mo_by mo_stepKind mo_stepField mo_stepOperator mo_stepOther mo_stepMany mo_literalType mo_literalFrom mo_literalSize mo_bytes mo_said mo_number mo_pile mo_pilePlace mo_top mo_open x13 x14 x15 x16 z16) cs_X6_236 ⟨Nat.le_of_ble_eq_true rfl, Nat.le_of_ble_eq_true rfl⟩ ⟨rfl, rfl⟩ (ci := 6) (cn := (RX6, TX6, 35)) rfl (q0 := 0) rfl (wn := w_mo E a_mo mo_code mo_tape mo_text mo_taped mo_size x13 x14 mo_in mo_kind mo_type mo_long1 mo_letters mo_fields mo_kept mo_now mo_many mo_itemKind mo_itemField mo_itemPlace mo_by mo_stepKind mo_stepField mo_stepOperator mo_stepOther mo_stepMany mo_literalType mo_literalFrom mo_literalSize x15 x16 mo_number mo_pile mo_pilePlace mo_top mo_open) (Jn.all _ _) rfl hl.1 rfl (Nat.le_of_ble_eq_true rfl) dX6_readLiteral_96 ⟨Nat.zero_le _, Nat.zero_le _⟩ (fun H locs hw => ?_)
        refine lv_goto (tgt := 108) hx hb dX6_readLiteral_99 (by decide) ?_
        exact w_X6_readLiteral_108 C hw (lv_sub hl [5, 6, 4, 3, 0, 2, 1] rfl) hf
    · replace hf := it_f c74 hf
      refine lv_iconst (v := 0) hx hb dX6_readLiteral_77 (by decide) ?_
      refine lv_istore (lv' := [(4, .int (0 : Int32)), (7, .int x4), (5, .long (0 : Int64)), (3, .int x3), (2, .int x1), (0, .ref (a_mo 0)), (1, .int p1)]) hx hb dX6_readLiteral_78 hl (by decide) rfl (fun ls hl => ?_)
      refine lv_goto (tgt := 108) hx hb dX6_readLiteral_80 (by decide) ?_
      exact w_X6_readLiteral_108 C hw (lv_sub hl [5, 6, 4, 3, 0, 2, 1] rfl) hf
  · replace hf := it_f c55 hf
    refine lv_iconst (v := 0) hx hb dX6_readLiteral_58 (by decide) ?_
    refine lv_istore (lv' := [(4, .int (0 : Int32)), (7, .int x4), (5, .long (0 : Int64)), (3, .int x3), (2, .int x1), (0, .ref (a_mo 0)), (1, .int p1)]) hx hb dX6_readLiteral_59 hl (by decide) rfl (fun ls hl => ?_)
    refine lv_lconst (v := 1) hx hb dX6_readLiteral_61 (by decide) ?_
    refine lv_lstore (lv' := [(5, .long (1 : Int64)), (4, .int (0 : Int32)), (7, .int x4), (3, .int x3), (2, .int x1), (0, .ref (a_mo 0)), (1, .int p1)]) hx hb dX6_readLiteral_62 hl (by decide) rfl (fun ls hl => ?_)
    refine lv_goto (tgt := 108) hx hb dX6_readLiteral_64 (by decide) ?_
    exact w_X6_readLiteral_108 C hw (lv_sub hl [5, 6, 4, 3, 1, 0, 2] rfl) hf
def f_X6_operator_108 (l1 : Int32) (l2 : Int32) (l3 : Int32) (s1 : Int32) (s2 : Int32) (mo_ill : Int32) : Option ((Int32) × (Int32) × (Int32)) :=
  on (s1 + s2) (fun x1 =>
  if l1 = (61 : Int32) then (some ((0 : Int32), x1, mo_ill))
  else (if l1 = (60 : Int32) then (if l2 = (62 : Int32) then (some ((1 : Int32), x1, mo_ill))
  else (if l3 = (0 : Int32) then (some ((2 : Int32), x1, mo_ill))
  else (some ((3 : Int32), x1, mo_ill))))
  else (if l3 = (0 : Int32) then (some ((4 : Int32), x1, mo_ill))
  else (some ((5 : Int32), x1, mo_ill)))))
set_option maxHeartbeats 4000000 in
set_option maxRecDepth 100000 in
theorem w_X6_operator_108 {p : Program} {l : Launch} {e : Env} {s : State} {m : MethodId} {args : Array Value} {below : List Frame} {meth : Method} {c : Code} {E : EnvT} {A : Nat → Prop} {a_mo : Nat → Nat} {mo_code : Int32} {mo_tape : Nat → Int32} {mo_text : Nat → Int32} {mo_taped : Int32} {mo_size : Int32} {mo_at : Int32} {mo_in : Nat → Int32} {mo_kind : Nat → Int32} {mo_type : Nat → Int32} {mo_long1 : Nat → Int32} {mo_letters : Nat → Int32} {mo_fields : Int32} {mo_kept : Int32} {mo_now : Int32} {mo_many : Nat → Int32} {mo_itemKind : Nat → Int32} {mo_itemField : Nat → Int32} {mo_itemPlace : Nat → Int32} {mo_by : Nat → Int32} {mo_stepKind : Nat → Int32} {mo_stepField : Nat → Int32} {mo_stepOperator : Nat → Int32} {mo_stepOther : Nat → Int32} {mo_stepMany : Nat → Int32} {mo_literalType : Nat → Int32} {mo_literalFrom : Nat → Int32} {mo_literalSize : Nat → Int32} {mo_bytes : Nat → Int32} {mo_said : Nat → Int32} {mo_number : Nat → Int64} {mo_pile : Nat → Int32} {mo_pilePlace : Nat → Int32} {mo_top : Int32} {mo_open : Int32} {r : Int32} {o_mo_at : Int32} {o_mo_ill : Int32} {l1 : Int32} {l2 : Int32} {l3 : Int32} {s1 : Int32} {s2 : Int32} {mo_ill : Int32} {H : Heap} {locs : List Loc} {ls : Array Slot} (C : MC p s m args meth c E A cX6_operator 4 RX6 (some .int)) (hw : WS E A s (w_mo E a_mo mo_code mo_tape mo_text mo_taped mo_size mo_at mo_ill mo_in mo_kind mo_type mo_long1 mo_letters mo_fields mo_kept mo_now mo_many mo_itemKind mo_itemField mo_itemPlace mo_by mo_stepKind mo_stepField mo_stepOperator mo_stepOther mo_stepMany mo_literalType mo_literalFrom mo_literalSize mo_bytes mo_said mo_number mo_pile mo_pilePlace mo_top mo_open) H locs) (hl : lv_has ls 4 [(1, .int l1), (2, .int l2), (3, .int l3)]) (hf : f_X6_operator_108 l1 l2 l3 s1 s2 mo_ill = some (r, o_mo_at, o_mo_ill)) : W p l e { frames := 2, cells := 0, slots := 0, locals := 40 } s m args below meth c H locs 0 0 (MQ below (QcI E A (w_mo E a_mo mo_code mo_tape mo_text mo_taped mo_size o_mo_at o_mo_ill mo_in mo_kind mo_type mo_long1 mo_letters mo_fields mo_kept mo_now mo_many mo_itemKind mo_itemField mo_itemPlace mo_by mo_stepKind mo_stepField mo_stepOperator mo_stepOther mo_stepMany mo_literalType mo_literalFrom mo_literalSize mo_bytes mo_said mo_number mo_pile mo_pilePlace mo_top mo_open) r) args s 0 0 A) (F0 m 108 ls [.int s2, .int s1, .ref (a_mo 0)]) := by
  have hx := C.1
  have hb := C.2.1
  unfold f_X6_operator_108 at hf
  refine lv_iadd hx hb dX6_operator_108 ?_
  obtain ⟨x1, ex1, hf⟩ := on_el hf
  refine tp_i ex1 ?_
  refine fp_X6_99 C hw 0 rfl (Nat.le_of_ble_eq_true rfl) (ws' := w_mo E a_mo mo_code mo_tape mo_text mo_taped mo_size x1 mo_ill mo_in mo_kind mo_type mo_long1 mo_letters mo_fields mo_kept mo_now mo_many mo_itemKind mo_itemField mo_itemPlace mo_by mo_stepKind mo_stepField mo_stepOperator mo_stepOther mo_stepMany mo_literalType mo_literalFrom mo_literalSize mo_bytes mo_said mo_number mo_pile mo_pilePlace mo_top mo_open) rfl dX6_operator_109 (fun H locs hw => ?_)
  refine lv_iload_n hx hb dX6_operator_112 rfl (lv_at hl 0 rfl) ?_
  refine lv_bipush (v := 61) hx hb dX6_operator_113 (by decide) ?_
  refine lv_icmp_ne (tgt := 122) hx hb dX6_operator_115 (by decide) (fun c115 => ?_) (fun c115 => ?_)
  · replace hf := it_f c115 hf
    refine lv_iload_n hx hb dX6_operator_122 rfl (lv_at hl 0 rfl) ?_
    refine lv_bipush (v := 60) hx hb dX6_operator_123 (by decide) ?_
    refine lv_icmp_ne (tgt := 150) hx hb dX6_operator_125 (by decide) (fun c125 => ?_) (fun c125 => ?_)
    · replace hf := it_f c125 hf
      refine lv_iload_n hx hb dX6_operator_150 rfl (lv_at hl 2 rfl) ?_
      refine lv_if_eq (tgt := 158) hx hb dX6_operator_151 (by decide) (fun c151 => ?_) (fun c151 => ?_)
      · replace hf := it_t c151 hf
        refine lv_iconst (v := 4) hx hb dX6_operator_158 (by decide) ?_
        cases hf
        exact rt_i C hw dX6_operator_159
      · replace hf := it_f c151 hf
        refine lv_iconst (v := 5) hx hb dX6_operator_154 (by decide) ?_
        refine lv_goto (tgt := 159) hx hb dX6_operator_155 (by decide) ?_
        cases hf
        exact rt_i C hw dX6_operator_159
    · replace hf := it_t c125 hf
      refine lv_iload_n hx hb dX6_operator_128 rfl (lv_at hl 1 rfl) ?_
      refine lv_bipush (v := 62) hx hb dX6_operator_129 (by decide) ?_
      refine lv_icmp_ne (tgt := 138) hx hb dX6_operator_131 (by decide) (fun c131 => ?_) (fun c131 => ?_)
      · replace hf := it_f c131 hf
        refine lv_iload_n hx hb dX6_operator_138 rfl (lv_at hl 2 rfl) ?_
        refine lv_if_eq (tgt := 146) hx hb dX6_operator_139 (by decide) (fun c139 => ?_) (fun c139 => ?_)
        · replace hf := it_t c139 hf
          refine lv_iconst (v := 2) hx hb dX6_operator_146 (by decide) ?_
          refine lv_goto (tgt := 159) hx hb dX6_operator_147 (by decide) ?_
          cases hf
          exact rt_i C hw dX6_operator_159
        · replace hf := it_f c139 hf
          refine lv_iconst (v := 3) hx hb dX6_operator_142 (by decide) ?_
          refine lv_goto (tgt := 159) hx hb dX6_operator_143 (by decide) ?_
          cases hf
          exact rt_i C hw dX6_operator_159
      · replace hf := it_t c131 hf
        refine lv_iconst (v := 1) hx hb dX6_operator_134 (by decide) ?_
        refine lv_goto (tgt := 159) hx hb dX6_operator_135 (by decide) ?_
        cases hf
        exact rt_i C hw dX6_operator_159
  · replace hf := it_t c115 hf
    refine lv_iconst (v := 0) hx hb dX6_operator_118 (by decide) ?_
    refine lv_goto (tgt := 159) hx hb dX6_operator_119 (by decide) ?_
    cases hf
    exact rt_i C hw dX6_operator_159
def f_X6_operator_93 (l1 : Int32) (l2 : Int32) (s0 : Int32) (mo_at : Int32) (mo_ill : Int32) : Option ((Int32) × (Int32) × (Int32)) :=
  if s0 = (0 : Int32) then (f_X6_operator_108 l1 l2 s0 mo_at (0 : Int32) mo_ill)
  else (f_X6_operator_108 l1 l2 s0 mo_at (1 : Int32) mo_ill)
set_option maxHeartbeats 4000000 in
set_option maxRecDepth 100000 in
theorem w_X6_operator_93 {p : Program} {l : Launch} {e : Env} {s : State} {m : MethodId} {args : Array Value} {below : List Frame} {meth : Method} {c : Code} {E : EnvT} {A : Nat → Prop} {a_mo : Nat → Nat} {mo_code : Int32} {mo_tape : Nat → Int32} {mo_text : Nat → Int32} {mo_taped : Int32} {mo_size : Int32} {mo_in : Nat → Int32} {mo_kind : Nat → Int32} {mo_type : Nat → Int32} {mo_long1 : Nat → Int32} {mo_letters : Nat → Int32} {mo_fields : Int32} {mo_kept : Int32} {mo_now : Int32} {mo_many : Nat → Int32} {mo_itemKind : Nat → Int32} {mo_itemField : Nat → Int32} {mo_itemPlace : Nat → Int32} {mo_by : Nat → Int32} {mo_stepKind : Nat → Int32} {mo_stepField : Nat → Int32} {mo_stepOperator : Nat → Int32} {mo_stepOther : Nat → Int32} {mo_stepMany : Nat → Int32} {mo_literalType : Nat → Int32} {mo_literalFrom : Nat → Int32} {mo_literalSize : Nat → Int32} {mo_bytes : Nat → Int32} {mo_said : Nat → Int32} {mo_number : Nat → Int64} {mo_pile : Nat → Int32} {mo_pilePlace : Nat → Int32} {mo_top : Int32} {mo_open : Int32} {r : Int32} {o_mo_at : Int32} {o_mo_ill : Int32} {l1 : Int32} {l2 : Int32} {s0 : Int32} {mo_at : Int32} {mo_ill : Int32} {H : Heap} {locs : List Loc} {ls : Array Slot} (C : MC p s m args meth c E A cX6_operator 4 RX6 (some .int)) (hw : WS E A s (w_mo E a_mo mo_code mo_tape mo_text mo_taped mo_size mo_at mo_ill mo_in mo_kind mo_type mo_long1 mo_letters mo_fields mo_kept mo_now mo_many mo_itemKind mo_itemField mo_itemPlace mo_by mo_stepKind mo_stepField mo_stepOperator mo_stepOther mo_stepMany mo_literalType mo_literalFrom mo_literalSize mo_bytes mo_said mo_number mo_pile mo_pilePlace mo_top mo_open) H locs) (hl : lv_has ls 4 [(0, .ref (a_mo 0)), (1, .int l1), (2, .int l2)]) (hf : f_X6_operator_93 l1 l2 s0 mo_at mo_ill = some (r, o_mo_at, o_mo_ill)) : W p l e { frames := 2, cells := 0, slots := 0, locals := 40 } s m args below meth c H locs 0 0 (MQ below (QcI E A (w_mo E a_mo mo_code mo_tape mo_text mo_taped mo_size o_mo_at o_mo_ill mo_in mo_kind mo_type mo_long1 mo_letters mo_fields mo_kept mo_now mo_many mo_itemKind mo_itemField mo_itemPlace mo_by mo_stepKind mo_stepField mo_stepOperator mo_stepOther mo_stepMany mo_literalType mo_literalFrom mo_literalSize mo_bytes mo_said mo_number mo_pile mo_pilePlace mo_top mo_open) r) args s 0 0 A) (F0 m 93 ls [.int s0]) := by
  have hx := C.1
  have hb := C.2.1
  unfold f_X6_operator_93 at hf
  refine lv_istore_n (lv' := [(3, .int s0), (0, .ref (a_mo 0)), (1, .int l1), (2, .int l2)]) hx hb dX6_operator_93 rfl hl (by decide) rfl (fun ls hl => ?_)
  refine lv_aload_n hx hb dX6_operator_94 rfl (lv_at hl 1 rfl) ?_
  refine lv_dup hx hb dX6_operator_95 rfl ?_
  refine fg_X6_99 C hw 0 rfl rfl dX6_operator_96 ?_
  refine lv_iload_n hx hb dX6_operator_99 rfl (lv_at hl 0 rfl) ?_
  refine lv_if_eq (tgt := 107) hx hb dX6_operator_100 (by decide) (fun c100 => ?_) (fun c100 => ?_)
  · replace hf := it_t c100 hf
    refine lv_iconst (v := 0) hx hb dX6_operator_107 (by decide) ?_
    exact w_X6_operator_108 C hw (lv_sub hl [2, 3, 0] rfl) hf
  · replace hf := it_f c100 hf
    refine lv_iconst (v := 1) hx hb dX6_operator_103 (by decide) ?_
    refine lv_goto (tgt := 108) hx hb dX6_operator_104 (by decide) ?_
    exact w_X6_operator_108 C hw (lv_sub hl [2, 3, 0] rfl) hf
def f_X6_operator_88 (l1 : Int32) (l2 : Int32) (mo_at : Int32) (mo_ill : Int32) : Option ((Int32) × (Int32) × (Int32)) :=
  f_X6_operator_93 l1 l2 (1 : Int32) mo_at mo_ill
set_option maxHeartbeats 4000000 in
set_option maxRecDepth 100000 in
theorem w_X6_operator_88 {p : Program} {l : Launch} {e : Env} {s : State} {m : MethodId} {args : Array Value} {below : List Frame} {meth : Method} {c : Code} {E : EnvT} {A : Nat → Prop} {a_mo : Nat → Nat} {mo_code : Int32} {mo_tape : Nat → Int32} {mo_text : Nat → Int32} {mo_taped : Int32} {mo_size : Int32} {mo_in : Nat → Int32} {mo_kind : Nat → Int32} {mo_type : Nat → Int32} {mo_long1 : Nat → Int32} {mo_letters : Nat → Int32} {mo_fields : Int32} {mo_kept : Int32} {mo_now : Int32} {mo_many : Nat → Int32} {mo_itemKind : Nat → Int32} {mo_itemField : Nat → Int32} {mo_itemPlace : Nat → Int32} {mo_by : Nat → Int32} {mo_stepKind : Nat → Int32} {mo_stepField : Nat → Int32} {mo_stepOperator : Nat → Int32} {mo_stepOther : Nat → Int32} {mo_stepMany : Nat → Int32} {mo_literalType : Nat → Int32} {mo_literalFrom : Nat → Int32} {mo_literalSize : Nat → Int32} {mo_bytes : Nat → Int32} {mo_said : Nat → Int32} {mo_number : Nat → Int64} {mo_pile : Nat → Int32} {mo_pilePlace : Nat → Int32} {mo_top : Int32} {mo_open : Int32} {r : Int32} {o_mo_at : Int32} {o_mo_ill : Int32} {l1 : Int32} {l2 : Int32} {mo_at : Int32} {mo_ill : Int32} {H : Heap} {locs : List Loc} {ls : Array Slot} (C : MC p s m args meth c E A cX6_operator 4 RX6 (some .int)) (hw : WS E A s (w_mo E a_mo mo_code mo_tape mo_text mo_taped mo_size mo_at mo_ill mo_in mo_kind mo_type mo_long1 mo_letters mo_fields mo_kept mo_now mo_many mo_itemKind mo_itemField mo_itemPlace mo_by mo_stepKind mo_stepField mo_stepOperator mo_stepOther mo_stepMany mo_literalType mo_literalFrom mo_literalSize mo_bytes mo_said mo_number mo_pile mo_pilePlace mo_top mo_open) H locs) (hl : lv_has ls 4 [(0, .ref (a_mo 0)), (1, .int l1), (2, .int l2)]) (hf : f_X6_operator_88 l1 l2 mo_at mo_ill = some (r, o_mo_at, o_mo_ill)) : W p l e { frames := 2, cells := 0, slots := 0, locals := 40 } s m args below meth c H locs 0 0 (MQ below (QcI E A (w_mo E a_mo mo_code mo_tape mo_text mo_taped mo_size o_mo_at o_mo_ill mo_in mo_kind mo_type mo_long1 mo_letters mo_fields mo_kept mo_now mo_many mo_itemKind mo_itemField mo_itemPlace mo_by mo_stepKind mo_stepField mo_stepOperator mo_stepOther mo_stepMany mo_literalType mo_literalFrom mo_literalSize mo_bytes mo_said mo_number mo_pile mo_pilePlace mo_top mo_open) r) args s 0 0 A) (F0 m 88 ls []) := by
  have hx := C.1
  have hb := C.2.1
  unfold f_X6_operator_88 at hf
  refine lv_iconst (v := 1) hx hb dX6_operator_88 (by decide) ?_
  refine lv_goto (tgt := 93) hx hb dX6_operator_89 (by decide) ?_
  exact w_X6_operator_93 C hw (lv_sub hl [0, 1, 2] rfl) hf
def f_X6_operator_92 (l1 : Int32) (l2 : Int32) (mo_at : Int32) (mo_ill : Int32) : Option ((Int32) × (Int32) × (Int32)) :=
  f_X6_operator_93 l1 l2 (0 : Int32) mo_at mo_ill
set_option maxHeartbeats 4000000 in
set_option maxRecDepth 100000 in
theorem w_X6_operator_92 {p : Program} {l : Launch} {e : Env} {s : State} {m : MethodId} {args : Array Value} {below : List Frame} {meth : Method} {c : Code} {E : EnvT} {A : Nat → Prop} {a_mo : Nat → Nat} {mo_code : Int32} {mo_tape : Nat → Int32} {mo_text : Nat → Int32} {mo_taped : Int32} {mo_size : Int32} {mo_in : Nat → Int32} {mo_kind : Nat → Int32} {mo_type : Nat → Int32} {mo_long1 : Nat → Int32} {mo_letters : Nat → Int32} {mo_fields : Int32} {mo_kept : Int32} {mo_now : Int32} {mo_many : Nat → Int32} {mo_itemKind : Nat → Int32} {mo_itemField : Nat → Int32} {mo_itemPlace : Nat → Int32} {mo_by : Nat → Int32} {mo_stepKind : Nat → Int32} {mo_stepField : Nat → Int32} {mo_stepOperator : Nat → Int32} {mo_stepOther : Nat → Int32} {mo_stepMany : Nat → Int32} {mo_literalType : Nat → Int32} {mo_literalFrom : Nat → Int32} {mo_literalSize : Nat → Int32} {mo_bytes : Nat → Int32} {mo_said : Nat → Int32} {mo_number : Nat → Int64} {mo_pile : Nat → Int32} {mo_pilePlace : Nat → Int32} {mo_top : Int32} {mo_open : Int32} {r : Int32} {o_mo_at : Int32} {o_mo_ill : Int32} {l1 : Int32} {l2 : Int32} {mo_at : Int32} {mo_ill : Int32} {H : Heap} {locs : List Loc} {ls : Array Slot} (C : MC p s m args meth c E A cX6_operator 4 RX6 (some .int)) (hw : WS E A s (w_mo E a_mo mo_code mo_tape mo_text mo_taped mo_size mo_at mo_ill mo_in mo_kind mo_type mo_long1 mo_letters mo_fields mo_kept mo_now mo_many mo_itemKind mo_itemField mo_itemPlace mo_by mo_stepKind mo_stepField mo_stepOperator mo_stepOther mo_stepMany mo_literalType mo_literalFrom mo_literalSize mo_bytes mo_said mo_number mo_pile mo_pilePlace mo_top mo_open) H locs) (hl : lv_has ls 4 [(0, .ref (a_mo 0)), (1, .int l1), (2, .int l2)]) (hf : f_X6_operator_92 l1 l2 mo_at mo_ill = some (r, o_mo_at, o_mo_ill)) : W p l e { frames := 2, cells := 0, slots := 0, locals := 40 } s m args below meth c H locs 0 0 (MQ below (QcI E A (w_mo E a_mo mo_code mo_tape mo_text mo_taped mo_size o_mo_at o_mo_ill mo_in mo_kind mo_type mo_long1 mo_letters mo_fields mo_kept mo_now mo_many mo_itemKind mo_itemField mo_itemPlace mo_by mo_stepKind mo_stepField mo_stepOperator mo_stepOther mo_stepMany mo_literalType mo_literalFrom mo_literalSize mo_bytes mo_said mo_number mo_pile mo_pilePlace mo_top mo_open) r) args s 0 0 A) (F0 m 92 ls []) := by
  have hx := C.1
  have hb := C.2.1
  unfold f_X6_operator_92 at hf
  refine lv_iconst (v := 0) hx hb dX6_operator_92 (by decide) ?_
  exact w_X6_operator_93 C hw (lv_sub hl [0, 1, 2] rfl) hf
def f_X6_operator_69 (l1 : Int32) (s0 : Int32) (mo_at : Int32) (mo_ill : Int32) : Option ((Int32) × (Int32) × (Int32)) :=
  if s0 = (61 : Int32) then (f_X6_operator_88 l1 s0 mo_at mo_ill)
  else (if l1 = (60 : Int32) then (if s0 = (62 : Int32) then (f_X6_operator_88 l1 s0 mo_at mo_ill)
  else (f_X6_operator_92 l1 s0 mo_at mo_ill))
  else (f_X6_operator_92 l1 s0 mo_at mo_ill))
set_option maxHeartbeats 4000000 in
set_option maxRecDepth 100000 in
theorem w_X6_operator_69 {p : Program} {l : Launch} {e : Env} {s : State} {m : MethodId} {args : Array Value} {below : List Frame} {meth : Method} {c : Code} {E : EnvT} {A : Nat → Prop} {a_mo : Nat → Nat} {mo_code : Int32} {mo_tape : Nat → Int32} {mo_text : Nat → Int32} {mo_taped : Int32} {mo_size : Int32} {mo_in : Nat → Int32} {mo_kind : Nat → Int32} {mo_type : Nat → Int32} {mo_long1 : Nat → Int32} {mo_letters : Nat → Int32} {mo_fields : Int32} {mo_kept : Int32} {mo_now : Int32} {mo_many : Nat → Int32} {mo_itemKind : Nat → Int32} {mo_itemField : Nat → Int32} {mo_itemPlace : Nat → Int32} {mo_by : Nat → Int32} {mo_stepKind : Nat → Int32} {mo_stepField : Nat → Int32} {mo_stepOperator : Nat → Int32} {mo_stepOther : Nat → Int32} {mo_stepMany : Nat → Int32} {mo_literalType : Nat → Int32} {mo_literalFrom : Nat → Int32} {mo_literalSize : Nat → Int32} {mo_bytes : Nat → Int32} {mo_said : Nat → Int32} {mo_number : Nat → Int64} {mo_pile : Nat → Int32} {mo_pilePlace : Nat → Int32} {mo_top : Int32} {mo_open : Int32} {r : Int32} {o_mo_at : Int32} {o_mo_ill : Int32} {l1 : Int32} {s0 : Int32} {mo_at : Int32} {mo_ill : Int32} {H : Heap} {locs : List Loc} {ls : Array Slot} (C : MC p s m args meth c E A cX6_operator 4 RX6 (some .int)) (hw : WS E A s (w_mo E a_mo mo_code mo_tape mo_text mo_taped mo_size mo_at mo_ill mo_in mo_kind mo_type mo_long1 mo_letters mo_fields mo_kept mo_now mo_many mo_itemKind mo_itemField mo_itemPlace mo_by mo_stepKind mo_stepField mo_stepOperator mo_stepOther mo_stepMany mo_literalType mo_literalFrom mo_literalSize mo_bytes mo_said mo_number mo_pile mo_pilePlace mo_top mo_open) H locs) (hl : lv_has ls 4 [(0, .ref (a_mo 0)), (1, .int l1)]) (hf : f_X6_operator_69 l1 s0 mo_at mo_ill = some (r, o_mo_at, o_mo_ill)) : W p l e { frames := 2, cells := 0, slots := 0, locals := 40 } s m args below meth c H locs 0 0 (MQ below (QcI E A (w_mo E a_mo mo_code mo_tape mo_text mo_taped mo_size o_mo_at o_mo_ill mo_in mo_kind mo_type mo_long1 mo_letters mo_fields mo_kept mo_now mo_many mo_itemKind mo_itemField mo_itemPlace mo_by mo_stepKind mo_stepField mo_stepOperator mo_stepOther mo_stepMany mo_literalType mo_literalFrom mo_literalSize mo_bytes mo_said mo_number mo_pile mo_pilePlace mo_top mo_open) r) args s 0 0 A) (F0 m 69 ls [.int s0]) := by
  have hx := C.1
  have hb := C.2.1
  unfold f_X6_operator_69 at hf
  refine lv_istore_n (lv' := [(2, .int s0), (0, .ref (a_mo 0)), (1, .int l1)]) hx hb dX6_operator_69 rfl hl (by decide) rfl (fun ls hl => ?_)
  refine lv_iload_n hx hb dX6_operator_70 rfl (lv_at hl 0 rfl) ?_
  refine lv_bipush (v := 61) hx hb dX6_operator_71 (by decide) ?_
  refine lv_icmp_eq (tgt := 88) hx hb dX6_operator_73 (by decide) (fun c73 => ?_) (fun c73 => ?_)
  · replace hf := it_t c73 hf
    exact w_X6_operator_88 C hw (lv_sub hl [1, 2, 0] rfl) hf
  · replace hf := it_f c73 hf
    refine lv_iload_n hx hb dX6_operator_76 rfl (lv_at hl 2 rfl) ?_
    refine lv_bipush (v := 60) hx hb dX6_operator_77 (by decide) ?_
    refine lv_icmp_ne (tgt := 92) hx hb dX6_operator_79 (by decide) (fun c79 => ?_) (fun c79 => ?_)
    · replace hf := it_f c79 hf
      exact w_X6_operator_92 C hw (lv_sub hl [1, 2, 0] rfl) hf
    · replace hf := it_t c79 hf
      refine lv_iload_n hx hb dX6_operator_82 rfl (lv_at hl 0 rfl) ?_
      refine lv_bipush (v := 62) hx hb dX6_operator_83 (by decide) ?_
      refine lv_icmp_ne (tgt := 92) hx hb dX6_operator_85 (by decide) (fun c85 => ?_) (fun c85 => ?_)
      · replace hf := it_f c85 hf
        exact w_X6_operator_92 C hw (lv_sub hl [1, 2, 0] rfl) hf
      · replace hf := it_t c85 hf
        exact w_X6_operator_88 C hw (lv_sub hl [1, 2, 0] rfl) hf
def f_X6_operator_35 (l1 : Int32) (mo_text : Nat → Int32) (mo_size : Int32) (mo_at : Int32) (mo_ill : Int32) : Option ((Int32) × (Int32) × (Int32)) :=
  if mo_ill = (-1 : Int32) then (on (mo_at + (1 : Int32)) (fun x1 =>
  if l1 = (61 : Int32) then (f_X6_operator_69 l1 (-1 : Int32) x1 mo_ill)
  else (ob1 (f_X6_look mo_text mo_size x1) (fun x2 =>
  f_X6_operator_69 l1 x2 x1 mo_ill))))
  else (some ((-1 : Int32), mo_at, mo_ill))
set_option maxHeartbeats 4000000 in
set_option maxRecDepth 100000 in
theorem w_X6_operator_35 {p : Program} {l : Launch} {e : Env} {s : State} {m : MethodId} {args : Array Value} {below : List Frame} {meth : Method} {c : Code} {E : EnvT} {A : Nat → Prop} {a_mo : Nat → Nat} {mo_code : Int32} {mo_tape : Nat → Int32} {mo_taped : Int32} {mo_in : Nat → Int32} {mo_kind : Nat → Int32} {mo_type : Nat → Int32} {mo_long1 : Nat → Int32} {mo_letters : Nat → Int32} {mo_fields : Int32} {mo_kept : Int32} {mo_now : Int32} {mo_many : Nat → Int32} {mo_itemKind : Nat → Int32} {mo_itemField : Nat → Int32} {mo_itemPlace : Nat → Int32} {mo_by : Nat → Int32} {mo_stepKind : Nat → Int32} {mo_stepField : Nat → Int32} {mo_stepOperator : Nat → Int32} {mo_stepOther : Nat → Int32} {mo_stepMany : Nat → Int32} {mo_literalType : Nat → Int32} {mo_literalFrom : Nat → Int32} {mo_literalSize : Nat → Int32} {mo_bytes : Nat → Int32} {mo_said : Nat → Int32} {mo_number : Nat → Int64} {mo_pile : Nat → Int32} {mo_pilePlace : Nat → Int32} {mo_top : Int32} {mo_open : Int32} {r : Int32} {o_mo_at : Int32} {o_mo_ill : Int32} {l1 : Int32} {mo_text : Nat → Int32} {mo_size : Int32} {mo_at : Int32} {mo_ill : Int32} {H : Heap} {locs : List Loc} {ls : Array Slot} (C : MC p s m args meth c E A cX6_operator 4 RX6 (some .int)) (hw : WS E A s (w_mo E a_mo mo_code mo_tape mo_text mo_taped mo_size mo_at mo_ill mo_in mo_kind mo_type mo_long1 mo_letters mo_fields mo_kept mo_now mo_many mo_itemKind mo_itemField mo_itemPlace mo_by mo_stepKind mo_stepField mo_stepOperator mo_stepOther mo_stepMany mo_literalType mo_literalFrom mo_literalSize mo_bytes mo_said mo_number mo_pile mo_pilePlace mo_top mo_open) H locs) (hl : lv_has ls 4 [(0, .ref (a_mo 0)), (1, .int l1)]) (hf : f_X6_operator_35 l1 mo_text mo_size mo_at mo_ill = some (r, o_mo_at, o_mo_ill)) : W p l e { frames := 2, cells := 0, slots := 0, locals := 40 } s m args below meth c H locs 0 0 (MQ below (QcI E A (w_mo E a_mo mo_code mo_tape mo_text mo_taped mo_size o_mo_at o_mo_ill mo_in mo_kind mo_type mo_long1 mo_letters mo_fields mo_kept mo_now mo_many mo_itemKind mo_itemField mo_itemPlace mo_by mo_stepKind mo_stepField mo_stepOperator mo_stepOther mo_stepMany mo_literalType mo_literalFrom mo_literalSize mo_bytes mo_said mo_number mo_pile mo_pilePlace mo_top mo_open) r) args s 0 0 A) (F0 m 35 ls []) := by
  have hx := C.1
  have hb := C.2.1
  unfold f_X6_operator_35 at hf
  refine lv_aload_n hx hb dX6_operator_35 rfl (lv_at hl 0 rfl) ?_
  refine fg_X6_102 C hw 0 rfl rfl dX6_operator_36 ?_
  refine lv_iconst (v := -1) hx hb dX6_operator_39 (by decide) ?_
  refine lv_icmp_eq (tgt := 45) hx hb dX6_operator_40 (by decide) (fun c40 => ?_) (fun c40 => ?_)
  · replace hf := it_t c40 hf
    refine lv_aload_n hx hb dX6_operator_45 rfl (lv_at hl 0 rfl) ?_
    refine lv_dup hx hb dX6_operator_46 rfl ?_
    refine fg_X6_99 C hw 0 rfl rfl dX6_operator_47 ?_
    refine lv_iconst (v := 1) hx hb dX6_operator_50 (by decide) ?_
    refine lv_iadd hx hb dX6_operator_51 ?_
    obtain ⟨x1, ex1, hf⟩ := on_el hf
    refine tp_i ex1 ?_
    refine fp_X6_99 C hw 0 rfl (Nat.le_of_ble_eq_true rfl) (ws' := w_mo E a_mo mo_code mo_tape mo_text mo_taped mo_size x1 mo_ill mo_in mo_kind mo_type mo_long1 mo_letters mo_fields mo_kept mo_now mo_many mo_itemKind mo_itemField mo_itemPlace mo_by mo_stepKind mo_stepField mo_stepOperator mo_stepOther mo_stepMany mo_literalType mo_literalFrom mo_literalSize mo_bytes mo_said mo_number mo_pile mo_pilePlace mo_top mo_open) rfl dX6_operator_52 (fun H locs hw => ?_)
    refine lv_iload_n hx hb dX6_operator_55 rfl (lv_at hl 1 rfl) ?_
    refine lv_bipush (v := 61) hx hb dX6_operator_56 (by decide) ?_
    refine lv_icmp_ne (tgt := 65) hx hb dX6_operator_58 (by decide) (fun c58 => ?_) (fun c58 => ?_)
    · replace hf := it_f c58 hf
      refine lv_aload_n hx hb dX6_operator_65 rfl (lv_at hl 0 rfl) ?_
      obtain ⟨x2, z2, hf⟩ := ob1_el hf
      refine cI_V C hw (c_X6_look l E a_mo mo_code mo_tape mo_text mo_taped mo_size x1 mo_ill mo_in mo_kind mo_type mo_long1 mo_letters mo_fields mo_kept mo_now mo_many mo_itemKind mo_itemField mo_itemPlace mo_by mo_stepKind mo_stepField mo_stepOperator mo_stepOther mo_stepMany mo_literalType mo_literalFrom mo_literalSize mo_bytes mo_said mo_number mo_pile mo_pilePlace mo_top mo_open x2 z2) cs_X6_126 ⟨Nat.le_of_ble_eq_true rfl, Nat.le_of_ble_eq_true rfl⟩ ⟨rfl, rfl⟩ (ci := 6) (cn := (RX6, TX6, 35)) rfl (q0 := 0) rfl (wn := w_mo E a_mo mo_code mo_tape mo_text mo_taped mo_size x1 mo_ill mo_in mo_kind mo_type mo_long1 mo_letters mo_fields mo_kept mo_now mo_many mo_itemKind mo_itemField mo_itemPlace mo_by mo_stepKind mo_stepField mo_stepOperator mo_stepOther mo_stepMany mo_literalType mo_literalFrom mo_literalSize mo_bytes mo_said mo_number mo_pile mo_pilePlace mo_top mo_open) (Jn.all _ _) rfl hl.1 rfl (Nat.le_of_ble_eq_true rfl) dX6_operator_66 ⟨Nat.zero_le _, Nat.zero_le _⟩ (fun H locs hw => ?_)
      exact w_X6_operator_69 C hw (lv_sub hl [0, 1] rfl) hf
    · replace hf := it_t c58 hf
      refine lv_iconst (v := -1) hx hb dX6_operator_61 (by decide) ?_
      refine lv_goto (tgt := 69) hx hb dX6_operator_62 (by decide) ?_
      exact w_X6_operator_69 C hw (lv_sub hl [0, 1] rfl) hf
  · replace hf := it_f c40 hf
    refine lv_iconst (v := -1) hx hb dX6_operator_43 (by decide) ?_
    cases hf
    exact rt_i C hw dX6_operator_44
def f_X6_operator (mo_text : Nat → Int32) (mo_size : Int32) (mo_at : Int32) (mo_ill : Int32) : Option ((Int32) × (Int32) × (Int32)) :=
  ob1 (f_X6_blanks mo_text mo_size mo_at) (fun x1 =>
  ob1 (f_X6_look mo_text mo_size x1) (fun x2 =>
  if x2 = (61 : Int32) then (f_X6_operator_35 x2 mo_text mo_size x1 mo_ill)
  else (if x2 = (60 : Int32) then (f_X6_operator_35 x2 mo_text mo_size x1 mo_ill)
  else (if x2 = (62 : Int32) then (f_X6_operator_35 x2 mo_text mo_size x1 mo_ill)
  else (ob1 (f_X6_fail x1 mo_ill) (fun x3 =>
  f_X6_operator_35 x2 mo_text mo_size x1 x3))))))
set_option maxHeartbeats 4000000 in
set_option maxRecDepth 100000 in
theorem c_X6_operator (l : Launch) (E : EnvT) (a_mo : Nat → Nat) (mo_code : Int32) (mo_tape : Nat → Int32) (mo_text : Nat → Int32) (mo_taped : Int32) (mo_size : Int32) (mo_at : Int32) (mo_ill : Int32) (mo_in : Nat → Int32) (mo_kind : Nat → Int32) (mo_type : Nat → Int32) (mo_long1 : Nat → Int32) (mo_letters : Nat → Int32) (mo_fields : Int32) (mo_kept : Int32) (mo_now : Int32) (mo_many : Nat → Int32) (mo_itemKind : Nat → Int32) (mo_itemField : Nat → Int32) (mo_itemPlace : Nat → Int32) (mo_by : Nat → Int32) (mo_stepKind : Nat → Int32) (mo_stepField : Nat → Int32) (mo_stepOperator : Nat → Int32) (mo_stepOther : Nat → Int32) (mo_stepMany : Nat → Int32) (mo_literalType : Nat → Int32) (mo_literalFrom : Nat → Int32) (mo_literalSize : Nat → Int32) (mo_bytes : Nat → Int32) (mo_said : Nat → Int32) (mo_number : Nat → Int64) (mo_pile : Nat → Int32) (mo_pilePlace : Nat → Int32) (mo_top : Int32) (mo_open : Int32) (r : Int32) (o_mo_at : Int32) (o_mo_ill : Int32) (hf : f_X6_operator mo_text mo_size mo_at mo_ill = some (r, o_mo_at, o_mo_ill)) : CI l yX6_operator (Cond.code yX6_operator cX6_operator 4 (some .int)) { frames := 2, cells := 0, slots := 0, locals := 40 } E [.ref (a_mo 0)] (w_mo E a_mo mo_code mo_tape mo_text mo_taped mo_size mo_at mo_ill mo_in mo_kind mo_type mo_long1 mo_letters mo_fields mo_kept mo_now mo_many mo_itemKind mo_itemField mo_itemPlace mo_by mo_stepKind mo_stepField mo_stepOperator mo_stepOther mo_stepMany mo_literalType mo_literalFrom mo_literalSize mo_bytes mo_said mo_number mo_pile mo_pilePlace mo_top mo_open) r (w_mo E a_mo mo_code mo_tape mo_text mo_taped mo_size o_mo_at o_mo_ill mo_in mo_kind mo_type mo_long1 mo_letters mo_fields mo_kept mo_now mo_many mo_itemKind mo_itemField mo_itemPlace mo_by mo_stepKind mo_stepField mo_stepOperator mo_stepOther mo_stepMany mo_literalType mo_literalFrom mo_literalSize mo_bytes mo_said mo_number mo_pile mo_pilePlace mo_top mo_open) := by
  intro sz
  refine met_start [(0, .ref (a_mo 0))] (by decide) rfl rfl (Nat.le_of_ble_eq_true rfl) rfl ?_
  intro p e s m below meth c ls C hnm hmt hw hl
  have hx := C.1
  have hb := C.2.1
  generalize va_A (w_mo E a_mo mo_code mo_tape mo_text mo_taped mo_size mo_at mo_ill mo_in mo_kind mo_type mo_long1 mo_letters mo_fields mo_kept mo_now mo_many mo_itemKind mo_itemField mo_itemPlace mo_by mo_stepKind mo_stepField mo_stepOperator mo_stepOther mo_stepMany mo_literalType mo_literalFrom mo_literalSize mo_bytes mo_said mo_number mo_pile mo_pilePlace mo_top mo_open) sz = A at C hw ⊢
  unfold f_X6_operator at hf
  refine lv_aload_n hx hb dX6_operator_0 rfl (lv_at hl 0 rfl) ?_
  obtain ⟨x1, z1, hf⟩ := ob1_el hf
  refine cV_V C hw (c_X6_blanks l E a_mo mo_code mo_tape mo_text mo_taped mo_size mo_at mo_ill mo_in mo_kind mo_type mo_long1 mo_letters mo_fields mo_kept mo_now mo_many mo_itemKind mo_itemField mo_itemPlace mo_by mo_stepKind mo_stepField mo_stepOperator mo_stepOther mo_stepMany mo_literalType mo_literalFrom mo_literalSize mo_bytes mo_said mo_number mo_pile mo_pilePlace mo_top mo_open x1 z1) cs_X6_130 ⟨Nat.le_of_ble_eq_true rfl, Nat.le_of_ble_eq_true rfl⟩ ⟨rfl, rfl⟩ (ci := 6) (cn := (RX6, TX6, 35)) rfl (q0 := 0) rfl (wn := w_mo E a_mo mo_code mo_tape mo_text mo_taped mo_size x1 mo_ill mo_in mo_kind mo_type mo_long1 mo_letters mo_fields mo_kept mo_now mo_many mo_itemKind mo_itemField mo_itemPlace mo_by mo_stepKind mo_stepField mo_stepOperator mo_stepOther mo_stepMany mo_literalType mo_literalFrom mo_literalSize mo_bytes mo_said mo_number mo_pile mo_pilePlace mo_top mo_open) (Jn.all _ _) rfl hl.1 rfl (Nat.le_of_ble_eq_true rfl) dX6_operator_1 ⟨Nat.zero_le _, Nat.zero_le _⟩ (fun H locs hw => ?_)
  refine lv_aload_n hx hb dX6_operator_4 rfl (lv_at hl 0 rfl) ?_
  obtain ⟨x2, z2, hf⟩ := ob1_el hf
  refine cI_V C hw (c_X6_look l E a_mo mo_code mo_tape mo_text mo_taped mo_size x1 mo_ill mo_in mo_kind mo_type mo_long1 mo_letters mo_fields mo_kept mo_now mo_many mo_itemKind mo_itemField mo_itemPlace mo_by mo_stepKind mo_stepField mo_stepOperator mo_stepOther mo_stepMany mo_literalType mo_literalFrom mo_literalSize mo_bytes mo_said mo_number mo_pile mo_pilePlace mo_top mo_open x2 z2) cs_X6_126 ⟨Nat.le_of_ble_eq_true rfl, Nat.le_of_ble_eq_true rfl⟩ ⟨rfl, rfl⟩ (ci := 6) (cn := (RX6, TX6, 35)) rfl (q0 := 0) rfl (wn := w_mo E a_mo mo_code mo_tape mo_text mo_taped mo_size x1 mo_ill mo_in mo_kind mo_type mo_long1 mo_letters mo_fields mo_kept mo_now mo_many mo_itemKind mo_itemField mo_itemPlace mo_by mo_stepKind mo_stepField mo_stepOperator mo_stepOther mo_stepMany mo_literalType mo_literalFrom mo_literalSize mo_bytes mo_said mo_number mo_pile mo_pilePlace mo_top mo_open) (Jn.all _ _) rfl hl.1 rfl (Nat.le_of_ble_eq_true rfl) dX6_operator_5 ⟨Nat.zero_le _, Nat.zero_le _⟩ (fun H locs hw => ?_)
  refine lv_istore_n (lv' := [(1, .int x2), (0, .ref (a_mo 0))]) hx hb dX6_operator_8 rfl hl (by decide) rfl (fun ls hl => ?_)
  refine lv_iload_n hx hb dX6_operator_9 rfl (lv_at hl 0 rfl) ?_
  refine lv_bipush (v := 61) hx hb dX6_operator_10 (by decide) ?_
  refine lv_icmp_eq (tgt := 35) hx hb dX6_operator_12 (by decide) (fun c12 => ?_) (fun c12 => ?_)
  · replace hf := it_t c12 hf
    exact w_X6_operator_35 C hw (lv_sub hl [1, 0] rfl) hf
  · replace hf := it_f c12 hf
    refine lv_iload_n hx hb dX6_operator_15 rfl (lv_at hl 0 rfl) ?_
    refine lv_bipush (v := 60) hx hb dX6_operator_16 (by decide) ?_
    refine lv_icmp_eq (tgt := 35) hx hb dX6_operator_18 (by decide) (fun c18 => ?_) (fun c18 => ?_)
    · replace hf := it_t c18 hf
      exact w_X6_operator_35 C hw (lv_sub hl [1, 0] rfl) hf
    · replace hf := it_f c18 hf
      refine lv_iload_n hx hb dX6_operator_21 rfl (lv_at hl 0 rfl) ?_
      refine lv_bipush (v := 62) hx hb dX6_operator_22 (by decide) ?_
      refine lv_icmp_eq (tgt := 35) hx hb dX6_operator_24 (by decide) (fun c24 => ?_) (fun c24 => ?_)
      · replace hf := it_t c24 hf
        exact w_X6_operator_35 C hw (lv_sub hl [1, 0] rfl) hf
      · replace hf := it_f c24 hf
        refine lv_aload_n hx hb dX6_operator_27 rfl (lv_at hl 1 rfl) ?_
        refine lv_aload_n hx hb dX6_operator_28 rfl (lv_at hl 1 rfl) ?_
        refine fg_X6_99 C hw 0 rfl rfl dX6_operator_29 ?_
        obtain ⟨x3, z3, hf⟩ := ob1_el hf
        refine cV_V C hw (c_X6_fail l E a_mo mo_code mo_tape mo_text mo_taped mo_size x1 mo_ill mo_in mo_kind mo_type mo_long1 mo_letters mo_fields mo_kept mo_now mo_many mo_itemKind mo_itemField mo_itemPlace mo_by mo_stepKind mo_stepField mo_stepOperator mo_stepOther mo_stepMany mo_literalType mo_literalFrom mo_literalSize mo_bytes mo_said mo_number mo_pile mo_pilePlace mo_top mo_open x1 x3 z3) cs_X6_144 ⟨Nat.le_of_ble_eq_true rfl, Nat.le_of_ble_eq_true rfl⟩ ⟨rfl, rfl⟩ (ci := 6) (cn := (RX6, TX6, 35)) rfl (q0 := 0) rfl (wn := w_mo E a_mo mo_code mo_tape mo_text mo_taped mo_size x1 x3 mo_in mo_kind mo_type mo_long1 mo_letters mo_fields mo_kept mo_now mo_many mo_itemKind mo_itemField mo_itemPlace mo_by mo_stepKind mo_stepField mo_stepOperator mo_stepOther mo_stepMany mo_literalType mo_literalFrom mo_literalSize mo_bytes mo_said mo_number mo_pile mo_pilePlace mo_top mo_open) (Jn.all _ _) rfl hl.1 rfl (Nat.le_of_ble_eq_true rfl) dX6_operator_32 ⟨Nat.zero_le _, Nat.zero_le _⟩ (fun H locs hw => ?_)
        exact w_X6_operator_35 C hw (lv_sub hl [1, 0] rfl) hf
