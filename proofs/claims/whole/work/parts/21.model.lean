def f_X6_wordOf_11 : Nat → (Int32) → (Int32) → (Int64) → (Int32) → (Nat → Int32) → Option ((Int64))
  | 0, _, _, _, _, _ => none
  | n + 1, l1, l2, l3, l5, mo_text =>
  if l2 ≤ l5 then (some l3)
  else (rd mo_text 2000 (l1 + l5) (fun x1 =>
  on ((l3 <<< (Int32.toInt64 (8 : Int32) &&& 63)) ||| (Int32.toInt64 x1)) (fun x2 =>
  on (l5 + (1 : Int32)) (fun x3 =>
  f_X6_wordOf_11 n l1 l2 x2 x3 mo_text))))
set_option maxHeartbeats 4000000 in
set_option maxRecDepth 100000 in
theorem w_X6_wordOf_11 {p : Program} {l : Launch} {e : Env} {s : State} {m : MethodId} {args : Array Value} {below : List Frame} {meth : Method} {c : Code} {E : EnvT} {A : Nat → Prop} {a_mo : Nat → Nat} {Q : State → Prop} {mo_code : Int32} {mo_tape : Nat → Int32} {mo_taped : Int32} {mo_size : Int32} {mo_at : Int32} {mo_ill : Int32} {mo_in : Nat → Int32} {mo_kind : Nat → Int32} {mo_type : Nat → Int32} {mo_long1 : Nat → Int32} {mo_letters : Nat → Int32} {mo_fields : Int32} {mo_kept : Int32} {mo_now : Int32} {mo_many : Nat → Int32} {mo_itemKind : Nat → Int32} {mo_itemField : Nat → Int32} {mo_itemPlace : Nat → Int32} {mo_by : Nat → Int32} {mo_stepKind : Nat → Int32} {mo_stepField : Nat → Int32} {mo_stepOperator : Nat → Int32} {mo_stepOther : Nat → Int32} {mo_stepMany : Nat → Int32} {mo_literalType : Nat → Int32} {mo_literalFrom : Nat → Int32} {mo_literalSize : Nat → Int32} {mo_bytes : Nat → Int32} {mo_said : Nat → Int32} {mo_number : Nat → Int64} {mo_pile : Nat → Int32} {mo_pilePlace : Nat → Int32} {mo_top : Int32} {mo_open : Int32} {q_l3 : Int64} (C : MC p s m args meth c E A cX6_wordOf 6 RX6 (some .long)) : ∀ (n : Nat) {l1 : Int32} {l2 : Int32} {l3 : Int64} {l5 : Int32} {mo_text : Nat → Int32} {H : Heap} {locs : List Loc} {ls : Array Slot}, WS E A s (w_mo E a_mo mo_code mo_tape mo_text mo_taped mo_size mo_at mo_ill mo_in mo_kind mo_type mo_long1 mo_letters mo_fields mo_kept mo_now mo_many mo_itemKind mo_itemField mo_itemPlace mo_by mo_stepKind mo_stepField mo_stepOperator mo_stepOther mo_stepMany mo_literalType mo_literalFrom mo_literalSize mo_bytes mo_said mo_number mo_pile mo_pilePlace mo_top mo_open) H locs → lv_has ls 6 [(0, .ref (a_mo 0)), (1, .int l1), (2, .int l2), (3, .long l3), (5, .int l5)] → f_X6_wordOf_11 n l1 l2 l3 l5 mo_text = some q_l3 → (∀ (H : Heap) (locs : List Loc) (ls : Array Slot), WS E A s (w_mo E a_mo mo_code mo_tape mo_text mo_taped mo_size mo_at mo_ill mo_in mo_kind mo_type mo_long1 mo_letters mo_fields mo_kept mo_now mo_many mo_itemKind mo_itemField mo_itemPlace mo_by mo_stepKind mo_stepField mo_stepOperator mo_stepOther mo_stepMany mo_literalType mo_literalFrom mo_literalSize mo_bytes mo_said mo_number mo_pile mo_pilePlace mo_top mo_open) H locs → lv_has ls 6 [(2, .int l2), (3, .long q_l3)] → W p l e { frames := 2, cells := 0, slots := 0, locals := 42 } s m args below meth c H locs 0 0 Q (F0 m 39 ls [])) → W p l e { frames := 2, cells := 0, slots := 0, locals := 42 } s m args below meth c H locs 0 0 Q (F0 m 11 ls []) := by
  have hx := C.1
  have hb := C.2.1
  intro n
  induction n with
  | zero =>
    intro l1 l2 l3 l5 mo_text H locs ls hw hl hf kk
    unfold f_X6_wordOf_11 at hf
    cases hf
  | succ n ih =>
    intro l1 l2 l3 l5 mo_text H locs ls hw hl hf kk
    unfold f_X6_wordOf_11 at hf
    refine lv_iload hx hb dX6_wordOf_11 (lv_at hl 4 rfl) ?_
    refine lv_iload_n hx hb dX6_wordOf_13 rfl (lv_at hl 2 rfl) ?_
    refine lv_icmp_ge (tgt := 39) hx hb dX6_wordOf_14 (by decide) (fun c14 => ?_) (fun c14 => ?_)
    · replace hf := it_t c14 hf
      cases hf
      exact kk _ _ _ hw (lv_sub hl [2, 3] rfl)
    · replace hf := it_f c14 hf
      refine lv_lload_n hx hb dX6_wordOf_17 rfl (lv_at hl 3 rfl) ?_
      refine lv_bipush (v := 8) hx hb dX6_wordOf_18 (by decide) ?_
      refine lv_lshl hx hb dX6_wordOf_20 rfl ?_
      refine lv_aload_n hx hb dX6_wordOf_21 rfl (lv_at hl 0 rfl) ?_
      refine fg_X6_13 C hw 0 rfl rfl dX6_wordOf_22 ?_
      refine lv_iload_n hx hb dX6_wordOf_25 rfl (lv_at hl 1 rfl) ?_
      refine lv_iload hx hb dX6_wordOf_26 (lv_at hl 4 rfl) ?_
      refine lv_iadd hx hb dX6_wordOf_28 ?_
      obtain ⟨x1, ex1, gx1, hf⟩ := rd_el hf
      refine ra_i C hw 2 rfl gx1 dX6_wordOf_29 ?_
      refine tp_i ex1 ?_
      refine lv_i2l hx hb dX6_wordOf_30 rfl ?_
      refine lv_lor hx hb dX6_wordOf_31 ?_
      obtain ⟨x2, ex2, hf⟩ := on_el hf
      refine tp_l ex2 ?_
      refine lv_lstore_n (lv' := [(3, .long x2), (0, .ref (a_mo 0)), (1, .int l1), (2, .int l2), (5, .int l5)]) hx hb dX6_wordOf_32 rfl hl (by decide) rfl (fun ls hl => ?_)
      obtain ⟨x3, ex3, hf⟩ := on_el hf
      refine lv_iinc (v := x3) (lv' := [(5, .int x3), (3, .long x2), (0, .ref (a_mo 0)), (1, .int l1), (2, .int l2)]) hx hb dX6_wordOf_33 hl (k := 4) rfl (by rw [← ex3]; rfl) (by decide) rfl (fun ls hl => ?_)
      refine lv_goto (tgt := 11) hx hb dX6_wordOf_36 (by decide) ?_
      exact ih hw (lv_sub hl [2, 3, 4, 1, 0] rfl) hf kk
def f_X6_wordOf (p1 : Int32) (mo_text : Nat → Int32) (mo_size : Int32) : Option ((Int64)) :=
  ob1 (f_X6_wordAt p1 mo_text mo_size) (fun x1 =>
  ob1 (f_X6_wordOf_11 FU p1 x1 (0 : Int64) (0 : Int32) mo_text) (fun x2 =>
  if x1 ≤ (8 : Int32) then (some x2)
  else (some (0 : Int64))))
set_option maxHeartbeats 4000000 in
set_option maxRecDepth 100000 in
theorem c_X6_wordOf (l : Launch) (E : EnvT) (a_mo : Nat → Nat) (mo_code : Int32) (mo_tape : Nat → Int32) (mo_text : Nat → Int32) (mo_taped : Int32) (mo_size : Int32) (mo_at : Int32) (mo_ill : Int32) (mo_in : Nat → Int32) (mo_kind : Nat → Int32) (mo_type : Nat → Int32) (mo_long1 : Nat → Int32) (mo_letters : Nat → Int32) (mo_fields : Int32) (mo_kept : Int32) (mo_now : Int32) (mo_many : Nat → Int32) (mo_itemKind : Nat → Int32) (mo_itemField : Nat → Int32) (mo_itemPlace : Nat → Int32) (mo_by : Nat → Int32) (mo_stepKind : Nat → Int32) (mo_stepField : Nat → Int32) (mo_stepOperator : Nat → Int32) (mo_stepOther : Nat → Int32) (mo_stepMany : Nat → Int32) (mo_literalType : Nat → Int32) (mo_literalFrom : Nat → Int32) (mo_literalSize : Nat → Int32) (mo_bytes : Nat → Int32) (mo_said : Nat → Int32) (mo_number : Nat → Int64) (mo_pile : Nat → Int32) (mo_pilePlace : Nat → Int32) (mo_top : Int32) (mo_open : Int32) (p1 : Int32) (r : Int64) (hf : f_X6_wordOf p1 mo_text mo_size = some r) : CL l yX6_wordOf (Cond.code yX6_wordOf cX6_wordOf 6 (some .long)) { frames := 2, cells := 0, slots := 0, locals := 42 } E [.ref (a_mo 0), .int p1] (w_mo E a_mo mo_code mo_tape mo_text mo_taped mo_size mo_at mo_ill mo_in mo_kind mo_type mo_long1 mo_letters mo_fields mo_kept mo_now mo_many mo_itemKind mo_itemField mo_itemPlace mo_by mo_stepKind mo_stepField mo_stepOperator mo_stepOther mo_stepMany mo_literalType mo_literalFrom mo_literalSize mo_bytes mo_said mo_number mo_pile mo_pilePlace mo_top mo_open) r (w_mo E a_mo mo_code mo_tape mo_text mo_taped mo_size mo_at mo_ill mo_in mo_kind mo_type mo_long1 mo_letters mo_fields mo_kept mo_now mo_many mo_itemKind mo_itemField mo_itemPlace mo_by mo_stepKind mo_stepField mo_stepOperator mo_stepOther mo_stepMany mo_literalType mo_literalFrom mo_literalSize mo_bytes mo_said mo_number mo_pile mo_pilePlace mo_top mo_open) := by
  intro sz
  refine met_start [(0, .ref (a_mo 0)), (1, .int p1)] (by decide) rfl rfl (Nat.le_of_ble_eq_true rfl) rfl ?_
  intro p e s m below meth c ls C hnm hmt hw hl
  have hx := C.1
  have hb := C.2.1
  generalize va_A (w_mo E a_mo mo_code mo_tape mo_text mo_taped mo_size mo_at mo_ill mo_in mo_kind mo_type mo_long1 mo_letters mo_fields mo_kept mo_now mo_many mo_itemKind mo_itemField mo_itemPlace mo_by mo_stepKind mo_stepField mo_stepOperator mo_stepOther mo_stepMany mo_literalType mo_literalFrom mo_literalSize mo_bytes mo_said mo_number mo_pile mo_pilePlace mo_top mo_open) sz = A at C hw ⊢
  unfold f_X6_wordOf at hf
  refine lv_aload_n hx hb dX6_wordOf_0 rfl (lv_at hl 0 rfl) ?_
  refine lv_iload_n hx hb dX6_wordOf_1 rfl (lv_at hl 1 rfl) ?_
  obtain ⟨x1, z1, hf⟩ := ob1_el hf
  refine cI_V C hw (c_X6_wordAt l E a_mo mo_code mo_tape mo_text mo_taped mo_size mo_at mo_ill mo_in mo_kind mo_type mo_long1 mo_letters mo_fields mo_kept mo_now mo_many mo_itemKind mo_itemField mo_itemPlace mo_by mo_stepKind mo_stepField mo_stepOperator mo_stepOther mo_stepMany mo_literalType mo_literalFrom mo_literalSize mo_bytes mo_said mo_number mo_pile mo_pilePlace mo_top mo_open p1 x1 z1) cs_X6_118 ⟨Nat.le_of_ble_eq_true rfl, Nat.le_of_ble_eq_true rfl⟩ ⟨rfl, rfl⟩ (ci := 6) (cn := (RX6, TX6, 35)) rfl (q0 := 0) rfl (wn := w_mo E a_mo mo_code mo_tape mo_text mo_taped mo_size mo_at mo_ill mo_in mo_kind mo_type mo_long1 mo_letters mo_fields mo_kept mo_now mo_many mo_itemKind mo_itemField mo_itemPlace mo_by mo_stepKind mo_stepField mo_stepOperator mo_stepOther mo_stepMany mo_literalType mo_literalFrom mo_literalSize mo_bytes mo_said mo_number mo_pile mo_pilePlace mo_top mo_open) (Jn.all _ _) rfl hl.1 rfl (Nat.le_of_ble_eq_true rfl) dX6_wordOf_2 ⟨Nat.zero_le _, Nat.zero_le _⟩ (fun H locs hw => ?_)
  refine lv_istore_n (lv' := [(2, .int x1), (0, .ref (a_mo 0)), (1, .int p1)]) hx hb dX6_wordOf_5 rfl hl (by decide) rfl (fun ls hl => ?_)
  refine lv_lconst (v := 0) hx hb dX6_wordOf_6 (by decide) ?_
  refine lv_lstore_n (lv' := [(3, .long (0 : Int64)), (2, .int x1), (0, .ref (a_mo 0)), (1, .int p1)]) hx hb dX6_wordOf_7 rfl hl (by decide) rfl (fun ls hl => ?_)
  refine lv_iconst (v := 0) hx hb dX6_wordOf_8 (by decide) ?_
  refine lv_istore (lv' := [(5, .int (0 : Int32)), (3, .long (0 : Int64)), (2, .int x1), (0, .ref (a_mo 0)), (1, .int p1)]) hx hb dX6_wordOf_9 hl (by decide) rfl (fun ls hl => ?_)
  obtain ⟨x2, hx2, hf⟩ := ob1_el hf
  refine w_X6_wordOf_11 C FU hw (lv_sub hl [3, 4, 2, 1, 0] rfl) hx2 ?_
  clear hw hl
  intro H locs ls hw hl
  refine lv_iload_n hx hb dX6_wordOf_39 rfl (lv_at hl 0 rfl) ?_
  refine lv_bipush (v := 8) hx hb dX6_wordOf_40 (by decide) ?_
  refine lv_icmp_le (tgt := 49) hx hb dX6_wordOf_42 (by decide) (fun c42 => ?_) (fun c42 => ?_)
  · replace hf := it_t c42 hf
    refine lv_lload_n hx hb dX6_wordOf_49 rfl (lv_at hl 1 rfl) ?_
    cases hf
    exact rt_l C hw dX6_wordOf_50
  · replace hf := it_f c42 hf
    refine lv_lconst (v := 0) hx hb dX6_wordOf_45 (by decide) ?_
    refine lv_goto (tgt := 50) hx hb dX6_wordOf_46 (by decide) ?_
    cases hf
    exact rt_l C hw dX6_wordOf_50
def f_X6_sees (p1 : Int64) (mo_text : Nat → Int32) (mo_size : Int32) (mo_at : Int32) (mo_ill : Int32) : Option ((Int32) × (Int32)) :=
  ob1 (f_X6_blanks mo_text mo_size mo_at) (fun x1 =>
  if mo_ill = (-1 : Int32) then (ob1 (f_X6_wordOf x1 mo_text mo_size) (fun x2 =>
  if (lg_cmp x2 p1) = (0 : Int32) then (some ((1 : Int32), x1))
  else (some ((0 : Int32), x1))))
  else (some ((0 : Int32), x1)))
set_option maxHeartbeats 4000000 in
set_option maxRecDepth 100000 in
theorem c_X6_sees (l : Launch) (E : EnvT) (a_mo : Nat → Nat) (mo_code : Int32) (mo_tape : Nat → Int32) (mo_text : Nat → Int32) (mo_taped : Int32) (mo_size : Int32) (mo_at : Int32) (mo_ill : Int32) (mo_in : Nat → Int32) (mo_kind : Nat → Int32) (mo_type : Nat → Int32) (mo_long1 : Nat → Int32) (mo_letters : Nat → Int32) (mo_fields : Int32) (mo_kept : Int32) (mo_now : Int32) (mo_many : Nat → Int32) (mo_itemKind : Nat → Int32) (mo_itemField : Nat → Int32) (mo_itemPlace : Nat → Int32) (mo_by : Nat → Int32) (mo_stepKind : Nat → Int32) (mo_stepField : Nat → Int32) (mo_stepOperator : Nat → Int32) (mo_stepOther : Nat → Int32) (mo_stepMany : Nat → Int32) (mo_literalType : Nat → Int32) (mo_literalFrom : Nat → Int32) (mo_literalSize : Nat → Int32) (mo_bytes : Nat → Int32) (mo_said : Nat → Int32) (mo_number : Nat → Int64) (mo_pile : Nat → Int32) (mo_pilePlace : Nat → Int32) (mo_top : Int32) (mo_open : Int32) (p1 : Int64) (r : Int32) (o_mo_at : Int32) (hf : f_X6_sees p1 mo_text mo_size mo_at mo_ill = some (r, o_mo_at)) : CI l yX6_sees (Cond.code yX6_sees cX6_sees 3 (some .boolean)) { frames := 3, cells := 0, slots := 0, locals := 67 } E [.ref (a_mo 0), .long p1] (w_mo E a_mo mo_code mo_tape mo_text mo_taped mo_size mo_at mo_ill mo_in mo_kind mo_type mo_long1 mo_letters mo_fields mo_kept mo_now mo_many mo_itemKind mo_itemField mo_itemPlace mo_by mo_stepKind mo_stepField mo_stepOperator mo_stepOther mo_stepMany mo_literalType mo_literalFrom mo_literalSize mo_bytes mo_said mo_number mo_pile mo_pilePlace mo_top mo_open) r (w_mo E a_mo mo_code mo_tape mo_text mo_taped mo_size o_mo_at mo_ill mo_in mo_kind mo_type mo_long1 mo_letters mo_fields mo_kept mo_now mo_many mo_itemKind mo_itemField mo_itemPlace mo_by mo_stepKind mo_stepField mo_stepOperator mo_stepOther mo_stepMany mo_literalType mo_literalFrom mo_literalSize mo_bytes mo_said mo_number mo_pile mo_pilePlace mo_top mo_open) := by
  intro sz
  refine met_start [(0, .ref (a_mo 0)), (1, .long p1)] (by decide) rfl rfl (Nat.le_of_ble_eq_true rfl) rfl ?_
  intro p e s m below meth c ls C hnm hmt hw hl
  have hx := C.1
  have hb := C.2.1
  generalize va_A (w_mo E a_mo mo_code mo_tape mo_text mo_taped mo_size mo_at mo_ill mo_in mo_kind mo_type mo_long1 mo_letters mo_fields mo_kept mo_now mo_many mo_itemKind mo_itemField mo_itemPlace mo_by mo_stepKind mo_stepField mo_stepOperator mo_stepOther mo_stepMany mo_literalType mo_literalFrom mo_literalSize mo_bytes mo_said mo_number mo_pile mo_pilePlace mo_top mo_open) sz = A at C hw ⊢
  unfold f_X6_sees at hf
  refine lv_aload_n hx hb dX6_sees_0 rfl (lv_at hl 0 rfl) ?_
  obtain ⟨x1, z1, hf⟩ := ob1_el hf
  refine cV_V C hw (c_X6_blanks l E a_mo mo_code mo_tape mo_text mo_taped mo_size mo_at mo_ill mo_in mo_kind mo_type mo_long1 mo_letters mo_fields mo_kept mo_now mo_many mo_itemKind mo_itemField mo_itemPlace mo_by mo_stepKind mo_stepField mo_stepOperator mo_stepOther mo_stepMany mo_literalType mo_literalFrom mo_literalSize mo_bytes mo_said mo_number mo_pile mo_pilePlace mo_top mo_open x1 z1) cs_X6_130 ⟨Nat.le_of_ble_eq_true rfl, Nat.le_of_ble_eq_true rfl⟩ ⟨rfl, rfl⟩ (ci := 6) (cn := (RX6, TX6, 35)) rfl (q0 := 0) rfl (wn := w_mo E a_mo mo_code mo_tape mo_text mo_taped mo_size x1 mo_ill mo_in mo_kind mo_type mo_long1 mo_letters mo_fields mo_kept mo_now mo_many mo_itemKind mo_itemField mo_itemPlace mo_by mo_stepKind mo_stepField mo_stepOperator mo_stepOther mo_stepMany mo_literalType mo_literalFrom mo_literalSize mo_bytes mo_said mo_number mo_pile mo_pilePlace mo_top mo_open) (Jn.all _ _) rfl hl.1 rfl (Nat.le_of_ble_eq_true rfl) dX6_sees_1 ⟨Nat.zero_le _, Nat.zero_le _⟩ (fun H locs hw => ?_)
  refine lv_aload_n hx hb dX6_sees_4 rfl (lv_at hl 0 rfl) ?_
  refine fg_X6_102 C hw 0 rfl rfl dX6_sees_5 ?_
  refine lv_iconst (v := -1) hx hb dX6_sees_8 (by decide) ?_
  refine lv_icmp_ne (tgt := 29) hx hb dX6_sees_9 (by decide) (fun c9 => ?_) (fun c9 => ?_)
  · replace hf := it_f c9 hf
    refine lv_iconst (v := 0) hx hb dX6_sees_29 (by decide) ?_
    cases hf
    exact rt_z C hw (Or.inl rfl) dX6_sees_30
  · replace hf := it_t c9 hf
    refine lv_aload_n hx hb dX6_sees_12 rfl (lv_at hl 0 rfl) ?_
    refine lv_aload_n hx hb dX6_sees_13 rfl (lv_at hl 0 rfl) ?_
    refine fg_X6_99 C hw 0 rfl rfl dX6_sees_14 ?_
    obtain ⟨x2, z2, hf⟩ := ob1_el hf
    refine cL_V C hw (c_X6_wordOf l E a_mo mo_code mo_tape mo_text mo_taped mo_size x1 mo_ill mo_in mo_kind mo_type mo_long1 mo_letters mo_fields mo_kept mo_now mo_many mo_itemKind mo_itemField mo_itemPlace mo_by mo_stepKind mo_stepField mo_stepOperator mo_stepOther mo_stepMany mo_literalType mo_literalFrom mo_literalSize mo_bytes mo_said mo_number mo_pile mo_pilePlace mo_top mo_open x1 x2 z2) cs_X6_133 ⟨Nat.le_of_ble_eq_true rfl, Nat.le_of_ble_eq_true rfl⟩ ⟨rfl, rfl⟩ (ci := 6) (cn := (RX6, TX6, 35)) rfl (q0 := 0) rfl (wn := w_mo E a_mo mo_code mo_tape mo_text mo_taped mo_size x1 mo_ill mo_in mo_kind mo_type mo_long1 mo_letters mo_fields mo_kept mo_now mo_many mo_itemKind mo_itemField mo_itemPlace mo_by mo_stepKind mo_stepField mo_stepOperator mo_stepOther mo_stepMany mo_literalType mo_literalFrom mo_literalSize mo_bytes mo_said mo_number mo_pile mo_pilePlace mo_top mo_open) (Jn.all _ _) rfl hl.1 rfl (Nat.le_of_ble_eq_true rfl) dX6_sees_17 ⟨Nat.zero_le _, Nat.zero_le _⟩ (fun H locs hw => ?_)
    refine lv_lload_n hx hb dX6_sees_20 rfl (lv_at hl 1 rfl) ?_
    refine W.lcmp hx hb dX6_sees_21 ?_
    refine lv_if_ne (tgt := 29) hx hb dX6_sees_22 (by decide) (fun c22 => ?_) (fun c22 => ?_)
    · replace hf := it_f c22 hf
      refine lv_iconst (v := 0) hx hb dX6_sees_29 (by decide) ?_
      cases hf
      exact rt_z C hw (Or.inl rfl) dX6_sees_30
    · replace hf := it_t c22 hf
      refine lv_iconst (v := 1) hx hb dX6_sees_25 (by decide) ?_
      refine lv_goto (tgt := 30) hx hb dX6_sees_26 (by decide) ?_
      cases hf
      exact rt_z C hw (Or.inr rfl) dX6_sees_30
def f_X6_takesWord (p1 : Int64) (mo_text : Nat → Int32) (mo_size : Int32) (mo_at : Int32) (mo_ill : Int32) : Option ((Int32) × (Int32)) :=
  ob2 (f_X6_sees p1 mo_text mo_size mo_at mo_ill) (fun x1 x2 =>
  if x1 = (0 : Int32) then (some ((0 : Int32), x2))
  else (ob1 (f_X6_wordAt x2 mo_text mo_size) (fun x3 =>
  on (x2 + x3) (fun x4 =>
  some ((1 : Int32), x4)))))
set_option maxHeartbeats 4000000 in
set_option maxRecDepth 100000 in
theorem c_X6_takesWord (l : Launch) (E : EnvT) (a_mo : Nat → Nat) (mo_code : Int32) (mo_tape : Nat → Int32) (mo_text : Nat → Int32) (mo_taped : Int32) (mo_size : Int32) (mo_at : Int32) (mo_ill : Int32) (mo_in : Nat → Int32) (mo_kind : Nat → Int32) (mo_type : Nat → Int32) (mo_long1 : Nat → Int32) (mo_letters : Nat → Int32) (mo_fields : Int32) (mo_kept : Int32) (mo_now : Int32) (mo_many : Nat → Int32) (mo_itemKind : Nat → Int32) (mo_itemField : Nat → Int32) (mo_itemPlace : Nat → Int32) (mo_by : Nat → Int32) (mo_stepKind : Nat → Int32) (mo_stepField : Nat → Int32) (mo_stepOperator : Nat → Int32) (mo_stepOther : Nat → Int32) (mo_stepMany : Nat → Int32) (mo_literalType : Nat → Int32) (mo_literalFrom : Nat → Int32) (mo_literalSize : Nat → Int32) (mo_bytes : Nat → Int32) (mo_said : Nat → Int32) (mo_number : Nat → Int64) (mo_pile : Nat → Int32) (mo_pilePlace : Nat → Int32) (mo_top : Int32) (mo_open : Int32) (p1 : Int64) (r : Int32) (o_mo_at : Int32) (hf : f_X6_takesWord p1 mo_text mo_size mo_at mo_ill = some (r, o_mo_at)) : CI l yX6_takesWord (Cond.code yX6_takesWord cX6_takesWord 3 (some .boolean)) { frames := 4, cells := 0, slots := 0, locals := 89 } E [.ref (a_mo 0), .long p1] (w_mo E a_mo mo_code mo_tape mo_text mo_taped mo_size mo_at mo_ill mo_in mo_kind mo_type mo_long1 mo_letters mo_fields mo_kept mo_now mo_many mo_itemKind mo_itemField mo_itemPlace mo_by mo_stepKind mo_stepField mo_stepOperator mo_stepOther mo_stepMany mo_literalType mo_literalFrom mo_literalSize mo_bytes mo_said mo_number mo_pile mo_pilePlace mo_top mo_open) r (w_mo E a_mo mo_code mo_tape mo_text mo_taped mo_size o_mo_at mo_ill mo_in mo_kind mo_type mo_long1 mo_letters mo_fields mo_kept mo_now mo_many mo_itemKind mo_itemField mo_itemPlace mo_by mo_stepKind mo_stepField mo_stepOperator mo_stepOther mo_stepMany mo_literalType mo_literalFrom mo_literalSize mo_bytes mo_said mo_number mo_pile mo_pilePlace mo_top mo_open) := by
  intro sz
  refine met_start [(0, .ref (a_mo 0)), (1, .long p1)] (by decide) rfl rfl (Nat.le_of_ble_eq_true rfl) rfl ?_
  intro p e s m below meth c ls C hnm hmt hw hl
  have hx := C.1
  have hb := C.2.1
  generalize va_A (w_mo E a_mo mo_code mo_tape mo_text mo_taped mo_size mo_at mo_ill mo_in mo_kind mo_type mo_long1 mo_letters mo_fields mo_kept mo_now mo_many mo_itemKind mo_itemField mo_itemPlace mo_by mo_stepKind mo_stepField mo_stepOperator mo_stepOther mo_stepMany mo_literalType mo_literalFrom mo_literalSize mo_bytes mo_said mo_number mo_pile mo_pilePlace mo_top mo_open) sz = A at C hw ⊢
  unfold f_X6_takesWord at hf
  refine lv_aload_n hx hb dX6_takesWord_0 rfl (lv_at hl 0 rfl) ?_
  refine lv_lload_n hx hb dX6_takesWord_1 rfl (lv_at hl 1 rfl) ?_
  obtain ⟨x1, x2, z2, hf⟩ := ob2_el hf
  refine cI_V C hw (c_X6_sees l E a_mo mo_code mo_tape mo_text mo_taped mo_size mo_at mo_ill mo_in mo_kind mo_type mo_long1 mo_letters mo_fields mo_kept mo_now mo_many mo_itemKind mo_itemField mo_itemPlace mo_by mo_stepKind mo_stepField mo_stepOperator mo_stepOther mo_stepMany mo_literalType mo_literalFrom mo_literalSize mo_bytes mo_said mo_number mo_pile mo_pilePlace mo_top mo_open p1 x1 x2 z2) cs_X6_137 ⟨Nat.le_of_ble_eq_true rfl, Nat.le_of_ble_eq_true rfl⟩ ⟨rfl, rfl⟩ (ci := 6) (cn := (RX6, TX6, 35)) rfl (q0 := 0) rfl (wn := w_mo E a_mo mo_code mo_tape mo_text mo_taped mo_size x2 mo_ill mo_in mo_kind mo_type mo_long1 mo_letters mo_fields mo_kept mo_now mo_many mo_itemKind mo_itemField mo_itemPlace mo_by mo_stepKind mo_stepField mo_stepOperator mo_stepOther mo_stepMany mo_literalType mo_literalFrom mo_literalSize mo_bytes mo_said mo_number mo_pile mo_pilePlace mo_top mo_open) (Jn.all _ _) rfl hl.1 rfl (Nat.le_of_ble_eq_true rfl) dX6_takesWord_2 ⟨Nat.zero_le _, Nat.zero_le _⟩ (fun H locs hw => ?_)
  refine lv_if_ne (tgt := 10) hx hb dX6_takesWord_5 (by decide) (fun c5 => ?_) (fun c5 => ?_)
  · replace hf := it_f c5 hf
    refine lv_aload_n hx hb dX6_takesWord_10 rfl (lv_at hl 0 rfl) ?_
    refine lv_dup hx hb dX6_takesWord_11 rfl ?_
    refine fg_X6_99 C hw 0 rfl rfl dX6_takesWord_12 ?_
    refine lv_aload_n hx hb dX6_takesWord_15 rfl (lv_at hl 0 rfl) ?_
    refine lv_aload_n hx hb dX6_takesWord_16 rfl (lv_at hl 0 rfl) ?_
    refine fg_X6_99 C hw 0 rfl rfl dX6_takesWord_17 ?_
    obtain ⟨x3, z3, hf⟩ := ob1_el hf
    refine cI_V C hw (c_X6_wordAt l E a_mo mo_code mo_tape mo_text mo_taped mo_size x2 mo_ill mo_in mo_kind mo_type mo_long1 mo_letters mo_fields mo_kept mo_now mo_many mo_itemKind mo_itemField mo_itemPlace mo_by mo_stepKind mo_stepField mo_stepOperator mo_stepOther mo_stepMany mo_literalType mo_literalFrom mo_literalSize mo_bytes mo_said mo_number mo_pile mo_pilePlace mo_top mo_open x2 x3 z3) cs_X6_118 ⟨Nat.le_of_ble_eq_true rfl, Nat.le_of_ble_eq_true rfl⟩ ⟨rfl, rfl⟩ (ci := 6) (cn := (RX6, TX6, 35)) rfl (q0 := 0) rfl (wn := w_mo E a_mo mo_code mo_tape mo_text mo_taped mo_size x2 mo_ill mo_in mo_kind mo_type mo_long1 mo_letters mo_fields mo_kept mo_now mo_many mo_itemKind mo_itemField mo_itemPlace mo_by mo_stepKind mo_stepField mo_stepOperator mo_stepOther mo_stepMany mo_literalType mo_literalFrom mo_literalSize mo_bytes mo_said mo_number mo_pile mo_pilePlace mo_top mo_open) (Jn.all _ _) rfl hl.1 rfl (Nat.le_of_ble_eq_true rfl) dX6_takesWord_20 ⟨Nat.zero_le _, Nat.zero_le _⟩ (fun H locs hw => ?_)
    refine lv_iadd hx hb dX6_takesWord_23 ?_
    obtain ⟨x4, ex4, hf⟩ := on_el hf
    refine tp_i ex4 ?_
    refine fp_X6_99 C hw 0 rfl (Nat.le_of_ble_eq_true rfl) (ws' := w_mo E a_mo mo_code mo_tape mo_text mo_taped mo_size x4 mo_ill mo_in mo_kind mo_type mo_long1 mo_letters mo_fields mo_kept mo_now mo_many mo_itemKind mo_itemField mo_itemPlace mo_by mo_stepKind mo_stepField mo_stepOperator mo_stepOther mo_stepMany mo_literalType mo_literalFrom mo_literalSize mo_bytes mo_said mo_number mo_pile mo_pilePlace mo_top mo_open) rfl dX6_takesWord_24 (fun H locs hw => ?_)
    refine lv_iconst (v := 1) hx hb dX6_takesWord_27 (by decide) ?_
    cases hf
    exact rt_z C hw (Or.inr rfl) dX6_takesWord_28
  · replace hf := it_t c5 hf
    refine lv_iconst (v := 0) hx hb dX6_takesWord_8 (by decide) ?_
    cases hf
    exact rt_z C hw (Or.inl rfl) dX6_takesWord_9
def f_X6_takesSign (p1 : Int32) (mo_text : Nat → Int32) (mo_size : Int32) (mo_at : Int32) (mo_ill : Int32) : Option ((Int32) × (Int32)) :=
  ob1 (f_X6_blanks mo_text mo_size mo_at) (fun x1 =>
  if mo_ill = (-1 : Int32) then (ob1 (f_X6_look mo_text mo_size x1) (fun x2 =>
  if x2 = p1 then (on (x1 + (1 : Int32)) (fun x3 =>
  some ((1 : Int32), x3)))
  else (some ((0 : Int32), x1))))
  else (some ((0 : Int32), x1)))
set_option maxHeartbeats 4000000 in
set_option maxRecDepth 100000 in
theorem c_X6_takesSign (l : Launch) (E : EnvT) (a_mo : Nat → Nat) (mo_code : Int32) (mo_tape : Nat → Int32) (mo_text : Nat → Int32) (mo_taped : Int32) (mo_size : Int32) (mo_at : Int32) (mo_ill : Int32) (mo_in : Nat → Int32) (mo_kind : Nat → Int32) (mo_type : Nat → Int32) (mo_long1 : Nat → Int32) (mo_letters : Nat → Int32) (mo_fields : Int32) (mo_kept : Int32) (mo_now : Int32) (mo_many : Nat → Int32) (mo_itemKind : Nat → Int32) (mo_itemField : Nat → Int32) (mo_itemPlace : Nat → Int32) (mo_by : Nat → Int32) (mo_stepKind : Nat → Int32) (mo_stepField : Nat → Int32) (mo_stepOperator : Nat → Int32) (mo_stepOther : Nat → Int32) (mo_stepMany : Nat → Int32) (mo_literalType : Nat → Int32) (mo_literalFrom : Nat → Int32) (mo_literalSize : Nat → Int32) (mo_bytes : Nat → Int32) (mo_said : Nat → Int32) (mo_number : Nat → Int64) (mo_pile : Nat → Int32) (mo_pilePlace : Nat → Int32) (mo_top : Int32) (mo_open : Int32) (p1 : Int32) (r : Int32) (o_mo_at : Int32) (hf : f_X6_takesSign p1 mo_text mo_size mo_at mo_ill = some (r, o_mo_at)) : CI l yX6_takesSign (Cond.code yX6_takesSign cX6_takesSign 2 (some .boolean)) { frames := 2, cells := 0, slots := 0, locals := 40 } E [.ref (a_mo 0), .int p1] (w_mo E a_mo mo_code mo_tape mo_text mo_taped mo_size mo_at mo_ill mo_in mo_kind mo_type mo_long1 mo_letters mo_fields mo_kept mo_now mo_many mo_itemKind mo_itemField mo_itemPlace mo_by mo_stepKind mo_stepField mo_stepOperator mo_stepOther mo_stepMany mo_literalType mo_literalFrom mo_literalSize mo_bytes mo_said mo_number mo_pile mo_pilePlace mo_top mo_open) r (w_mo E a_mo mo_code mo_tape mo_text mo_taped mo_size o_mo_at mo_ill mo_in mo_kind mo_type mo_long1 mo_letters mo_fields mo_kept mo_now mo_many mo_itemKind mo_itemField mo_itemPlace mo_by mo_stepKind mo_stepField mo_stepOperator mo_stepOther mo_stepMany mo_literalType mo_literalFrom mo_literalSize mo_bytes mo_said mo_number mo_pile mo_pilePlace mo_top mo_open) := by
  intro sz
  refine met_start [(0, .ref (a_mo 0)), (1, .int p1)] (by decide) rfl rfl (Nat.le_of_ble_eq_true rfl) rfl ?_
  intro p e s m below meth c ls C hnm hmt hw hl
  have hx := C.1
  have hb := C.2.1
  generalize va_A (w_mo E a_mo mo_code mo_tape mo_text mo_taped mo_size mo_at mo_ill mo_in mo_kind mo_type mo_long1 mo_letters mo_fields mo_kept mo_now mo_many mo_itemKind mo_itemField mo_itemPlace mo_by mo_stepKind mo_stepField mo_stepOperator mo_stepOther mo_stepMany mo_literalType mo_literalFrom mo_literalSize mo_bytes mo_said mo_number mo_pile mo_pilePlace mo_top mo_open) sz = A at C hw ⊢
  unfold f_X6_takesSign at hf
  refine lv_aload_n hx hb dX6_takesSign_0 rfl (lv_at hl 0 rfl) ?_
  obtain ⟨x1, z1, hf⟩ := ob1_el hf
  refine cV_V C hw (c_X6_blanks l E a_mo mo_code mo_tape mo_text mo_taped mo_size mo_at mo_ill mo_in mo_kind mo_type mo_long1 mo_letters mo_fields mo_kept mo_now mo_many mo_itemKind mo_itemField mo_itemPlace mo_by mo_stepKind mo_stepField mo_stepOperator mo_stepOther mo_stepMany mo_literalType mo_literalFrom mo_literalSize mo_bytes mo_said mo_number mo_pile mo_pilePlace mo_top mo_open x1 z1) cs_X6_130 ⟨Nat.le_of_ble_eq_true rfl, Nat.le_of_ble_eq_true rfl⟩ ⟨rfl, rfl⟩ (ci := 6) (cn := (RX6, TX6, 35)) rfl (q0 := 0) rfl (wn := w_mo E a_mo mo_code mo_tape mo_text mo_taped mo_size x1 mo_ill mo_in mo_kind mo_type mo_long1 mo_letters mo_fields mo_kept mo_now mo_many mo_itemKind mo_itemField mo_itemPlace mo_by mo_stepKind mo_stepField mo_stepOperator mo_stepOther mo_stepMany mo_literalType mo_literalFrom mo_literalSize mo_bytes mo_said mo_number mo_pile mo_pilePlace mo_top mo_open) (Jn.all _ _) rfl hl.1 rfl (Nat.le_of_ble_eq_true rfl) dX6_takesSign_1 ⟨Nat.zero_le _, Nat.zero_le _⟩ (fun H locs hw => ?_)
  refine lv_aload_n hx hb dX6_takesSign_4 rfl (lv_at hl 0 rfl) ?_
  refine fg_X6_102 C hw 0 rfl rfl dX6_takesSign_5 ?_
  refine lv_iconst (v := -1) hx hb dX6_takesSign_8 (by decide) ?_
  refine lv_icmp_ne (tgt := 20) hx hb dX6_takesSign_9 (by decide) (fun c9 => ?_) (fun c9 => ?_)
  · replace hf := it_f c9 hf
    refine lv_iconst (v := 0) hx hb dX6_takesSign_20 (by decide) ?_
    cases hf
    exact rt_z C hw (Or.inl rfl) dX6_takesSign_21
  · replace hf := it_t c9 hf
    refine lv_aload_n hx hb dX6_takesSign_12 rfl (lv_at hl 0 rfl) ?_
    obtain ⟨x2, z2, hf⟩ := ob1_el hf
    refine cI_V C hw (c_X6_look l E a_mo mo_code mo_tape mo_text mo_taped mo_size x1 mo_ill mo_in mo_kind mo_type mo_long1 mo_letters mo_fields mo_kept mo_now mo_many mo_itemKind mo_itemField mo_itemPlace mo_by mo_stepKind mo_stepField mo_stepOperator mo_stepOther mo_stepMany mo_literalType mo_literalFrom mo_literalSize mo_bytes mo_said mo_number mo_pile mo_pilePlace mo_top mo_open x2 z2) cs_X6_126 ⟨Nat.le_of_ble_eq_true rfl, Nat.le_of_ble_eq_true rfl⟩ ⟨rfl, rfl⟩ (ci := 6) (cn := (RX6, TX6, 35)) rfl (q0 := 0) rfl (wn := w_mo E a_mo mo_code mo_tape mo_text mo_taped mo_size x1 mo_ill mo_in mo_kind mo_type mo_long1 mo_letters mo_fields mo_kept mo_now mo_many mo_itemKind mo_itemField mo_itemPlace mo_by mo_stepKind mo_stepField mo_stepOperator mo_stepOther mo_stepMany mo_literalType mo_literalFrom mo_literalSize mo_bytes mo_said mo_number mo_pile mo_pilePlace mo_top mo_open) (Jn.all _ _) rfl hl.1 rfl (Nat.le_of_ble_eq_true rfl) dX6_takesSign_13 ⟨Nat.zero_le _, Nat.zero_le _⟩ (fun H locs hw => ?_)
    refine lv_iload_n hx hb dX6_takesSign_16 rfl (lv_at hl 1 rfl) ?_
    refine lv_icmp_eq (tgt := 22) hx hb dX6_takesSign_17 (by decide) (fun c17 => ?_) (fun c17 => ?_)
    · replace hf := it_t c17 hf
      refine lv_aload_n hx hb dX6_takesSign_22 rfl (lv_at hl 0 rfl) ?_
      refine lv_dup hx hb dX6_takesSign_23 rfl ?_
      refine fg_X6_99 C hw 0 rfl rfl dX6_takesSign_24 ?_
      refine lv_iconst (v := 1) hx hb dX6_takesSign_27 (by decide) ?_
      refine lv_iadd hx hb dX6_takesSign_28 ?_
      obtain ⟨x3, ex3, hf⟩ := on_el hf
      refine tp_i ex3 ?_
      refine fp_X6_99 C hw 0 rfl (Nat.le_of_ble_eq_true rfl) (ws' := w_mo E a_mo mo_code mo_tape mo_text mo_taped mo_size x3 mo_ill mo_in mo_kind mo_type mo_long1 mo_letters mo_fields mo_kept mo_now mo_many mo_itemKind mo_itemField mo_itemPlace mo_by mo_stepKind mo_stepField mo_stepOperator mo_stepOther mo_stepMany mo_literalType mo_literalFrom mo_literalSize mo_bytes mo_said mo_number mo_pile mo_pilePlace mo_top mo_open) rfl dX6_takesSign_29 (fun H locs hw => ?_)
      refine lv_iconst (v := 1) hx hb dX6_takesSign_32 (by decide) ?_
      cases hf
      exact rt_z C hw (Or.inr rfl) dX6_takesSign_33
    · replace hf := it_f c17 hf
      refine lv_iconst (v := 0) hx hb dX6_takesSign_20 (by decide) ?_
      cases hf
      exact rt_z C hw (Or.inl rfl) dX6_takesSign_21
def f_X6_wantSign (p1 : Int32) (mo_text : Nat → Int32) (mo_size : Int32) (mo_at : Int32) (mo_ill : Int32) : Option ((Int32) × (Int32)) :=
  ob2 (f_X6_takesSign p1 mo_text mo_size mo_at mo_ill) (fun x1 x2 =>
  if x1 = (0 : Int32) then (ob1 (f_X6_fail x2 mo_ill) (fun x3 =>
  some (x2, x3)))
  else (some (x2, mo_ill)))
set_option maxHeartbeats 4000000 in
set_option maxRecDepth 100000 in
theorem c_X6_wantSign (l : Launch) (E : EnvT) (a_mo : Nat → Nat) (mo_code : Int32) (mo_tape : Nat → Int32) (mo_text : Nat → Int32) (mo_taped : Int32) (mo_size : Int32) (mo_at : Int32) (mo_ill : Int32) (mo_in : Nat → Int32) (mo_kind : Nat → Int32) (mo_type : Nat → Int32) (mo_long1 : Nat → Int32) (mo_letters : Nat → Int32) (mo_fields : Int32) (mo_kept : Int32) (mo_now : Int32) (mo_many : Nat → Int32) (mo_itemKind : Nat → Int32) (mo_itemField : Nat → Int32) (mo_itemPlace : Nat → Int32) (mo_by : Nat → Int32) (mo_stepKind : Nat → Int32) (mo_stepField : Nat → Int32) (mo_stepOperator : Nat → Int32) (mo_stepOther : Nat → Int32) (mo_stepMany : Nat → Int32) (mo_literalType : Nat → Int32) (mo_literalFrom : Nat → Int32) (mo_literalSize : Nat → Int32) (mo_bytes : Nat → Int32) (mo_said : Nat → Int32) (mo_number : Nat → Int64) (mo_pile : Nat → Int32) (mo_pilePlace : Nat → Int32) (mo_top : Int32) (mo_open : Int32) (p1 : Int32) (o_mo_at : Int32) (o_mo_ill : Int32) (hf : f_X6_wantSign p1 mo_text mo_size mo_at mo_ill = some (o_mo_at, o_mo_ill)) : CV l yX6_wantSign (Cond.code yX6_wantSign cX6_wantSign 2 none) { frames := 3, cells := 0, slots := 0, locals := 61 } E [.ref (a_mo 0), .int p1] (w_mo E a_mo mo_code mo_tape mo_text mo_taped mo_size mo_at mo_ill mo_in mo_kind mo_type mo_long1 mo_letters mo_fields mo_kept mo_now mo_many mo_itemKind mo_itemField mo_itemPlace mo_by mo_stepKind mo_stepField mo_stepOperator mo_stepOther mo_stepMany mo_literalType mo_literalFrom mo_literalSize mo_bytes mo_said mo_number mo_pile mo_pilePlace mo_top mo_open) (w_mo E a_mo mo_code mo_tape mo_text mo_taped mo_size o_mo_at o_mo_ill mo_in mo_kind mo_type mo_long1 mo_letters mo_fields mo_kept mo_now mo_many mo_itemKind mo_itemField mo_itemPlace mo_by mo_stepKind mo_stepField mo_stepOperator mo_stepOther mo_stepMany mo_literalType mo_literalFrom mo_literalSize mo_bytes mo_said mo_number mo_pile mo_pilePlace mo_top mo_open) := by
  intro sz
  refine met_start [(0, .ref (a_mo 0)), (1, .int p1)] (by decide) rfl rfl (Nat.le_of_ble_eq_true rfl) rfl ?_
  intro p e s m below meth c ls C hnm hmt hw hl
  have hx := C.1
  have hb := C.2.1
  generalize va_A (w_mo E a_mo mo_code mo_tape mo_text mo_taped mo_size mo_at mo_ill mo_in mo_kind mo_type mo_long1 mo_letters mo_fields mo_kept mo_now mo_many mo_itemKind mo_itemField mo_itemPlace mo_by mo_stepKind mo_stepField mo_stepOperator mo_stepOther mo_stepMany mo_literalType mo_literalFrom mo_literalSize mo_bytes mo_said mo_number mo_pile mo_pilePlace mo_top mo_open) sz = A at C hw ⊢
  unfold f_X6_wantSign at hf
  refine lv_aload_n hx hb dX6_wantSign_0 rfl (lv_at hl 0 rfl) ?_
  refine lv_iload_n hx hb dX6_wantSign_1 rfl (lv_at hl 1 rfl) ?_
  obtain ⟨x1, x2, z2, hf⟩ := ob2_el hf
  refine cI_V C hw (c_X6_takesSign l E a_mo mo_code mo_tape mo_text mo_taped mo_size mo_at mo_ill mo_in mo_kind mo_type mo_long1 mo_letters mo_fields mo_kept mo_now mo_many mo_itemKind mo_itemField mo_itemPlace mo_by mo_stepKind mo_stepField mo_stepOperator mo_stepOther mo_stepMany mo_literalType mo_literalFrom mo_literalSize mo_bytes mo_said mo_number mo_pile mo_pilePlace mo_top mo_open p1 x1 x2 z2) cs_X6_141 ⟨Nat.le_of_ble_eq_true rfl, Nat.le_of_ble_eq_true rfl⟩ ⟨rfl, rfl⟩ (ci := 6) (cn := (RX6, TX6, 35)) rfl (q0 := 0) rfl (wn := w_mo E a_mo mo_code mo_tape mo_text mo_taped mo_size x2 mo_ill mo_in mo_kind mo_type mo_long1 mo_letters mo_fields mo_kept mo_now mo_many mo_itemKind mo_itemField mo_itemPlace mo_by mo_stepKind mo_stepField mo_stepOperator mo_stepOther mo_stepMany mo_literalType mo_literalFrom mo_literalSize mo_bytes mo_said mo_number mo_pile mo_pilePlace mo_top mo_open) (Jn.all _ _) rfl hl.1 rfl (Nat.le_of_ble_eq_true rfl) dX6_wantSign_2 ⟨Nat.zero_le _, Nat.zero_le _⟩ (fun H locs hw => ?_)
  refine lv_if_ne (tgt := 16) hx hb dX6_wantSign_5 (by decide) (fun c5 => ?_) (fun c5 => ?_)
  · replace hf := it_f c5 hf
    cases hf
    exact rt_v C hw dX6_wantSign_16
  · replace hf := it_t c5 hf
    refine lv_aload_n hx hb dX6_wantSign_8 rfl (lv_at hl 0 rfl) ?_
    refine lv_aload_n hx hb dX6_wantSign_9 rfl (lv_at hl 0 rfl) ?_
    refine fg_X6_99 C hw 0 rfl rfl dX6_wantSign_10 ?_
    obtain ⟨x3, z3, hf⟩ := ob1_el hf
    refine cV_V C hw (c_X6_fail l E a_mo mo_code mo_tape mo_text mo_taped mo_size x2 mo_ill mo_in mo_kind mo_type mo_long1 mo_letters mo_fields mo_kept mo_now mo_many mo_itemKind mo_itemField mo_itemPlace mo_by mo_stepKind mo_stepField mo_stepOperator mo_stepOther mo_stepMany mo_literalType mo_literalFrom mo_literalSize mo_bytes mo_said mo_number mo_pile mo_pilePlace mo_top mo_open x2 x3 z3) cs_X6_144 ⟨Nat.le_of_ble_eq_true rfl, Nat.le_of_ble_eq_true rfl⟩ ⟨rfl, rfl⟩ (ci := 6) (cn := (RX6, TX6, 35)) rfl (q0 := 0) rfl (wn := w_mo E a_mo mo_code mo_tape mo_text mo_taped mo_size x2 x3 mo_in mo_kind mo_type mo_long1 mo_letters mo_fields mo_kept mo_now mo_many mo_itemKind mo_itemField mo_itemPlace mo_by mo_stepKind mo_stepField mo_stepOperator mo_stepOther mo_stepMany mo_literalType mo_literalFrom mo_literalSize mo_bytes mo_said mo_number mo_pile mo_pilePlace mo_top mo_open) (Jn.all _ _) rfl hl.1 rfl (Nat.le_of_ble_eq_true rfl) dX6_wantSign_13 ⟨Nat.zero_le _, Nat.zero_le _⟩ (fun H locs hw => ?_)
    cases hf
    exact rt_v C hw dX6_wantSign_16
def f_X6_isKept (p0 : Int64) : Option ((Int32)) :=
  if (lg_cmp p0 (126879447475060 : Int64)) = (0 : Int32) then (some (1 : Int32))
  else (if (lg_cmp p0 (512852587109 : Int64)) = (0 : Int32) then (some (1 : Int32))
  else (if (lg_cmp p0 (444301538672 : Int64)) = (0 : Int32) then (some (1 : Int32))
  else (if (lg_cmp p0 (25209 : Int64)) = (0 : Int32) then (some (1 : Int32))
  else (if (lg_cmp p0 (6385252 : Int64)) = (0 : Int32) then (some (1 : Int32))
  else (if (lg_cmp p0 (28530 : Int64)) = (0 : Int32) then (some (1 : Int32))
  else (if (lg_cmp p0 (7237492 : Int64)) = (0 : Int32) then (some (1 : Int32))
  else (if (lg_cmp p0 (26995 : Int64)) = (0 : Int32) then (some (1 : Int32))
  else (if (lg_cmp p0 (1853189228 : Int64)) = (0 : Int32) then (some (1 : Int32))
  else (if (lg_cmp p0 (26990 : Int64)) = (0 : Int32) then (some (1 : Int32))
  else (if (lg_cmp p0 (1953658213 : Int64)) = (0 : Int32) then (some (1 : Int32))
  else (if (lg_cmp p0 (439721161573 : Int64)) = (0 : Int32) then (some (1 : Int32))
  else (if (lg_cmp p0 (427071729268 : Int64)) = (0 : Int32) then (some (1 : Int32))
  else (if (lg_cmp p0 (7566701 : Int64)) = (0 : Int32) then (some (1 : Int32))
  else (if (lg_cmp p0 (7170414 : Int64)) = (0 : Int32) then (some (1 : Int32))
  else (if (lg_cmp p0 (7168376 : Int64)) = (0 : Int32) then (some (1 : Int32))
  else (some (0 : Int32)))))))))))))))))
set_option maxHeartbeats 4000000 in
set_option maxRecDepth 100000 in
theorem c_X6_isKept (l : Launch) (E : EnvT) (p0 : Int64) (r : Int32) (hf : f_X6_isKept p0 = some r) : CI l yX6_isKept (Cond.code yX6_isKept cX6_isKept 2 (some .boolean)) { frames := 0, cells := 0, slots := 0, locals := 0 } E [.long p0] ([]) r ([]) := by
  intro sz
  refine met_start [(0, .long p0)] (by decide) rfl rfl (Nat.le_of_ble_eq_true rfl) rfl ?_
  intro p e s m below meth c ls C hnm hmt hw hl
  have hx := C.1
  have hb := C.2.1
  generalize va_A ([]) sz = A at C hw ⊢
  unfold f_X6_isKept at hf
  refine lv_lload_n hx hb dX6_isKept_0 rfl (lv_at hl 0 rfl) ?_
  refine rc2 C mw_744 dX6_isKept_1 ?_
  refine W.lcmp hx hb dX6_isKept_4 ?_
  refine lv_if_eq (tgt := 128) hx hb dX6_isKept_5 (by decide) (fun c5 => ?_) (fun c5 => ?_)
  · replace hf := it_t c5 hf
    refine lv_iconst (v := 1) hx hb dX6_isKept_128 (by decide) ?_
    refine lv_goto (tgt := 133) hx hb dX6_isKept_129 (by decide) ?_
    cases hf
    exact rt_z C hw (Or.inr rfl) dX6_isKept_133
  · replace hf := it_f c5 hf
    refine lv_lload_n hx hb dX6_isKept_8 rfl (lv_at hl 0 rfl) ?_
    refine rc2 C mw_784 dX6_isKept_9 ?_
    refine W.lcmp hx hb dX6_isKept_12 ?_
    refine lv_if_eq (tgt := 128) hx hb dX6_isKept_13 (by decide) (fun c13 => ?_) (fun c13 => ?_)
    · replace hf := it_t c13 hf
      refine lv_iconst (v := 1) hx hb dX6_isKept_128 (by decide) ?_
      refine lv_goto (tgt := 133) hx hb dX6_isKept_129 (by decide) ?_
      cases hf
      exact rt_z C hw (Or.inr rfl) dX6_isKept_133
    · replace hf := it_f c13 hf
      refine lv_lload_n hx hb dX6_isKept_16 rfl (lv_at hl 0 rfl) ?_
      refine rc2 C mw_785 dX6_isKept_17 ?_
      refine W.lcmp hx hb dX6_isKept_20 ?_
      refine lv_if_eq (tgt := 128) hx hb dX6_isKept_21 (by decide) (fun c21 => ?_) (fun c21 => ?_)
      · replace hf := it_t c21 hf
        refine lv_iconst (v := 1) hx hb dX6_isKept_128 (by decide) ?_
        refine lv_goto (tgt := 133) hx hb dX6_isKept_129 (by decide) ?_
        cases hf
        exact rt_z C hw (Or.inr rfl) dX6_isKept_133
      · replace hf := it_f c21 hf
        refine lv_lload_n hx hb dX6_isKept_24 rfl (lv_at hl 0 rfl) ?_
        refine rc2 C mw_786 dX6_isKept_25 ?_
        refine W.lcmp hx hb dX6_isKept_28 ?_
        refine lv_if_eq (tgt := 128) hx hb dX6_isKept_29 (by decide) (fun c29 => ?_) (fun c29 => ?_)
        · replace hf := it_t c29 hf
          refine lv_iconst (v := 1) hx hb dX6_isKept_128 (by decide) ?_
          refine lv_goto (tgt := 133) hx hb dX6_isKept_129 (by decide) ?_
          cases hf
          exact rt_z C hw (Or.inr rfl) dX6_isKept_133
        · replace hf := it_f c29 hf
          refine lv_lload_n hx hb dX6_isKept_32 rfl (lv_at hl 0 rfl) ?_
          refine rc2 C mw_787 dX6_isKept_33 ?_
          refine W.lcmp hx hb dX6_isKept_36 ?_
          refine lv_if_eq (tgt := 128) hx hb dX6_isKept_37 (by decide) (fun c37 => ?_) (fun c37 => ?_)
          · replace hf := it_t c37 hf
            refine lv_iconst (v := 1) hx hb dX6_isKept_128 (by decide) ?_
            refine lv_goto (tgt := 133) hx hb dX6_isKept_129 (by decide) ?_
            cases hf
            exact rt_z C hw (Or.inr rfl) dX6_isKept_133
          · replace hf := it_f c37 hf
            refine lv_lload_n hx hb dX6_isKept_40 rfl (lv_at hl 0 rfl) ?_
            refine rc2 C mw_788 dX6_isKept_41 ?_
            refine W.lcmp hx hb dX6_isKept_44 ?_
            refine lv_if_eq (tgt := 128) hx hb dX6_isKept_45 (by decide) (fun c45 => ?_) (fun c45 => ?_)
            · replace hf := it_t c45 hf
              refine lv_iconst (v := 1) hx hb dX6_isKept_128 (by decide) ?_
              refine lv_goto (tgt := 133) hx hb dX6_isKept_129 (by decide) ?_
              cases hf
              exact rt_z C hw (Or.inr rfl) dX6_isKept_133
            · replace hf := it_f c45 hf
              refine lv_lload_n hx hb dX6_isKept_48 rfl (lv_at hl 0 rfl) ?_
              refine rc2 C mw_789 dX6_isKept_49 ?_
              refine W.lcmp hx hb dX6_isKept_52 ?_
              refine lv_if_eq (tgt := 128) hx hb dX6_isKept_53 (by decide) (fun c53 => ?_) (fun c53 => ?_)
              · replace hf := it_t c53 hf
                refine lv_iconst (v := 1) hx hb dX6_isKept_128 (by decide) ?_
                refine lv_goto (tgt := 133) hx hb dX6_isKept_129 (by decide) ?_
                cases hf
                exact rt_z C hw (Or.inr rfl) dX6_isKept_133
              · replace hf := it_f c53 hf
                refine lv_lload_n hx hb dX6_isKept_56 rfl (lv_at hl 0 rfl) ?_
                refine rc2 C mw_790 dX6_isKept_57 ?_
                refine W.lcmp hx hb dX6_isKept_60 ?_
                refine lv_if_eq (tgt := 128) hx hb dX6_isKept_61 (by decide) (fun c61 => ?_) (fun c61 => ?_)
                · replace hf := it_t c61 hf
                  refine lv_iconst (v := 1) hx hb dX6_isKept_128 (by decide) ?_
                  refine lv_goto (tgt := 133) hx hb dX6_isKept_129 (by decide) ?_
                  cases hf
                  exact rt_z C hw (Or.inr rfl) dX6_isKept_133
                · replace hf := it_f c61 hf
                  refine lv_lload_n hx hb dX6_isKept_64 rfl (lv_at hl 0 rfl) ?_
                  refine rc2 C mw_791 dX6_isKept_65 ?_
                  refine W.lcmp hx hb dX6_isKept_68 ?_
                  refine lv_if_eq (tgt := 128) hx hb dX6_isKept_69 (by decide) (fun c69 => ?_) (fun c69 => ?_)
                  · replace hf := it_t c69 hf
                    refine lv_iconst (v := 1) hx hb dX6_isKept_128 (by decide) ?_
                    refine lv_goto (tgt := 133) hx hb dX6_isKept_129 (by decide) ?_
                    cases hf
                    exact rt_z C hw (Or.inr rfl) dX6_isKept_133
                  · replace hf := it_f c69 hf
                    refine lv_lload_n hx hb dX6_isKept_72 rfl (lv_at hl 0 rfl) ?_
                    refine rc2 C mw_792 dX6_isKept_73 ?_
                    refine W.lcmp hx hb dX6_isKept_76 ?_
                    refine lv_if_eq (tgt := 128) hx hb dX6_isKept_77 (by decide) (fun c77 => ?_) (fun c77 => ?_)
                    · replace hf := it_t c77 hf
                      refine lv_iconst (v := 1) hx hb dX6_isKept_128 (by decide) ?_
                      refine lv_goto (tgt := 133) hx hb dX6_isKept_129 (by decide) ?_
                      cases hf
                      exact rt_z C hw (Or.inr rfl) dX6_isKept_133
                    · replace hf := it_f c77 hf
                      refine lv_lload_n hx hb dX6_isKept_80 rfl (lv_at hl 0 rfl) ?_
                      refine rc2 C mw_793 dX6_isKept_81 ?_
                      refine W.lcmp hx hb dX6_isKept_84 ?_
                      refine lv_if_eq (tgt := 128) hx hb dX6_isKept_85 (by decide) (fun c85 => ?_) (fun c85 => ?_)
                      · replace hf := it_t c85 hf
                        refine lv_iconst (v := 1) hx hb dX6_isKept_128 (by decide) ?_
                        refine lv_goto (tgt := 133) hx hb dX6_isKept_129 (by decide) ?_
                        cases hf
                        exact rt_z C hw (Or.inr rfl) dX6_isKept_133
                      · replace hf := it_f c85 hf
                        refine lv_lload_n hx hb dX6_isKept_88 rfl (lv_at hl 0 rfl) ?_
                        refine rc2 C mw_794 dX6_isKept_89 ?_
                        refine W.lcmp hx hb dX6_isKept_92 ?_
                        refine lv_if_eq (tgt := 128) hx hb dX6_isKept_93 (by decide) (fun c93 => ?_) (fun c93 => ?_)
                        · replace hf := it_t c93 hf
                          refine lv_iconst (v := 1) hx hb dX6_isKept_128 (by decide) ?_
                          refine lv_goto (tgt := 133) hx hb dX6_isKept_129 (by decide) ?_
                          cases hf
                          exact rt_z C hw (Or.inr rfl) dX6_isKept_133
                        · replace hf := it_f c93 hf
                          refine lv_lload_n hx hb dX6_isKept_96 rfl (lv_at hl 0 rfl) ?_
                          refine rc2 C mw_773 dX6_isKept_97 ?_
                          refine W.lcmp hx hb dX6_isKept_100 ?_
                          refine lv_if_eq (tgt := 128) hx hb dX6_isKept_101 (by decide) (fun c101 => ?_) (fun c101 => ?_)
                          · replace hf := it_t c101 hf
                            refine lv_iconst (v := 1) hx hb dX6_isKept_128 (by decide) ?_
                            refine lv_goto (tgt := 133) hx hb dX6_isKept_129 (by decide) ?_
                            cases hf
                            exact rt_z C hw (Or.inr rfl) dX6_isKept_133
                          · replace hf := it_f c101 hf
                            refine lv_lload_n hx hb dX6_isKept_104 rfl (lv_at hl 0 rfl) ?_
                            refine rc2 C mw_774 dX6_isKept_105 ?_
                            refine W.lcmp hx hb dX6_isKept_108 ?_
                            refine lv_if_eq (tgt := 128) hx hb dX6_isKept_109 (by decide) (fun c109 => ?_) (fun c109 => ?_)
                            · replace hf := it_t c109 hf
                              refine lv_iconst (v := 1) hx hb dX6_isKept_128 (by decide) ?_
                              refine lv_goto (tgt := 133) hx hb dX6_isKept_129 (by decide) ?_
                              cases hf
                              exact rt_z C hw (Or.inr rfl) dX6_isKept_133
                            · replace hf := it_f c109 hf
                              refine lv_lload_n hx hb dX6_isKept_112 rfl (lv_at hl 0 rfl) ?_
                              refine rc2 C mw_775 dX6_isKept_113 ?_
                              refine W.lcmp hx hb dX6_isKept_116 ?_
                              refine lv_if_eq (tgt := 128) hx hb dX6_isKept_117 (by decide) (fun c117 => ?_) (fun c117 => ?_)
                              · replace hf := it_t c117 hf
                                refine lv_iconst (v := 1) hx hb dX6_isKept_128 (by decide) ?_
                                refine lv_goto (tgt := 133) hx hb dX6_isKept_129 (by decide) ?_
                                cases hf
                                exact rt_z C hw (Or.inr rfl) dX6_isKept_133
                              · replace hf := it_f c117 hf
                                refine lv_lload_n hx hb dX6_isKept_120 rfl (lv_at hl 0 rfl) ?_
                                refine rc2 C mw_776 dX6_isKept_121 ?_
                                refine W.lcmp hx hb dX6_isKept_124 ?_
                                refine lv_if_ne (tgt := 132) hx hb dX6_isKept_125 (by decide) (fun c125 => ?_) (fun c125 => ?_)
                                · replace hf := it_f c125 hf
                                  refine lv_iconst (v := 0) hx hb dX6_isKept_132 (by decide) ?_
                                  cases hf
                                  exact rt_z C hw (Or.inl rfl) dX6_isKept_133
                                · replace hf := it_t c125 hf
                                  refine lv_iconst (v := 1) hx hb dX6_isKept_128 (by decide) ?_
                                  refine lv_goto (tgt := 133) hx hb dX6_isKept_129 (by decide) ?_
                                  cases hf
                                  exact rt_z C hw (Or.inr rfl) dX6_isKept_133
def f_X6_path_8 : Nat → (Int32) → (Int32) → (Nat → Int32) → (Int32) → (Int32) → (Int32) → (Nat → Int32) → (Nat → Int32) → (Nat → Int32) → (Int32) → Option ((Int32) × (Int32) × (Int32))
  | 0, _, _, _, _, _, _, _, _, _, _ => none
  | n + 1, l1, l2, mo_text, mo_size, mo_at, mo_ill, mo_in, mo_long1, mo_letters, mo_fields =>
  if mo_ill = (-1 : Int32) then (ob1 (f_X6_wordAt mo_at mo_text mo_size) (fun x1 =>
  if x1 = (0 : Int32) then (ob1 (f_X6_fail mo_at mo_ill) (fun x2 =>
  some ((-1 : Int32), mo_at, x2)))
  else (ob1 (f_X6_wordOf mo_at mo_text mo_size) (fun x3 =>
  ob1 (f_X6_isKept x3) (fun x4 =>
  if x4 = (0 : Int32) then (if l2 = (0 : Int32) then (ob1 (f_X6_find l1 mo_at x1 mo_text mo_in mo_long1 mo_letters mo_fields) (fun x5 =>
  if l2 = (0 : Int32) then (if x5 = (-1 : Int32) then (on (mo_at + x1) (fun x12 =>
  ob1 (f_X6_look mo_text mo_size x12) (fun x13 =>
  if x13 = (46 : Int32) then (on (x12 + (1 : Int32)) (fun x14 =>
  f_X6_path_8 n x5 (1 : Int32) mo_text mo_size x14 mo_ill mo_in mo_long1 mo_letters mo_fields))
  else (some (x5, x12, mo_ill)))))
  else (on (mo_at + x1) (fun x9 =>
  ob1 (f_X6_look mo_text mo_size x9) (fun x10 =>
  if x10 = (46 : Int32) then (on (x9 + (1 : Int32)) (fun x11 =>
  f_X6_path_8 n x5 (0 : Int32) mo_text mo_size x11 mo_ill mo_in mo_long1 mo_letters mo_fields))
  else (some (x5, x9, mo_ill))))))
  else (on (mo_at + x1) (fun x6 =>
  ob1 (f_X6_look mo_text mo_size x6) (fun x7 =>
  if x7 = (46 : Int32) then (on (x6 + (1 : Int32)) (fun x8 =>
  f_X6_path_8 n x5 (1 : Int32) mo_text mo_size x8 mo_ill mo_in mo_long1 mo_letters mo_fields))
  else (some (x5, x6, mo_ill)))))))
  else (if l2 = (0 : Int32) then (if (-1 : Int32) = (-1 : Int32) then (on (mo_at + x1) (fun x21 =>
  ob1 (f_X6_look mo_text mo_size x21) (fun x22 =>
  if x22 = (46 : Int32) then (on (x21 + (1 : Int32)) (fun x23 =>
  f_X6_path_8 n (-1 : Int32) (1 : Int32) mo_text mo_size x23 mo_ill mo_in mo_long1 mo_letters mo_fields))
  else (some ((-1 : Int32), x21, mo_ill)))))
  else (on (mo_at + x1) (fun x18 =>
  ob1 (f_X6_look mo_text mo_size x18) (fun x19 =>
  if x19 = (46 : Int32) then (on (x18 + (1 : Int32)) (fun x20 =>
  f_X6_path_8 n (-1 : Int32) (0 : Int32) mo_text mo_size x20 mo_ill mo_in mo_long1 mo_letters mo_fields))
  else (some ((-1 : Int32), x18, mo_ill))))))
  else (on (mo_at + x1) (fun x15 =>
  ob1 (f_X6_look mo_text mo_size x15) (fun x16 =>
  if x16 = (46 : Int32) then (on (x15 + (1 : Int32)) (fun x17 =>
  f_X6_path_8 n (-1 : Int32) (1 : Int32) mo_text mo_size x17 mo_ill mo_in mo_long1 mo_letters mo_fields))
  else (some ((-1 : Int32), x15, mo_ill)))))))
  else (ob1 (f_X6_fail mo_at mo_ill) (fun x24 =>
  some ((-1 : Int32), mo_at, x24))))))))
  else (some ((-1 : Int32), mo_at, mo_ill))
set_option maxHeartbeats 4000000 in
set_option maxRecDepth 100000 in
theorem w_X6_path_8 {p : Program} {l : Launch} {e : Env} {s : State} {m : MethodId} {args : Array Value} {below : List Frame} {meth : Method} {c : Code} {E : EnvT} {A : Nat → Prop} {a_mo : Nat → Nat} {mo_code : Int32} {mo_tape : Nat → Int32} {mo_taped : Int32} {mo_kind : Nat → Int32} {mo_type : Nat → Int32} {mo_kept : Int32} {mo_now : Int32} {mo_many : Nat → Int32} {mo_itemKind : Nat → Int32} {mo_itemField : Nat → Int32} {mo_itemPlace : Nat → Int32} {mo_by : Nat → Int32} {mo_stepKind : Nat → Int32} {mo_stepField : Nat → Int32} {mo_stepOperator : Nat → Int32} {mo_stepOther : Nat → Int32} {mo_stepMany : Nat → Int32} {mo_literalType : Nat → Int32} {mo_literalFrom : Nat → Int32} {mo_literalSize : Nat → Int32} {mo_bytes : Nat → Int32} {mo_said : Nat → Int32} {mo_number : Nat → Int64} {mo_pile : Nat → Int32} {mo_pilePlace : Nat → Int32} {mo_top : Int32} {mo_open : Int32} {r : Int32} {o_mo_at : Int32} {o_mo_ill : Int32} (C : MC p s m args meth c E A cX6_path 4 RX6 (some .int)) : ∀ (n : Nat) {l1 : Int32} {l2 : Int32} {mo_text : Nat → Int32} {mo_size : Int32} {mo_at : Int32} {mo_ill : Int32} {mo_in : Nat → Int32} {mo_long1 : Nat → Int32} {mo_letters : Nat → Int32} {mo_fields : Int32} {H : Heap} {locs : List Loc} {ls : Array Slot}, WS E A s (w_mo E a_mo mo_code mo_tape mo_text mo_taped mo_size mo_at mo_ill mo_in mo_kind mo_type mo_long1 mo_letters mo_fields mo_kept mo_now mo_many mo_itemKind mo_itemField mo_itemPlace mo_by mo_stepKind mo_stepField mo_stepOperator mo_stepOther mo_stepMany mo_literalType mo_literalFrom mo_literalSize mo_bytes mo_said mo_number mo_pile mo_pilePlace mo_top mo_open) H locs → lv_has ls 4 [(0, .ref (a_mo 0)), (1, .int l1), (2, .int l2)] → f_X6_path_8 n l1 l2 mo_text mo_size mo_at mo_ill mo_in mo_long1 mo_letters mo_fields = some (r, o_mo_at, o_mo_ill) → W p l e { frames := 3, cells := 0, slots := 0, locals := 67 } s m args below meth c H locs 0 0 (MQ below (QcI E A (w_mo E a_mo mo_code mo_tape mo_text mo_taped mo_size o_mo_at o_mo_ill mo_in mo_kind mo_type mo_long1 mo_letters mo_fields mo_kept mo_now mo_many mo_itemKind mo_itemField mo_itemPlace mo_by mo_stepKind mo_stepField mo_stepOperator mo_stepOther mo_stepMany mo_literalType mo_literalFrom mo_literalSize mo_bytes mo_said mo_number mo_pile mo_pilePlace mo_top mo_open) r) args s 0 0 A) (F0 m 8 ls []) := by
  have hx := C.1
  have hb := C.2.1
  intro n
  induction n with
  | zero =>
    intro l1 l2 mo_text mo_size mo_at mo_ill mo_in mo_long1 mo_letters mo_fields H locs ls hw hl hf
    unfold f_X6_path_8 at hf
    cases hf
  | succ n ih =>
    intro l1 l2 mo_text mo_size mo_at mo_ill mo_in mo_long1 mo_letters mo_fields H locs ls hw hl hf
    unfold f_X6_path_8 at hf
    refine lv_aload_n hx hb dX6_path_8 rfl (lv_at hl 0 rfl) ?_
    refine fg_X6_102 C hw 0 rfl rfl dX6_path_9 ?_
    refine lv_iconst (v := -1) hx hb dX6_path_12 (by decide) ?_
    refine lv_icmp_ne (tgt := 121) hx hb dX6_path_13 (by decide) (fun c13 => ?_) (fun c13 => ?_)
    · replace hf := it_f c13 hf
      refine lv_iconst (v := -1) hx hb dX6_path_121 (by decide) ?_
      cases hf
      exact rt_i C hw dX6_path_122
    · replace hf := it_t c13 hf
      refine lv_aload_n hx hb dX6_path_16 rfl (lv_at hl 0 rfl) ?_
      refine lv_aload_n hx hb dX6_path_17 rfl (lv_at hl 0 rfl) ?_
      refine fg_X6_99 C hw 0 rfl rfl dX6_path_18 ?_
      obtain ⟨x1, z1, hf⟩ := ob1_el hf
      refine cI_V C hw (c_X6_wordAt l E a_mo mo_code mo_tape mo_text mo_taped mo_size mo_at mo_ill mo_in mo_kind mo_type mo_long1 mo_letters mo_fields mo_kept mo_now mo_many mo_itemKind mo_itemField mo_itemPlace mo_by mo_stepKind mo_stepField mo_stepOperator mo_stepOther mo_stepMany mo_literalType mo_literalFrom mo_literalSize mo_bytes mo_said mo_number mo_pile mo_pilePlace mo_top mo_open mo_at x1 z1) cs_X6_118 ⟨Nat.le_of_ble_eq_true rfl, Nat.le_of_ble_eq_true rfl⟩ ⟨rfl, rfl⟩ (ci := 6) (cn := (RX6, TX6, 35)) rfl (q0 := 0) rfl (wn := w_mo E a_mo mo_code mo_tape mo_text mo_taped mo_size mo_at mo_ill mo_in mo_kind mo_type mo_long1 mo_letters mo_fields mo_kept mo_now mo_many mo_itemKind mo_itemField mo_itemPlace mo_by mo_stepKind mo_stepField mo_stepOperator mo_stepOther mo_stepMany mo_literalType mo_literalFrom mo_literalSize mo_bytes mo_said mo_number mo_pile mo_pilePlace mo_top mo_open) (Jn.all _ _) rfl hl.1 rfl (Nat.le_of_ble_eq_true rfl) dX6_path_21 ⟨Nat.zero_le _, Nat.zero_le _⟩ (fun H locs hw => ?_)
      refine lv_istore_n (lv' := [(3, .int x1), (0, .ref (a_mo 0)), (1, .int l1), (2, .int l2)]) hx hb dX6_path_24 rfl hl (by decide) rfl (fun ls hl => ?_)
      refine lv_iload_n hx hb dX6_path_25 rfl (lv_at hl 0 rfl) ?_
      refine lv_if_eq (tgt := 43) hx hb dX6_path_26 (by decide) (fun c26 => ?_) (fun c26 => ?_)
      · replace hf := it_t c26 hf
        refine lv_aload_n hx hb dX6_path_43 rfl (lv_at hl 1 rfl) ?_
        refine lv_aload_n hx hb dX6_path_44 rfl (lv_at hl 1 rfl) ?_
        refine fg_X6_99 C hw 0 rfl rfl dX6_path_45 ?_
        obtain ⟨x2, z2, hf⟩ := ob1_el hf
        refine cV_V C hw (c_X6_fail l E a_mo mo_code mo_tape mo_text mo_taped mo_size mo_at mo_ill mo_in mo_kind mo_type mo_long1 mo_letters mo_fields mo_kept mo_now mo_many mo_itemKind mo_itemField mo_itemPlace mo_by mo_stepKind mo_stepField mo_stepOperator mo_stepOther mo_stepMany mo_literalType mo_literalFrom mo_literalSize mo_bytes mo_said mo_number mo_pile mo_pilePlace mo_top mo_open mo_at x2 z2) cs_X6_144 ⟨Nat.le_of_ble_eq_true rfl, Nat.le_of_ble_eq_true rfl⟩ ⟨rfl, rfl⟩ (ci := 6) (cn := (RX6, TX6, 35)) rfl (q0 := 0) rfl (wn := w_mo E a_mo mo_code mo_tape mo_text mo_taped mo_size mo_at x2 mo_in mo_kind mo_type mo_long1 mo_letters mo_fields mo_kept mo_now mo_many mo_itemKind mo_itemField mo_itemPlace mo_by mo_stepKind mo_stepField mo_stepOperator mo_stepOther mo_stepMany mo_literalType mo_literalFrom mo_literalSize mo_bytes mo_said mo_number mo_pile mo_pilePlace mo_top mo_open) (Jn.all _ _) rfl hl.1 rfl (Nat.le_of_ble_eq_true rfl) dX6_path_48 ⟨Nat.zero_le _, Nat.zero_le _⟩ (fun H locs hw => ?_)
        refine lv_iconst (v := -1) hx hb dX6_path_51 (by decide) ?_
        cases hf
        exact rt_i C hw dX6_path_52
      · replace hf := it_f c26 hf
        refine lv_aload_n hx hb dX6_path_29 rfl (lv_at hl 1 rfl) ?_
        refine lv_aload_n hx hb dX6_path_30 rfl (lv_at hl 1 rfl) ?_
        refine fg_X6_99 C hw 0 rfl rfl dX6_path_31 ?_
        obtain ⟨x3, z3, hf⟩ := ob1_el hf
        refine cL_V C hw (c_X6_wordOf l E a_mo mo_code mo_tape mo_text mo_taped mo_size mo_at mo_ill mo_in mo_kind mo_type mo_long1 mo_letters mo_fields mo_kept mo_now mo_many mo_itemKind mo_itemField mo_itemPlace mo_by mo_stepKind mo_stepField mo_stepOperator mo_stepOther mo_stepMany mo_literalType mo_literalFrom mo_literalSize mo_bytes mo_said mo_number mo_pile mo_pilePlace mo_top mo_open mo_at x3 z3) cs_X6_133 ⟨Nat.le_of_ble_eq_true rfl, Nat.le_of_ble_eq_true rfl⟩ ⟨rfl, rfl⟩ (ci := 6) (cn := (RX6, TX6, 35)) rfl (q0 := 0) rfl (wn := w_mo E a_mo mo_code mo_tape mo_text mo_taped mo_size mo_at mo_ill mo_in mo_kind mo_type mo_long1 mo_letters mo_fields mo_kept mo_now mo_many mo_itemKind mo_itemField mo_itemPlace mo_by mo_stepKind mo_stepField mo_stepOperator mo_stepOther mo_stepMany mo_literalType mo_literalFrom mo_literalSize mo_bytes mo_said mo_number mo_pile mo_pilePlace mo_top mo_open) (Jn.all _ _) rfl hl.1 rfl (Nat.le_of_ble_eq_true rfl) dX6_path_34 ⟨Nat.zero_le _, Nat.zero_le _⟩ (fun H locs hw => ?_)
        obtain ⟨x4, z4, hf⟩ := ob1_el hf
        refine cI_S C hw (c_X6_isKept l E x3 x4 z4) cs_X6_180 ⟨Nat.le_of_ble_eq_true rfl, Nat.le_of_ble_eq_true rfl⟩ ⟨rfl, rfl⟩ (wn := w_mo E a_mo mo_code mo_tape mo_text mo_taped mo_size mo_at mo_ill mo_in mo_kind mo_type mo_long1 mo_letters mo_fields mo_kept mo_now mo_many mo_itemKind mo_itemField mo_itemPlace mo_by mo_stepKind mo_stepField mo_stepOperator mo_stepOther mo_stepMany mo_literalType mo_literalFrom mo_literalSize mo_bytes mo_said mo_number mo_pile mo_pilePlace mo_top mo_open) (Jn.none _) rfl hl.1 rfl (Nat.le_of_ble_eq_true rfl) dX6_path_37 ⟨Nat.zero_le _, Nat.zero_le _⟩ (fun H locs hw => ?_)
        refine lv_if_eq (tgt := 53) hx hb dX6_path_40 (by decide) (fun c40 => ?_) (fun c40 => ?_)
        · replace hf := it_t c40 hf
          refine lv_iload_n hx hb dX6_path_53 rfl (lv_at hl 3 rfl) ?_
          refine lv_if_eq (tgt := 61) hx hb dX6_path_54 (by decide) (fun c54 => ?_) (fun c54 => ?_)
          · replace hf := it_t c54 hf
            refine lv_aload_n hx hb dX6_path_61 rfl (lv_at hl 1 rfl) ?_
            refine lv_iload_n hx hb dX6_path_62 rfl (lv_at hl 2 rfl) ?_
            refine lv_aload_n hx hb dX6_path_63 rfl (lv_at hl 1 rfl) ?_
            refine fg_X6_99 C hw 0 rfl rfl dX6_path_64 ?_
            refine lv_iload_n hx hb dX6_path_67 rfl (lv_at hl 0 rfl) ?_
            obtain ⟨x5, z5, hf⟩ := ob1_el hf
            refine cI_V C hw (c_X6_find l E a_mo mo_code mo_tape mo_text mo_taped mo_size mo_at mo_ill mo_in mo_kind mo_type mo_long1 mo_letters mo_fields mo_kept mo_now mo_many mo_itemKind mo_itemField mo_itemPlace mo_by mo_stepKind mo_stepField mo_stepOperator mo_stepOther mo_stepMany mo_literalType mo_literalFrom mo_literalSize mo_bytes mo_said mo_number mo_pile mo_pilePlace mo_top mo_open l1 mo_at x1 x5 z5) cs_X6_122 ⟨Nat.le_of_ble_eq_true rfl, Nat.le_of_ble_eq_true rfl⟩ ⟨rfl, rfl⟩ (ci := 6) (cn := (RX6, TX6, 35)) rfl (q0 := 0) rfl (wn := w_mo E a_mo mo_code mo_tape mo_text mo_taped mo_size mo_at mo_ill mo_in mo_kind mo_type mo_long1 mo_letters mo_fields mo_kept mo_now mo_many mo_itemKind mo_itemField mo_itemPlace mo_by mo_stepKind mo_stepField mo_stepOperator mo_stepOther mo_stepMany mo_literalType mo_literalFrom mo_literalSize mo_bytes mo_said mo_number mo_pile mo_pilePlace mo_top mo_open) (Jn.all _ _) rfl hl.1 rfl (Nat.le_of_ble_eq_true rfl) dX6_path_68 ⟨Nat.zero_le _, Nat.zero_le _⟩ (fun H locs hw => ?_)
            refine lv_istore_n (lv' := [(1, .int x5), (3, .int x1), (0, .ref (a_mo 0)), (2, .int l2)]) hx hb dX6_path_71 rfl hl (by decide) rfl (fun ls hl => ?_)
            refine lv_iload_n hx hb dX6_path_72 rfl (lv_at hl 3 rfl) ?_
            refine lv_if_ne (tgt := 81) hx hb dX6_path_73 (by decide) (fun c73 => ?_) (fun c73 => ?_)
            · replace hf := it_f c73 hf
              refine lv_iconst (v := 1) hx hb dX6_path_81 (by decide) ?_
              refine lv_goto (tgt := 86) hx hb dX6_path_82 (by decide) ?_
              refine lv_istore_n (lv' := [(2, .int (1 : Int32)), (1, .int x5), (3, .int x1), (0, .ref (a_mo 0))]) hx hb dX6_path_86 rfl hl (by decide) rfl (fun ls hl => ?_)
              refine lv_aload_n hx hb dX6_path_87 rfl (lv_at hl 3 rfl) ?_
              refine lv_dup hx hb dX6_path_88 rfl ?_
              refine fg_X6_99 C hw 0 rfl rfl dX6_path_89 ?_
              refine lv_iload_n hx hb dX6_path_92 rfl (lv_at hl 2 rfl) ?_
              refine lv_iadd hx hb dX6_path_93 ?_
              obtain ⟨x6, ex6, hf⟩ := on_el hf
              refine tp_i ex6 ?_
              refine fp_X6_99 C hw 0 rfl (Nat.le_of_ble_eq_true rfl) (ws' := w_mo E a_mo mo_code mo_tape mo_text mo_taped mo_size x6 mo_ill mo_in mo_kind mo_type mo_long1 mo_letters mo_fields mo_kept mo_now mo_many mo_itemKind mo_itemField mo_itemPlace mo_by mo_stepKind mo_stepField mo_stepOperator mo_stepOther mo_stepMany mo_literalType mo_literalFrom mo_literalSize mo_bytes mo_said mo_number mo_pile mo_pilePlace mo_top mo_open) rfl dX6_path_94 (fun H locs hw => ?_)
              refine lv_aload_n hx hb dX6_path_97 rfl (lv_at hl 3 rfl) ?_
              obtain ⟨x7, z7, hf⟩ := ob1_el hf
              refine cI_V C hw (c_X6_look l E a_mo mo_code mo_tape mo_text mo_taped mo_size x6 mo_ill mo_in mo_kind mo_type mo_long1 mo_letters mo_fields mo_kept mo_now mo_many mo_itemKind mo_itemField mo_itemPlace mo_by mo_stepKind mo_stepField mo_stepOperator mo_stepOther mo_stepMany mo_literalType mo_literalFrom mo_literalSize mo_bytes mo_said mo_number mo_pile mo_pilePlace mo_top mo_open x7 z7) cs_X6_126 ⟨Nat.le_of_ble_eq_true rfl, Nat.le_of_ble_eq_true rfl⟩ ⟨rfl, rfl⟩ (ci := 6) (cn := (RX6, TX6, 35)) rfl (q0 := 0) rfl (wn := w_mo E a_mo mo_code mo_tape mo_text mo_taped mo_size x6 mo_ill mo_in mo_kind mo_type mo_long1 mo_letters mo_fields mo_kept mo_now mo_many mo_itemKind mo_itemField mo_itemPlace mo_by mo_stepKind mo_stepField mo_stepOperator mo_stepOther mo_stepMany mo_literalType mo_literalFrom mo_literalSize mo_bytes mo_said mo_number mo_pile mo_pilePlace mo_top mo_open) (Jn.all _ _) rfl hl.1 rfl (Nat.le_of_ble_eq_true rfl) dX6_path_98 ⟨Nat.zero_le _, Nat.zero_le _⟩ (fun H locs hw => ?_)
              refine lv_bipush (v := 46) hx hb dX6_path_101 (by decide) ?_
              refine lv_icmp_eq (tgt := 108) hx hb dX6_path_103 (by decide) (fun c103 => ?_) (fun c103 => ?_)
              · replace hf := it_t c103 hf
                refine lv_aload_n hx hb dX6_path_108 rfl (lv_at hl 3 rfl) ?_
                refine lv_dup hx hb dX6_path_109 rfl ?_
                refine fg_X6_99 C hw 0 rfl rfl dX6_path_110 ?_
                refine lv_iconst (v := 1) hx hb dX6_path_113 (by decide) ?_
                refine lv_iadd hx hb dX6_path_114 ?_
                obtain ⟨x8, ex8, hf⟩ := on_el hf
                refine tp_i ex8 ?_
                refine fp_X6_99 C hw 0 rfl (Nat.le_of_ble_eq_true rfl) (ws' := w_mo E a_mo mo_code mo_tape mo_text mo_taped mo_size x8 mo_ill mo_in mo_kind mo_type mo_long1 mo_letters mo_fields mo_kept mo_now mo_many mo_itemKind mo_itemField mo_itemPlace mo_by mo_stepKind mo_stepField mo_stepOperator mo_stepOther mo_stepMany mo_literalType mo_literalFrom mo_literalSize mo_bytes mo_said mo_number mo_pile mo_pilePlace mo_top mo_open) rfl dX6_path_115 (fun H locs hw => ?_)
                refine lv_goto (tgt := 8) hx hb dX6_path_118 (by decide) ?_
                exact ih hw (lv_sub hl [3, 1, 0] rfl) hf
              · replace hf := it_f c103 hf
                refine lv_iload_n hx hb dX6_path_106 rfl (lv_at hl 1 rfl) ?_
                cases hf
                exact rt_i C hw dX6_path_107
            · replace hf := it_t c73 hf
              refine lv_iload_n hx hb dX6_path_76 rfl (lv_at hl 0 rfl) ?_
              refine lv_iconst (v := -1) hx hb dX6_path_77 (by decide) ?_
              refine lv_icmp_ne (tgt := 85) hx hb dX6_path_78 (by decide) (fun c78 => ?_) (fun c78 => ?_)
              · replace hf := it_f c78 hf
                refine lv_iconst (v := 0) hx hb dX6_path_85 (by decide) ?_
                refine lv_istore_n (lv' := [(2, .int (0 : Int32)), (1, .int x5), (3, .int x1), (0, .ref (a_mo 0))]) hx hb dX6_path_86 rfl hl (by decide) rfl (fun ls hl => ?_)
                refine lv_aload_n hx hb dX6_path_87 rfl (lv_at hl 3 rfl) ?_
                refine lv_dup hx hb dX6_path_88 rfl ?_
                refine fg_X6_99 C hw 0 rfl rfl dX6_path_89 ?_
                refine lv_iload_n hx hb dX6_path_92 rfl (lv_at hl 2 rfl) ?_
                refine lv_iadd hx hb dX6_path_93 ?_
                obtain ⟨x9, ex9, hf⟩ := on_el hf
                refine tp_i ex9 ?_
                refine fp_X6_99 C hw 0 rfl (Nat.le_of_ble_eq_true rfl) (ws' := w_mo E a_mo mo_code mo_tape mo_text mo_taped mo_size x9 mo_ill mo_in mo_kind mo_type mo_long1 mo_letters mo_fields mo_kept mo_now mo_many mo_itemKind mo_itemField mo_itemPlace mo_by mo_stepKind mo_stepField mo_stepOperator mo_stepOther mo_stepMany mo_literalType mo_literalFrom mo_literalSize mo_bytes mo_said mo_number mo_pile mo_pilePlace mo_top mo_open) rfl dX6_path_94 (fun H locs hw => ?_)
                refine lv_aload_n hx hb dX6_path_97 rfl (lv_at hl 3 rfl) ?_
                obtain ⟨x10, z10, hf⟩ := ob1_el hf
                refine cI_V C hw (c_X6_look l E a_mo mo_code mo_tape mo_text mo_taped mo_size x9 mo_ill mo_in mo_kind mo_type mo_long1 mo_letters mo_fields mo_kept mo_now mo_many mo_itemKind mo_itemField mo_itemPlace mo_by mo_stepKind mo_stepField mo_stepOperator mo_stepOther mo_stepMany mo_literalType mo_literalFrom mo_literalSize mo_bytes mo_said mo_number mo_pile mo_pilePlace mo_top mo_open x10 z10) cs_X6_126 ⟨Nat.le_of_ble_eq_true rfl, Nat.le_of_ble_eq_true rfl⟩ ⟨rfl, rfl⟩ (ci := 6) (cn := (RX6, TX6, 35)) rfl (q0 := 0) rfl (wn := w_mo E a_mo mo_code mo_tape mo_text mo_taped mo_size x9 mo_ill mo_in mo_kind mo_type mo_long1 mo_letters mo_fields mo_kept mo_now mo_many mo_itemKind mo_itemField mo_itemPlace mo_by mo_stepKind mo_stepField mo_stepOperator mo_stepOther mo_stepMany mo_literalType mo_literalFrom mo_literalSize mo_bytes mo_said mo_number mo_pile mo_pilePlace mo_top mo_open) (Jn.all _ _) rfl hl.1 rfl (Nat.le_of_ble_eq_true rfl) dX6_path_98 ⟨Nat.zero_le _, Nat.zero_le _⟩ (fun H locs hw => ?_)
                refine lv_bipush (v := 46) hx hb dX6_path_101 (by decide) ?_
                refine lv_icmp_eq (tgt := 108) hx hb dX6_path_103 (by decide) (fun c103 => ?_) (fun c103 => ?_)
                · replace hf := it_t c103 hf
                  refine lv_aload_n hx hb dX6_path_108 rfl (lv_at hl 3 rfl) ?_
                  refine lv_dup hx hb dX6_path_109 rfl ?_
                  refine fg_X6_99 C hw 0 rfl rfl dX6_path_110 ?_
                  refine lv_iconst (v := 1) hx hb dX6_path_113 (by decide) ?_
                  refine lv_iadd hx hb dX6_path_114 ?_
                  obtain ⟨x11, ex11, hf⟩ := on_el hf
                  refine tp_i ex11 ?_
                  refine fp_X6_99 C hw 0 rfl (Nat.le_of_ble_eq_true rfl) (ws' := w_mo E a_mo mo_code mo_tape mo_text mo_taped mo_size x11 mo_ill mo_in mo_kind mo_type mo_long1 mo_letters mo_fields mo_kept mo_now mo_many mo_itemKind mo_itemField mo_itemPlace mo_by mo_stepKind mo_stepField mo_stepOperator mo_stepOther mo_stepMany mo_literalType mo_literalFrom mo_literalSize mo_bytes mo_said mo_number mo_pile mo_pilePlace mo_top mo_open) rfl dX6_path_115 (fun H locs hw => ?_)
                  refine lv_goto (tgt := 8) hx hb dX6_path_118 (by decide) ?_
                  exact ih hw (lv_sub hl [3, 1, 0] rfl) hf
                · replace hf := it_f c103 hf
                  refine lv_iload_n hx hb dX6_path_106 rfl (lv_at hl 1 rfl) ?_
                  cases hf
                  exact rt_i C hw dX6_path_107
              · replace hf := it_t c78 hf
                refine lv_iconst (v := 1) hx hb dX6_path_81 (by decide) ?_
                refine lv_goto (tgt := 86) hx hb dX6_path_82 (by decide) ?_
                refine lv_istore_n (lv' := [(2, .int (1 : Int32)), (1, .int x5), (3, .int x1), (0, .ref (a_mo 0))]) hx hb dX6_path_86 rfl hl (by decide) rfl (fun ls hl => ?_)
                refine lv_aload_n hx hb dX6_path_87 rfl (lv_at hl 3 rfl) ?_
                refine lv_dup hx hb dX6_path_88 rfl ?_
                refine fg_X6_99 C hw 0 rfl rfl dX6_path_89 ?_
                refine lv_iload_n hx hb dX6_path_92 rfl (lv_at hl 2 rfl) ?_
                refine lv_iadd hx hb dX6_path_93 ?_
                obtain ⟨x12, ex12, hf⟩ := on_el hf
                refine tp_i ex12 ?_
                refine fp_X6_99 C hw 0 rfl (Nat.le_of_ble_eq_true rfl) (ws' := w_mo E a_mo mo_code mo_tape mo_text mo_taped mo_size x12 mo_ill mo_in mo_kind mo_type mo_long1 mo_letters mo_fields mo_kept mo_now mo_many mo_itemKind mo_itemField mo_itemPlace mo_by mo_stepKind mo_stepField mo_stepOperator mo_stepOther mo_stepMany mo_literalType mo_literalFrom mo_literalSize mo_bytes mo_said mo_number mo_pile mo_pilePlace mo_top mo_open) rfl dX6_path_94 (fun H locs hw => ?_)
                refine lv_aload_n hx hb dX6_path_97 rfl (lv_at hl 3 rfl) ?_
                obtain ⟨x13, z13, hf⟩ := ob1_el hf
                refine cI_V C hw (c_X6_look l E a_mo mo_code mo_tape mo_text mo_taped mo_size x12 mo_ill mo_in mo_kind mo_type mo_long1 mo_letters mo_fields mo_kept mo_now mo_many mo_itemKind mo_itemField mo_itemPlace mo_by mo_stepKind mo_stepField mo_stepOperator mo_stepOther mo_stepMany mo_literalType mo_literalFrom mo_literalSize mo_bytes mo_said mo_number mo_pile mo_pilePlace mo_top mo_open x13 z13) cs_X6_126 ⟨Nat.le_of_ble_eq_true rfl, Nat.le_of_ble_eq_true rfl⟩ ⟨rfl, rfl⟩ (ci := 6) (cn := (RX6, TX6, 35)) rfl (q0 := 0) rfl (wn := w_mo E a_mo mo_code mo_tape mo_text mo_taped mo_size x12 mo_ill mo_in mo_kind mo_type mo_long1 mo_letters mo_fields mo_kept mo_now mo_many mo_itemKind mo_itemField mo_itemPlace mo_by mo_stepKind mo_stepField mo_stepOperator mo_stepOther mo_stepMany mo_literalType mo_literalFrom mo_literalSize mo_bytes mo_said mo_number mo_pile mo_pilePlace mo_top mo_open) (Jn.all _ _) rfl hl.1 rfl (Nat.le_of_ble_eq_true rfl) dX6_path_98 ⟨Nat.zero_le _, Nat.zero_le _⟩ (fun H locs hw => ?_)
                refine lv_bipush (v := 46) hx hb dX6_path_101 (by decide) ?_
                refine lv_icmp_eq (tgt := 108) hx hb dX6_path_103 (by decide) (fun c103 => ?_) (fun c103 => ?_)
                · replace hf := it_t c103 hf
                  refine lv_aload_n hx hb dX6_path_108 rfl (lv_at hl 3 rfl) ?_
                  refine lv_dup hx hb dX6_path_109 rfl ?_
                  refine fg_X6_99 C hw 0 rfl rfl dX6_path_110 ?_
                  refine lv_iconst (v := 1) hx hb dX6_path_113 (by decide) ?_
                  refine lv_iadd hx hb dX6_path_114 ?_
                  obtain ⟨x14, ex14, hf⟩ := on_el hf
                  refine tp_i ex14 ?_
                  refine fp_X6_99 C hw 0 rfl (Nat.le_of_ble_eq_true rfl) (ws' := w_mo E a_mo mo_code mo_tape mo_text mo_taped mo_size x14 mo_ill mo_in mo_kind mo_type mo_long1 mo_letters mo_fields mo_kept mo_now mo_many mo_itemKind mo_itemField mo_itemPlace mo_by mo_stepKind mo_stepField mo_stepOperator mo_stepOther mo_stepMany mo_literalType mo_literalFrom mo_literalSize mo_bytes mo_said mo_number mo_pile mo_pilePlace mo_top mo_open) rfl dX6_path_115 (fun H locs hw => ?_)
                  refine lv_goto (tgt := 8) hx hb dX6_path_118 (by decide) ?_
                  exact ih hw (lv_sub hl [3, 1, 0] rfl) hf
                · replace hf := it_f c103 hf
                  refine lv_iload_n hx hb dX6_path_106 rfl (lv_at hl 1 rfl) ?_
                  cases hf
                  exact rt_i C hw dX6_path_107
          · replace hf := it_f c54 hf
            refine lv_iconst (v := -1) hx hb dX6_path_57 (by decide) ?_
            refine lv_goto (tgt := 71) hx hb dX6_path_58 (by decide) ?_
            refine lv_istore_n (lv' := [(1, .int (-1 : Int32)), (3, .int x1), (0, .ref (a_mo 0)), (2, .int l2)]) hx hb dX6_path_71 rfl hl (by decide) rfl (fun ls hl => ?_)
            refine lv_iload_n hx hb dX6_path_72 rfl (lv_at hl 3 rfl) ?_
            refine lv_if_ne (tgt := 81) hx hb dX6_path_73 (by decide) (fun c73 => ?_) (fun c73 => ?_)
            · replace hf := it_f c73 hf
              refine lv_iconst (v := 1) hx hb dX6_path_81 (by decide) ?_
              refine lv_goto (tgt := 86) hx hb dX6_path_82 (by decide) ?_
              refine lv_istore_n (lv' := [(2, .int (1 : Int32)), (1, .int (-1 : Int32)), (3, .int x1), (0, .ref (a_mo 0))]) hx hb dX6_path_86 rfl hl (by decide) rfl (fun ls hl => ?_)
              refine lv_aload_n hx hb dX6_path_87 rfl (lv_at hl 3 rfl) ?_
              refine lv_dup hx hb dX6_path_88 rfl ?_
              refine fg_X6_99 C hw 0 rfl rfl dX6_path_89 ?_
              refine lv_iload_n hx hb dX6_path_92 rfl (lv_at hl 2 rfl) ?_
              refine lv_iadd hx hb dX6_path_93 ?_
              obtain ⟨x15, ex15, hf⟩ := on_el hf
              refine tp_i ex15 ?_
              refine fp_X6_99 C hw 0 rfl (Nat.le_of_ble_eq_true rfl) (ws' := w_mo E a_mo mo_code mo_tape mo_text mo_taped mo_size x15 mo_ill mo_in mo_kind mo_type mo_long1 mo_letters mo_fields mo_kept mo_now mo_many mo_itemKind mo_itemField mo_itemPlace mo_by mo_stepKind mo_stepField mo_stepOperator mo_stepOther mo_stepMany mo_literalType mo_literalFrom mo_literalSize mo_bytes mo_said mo_number mo_pile mo_pilePlace mo_top mo_open) rfl dX6_path_94 (fun H locs hw => ?_)
              refine lv_aload_n hx hb dX6_path_97 rfl (lv_at hl 3 rfl) ?_
              obtain ⟨x16, z16, hf⟩ := ob1_el hf
              refine cI_V C hw (c_X6_look l E a_mo mo_code mo_tape mo_text mo_taped mo_size x15 mo_ill mo_in mo_kind mo_type mo_long1 mo_letters mo_fields mo_kept mo_now mo_many mo_itemKind mo_itemField mo_itemPlace mo_by mo_stepKind mo_stepField mo_stepOperator mo_stepOther mo_stepMany mo_literalType mo_literalFrom mo_literalSize mo_bytes mo_said mo_number mo_pile mo_pilePlace mo_top mo_open x16 z16) cs_X6_126 ⟨Nat.le_of_ble_eq_true rfl, Nat.le_of_ble_eq_true rfl⟩ ⟨rfl, rfl⟩ (ci := 6) (cn := (RX6, TX6, 35)) rfl (q0 := 0) rfl (wn := w_mo E a_mo mo_code mo_tape mo_text mo_taped mo_size x15 mo_ill mo_in mo_kind mo_type mo_long1 mo_letters mo_fields mo_kept mo_now mo_many mo_itemKind mo_itemField mo_itemPlace mo_by mo_stepKind mo_stepField mo_stepOperator mo_stepOther mo_stepMany mo_literalType mo_literalFrom mo_literalSize mo_bytes mo_said mo_number mo_pile mo_pilePlace mo_top mo_open) (Jn.all _ _) rfl hl.1 rfl (Nat.le_of_ble_eq_true rfl) dX6_path_98 ⟨Nat.zero_le _, Nat.zero_le _⟩ (fun H locs hw => ?_)
              refine lv_bipush (v := 46) hx hb dX6_path_101 (by decide) ?_
              refine lv_icmp_eq (tgt := 108) hx hb dX6_path_103 (by decide) (fun c103 => ?_) (fun c103 => ?_)
              · replace hf := it_t c103 hf
                refine lv_aload_n hx hb dX6_path_108 rfl (lv_at hl 3 rfl) ?_
                refine lv_dup hx hb dX6_path_109 rfl ?_
                refine fg_X6_99 C hw 0 rfl rfl dX6_path_110 ?_
                refine lv_iconst (v := 1) hx hb dX6_path_113 (by decide) ?_
                refine lv_iadd hx hb dX6_path_114 ?_
                obtain ⟨x17, ex17, hf⟩ := on_el hf
                refine tp_i ex17 ?_
                refine fp_X6_99 C hw 0 rfl (Nat.le_of_ble_eq_true rfl) (ws' := w_mo E a_mo mo_code mo_tape mo_text mo_taped mo_size x17 mo_ill mo_in mo_kind mo_type mo_long1 mo_letters mo_fields mo_kept mo_now mo_many mo_itemKind mo_itemField mo_itemPlace mo_by mo_stepKind mo_stepField mo_stepOperator mo_stepOther mo_stepMany mo_literalType mo_literalFrom mo_literalSize mo_bytes mo_said mo_number mo_pile mo_pilePlace mo_top mo_open) rfl dX6_path_115 (fun H locs hw => ?_)
                refine lv_goto (tgt := 8) hx hb dX6_path_118 (by decide) ?_
                exact ih hw (lv_sub hl [3, 1, 0] rfl) hf
              · replace hf := it_f c103 hf
                refine lv_iload_n hx hb dX6_path_106 rfl (lv_at hl 1 rfl) ?_
                cases hf
                exact rt_i C hw dX6_path_107
            · replace hf := it_t c73 hf
              refine lv_iload_n hx hb dX6_path_76 rfl (lv_at hl 0 rfl) ?_
              refine lv_iconst (v := -1) hx hb dX6_path_77 (by decide) ?_
              refine lv_icmp_ne (tgt := 85) hx hb dX6_path_78 (by decide) (fun c78 => ?_) (fun c78 => ?_)
              · replace hf := it_f c78 hf
                refine lv_iconst (v := 0) hx hb dX6_path_85 (by decide) ?_
                refine lv_istore_n (lv' := [(2, .int (0 : Int32)), (1, .int (-1 : Int32)), (3, .int x1), (0, .ref (a_mo 0))]) hx hb dX6_path_86 rfl hl (by decide) rfl (fun ls hl => ?_)
                refine lv_aload_n hx hb dX6_path_87 rfl (lv_at hl 3 rfl) ?_
                refine lv_dup hx hb dX6_path_88 rfl ?_
                refine fg_X6_99 C hw 0 rfl rfl dX6_path_89 ?_
                refine lv_iload_n hx hb dX6_path_92 rfl (lv_at hl 2 rfl) ?_
                refine lv_iadd hx hb dX6_path_93 ?_
                obtain ⟨x18, ex18, hf⟩ := on_el hf
                refine tp_i ex18 ?_
                refine fp_X6_99 C hw 0 rfl (Nat.le_of_ble_eq_true rfl) (ws' := w_mo E a_mo mo_code mo_tape mo_text mo_taped mo_size x18 mo_ill mo_in mo_kind mo_type mo_long1 mo_letters mo_fields mo_kept mo_now mo_many mo_itemKind mo_itemField mo_itemPlace mo_by mo_stepKind mo_stepField mo_stepOperator mo_stepOther mo_stepMany mo_literalType mo_literalFrom mo_literalSize mo_bytes mo_said mo_number mo_pile mo_pilePlace mo_top mo_open) rfl dX6_path_94 (fun H locs hw => ?_)
                refine lv_aload_n hx hb dX6_path_97 rfl (lv_at hl 3 rfl) ?_
                obtain ⟨x19, z19, hf⟩ := ob1_el hf
                refine cI_V C hw (c_X6_look l E a_mo mo_code mo_tape mo_text mo_taped mo_size x18 mo_ill mo_in mo_kind mo_type mo_long1 mo_letters mo_fields mo_kept mo_now mo_many mo_itemKind mo_itemField mo_itemPlace mo_by mo_stepKind mo_stepField mo_stepOperator mo_stepOther mo_stepMany mo_literalType mo_literalFrom mo_literalSize mo_bytes mo_said mo_number mo_pile mo_pilePlace mo_top mo_open x19 z19) cs_X6_126 ⟨Nat.le_of_ble_eq_true rfl, Nat.le_of_ble_eq_true rfl⟩ ⟨rfl, rfl⟩ (ci := 6) (cn := (RX6, TX6, 35)) rfl (q0 := 0) rfl (wn := w_mo E a_mo mo_code mo_tape mo_text mo_taped mo_size x18 mo_ill mo_in mo_kind mo_type mo_long1 mo_letters mo_fields mo_kept mo_now mo_many mo_itemKind mo_itemField mo_itemPlace mo_by mo_stepKind mo_stepField mo_stepOperator mo_stepOther mo_stepMany mo_literalType mo_literalFrom mo_literalSize mo_bytes mo_said mo_number mo_pile mo_pilePlace mo_top mo_open) (Jn.all _ _) rfl hl.1 rfl (Nat.le_of_ble_eq_true rfl) dX6_path_98 ⟨Nat.zero_le _, Nat.zero_le _⟩ (fun H locs hw => ?_)
                refine lv_bipush (v := 46) hx hb dX6_path_101 (by decide) ?_
                refine lv_icmp_eq (tgt := 108) hx hb dX6_path_103 (by decide) (fun c103 => ?_) (fun c103 => ?_)
                · replace hf := it_t c103 hf
                  refine lv_aload_n hx hb dX6_path_108 rfl (lv_at hl 3 rfl) ?_
                  refine lv_dup hx hb dX6_path_109 rfl ?_
                  refine fg_X6_99 C hw 0 rfl rfl dX6_path_110 ?_
                  refine lv_iconst (v := 1) hx hb dX6_path_113 (by decide) ?_
                  refine lv_iadd hx hb dX6_path_114 ?_
                  obtain ⟨x20, ex20, hf⟩ := on_el hf
                  refine tp_i ex20 ?_
                  refine fp_X6_99 C hw 0 rfl (Nat.le_of_ble_eq_true rfl) (ws' := w_mo E a_mo mo_code mo_tape mo_text mo_taped mo_size x20 mo_ill mo_in mo_kind mo_type mo_long1 mo_letters mo_fields mo_kept mo_now mo_many mo_itemKind mo_itemField mo_itemPlace mo_by mo_stepKind mo_stepField mo_stepOperator mo_stepOther mo_stepMany mo_literalType mo_literalFrom mo_literalSize mo_bytes mo_said mo_number mo_pile mo_pilePlace mo_top mo_open) rfl dX6_path_115 (fun H locs hw => ?_)
                  refine lv_goto (tgt := 8) hx hb dX6_path_118 (by decide) ?_
                  exact ih hw (lv_sub hl [3, 1, 0] rfl) hf
                · replace hf := it_f c103 hf
                  refine lv_iload_n hx hb dX6_path_106 rfl (lv_at hl 1 rfl) ?_
                  cases hf
                  exact rt_i C hw dX6_path_107
              · replace hf := it_t c78 hf
                refine lv_iconst (v := 1) hx hb dX6_path_81 (by decide) ?_
                refine lv_goto (tgt := 86) hx hb dX6_path_82 (by decide) ?_
                refine lv_istore_n (lv' := [(2, .int (1 : Int32)), (1, .int (-1 : Int32)), (3, .int x1), (0, .ref (a_mo 0))]) hx hb dX6_path_86 rfl hl (by decide) rfl (fun ls hl => ?_)
                refine lv_aload_n hx hb dX6_path_87 rfl (lv_at hl 3 rfl) ?_
                refine lv_dup hx hb dX6_path_88 rfl ?_
                refine fg_X6_99 C hw 0 rfl rfl dX6_path_89 ?_
                refine lv_iload_n hx hb dX6_path_92 rfl (lv_at hl 2 rfl) ?_
                refine lv_iadd hx hb dX6_path_93 ?_
                obtain ⟨x21, ex21, hf⟩ := on_el hf
                refine tp_i ex21 ?_
                refine fp_X6_99 C hw 0 rfl (Nat.le_of_ble_eq_true rfl) (ws' := w_mo E a_mo mo_code mo_tape mo_text mo_taped mo_size x21 mo_ill mo_in mo_kind mo_type mo_long1 mo_letters mo_fields mo_kept mo_now mo_many mo_itemKind mo_itemField mo_itemPlace mo_by mo_stepKind mo_stepField mo_stepOperator mo_stepOther mo_stepMany mo_literalType mo_literalFrom mo_literalSize mo_bytes mo_said mo_number mo_pile mo_pilePlace mo_top mo_open) rfl dX6_path_94 (fun H locs hw => ?_)
                refine lv_aload_n hx hb dX6_path_97 rfl (lv_at hl 3 rfl) ?_
                obtain ⟨x22, z22, hf⟩ := ob1_el hf
                refine cI_V C hw (c_X6_look l E a_mo mo_code mo_tape mo_text mo_taped mo_size x21 mo_ill mo_in mo_kind mo_type mo_long1 mo_letters mo_fields mo_kept mo_now mo_many mo_itemKind mo_itemField mo_itemPlace mo_by mo_stepKind mo_stepField mo_stepOperator mo_stepOther mo_stepMany mo_literalType mo_literalFrom mo_literalSize mo_bytes mo_said mo_number mo_pile mo_pilePlace mo_top mo_open x22 z22) cs_X6_126 ⟨Nat.le_of_ble_eq_true rfl, Nat.le_of_ble_eq_true rfl⟩ ⟨rfl, rfl⟩ (ci := 6) (cn := (RX6, TX6, 35)) rfl (q0 := 0) rfl (wn := w_mo E a_mo mo_code mo_tape mo_text mo_taped mo_size x21 mo_ill mo_in mo_kind mo_type mo_long1 mo_letters mo_fields mo_kept mo_now mo_many mo_itemKind mo_itemField mo_itemPlace mo_by mo_stepKind mo_stepField mo_stepOperator mo_stepOther mo_stepMany mo_literalType mo_literalFrom mo_literalSize mo_bytes mo_said mo_number mo_pile mo_pilePlace mo_top mo_open) (Jn.all _ _) rfl hl.1 rfl (Nat.le_of_ble_eq_true rfl) dX6_path_98 ⟨Nat.zero_le _, Nat.zero_le _⟩ (fun H locs hw => ?_)
                refine lv_bipush (v := 46) hx hb dX6_path_101 (by decide) ?_
                refine lv_icmp_eq (tgt := 108) hx hb dX6_path_103 (by decide) (fun c103 => ?_) (fun c103 => ?_)
                · replace hf := it_t c103 hf
                  refine lv_aload_n hx hb dX6_path_108 rfl (lv_at hl 3 rfl) ?_
                  refine lv_dup hx hb dX6_path_109 rfl ?_
                  refine fg_X6_99 C hw 0 rfl rfl dX6_path_110 ?_
                  refine lv_iconst (v := 1) hx hb dX6_path_113 (by decide) ?_
                  refine lv_iadd hx hb dX6_path_114 ?_
                  obtain ⟨x23, ex23, hf⟩ := on_el hf
                  refine tp_i ex23 ?_
                  refine fp_X6_99 C hw 0 rfl (Nat.le_of_ble_eq_true rfl) (ws' := w_mo E a_mo mo_code mo_tape mo_text mo_taped mo_size x23 mo_ill mo_in mo_kind mo_type mo_long1 mo_letters mo_fields mo_kept mo_now mo_many mo_itemKind mo_itemField mo_itemPlace mo_by mo_stepKind mo_stepField mo_stepOperator mo_stepOther mo_stepMany mo_literalType mo_literalFrom mo_literalSize mo_bytes mo_said mo_number mo_pile mo_pilePlace mo_top mo_open) rfl dX6_path_115 (fun H locs hw => ?_)
                  refine lv_goto (tgt := 8) hx hb dX6_path_118 (by decide) ?_
                  exact ih hw (lv_sub hl [3, 1, 0] rfl) hf
                · replace hf := it_f c103 hf
                  refine lv_iload_n hx hb dX6_path_106 rfl (lv_at hl 1 rfl) ?_
                  cases hf
                  exact rt_i C hw dX6_path_107
        · replace hf := it_f c40 hf
          refine lv_aload_n hx hb dX6_path_43 rfl (lv_at hl 1 rfl) ?_
          refine lv_aload_n hx hb dX6_path_44 rfl (lv_at hl 1 rfl) ?_
          refine fg_X6_99 C hw 0 rfl rfl dX6_path_45 ?_
          obtain ⟨x24, z24, hf⟩ := ob1_el hf
          refine cV_V C hw (c_X6_fail l E a_mo mo_code mo_tape mo_text mo_taped mo_size mo_at mo_ill mo_in mo_kind mo_type mo_long1 mo_letters mo_fields mo_kept mo_now mo_many mo_itemKind mo_itemField mo_itemPlace mo_by mo_stepKind mo_stepField mo_stepOperator mo_stepOther mo_stepMany mo_literalType mo_literalFrom mo_literalSize mo_bytes mo_said mo_number mo_pile mo_pilePlace mo_top mo_open mo_at x24 z24) cs_X6_144 ⟨Nat.le_of_ble_eq_true rfl, Nat.le_of_ble_eq_true rfl⟩ ⟨rfl, rfl⟩ (ci := 6) (cn := (RX6, TX6, 35)) rfl (q0 := 0) rfl (wn := w_mo E a_mo mo_code mo_tape mo_text mo_taped mo_size mo_at x24 mo_in mo_kind mo_type mo_long1 mo_letters mo_fields mo_kept mo_now mo_many mo_itemKind mo_itemField mo_itemPlace mo_by mo_stepKind mo_stepField mo_stepOperator mo_stepOther mo_stepMany mo_literalType mo_literalFrom mo_literalSize mo_bytes mo_said mo_number mo_pile mo_pilePlace mo_top mo_open) (Jn.all _ _) rfl hl.1 rfl (Nat.le_of_ble_eq_true rfl) dX6_path_48 ⟨Nat.zero_le _, Nat.zero_le _⟩ (fun H locs hw => ?_)
          refine lv_iconst (v := -1) hx hb dX6_path_51 (by decide) ?_
          cases hf
          exact rt_i C hw dX6_path_52
def f_X6_path (mo_text : Nat → Int32) (mo_size : Int32) (mo_at : Int32) (mo_ill : Int32) (mo_in : Nat → Int32) (mo_long1 : Nat → Int32) (mo_letters : Nat → Int32) (mo_fields : Int32) : Option ((Int32) × (Int32) × (Int32)) :=
  ob1 (f_X6_blanks mo_text mo_size mo_at) (fun x1 =>
  f_X6_path_8 FU (-1 : Int32) (0 : Int32) mo_text mo_size x1 mo_ill mo_in mo_long1 mo_letters mo_fields)
set_option maxHeartbeats 4000000 in
set_option maxRecDepth 100000 in
theorem c_X6_path (l : Launch) (E : EnvT) (a_mo : Nat → Nat) (mo_code : Int32) (mo_tape : Nat → Int32) (mo_text : Nat → Int32) (mo_taped : Int32) (mo_size : Int32) (mo_at : Int32) (mo_ill : Int32) (mo_in : Nat → Int32) (mo_kind : Nat → Int32) (mo_type : Nat → Int32) (mo_long1 : Nat → Int32) (mo_letters : Nat → Int32) (mo_fields : Int32) (mo_kept : Int32) (mo_now : Int32) (mo_many : Nat → Int32) (mo_itemKind : Nat → Int32) (mo_itemField : Nat → Int32) (mo_itemPlace : Nat → Int32) (mo_by : Nat → Int32) (mo_stepKind : Nat → Int32) (mo_stepField : Nat → Int32) (mo_stepOperator : Nat → Int32) (mo_stepOther : Nat → Int32) (mo_stepMany : Nat → Int32) (mo_literalType : Nat → Int32) (mo_literalFrom : Nat → Int32) (mo_literalSize : Nat → Int32) (mo_bytes : Nat → Int32) (mo_said : Nat → Int32) (mo_number : Nat → Int64) (mo_pile : Nat → Int32) (mo_pilePlace : Nat → Int32) (mo_top : Int32) (mo_open : Int32) (r : Int32) (o_mo_at : Int32) (o_mo_ill : Int32) (hf : f_X6_path mo_text mo_size mo_at mo_ill mo_in mo_long1 mo_letters mo_fields = some (r, o_mo_at, o_mo_ill)) : CI l yX6_path (Cond.code yX6_path cX6_path 4 (some .int)) { frames := 3, cells := 0, slots := 0, locals := 67 } E [.ref (a_mo 0)] (w_mo E a_mo mo_code mo_tape mo_text mo_taped mo_size mo_at mo_ill mo_in mo_kind mo_type mo_long1 mo_letters mo_fields mo_kept mo_now mo_many mo_itemKind mo_itemField mo_itemPlace mo_by mo_stepKind mo_stepField mo_stepOperator mo_stepOther mo_stepMany mo_literalType mo_literalFrom mo_literalSize mo_bytes mo_said mo_number mo_pile mo_pilePlace mo_top mo_open) r (w_mo E a_mo mo_code mo_tape mo_text mo_taped mo_size o_mo_at o_mo_ill mo_in mo_kind mo_type mo_long1 mo_letters mo_fields mo_kept mo_now mo_many mo_itemKind mo_itemField mo_itemPlace mo_by mo_stepKind mo_stepField mo_stepOperator mo_stepOther mo_stepMany mo_literalType mo_literalFrom mo_literalSize mo_bytes mo_said mo_number mo_pile mo_pilePlace mo_top mo_open) := by
  intro sz
  refine met_start [(0, .ref (a_mo 0))] (by decide) rfl rfl (Nat.le_of_ble_eq_true rfl) rfl ?_
  intro p e s m below meth c ls C hnm hmt hw hl
  have hx := C.1
  have hb := C.2.1
  generalize va_A (w_mo E a_mo mo_code mo_tape mo_text mo_taped mo_size mo_at mo_ill mo_in mo_kind mo_type mo_long1 mo_letters mo_fields mo_kept mo_now mo_many mo_itemKind mo_itemField mo_itemPlace mo_by mo_stepKind mo_stepField mo_stepOperator mo_stepOther mo_stepMany mo_literalType mo_literalFrom mo_literalSize mo_bytes mo_said mo_number mo_pile mo_pilePlace mo_top mo_open) sz = A at C hw ⊢
  unfold f_X6_path at hf
  refine lv_aload_n hx hb dX6_path_0 rfl (lv_at hl 0 rfl) ?_
  obtain ⟨x1, z1, hf⟩ := ob1_el hf
  refine cV_V C hw (c_X6_blanks l E a_mo mo_code mo_tape mo_text mo_taped mo_size mo_at mo_ill mo_in mo_kind mo_type mo_long1 mo_letters mo_fields mo_kept mo_now mo_many mo_itemKind mo_itemField mo_itemPlace mo_by mo_stepKind mo_stepField mo_stepOperator mo_stepOther mo_stepMany mo_literalType mo_literalFrom mo_literalSize mo_bytes mo_said mo_number mo_pile mo_pilePlace mo_top mo_open x1 z1) cs_X6_130 ⟨Nat.le_of_ble_eq_true rfl, Nat.le_of_ble_eq_true rfl⟩ ⟨rfl, rfl⟩ (ci := 6) (cn := (RX6, TX6, 35)) rfl (q0 := 0) rfl (wn := w_mo E a_mo mo_code mo_tape mo_text mo_taped mo_size x1 mo_ill mo_in mo_kind mo_type mo_long1 mo_letters mo_fields mo_kept mo_now mo_many mo_itemKind mo_itemField mo_itemPlace mo_by mo_stepKind mo_stepField mo_stepOperator mo_stepOther mo_stepMany mo_literalType mo_literalFrom mo_literalSize mo_bytes mo_said mo_number mo_pile mo_pilePlace mo_top mo_open) (Jn.all _ _) rfl hl.1 rfl (Nat.le_of_ble_eq_true rfl) dX6_path_1 ⟨Nat.zero_le _, Nat.zero_le _⟩ (fun H locs hw => ?_)
  refine lv_iconst (v := -1) hx hb dX6_path_4 (by decide) ?_
  refine lv_istore_n (lv' := [(1, .int (-1 : Int32)), (0, .ref (a_mo 0))]) hx hb dX6_path_5 rfl hl (by decide) rfl (fun ls hl => ?_)
  refine lv_iconst (v := 0) hx hb dX6_path_6 (by decide) ?_
  refine lv_istore_n (lv' := [(2, .int (0 : Int32)), (1, .int (-1 : Int32)), (0, .ref (a_mo 0))]) hx hb dX6_path_7 rfl hl (by decide) rfl (fun ls hl => ?_)
  exact w_X6_path_8 C FU hw (lv_sub hl [2, 1, 0] rfl) hf
def f_X6_isFlat_4 : Nat → (Int32) → (Int32) → (Nat → Int32) → (Nat → Int32) → Option ((Int32))
  | 0, _, _, _, _ => none
  | n + 1, l2, l3, mo_in, mo_kind =>
  if l3 = (-1 : Int32) then (some l2)
  else (if l2 = (0 : Int32) then (rd mo_in 64 l3 (fun x1 =>
  f_X6_isFlat_4 n (0 : Int32) x1 mo_in mo_kind))
  else (rd mo_kind 64 l3 (fun x2 =>
  if (2 : Int32) ≤ x2 then (rd mo_in 64 l3 (fun x3 =>
  f_X6_isFlat_4 n (0 : Int32) x3 mo_in mo_kind))
  else (rd mo_in 64 l3 (fun x4 =>
  f_X6_isFlat_4 n (1 : Int32) x4 mo_in mo_kind)))))
set_option maxHeartbeats 4000000 in
set_option maxRecDepth 100000 in
theorem w_X6_isFlat_4 {p : Program} {l : Launch} {e : Env} {s : State} {m : MethodId} {args : Array Value} {below : List Frame} {meth : Method} {c : Code} {E : EnvT} {A : Nat → Prop} {a_mo : Nat → Nat} {Q : State → Prop} {mo_code : Int32} {mo_tape : Nat → Int32} {mo_text : Nat → Int32} {mo_taped : Int32} {mo_size : Int32} {mo_at : Int32} {mo_ill : Int32} {mo_type : Nat → Int32} {mo_long1 : Nat → Int32} {mo_letters : Nat → Int32} {mo_fields : Int32} {mo_kept : Int32} {mo_now : Int32} {mo_many : Nat → Int32} {mo_itemKind : Nat → Int32} {mo_itemField : Nat → Int32} {mo_itemPlace : Nat → Int32} {mo_by : Nat → Int32} {mo_stepKind : Nat → Int32} {mo_stepField : Nat → Int32} {mo_stepOperator : Nat → Int32} {mo_stepOther : Nat → Int32} {mo_stepMany : Nat → Int32} {mo_literalType : Nat → Int32} {mo_literalFrom : Nat → Int32} {mo_literalSize : Nat → Int32} {mo_bytes : Nat → Int32} {mo_said : Nat → Int32} {mo_number : Nat → Int64} {mo_pile : Nat → Int32} {mo_pilePlace : Nat → Int32} {mo_top : Int32} {mo_open : Int32} {q_l2 : Int32} (C : MC p s m args meth c E A cX6_isFlat 4 RX6 (some .boolean)) : ∀ (n : Nat) {l2 : Int32} {l3 : Int32} {mo_in : Nat → Int32} {mo_kind : Nat → Int32} {H : Heap} {locs : List Loc} {ls : Array Slot}, WS E A s (w_mo E a_mo mo_code mo_tape mo_text mo_taped mo_size mo_at mo_ill mo_in mo_kind mo_type mo_long1 mo_letters mo_fields mo_kept mo_now mo_many mo_itemKind mo_itemField mo_itemPlace mo_by mo_stepKind mo_stepField mo_stepOperator mo_stepOther mo_stepMany mo_literalType mo_literalFrom mo_literalSize mo_bytes mo_said mo_number mo_pile mo_pilePlace mo_top mo_open) H locs → lv_has ls 4 [(0, .ref (a_mo 0)), (2, .int l2), (3, .int l3)] → f_X6_isFlat_4 n l2 l3 mo_in mo_kind = some q_l2 → (∀ (H : Heap) (locs : List Loc) (ls : Array Slot), WS E A s (w_mo E a_mo mo_code mo_tape mo_text mo_taped mo_size mo_at mo_ill mo_in mo_kind mo_type mo_long1 mo_letters mo_fields mo_kept mo_now mo_many mo_itemKind mo_itemField mo_itemPlace mo_by mo_stepKind mo_stepField mo_stepOperator mo_stepOther mo_stepMany mo_literalType mo_literalFrom mo_literalSize mo_bytes mo_said mo_number mo_pile mo_pilePlace mo_top mo_open) H locs → lv_has ls 4 [(2, .int q_l2)] → W p l e { frames := 0, cells := 0, slots := 0, locals := 0 } s m args below meth c H locs 0 0 Q (F0 m 39 ls [])) → W p l e { frames := 0, cells := 0, slots := 0, locals := 0 } s m args below meth c H locs 0 0 Q (F0 m 4 ls []) := by
  have hx := C.1
  have hb := C.2.1
  intro n
  induction n with
  | zero =>
    intro l2 l3 mo_in mo_kind H locs ls hw hl hf kk
    unfold f_X6_isFlat_4 at hf
    cases hf
  | succ n ih =>
    intro l2 l3 mo_in mo_kind H locs ls hw hl hf kk
    unfold f_X6_isFlat_4 at hf
    refine lv_iload_n hx hb dX6_isFlat_4 rfl (lv_at hl 2 rfl) ?_
    refine lv_iconst (v := -1) hx hb dX6_isFlat_5 (by decide) ?_
    refine lv_icmp_eq (tgt := 39) hx hb dX6_isFlat_6 (by decide) (fun c6 => ?_) (fun c6 => ?_)
    · replace hf := it_t c6 hf
      cases hf
      exact kk _ _ _ hw (lv_sub hl [1] rfl)
    · replace hf := it_f c6 hf
      refine lv_iload_n hx hb dX6_isFlat_9 rfl (lv_at hl 1 rfl) ?_
      refine lv_if_eq (tgt := 27) hx hb dX6_isFlat_10 (by decide) (fun c10 => ?_) (fun c10 => ?_)
      · replace hf := it_t c10 hf
        refine lv_iconst (v := 0) hx hb dX6_isFlat_27 (by decide) ?_
        refine lv_istore_n (lv' := [(2, .int (0 : Int32)), (0, .ref (a_mo 0)), (3, .int l3)]) hx hb dX6_isFlat_28 rfl hl (by decide) rfl (fun ls hl => ?_)
        refine lv_aload_n hx hb dX6_isFlat_29 rfl (lv_at hl 1 rfl) ?_
        refine fg_X6_16 C hw 0 rfl rfl dX6_isFlat_30 ?_
        refine lv_iload_n hx hb dX6_isFlat_33 rfl (lv_at hl 2 rfl) ?_
        obtain ⟨x1, ex1, gx1, hf⟩ := rd_el hf
        refine ra_i C hw 3 rfl gx1 dX6_isFlat_34 ?_
        refine tp_i ex1 ?_
        refine lv_istore_n (lv' := [(3, .int x1), (2, .int (0 : Int32)), (0, .ref (a_mo 0))]) hx hb dX6_isFlat_35 rfl hl (by decide) rfl (fun ls hl => ?_)
        refine lv_goto (tgt := 4) hx hb dX6_isFlat_36 (by decide) ?_
        exact ih hw (lv_sub hl [2, 1, 0] rfl) hf kk
      · replace hf := it_f c10 hf
        refine lv_aload_n hx hb dX6_isFlat_13 rfl (lv_at hl 0 rfl) ?_
        refine fg_X6_19 C hw 0 rfl rfl dX6_isFlat_14 ?_
        refine lv_iload_n hx hb dX6_isFlat_17 rfl (lv_at hl 2 rfl) ?_
        obtain ⟨x2, ex2, gx2, hf⟩ := rd_el hf
        refine ra_i C hw 4 rfl gx2 dX6_isFlat_18 ?_
        refine tp_i ex2 ?_
        refine lv_iconst (v := 2) hx hb dX6_isFlat_19 (by decide) ?_
        refine lv_icmp_ge (tgt := 27) hx hb dX6_isFlat_20 (by decide) (fun c20 => ?_) (fun c20 => ?_)
        · replace hf := it_t c20 hf
          refine lv_iconst (v := 0) hx hb dX6_isFlat_27 (by decide) ?_
          refine lv_istore_n (lv' := [(2, .int (0 : Int32)), (0, .ref (a_mo 0)), (3, .int l3)]) hx hb dX6_isFlat_28 rfl hl (by decide) rfl (fun ls hl => ?_)
          refine lv_aload_n hx hb dX6_isFlat_29 rfl (lv_at hl 1 rfl) ?_
          refine fg_X6_16 C hw 0 rfl rfl dX6_isFlat_30 ?_
          refine lv_iload_n hx hb dX6_isFlat_33 rfl (lv_at hl 2 rfl) ?_
          obtain ⟨x3, ex3, gx3, hf⟩ := rd_el hf
          refine ra_i C hw 3 rfl gx3 dX6_isFlat_34 ?_
          refine tp_i ex3 ?_
          refine lv_istore_n (lv' := [(3, .int x3), (2, .int (0 : Int32)), (0, .ref (a_mo 0))]) hx hb dX6_isFlat_35 rfl hl (by decide) rfl (fun ls hl => ?_)
          refine lv_goto (tgt := 4) hx hb dX6_isFlat_36 (by decide) ?_
          exact ih hw (lv_sub hl [2, 1, 0] rfl) hf kk
        · replace hf := it_f c20 hf
          refine lv_iconst (v := 1) hx hb dX6_isFlat_23 (by decide) ?_
          refine lv_goto (tgt := 28) hx hb dX6_isFlat_24 (by decide) ?_
          refine lv_istore_n (lv' := [(2, .int (1 : Int32)), (0, .ref (a_mo 0)), (3, .int l3)]) hx hb dX6_isFlat_28 rfl hl (by decide) rfl (fun ls hl => ?_)
          refine lv_aload_n hx hb dX6_isFlat_29 rfl (lv_at hl 1 rfl) ?_
          refine fg_X6_16 C hw 0 rfl rfl dX6_isFlat_30 ?_
          refine lv_iload_n hx hb dX6_isFlat_33 rfl (lv_at hl 2 rfl) ?_
          obtain ⟨x4, ex4, gx4, hf⟩ := rd_el hf
          refine ra_i C hw 3 rfl gx4 dX6_isFlat_34 ?_
          refine tp_i ex4 ?_
          refine lv_istore_n (lv' := [(3, .int x4), (2, .int (1 : Int32)), (0, .ref (a_mo 0))]) hx hb dX6_isFlat_35 rfl hl (by decide) rfl (fun ls hl => ?_)
          refine lv_goto (tgt := 4) hx hb dX6_isFlat_36 (by decide) ?_
          exact ih hw (lv_sub hl [2, 1, 0] rfl) hf kk
def f_X6_isFlat (p1 : Int32) (mo_in : Nat → Int32) (mo_kind : Nat → Int32) : Option ((Int32)) :=
  ob1 (f_X6_isFlat_4 FU (1 : Int32) p1 mo_in mo_kind) (fun x1 =>
  gz x1 (some x1))
set_option maxHeartbeats 4000000 in
set_option maxRecDepth 100000 in
theorem c_X6_isFlat (l : Launch) (E : EnvT) (a_mo : Nat → Nat) (mo_code : Int32) (mo_tape : Nat → Int32) (mo_text : Nat → Int32) (mo_taped : Int32) (mo_size : Int32) (mo_at : Int32) (mo_ill : Int32) (mo_in : Nat → Int32) (mo_kind : Nat → Int32) (mo_type : Nat → Int32) (mo_long1 : Nat → Int32) (mo_letters : Nat → Int32) (mo_fields : Int32) (mo_kept : Int32) (mo_now : Int32) (mo_many : Nat → Int32) (mo_itemKind : Nat → Int32) (mo_itemField : Nat → Int32) (mo_itemPlace : Nat → Int32) (mo_by : Nat → Int32) (mo_stepKind : Nat → Int32) (mo_stepField : Nat → Int32) (mo_stepOperator : Nat → Int32) (mo_stepOther : Nat → Int32) (mo_stepMany : Nat → Int32) (mo_literalType : Nat → Int32) (mo_literalFrom : Nat → Int32) (mo_literalSize : Nat → Int32) (mo_bytes : Nat → Int32) (mo_said : Nat → Int32) (mo_number : Nat → Int64) (mo_pile : Nat → Int32) (mo_pilePlace : Nat → Int32) (mo_top : Int32) (mo_open : Int32) (p1 : Int32) (r : Int32) (hf : f_X6_isFlat p1 mo_in mo_kind = some r) : CI l yX6_isFlat (Cond.code yX6_isFlat cX6_isFlat 4 (some .boolean)) { frames := 0, cells := 0, slots := 0, locals := 0 } E [.ref (a_mo 0), .int p1] (w_mo E a_mo mo_code mo_tape mo_text mo_taped mo_size mo_at mo_ill mo_in mo_kind mo_type mo_long1 mo_letters mo_fields mo_kept mo_now mo_many mo_itemKind mo_itemField mo_itemPlace mo_by mo_stepKind mo_stepField mo_stepOperator mo_stepOther mo_stepMany mo_literalType mo_literalFrom mo_literalSize mo_bytes mo_said mo_number mo_pile mo_pilePlace mo_top mo_open) r (w_mo E a_mo mo_code mo_tape mo_text mo_taped mo_size mo_at mo_ill mo_in mo_kind mo_type mo_long1 mo_letters mo_fields mo_kept mo_now mo_many mo_itemKind mo_itemField mo_itemPlace mo_by mo_stepKind mo_stepField mo_stepOperator mo_stepOther mo_stepMany mo_literalType mo_literalFrom mo_literalSize mo_bytes mo_said mo_number mo_pile mo_pilePlace mo_top mo_open) := by
  intro sz
  refine met_start [(0, .ref (a_mo 0)), (1, .int p1)] (by decide) rfl rfl (Nat.le_of_ble_eq_true rfl) rfl ?_
  intro p e s m below meth c ls C hnm hmt hw hl
  have hx := C.1
  have hb := C.2.1
  generalize va_A (w_mo E a_mo mo_code mo_tape mo_text mo_taped mo_size mo_at mo_ill mo_in mo_kind mo_type mo_long1 mo_letters mo_fields mo_kept mo_now mo_many mo_itemKind mo_itemField mo_itemPlace mo_by mo_stepKind mo_stepField mo_stepOperator mo_stepOther mo_stepMany mo_literalType mo_literalFrom mo_literalSize mo_bytes mo_said mo_number mo_pile mo_pilePlace mo_top mo_open) sz = A at C hw ⊢
  unfold f_X6_isFlat at hf
  refine lv_iconst (v := 1) hx hb dX6_isFlat_0 (by decide) ?_
  refine lv_istore_n (lv' := [(2, .int (1 : Int32)), (0, .ref (a_mo 0)), (1, .int p1)]) hx hb dX6_isFlat_1 rfl hl (by decide) rfl (fun ls hl => ?_)
  refine lv_iload_n hx hb dX6_isFlat_2 rfl (lv_at hl 2 rfl) ?_
  refine lv_istore_n (lv' := [(3, .int p1), (2, .int (1 : Int32)), (0, .ref (a_mo 0)), (1, .int p1)]) hx hb dX6_isFlat_3 rfl hl (by decide) rfl (fun ls hl => ?_)
  obtain ⟨x1, hx1, hf⟩ := ob1_el hf
  refine w_X6_isFlat_4 C FU hw (lv_sub hl [2, 1, 0] rfl) hx1 ?_
  clear hw hl
  intro H locs ls hw hl
  refine lv_iload_n hx hb dX6_isFlat_39 rfl (lv_at hl 0 rfl) ?_
  obtain ⟨hz, hf⟩ := gz_el hf
  cases hf
  exact rt_z C hw hz dX6_isFlat_40
def f_X6_column (mo_text : Nat → Int32) (mo_size : Int32) (mo_at : Int32) (mo_ill : Int32) (mo_in : Nat → Int32) (mo_kind : Nat → Int32) (mo_type : Nat → Int32) (mo_long1 : Nat → Int32) (mo_letters : Nat → Int32) (mo_fields : Int32) : Option ((Int32) × (Int32) × (Int32)) :=
  ob1 (f_X6_blanks mo_text mo_size mo_at) (fun x1 =>
  ob3 (f_X6_path mo_text mo_size x1 mo_ill mo_in mo_long1 mo_letters mo_fields) (fun x2 x3 x4 =>
  if x4 = (-1 : Int32) then (if x2 = (-1 : Int32) then (ob1 (f_X6_fail x1 x4) (fun x5 =>
  some (x2, x3, x5)))
  else (rd mo_type 64 x2 (fun x6 =>
  if x6 = (4 : Int32) then (ob1 (f_X6_fail x1 x4) (fun x7 =>
  some (x2, x3, x7)))
  else (ob1 (f_X6_isFlat x2 mo_in mo_kind) (fun x8 =>
  if x8 = (0 : Int32) then (ob1 (f_X6_fail x1 x4) (fun x9 =>
  some (x2, x3, x9)))
  else (some (x2, x3, x4)))))))
  else (some (x2, x3, x4))))
set_option maxHeartbeats 4000000 in
set_option maxRecDepth 100000 in
theorem c_X6_column (l : Launch) (E : EnvT) (a_mo : Nat → Nat) (mo_code : Int32) (mo_tape : Nat → Int32) (mo_text : Nat → Int32) (mo_taped : Int32) (mo_size : Int32) (mo_at : Int32) (mo_ill : Int32) (mo_in : Nat → Int32) (mo_kind : Nat → Int32) (mo_type : Nat → Int32) (mo_long1 : Nat → Int32) (mo_letters : Nat → Int32) (mo_fields : Int32) (mo_kept : Int32) (mo_now : Int32) (mo_many : Nat → Int32) (mo_itemKind : Nat → Int32) (mo_itemField : Nat → Int32) (mo_itemPlace : Nat → Int32) (mo_by : Nat → Int32) (mo_stepKind : Nat → Int32) (mo_stepField : Nat → Int32) (mo_stepOperator : Nat → Int32) (mo_stepOther : Nat → Int32) (mo_stepMany : Nat → Int32) (mo_literalType : Nat → Int32) (mo_literalFrom : Nat → Int32) (mo_literalSize : Nat → Int32) (mo_bytes : Nat → Int32) (mo_said : Nat → Int32) (mo_number : Nat → Int64) (mo_pile : Nat → Int32) (mo_pilePlace : Nat → Int32) (mo_top : Int32) (mo_open : Int32) (r : Int32) (o_mo_at : Int32) (o_mo_ill : Int32) (hf : f_X6_column mo_text mo_size mo_at mo_ill mo_in mo_kind mo_type mo_long1 mo_letters mo_fields = some (r, o_mo_at, o_mo_ill)) : CI l yX6_column (Cond.code yX6_column cX6_column 3 (some .int)) { frames := 4, cells := 0, slots := 0, locals := 90 } E [.ref (a_mo 0)] (w_mo E a_mo mo_code mo_tape mo_text mo_taped mo_size mo_at mo_ill mo_in mo_kind mo_type mo_long1 mo_letters mo_fields mo_kept mo_now mo_many mo_itemKind mo_itemField mo_itemPlace mo_by mo_stepKind mo_stepField mo_stepOperator mo_stepOther mo_stepMany mo_literalType mo_literalFrom mo_literalSize mo_bytes mo_said mo_number mo_pile mo_pilePlace mo_top mo_open) r (w_mo E a_mo mo_code mo_tape mo_text mo_taped mo_size o_mo_at o_mo_ill mo_in mo_kind mo_type mo_long1 mo_letters mo_fields mo_kept mo_now mo_many mo_itemKind mo_itemField mo_itemPlace mo_by mo_stepKind mo_stepField mo_stepOperator mo_stepOther mo_stepMany mo_literalType mo_literalFrom mo_literalSize mo_bytes mo_said mo_number mo_pile mo_pilePlace mo_top mo_open) := by
  intro sz
  refine met_start [(0, .ref (a_mo 0))] (by decide) rfl rfl (Nat.le_of_ble_eq_true rfl) rfl ?_
  intro p e s m below meth c ls C hnm hmt hw hl
  have hx := C.1
  have hb := C.2.1
  generalize va_A (w_mo E a_mo mo_code mo_tape mo_text mo_taped mo_size mo_at mo_ill mo_in mo_kind mo_type mo_long1 mo_letters mo_fields mo_kept mo_now mo_many mo_itemKind mo_itemField mo_itemPlace mo_by mo_stepKind mo_stepField mo_stepOperator mo_stepOther mo_stepMany mo_literalType mo_literalFrom mo_literalSize mo_bytes mo_said mo_number mo_pile mo_pilePlace mo_top mo_open) sz = A at C hw ⊢
  unfold f_X6_column at hf
  refine lv_aload_n hx hb dX6_column_0 rfl (lv_at hl 0 rfl) ?_
  obtain ⟨x1, z1, hf⟩ := ob1_el hf
  refine cV_V C hw (c_X6_blanks l E a_mo mo_code mo_tape mo_text mo_taped mo_size mo_at mo_ill mo_in mo_kind mo_type mo_long1 mo_letters mo_fields mo_kept mo_now mo_many mo_itemKind mo_itemField mo_itemPlace mo_by mo_stepKind mo_stepField mo_stepOperator mo_stepOther mo_stepMany mo_literalType mo_literalFrom mo_literalSize mo_bytes mo_said mo_number mo_pile mo_pilePlace mo_top mo_open x1 z1) cs_X6_130 ⟨Nat.le_of_ble_eq_true rfl, Nat.le_of_ble_eq_true rfl⟩ ⟨rfl, rfl⟩ (ci := 6) (cn := (RX6, TX6, 35)) rfl (q0 := 0) rfl (wn := w_mo E a_mo mo_code mo_tape mo_text mo_taped mo_size x1 mo_ill mo_in mo_kind mo_type mo_long1 mo_letters mo_fields mo_kept mo_now mo_many mo_itemKind mo_itemField mo_itemPlace mo_by mo_stepKind mo_stepField mo_stepOperator mo_stepOther mo_stepMany mo_literalType mo_literalFrom mo_literalSize mo_bytes mo_said mo_number mo_pile mo_pilePlace mo_top mo_open) (Jn.all _ _) rfl hl.1 rfl (Nat.le_of_ble_eq_true rfl) dX6_column_1 ⟨Nat.zero_le _, Nat.zero_le _⟩ (fun H locs hw => ?_)
  refine lv_aload_n hx hb dX6_column_4 rfl (lv_at hl 0 rfl) ?_
  refine fg_X6_99 C hw 0 rfl rfl dX6_column_5 ?_
  refine lv_istore_n (lv' := [(1, .int x1), (0, .ref (a_mo 0))]) hx hb dX6_column_8 rfl hl (by decide) rfl (fun ls hl => ?_)
  refine lv_aload_n hx hb dX6_column_9 rfl (lv_at hl 1 rfl) ?_
  obtain ⟨x2, x3, x4, z4, hf⟩ := ob3_el hf
  refine cI_V C hw (c_X6_path l E a_mo mo_code mo_tape mo_text mo_taped mo_size x1 mo_ill mo_in mo_kind mo_type mo_long1 mo_letters mo_fields mo_kept mo_now mo_many mo_itemKind mo_itemField mo_itemPlace mo_by mo_stepKind mo_stepField mo_stepOperator mo_stepOther mo_stepMany mo_literalType mo_literalFrom mo_literalSize mo_bytes mo_said mo_number mo_pile mo_pilePlace mo_top mo_open x2 x3 x4 z4) cs_X6_183 ⟨Nat.le_of_ble_eq_true rfl, Nat.le_of_ble_eq_true rfl⟩ ⟨rfl, rfl⟩ (ci := 6) (cn := (RX6, TX6, 35)) rfl (q0 := 0) rfl (wn := w_mo E a_mo mo_code mo_tape mo_text mo_taped mo_size x3 x4 mo_in mo_kind mo_type mo_long1 mo_letters mo_fields mo_kept mo_now mo_many mo_itemKind mo_itemField mo_itemPlace mo_by mo_stepKind mo_stepField mo_stepOperator mo_stepOther mo_stepMany mo_literalType mo_literalFrom mo_literalSize mo_bytes mo_said mo_number mo_pile mo_pilePlace mo_top mo_open) (Jn.all _ _) rfl hl.1 rfl (Nat.le_of_ble_eq_true rfl) dX6_column_10 ⟨Nat.zero_le _, Nat.zero_le _⟩ (fun H locs hw => ?_)
  refine lv_istore_n (lv' := [(2, .int x2), (1, .int x1), (0, .ref (a_mo 0))]) hx hb dX6_column_13 rfl hl (by decide) rfl (fun ls hl => ?_)
  refine lv_aload_n hx hb dX6_column_14 rfl (lv_at hl 2 rfl) ?_
  refine fg_X6_102 C hw 0 rfl rfl dX6_column_15 ?_
  refine lv_iconst (v := -1) hx hb dX6_column_18 (by decide) ?_
  refine lv_icmp_ne (tgt := 50) hx hb dX6_column_19 (by decide) (fun c19 => ?_) (fun c19 => ?_)
  · replace hf := it_f c19 hf
    refine lv_iload_n hx hb dX6_column_50 rfl (lv_at hl 0 rfl) ?_
    cases hf
    exact rt_i C hw dX6_column_51
  · replace hf := it_t c19 hf
    refine lv_iload_n hx hb dX6_column_22 rfl (lv_at hl 0 rfl) ?_
    refine lv_iconst (v := -1) hx hb dX6_column_23 (by decide) ?_
    refine lv_icmp_eq (tgt := 45) hx hb dX6_column_24 (by decide) (fun c24 => ?_) (fun c24 => ?_)
    · replace hf := it_t c24 hf
      refine lv_aload_n hx hb dX6_column_45 rfl (lv_at hl 2 rfl) ?_
      refine lv_iload_n hx hb dX6_column_46 rfl (lv_at hl 1 rfl) ?_
      obtain ⟨x5, z5, hf⟩ := ob1_el hf
      refine cV_V C hw (c_X6_fail l E a_mo mo_code mo_tape mo_text mo_taped mo_size x3 x4 mo_in mo_kind mo_type mo_long1 mo_letters mo_fields mo_kept mo_now mo_many mo_itemKind mo_itemField mo_itemPlace mo_by mo_stepKind mo_stepField mo_stepOperator mo_stepOther mo_stepMany mo_literalType mo_literalFrom mo_literalSize mo_bytes mo_said mo_number mo_pile mo_pilePlace mo_top mo_open x1 x5 z5) cs_X6_144 ⟨Nat.le_of_ble_eq_true rfl, Nat.le_of_ble_eq_true rfl⟩ ⟨rfl, rfl⟩ (ci := 6) (cn := (RX6, TX6, 35)) rfl (q0 := 0) rfl (wn := w_mo E a_mo mo_code mo_tape mo_text mo_taped mo_size x3 x5 mo_in mo_kind mo_type mo_long1 mo_letters mo_fields mo_kept mo_now mo_many mo_itemKind mo_itemField mo_itemPlace mo_by mo_stepKind mo_stepField mo_stepOperator mo_stepOther mo_stepMany mo_literalType mo_literalFrom mo_literalSize mo_bytes mo_said mo_number mo_pile mo_pilePlace mo_top mo_open) (Jn.all _ _) rfl hl.1 rfl (Nat.le_of_ble_eq_true rfl) dX6_column_47 ⟨Nat.zero_le _, Nat.zero_le _⟩ (fun H locs hw => ?_)
      refine lv_iload_n hx hb dX6_column_50 rfl (lv_at hl 0 rfl) ?_
      cases hf
      exact rt_i C hw dX6_column_51
    · replace hf := it_f c24 hf
      refine lv_aload_n hx hb dX6_column_27 rfl (lv_at hl 2 rfl) ?_
      refine fg_X6_22 C hw 0 rfl rfl dX6_column_28 ?_
      refine lv_iload_n hx hb dX6_column_31 rfl (lv_at hl 0 rfl) ?_
      obtain ⟨x6, ex6, gx6, hf⟩ := rd_el hf
      refine ra_i C hw 5 rfl gx6 dX6_column_32 ?_
      refine tp_i ex6 ?_
      refine lv_iconst (v := 4) hx hb dX6_column_33 (by decide) ?_
      refine lv_icmp_eq (tgt := 45) hx hb dX6_column_34 (by decide) (fun c34 => ?_) (fun c34 => ?_)
      · replace hf := it_t c34 hf
        refine lv_aload_n hx hb dX6_column_45 rfl (lv_at hl 2 rfl) ?_
        refine lv_iload_n hx hb dX6_column_46 rfl (lv_at hl 1 rfl) ?_
        obtain ⟨x7, z7, hf⟩ := ob1_el hf
        refine cV_V C hw (c_X6_fail l E a_mo mo_code mo_tape mo_text mo_taped mo_size x3 x4 mo_in mo_kind mo_type mo_long1 mo_letters mo_fields mo_kept mo_now mo_many mo_itemKind mo_itemField mo_itemPlace mo_by mo_stepKind mo_stepField mo_stepOperator mo_stepOther mo_stepMany mo_literalType mo_literalFrom mo_literalSize mo_bytes mo_said mo_number mo_pile mo_pilePlace mo_top mo_open x1 x7 z7) cs_X6_144 ⟨Nat.le_of_ble_eq_true rfl, Nat.le_of_ble_eq_true rfl⟩ ⟨rfl, rfl⟩ (ci := 6) (cn := (RX6, TX6, 35)) rfl (q0 := 0) rfl (wn := w_mo E a_mo mo_code mo_tape mo_text mo_taped mo_size x3 x7 mo_in mo_kind mo_type mo_long1 mo_letters mo_fields mo_kept mo_now mo_many mo_itemKind mo_itemField mo_itemPlace mo_by mo_stepKind mo_stepField mo_stepOperator mo_stepOther mo_stepMany mo_literalType mo_literalFrom mo_literalSize mo_bytes mo_said mo_number mo_pile mo_pilePlace mo_top mo_open) (Jn.all _ _) rfl hl.1 rfl (Nat.le_of_ble_eq_true rfl) dX6_column_47 ⟨Nat.zero_le _, Nat.zero_le _⟩ (fun H locs hw => ?_)
        refine lv_iload_n hx hb dX6_column_50 rfl (lv_at hl 0 rfl) ?_
        cases hf
        exact rt_i C hw dX6_column_51
      · replace hf := it_f c34 hf
        refine lv_aload_n hx hb dX6_column_37 rfl (lv_at hl 2 rfl) ?_
        refine lv_iload_n hx hb dX6_column_38 rfl (lv_at hl 0 rfl) ?_
        obtain ⟨x8, z8, hf⟩ := ob1_el hf
        refine cI_V C hw (c_X6_isFlat l E a_mo mo_code mo_tape mo_text mo_taped mo_size x3 x4 mo_in mo_kind mo_type mo_long1 mo_letters mo_fields mo_kept mo_now mo_many mo_itemKind mo_itemField mo_itemPlace mo_by mo_stepKind mo_stepField mo_stepOperator mo_stepOther mo_stepMany mo_literalType mo_literalFrom mo_literalSize mo_bytes mo_said mo_number mo_pile mo_pilePlace mo_top mo_open x2 x8 z8) cs_X6_186 ⟨Nat.le_of_ble_eq_true rfl, Nat.le_of_ble_eq_true rfl⟩ ⟨rfl, rfl⟩ (ci := 6) (cn := (RX6, TX6, 35)) rfl (q0 := 0) rfl (wn := w_mo E a_mo mo_code mo_tape mo_text mo_taped mo_size x3 x4 mo_in mo_kind mo_type mo_long1 mo_letters mo_fields mo_kept mo_now mo_many mo_itemKind mo_itemField mo_itemPlace mo_by mo_stepKind mo_stepField mo_stepOperator mo_stepOther mo_stepMany mo_literalType mo_literalFrom mo_literalSize mo_bytes mo_said mo_number mo_pile mo_pilePlace mo_top mo_open) (Jn.all _ _) rfl hl.1 rfl (Nat.le_of_ble_eq_true rfl) dX6_column_39 ⟨Nat.zero_le _, Nat.zero_le _⟩ (fun H locs hw => ?_)
        refine lv_if_ne (tgt := 50) hx hb dX6_column_42 (by decide) (fun c42 => ?_) (fun c42 => ?_)
        · replace hf := it_f c42 hf
          refine lv_iload_n hx hb dX6_column_50 rfl (lv_at hl 0 rfl) ?_
          cases hf
          exact rt_i C hw dX6_column_51
        · replace hf := it_t c42 hf
          refine lv_aload_n hx hb dX6_column_45 rfl (lv_at hl 2 rfl) ?_
          refine lv_iload_n hx hb dX6_column_46 rfl (lv_at hl 1 rfl) ?_
          obtain ⟨x9, z9, hf⟩ := ob1_el hf
          refine cV_V C hw (c_X6_fail l E a_mo mo_code mo_tape mo_text mo_taped mo_size x3 x4 mo_in mo_kind mo_type mo_long1 mo_letters mo_fields mo_kept mo_now mo_many mo_itemKind mo_itemField mo_itemPlace mo_by mo_stepKind mo_stepField mo_stepOperator mo_stepOther mo_stepMany mo_literalType mo_literalFrom mo_literalSize mo_bytes mo_said mo_number mo_pile mo_pilePlace mo_top mo_open x1 x9 z9) cs_X6_144 ⟨Nat.le_of_ble_eq_true rfl, Nat.le_of_ble_eq_true rfl⟩ ⟨rfl, rfl⟩ (ci := 6) (cn := (RX6, TX6, 35)) rfl (q0 := 0) rfl (wn := w_mo E a_mo mo_code mo_tape mo_text mo_taped mo_size x3 x9 mo_in mo_kind mo_type mo_long1 mo_letters mo_fields mo_kept mo_now mo_many mo_itemKind mo_itemField mo_itemPlace mo_by mo_stepKind mo_stepField mo_stepOperator mo_stepOther mo_stepMany mo_literalType mo_literalFrom mo_literalSize mo_bytes mo_said mo_number mo_pile mo_pilePlace mo_top mo_open) (Jn.all _ _) rfl hl.1 rfl (Nat.le_of_ble_eq_true rfl) dX6_column_47 ⟨Nat.zero_le _, Nat.zero_le _⟩ (fun H locs hw => ?_)
          refine lv_iload_n hx hb dX6_column_50 rfl (lv_at hl 0 rfl) ?_
          cases hf
          exact rt_i C hw dX6_column_51
def f_X6_isWhole (p0 : Int32) : Option ((Int32)) :=
  if p0 = (1 : Int32) then (some (1 : Int32))
  else (if p0 = (2 : Int32) then (some (1 : Int32))
  else (some (0 : Int32)))
set_option maxHeartbeats 4000000 in
set_option maxRecDepth 100000 in
theorem c_X6_isWhole (l : Launch) (E : EnvT) (p0 : Int32) (r : Int32) (hf : f_X6_isWhole p0 = some r) : CI l yX6_isWhole (Cond.code yX6_isWhole cX6_isWhole 1 (some .boolean)) { frames := 0, cells := 0, slots := 0, locals := 0 } E [.int p0] ([]) r ([]) := by
  intro sz
  refine met_start [(0, .int p0)] (by decide) rfl rfl (Nat.le_of_ble_eq_true rfl) rfl ?_
  intro p e s m below meth c ls C hnm hmt hw hl
  have hx := C.1
  have hb := C.2.1
  generalize va_A ([]) sz = A at C hw ⊢
  unfold f_X6_isWhole at hf
  refine lv_iload_n hx hb dX6_isWhole_0 rfl (lv_at hl 0 rfl) ?_
  refine lv_iconst (v := 1) hx hb dX6_isWhole_1 (by decide) ?_
  refine lv_icmp_eq (tgt := 10) hx hb dX6_isWhole_2 (by decide) (fun c2 => ?_) (fun c2 => ?_)
  · replace hf := it_t c2 hf
    refine lv_iconst (v := 1) hx hb dX6_isWhole_10 (by decide) ?_
    refine lv_goto (tgt := 15) hx hb dX6_isWhole_11 (by decide) ?_
    cases hf
    exact rt_z C hw (Or.inr rfl) dX6_isWhole_15
  · replace hf := it_f c2 hf
    refine lv_iload_n hx hb dX6_isWhole_5 rfl (lv_at hl 0 rfl) ?_
    refine lv_iconst (v := 2) hx hb dX6_isWhole_6 (by decide) ?_
    refine lv_icmp_ne (tgt := 14) hx hb dX6_isWhole_7 (by decide) (fun c7 => ?_) (fun c7 => ?_)
    · replace hf := it_f c7 hf
      refine lv_iconst (v := 0) hx hb dX6_isWhole_14 (by decide) ?_
      cases hf
      exact rt_z C hw (Or.inl rfl) dX6_isWhole_15
    · replace hf := it_t c7 hf
      refine lv_iconst (v := 1) hx hb dX6_isWhole_10 (by decide) ?_
      refine lv_goto (tgt := 15) hx hb dX6_isWhole_11 (by decide) ?_
      cases hf
      exact rt_z C hw (Or.inr rfl) dX6_isWhole_15
def f_X6_readItem_214 (l1 : Int32) (l2 : Int32) (l3 : Int32) (l4 : Int32) (mo_at : Int32) (mo_ill : Int32) (mo_now : Int32) (mo_many : Nat → Int32) (mo_itemKind : Nat → Int32) (mo_itemField : Nat → Int32) (mo_itemPlace : Nat → Int32) : Option ((Int32) × (Int32) × (Nat → Int32) × (Nat → Int32) × (Nat → Int32) × (Nat → Int32)) :=
  if mo_ill = (-1 : Int32) then (wr mo_itemKind 32 (((16 : Int32) * mo_now) + l2) l3 (fun x1 =>
  wr mo_itemField 32 (((16 : Int32) * mo_now) + l2) l4 (fun x2 =>
  wr mo_itemPlace 32 (((16 : Int32) * mo_now) + l2) l1 (fun x3 =>
  on ((4 : Int32) * mo_now) (fun x4 =>
  rd mo_many 8 x4 (fun x5 =>
  on (x5 + (1 : Int32)) (fun x6 =>
  wr mo_many 8 x4 x6 (fun x7 =>
  some (mo_at, mo_ill, x7, x1, x2, x3)))))))))
  else (some (mo_at, mo_ill, mo_many, mo_itemKind, mo_itemField, mo_itemPlace))
set_option maxHeartbeats 4000000 in
set_option maxRecDepth 100000 in
theorem w_X6_readItem_214 {p : Program} {l : Launch} {e : Env} {s : State} {m : MethodId} {args : Array Value} {below : List Frame} {meth : Method} {c : Code} {E : EnvT} {A : Nat → Prop} {a_mo : Nat → Nat} {mo_code : Int32} {mo_tape : Nat → Int32} {mo_text : Nat → Int32} {mo_taped : Int32} {mo_size : Int32} {mo_in : Nat → Int32} {mo_kind : Nat → Int32} {mo_type : Nat → Int32} {mo_long1 : Nat → Int32} {mo_letters : Nat → Int32} {mo_fields : Int32} {mo_kept : Int32} {mo_by : Nat → Int32} {mo_stepKind : Nat → Int32} {mo_stepField : Nat → Int32} {mo_stepOperator : Nat → Int32} {mo_stepOther : Nat → Int32} {mo_stepMany : Nat → Int32} {mo_literalType : Nat → Int32} {mo_literalFrom : Nat → Int32} {mo_literalSize : Nat → Int32} {mo_bytes : Nat → Int32} {mo_said : Nat → Int32} {mo_number : Nat → Int64} {mo_pile : Nat → Int32} {mo_pilePlace : Nat → Int32} {mo_top : Int32} {mo_open : Int32} {o_mo_at : Int32} {o_mo_ill : Int32} {o_mo_many : Nat → Int32} {o_mo_itemKind : Nat → Int32} {o_mo_itemField : Nat → Int32} {o_mo_itemPlace : Nat → Int32} {l1 : Int32} {l2 : Int32} {l3 : Int32} {l4 : Int32} {mo_at : Int32} {mo_ill : Int32} {mo_now : Int32} {mo_many : Nat → Int32} {mo_itemKind : Nat → Int32} {mo_itemField : Nat → Int32} {mo_itemPlace : Nat → Int32} {H : Heap} {locs : List Loc} {ls : Array Slot} (C : MC p s m args meth c E A cX6_readItem 6 RX6 none) (hw : WS E A s (w_mo E a_mo mo_code mo_tape mo_text mo_taped mo_size mo_at mo_ill mo_in mo_kind mo_type mo_long1 mo_letters mo_fields mo_kept mo_now mo_many mo_itemKind mo_itemField mo_itemPlace mo_by mo_stepKind mo_stepField mo_stepOperator mo_stepOther mo_stepMany mo_literalType mo_literalFrom mo_literalSize mo_bytes mo_said mo_number mo_pile mo_pilePlace mo_top mo_open) H locs) (hl : lv_has ls 6 [(0, .ref (a_mo 0)), (1, .int l1), (2, .int l2), (3, .int l3), (4, .int l4)]) (hf : f_X6_readItem_214 l1 l2 l3 l4 mo_at mo_ill mo_now mo_many mo_itemKind mo_itemField mo_itemPlace = some (o_mo_at, o_mo_ill, o_mo_many, o_mo_itemKind, o_mo_itemField, o_mo_itemPlace)) : W p l e { frames := 5, cells := 0, slots := 0, locals := 112 } s m args below meth c H locs 0 0 (MQ below (QcV E A (w_mo E a_mo mo_code mo_tape mo_text mo_taped mo_size o_mo_at o_mo_ill mo_in mo_kind mo_type mo_long1 mo_letters mo_fields mo_kept mo_now o_mo_many o_mo_itemKind o_mo_itemField o_mo_itemPlace mo_by mo_stepKind mo_stepField mo_stepOperator mo_stepOther mo_stepMany mo_literalType mo_literalFrom mo_literalSize mo_bytes mo_said mo_number mo_pile mo_pilePlace mo_top mo_open)) args s 0 0 A) (F0 m 214 ls []) := by
  have hx := C.1
  have hb := C.2.1
  unfold f_X6_readItem_214 at hf
  refine lv_aload_n hx hb dX6_readItem_214 rfl (lv_at hl 0 rfl) ?_
  refine fg_X6_102 C hw 0 rfl rfl dX6_readItem_215 ?_
  refine lv_iconst (v := -1) hx hb dX6_readItem_218 (by decide) ?_
  refine lv_icmp_eq (tgt := 223) hx hb dX6_readItem_219 (by decide) (fun c219 => ?_) (fun c219 => ?_)
  · replace hf := it_t c219 hf
    refine lv_aload_n hx hb dX6_readItem_223 rfl (lv_at hl 0 rfl) ?_
    refine fg_X6_38 C hw 0 rfl rfl dX6_readItem_224 ?_
    refine lv_bipush (v := 16) hx hb dX6_readItem_227 (by decide) ?_
    refine lv_aload_n hx hb dX6_readItem_229 rfl (lv_at hl 0 rfl) ?_
    refine fg_X6_189 C hw 0 rfl rfl dX6_readItem_230 ?_
    refine lv_imul hx hb dX6_readItem_233 ?_
    refine lv_iload_n hx hb dX6_readItem_234 rfl (lv_at hl 2 rfl) ?_
    refine lv_iadd hx hb dX6_readItem_235 ?_
    refine lv_iload_n hx hb dX6_readItem_236 rfl (lv_at hl 3 rfl) ?_
    obtain ⟨x1, ex1, gx1, hf⟩ := wr_el hf
    refine rs_i C hw 9 rfl gx1 (ws' := w_mo E a_mo mo_code mo_tape mo_text mo_taped mo_size mo_at mo_ill mo_in mo_kind mo_type mo_long1 mo_letters mo_fields mo_kept mo_now mo_many x1 mo_itemField mo_itemPlace mo_by mo_stepKind mo_stepField mo_stepOperator mo_stepOther mo_stepMany mo_literalType mo_literalFrom mo_literalSize mo_bytes mo_said mo_number mo_pile mo_pilePlace mo_top mo_open) (by subst ex1; rfl) dX6_readItem_237 (fun H locs hw => ?_)
    refine lv_aload_n hx hb dX6_readItem_238 rfl (lv_at hl 0 rfl) ?_
    refine fg_X6_41 C hw 0 rfl rfl dX6_readItem_239 ?_
    refine lv_bipush (v := 16) hx hb dX6_readItem_242 (by decide) ?_
    refine lv_aload_n hx hb dX6_readItem_244 rfl (lv_at hl 0 rfl) ?_
    refine fg_X6_189 C hw 0 rfl rfl dX6_readItem_245 ?_
    refine lv_imul hx hb dX6_readItem_248 ?_
    refine lv_iload_n hx hb dX6_readItem_249 rfl (lv_at hl 2 rfl) ?_
    refine lv_iadd hx hb dX6_readItem_250 ?_
    refine lv_iload hx hb dX6_readItem_251 (lv_at hl 4 rfl) ?_
    obtain ⟨x2, ex2, gx2, hf⟩ := wr_el hf
    refine rs_i C hw 10 rfl gx2 (ws' := w_mo E a_mo mo_code mo_tape mo_text mo_taped mo_size mo_at mo_ill mo_in mo_kind mo_type mo_long1 mo_letters mo_fields mo_kept mo_now mo_many x1 x2 mo_itemPlace mo_by mo_stepKind mo_stepField mo_stepOperator mo_stepOther mo_stepMany mo_literalType mo_literalFrom mo_literalSize mo_bytes mo_said mo_number mo_pile mo_pilePlace mo_top mo_open) (by subst ex2; rfl) dX6_readItem_253 (fun H locs hw => ?_)
    refine lv_aload_n hx hb dX6_readItem_254 rfl (lv_at hl 0 rfl) ?_
    refine fg_X6_44 C hw 0 rfl rfl dX6_readItem_255 ?_
    refine lv_bipush (v := 16) hx hb dX6_readItem_258 (by decide) ?_
    refine lv_aload_n hx hb dX6_readItem_260 rfl (lv_at hl 0 rfl) ?_
    refine fg_X6_189 C hw 0 rfl rfl dX6_readItem_261 ?_
    refine lv_imul hx hb dX6_readItem_264 ?_
    refine lv_iload_n hx hb dX6_readItem_265 rfl (lv_at hl 2 rfl) ?_
    refine lv_iadd hx hb dX6_readItem_266 ?_
    refine lv_iload_n hx hb dX6_readItem_267 rfl (lv_at hl 1 rfl) ?_
    obtain ⟨x3, ex3, gx3, hf⟩ := wr_el hf
    refine rs_i C hw 11 rfl gx3 (ws' := w_mo E a_mo mo_code mo_tape mo_text mo_taped mo_size mo_at mo_ill mo_in mo_kind mo_type mo_long1 mo_letters mo_fields mo_kept mo_now mo_many x1 x2 x3 mo_by mo_stepKind mo_stepField mo_stepOperator mo_stepOther mo_stepMany mo_literalType mo_literalFrom mo_literalSize mo_bytes mo_said mo_number mo_pile mo_pilePlace mo_top mo_open) (by subst ex3; rfl) dX6_readItem_268 (fun H locs hw => ?_)
    refine lv_aload_n hx hb dX6_readItem_269 rfl (lv_at hl 0 rfl) ?_
    refine fg_X6_35 C hw 0 rfl rfl dX6_readItem_270 ?_
    refine lv_iconst (v := 4) hx hb dX6_readItem_273 (by decide) ?_
    refine lv_aload_n hx hb dX6_readItem_274 rfl (lv_at hl 0 rfl) ?_
    refine fg_X6_189 C hw 0 rfl rfl dX6_readItem_275 ?_
    refine lv_imul hx hb dX6_readItem_278 ?_
    obtain ⟨x4, ex4, hf⟩ := on_el hf
    refine tp_i ex4 ?_
    refine lv_dup2_11 hx hb dX6_readItem_279 rfl rfl ?_
    obtain ⟨x5, ex5, gx5, hf⟩ := rd_el hf
    refine ra_i C hw 8 rfl gx5 dX6_readItem_280 ?_
    refine tp_i ex5 ?_
    refine lv_iconst (v := 1) hx hb dX6_readItem_281 (by decide) ?_
    refine lv_iadd hx hb dX6_readItem_282 ?_
    obtain ⟨x6, ex6, hf⟩ := on_el hf
    refine tp_i ex6 ?_
    obtain ⟨x7, ex7, gx7, hf⟩ := wr_el hf
    refine rs_i C hw 8 rfl gx7 (ws' := w_mo E a_mo mo_code mo_tape mo_text mo_taped mo_size mo_at mo_ill mo_in mo_kind mo_type mo_long1 mo_letters mo_fields mo_kept mo_now x7 x1 x2 x3 mo_by mo_stepKind mo_stepField mo_stepOperator mo_stepOther mo_stepMany mo_literalType mo_literalFrom mo_literalSize mo_bytes mo_said mo_number mo_pile mo_pilePlace mo_top mo_open) (by subst ex7; rfl) dX6_readItem_283 (fun H locs hw => ?_)
    cases hf
    exact rt_v C hw dX6_readItem_284
  · replace hf := it_f c219 hf
    cases hf
    exact rt_v C hw dX6_readItem_222
def f_X6_readItem_208 (l1 : Int32) (l2 : Int32) (l3 : Int32) (l4 : Int32) (mo_text : Nat → Int32) (mo_size : Int32) (mo_at : Int32) (mo_ill : Int32) (mo_now : Int32) (mo_many : Nat → Int32) (mo_itemKind : Nat → Int32) (mo_itemField : Nat → Int32) (mo_itemPlace : Nat → Int32) : Option ((Int32) × (Int32) × (Nat → Int32) × (Nat → Int32) × (Nat → Int32) × (Nat → Int32)) :=
  ob2 (f_X6_wantSign (41 : Int32) mo_text mo_size mo_at mo_ill) (fun x1 x2 =>
  f_X6_readItem_214 l1 l2 l3 l4 x1 x2 mo_now mo_many mo_itemKind mo_itemField mo_itemPlace)
set_option maxHeartbeats 4000000 in
set_option maxRecDepth 100000 in
theorem w_X6_readItem_208 {p : Program} {l : Launch} {e : Env} {s : State} {m : MethodId} {args : Array Value} {below : List Frame} {meth : Method} {c : Code} {E : EnvT} {A : Nat → Prop} {a_mo : Nat → Nat} {mo_code : Int32} {mo_tape : Nat → Int32} {mo_taped : Int32} {mo_in : Nat → Int32} {mo_kind : Nat → Int32} {mo_type : Nat → Int32} {mo_long1 : Nat → Int32} {mo_letters : Nat → Int32} {mo_fields : Int32} {mo_kept : Int32} {mo_by : Nat → Int32} {mo_stepKind : Nat → Int32} {mo_stepField : Nat → Int32} {mo_stepOperator : Nat → Int32} {mo_stepOther : Nat → Int32} {mo_stepMany : Nat → Int32} {mo_literalType : Nat → Int32} {mo_literalFrom : Nat → Int32} {mo_literalSize : Nat → Int32} {mo_bytes : Nat → Int32} {mo_said : Nat → Int32} {mo_number : Nat → Int64} {mo_pile : Nat → Int32} {mo_pilePlace : Nat → Int32} {mo_top : Int32} {mo_open : Int32} {o_mo_at : Int32} {o_mo_ill : Int32} {o_mo_many : Nat → Int32} {o_mo_itemKind : Nat → Int32} {o_mo_itemField : Nat → Int32} {o_mo_itemPlace : Nat → Int32} {l1 : Int32} {l2 : Int32} {l3 : Int32} {l4 : Int32} {mo_text : Nat → Int32} {mo_size : Int32} {mo_at : Int32} {mo_ill : Int32} {mo_now : Int32} {mo_many : Nat → Int32} {mo_itemKind : Nat → Int32} {mo_itemField : Nat → Int32} {mo_itemPlace : Nat → Int32} {H : Heap} {locs : List Loc} {ls : Array Slot} (C : MC p s m args meth c E A cX6_readItem 6 RX6 none) (hw : WS E A s (w_mo E a_mo mo_code mo_tape mo_text mo_taped mo_size mo_at mo_ill mo_in mo_kind mo_type mo_long1 mo_letters mo_fields mo_kept mo_now mo_many mo_itemKind mo_itemField mo_itemPlace mo_by mo_stepKind mo_stepField mo_stepOperator mo_stepOther mo_stepMany mo_literalType mo_literalFrom mo_literalSize mo_bytes mo_said mo_number mo_pile mo_pilePlace mo_top mo_open) H locs) (hl : lv_has ls 6 [(0, .ref (a_mo 0)), (1, .int l1), (2, .int l2), (3, .int l3), (4, .int l4)]) (hf : f_X6_readItem_208 l1 l2 l3 l4 mo_text mo_size mo_at mo_ill mo_now mo_many mo_itemKind mo_itemField mo_itemPlace = some (o_mo_at, o_mo_ill, o_mo_many, o_mo_itemKind, o_mo_itemField, o_mo_itemPlace)) : W p l e { frames := 5, cells := 0, slots := 0, locals := 112 } s m args below meth c H locs 0 0 (MQ below (QcV E A (w_mo E a_mo mo_code mo_tape mo_text mo_taped mo_size o_mo_at o_mo_ill mo_in mo_kind mo_type mo_long1 mo_letters mo_fields mo_kept mo_now o_mo_many o_mo_itemKind o_mo_itemField o_mo_itemPlace mo_by mo_stepKind mo_stepField mo_stepOperator mo_stepOther mo_stepMany mo_literalType mo_literalFrom mo_literalSize mo_bytes mo_said mo_number mo_pile mo_pilePlace mo_top mo_open)) args s 0 0 A) (F0 m 208 ls []) := by
  have hx := C.1
  have hb := C.2.1
  unfold f_X6_readItem_208 at hf
  refine lv_aload_n hx hb dX6_readItem_208 rfl (lv_at hl 0 rfl) ?_
  refine lv_bipush (v := 41) hx hb dX6_readItem_209 (by decide) ?_
  obtain ⟨x1, x2, z2, hf⟩ := ob2_el hf
  refine cV_V C hw (c_X6_wantSign l E a_mo mo_code mo_tape mo_text mo_taped mo_size mo_at mo_ill mo_in mo_kind mo_type mo_long1 mo_letters mo_fields mo_kept mo_now mo_many mo_itemKind mo_itemField mo_itemPlace mo_by mo_stepKind mo_stepField mo_stepOperator mo_stepOther mo_stepMany mo_literalType mo_literalFrom mo_literalSize mo_bytes mo_said mo_number mo_pile mo_pilePlace mo_top mo_open (41 : Int32) x1 x2 z2) cs_X6_195 ⟨Nat.le_of_ble_eq_true rfl, Nat.le_of_ble_eq_true rfl⟩ ⟨rfl, rfl⟩ (ci := 6) (cn := (RX6, TX6, 35)) rfl (q0 := 0) rfl (wn := w_mo E a_mo mo_code mo_tape mo_text mo_taped mo_size x1 x2 mo_in mo_kind mo_type mo_long1 mo_letters mo_fields mo_kept mo_now mo_many mo_itemKind mo_itemField mo_itemPlace mo_by mo_stepKind mo_stepField mo_stepOperator mo_stepOther mo_stepMany mo_literalType mo_literalFrom mo_literalSize mo_bytes mo_said mo_number mo_pile mo_pilePlace mo_top mo_open) (Jn.all _ _) rfl hl.1 rfl (Nat.le_of_ble_eq_true rfl) dX6_readItem_211 ⟨Nat.zero_le _, Nat.zero_le _⟩ (fun H locs hw => ?_)
  exact w_X6_readItem_214 C hw (lv_sub hl [0, 1, 2, 3, 4] rfl) hf
def f_X6_readItem_153 (l1 : Int32) (l2 : Int32) (s0 : Int32) (mo_text : Nat → Int32) (mo_size : Int32) (mo_at : Int32) (mo_ill : Int32) (mo_in : Nat → Int32) (mo_kind : Nat → Int32) (mo_type : Nat → Int32) (mo_long1 : Nat → Int32) (mo_letters : Nat → Int32) (mo_fields : Int32) (mo_now : Int32) (mo_many : Nat → Int32) (mo_itemKind : Nat → Int32) (mo_itemField : Nat → Int32) (mo_itemPlace : Nat → Int32) : Option ((Int32) × (Int32) × (Nat → Int32) × (Nat → Int32) × (Nat → Int32) × (Nat → Int32)) :=
  ob2 (f_X6_wantSign (40 : Int32) mo_text mo_size mo_at mo_ill) (fun x1 x2 =>
  ob1 (f_X6_blanks mo_text mo_size x1) (fun x3 =>
  ob3 (f_X6_column mo_text mo_size x3 x2 mo_in mo_kind mo_type mo_long1 mo_letters mo_fields) (fun x4 x5 x6 =>
  if x6 = (-1 : Int32) then (if s0 = (3 : Int32) then (rd mo_type 64 x4 (fun x7 =>
  ob1 (f_X6_isWhole x7) (fun x8 =>
  if x8 = (0 : Int32) then (ob1 (f_X6_fail x3 x6) (fun x9 =>
  f_X6_readItem_208 l1 l2 s0 x4 mo_text mo_size x5 x9 mo_now mo_many mo_itemKind mo_itemField mo_itemPlace))
  else (f_X6_readItem_208 l1 l2 s0 x4 mo_text mo_size x5 x6 mo_now mo_many mo_itemKind mo_itemField mo_itemPlace))))
  else (f_X6_readItem_208 l1 l2 s0 x4 mo_text mo_size x5 x6 mo_now mo_many mo_itemKind mo_itemField mo_itemPlace))
  else (f_X6_readItem_208 l1 l2 s0 x4 mo_text mo_size x5 x6 mo_now mo_many mo_itemKind mo_itemField mo_itemPlace))))
set_option maxHeartbeats 4000000 in
set_option maxRecDepth 100000 in
theorem w_X6_readItem_153 {p : Program} {l : Launch} {e : Env} {s : State} {m : MethodId} {args : Array Value} {below : List Frame} {meth : Method} {c : Code} {E : EnvT} {A : Nat → Prop} {a_mo : Nat → Nat} {mo_code : Int32} {mo_tape : Nat → Int32} {mo_taped : Int32} {mo_kept : Int32} {mo_by : Nat → Int32} {mo_stepKind : Nat → Int32} {mo_stepField : Nat → Int32} {mo_stepOperator : Nat → Int32} {mo_stepOther : Nat → Int32} {mo_stepMany : Nat → Int32} {mo_literalType : Nat → Int32} {mo_literalFrom : Nat → Int32} {mo_literalSize : Nat → Int32} {mo_bytes : Nat → Int32} {mo_said : Nat → Int32} {mo_number : Nat → Int64} {mo_pile : Nat → Int32} {mo_pilePlace : Nat → Int32} {mo_top : Int32} {mo_open : Int32} {o_mo_at : Int32} {o_mo_ill : Int32} {o_mo_many : Nat → Int32} {o_mo_itemKind : Nat → Int32} {o_mo_itemField : Nat → Int32} {o_mo_itemPlace : Nat → Int32} {l1 : Int32} {l2 : Int32} {s0 : Int32} {mo_text : Nat → Int32} {mo_size : Int32} {mo_at : Int32} {mo_ill : Int32} {mo_in : Nat → Int32} {mo_kind : Nat → Int32} {mo_type : Nat → Int32} {mo_long1 : Nat → Int32} {mo_letters : Nat → Int32} {mo_fields : Int32} {mo_now : Int32} {mo_many : Nat → Int32} {mo_itemKind : Nat → Int32} {mo_itemField : Nat → Int32} {mo_itemPlace : Nat → Int32} {H : Heap} {locs : List Loc} {ls : Array Slot} (C : MC p s m args meth c E A cX6_readItem 6 RX6 none) (hw : WS E A s (w_mo E a_mo mo_code mo_tape mo_text mo_taped mo_size mo_at mo_ill mo_in mo_kind mo_type mo_long1 mo_letters mo_fields mo_kept mo_now mo_many mo_itemKind mo_itemField mo_itemPlace mo_by mo_stepKind mo_stepField mo_stepOperator mo_stepOther mo_stepMany mo_literalType mo_literalFrom mo_literalSize mo_bytes mo_said mo_number mo_pile mo_pilePlace mo_top mo_open) H locs) (hl : lv_has ls 6 [(0, .ref (a_mo 0)), (1, .int l1), (2, .int l2)]) (hf : f_X6_readItem_153 l1 l2 s0 mo_text mo_size mo_at mo_ill mo_in mo_kind mo_type mo_long1 mo_letters mo_fields mo_now mo_many mo_itemKind mo_itemField mo_itemPlace = some (o_mo_at, o_mo_ill, o_mo_many, o_mo_itemKind, o_mo_itemField, o_mo_itemPlace)) : W p l e { frames := 5, cells := 0, slots := 0, locals := 112 } s m args below meth c H locs 0 0 (MQ below (QcV E A (w_mo E a_mo mo_code mo_tape mo_text mo_taped mo_size o_mo_at o_mo_ill mo_in mo_kind mo_type mo_long1 mo_letters mo_fields mo_kept mo_now o_mo_many o_mo_itemKind o_mo_itemField o_mo_itemPlace mo_by mo_stepKind mo_stepField mo_stepOperator mo_stepOther mo_stepMany mo_literalType mo_literalFrom mo_literalSize mo_bytes mo_said mo_number mo_pile mo_pilePlace mo_top mo_open)) args s 0 0 A) (F0 m 153 ls [.int s0]) := by
  have hx := C.1
  have hb := C.2.1
  unfold f_X6_readItem_153 at hf
  refine lv_istore_n (lv' := [(3, .int s0), (0, .ref (a_mo 0)), (1, .int l1), (2, .int l2)]) hx hb dX6_readItem_153 rfl hl (by decide) rfl (fun ls hl => ?_)
  refine lv_aload_n hx hb dX6_readItem_154 rfl (lv_at hl 1 rfl) ?_
  refine lv_bipush (v := 40) hx hb dX6_readItem_155 (by decide) ?_
  obtain ⟨x1, x2, z2, hf⟩ := ob2_el hf
  refine cV_V C hw (c_X6_wantSign l E a_mo mo_code mo_tape mo_text mo_taped mo_size mo_at mo_ill mo_in mo_kind mo_type mo_long1 mo_letters mo_fields mo_kept mo_now mo_many mo_itemKind mo_itemField mo_itemPlace mo_by mo_stepKind mo_stepField mo_stepOperator mo_stepOther mo_stepMany mo_literalType mo_literalFrom mo_literalSize mo_bytes mo_said mo_number mo_pile mo_pilePlace mo_top mo_open (40 : Int32) x1 x2 z2) cs_X6_195 ⟨Nat.le_of_ble_eq_true rfl, Nat.le_of_ble_eq_true rfl⟩ ⟨rfl, rfl⟩ (ci := 6) (cn := (RX6, TX6, 35)) rfl (q0 := 0) rfl (wn := w_mo E a_mo mo_code mo_tape mo_text mo_taped mo_size x1 x2 mo_in mo_kind mo_type mo_long1 mo_letters mo_fields mo_kept mo_now mo_many mo_itemKind mo_itemField mo_itemPlace mo_by mo_stepKind mo_stepField mo_stepOperator mo_stepOther mo_stepMany mo_literalType mo_literalFrom mo_literalSize mo_bytes mo_said mo_number mo_pile mo_pilePlace mo_top mo_open) (Jn.all _ _) rfl hl.1 rfl (Nat.le_of_ble_eq_true rfl) dX6_readItem_157 ⟨Nat.zero_le _, Nat.zero_le _⟩ (fun H locs hw => ?_)
  refine lv_aload_n hx hb dX6_readItem_160 rfl (lv_at hl 1 rfl) ?_
  obtain ⟨x3, z3, hf⟩ := ob1_el hf
  refine cV_V C hw (c_X6_blanks l E a_mo mo_code mo_tape mo_text mo_taped mo_size x1 x2 mo_in mo_kind mo_type mo_long1 mo_letters mo_fields mo_kept mo_now mo_many mo_itemKind mo_itemField mo_itemPlace mo_by mo_stepKind mo_stepField mo_stepOperator mo_stepOther mo_stepMany mo_literalType mo_literalFrom mo_literalSize mo_bytes mo_said mo_number mo_pile mo_pilePlace mo_top mo_open x3 z3) cs_X6_130 ⟨Nat.le_of_ble_eq_true rfl, Nat.le_of_ble_eq_true rfl⟩ ⟨rfl, rfl⟩ (ci := 6) (cn := (RX6, TX6, 35)) rfl (q0 := 0) rfl (wn := w_mo E a_mo mo_code mo_tape mo_text mo_taped mo_size x3 x2 mo_in mo_kind mo_type mo_long1 mo_letters mo_fields mo_kept mo_now mo_many mo_itemKind mo_itemField mo_itemPlace mo_by mo_stepKind mo_stepField mo_stepOperator mo_stepOther mo_stepMany mo_literalType mo_literalFrom mo_literalSize mo_bytes mo_said mo_number mo_pile mo_pilePlace mo_top mo_open) (Jn.all _ _) rfl hl.1 rfl (Nat.le_of_ble_eq_true rfl) dX6_readItem_161 ⟨Nat.zero_le _, Nat.zero_le _⟩ (fun H locs hw => ?_)
  refine lv_aload_n hx hb dX6_readItem_164 rfl (lv_at hl 1 rfl) ?_
  refine fg_X6_99 C hw 0 rfl rfl dX6_readItem_165 ?_
  refine lv_istore (lv' := [(5, .int x3), (3, .int s0), (0, .ref (a_mo 0)), (1, .int l1), (2, .int l2)]) hx hb dX6_readItem_168 hl (by decide) rfl (fun ls hl => ?_)
  refine lv_aload_n hx hb dX6_readItem_170 rfl (lv_at hl 2 rfl) ?_
  obtain ⟨x4, x5, x6, z6, hf⟩ := ob3_el hf
  refine cI_V C hw (c_X6_column l E a_mo mo_code mo_tape mo_text mo_taped mo_size x3 x2 mo_in mo_kind mo_type mo_long1 mo_letters mo_fields mo_kept mo_now mo_many mo_itemKind mo_itemField mo_itemPlace mo_by mo_stepKind mo_stepField mo_stepOperator mo_stepOther mo_stepMany mo_literalType mo_literalFrom mo_literalSize mo_bytes mo_said mo_number mo_pile mo_pilePlace mo_top mo_open x4 x5 x6 z6) cs_X6_198 ⟨Nat.le_of_ble_eq_true rfl, Nat.le_of_ble_eq_true rfl⟩ ⟨rfl, rfl⟩ (ci := 6) (cn := (RX6, TX6, 35)) rfl (q0 := 0) rfl (wn := w_mo E a_mo mo_code mo_tape mo_text mo_taped mo_size x5 x6 mo_in mo_kind mo_type mo_long1 mo_letters mo_fields mo_kept mo_now mo_many mo_itemKind mo_itemField mo_itemPlace mo_by mo_stepKind mo_stepField mo_stepOperator mo_stepOther mo_stepMany mo_literalType mo_literalFrom mo_literalSize mo_bytes mo_said mo_number mo_pile mo_pilePlace mo_top mo_open) (Jn.all _ _) rfl hl.1 rfl (Nat.le_of_ble_eq_true rfl) dX6_readItem_171 ⟨Nat.zero_le _, Nat.zero_le _⟩ (fun H locs hw => ?_)
  refine lv_istore (lv' := [(4, .int x4), (5, .int x3), (3, .int s0), (0, .ref (a_mo 0)), (1, .int l1), (2, .int l2)]) hx hb dX6_readItem_174 hl (by decide) rfl (fun ls hl => ?_)
  refine lv_aload_n hx hb dX6_readItem_176 rfl (lv_at hl 3 rfl) ?_
  refine fg_X6_102 C hw 0 rfl rfl dX6_readItem_177 ?_
  refine lv_iconst (v := -1) hx hb dX6_readItem_180 (by decide) ?_
  refine lv_icmp_ne (tgt := 208) hx hb dX6_readItem_181 (by decide) (fun c181 => ?_) (fun c181 => ?_)
  · replace hf := it_f c181 hf
    exact w_X6_readItem_208 C hw (lv_sub hl [3, 4, 5, 2, 0] rfl) hf
  · replace hf := it_t c181 hf
    refine lv_iload_n hx hb dX6_readItem_184 rfl (lv_at hl 2 rfl) ?_
    refine lv_iconst (v := 3) hx hb dX6_readItem_185 (by decide) ?_
    refine lv_icmp_ne (tgt := 208) hx hb dX6_readItem_186 (by decide) (fun c186 => ?_) (fun c186 => ?_)
    · replace hf := it_f c186 hf
      exact w_X6_readItem_208 C hw (lv_sub hl [3, 4, 5, 2, 0] rfl) hf
    · replace hf := it_t c186 hf
      refine lv_aload_n hx hb dX6_readItem_189 rfl (lv_at hl 3 rfl) ?_
      refine fg_X6_22 C hw 0 rfl rfl dX6_readItem_190 ?_
      refine lv_iload hx hb dX6_readItem_193 (lv_at hl 0 rfl) ?_
      obtain ⟨x7, ex7, gx7, hf⟩ := rd_el hf
      refine ra_i C hw 5 rfl gx7 dX6_readItem_195 ?_
      refine tp_i ex7 ?_
      obtain ⟨x8, z8, hf⟩ := ob1_el hf
      refine cI_S C hw (c_X6_isWhole l E x7 x8 z8) cs_X6_201 ⟨Nat.le_of_ble_eq_true rfl, Nat.le_of_ble_eq_true rfl⟩ ⟨rfl, rfl⟩ (wn := w_mo E a_mo mo_code mo_tape mo_text mo_taped mo_size x5 x6 mo_in mo_kind mo_type mo_long1 mo_letters mo_fields mo_kept mo_now mo_many mo_itemKind mo_itemField mo_itemPlace mo_by mo_stepKind mo_stepField mo_stepOperator mo_stepOther mo_stepMany mo_literalType mo_literalFrom mo_literalSize mo_bytes mo_said mo_number mo_pile mo_pilePlace mo_top mo_open) (Jn.none _) rfl hl.1 rfl (Nat.le_of_ble_eq_true rfl) dX6_readItem_196 ⟨Nat.zero_le _, Nat.zero_le _⟩ (fun H locs hw => ?_)
      refine lv_if_ne (tgt := 208) hx hb dX6_readItem_199 (by decide) (fun c199 => ?_) (fun c199 => ?_)
      · replace hf := it_f c199 hf
        exact w_X6_readItem_208 C hw (lv_sub hl [3, 4, 5, 2, 0] rfl) hf
      · replace hf := it_t c199 hf
        refine lv_aload_n hx hb dX6_readItem_202 rfl (lv_at hl 3 rfl) ?_
        refine lv_iload hx hb dX6_readItem_203 (lv_at hl 1 rfl) ?_
        obtain ⟨x9, z9, hf⟩ := ob1_el hf
        refine cV_V C hw (c_X6_fail l E a_mo mo_code mo_tape mo_text mo_taped mo_size x5 x6 mo_in mo_kind mo_type mo_long1 mo_letters mo_fields mo_kept mo_now mo_many mo_itemKind mo_itemField mo_itemPlace mo_by mo_stepKind mo_stepField mo_stepOperator mo_stepOther mo_stepMany mo_literalType mo_literalFrom mo_literalSize mo_bytes mo_said mo_number mo_pile mo_pilePlace mo_top mo_open x3 x9 z9) cs_X6_144 ⟨Nat.le_of_ble_eq_true rfl, Nat.le_of_ble_eq_true rfl⟩ ⟨rfl, rfl⟩ (ci := 6) (cn := (RX6, TX6, 35)) rfl (q0 := 0) rfl (wn := w_mo E a_mo mo_code mo_tape mo_text mo_taped mo_size x5 x9 mo_in mo_kind mo_type mo_long1 mo_letters mo_fields mo_kept mo_now mo_many mo_itemKind mo_itemField mo_itemPlace mo_by mo_stepKind mo_stepField mo_stepOperator mo_stepOther mo_stepMany mo_literalType mo_literalFrom mo_literalSize mo_bytes mo_said mo_number mo_pile mo_pilePlace mo_top mo_open) (Jn.all _ _) rfl hl.1 rfl (Nat.le_of_ble_eq_true rfl) dX6_readItem_205 ⟨Nat.zero_le _, Nat.zero_le _⟩ (fun H locs hw => ?_)
        exact w_X6_readItem_208 C hw (lv_sub hl [3, 4, 5, 2, 0] rfl) hf
def f_X6_readItem_143 (l1 : Int32) (l2 : Int32) (l3 : Int32) (mo_text : Nat → Int32) (mo_size : Int32) (mo_at : Int32) (mo_ill : Int32) (mo_in : Nat → Int32) (mo_kind : Nat → Int32) (mo_type : Nat → Int32) (mo_long1 : Nat → Int32) (mo_letters : Nat → Int32) (mo_fields : Int32) (mo_now : Int32) (mo_many : Nat → Int32) (mo_itemKind : Nat → Int32) (mo_itemField : Nat → Int32) (mo_itemPlace : Nat → Int32) : Option ((Int32) × (Int32) × (Nat → Int32) × (Nat → Int32) × (Nat → Int32) × (Nat → Int32)) :=
  if l3 = (1 : Int32) then (f_X6_readItem_153 l1 l2 (2 : Int32) mo_text mo_size mo_at mo_ill mo_in mo_kind mo_type mo_long1 mo_letters mo_fields mo_now mo_many mo_itemKind mo_itemField mo_itemPlace)
  else (f_X6_readItem_153 l1 l2 l3 mo_text mo_size mo_at mo_ill mo_in mo_kind mo_type mo_long1 mo_letters mo_fields mo_now mo_many mo_itemKind mo_itemField mo_itemPlace)
set_option maxHeartbeats 4000000 in
set_option maxRecDepth 100000 in
theorem w_X6_readItem_143 {p : Program} {l : Launch} {e : Env} {s : State} {m : MethodId} {args : Array Value} {below : List Frame} {meth : Method} {c : Code} {E : EnvT} {A : Nat → Prop} {a_mo : Nat → Nat} {mo_code : Int32} {mo_tape : Nat → Int32} {mo_taped : Int32} {mo_kept : Int32} {mo_by : Nat → Int32} {mo_stepKind : Nat → Int32} {mo_stepField : Nat → Int32} {mo_stepOperator : Nat → Int32} {mo_stepOther : Nat → Int32} {mo_stepMany : Nat → Int32} {mo_literalType : Nat → Int32} {mo_literalFrom : Nat → Int32} {mo_literalSize : Nat → Int32} {mo_bytes : Nat → Int32} {mo_said : Nat → Int32} {mo_number : Nat → Int64} {mo_pile : Nat → Int32} {mo_pilePlace : Nat → Int32} {mo_top : Int32} {mo_open : Int32} {o_mo_at : Int32} {o_mo_ill : Int32} {o_mo_many : Nat → Int32} {o_mo_itemKind : Nat → Int32} {o_mo_itemField : Nat → Int32} {o_mo_itemPlace : Nat → Int32} {l1 : Int32} {l2 : Int32} {l3 : Int32} {mo_text : Nat → Int32} {mo_size : Int32} {mo_at : Int32} {mo_ill : Int32} {mo_in : Nat → Int32} {mo_kind : Nat → Int32} {mo_type : Nat → Int32} {mo_long1 : Nat → Int32} {mo_letters : Nat → Int32} {mo_fields : Int32} {mo_now : Int32} {mo_many : Nat → Int32} {mo_itemKind : Nat → Int32} {mo_itemField : Nat → Int32} {mo_itemPlace : Nat → Int32} {H : Heap} {locs : List Loc} {ls : Array Slot} (C : MC p s m args meth c E A cX6_readItem 6 RX6 none) (hw : WS E A s (w_mo E a_mo mo_code mo_tape mo_text mo_taped mo_size mo_at mo_ill mo_in mo_kind mo_type mo_long1 mo_letters mo_fields mo_kept mo_now mo_many mo_itemKind mo_itemField mo_itemPlace mo_by mo_stepKind mo_stepField mo_stepOperator mo_stepOther mo_stepMany mo_literalType mo_literalFrom mo_literalSize mo_bytes mo_said mo_number mo_pile mo_pilePlace mo_top mo_open) H locs) (hl : lv_has ls 6 [(0, .ref (a_mo 0)), (1, .int l1), (2, .int l2), (3, .int l3)]) (hf : f_X6_readItem_143 l1 l2 l3 mo_text mo_size mo_at mo_ill mo_in mo_kind mo_type mo_long1 mo_letters mo_fields mo_now mo_many mo_itemKind mo_itemField mo_itemPlace = some (o_mo_at, o_mo_ill, o_mo_many, o_mo_itemKind, o_mo_itemField, o_mo_itemPlace)) : W p l e { frames := 5, cells := 0, slots := 0, locals := 112 } s m args below meth c H locs 0 0 (MQ below (QcV E A (w_mo E a_mo mo_code mo_tape mo_text mo_taped mo_size o_mo_at o_mo_ill mo_in mo_kind mo_type mo_long1 mo_letters mo_fields mo_kept mo_now o_mo_many o_mo_itemKind o_mo_itemField o_mo_itemPlace mo_by mo_stepKind mo_stepField mo_stepOperator mo_stepOther mo_stepMany mo_literalType mo_literalFrom mo_literalSize mo_bytes mo_said mo_number mo_pile mo_pilePlace mo_top mo_open)) args s 0 0 A) (F0 m 143 ls []) := by
  have hx := C.1
  have hb := C.2.1
  unfold f_X6_readItem_143 at hf
  refine lv_iload_n hx hb dX6_readItem_143 rfl (lv_at hl 3 rfl) ?_
  refine lv_iconst (v := 1) hx hb dX6_readItem_144 (by decide) ?_
  refine lv_icmp_ne (tgt := 152) hx hb dX6_readItem_145 (by decide) (fun c145 => ?_) (fun c145 => ?_)
  · replace hf := it_f c145 hf
    refine lv_iload_n hx hb dX6_readItem_152 rfl (lv_at hl 3 rfl) ?_
    exact w_X6_readItem_153 C hw (lv_sub hl [0, 1, 2] rfl) hf
  · replace hf := it_t c145 hf
    refine lv_iconst (v := 2) hx hb dX6_readItem_148 (by decide) ?_
    refine lv_goto (tgt := 153) hx hb dX6_readItem_149 (by decide) ?_
    exact w_X6_readItem_153 C hw (lv_sub hl [0, 1, 2] rfl) hf
def f_X6_readItem_89 (l1 : Int32) (l2 : Int32) (s0 : Int32) (mo_text : Nat → Int32) (mo_size : Int32) (mo_at : Int32) (mo_ill : Int32) (mo_in : Nat → Int32) (mo_kind : Nat → Int32) (mo_type : Nat → Int32) (mo_long1 : Nat → Int32) (mo_letters : Nat → Int32) (mo_fields : Int32) (mo_now : Int32) (mo_many : Nat → Int32) (mo_itemKind : Nat → Int32) (mo_itemField : Nat → Int32) (mo_itemPlace : Nat → Int32) : Option ((Int32) × (Int32) × (Nat → Int32) × (Nat → Int32) × (Nat → Int32) × (Nat → Int32)) :=
  ob1 (f_X6_blanks mo_text mo_size mo_at) (fun x1 =>
  if s0 = (0 : Int32) then (ob3 (f_X6_path mo_text mo_size x1 mo_ill mo_in mo_long1 mo_letters mo_fields) (fun x3 x4 x5 =>
  if x5 = (-1 : Int32) then (if x3 = (-1 : Int32) then (ob1 (f_X6_fail l1 x5) (fun x6 =>
  f_X6_readItem_214 l1 l2 s0 x3 x4 x6 mo_now mo_many mo_itemKind mo_itemField mo_itemPlace))
  else (f_X6_readItem_214 l1 l2 s0 x3 x4 x5 mo_now mo_many mo_itemKind mo_itemField mo_itemPlace))
  else (f_X6_readItem_214 l1 l2 s0 x3 x4 x5 mo_now mo_many mo_itemKind mo_itemField mo_itemPlace)))
  else (if (1 : Int32) < s0 then (f_X6_readItem_143 l1 l2 s0 mo_text mo_size x1 mo_ill mo_in mo_kind mo_type mo_long1 mo_letters mo_fields mo_now mo_many mo_itemKind mo_itemField mo_itemPlace)
  else (ob1 (f_X6_look mo_text mo_size x1) (fun x2 =>
  if x2 = (40 : Int32) then (f_X6_readItem_143 l1 l2 s0 mo_text mo_size x1 mo_ill mo_in mo_kind mo_type mo_long1 mo_letters mo_fields mo_now mo_many mo_itemKind mo_itemField mo_itemPlace)
  else (f_X6_readItem_214 l1 l2 s0 (-1 : Int32) x1 mo_ill mo_now mo_many mo_itemKind mo_itemField mo_itemPlace)))))
set_option maxHeartbeats 4000000 in
set_option maxRecDepth 100000 in
theorem w_X6_readItem_89 {p : Program} {l : Launch} {e : Env} {s : State} {m : MethodId} {args : Array Value} {below : List Frame} {meth : Method} {c : Code} {E : EnvT} {A : Nat → Prop} {a_mo : Nat → Nat} {mo_code : Int32} {mo_tape : Nat → Int32} {mo_taped : Int32} {mo_kept : Int32} {mo_by : Nat → Int32} {mo_stepKind : Nat → Int32} {mo_stepField : Nat → Int32} {mo_stepOperator : Nat → Int32} {mo_stepOther : Nat → Int32} {mo_stepMany : Nat → Int32} {mo_literalType : Nat → Int32} {mo_literalFrom : Nat → Int32} {mo_literalSize : Nat → Int32} {mo_bytes : Nat → Int32} {mo_said : Nat → Int32} {mo_number : Nat → Int64} {mo_pile : Nat → Int32} {mo_pilePlace : Nat → Int32} {mo_top : Int32} {mo_open : Int32} {o_mo_at : Int32} {o_mo_ill : Int32} {o_mo_many : Nat → Int32} {o_mo_itemKind : Nat → Int32} {o_mo_itemField : Nat → Int32} {o_mo_itemPlace : Nat → Int32} {l1 : Int32} {l2 : Int32} {s0 : Int32} {mo_text : Nat → Int32} {mo_size : Int32} {mo_at : Int32} {mo_ill : Int32} {mo_in : Nat → Int32} {mo_kind : Nat → Int32} {mo_type : Nat → Int32} {mo_long1 : Nat → Int32} {mo_letters : Nat → Int32} {mo_fields : Int32} {mo_now : Int32} {mo_many : Nat → Int32} {mo_itemKind : Nat → Int32} {mo_itemField : Nat → Int32} {mo_itemPlace : Nat → Int32} {H : Heap} {locs : List Loc} {ls : Array Slot} (C : MC p s m args meth c E A cX6_readItem 6 RX6 none) (hw : WS E A s (w_mo E a_mo mo_code mo_tape mo_text mo_taped mo_size mo_at mo_ill mo_in mo_kind mo_type mo_long1 mo_letters mo_fields mo_kept mo_now mo_many mo_itemKind mo_itemField mo_itemPlace mo_by mo_stepKind mo_stepField mo_stepOperator mo_stepOther mo_stepMany mo_literalType mo_literalFrom mo_literalSize mo_bytes mo_said mo_number mo_pile mo_pilePlace mo_top mo_open) H locs) (hl : lv_has ls 6 [(0, .ref (a_mo 0)), (1, .int l1), (2, .int l2)]) (hf : f_X6_readItem_89 l1 l2 s0 mo_text mo_size mo_at mo_ill mo_in mo_kind mo_type mo_long1 mo_letters mo_fields mo_now mo_many mo_itemKind mo_itemField mo_itemPlace = some (o_mo_at, o_mo_ill, o_mo_many, o_mo_itemKind, o_mo_itemField, o_mo_itemPlace)) : W p l e { frames := 5, cells := 0, slots := 0, locals := 112 } s m args below meth c H locs 0 0 (MQ below (QcV E A (w_mo E a_mo mo_code mo_tape mo_text mo_taped mo_size o_mo_at o_mo_ill mo_in mo_kind mo_type mo_long1 mo_letters mo_fields mo_kept mo_now o_mo_many o_mo_itemKind o_mo_itemField o_mo_itemPlace mo_by mo_stepKind mo_stepField mo_stepOperator mo_stepOther mo_stepMany mo_literalType mo_literalFrom mo_literalSize mo_bytes mo_said mo_number mo_pile mo_pilePlace mo_top mo_open)) args s 0 0 A) (F0 m 89 ls [.int s0]) := by
  have hx := C.1
  have hb := C.2.1
  unfold f_X6_readItem_89 at hf
  refine lv_istore_n (lv' := [(3, .int s0), (0, .ref (a_mo 0)), (1, .int l1), (2, .int l2)]) hx hb dX6_readItem_89 rfl hl (by decide) rfl (fun ls hl => ?_)
  refine lv_iconst (v := -1) hx hb dX6_readItem_90 (by decide) ?_
  refine lv_istore (lv' := [(4, .int (-1 : Int32)), (3, .int s0), (0, .ref (a_mo 0)), (1, .int l1), (2, .int l2)]) hx hb dX6_readItem_91 hl (by decide) rfl (fun ls hl => ?_)
  refine lv_aload_n hx hb dX6_readItem_93 rfl (lv_at hl 2 rfl) ?_
  obtain ⟨x1, z1, hf⟩ := ob1_el hf
  refine cV_V C hw (c_X6_blanks l E a_mo mo_code mo_tape mo_text mo_taped mo_size mo_at mo_ill mo_in mo_kind mo_type mo_long1 mo_letters mo_fields mo_kept mo_now mo_many mo_itemKind mo_itemField mo_itemPlace mo_by mo_stepKind mo_stepField mo_stepOperator mo_stepOther mo_stepMany mo_literalType mo_literalFrom mo_literalSize mo_bytes mo_said mo_number mo_pile mo_pilePlace mo_top mo_open x1 z1) cs_X6_130 ⟨Nat.le_of_ble_eq_true rfl, Nat.le_of_ble_eq_true rfl⟩ ⟨rfl, rfl⟩ (ci := 6) (cn := (RX6, TX6, 35)) rfl (q0 := 0) rfl (wn := w_mo E a_mo mo_code mo_tape mo_text mo_taped mo_size x1 mo_ill mo_in mo_kind mo_type mo_long1 mo_letters mo_fields mo_kept mo_now mo_many mo_itemKind mo_itemField mo_itemPlace mo_by mo_stepKind mo_stepField mo_stepOperator mo_stepOther mo_stepMany mo_literalType mo_literalFrom mo_literalSize mo_bytes mo_said mo_number mo_pile mo_pilePlace mo_top mo_open) (Jn.all _ _) rfl hl.1 rfl (Nat.le_of_ble_eq_true rfl) dX6_readItem_94 ⟨Nat.zero_le _, Nat.zero_le _⟩ (fun H locs hw => ?_)
  refine lv_iload_n hx hb dX6_readItem_97 rfl (lv_at hl 1 rfl) ?_
  refine lv_if_ne (tgt := 129) hx hb dX6_readItem_98 (by decide) (fun c98 => ?_) (fun c98 => ?_)
  · replace hf := it_f c98 hf
    refine lv_iload_n hx hb dX6_readItem_129 rfl (lv_at hl 1 rfl) ?_
    refine lv_iconst (v := 1) hx hb dX6_readItem_130 (by decide) ?_
    refine lv_icmp_gt (tgt := 143) hx hb dX6_readItem_131 (by decide) (fun c131 => ?_) (fun c131 => ?_)
    · replace hf := it_t c131 hf
      exact w_X6_readItem_143 C hw (lv_sub hl [2, 3, 4, 1] rfl) hf
    · replace hf := it_f c131 hf
      refine lv_aload_n hx hb dX6_readItem_134 rfl (lv_at hl 2 rfl) ?_
      obtain ⟨x2, z2, hf⟩ := ob1_el hf
      refine cI_V C hw (c_X6_look l E a_mo mo_code mo_tape mo_text mo_taped mo_size x1 mo_ill mo_in mo_kind mo_type mo_long1 mo_letters mo_fields mo_kept mo_now mo_many mo_itemKind mo_itemField mo_itemPlace mo_by mo_stepKind mo_stepField mo_stepOperator mo_stepOther mo_stepMany mo_literalType mo_literalFrom mo_literalSize mo_bytes mo_said mo_number mo_pile mo_pilePlace mo_top mo_open x2 z2) cs_X6_126 ⟨Nat.le_of_ble_eq_true rfl, Nat.le_of_ble_eq_true rfl⟩ ⟨rfl, rfl⟩ (ci := 6) (cn := (RX6, TX6, 35)) rfl (q0 := 0) rfl (wn := w_mo E a_mo mo_code mo_tape mo_text mo_taped mo_size x1 mo_ill mo_in mo_kind mo_type mo_long1 mo_letters mo_fields mo_kept mo_now mo_many mo_itemKind mo_itemField mo_itemPlace mo_by mo_stepKind mo_stepField mo_stepOperator mo_stepOther mo_stepMany mo_literalType mo_literalFrom mo_literalSize mo_bytes mo_said mo_number mo_pile mo_pilePlace mo_top mo_open) (Jn.all _ _) rfl hl.1 rfl (Nat.le_of_ble_eq_true rfl) dX6_readItem_135 ⟨Nat.zero_le _, Nat.zero_le _⟩ (fun H locs hw => ?_)
      refine lv_bipush (v := 40) hx hb dX6_readItem_138 (by decide) ?_
      refine lv_icmp_ne (tgt := 214) hx hb dX6_readItem_140 (by decide) (fun c140 => ?_) (fun c140 => ?_)
      · replace hf := it_f c140 hf
        exact w_X6_readItem_214 C hw (lv_sub hl [2, 3, 4, 1, 0] rfl) hf
      · replace hf := it_t c140 hf
        exact w_X6_readItem_143 C hw (lv_sub hl [2, 3, 4, 1] rfl) hf
  · replace hf := it_t c98 hf
    refine lv_aload_n hx hb dX6_readItem_101 rfl (lv_at hl 2 rfl) ?_
    obtain ⟨x3, x4, x5, z5, hf⟩ := ob3_el hf
    refine cI_V C hw (c_X6_path l E a_mo mo_code mo_tape mo_text mo_taped mo_size x1 mo_ill mo_in mo_kind mo_type mo_long1 mo_letters mo_fields mo_kept mo_now mo_many mo_itemKind mo_itemField mo_itemPlace mo_by mo_stepKind mo_stepField mo_stepOperator mo_stepOther mo_stepMany mo_literalType mo_literalFrom mo_literalSize mo_bytes mo_said mo_number mo_pile mo_pilePlace mo_top mo_open x3 x4 x5 z5) cs_X6_183 ⟨Nat.le_of_ble_eq_true rfl, Nat.le_of_ble_eq_true rfl⟩ ⟨rfl, rfl⟩ (ci := 6) (cn := (RX6, TX6, 35)) rfl (q0 := 0) rfl (wn := w_mo E a_mo mo_code mo_tape mo_text mo_taped mo_size x4 x5 mo_in mo_kind mo_type mo_long1 mo_letters mo_fields mo_kept mo_now mo_many mo_itemKind mo_itemField mo_itemPlace mo_by mo_stepKind mo_stepField mo_stepOperator mo_stepOther mo_stepMany mo_literalType mo_literalFrom mo_literalSize mo_bytes mo_said mo_number mo_pile mo_pilePlace mo_top mo_open) (Jn.all _ _) rfl hl.1 rfl (Nat.le_of_ble_eq_true rfl) dX6_readItem_102 ⟨Nat.zero_le _, Nat.zero_le _⟩ (fun H locs hw => ?_)
    refine lv_istore (lv' := [(4, .int x3), (3, .int s0), (0, .ref (a_mo 0)), (1, .int l1), (2, .int l2)]) hx hb dX6_readItem_105 hl (by decide) rfl (fun ls hl => ?_)
    refine lv_aload_n hx hb dX6_readItem_107 rfl (lv_at hl 2 rfl) ?_
    refine fg_X6_102 C hw 0 rfl rfl dX6_readItem_108 ?_
    refine lv_iconst (v := -1) hx hb dX6_readItem_111 (by decide) ?_
    refine lv_icmp_ne (tgt := 214) hx hb dX6_readItem_112 (by decide) (fun c112 => ?_) (fun c112 => ?_)
    · replace hf := it_f c112 hf
      exact w_X6_readItem_214 C hw (lv_sub hl [2, 3, 4, 1, 0] rfl) hf
    · replace hf := it_t c112 hf
      refine lv_iload hx hb dX6_readItem_115 (lv_at hl 0 rfl) ?_
      refine lv_iconst (v := -1) hx hb dX6_readItem_117 (by decide) ?_
      refine lv_icmp_ne (tgt := 214) hx hb dX6_readItem_118 (by decide) (fun c118 => ?_) (fun c118 => ?_)
      · replace hf := it_f c118 hf
        exact w_X6_readItem_214 C hw (lv_sub hl [2, 3, 4, 1, 0] rfl) hf
      · replace hf := it_t c118 hf
        refine lv_aload_n hx hb dX6_readItem_121 rfl (lv_at hl 2 rfl) ?_
        refine lv_iload_n hx hb dX6_readItem_122 rfl (lv_at hl 3 rfl) ?_
        obtain ⟨x6, z6, hf⟩ := ob1_el hf
        refine cV_V C hw (c_X6_fail l E a_mo mo_code mo_tape mo_text mo_taped mo_size x4 x5 mo_in mo_kind mo_type mo_long1 mo_letters mo_fields mo_kept mo_now mo_many mo_itemKind mo_itemField mo_itemPlace mo_by mo_stepKind mo_stepField mo_stepOperator mo_stepOther mo_stepMany mo_literalType mo_literalFrom mo_literalSize mo_bytes mo_said mo_number mo_pile mo_pilePlace mo_top mo_open l1 x6 z6) cs_X6_144 ⟨Nat.le_of_ble_eq_true rfl, Nat.le_of_ble_eq_true rfl⟩ ⟨rfl, rfl⟩ (ci := 6) (cn := (RX6, TX6, 35)) rfl (q0 := 0) rfl (wn := w_mo E a_mo mo_code mo_tape mo_text mo_taped mo_size x4 x6 mo_in mo_kind mo_type mo_long1 mo_letters mo_fields mo_kept mo_now mo_many mo_itemKind mo_itemField mo_itemPlace mo_by mo_stepKind mo_stepField mo_stepOperator mo_stepOther mo_stepMany mo_literalType mo_literalFrom mo_literalSize mo_bytes mo_said mo_number mo_pile mo_pilePlace mo_top mo_open) (Jn.all _ _) rfl hl.1 rfl (Nat.le_of_ble_eq_true rfl) dX6_readItem_123 ⟨Nat.zero_le _, Nat.zero_le _⟩ (fun H locs hw => ?_)
        refine lv_goto (tgt := 214) hx hb dX6_readItem_126 (by decide) ?_
        exact w_X6_readItem_214 C hw (lv_sub hl [2, 3, 4, 1, 0] rfl) hf
def f_X6_readItem_32 (l1 : Int32) (l2 : Int32) (mo_text : Nat → Int32) (mo_size : Int32) (mo_at : Int32) (mo_ill : Int32) (mo_in : Nat → Int32) (mo_kind : Nat → Int32) (mo_type : Nat → Int32) (mo_long1 : Nat → Int32) (mo_letters : Nat → Int32) (mo_fields : Int32) (mo_now : Int32) (mo_many : Nat → Int32) (mo_itemKind : Nat → Int32) (mo_itemField : Nat → Int32) (mo_itemPlace : Nat → Int32) : Option ((Int32) × (Int32) × (Nat → Int32) × (Nat → Int32) × (Nat → Int32) × (Nat → Int32)) :=
  ob2 (f_X6_takesWord (427071729268 : Int64) mo_text mo_size mo_at mo_ill) (fun x1 x2 =>
  if x1 = (0 : Int32) then (ob2 (f_X6_takesWord (7566701 : Int64) mo_text mo_size x2 mo_ill) (fun x3 x4 =>
  if x3 = (0 : Int32) then (ob2 (f_X6_takesWord (7170414 : Int64) mo_text mo_size x4 mo_ill) (fun x5 x6 =>
  if x5 = (0 : Int32) then (ob2 (f_X6_takesWord (7168376 : Int64) mo_text mo_size x6 mo_ill) (fun x7 x8 =>
  if x7 = (0 : Int32) then (f_X6_readItem_89 l1 l2 (0 : Int32) mo_text mo_size x8 mo_ill mo_in mo_kind mo_type mo_long1 mo_letters mo_fields mo_now mo_many mo_itemKind mo_itemField mo_itemPlace)
  else (f_X6_readItem_89 l1 l2 (5 : Int32) mo_text mo_size x8 mo_ill mo_in mo_kind mo_type mo_long1 mo_letters mo_fields mo_now mo_many mo_itemKind mo_itemField mo_itemPlace)))
  else (f_X6_readItem_89 l1 l2 (4 : Int32) mo_text mo_size x6 mo_ill mo_in mo_kind mo_type mo_long1 mo_letters mo_fields mo_now mo_many mo_itemKind mo_itemField mo_itemPlace)))
  else (f_X6_readItem_89 l1 l2 (3 : Int32) mo_text mo_size x4 mo_ill mo_in mo_kind mo_type mo_long1 mo_letters mo_fields mo_now mo_many mo_itemKind mo_itemField mo_itemPlace)))
  else (f_X6_readItem_89 l1 l2 (1 : Int32) mo_text mo_size x2 mo_ill mo_in mo_kind mo_type mo_long1 mo_letters mo_fields mo_now mo_many mo_itemKind mo_itemField mo_itemPlace))
set_option maxHeartbeats 4000000 in
set_option maxRecDepth 100000 in
theorem w_X6_readItem_32 {p : Program} {l : Launch} {e : Env} {s : State} {m : MethodId} {args : Array Value} {below : List Frame} {meth : Method} {c : Code} {E : EnvT} {A : Nat → Prop} {a_mo : Nat → Nat} {mo_code : Int32} {mo_tape : Nat → Int32} {mo_taped : Int32} {mo_kept : Int32} {mo_by : Nat → Int32} {mo_stepKind : Nat → Int32} {mo_stepField : Nat → Int32} {mo_stepOperator : Nat → Int32} {mo_stepOther : Nat → Int32} {mo_stepMany : Nat → Int32} {mo_literalType : Nat → Int32} {mo_literalFrom : Nat → Int32} {mo_literalSize : Nat → Int32} {mo_bytes : Nat → Int32} {mo_said : Nat → Int32} {mo_number : Nat → Int64} {mo_pile : Nat → Int32} {mo_pilePlace : Nat → Int32} {mo_top : Int32} {mo_open : Int32} {o_mo_at : Int32} {o_mo_ill : Int32} {o_mo_many : Nat → Int32} {o_mo_itemKind : Nat → Int32} {o_mo_itemField : Nat → Int32} {o_mo_itemPlace : Nat → Int32} {l1 : Int32} {l2 : Int32} {mo_text : Nat → Int32} {mo_size : Int32} {mo_at : Int32} {mo_ill : Int32} {mo_in : Nat → Int32} {mo_kind : Nat → Int32} {mo_type : Nat → Int32} {mo_long1 : Nat → Int32} {mo_letters : Nat → Int32} {mo_fields : Int32} {mo_now : Int32} {mo_many : Nat → Int32} {mo_itemKind : Nat → Int32} {mo_itemField : Nat → Int32} {mo_itemPlace : Nat → Int32} {H : Heap} {locs : List Loc} {ls : Array Slot} (C : MC p s m args meth c E A cX6_readItem 6 RX6 none) (hw : WS E A s (w_mo E a_mo mo_code mo_tape mo_text mo_taped mo_size mo_at mo_ill mo_in mo_kind mo_type mo_long1 mo_letters mo_fields mo_kept mo_now mo_many mo_itemKind mo_itemField mo_itemPlace mo_by mo_stepKind mo_stepField mo_stepOperator mo_stepOther mo_stepMany mo_literalType mo_literalFrom mo_literalSize mo_bytes mo_said mo_number mo_pile mo_pilePlace mo_top mo_open) H locs) (hl : lv_has ls 6 [(0, .ref (a_mo 0)), (1, .int l1), (2, .int l2)]) (hf : f_X6_readItem_32 l1 l2 mo_text mo_size mo_at mo_ill mo_in mo_kind mo_type mo_long1 mo_letters mo_fields mo_now mo_many mo_itemKind mo_itemField mo_itemPlace = some (o_mo_at, o_mo_ill, o_mo_many, o_mo_itemKind, o_mo_itemField, o_mo_itemPlace)) : W p l e { frames := 5, cells := 0, slots := 0, locals := 112 } s m args below meth c H locs 0 0 (MQ below (QcV E A (w_mo E a_mo mo_code mo_tape mo_text mo_taped mo_size o_mo_at o_mo_ill mo_in mo_kind mo_type mo_long1 mo_letters mo_fields mo_kept mo_now o_mo_many o_mo_itemKind o_mo_itemField o_mo_itemPlace mo_by mo_stepKind mo_stepField mo_stepOperator mo_stepOther mo_stepMany mo_literalType mo_literalFrom mo_literalSize mo_bytes mo_said mo_number mo_pile mo_pilePlace mo_top mo_open)) args s 0 0 A) (F0 m 32 ls []) := by
  have hx := C.1
  have hb := C.2.1
  unfold f_X6_readItem_32 at hf
  refine lv_aload_n hx hb dX6_readItem_32 rfl (lv_at hl 0 rfl) ?_
  refine rc2 C mw_773 dX6_readItem_33 ?_
  obtain ⟨x1, x2, z2, hf⟩ := ob2_el hf
  refine cI_V C hw (c_X6_takesWord l E a_mo mo_code mo_tape mo_text mo_taped mo_size mo_at mo_ill mo_in mo_kind mo_type mo_long1 mo_letters mo_fields mo_kept mo_now mo_many mo_itemKind mo_itemField mo_itemPlace mo_by mo_stepKind mo_stepField mo_stepOperator mo_stepOther mo_stepMany mo_literalType mo_literalFrom mo_literalSize mo_bytes mo_said mo_number mo_pile mo_pilePlace mo_top mo_open (427071729268 : Int64) x1 x2 z2) cs_X6_192 ⟨Nat.le_of_ble_eq_true rfl, Nat.le_of_ble_eq_true rfl⟩ ⟨rfl, rfl⟩ (ci := 6) (cn := (RX6, TX6, 35)) rfl (q0 := 0) rfl (wn := w_mo E a_mo mo_code mo_tape mo_text mo_taped mo_size x2 mo_ill mo_in mo_kind mo_type mo_long1 mo_letters mo_fields mo_kept mo_now mo_many mo_itemKind mo_itemField mo_itemPlace mo_by mo_stepKind mo_stepField mo_stepOperator mo_stepOther mo_stepMany mo_literalType mo_literalFrom mo_literalSize mo_bytes mo_said mo_number mo_pile mo_pilePlace mo_top mo_open) (Jn.all _ _) rfl hl.1 rfl (Nat.le_of_ble_eq_true rfl) dX6_readItem_36 ⟨Nat.zero_le _, Nat.zero_le _⟩ (fun H locs hw => ?_)
  refine lv_if_eq (tgt := 46) hx hb dX6_readItem_39 (by decide) (fun c39 => ?_) (fun c39 => ?_)
  · replace hf := it_t c39 hf
    refine lv_aload_n hx hb dX6_readItem_46 rfl (lv_at hl 0 rfl) ?_
    refine rc2 C mw_774 dX6_readItem_47 ?_
    obtain ⟨x3, x4, z4, hf⟩ := ob2_el hf
    refine cI_V C hw (c_X6_takesWord l E a_mo mo_code mo_tape mo_text mo_taped mo_size x2 mo_ill mo_in mo_kind mo_type mo_long1 mo_letters mo_fields mo_kept mo_now mo_many mo_itemKind mo_itemField mo_itemPlace mo_by mo_stepKind mo_stepField mo_stepOperator mo_stepOther mo_stepMany mo_literalType mo_literalFrom mo_literalSize mo_bytes mo_said mo_number mo_pile mo_pilePlace mo_top mo_open (7566701 : Int64) x3 x4 z4) cs_X6_192 ⟨Nat.le_of_ble_eq_true rfl, Nat.le_of_ble_eq_true rfl⟩ ⟨rfl, rfl⟩ (ci := 6) (cn := (RX6, TX6, 35)) rfl (q0 := 0) rfl (wn := w_mo E a_mo mo_code mo_tape mo_text mo_taped mo_size x4 mo_ill mo_in mo_kind mo_type mo_long1 mo_letters mo_fields mo_kept mo_now mo_many mo_itemKind mo_itemField mo_itemPlace mo_by mo_stepKind mo_stepField mo_stepOperator mo_stepOther mo_stepMany mo_literalType mo_literalFrom mo_literalSize mo_bytes mo_said mo_number mo_pile mo_pilePlace mo_top mo_open) (Jn.all _ _) rfl hl.1 rfl (Nat.le_of_ble_eq_true rfl) dX6_readItem_50 ⟨Nat.zero_le _, Nat.zero_le _⟩ (fun H locs hw => ?_)
    refine lv_if_eq (tgt := 60) hx hb dX6_readItem_53 (by decide) (fun c53 => ?_) (fun c53 => ?_)
    · replace hf := it_t c53 hf
      refine lv_aload_n hx hb dX6_readItem_60 rfl (lv_at hl 0 rfl) ?_
      refine rc2 C mw_775 dX6_readItem_61 ?_
      obtain ⟨x5, x6, z6, hf⟩ := ob2_el hf
      refine cI_V C hw (c_X6_takesWord l E a_mo mo_code mo_tape mo_text mo_taped mo_size x4 mo_ill mo_in mo_kind mo_type mo_long1 mo_letters mo_fields mo_kept mo_now mo_many mo_itemKind mo_itemField mo_itemPlace mo_by mo_stepKind mo_stepField mo_stepOperator mo_stepOther mo_stepMany mo_literalType mo_literalFrom mo_literalSize mo_bytes mo_said mo_number mo_pile mo_pilePlace mo_top mo_open (7170414 : Int64) x5 x6 z6) cs_X6_192 ⟨Nat.le_of_ble_eq_true rfl, Nat.le_of_ble_eq_true rfl⟩ ⟨rfl, rfl⟩ (ci := 6) (cn := (RX6, TX6, 35)) rfl (q0 := 0) rfl (wn := w_mo E a_mo mo_code mo_tape mo_text mo_taped mo_size x6 mo_ill mo_in mo_kind mo_type mo_long1 mo_letters mo_fields mo_kept mo_now mo_many mo_itemKind mo_itemField mo_itemPlace mo_by mo_stepKind mo_stepField mo_stepOperator mo_stepOther mo_stepMany mo_literalType mo_literalFrom mo_literalSize mo_bytes mo_said mo_number mo_pile mo_pilePlace mo_top mo_open) (Jn.all _ _) rfl hl.1 rfl (Nat.le_of_ble_eq_true rfl) dX6_readItem_64 ⟨Nat.zero_le _, Nat.zero_le _⟩ (fun H locs hw => ?_)
      refine lv_if_eq (tgt := 74) hx hb dX6_readItem_67 (by decide) (fun c67 => ?_) (fun c67 => ?_)
      · replace hf := it_t c67 hf
        refine lv_aload_n hx hb dX6_readItem_74 rfl (lv_at hl 0 rfl) ?_
        refine rc2 C mw_776 dX6_readItem_75 ?_
        obtain ⟨x7, x8, z8, hf⟩ := ob2_el hf
        refine cI_V C hw (c_X6_takesWord l E a_mo mo_code mo_tape mo_text mo_taped mo_size x6 mo_ill mo_in mo_kind mo_type mo_long1 mo_letters mo_fields mo_kept mo_now mo_many mo_itemKind mo_itemField mo_itemPlace mo_by mo_stepKind mo_stepField mo_stepOperator mo_stepOther mo_stepMany mo_literalType mo_literalFrom mo_literalSize mo_bytes mo_said mo_number mo_pile mo_pilePlace mo_top mo_open (7168376 : Int64) x7 x8 z8) cs_X6_192 ⟨Nat.le_of_ble_eq_true rfl, Nat.le_of_ble_eq_true rfl⟩ ⟨rfl, rfl⟩ (ci := 6) (cn := (RX6, TX6, 35)) rfl (q0 := 0) rfl (wn := w_mo E a_mo mo_code mo_tape mo_text mo_taped mo_size x8 mo_ill mo_in mo_kind mo_type mo_long1 mo_letters mo_fields mo_kept mo_now mo_many mo_itemKind mo_itemField mo_itemPlace mo_by mo_stepKind mo_stepField mo_stepOperator mo_stepOther mo_stepMany mo_literalType mo_literalFrom mo_literalSize mo_bytes mo_said mo_number mo_pile mo_pilePlace mo_top mo_open) (Jn.all _ _) rfl hl.1 rfl (Nat.le_of_ble_eq_true rfl) dX6_readItem_78 ⟨Nat.zero_le _, Nat.zero_le _⟩ (fun H locs hw => ?_)
        refine lv_if_eq (tgt := 88) hx hb dX6_readItem_81 (by decide) (fun c81 => ?_) (fun c81 => ?_)
        · replace hf := it_t c81 hf
          refine lv_iconst (v := 0) hx hb dX6_readItem_88 (by decide) ?_
          exact w_X6_readItem_89 C hw (lv_sub hl [0, 1, 2] rfl) hf
        · replace hf := it_f c81 hf
          refine lv_iconst (v := 5) hx hb dX6_readItem_84 (by decide) ?_
          refine lv_goto (tgt := 89) hx hb dX6_readItem_85 (by decide) ?_
          exact w_X6_readItem_89 C hw (lv_sub hl [0, 1, 2] rfl) hf
      · replace hf := it_f c67 hf
        refine lv_iconst (v := 4) hx hb dX6_readItem_70 (by decide) ?_
        refine lv_goto (tgt := 89) hx hb dX6_readItem_71 (by decide) ?_
        exact w_X6_readItem_89 C hw (lv_sub hl [0, 1, 2] rfl) hf
    · replace hf := it_f c53 hf
      refine lv_iconst (v := 3) hx hb dX6_readItem_56 (by decide) ?_
      refine lv_goto (tgt := 89) hx hb dX6_readItem_57 (by decide) ?_
      exact w_X6_readItem_89 C hw (lv_sub hl [0, 1, 2] rfl) hf
  · replace hf := it_f c39 hf
    refine lv_iconst (v := 1) hx hb dX6_readItem_42 (by decide) ?_
    refine lv_goto (tgt := 89) hx hb dX6_readItem_43 (by decide) ?_
    exact w_X6_readItem_89 C hw (lv_sub hl [0, 1, 2] rfl) hf
def f_X6_readItem (mo_text : Nat → Int32) (mo_size : Int32) (mo_at : Int32) (mo_ill : Int32) (mo_in : Nat → Int32) (mo_kind : Nat → Int32) (mo_type : Nat → Int32) (mo_long1 : Nat → Int32) (mo_letters : Nat → Int32) (mo_fields : Int32) (mo_now : Int32) (mo_many : Nat → Int32) (mo_itemKind : Nat → Int32) (mo_itemField : Nat → Int32) (mo_itemPlace : Nat → Int32) : Option ((Int32) × (Int32) × (Nat → Int32) × (Nat → Int32) × (Nat → Int32) × (Nat → Int32)) :=
  ob1 (f_X6_blanks mo_text mo_size mo_at) (fun x1 =>
  rd mo_many 8 ((4 : Int32) * mo_now) (fun x2 =>
  if x2 = (16 : Int32) then (ob1 (f_X6_fail x1 mo_ill) (fun x3 =>
  f_X6_readItem_32 x1 x2 mo_text mo_size x1 x3 mo_in mo_kind mo_type mo_long1 mo_letters mo_fields mo_now mo_many mo_itemKind mo_itemField mo_itemPlace))
  else (f_X6_readItem_32 x1 x2 mo_text mo_size x1 mo_ill mo_in mo_kind mo_type mo_long1 mo_letters mo_fields mo_now mo_many mo_itemKind mo_itemField mo_itemPlace)))
set_option maxHeartbeats 4000000 in
set_option maxRecDepth 100000 in
theorem c_X6_readItem (l : Launch) (E : EnvT) (a_mo : Nat → Nat) (mo_code : Int32) (mo_tape : Nat → Int32) (mo_text : Nat → Int32) (mo_taped : Int32) (mo_size : Int32) (mo_at : Int32) (mo_ill : Int32) (mo_in : Nat → Int32) (mo_kind : Nat → Int32) (mo_type : Nat → Int32) (mo_long1 : Nat → Int32) (mo_letters : Nat → Int32) (mo_fields : Int32) (mo_kept : Int32) (mo_now : Int32) (mo_many : Nat → Int32) (mo_itemKind : Nat → Int32) (mo_itemField : Nat → Int32) (mo_itemPlace : Nat → Int32) (mo_by : Nat → Int32) (mo_stepKind : Nat → Int32) (mo_stepField : Nat → Int32) (mo_stepOperator : Nat → Int32) (mo_stepOther : Nat → Int32) (mo_stepMany : Nat → Int32) (mo_literalType : Nat → Int32) (mo_literalFrom : Nat → Int32) (mo_literalSize : Nat → Int32) (mo_bytes : Nat → Int32) (mo_said : Nat → Int32) (mo_number : Nat → Int64) (mo_pile : Nat → Int32) (mo_pilePlace : Nat → Int32) (mo_top : Int32) (mo_open : Int32) (o_mo_at : Int32) (o_mo_ill : Int32) (o_mo_many : Nat → Int32) (o_mo_itemKind : Nat → Int32) (o_mo_itemField : Nat → Int32) (o_mo_itemPlace : Nat → Int32) (hf : f_X6_readItem mo_text mo_size mo_at mo_ill mo_in mo_kind mo_type mo_long1 mo_letters mo_fields mo_now mo_many mo_itemKind mo_itemField mo_itemPlace = some (o_mo_at, o_mo_ill, o_mo_many, o_mo_itemKind, o_mo_itemField, o_mo_itemPlace)) : CV l yX6_readItem (Cond.code yX6_readItem cX6_readItem 6 none) { frames := 5, cells := 0, slots := 0, locals := 112 } E [.ref (a_mo 0)] (w_mo E a_mo mo_code mo_tape mo_text mo_taped mo_size mo_at mo_ill mo_in mo_kind mo_type mo_long1 mo_letters mo_fields mo_kept mo_now mo_many mo_itemKind mo_itemField mo_itemPlace mo_by mo_stepKind mo_stepField mo_stepOperator mo_stepOther mo_stepMany mo_literalType mo_literalFrom mo_literalSize mo_bytes mo_said mo_number mo_pile mo_pilePlace mo_top mo_open) (w_mo E a_mo mo_code mo_tape mo_text mo_taped mo_size o_mo_at o_mo_ill mo_in mo_kind mo_type mo_long1 mo_letters mo_fields mo_kept mo_now o_mo_many o_mo_itemKind o_mo_itemField o_mo_itemPlace mo_by mo_stepKind mo_stepField mo_stepOperator mo_stepOther mo_stepMany mo_literalType mo_literalFrom mo_literalSize mo_bytes mo_said mo_number mo_pile mo_pilePlace mo_top mo_open) := by
  intro sz
  refine met_start [(0, .ref (a_mo 0))] (by decide) rfl rfl (Nat.le_of_ble_eq_true rfl) rfl ?_
  intro p e s m below meth c ls C hnm hmt hw hl
  have hx := C.1
  have hb := C.2.1
  generalize va_A (w_mo E a_mo mo_code mo_tape mo_text mo_taped mo_size mo_at mo_ill mo_in mo_kind mo_type mo_long1 mo_letters mo_fields mo_kept mo_now mo_many mo_itemKind mo_itemField mo_itemPlace mo_by mo_stepKind mo_stepField mo_stepOperator mo_stepOther mo_stepMany mo_literalType mo_literalFrom mo_literalSize mo_bytes mo_said mo_number mo_pile mo_pilePlace mo_top mo_open) sz = A at C hw ⊢
  unfold f_X6_readItem at hf
  refine lv_aload_n hx hb dX6_readItem_0 rfl (lv_at hl 0 rfl) ?_
  obtain ⟨x1, z1, hf⟩ := ob1_el hf
  refine cV_V C hw (c_X6_blanks l E a_mo mo_code mo_tape mo_text mo_taped mo_size mo_at mo_ill mo_in mo_kind mo_type mo_long1 mo_letters mo_fields mo_kept mo_now mo_many mo_itemKind mo_itemField mo_itemPlace mo_by mo_stepKind mo_stepField mo_stepOperator mo_stepOther mo_stepMany mo_literalType mo_literalFrom mo_literalSize mo_bytes mo_said mo_number mo_pile mo_pilePlace mo_top mo_open x1 z1) cs_X6_130 ⟨Nat.le_of_ble_eq_true rfl, Nat.le_of_ble_eq_true rfl⟩ ⟨rfl, rfl⟩ (ci := 6) (cn := (RX6, TX6, 35)) rfl (q0 := 0) rfl (wn := w_mo E a_mo mo_code mo_tape mo_text mo_taped mo_size x1 mo_ill mo_in mo_kind mo_type mo_long1 mo_letters mo_fields mo_kept mo_now mo_many mo_itemKind mo_itemField mo_itemPlace mo_by mo_stepKind mo_stepField mo_stepOperator mo_stepOther mo_stepMany mo_literalType mo_literalFrom mo_literalSize mo_bytes mo_said mo_number mo_pile mo_pilePlace mo_top mo_open) (Jn.all _ _) rfl hl.1 rfl (Nat.le_of_ble_eq_true rfl) dX6_readItem_1 ⟨Nat.zero_le _, Nat.zero_le _⟩ (fun H locs hw => ?_)
  refine lv_aload_n hx hb dX6_readItem_4 rfl (lv_at hl 0 rfl) ?_
  refine fg_X6_99 C hw 0 rfl rfl dX6_readItem_5 ?_
  refine lv_istore_n (lv' := [(1, .int x1), (0, .ref (a_mo 0))]) hx hb dX6_readItem_8 rfl hl (by decide) rfl (fun ls hl => ?_)
  refine lv_aload_n hx hb dX6_readItem_9 rfl (lv_at hl 1 rfl) ?_
  refine fg_X6_35 C hw 0 rfl rfl dX6_readItem_10 ?_
  refine lv_iconst (v := 4) hx hb dX6_readItem_13 (by decide) ?_
  refine lv_aload_n hx hb dX6_readItem_14 rfl (lv_at hl 1 rfl) ?_
  refine fg_X6_189 C hw 0 rfl rfl dX6_readItem_15 ?_
  refine lv_imul hx hb dX6_readItem_18 ?_
  obtain ⟨x2, ex2, gx2, hf⟩ := rd_el hf
  refine ra_i C hw 8 rfl gx2 dX6_readItem_19 ?_
  refine tp_i ex2 ?_
  refine lv_istore_n (lv' := [(2, .int x2), (1, .int x1), (0, .ref (a_mo 0))]) hx hb dX6_readItem_20 rfl hl (by decide) rfl (fun ls hl => ?_)
  refine lv_iload_n hx hb dX6_readItem_21 rfl (lv_at hl 0 rfl) ?_
  refine lv_bipush (v := 16) hx hb dX6_readItem_22 (by decide) ?_
  refine lv_icmp_ne (tgt := 32) hx hb dX6_readItem_24 (by decide) (fun c24 => ?_) (fun c24 => ?_)
  · replace hf := it_f c24 hf
    exact w_X6_readItem_32 C hw (lv_sub hl [2, 1, 0] rfl) hf
  · replace hf := it_t c24 hf
    refine lv_aload_n hx hb dX6_readItem_27 rfl (lv_at hl 2 rfl) ?_
    refine lv_iload_n hx hb dX6_readItem_28 rfl (lv_at hl 1 rfl) ?_
    obtain ⟨x3, z3, hf⟩ := ob1_el hf
    refine cV_V C hw (c_X6_fail l E a_mo mo_code mo_tape mo_text mo_taped mo_size x1 mo_ill mo_in mo_kind mo_type mo_long1 mo_letters mo_fields mo_kept mo_now mo_many mo_itemKind mo_itemField mo_itemPlace mo_by mo_stepKind mo_stepField mo_stepOperator mo_stepOther mo_stepMany mo_literalType mo_literalFrom mo_literalSize mo_bytes mo_said mo_number mo_pile mo_pilePlace mo_top mo_open x1 x3 z3) cs_X6_144 ⟨Nat.le_of_ble_eq_true rfl, Nat.le_of_ble_eq_true rfl⟩ ⟨rfl, rfl⟩ (ci := 6) (cn := (RX6, TX6, 35)) rfl (q0 := 0) rfl (wn := w_mo E a_mo mo_code mo_tape mo_text mo_taped mo_size x1 x3 mo_in mo_kind mo_type mo_long1 mo_letters mo_fields mo_kept mo_now mo_many mo_itemKind mo_itemField mo_itemPlace mo_by mo_stepKind mo_stepField mo_stepOperator mo_stepOther mo_stepMany mo_literalType mo_literalFrom mo_literalSize mo_bytes mo_said mo_number mo_pile mo_pilePlace mo_top mo_open) (Jn.all _ _) rfl hl.1 rfl (Nat.le_of_ble_eq_true rfl) dX6_readItem_29 ⟨Nat.zero_le _, Nat.zero_le _⟩ (fun H locs hw => ?_)
    exact w_X6_readItem_32 C hw (lv_sub hl [2, 1, 0] rfl) hf
