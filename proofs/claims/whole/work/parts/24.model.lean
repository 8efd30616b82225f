def f_X6_readAsked_302 (l1 : Int32) (l2 : Int32) (l3 : Int32) (l4 : Int32) (mo_text : Nat → Int32) (mo_size : Int32) (mo_at : Int32) (mo_ill : Int32) (mo_type : Nat → Int32) (mo_now : Int32) (mo_many : Nat → Int32) (mo_stepKind : Nat → Int32) (mo_stepField : Nat → Int32) (mo_stepOperator : Nat → Int32) (mo_stepOther : Nat → Int32) (mo_stepMany : Nat → Int32) (mo_literalType : Nat → Int32) (mo_literalFrom : Nat → Int32) (mo_literalSize : Nat → Int32) (mo_bytes : Nat → Int32) (mo_said : Nat → Int32) (mo_number : Nat → Int64) : Option ((Int32) × (Int32) × (Nat → Int32) × (Nat → Int32) × (Nat → Int32) × (Nat → Int32) × (Nat → Int32) × (Nat → Int32) × (Nat → Int32) × (Nat → Int32) × (Nat → Int32) × (Nat → Int32) × (Nat → Int32) × (Nat → Int64)) :=
  rd mo_type 64 l2 (fun x1 =>
  ob9 (f_X6_readLiteral x1 mo_text mo_size mo_at mo_ill mo_now mo_many mo_literalType mo_literalFrom mo_literalSize mo_bytes mo_said mo_number) (fun x2 x3 x4 x5 x6 x7 x8 x9 x10 =>
  ob7 (f_X6_addStep l1 (3 : Int32) l2 l4 l3 (1 : Int32) x3 mo_now x4 mo_stepKind mo_stepField mo_stepOperator mo_stepOther mo_stepMany) (fun x11 x12 x13 x14 x15 x16 x17 =>
  some (x2, x11, x12, x13, x14, x15, x16, x17, x5, x6, x7, x8, x9, x10))))
set_option maxHeartbeats 4000000 in
set_option maxRecDepth 100000 in
theorem w_X6_readAsked_302 {p : Program} {l : Launch} {e : Env} {s : State} {m : MethodId} {args : Array Value} {below : List Frame} {meth : Method} {c : Code} {E : EnvT} {A : Nat → Prop} {a_mo : Nat → Nat} {mo_code : Int32} {mo_tape : Nat → Int32} {mo_taped : Int32} {mo_in : Nat → Int32} {mo_kind : Nat → Int32} {mo_long1 : Nat → Int32} {mo_letters : Nat → Int32} {mo_fields : Int32} {mo_kept : Int32} {mo_itemKind : Nat → Int32} {mo_itemField : Nat → Int32} {mo_itemPlace : Nat → Int32} {mo_by : Nat → Int32} {mo_pile : Nat → Int32} {mo_pilePlace : Nat → Int32} {mo_top : Int32} {mo_open : Int32} {o_mo_at : Int32} {o_mo_ill : Int32} {o_mo_many : Nat → Int32} {o_mo_stepKind : Nat → Int32} {o_mo_stepField : Nat → Int32} {o_mo_stepOperator : Nat → Int32} {o_mo_stepOther : Nat → Int32} {o_mo_stepMany : Nat → Int32} {o_mo_literalType : Nat → Int32} {o_mo_literalFrom : Nat → Int32} {o_mo_literalSize : Nat → Int32} {o_mo_bytes : Nat → Int32} {o_mo_said : Nat → Int32} {o_mo_number : Nat → Int64} {l1 : Int32} {l2 : Int32} {l3 : Int32} {l4 : Int32} {mo_text : Nat → Int32} {mo_size : Int32} {mo_at : Int32} {mo_ill : Int32} {mo_type : Nat → Int32} {mo_now : Int32} {mo_many : Nat → Int32} {mo_stepKind : Nat → Int32} {mo_stepField : Nat → Int32} {mo_stepOperator : Nat → Int32} {mo_stepOther : Nat → Int32} {mo_stepMany : Nat → Int32} {mo_literalType : Nat → Int32} {mo_literalFrom : Nat → Int32} {mo_literalSize : Nat → Int32} {mo_bytes : Nat → Int32} {mo_said : Nat → Int32} {mo_number : Nat → Int64} {H : Heap} {locs : List Loc} {ls : Array Slot} (C : MC p s m args meth c E A cX6_readAsked 7 RX6 none) (hw : WS E A s (w_mo E a_mo mo_code mo_tape mo_text mo_taped mo_size mo_at mo_ill mo_in mo_kind mo_type mo_long1 mo_letters mo_fields mo_kept mo_now mo_many mo_itemKind mo_itemField mo_itemPlace mo_by mo_stepKind mo_stepField mo_stepOperator mo_stepOther mo_stepMany mo_literalType mo_literalFrom mo_literalSize mo_bytes mo_said mo_number mo_pile mo_pilePlace mo_top mo_open) H locs) (hl : lv_has ls 7 [(0, .ref (a_mo 0)), (1, .int l1), (2, .int l2), (3, .int l3), (4, .int l4)]) (hf : f_X6_readAsked_302 l1 l2 l3 l4 mo_text mo_size mo_at mo_ill mo_type mo_now mo_many mo_stepKind mo_stepField mo_stepOperator mo_stepOther mo_stepMany mo_literalType mo_literalFrom mo_literalSize mo_bytes mo_said mo_number = some (o_mo_at, o_mo_ill, o_mo_many, o_mo_stepKind, o_mo_stepField, o_mo_stepOperator, o_mo_stepOther, o_mo_stepMany, o_mo_literalType, o_mo_literalFrom, o_mo_literalSize, o_mo_bytes, o_mo_said, o_mo_number)) : W p l e { frames := 6, cells := 0, slots := 0, locals := 138 } s m args below meth c H locs 0 0 (MQ below (QcV E A (w_mo E a_mo mo_code mo_tape mo_text mo_taped mo_size o_mo_at o_mo_ill mo_in mo_kind mo_type mo_long1 mo_letters mo_fields mo_kept mo_now o_mo_many mo_itemKind mo_itemField mo_itemPlace mo_by o_mo_stepKind o_mo_stepField o_mo_stepOperator o_mo_stepOther o_mo_stepMany o_mo_literalType o_mo_literalFrom o_mo_literalSize o_mo_bytes o_mo_said o_mo_number mo_pile mo_pilePlace mo_top mo_open)) args s 0 0 A) (F0 m 302 ls []) := by
  have hx := C.1
  have hb := C.2.1
  unfold f_X6_readAsked_302 at hf
  refine lv_aload_n hx hb dX6_readAsked_302 rfl (lv_at hl 0 rfl) ?_
  refine lv_aload_n hx hb dX6_readAsked_303 rfl (lv_at hl 0 rfl) ?_
  refine fg_X6_22 C hw 0 rfl rfl dX6_readAsked_304 ?_
  refine lv_iload_n hx hb dX6_readAsked_307 rfl (lv_at hl 2 rfl) ?_
  obtain ⟨x1, ex1, gx1, hf⟩ := rd_el hf
  refine ra_i C hw 5 rfl gx1 dX6_readAsked_308 ?_
  refine tp_i ex1 ?_
  obtain ⟨x2, x3, x4, x5, x6, x7, x8, x9, x10, z10, hf⟩ := ob9_el hf
  refine cV_V C hw (c_X6_readLiteral l E a_mo mo_code mo_tape mo_text mo_taped mo_size mo_at mo_ill mo_in mo_kind mo_type mo_long1 mo_letters mo_fields mo_kept mo_now mo_many mo_itemKind mo_itemField mo_itemPlace mo_by mo_stepKind mo_stepField mo_stepOperator mo_stepOther mo_stepMany mo_literalType mo_literalFrom mo_literalSize mo_bytes mo_said mo_number mo_pile mo_pilePlace mo_top mo_open x1 x2 x3 x4 x5 x6 x7 x8 x9 x10 z10) cs_X6_230 ⟨Nat.le_of_ble_eq_true rfl, Nat.le_of_ble_eq_true rfl⟩ ⟨rfl, rfl⟩ (ci := 6) (cn := (RX6, TX6, 35)) rfl (q0 := 0) rfl (wn := w_mo E a_mo mo_code mo_tape mo_text mo_taped mo_size x2 x3 mo_in mo_kind mo_type mo_long1 mo_letters mo_fields mo_kept mo_now x4 mo_itemKind mo_itemField mo_itemPlace mo_by mo_stepKind mo_stepField mo_stepOperator mo_stepOther mo_stepMany x5 x6 x7 x8 x9 x10 mo_pile mo_pilePlace mo_top mo_open) (Jn.all _ _) rfl hl.1 rfl (Nat.le_of_ble_eq_true rfl) dX6_readAsked_309 ⟨Nat.zero_le _, Nat.zero_le _⟩ (fun H locs hw => ?_)
  refine lv_aload_n hx hb dX6_readAsked_312 rfl (lv_at hl 0 rfl) ?_
  refine lv_iload_n hx hb dX6_readAsked_313 rfl (lv_at hl 1 rfl) ?_
  refine lv_iconst (v := 3) hx hb dX6_readAsked_314 (by decide) ?_
  refine lv_iload_n hx hb dX6_readAsked_315 rfl (lv_at hl 2 rfl) ?_
  refine lv_iload hx hb dX6_readAsked_316 (lv_at hl 4 rfl) ?_
  refine lv_iload_n hx hb dX6_readAsked_318 rfl (lv_at hl 3 rfl) ?_
  refine lv_iconst (v := 1) hx hb dX6_readAsked_319 (by decide) ?_
  obtain ⟨x11, x12, x13, x14, x15, x16, x17, z17, hf⟩ := ob7_el hf
  refine cV_V C hw (c_X6_addStep l E a_mo mo_code mo_tape mo_text mo_taped mo_size x2 x3 mo_in mo_kind mo_type mo_long1 mo_letters mo_fields mo_kept mo_now x4 mo_itemKind mo_itemField mo_itemPlace mo_by mo_stepKind mo_stepField mo_stepOperator mo_stepOther mo_stepMany x5 x6 x7 x8 x9 x10 mo_pile mo_pilePlace mo_top mo_open l1 (3 : Int32) l2 l4 l3 (1 : Int32) x11 x12 x13 x14 x15 x16 x17 z17) cs_X6_213 ⟨Nat.le_of_ble_eq_true rfl, Nat.le_of_ble_eq_true rfl⟩ ⟨rfl, rfl⟩ (ci := 6) (cn := (RX6, TX6, 35)) rfl (q0 := 0) rfl (wn := w_mo E a_mo mo_code mo_tape mo_text mo_taped mo_size x2 x11 mo_in mo_kind mo_type mo_long1 mo_letters mo_fields mo_kept mo_now x12 mo_itemKind mo_itemField mo_itemPlace mo_by x13 x14 x15 x16 x17 x5 x6 x7 x8 x9 x10 mo_pile mo_pilePlace mo_top mo_open) (Jn.all _ _) rfl hl.1 rfl (Nat.le_of_ble_eq_true rfl) dX6_readAsked_320 ⟨Nat.zero_le _, Nat.zero_le _⟩ (fun H locs hw => ?_)
  cases hf
  exact rt_v C hw dX6_readAsked_323
def f_X6_readAsked_281 (l1 : Int32) (l2 : Int32) (l4 : Int32) (l5 : Int32) (l6 : Int32) (mo_at : Int32) (mo_ill : Int32) (mo_now : Int32) (mo_many : Nat → Int32) (mo_stepKind : Nat → Int32) (mo_stepField : Nat → Int32) (mo_stepOperator : Nat → Int32) (mo_stepOther : Nat → Int32) (mo_stepMany : Nat → Int32) (mo_literalType : Nat → Int32) (mo_literalFrom : Nat → Int32) (mo_literalSize : Nat → Int32) (mo_bytes : Nat → Int32) (mo_said : Nat → Int32) (mo_number : Nat → Int64) : Option ((Int32) × (Int32) × (Nat → Int32) × (Nat → Int32) × (Nat → Int32) × (Nat → Int32) × (Nat → Int32) × (Nat → Int32) × (Nat → Int32) × (Nat → Int32) × (Nat → Int32) × (Nat → Int32) × (Nat → Int32) × (Nat → Int64)) :=
  ob1 (f_X6_fail l5 mo_ill) (fun x1 =>
  ob7 (f_X6_addStep l1 (4 : Int32) l2 l4 l6 (0 : Int32) x1 mo_now mo_many mo_stepKind mo_stepField mo_stepOperator mo_stepOther mo_stepMany) (fun x2 x3 x4 x5 x6 x7 x8 =>
  some (mo_at, x2, x3, x4, x5, x6, x7, x8, mo_literalType, mo_literalFrom, mo_literalSize, mo_bytes, mo_said, mo_number)))
set_option maxHeartbeats 4000000 in
set_option maxRecDepth 100000 in
theorem w_X6_readAsked_281 {p : Program} {l : Launch} {e : Env} {s : State} {m : MethodId} {args : Array Value} {below : List Frame} {meth : Method} {c : Code} {E : EnvT} {A : Nat → Prop} {a_mo : Nat → Nat} {mo_code : Int32} {mo_tape : Nat → Int32} {mo_text : Nat → Int32} {mo_taped : Int32} {mo_size : Int32} {mo_in : Nat → Int32} {mo_kind : Nat → Int32} {mo_type : Nat → Int32} {mo_long1 : Nat → Int32} {mo_letters : Nat → Int32} {mo_fields : Int32} {mo_kept : Int32} {mo_itemKind : Nat → Int32} {mo_itemField : Nat → Int32} {mo_itemPlace : Nat → Int32} {mo_by : Nat → Int32} {mo_pile : Nat → Int32} {mo_pilePlace : Nat → Int32} {mo_top : Int32} {mo_open : Int32} {o_mo_at : Int32} {o_mo_ill : Int32} {o_mo_many : Nat → Int32} {o_mo_stepKind : Nat → Int32} {o_mo_stepField : Nat → Int32} {o_mo_stepOperator : Nat → Int32} {o_mo_stepOther : Nat → Int32} {o_mo_stepMany : Nat → Int32} {o_mo_literalType : Nat → Int32} {o_mo_literalFrom : Nat → Int32} {o_mo_literalSize : Nat → Int32} {o_mo_bytes : Nat → Int32} {o_mo_said : Nat → Int32} {o_mo_number : Nat → Int64} {l1 : Int32} {l2 : Int32} {l4 : Int32} {l5 : Int32} {l6 : Int32} {mo_at : Int32} {mo_ill : Int32} {mo_now : Int32} {mo_many : Nat → Int32} {mo_stepKind : Nat → Int32} {mo_stepField : Nat → Int32} {mo_stepOperator : Nat → Int32} {mo_stepOther : Nat → Int32} {mo_stepMany : Nat → Int32} {mo_literalType : Nat → Int32} {mo_literalFrom : Nat → Int32} {mo_literalSize : Nat → Int32} {mo_bytes : Nat → Int32} {mo_said : Nat → Int32} {mo_number : Nat → Int64} {H : Heap} {locs : List Loc} {ls : Array Slot} (C : MC p s m args meth c E A cX6_readAsked 7 RX6 none) (hw : WS E A s (w_mo E a_mo mo_code mo_tape mo_text mo_taped mo_size mo_at mo_ill mo_in mo_kind mo_type mo_long1 mo_letters mo_fields mo_kept mo_now mo_many mo_itemKind mo_itemField mo_itemPlace mo_by mo_stepKind mo_stepField mo_stepOperator mo_stepOther mo_stepMany mo_literalType mo_literalFrom mo_literalSize mo_bytes mo_said mo_number mo_pile mo_pilePlace mo_top mo_open) H locs) (hl : lv_has ls 7 [(0, .ref (a_mo 0)), (1, .int l1), (2, .int l2), (4, .int l4), (5, .int l5), (6, .int l6)]) (hf : f_X6_readAsked_281 l1 l2 l4 l5 l6 mo_at mo_ill mo_now mo_many mo_stepKind mo_stepField mo_stepOperator mo_stepOther mo_stepMany mo_literalType mo_literalFrom mo_literalSize mo_bytes mo_said mo_number = some (o_mo_at, o_mo_ill, o_mo_many, o_mo_stepKind, o_mo_stepField, o_mo_stepOperator, o_mo_stepOther, o_mo_stepMany, o_mo_literalType, o_mo_literalFrom, o_mo_literalSize, o_mo_bytes, o_mo_said, o_mo_number)) : W p l e { frames := 6, cells := 0, slots := 0, locals := 138 } s m args below meth c H locs 0 0 (MQ below (QcV E A (w_mo E a_mo mo_code mo_tape mo_text mo_taped mo_size o_mo_at o_mo_ill mo_in mo_kind mo_type mo_long1 mo_letters mo_fields mo_kept mo_now o_mo_many mo_itemKind mo_itemField mo_itemPlace mo_by o_mo_stepKind o_mo_stepField o_mo_stepOperator o_mo_stepOther o_mo_stepMany o_mo_literalType o_mo_literalFrom o_mo_literalSize o_mo_bytes o_mo_said o_mo_number mo_pile mo_pilePlace mo_top mo_open)) args s 0 0 A) (F0 m 281 ls []) := by
  have hx := C.1
  have hb := C.2.1
  unfold f_X6_readAsked_281 at hf
  refine lv_aload_n hx hb dX6_readAsked_281 rfl (lv_at hl 0 rfl) ?_
  refine lv_iload hx hb dX6_readAsked_282 (lv_at hl 4 rfl) ?_
  obtain ⟨x1, z1, hf⟩ := ob1_el hf
  refine cV_V C hw (c_X6_fail l E a_mo mo_code mo_tape mo_text mo_taped mo_size mo_at mo_ill mo_in mo_kind mo_type mo_long1 mo_letters mo_fields mo_kept mo_now mo_many mo_itemKind mo_itemField mo_itemPlace mo_by mo_stepKind mo_stepField mo_stepOperator mo_stepOther mo_stepMany mo_literalType mo_literalFrom mo_literalSize mo_bytes mo_said mo_number mo_pile mo_pilePlace mo_top mo_open l5 x1 z1) cs_X6_144 ⟨Nat.le_of_ble_eq_true rfl, Nat.le_of_ble_eq_true rfl⟩ ⟨rfl, rfl⟩ (ci := 6) (cn := (RX6, TX6, 35)) rfl (q0 := 0) rfl (wn := w_mo E a_mo mo_code mo_tape mo_text mo_taped mo_size mo_at x1 mo_in mo_kind mo_type mo_long1 mo_letters mo_fields mo_kept mo_now mo_many mo_itemKind mo_itemField mo_itemPlace mo_by mo_stepKind mo_stepField mo_stepOperator mo_stepOther mo_stepMany mo_literalType mo_literalFrom mo_literalSize mo_bytes mo_said mo_number mo_pile mo_pilePlace mo_top mo_open) (Jn.all _ _) rfl hl.1 rfl (Nat.le_of_ble_eq_true rfl) dX6_readAsked_284 ⟨Nat.zero_le _, Nat.zero_le _⟩ (fun H locs hw => ?_)
  refine lv_aload_n hx hb dX6_readAsked_287 rfl (lv_at hl 0 rfl) ?_
  refine lv_iload_n hx hb dX6_readAsked_288 rfl (lv_at hl 1 rfl) ?_
  refine lv_iconst (v := 4) hx hb dX6_readAsked_289 (by decide) ?_
  refine lv_iload_n hx hb dX6_readAsked_290 rfl (lv_at hl 2 rfl) ?_
  refine lv_iload hx hb dX6_readAsked_291 (lv_at hl 3 rfl) ?_
  refine lv_iload hx hb dX6_readAsked_293 (lv_at hl 5 rfl) ?_
  refine lv_iconst (v := 0) hx hb dX6_readAsked_295 (by decide) ?_
  obtain ⟨x2, x3, x4, x5, x6, x7, x8, z8, hf⟩ := ob7_el hf
  refine cV_V C hw (c_X6_addStep l E a_mo mo_code mo_tape mo_text mo_taped mo_size mo_at x1 mo_in mo_kind mo_type mo_long1 mo_letters mo_fields mo_kept mo_now mo_many mo_itemKind mo_itemField mo_itemPlace mo_by mo_stepKind mo_stepField mo_stepOperator mo_stepOther mo_stepMany mo_literalType mo_literalFrom mo_literalSize mo_bytes mo_said mo_number mo_pile mo_pilePlace mo_top mo_open l1 (4 : Int32) l2 l4 l6 (0 : Int32) x2 x3 x4 x5 x6 x7 x8 z8) cs_X6_213 ⟨Nat.le_of_ble_eq_true rfl, Nat.le_of_ble_eq_true rfl⟩ ⟨rfl, rfl⟩ (ci := 6) (cn := (RX6, TX6, 35)) rfl (q0 := 0) rfl (wn := w_mo E a_mo mo_code mo_tape mo_text mo_taped mo_size mo_at x2 mo_in mo_kind mo_type mo_long1 mo_letters mo_fields mo_kept mo_now x3 mo_itemKind mo_itemField mo_itemPlace mo_by x4 x5 x6 x7 x8 mo_literalType mo_literalFrom mo_literalSize mo_bytes mo_said mo_number mo_pile mo_pilePlace mo_top mo_open) (Jn.all _ _) rfl hl.1 rfl (Nat.le_of_ble_eq_true rfl) dX6_readAsked_296 ⟨Nat.zero_le _, Nat.zero_le _⟩ (fun H locs hw => ?_)
  refine lv_goto (tgt := 323) hx hb dX6_readAsked_299 (by decide) ?_
  cases hf
  exact rt_v C hw dX6_readAsked_323
def f_X6_readAsked_117 : Nat → (Int32) → (Nat → Int32) → (Int32) → (Int32) → (Int32) → (Nat → Int32) → (Int32) → (Nat → Int32) → (Nat → Int32) → (Nat → Int32) → (Nat → Int32) → (Nat → Int32) → (Nat → Int32) → (Nat → Int64) → Option ((Int32) × (Int32) × (Nat → Int32) × (Nat → Int32) × (Nat → Int32) × (Nat → Int32) × (Nat → Int32) × (Nat → Int32) × (Nat → Int64))
  | 0, _, _, _, _, _, _, _, _, _, _, _, _, _, _ => none
  | n + 1, l2, mo_text, mo_size, mo_at, mo_ill, mo_type, mo_now, mo_many, mo_literalType, mo_literalFrom, mo_literalSize, mo_bytes, mo_said, mo_number =>
  ob2 (f_X6_takesSign (44 : Int32) mo_text mo_size mo_at mo_ill) (fun x1 x2 =>
  if x1 = (0 : Int32) then (some (x2, mo_ill, mo_many, mo_literalType, mo_literalFrom, mo_literalSize, mo_bytes, mo_said, mo_number))
  else (rd mo_type 64 l2 (fun x3 =>
  ob9 (f_X6_readLiteral x3 mo_text mo_size x2 mo_ill mo_now mo_many mo_literalType mo_literalFrom mo_literalSize mo_bytes mo_said mo_number) (fun x4 x5 x6 x7 x8 x9 x10 x11 x12 =>
  f_X6_readAsked_117 n l2 mo_text mo_size x4 x5 mo_type mo_now x6 x7 x8 x9 x10 x11 x12))))
set_option maxHeartbeats 4000000 in
set_option maxRecDepth 100000 in
theorem w_X6_readAsked_117 {p : Program} {l : Launch} {e : Env} {s : State} {m : MethodId} {args : Array Value} {below : List Frame} {meth : Method} {c : Code} {E : EnvT} {A : Nat → Prop} {a_mo : Nat → Nat} {Q : State → Prop} {mo_code : Int32} {mo_tape : Nat → Int32} {mo_taped : Int32} {mo_in : Nat → Int32} {mo_kind : Nat → Int32} {mo_long1 : Nat → Int32} {mo_letters : Nat → Int32} {mo_fields : Int32} {mo_kept : Int32} {mo_itemKind : Nat → Int32} {mo_itemField : Nat → Int32} {mo_itemPlace : Nat → Int32} {mo_by : Nat → Int32} {mo_stepKind : Nat → Int32} {mo_stepField : Nat → Int32} {mo_stepOperator : Nat → Int32} {mo_stepOther : Nat → Int32} {mo_stepMany : Nat → Int32} {mo_pile : Nat → Int32} {mo_pilePlace : Nat → Int32} {mo_top : Int32} {mo_open : Int32} {l1 : Int32} {l3 : Int32} {q_mo_at : Int32} {q_mo_ill : Int32} {q_mo_many : Nat → Int32} {q_mo_literalType : Nat → Int32} {q_mo_literalFrom : Nat → Int32} {q_mo_literalSize : Nat → Int32} {q_mo_bytes : Nat → Int32} {q_mo_said : Nat → Int32} {q_mo_number : Nat → Int64} (C : MC p s m args meth c E A cX6_readAsked 7 RX6 none) : ∀ (n : Nat) {l2 : Int32} {mo_text : Nat → Int32} {mo_size : Int32} {mo_at : Int32} {mo_ill : Int32} {mo_type : Nat → Int32} {mo_now : Int32} {mo_many : Nat → Int32} {mo_literalType : Nat → Int32} {mo_literalFrom : Nat → Int32} {mo_literalSize : Nat → Int32} {mo_bytes : Nat → Int32} {mo_said : Nat → Int32} {mo_number : Nat → Int64} {H : Heap} {locs : List Loc} {ls : Array Slot}, WS E A s (w_mo E a_mo mo_code mo_tape mo_text mo_taped mo_size mo_at mo_ill mo_in mo_kind mo_type mo_long1 mo_letters mo_fields mo_kept mo_now mo_many mo_itemKind mo_itemField mo_itemPlace mo_by mo_stepKind mo_stepField mo_stepOperator mo_stepOther mo_stepMany mo_literalType mo_literalFrom mo_literalSize mo_bytes mo_said mo_number mo_pile mo_pilePlace mo_top mo_open) H locs → lv_has ls 7 [(0, .ref (a_mo 0)), (1, .int l1), (2, .int l2), (3, .int l3)] → f_X6_readAsked_117 n l2 mo_text mo_size mo_at mo_ill mo_type mo_now mo_many mo_literalType mo_literalFrom mo_literalSize mo_bytes mo_said mo_number = some (q_mo_at, q_mo_ill, q_mo_many, q_mo_literalType, q_mo_literalFrom, q_mo_literalSize, q_mo_bytes, q_mo_said, q_mo_number) → (∀ (H : Heap) (locs : List Loc) (ls : Array Slot), WS E A s (w_mo E a_mo mo_code mo_tape mo_text mo_taped mo_size q_mo_at q_mo_ill mo_in mo_kind mo_type mo_long1 mo_letters mo_fields mo_kept mo_now q_mo_many mo_itemKind mo_itemField mo_itemPlace mo_by mo_stepKind mo_stepField mo_stepOperator mo_stepOther mo_stepMany q_mo_literalType q_mo_literalFrom q_mo_literalSize q_mo_bytes q_mo_said q_mo_number mo_pile mo_pilePlace mo_top mo_open) H locs → lv_has ls 7 [(0, .ref (a_mo 0)), (1, .int l1), (2, .int l2), (3, .int l3)] → W p l e { frames := 6, cells := 0, slots := 0, locals := 138 } s m args below meth c H locs 0 0 Q (F0 m 139 ls [])) → W p l e { frames := 6, cells := 0, slots := 0, locals := 138 } s m args below meth c H locs 0 0 Q (F0 m 117 ls []) := by
  have hx := C.1
  have hb := C.2.1
  intro n
  induction n with
  | zero =>
    intro l2 mo_text mo_size mo_at mo_ill mo_type mo_now mo_many mo_literalType mo_literalFrom mo_literalSize mo_bytes mo_said mo_number H locs ls hw hl hf kk
    unfold f_X6_readAsked_117 at hf
    cases hf
  | succ n ih =>
    intro l2 mo_text mo_size mo_at mo_ill mo_type mo_now mo_many mo_literalType mo_literalFrom mo_literalSize mo_bytes mo_said mo_number H locs ls hw hl hf kk
    unfold f_X6_readAsked_117 at hf
    refine lv_aload_n hx hb dX6_readAsked_117 rfl (lv_at hl 0 rfl) ?_
    refine lv_bipush (v := 44) hx hb dX6_readAsked_118 (by decide) ?_
    obtain ⟨x1, x2, z2, hf⟩ := ob2_el hf
    refine cI_V C hw (c_X6_takesSign l E a_mo mo_code mo_tape mo_text mo_taped mo_size mo_at mo_ill mo_in mo_kind mo_type mo_long1 mo_letters mo_fields mo_kept mo_now mo_many mo_itemKind mo_itemField mo_itemPlace mo_by mo_stepKind mo_stepField mo_stepOperator mo_stepOther mo_stepMany mo_literalType mo_literalFrom mo_literalSize mo_bytes mo_said mo_number mo_pile mo_pilePlace mo_top mo_open (44 : Int32) x1 x2 z2) cs_X6_141 ⟨Nat.le_of_ble_eq_true rfl, Nat.le_of_ble_eq_true rfl⟩ ⟨rfl, rfl⟩ (ci := 6) (cn := (RX6, TX6, 35)) rfl (q0 := 0) rfl (wn := w_mo E a_mo mo_code mo_tape mo_text mo_taped mo_size x2 mo_ill mo_in mo_kind mo_type mo_long1 mo_letters mo_fields mo_kept mo_now mo_many mo_itemKind mo_itemField mo_itemPlace mo_by mo_stepKind mo_stepField mo_stepOperator mo_stepOther mo_stepMany mo_literalType mo_literalFrom mo_literalSize mo_bytes mo_said mo_number mo_pile mo_pilePlace mo_top mo_open) (Jn.all _ _) rfl hl.1 rfl (Nat.le_of_ble_eq_true rfl) dX6_readAsked_120 ⟨Nat.zero_le _, Nat.zero_le _⟩ (fun H locs hw => ?_)
    refine lv_if_eq (tgt := 139) hx hb dX6_readAsked_123 (by decide) (fun c123 => ?_) (fun c123 => ?_)
    · replace hf := it_t c123 hf
      cases hf
      exact kk _ _ _ hw (lv_sub hl [0, 1, 2, 3] rfl)
    · replace hf := it_f c123 hf
      refine lv_aload_n hx hb dX6_readAsked_126 rfl (lv_at hl 0 rfl) ?_
      refine lv_aload_n hx hb dX6_readAsked_127 rfl (lv_at hl 0 rfl) ?_
      refine fg_X6_22 C hw 0 rfl rfl dX6_readAsked_128 ?_
      refine lv_iload_n hx hb dX6_readAsked_131 rfl (lv_at hl 2 rfl) ?_
      obtain ⟨x3, ex3, gx3, hf⟩ := rd_el hf
      refine ra_i C hw 5 rfl gx3 dX6_readAsked_132 ?_
      refine tp_i ex3 ?_
      obtain ⟨x4, x5, x6, x7, x8, x9, x10, x11, x12, z12, hf⟩ := ob9_el hf
      refine cV_V C hw (c_X6_readLiteral l E a_mo mo_code mo_tape mo_text mo_taped mo_size x2 mo_ill mo_in mo_kind mo_type mo_long1 mo_letters mo_fields mo_kept mo_now mo_many mo_itemKind mo_itemField mo_itemPlace mo_by mo_stepKind mo_stepField mo_stepOperator mo_stepOther mo_stepMany mo_literalType mo_literalFrom mo_literalSize mo_bytes mo_said mo_number mo_pile mo_pilePlace mo_top mo_open x3 x4 x5 x6 x7 x8 x9 x10 x11 x12 z12) cs_X6_230 ⟨Nat.le_of_ble_eq_true rfl, Nat.le_of_ble_eq_true rfl⟩ ⟨rfl, rfl⟩ (ci := 6) (cn := (RX6, TX6, 35)) rfl (q0 := 0) rfl (wn := w_mo E a_mo mo_code mo_tape mo_text mo_taped mo_size x4 x5 mo_in mo_kind mo_type mo_long1 mo_letters mo_fields mo_kept mo_now x6 mo_itemKind mo_itemField mo_itemPlace mo_by mo_stepKind mo_stepField mo_stepOperator mo_stepOther mo_stepMany x7 x8 x9 x10 x11 x12 mo_pile mo_pilePlace mo_top mo_open) (Jn.all _ _) rfl hl.1 rfl (Nat.le_of_ble_eq_true rfl) dX6_readAsked_133 ⟨Nat.zero_le _, Nat.zero_le _⟩ (fun H locs hw => ?_)
      refine lv_goto (tgt := 117) hx hb dX6_readAsked_136 (by decide) ?_
      exact ih hw (lv_sub hl [0, 1, 2, 3] rfl) hf kk
def f_X6_readAsked_50 (l1 : Int32) (l2 : Int32) (l3 : Int32) (mo_at : Int32) (mo_ill : Int32) (mo_now : Int32) (mo_many : Nat → Int32) (mo_stepKind : Nat → Int32) (mo_stepField : Nat → Int32) (mo_stepOperator : Nat → Int32) (mo_stepOther : Nat → Int32) (mo_stepMany : Nat → Int32) (mo_literalType : Nat → Int32) (mo_literalFrom : Nat → Int32) (mo_literalSize : Nat → Int32) (mo_bytes : Nat → Int32) (mo_said : Nat → Int32) (mo_number : Nat → Int64) : Option ((Int32) × (Int32) × (Nat → Int32) × (Nat → Int32) × (Nat → Int32) × (Nat → Int32) × (Nat → Int32) × (Nat → Int32) × (Nat → Int32) × (Nat → Int32) × (Nat → Int32) × (Nat → Int32) × (Nat → Int32) × (Nat → Int64)) :=
  if l3 = (0 : Int32) then (ob7 (f_X6_addStep l1 (0 : Int32) l2 (-1 : Int32) (-1 : Int32) (0 : Int32) mo_ill mo_now mo_many mo_stepKind mo_stepField mo_stepOperator mo_stepOther mo_stepMany) (fun x1 x2 x3 x4 x5 x6 x7 =>
  some (mo_at, x1, x2, x3, x4, x5, x6, x7, mo_literalType, mo_literalFrom, mo_literalSize, mo_bytes, mo_said, mo_number)))
  else (ob7 (f_X6_addStep l1 (1 : Int32) l2 (-1 : Int32) (-1 : Int32) (0 : Int32) mo_ill mo_now mo_many mo_stepKind mo_stepField mo_stepOperator mo_stepOther mo_stepMany) (fun x8 x9 x10 x11 x12 x13 x14 =>
  some (mo_at, x8, x9, x10, x11, x12, x13, x14, mo_literalType, mo_literalFrom, mo_literalSize, mo_bytes, mo_said, mo_number)))
set_option maxHeartbeats 4000000 in
set_option maxRecDepth 100000 in
theorem w_X6_readAsked_50 {p : Program} {l : Launch} {e : Env} {s : State} {m : MethodId} {args : Array Value} {below : List Frame} {meth : Method} {c : Code} {E : EnvT} {A : Nat → Prop} {a_mo : Nat → Nat} {mo_code : Int32} {mo_tape : Nat → Int32} {mo_text : Nat → Int32} {mo_taped : Int32} {mo_size : Int32} {mo_in : Nat → Int32} {mo_kind : Nat → Int32} {mo_type : Nat → Int32} {mo_long1 : Nat → Int32} {mo_letters : Nat → Int32} {mo_fields : Int32} {mo_kept : Int32} {mo_itemKind : Nat → Int32} {mo_itemField : Nat → Int32} {mo_itemPlace : Nat → Int32} {mo_by : Nat → Int32} {mo_pile : Nat → Int32} {mo_pilePlace : Nat → Int32} {mo_top : Int32} {mo_open : Int32} {o_mo_at : Int32} {o_mo_ill : Int32} {o_mo_many : Nat → Int32} {o_mo_stepKind : Nat → Int32} {o_mo_stepField : Nat → Int32} {o_mo_stepOperator : Nat → Int32} {o_mo_stepOther : Nat → Int32} {o_mo_stepMany : Nat → Int32} {o_mo_literalType : Nat → Int32} {o_mo_literalFrom : Nat → Int32} {o_mo_literalSize : Nat → Int32} {o_mo_bytes : Nat → Int32} {o_mo_said : Nat → Int32} {o_mo_number : Nat → Int64} {l1 : Int32} {l2 : Int32} {l3 : Int32} {mo_at : Int32} {mo_ill : Int32} {mo_now : Int32} {mo_many : Nat → Int32} {mo_stepKind : Nat → Int32} {mo_stepField : Nat → Int32} {mo_stepOperator : Nat → Int32} {mo_stepOther : Nat → Int32} {mo_stepMany : Nat → Int32} {mo_literalType : Nat → Int32} {mo_literalFrom : Nat → Int32} {mo_literalSize : Nat → Int32} {mo_bytes : Nat → Int32} {mo_said : Nat → Int32} {mo_number : Nat → Int64} {H : Heap} {locs : List Loc} {ls : Array Slot} (C : MC p s m args meth c E A cX6_readAsked 7 RX6 none) (hw : WS E A s (w_mo E a_mo mo_code mo_tape mo_text mo_taped mo_size mo_at mo_ill mo_in mo_kind mo_type mo_long1 mo_letters mo_fields mo_kept mo_now mo_many mo_itemKind mo_itemField mo_itemPlace mo_by mo_stepKind mo_stepField mo_stepOperator mo_stepOther mo_stepMany mo_literalType mo_literalFrom mo_literalSize mo_bytes mo_said mo_number mo_pile mo_pilePlace mo_top mo_open) H locs) (hl : lv_has ls 7 [(0, .ref (a_mo 0)), (1, .int l1), (2, .int l2), (3, .int l3)]) (hf : f_X6_readAsked_50 l1 l2 l3 mo_at mo_ill mo_now mo_many mo_stepKind mo_stepField mo_stepOperator mo_stepOther mo_stepMany mo_literalType mo_literalFrom mo_literalSize mo_bytes mo_said mo_number = some (o_mo_at, o_mo_ill, o_mo_many, o_mo_stepKind, o_mo_stepField, o_mo_stepOperator, o_mo_stepOther, o_mo_stepMany, o_mo_literalType, o_mo_literalFrom, o_mo_literalSize, o_mo_bytes, o_mo_said, o_mo_number)) : W p l e { frames := 6, cells := 0, slots := 0, locals := 138 } s m args below meth c H locs 0 0 (MQ below (QcV E A (w_mo E a_mo mo_code mo_tape mo_text mo_taped mo_size o_mo_at o_mo_ill mo_in mo_kind mo_type mo_long1 mo_letters mo_fields mo_kept mo_now o_mo_many mo_itemKind mo_itemField mo_itemPlace mo_by o_mo_stepKind o_mo_stepField o_mo_stepOperator o_mo_stepOther o_mo_stepMany o_mo_literalType o_mo_literalFrom o_mo_literalSize o_mo_bytes o_mo_said o_mo_number mo_pile mo_pilePlace mo_top mo_open)) args s 0 0 A) (F0 m 50 ls []) := by
  have hx := C.1
  have hb := C.2.1
  unfold f_X6_readAsked_50 at hf
  refine lv_aload_n hx hb dX6_readAsked_50 rfl (lv_at hl 0 rfl) ?_
  refine lv_iload_n hx hb dX6_readAsked_51 rfl (lv_at hl 1 rfl) ?_
  refine lv_iload_n hx hb dX6_readAsked_52 rfl (lv_at hl 3 rfl) ?_
  refine lv_if_eq (tgt := 60) hx hb dX6_readAsked_53 (by decide) (fun c53 => ?_) (fun c53 => ?_)
  · replace hf := it_t c53 hf
    refine lv_iconst (v := 0) hx hb dX6_readAsked_60 (by decide) ?_
    refine lv_iload_n hx hb dX6_readAsked_61 rfl (lv_at hl 2 rfl) ?_
    refine lv_iconst (v := -1) hx hb dX6_readAsked_62 (by decide) ?_
    refine lv_iconst (v := -1) hx hb dX6_readAsked_63 (by decide) ?_
    refine lv_iconst (v := 0) hx hb dX6_readAsked_64 (by decide) ?_
    obtain ⟨x1, x2, x3, x4, x5, x6, x7, z7, hf⟩ := ob7_el hf
    refine cV_V C hw (c_X6_addStep l E a_mo mo_code mo_tape mo_text mo_taped mo_size mo_at mo_ill mo_in mo_kind mo_type mo_long1 mo_letters mo_fields mo_kept mo_now mo_many mo_itemKind mo_itemField mo_itemPlace mo_by mo_stepKind mo_stepField mo_stepOperator mo_stepOther mo_stepMany mo_literalType mo_literalFrom mo_literalSize mo_bytes mo_said mo_number mo_pile mo_pilePlace mo_top mo_open l1 (0 : Int32) l2 (-1 : Int32) (-1 : Int32) (0 : Int32) x1 x2 x3 x4 x5 x6 x7 z7) cs_X6_213 ⟨Nat.le_of_ble_eq_true rfl, Nat.le_of_ble_eq_true rfl⟩ ⟨rfl, rfl⟩ (ci := 6) (cn := (RX6, TX6, 35)) rfl (q0 := 0) rfl (wn := w_mo E a_mo mo_code mo_tape mo_text mo_taped mo_size mo_at x1 mo_in mo_kind mo_type mo_long1 mo_letters mo_fields mo_kept mo_now x2 mo_itemKind mo_itemField mo_itemPlace mo_by x3 x4 x5 x6 x7 mo_literalType mo_literalFrom mo_literalSize mo_bytes mo_said mo_number mo_pile mo_pilePlace mo_top mo_open) (Jn.all _ _) rfl hl.1 rfl (Nat.le_of_ble_eq_true rfl) dX6_readAsked_65 ⟨Nat.zero_le _, Nat.zero_le _⟩ (fun H locs hw => ?_)
    cases hf
    exact rt_v C hw dX6_readAsked_68
  · replace hf := it_f c53 hf
    refine lv_iconst (v := 1) hx hb dX6_readAsked_56 (by decide) ?_
    refine lv_goto (tgt := 61) hx hb dX6_readAsked_57 (by decide) ?_
    refine lv_iload_n hx hb dX6_readAsked_61 rfl (lv_at hl 2 rfl) ?_
    refine lv_iconst (v := -1) hx hb dX6_readAsked_62 (by decide) ?_
    refine lv_iconst (v := -1) hx hb dX6_readAsked_63 (by decide) ?_
    refine lv_iconst (v := 0) hx hb dX6_readAsked_64 (by decide) ?_
    obtain ⟨x8, x9, x10, x11, x12, x13, x14, z14, hf⟩ := ob7_el hf
    refine cV_V C hw (c_X6_addStep l E a_mo mo_code mo_tape mo_text mo_taped mo_size mo_at mo_ill mo_in mo_kind mo_type mo_long1 mo_letters mo_fields mo_kept mo_now mo_many mo_itemKind mo_itemField mo_itemPlace mo_by mo_stepKind mo_stepField mo_stepOperator mo_stepOther mo_stepMany mo_literalType mo_literalFrom mo_literalSize mo_bytes mo_said mo_number mo_pile mo_pilePlace mo_top mo_open l1 (1 : Int32) l2 (-1 : Int32) (-1 : Int32) (0 : Int32) x8 x9 x10 x11 x12 x13 x14 z14) cs_X6_213 ⟨Nat.le_of_ble_eq_true rfl, Nat.le_of_ble_eq_true rfl⟩ ⟨rfl, rfl⟩ (ci := 6) (cn := (RX6, TX6, 35)) rfl (q0 := 0) rfl (wn := w_mo E a_mo mo_code mo_tape mo_text mo_taped mo_size mo_at x8 mo_in mo_kind mo_type mo_long1 mo_letters mo_fields mo_kept mo_now x9 mo_itemKind mo_itemField mo_itemPlace mo_by x10 x11 x12 x13 x14 mo_literalType mo_literalFrom mo_literalSize mo_bytes mo_said mo_number mo_pile mo_pilePlace mo_top mo_open) (Jn.all _ _) rfl hl.1 rfl (Nat.le_of_ble_eq_true rfl) dX6_readAsked_65 ⟨Nat.zero_le _, Nat.zero_le _⟩ (fun H locs hw => ?_)
    cases hf
    exact rt_v C hw dX6_readAsked_68
def f_X6_readAsked (p1 : Int32) (mo_text : Nat → Int32) (mo_size : Int32) (mo_at : Int32) (mo_ill : Int32) (mo_in : Nat → Int32) (mo_kind : Nat → Int32) (mo_type : Nat → Int32) (mo_long1 : Nat → Int32) (mo_letters : Nat → Int32) (mo_fields : Int32) (mo_now : Int32) (mo_many : Nat → Int32) (mo_stepKind : Nat → Int32) (mo_stepField : Nat → Int32) (mo_stepOperator : Nat → Int32) (mo_stepOther : Nat → Int32) (mo_stepMany : Nat → Int32) (mo_literalType : Nat → Int32) (mo_literalFrom : Nat → Int32) (mo_literalSize : Nat → Int32) (mo_bytes : Nat → Int32) (mo_said : Nat → Int32) (mo_number : Nat → Int64) : Option ((Int32) × (Int32) × (Nat → Int32) × (Nat → Int32) × (Nat → Int32) × (Nat → Int32) × (Nat → Int32) × (Nat → Int32) × (Nat → Int32) × (Nat → Int32) × (Nat → Int32) × (Nat → Int32) × (Nat → Int32) × (Nat → Int64)) :=
  ob3 (f_X6_column mo_text mo_size mo_at mo_ill mo_in mo_kind mo_type mo_long1 mo_letters mo_fields) (fun x1 x2 x3 =>
  if x3 = (-1 : Int32) then (ob2 (f_X6_takesWord (26995 : Int64) mo_text mo_size x2 x3) (fun x4 x5 =>
  if x4 = (0 : Int32) then (rd mo_many 8 (((4 : Int32) * mo_now) + (3 : Int32)) (fun x6 =>
  ob2 (f_X6_takesWord (26990 : Int64) mo_text mo_size x5 x3) (fun x7 x8 =>
  if x7 = (0 : Int32) then (ob3 (f_X6_operator mo_text mo_size x8 x3) (fun x9 x10 x11 =>
  if x11 = (-1 : Int32) then (ob1 (f_X6_blanks mo_text mo_size x10) (fun x12 =>
  ob1 (f_X6_wordAt x12 mo_text mo_size) (fun x13 =>
  if x13 ≤ (0 : Int32) then (f_X6_readAsked_302 p1 x1 x6 x9 mo_text mo_size x12 x11 mo_type mo_now mo_many mo_stepKind mo_stepField mo_stepOperator mo_stepOther mo_stepMany mo_literalType mo_literalFrom mo_literalSize mo_bytes mo_said mo_number)
  else (ob2 (f_X6_sees (1953658213 : Int64) mo_text mo_size x12 x11) (fun x14 x15 =>
  if x14 = (0 : Int32) then (ob2 (f_X6_sees (439721161573 : Int64) mo_text mo_size x15 x11) (fun x16 x17 =>
  if x16 = (0 : Int32) then (ob3 (f_X6_column mo_text mo_size x17 x11 mo_in mo_kind mo_type mo_long1 mo_letters mo_fields) (fun x18 x19 x20 =>
  if x20 = (-1 : Int32) then (rd mo_type 64 x1 (fun x28 =>
  rd mo_type 64 x18 (fun x29 =>
  if x28 = x29 then (ob7 (f_X6_addStep p1 (4 : Int32) x1 x9 x18 (0 : Int32) x20 mo_now mo_many mo_stepKind mo_stepField mo_stepOperator mo_stepOther mo_stepMany) (fun x30 x31 x32 x33 x34 x35 x36 =>
  some (x19, x30, x31, x32, x33, x34, x35, x36, mo_literalType, mo_literalFrom, mo_literalSize, mo_bytes, mo_said, mo_number)))
  else (rd mo_type 64 x1 (fun x37 =>
  ob1 (f_X6_isWhole x37) (fun x38 =>
  if x38 = (0 : Int32) then (f_X6_readAsked_281 p1 x1 x9 x17 x18 x19 x20 mo_now mo_many mo_stepKind mo_stepField mo_stepOperator mo_stepOther mo_stepMany mo_literalType mo_literalFrom mo_literalSize mo_bytes mo_said mo_number)
  else (rd mo_type 64 x18 (fun x39 =>
  ob1 (f_X6_isWhole x39) (fun x40 =>
  if x40 = (0 : Int32) then (f_X6_readAsked_281 p1 x1 x9 x17 x18 x19 x20 mo_now mo_many mo_stepKind mo_stepField mo_stepOperator mo_stepOther mo_stepMany mo_literalType mo_literalFrom mo_literalSize mo_bytes mo_said mo_number)
  else (ob7 (f_X6_addStep p1 (4 : Int32) x1 x9 x18 (0 : Int32) x20 mo_now mo_many mo_stepKind mo_stepField mo_stepOperator mo_stepOther mo_stepMany) (fun x41 x42 x43 x44 x45 x46 x47 =>
  some (x19, x41, x42, x43, x44, x45, x46, x47, mo_literalType, mo_literalFrom, mo_literalSize, mo_bytes, mo_said, mo_number))))))))))))
  else (ob7 (f_X6_addStep p1 (4 : Int32) x1 x9 x18 (0 : Int32) x20 mo_now mo_many mo_stepKind mo_stepField mo_stepOperator mo_stepOther mo_stepMany) (fun x21 x22 x23 x24 x25 x26 x27 =>
  some (x19, x21, x22, x23, x24, x25, x26, x27, mo_literalType, mo_literalFrom, mo_literalSize, mo_bytes, mo_said, mo_number)))))
  else (f_X6_readAsked_302 p1 x1 x6 x9 mo_text mo_size x17 x11 mo_type mo_now mo_many mo_stepKind mo_stepField mo_stepOperator mo_stepOther mo_stepMany mo_literalType mo_literalFrom mo_literalSize mo_bytes mo_said mo_number)))
  else (f_X6_readAsked_302 p1 x1 x6 x9 mo_text mo_size x15 x11 mo_type mo_now mo_many mo_stepKind mo_stepField mo_stepOperator mo_stepOther mo_stepMany mo_literalType mo_literalFrom mo_literalSize mo_bytes mo_said mo_number))))))
  else (some (x10, x11, mo_many, mo_stepKind, mo_stepField, mo_stepOperator, mo_stepOther, mo_stepMany, mo_literalType, mo_literalFrom, mo_literalSize, mo_bytes, mo_said, mo_number))))
  else (ob2 (f_X6_wantSign (40 : Int32) mo_text mo_size x8 x3) (fun x48 x49 =>
  if x49 = (-1 : Int32) then (rd mo_type 64 x1 (fun x69 =>
  ob9 (f_X6_readLiteral x69 mo_text mo_size x48 x49 mo_now mo_many mo_literalType mo_literalFrom mo_literalSize mo_bytes mo_said mo_number) (fun x70 x71 x72 x73 x74 x75 x76 x77 x78 =>
  ob9 (f_X6_readAsked_117 FU x1 mo_text mo_size x70 x71 mo_type mo_now x72 x73 x74 x75 x76 x77 x78) (fun x79 x80 x81 x82 x83 x84 x85 x86 x87 =>
  ob2 (f_X6_wantSign (41 : Int32) mo_text mo_size x79 x80) (fun x88 x89 =>
  rd x81 8 (((4 : Int32) * mo_now) + (3 : Int32)) (fun x90 =>
  ob7 (f_X6_addStep p1 (2 : Int32) x1 (-1 : Int32) x6 (x90 - x6) x89 mo_now x81 mo_stepKind mo_stepField mo_stepOperator mo_stepOther mo_stepMany) (fun x91 x92 x93 x94 x95 x96 x97 =>
  some (x88, x91, x92, x93, x94, x95, x96, x97, x82, x83, x84, x85, x86, x87))))))))
  else (ob9 (f_X6_readAsked_117 FU x1 mo_text mo_size x48 x49 mo_type mo_now mo_many mo_literalType mo_literalFrom mo_literalSize mo_bytes mo_said mo_number) (fun x50 x51 x52 x53 x54 x55 x56 x57 x58 =>
  ob2 (f_X6_wantSign (41 : Int32) mo_text mo_size x50 x51) (fun x59 x60 =>
  rd x52 8 (((4 : Int32) * mo_now) + (3 : Int32)) (fun x61 =>
  ob7 (f_X6_addStep p1 (2 : Int32) x1 (-1 : Int32) x6 (x61 - x6) x60 mo_now x52 mo_stepKind mo_stepField mo_stepOperator mo_stepOther mo_stepMany) (fun x62 x63 x64 x65 x66 x67 x68 =>
  some (x59, x62, x63, x64, x65, x66, x67, x68, x53, x54, x55, x56, x57, x58)))))))))))
  else (ob2 (f_X6_takesWord (7237492 : Int64) mo_text mo_size x5 x3) (fun x98 x99 =>
  ob2 (f_X6_takesWord (1853189228 : Int64) mo_text mo_size x99 x3) (fun x100 x101 =>
  if x100 = (0 : Int32) then (ob1 (f_X6_fail x101 x3) (fun x102 =>
  f_X6_readAsked_50 p1 x1 x98 x101 x102 mo_now mo_many mo_stepKind mo_stepField mo_stepOperator mo_stepOther mo_stepMany mo_literalType mo_literalFrom mo_literalSize mo_bytes mo_said mo_number))
  else (f_X6_readAsked_50 p1 x1 x98 x101 x3 mo_now mo_many mo_stepKind mo_stepField mo_stepOperator mo_stepOther mo_stepMany mo_literalType mo_literalFrom mo_literalSize mo_bytes mo_said mo_number))))))
  else (some (x2, x3, mo_many, mo_stepKind, mo_stepField, mo_stepOperator, mo_stepOther, mo_stepMany, mo_literalType, mo_literalFrom, mo_literalSize, mo_bytes, mo_said, mo_number)))
set_option maxHeartbeats 4000000 in
set_option maxRecDepth 100000 in
theorem c_X6_readAsked (l : Launch) (E : EnvT) (a_mo : Nat → Nat) (mo_code : Int32) (mo_tape : Nat → Int32) (mo_text : Nat → Int32) (mo_taped : Int32) (mo_size : Int32) (mo_at : Int32) (mo_ill : Int32) (mo_in : Nat → Int32) (mo_kind : Nat → Int32) (mo_type : Nat → Int32) (mo_long1 : Nat → Int32) (mo_letters : Nat → Int32) (mo_fields : Int32) (mo_kept : Int32) (mo_now : Int32) (mo_many : Nat → Int32) (mo_itemKind : Nat → Int32) (mo_itemField : Nat → Int32) (mo_itemPlace : Nat → Int32) (mo_by : Nat → Int32) (mo_stepKind : Nat → Int32) (mo_stepField : Nat → Int32) (mo_stepOperator : Nat → Int32) (mo_stepOther : Nat → Int32) (mo_stepMany : Nat → Int32) (mo_literalType : Nat → Int32) (mo_literalFrom : Nat → Int32) (mo_literalSize : Nat → Int32) (mo_bytes : Nat → Int32) (mo_said : Nat → Int32) (mo_number : Nat → Int64) (mo_pile : Nat → Int32) (mo_pilePlace : Nat → Int32) (mo_top : Int32) (mo_open : Int32) (p1 : Int32) (o_mo_at : Int32) (o_mo_ill : Int32) (o_mo_many : Nat → Int32) (o_mo_stepKind : Nat → Int32) (o_mo_stepField : Nat → Int32) (o_mo_stepOperator : Nat → Int32) (o_mo_stepOther : Nat → Int32) (o_mo_stepMany : Nat → Int32) (o_mo_literalType : Nat → Int32) (o_mo_literalFrom : Nat → Int32) (o_mo_literalSize : Nat → Int32) (o_mo_bytes : Nat → Int32) (o_mo_said : Nat → Int32) (o_mo_number : Nat → Int64) (hf : f_X6_readAsked p1 mo_text mo_size mo_at mo_ill mo_in mo_kind mo_type mo_long1 mo_letters mo_fields mo_now mo_many mo_stepKind mo_stepField mo_stepOperator mo_stepOther mo_stepMany mo_literalType mo_literalFrom mo_literalSize mo_bytes mo_said mo_number = some (o_mo_at, o_mo_ill, o_mo_many, o_mo_stepKind, o_mo_stepField, o_mo_stepOperator, o_mo_stepOther, o_mo_stepMany, o_mo_literalType, o_mo_literalFrom, o_mo_literalSize, o_mo_bytes, o_mo_said, o_mo_number)) : CV l yX6_readAsked (Cond.code yX6_readAsked cX6_readAsked 7 none) { frames := 6, cells := 0, slots := 0, locals := 138 } E [.ref (a_mo 0), .int p1] (w_mo E a_mo mo_code mo_tape mo_text mo_taped mo_size mo_at mo_ill mo_in mo_kind mo_type mo_long1 mo_letters mo_fields mo_kept mo_now mo_many mo_itemKind mo_itemField mo_itemPlace mo_by mo_stepKind mo_stepField mo_stepOperator mo_stepOther mo_stepMany mo_literalType mo_literalFrom mo_literalSize mo_bytes mo_said mo_number mo_pile mo_pilePlace mo_top mo_open) (w_mo E a_mo mo_code mo_tape mo_text mo_taped mo_size o_mo_at o_mo_ill mo_in mo_kind mo_type mo_long1 mo_letters mo_fields mo_kept mo_now o_mo_many mo_itemKind mo_itemField mo_itemPlace mo_by o_mo_stepKind o_mo_stepField o_mo_stepOperator o_mo_stepOther o_mo_stepMany o_mo_literalType o_mo_literalFrom o_mo_literalSize o_mo_bytes o_mo_said o_mo_number mo_pile mo_pilePlace mo_top mo_open) := by
  intro sz
  refine met_start [(0, .ref (a_mo 0)), (1, .int p1)] (by decide) rfl rfl (Nat.le_of_ble_eq_true rfl) rfl ?_
  intro p e s m below meth c ls C hnm hmt hw hl
  have hx := C.1
  have hb := C.2.1
  generalize va_A (w_mo E a_mo mo_code mo_tape mo_text mo_taped mo_size mo_at mo_ill mo_in mo_kind mo_type mo_long1 mo_letters mo_fields mo_kept mo_now mo_many mo_itemKind mo_itemField mo_itemPlace mo_by mo_stepKind mo_stepField mo_stepOperator mo_stepOther mo_stepMany mo_literalType mo_literalFrom mo_literalSize mo_bytes mo_said mo_number mo_pile mo_pilePlace mo_top mo_open) sz = A at C hw ⊢
  unfold f_X6_readAsked at hf
  refine lv_aload_n hx hb dX6_readAsked_0 rfl (lv_at hl 0 rfl) ?_
  obtain ⟨x1, x2, x3, z3, hf⟩ := ob3_el hf
  refine cI_V C hw (c_X6_column l E a_mo mo_code mo_tape mo_text mo_taped mo_size mo_at mo_ill mo_in mo_kind mo_type mo_long1 mo_letters mo_fields mo_kept mo_now mo_many mo_itemKind mo_itemField mo_itemPlace mo_by mo_stepKind mo_stepField mo_stepOperator mo_stepOther mo_stepMany mo_literalType mo_literalFrom mo_literalSize mo_bytes mo_said mo_number mo_pile mo_pilePlace mo_top mo_open x1 x2 x3 z3) cs_X6_198 ⟨Nat.le_of_ble_eq_true rfl, Nat.le_of_ble_eq_true rfl⟩ ⟨rfl, rfl⟩ (ci := 6) (cn := (RX6, TX6, 35)) rfl (q0 := 0) rfl (wn := w_mo E a_mo mo_code mo_tape mo_text mo_taped mo_size x2 x3 mo_in mo_kind mo_type mo_long1 mo_letters mo_fields mo_kept mo_now mo_many mo_itemKind mo_itemField mo_itemPlace mo_by mo_stepKind mo_stepField mo_stepOperator mo_stepOther mo_stepMany mo_literalType mo_literalFrom mo_literalSize mo_bytes mo_said mo_number mo_pile mo_pilePlace mo_top mo_open) (Jn.all _ _) rfl hl.1 rfl (Nat.le_of_ble_eq_true rfl) dX6_readAsked_1 ⟨Nat.zero_le _, Nat.zero_le _⟩ (fun H locs hw => ?_)
  refine lv_istore_n (lv' := [(2, .int x1), (0, .ref (a_mo 0)), (1, .int p1)]) hx hb dX6_readAsked_4 rfl hl (by decide) rfl (fun ls hl => ?_)
  refine lv_aload_n hx hb dX6_readAsked_5 rfl (lv_at hl 1 rfl) ?_
  refine fg_X6_102 C hw 0 rfl rfl dX6_readAsked_6 ?_
  refine lv_iconst (v := -1) hx hb dX6_readAsked_9 (by decide) ?_
  refine lv_icmp_eq (tgt := 14) hx hb dX6_readAsked_10 (by decide) (fun c10 => ?_) (fun c10 => ?_)
  · replace hf := it_t c10 hf
    refine lv_aload_n hx hb dX6_readAsked_14 rfl (lv_at hl 1 rfl) ?_
    refine rc2 C mw_790 dX6_readAsked_15 ?_
    obtain ⟨x4, x5, z5, hf⟩ := ob2_el hf
    refine cI_V C hw (c_X6_takesWord l E a_mo mo_code mo_tape mo_text mo_taped mo_size x2 x3 mo_in mo_kind mo_type mo_long1 mo_letters mo_fields mo_kept mo_now mo_many mo_itemKind mo_itemField mo_itemPlace mo_by mo_stepKind mo_stepField mo_stepOperator mo_stepOther mo_stepMany mo_literalType mo_literalFrom mo_literalSize mo_bytes mo_said mo_number mo_pile mo_pilePlace mo_top mo_open (26995 : Int64) x4 x5 z5) cs_X6_192 ⟨Nat.le_of_ble_eq_true rfl, Nat.le_of_ble_eq_true rfl⟩ ⟨rfl, rfl⟩ (ci := 6) (cn := (RX6, TX6, 35)) rfl (q0 := 0) rfl (wn := w_mo E a_mo mo_code mo_tape mo_text mo_taped mo_size x5 x3 mo_in mo_kind mo_type mo_long1 mo_letters mo_fields mo_kept mo_now mo_many mo_itemKind mo_itemField mo_itemPlace mo_by mo_stepKind mo_stepField mo_stepOperator mo_stepOther mo_stepMany mo_literalType mo_literalFrom mo_literalSize mo_bytes mo_said mo_number mo_pile mo_pilePlace mo_top mo_open) (Jn.all _ _) rfl hl.1 rfl (Nat.le_of_ble_eq_true rfl) dX6_readAsked_18 ⟨Nat.zero_le _, Nat.zero_le _⟩ (fun H locs hw => ?_)
    refine lv_if_eq (tgt := 69) hx hb dX6_readAsked_21 (by decide) (fun c21 => ?_) (fun c21 => ?_)
    · replace hf := it_t c21 hf
      refine lv_aload_n hx hb dX6_readAsked_69 rfl (lv_at hl 1 rfl) ?_
      refine fg_X6_35 C hw 0 rfl rfl dX6_readAsked_70 ?_
      refine lv_iconst (v := 4) hx hb dX6_readAsked_73 (by decide) ?_
      refine lv_aload_n hx hb dX6_readAsked_74 rfl (lv_at hl 1 rfl) ?_
      refine fg_X6_189 C hw 0 rfl rfl dX6_readAsked_75 ?_
      refine lv_imul hx hb dX6_readAsked_78 ?_
      refine lv_iconst (v := 3) hx hb dX6_readAsked_79 (by decide) ?_
      refine lv_iadd hx hb dX6_readAsked_80 ?_
      obtain ⟨x6, ex6, gx6, hf⟩ := rd_el hf
      refine ra_i C hw 8 rfl gx6 dX6_readAsked_81 ?_
      refine tp_i ex6 ?_
      refine lv_istore_n (lv' := [(3, .int x6), (2, .int x1), (0, .ref (a_mo 0)), (1, .int p1)]) hx hb dX6_readAsked_82 rfl hl (by decide) rfl (fun ls hl => ?_)
      refine lv_aload_n hx hb dX6_readAsked_83 rfl (lv_at hl 2 rfl) ?_
      refine rc2 C mw_792 dX6_readAsked_84 ?_
      obtain ⟨x7, x8, z8, hf⟩ := ob2_el hf
      refine cI_V C hw (c_X6_takesWord l E a_mo mo_code mo_tape mo_text mo_taped mo_size x5 x3 mo_in mo_kind mo_type mo_long1 mo_letters mo_fields mo_kept mo_now mo_many mo_itemKind mo_itemField mo_itemPlace mo_by mo_stepKind mo_stepField mo_stepOperator mo_stepOther mo_stepMany mo_literalType mo_literalFrom mo_literalSize mo_bytes mo_said mo_number mo_pile mo_pilePlace mo_top mo_open (26990 : Int64) x7 x8 z8) cs_X6_192 ⟨Nat.le_of_ble_eq_true rfl, Nat.le_of_ble_eq_true rfl⟩ ⟨rfl, rfl⟩ (ci := 6) (cn := (RX6, TX6, 35)) rfl (q0 := 0) rfl (wn := w_mo E a_mo mo_code mo_tape mo_text mo_taped mo_size x8 x3 mo_in mo_kind mo_type mo_long1 mo_letters mo_fields mo_kept mo_now mo_many mo_itemKind mo_itemField mo_itemPlace mo_by mo_stepKind mo_stepField mo_stepOperator mo_stepOther mo_stepMany mo_literalType mo_literalFrom mo_literalSize mo_bytes mo_said mo_number mo_pile mo_pilePlace mo_top mo_open) (Jn.all _ _) rfl hl.1 rfl (Nat.le_of_ble_eq_true rfl) dX6_readAsked_87 ⟨Nat.zero_le _, Nat.zero_le _⟩ (fun H locs hw => ?_)
      refine lv_if_eq (tgt := 170) hx hb dX6_readAsked_90 (by decide) (fun c90 => ?_) (fun c90 => ?_)
      · replace hf := it_t c90 hf
        refine lv_aload_n hx hb dX6_readAsked_170 rfl (lv_at hl 2 rfl) ?_
        obtain ⟨x9, x10, x11, z11, hf⟩ := ob3_el hf
        refine cI_V C hw (c_X6_operator l E a_mo mo_code mo_tape mo_text mo_taped mo_size x8 x3 mo_in mo_kind mo_type mo_long1 mo_letters mo_fields mo_kept mo_now mo_many mo_itemKind mo_itemField mo_itemPlace mo_by mo_stepKind mo_stepField mo_stepOperator mo_stepOther mo_stepMany mo_literalType mo_literalFrom mo_literalSize mo_bytes mo_said mo_number mo_pile mo_pilePlace mo_top mo_open x9 x10 x11 z11) cs_X6_233 ⟨Nat.le_of_ble_eq_true rfl, Nat.le_of_ble_eq_true rfl⟩ ⟨rfl, rfl⟩ (ci := 6) (cn := (RX6, TX6, 35)) rfl (q0 := 0) rfl (wn := w_mo E a_mo mo_code mo_tape mo_text mo_taped mo_size x10 x11 mo_in mo_kind mo_type mo_long1 mo_letters mo_fields mo_kept mo_now mo_many mo_itemKind mo_itemField mo_itemPlace mo_by mo_stepKind mo_stepField mo_stepOperator mo_stepOther mo_stepMany mo_literalType mo_literalFrom mo_literalSize mo_bytes mo_said mo_number mo_pile mo_pilePlace mo_top mo_open) (Jn.all _ _) rfl hl.1 rfl (Nat.le_of_ble_eq_true rfl) dX6_readAsked_171 ⟨Nat.zero_le _, Nat.zero_le _⟩ (fun H locs hw => ?_)
        refine lv_istore (lv' := [(4, .int x9), (3, .int x6), (2, .int x1), (0, .ref (a_mo 0)), (1, .int p1)]) hx hb dX6_readAsked_174 hl (by decide) rfl (fun ls hl => ?_)
        refine lv_aload_n hx hb dX6_readAsked_176 rfl (lv_at hl 3 rfl) ?_
        refine fg_X6_102 C hw 0 rfl rfl dX6_readAsked_177 ?_
        refine lv_iconst (v := -1) hx hb dX6_readAsked_180 (by decide) ?_
        refine lv_icmp_eq (tgt := 185) hx hb dX6_readAsked_181 (by decide) (fun c181 => ?_) (fun c181 => ?_)
        · replace hf := it_t c181 hf
          refine lv_aload_n hx hb dX6_readAsked_185 rfl (lv_at hl 3 rfl) ?_
          obtain ⟨x12, z12, hf⟩ := ob1_el hf
          refine cV_V C hw (c_X6_blanks l E a_mo mo_code mo_tape mo_text mo_taped mo_size x10 x11 mo_in mo_kind mo_type mo_long1 mo_letters mo_fields mo_kept mo_now mo_many mo_itemKind mo_itemField mo_itemPlace mo_by mo_stepKind mo_stepField mo_stepOperator mo_stepOther mo_stepMany mo_literalType mo_literalFrom mo_literalSize mo_bytes mo_said mo_number mo_pile mo_pilePlace mo_top mo_open x12 z12) cs_X6_130 ⟨Nat.le_of_ble_eq_true rfl, Nat.le_of_ble_eq_true rfl⟩ ⟨rfl, rfl⟩ (ci := 6) (cn := (RX6, TX6, 35)) rfl (q0 := 0) rfl (wn := w_mo E a_mo mo_code mo_tape mo_text mo_taped mo_size x12 x11 mo_in mo_kind mo_type mo_long1 mo_letters mo_fields mo_kept mo_now mo_many mo_itemKind mo_itemField mo_itemPlace mo_by mo_stepKind mo_stepField mo_stepOperator mo_stepOther mo_stepMany mo_literalType mo_literalFrom mo_literalSize mo_bytes mo_said mo_number mo_pile mo_pilePlace mo_top mo_open) (Jn.all _ _) rfl hl.1 rfl (Nat.le_of_ble_eq_true rfl) dX6_readAsked_186 ⟨Nat.zero_le _, Nat.zero_le _⟩ (fun H locs hw => ?_)
          refine lv_aload_n hx hb dX6_readAsked_189 rfl (lv_at hl 3 rfl) ?_
          refine lv_aload_n hx hb dX6_readAsked_190 rfl (lv_at hl 3 rfl) ?_
          refine fg_X6_99 C hw 0 rfl rfl dX6_readAsked_191 ?_
          obtain ⟨x13, z13, hf⟩ := ob1_el hf
          refine cI_V C hw (c_X6_wordAt l E a_mo mo_code mo_tape mo_text mo_taped mo_size x12 x11 mo_in mo_kind mo_type mo_long1 mo_letters mo_fields mo_kept mo_now mo_many mo_itemKind mo_itemField mo_itemPlace mo_by mo_stepKind mo_stepField mo_stepOperator mo_stepOther mo_stepMany mo_literalType mo_literalFrom mo_literalSize mo_bytes mo_said mo_number mo_pile mo_pilePlace mo_top mo_open x12 x13 z13) cs_X6_118 ⟨Nat.le_of_ble_eq_true rfl, Nat.le_of_ble_eq_true rfl⟩ ⟨rfl, rfl⟩ (ci := 6) (cn := (RX6, TX6, 35)) rfl (q0 := 0) rfl (wn := w_mo E a_mo mo_code mo_tape mo_text mo_taped mo_size x12 x11 mo_in mo_kind mo_type mo_long1 mo_letters mo_fields mo_kept mo_now mo_many mo_itemKind mo_itemField mo_itemPlace mo_by mo_stepKind mo_stepField mo_stepOperator mo_stepOther mo_stepMany mo_literalType mo_literalFrom mo_literalSize mo_bytes mo_said mo_number mo_pile mo_pilePlace mo_top mo_open) (Jn.all _ _) rfl hl.1 rfl (Nat.le_of_ble_eq_true rfl) dX6_readAsked_194 ⟨Nat.zero_le _, Nat.zero_le _⟩ (fun H locs hw => ?_)
          refine lv_if_le (tgt := 302) hx hb dX6_readAsked_197 (by decide) (fun c197 => ?_) (fun c197 => ?_)
          · replace hf := it_t c197 hf
            exact w_X6_readAsked_302 C hw (lv_sub hl [3, 4, 2, 1, 0] rfl) hf
          · replace hf := it_f c197 hf
            refine lv_aload_n hx hb dX6_readAsked_200 rfl (lv_at hl 3 rfl) ?_
            refine rc2 C mw_793 dX6_readAsked_201 ?_
            obtain ⟨x14, x15, z15, hf⟩ := ob2_el hf
            refine cI_V C hw (c_X6_sees l E a_mo mo_code mo_tape mo_text mo_taped mo_size x12 x11 mo_in mo_kind mo_type mo_long1 mo_letters mo_fields mo_kept mo_now mo_many mo_itemKind mo_itemField mo_itemPlace mo_by mo_stepKind mo_stepField mo_stepOperator mo_stepOther mo_stepMany mo_literalType mo_literalFrom mo_literalSize mo_bytes mo_said mo_number mo_pile mo_pilePlace mo_top mo_open (1953658213 : Int64) x14 x15 z15) cs_X6_137 ⟨Nat.le_of_ble_eq_true rfl, Nat.le_of_ble_eq_true rfl⟩ ⟨rfl, rfl⟩ (ci := 6) (cn := (RX6, TX6, 35)) rfl (q0 := 0) rfl (wn := w_mo E a_mo mo_code mo_tape mo_text mo_taped mo_size x15 x11 mo_in mo_kind mo_type mo_long1 mo_letters mo_fields mo_kept mo_now mo_many mo_itemKind mo_itemField mo_itemPlace mo_by mo_stepKind mo_stepField mo_stepOperator mo_stepOther mo_stepMany mo_literalType mo_literalFrom mo_literalSize mo_bytes mo_said mo_number mo_pile mo_pilePlace mo_top mo_open) (Jn.all _ _) rfl hl.1 rfl (Nat.le_of_ble_eq_true rfl) dX6_readAsked_204 ⟨Nat.zero_le _, Nat.zero_le _⟩ (fun H locs hw => ?_)
            refine lv_if_ne (tgt := 302) hx hb dX6_readAsked_207 (by decide) (fun c207 => ?_) (fun c207 => ?_)
            · replace hf := it_f c207 hf
              exact w_X6_readAsked_302 C hw (lv_sub hl [3, 4, 2, 1, 0] rfl) hf
            · replace hf := it_t c207 hf
              refine lv_aload_n hx hb dX6_readAsked_210 rfl (lv_at hl 3 rfl) ?_
              refine rc2 C mw_794 dX6_readAsked_211 ?_
              obtain ⟨x16, x17, z17, hf⟩ := ob2_el hf
              refine cI_V C hw (c_X6_sees l E a_mo mo_code mo_tape mo_text mo_taped mo_size x15 x11 mo_in mo_kind mo_type mo_long1 mo_letters mo_fields mo_kept mo_now mo_many mo_itemKind mo_itemField mo_itemPlace mo_by mo_stepKind mo_stepField mo_stepOperator mo_stepOther mo_stepMany mo_literalType mo_literalFrom mo_literalSize mo_bytes mo_said mo_number mo_pile mo_pilePlace mo_top mo_open (439721161573 : Int64) x16 x17 z17) cs_X6_137 ⟨Nat.le_of_ble_eq_true rfl, Nat.le_of_ble_eq_true rfl⟩ ⟨rfl, rfl⟩ (ci := 6) (cn := (RX6, TX6, 35)) rfl (q0 := 0) rfl (wn := w_mo E a_mo mo_code mo_tape mo_text mo_taped mo_size x17 x11 mo_in mo_kind mo_type mo_long1 mo_letters mo_fields mo_kept mo_now mo_many mo_itemKind mo_itemField mo_itemPlace mo_by mo_stepKind mo_stepField mo_stepOperator mo_stepOther mo_stepMany mo_literalType mo_literalFrom mo_literalSize mo_bytes mo_said mo_number mo_pile mo_pilePlace mo_top mo_open) (Jn.all _ _) rfl hl.1 rfl (Nat.le_of_ble_eq_true rfl) dX6_readAsked_214 ⟨Nat.zero_le _, Nat.zero_le _⟩ (fun H locs hw => ?_)
              refine lv_if_ne (tgt := 302) hx hb dX6_readAsked_217 (by decide) (fun c217 => ?_) (fun c217 => ?_)
              · replace hf := it_f c217 hf
                exact w_X6_readAsked_302 C hw (lv_sub hl [3, 4, 2, 1, 0] rfl) hf
              · replace hf := it_t c217 hf
                refine lv_aload_n hx hb dX6_readAsked_220 rfl (lv_at hl 3 rfl) ?_
                refine fg_X6_99 C hw 0 rfl rfl dX6_readAsked_221 ?_
                refine lv_istore (lv' := [(5, .int x17), (4, .int x9), (3, .int x6), (2, .int x1), (0, .ref (a_mo 0)), (1, .int p1)]) hx hb dX6_readAsked_224 hl (by decide) rfl (fun ls hl => ?_)
                refine lv_aload_n hx hb dX6_readAsked_226 rfl (lv_at hl 4 rfl) ?_
                obtain ⟨x18, x19, x20, z20, hf⟩ := ob3_el hf
                refine cI_V C hw (c_X6_column l E a_mo mo_code mo_tape mo_text mo_taped mo_size x17 x11 mo_in mo_kind mo_type mo_long1 mo_letters mo_fields mo_kept mo_now mo_many mo_itemKind mo_itemField mo_itemPlace mo_by mo_stepKind mo_stepField mo_stepOperator mo_stepOther mo_stepMany mo_literalType mo_literalFrom mo_literalSize mo_bytes mo_said mo_number mo_pile mo_pilePlace mo_top mo_open x18 x19 x20 z20) cs_X6_198 ⟨Nat.le_of_ble_eq_true rfl, Nat.le_of_ble_eq_true rfl⟩ ⟨rfl, rfl⟩ (ci := 6) (cn := (RX6, TX6, 35)) rfl (q0 := 0) rfl (wn := w_mo E a_mo mo_code mo_tape mo_text mo_taped mo_size x19 x20 mo_in mo_kind mo_type mo_long1 mo_letters mo_fields mo_kept mo_now mo_many mo_itemKind mo_itemField mo_itemPlace mo_by mo_stepKind mo_stepField mo_stepOperator mo_stepOther mo_stepMany mo_literalType mo_literalFrom mo_literalSize mo_bytes mo_said mo_number mo_pile mo_pilePlace mo_top mo_open) (Jn.all _ _) rfl hl.1 rfl (Nat.le_of_ble_eq_true rfl) dX6_readAsked_227 ⟨Nat.zero_le _, Nat.zero_le _⟩ (fun H locs hw => ?_)
                refine lv_istore (lv' := [(6, .int x18), (5, .int x17), (4, .int x9), (3, .int x6), (2, .int x1), (0, .ref (a_mo 0)), (1, .int p1)]) hx hb dX6_readAsked_230 hl (by decide) rfl (fun ls hl => ?_)
                refine lv_aload_n hx hb dX6_readAsked_232 rfl (lv_at hl 5 rfl) ?_
                refine fg_X6_102 C hw 0 rfl rfl dX6_readAsked_233 ?_
                refine lv_iconst (v := -1) hx hb dX6_readAsked_236 (by decide) ?_
                refine lv_icmp_ne (tgt := 287) hx hb dX6_readAsked_237 (by decide) (fun c237 => ?_) (fun c237 => ?_)
                · replace hf := it_f c237 hf
                  refine lv_aload_n hx hb dX6_readAsked_287 rfl (lv_at hl 5 rfl) ?_
                  refine lv_iload_n hx hb dX6_readAsked_288 rfl (lv_at hl 6 rfl) ?_
                  refine lv_iconst (v := 4) hx hb dX6_readAsked_289 (by decide) ?_
                  refine lv_iload_n hx hb dX6_readAsked_290 rfl (lv_at hl 4 rfl) ?_
                  refine lv_iload hx hb dX6_readAsked_291 (lv_at hl 2 rfl) ?_
                  refine lv_iload hx hb dX6_readAsked_293 (lv_at hl 0 rfl) ?_
                  refine lv_iconst (v := 0) hx hb dX6_readAsked_295 (by decide) ?_
                  obtain ⟨x21, x22, x23, x24, x25, x26, x27, z27, hf⟩ := ob7_el hf
                  refine cV_V C hw (c_X6_addStep l E a_mo mo_code mo_tape mo_text mo_taped mo_size x19 x20 mo_in mo_kind mo_type mo_long1 mo_letters mo_fields mo_kept mo_now mo_many mo_itemKind mo_itemField mo_itemPlace mo_by mo_stepKind mo_stepField mo_stepOperator mo_stepOther mo_stepMany mo_literalType mo_literalFrom mo_literalSize mo_bytes mo_said mo_number mo_pile mo_pilePlace mo_top mo_open p1 (4 : Int32) x1 x9 x18 (0 : Int32) x21 x22 x23 x24 x25 x26 x27 z27) cs_X6_213 ⟨Nat.le_of_ble_eq_true rfl, Nat.le_of_ble_eq_true rfl⟩ ⟨rfl, rfl⟩ (ci := 6) (cn := (RX6, TX6, 35)) rfl (q0 := 0) rfl (wn := w_mo E a_mo mo_code mo_tape mo_text mo_taped mo_size x19 x21 mo_in mo_kind mo_type mo_long1 mo_letters mo_fields mo_kept mo_now x22 mo_itemKind mo_itemField mo_itemPlace mo_by x23 x24 x25 x26 x27 mo_literalType mo_literalFrom mo_literalSize mo_bytes mo_said mo_number mo_pile mo_pilePlace mo_top mo_open) (Jn.all _ _) rfl hl.1 rfl (Nat.le_of_ble_eq_true rfl) dX6_readAsked_296 ⟨Nat.zero_le _, Nat.zero_le _⟩ (fun H locs hw => ?_)
                  refine lv_goto (tgt := 323) hx hb dX6_readAsked_299 (by decide) ?_
                  cases hf
                  exact rt_v C hw dX6_readAsked_323
                · replace hf := it_t c237 hf
                  refine lv_aload_n hx hb dX6_readAsked_240 rfl (lv_at hl 5 rfl) ?_
                  refine fg_X6_22 C hw 0 rfl rfl dX6_readAsked_241 ?_
                  refine lv_iload_n hx hb dX6_readAsked_244 rfl (lv_at hl 4 rfl) ?_
                  obtain ⟨x28, ex28, gx28, hf⟩ := rd_el hf
                  refine ra_i C hw 5 rfl gx28 dX6_readAsked_245 ?_
                  refine tp_i ex28 ?_
                  refine lv_aload_n hx hb dX6_readAsked_246 rfl (lv_at hl 5 rfl) ?_
                  refine fg_X6_22 C hw 0 rfl rfl dX6_readAsked_247 ?_
                  refine lv_iload hx hb dX6_readAsked_250 (lv_at hl 0 rfl) ?_
                  obtain ⟨x29, ex29, gx29, hf⟩ := rd_el hf
                  refine ra_i C hw 5 rfl gx29 dX6_readAsked_252 ?_
                  refine tp_i ex29 ?_
                  refine lv_icmp_eq (tgt := 287) hx hb dX6_readAsked_253 (by decide) (fun c253 => ?_) (fun c253 => ?_)
                  · replace hf := it_t c253 hf
                    refine lv_aload_n hx hb dX6_readAsked_287 rfl (lv_at hl 5 rfl) ?_
                    refine lv_iload_n hx hb dX6_readAsked_288 rfl (lv_at hl 6 rfl) ?_
                    refine lv_iconst (v := 4) hx hb dX6_readAsked_289 (by decide) ?_
                    refine lv_iload_n hx hb dX6_readAsked_290 rfl (lv_at hl 4 rfl) ?_
                    refine lv_iload hx hb dX6_readAsked_291 (lv_at hl 2 rfl) ?_
                    refine lv_iload hx hb dX6_readAsked_293 (lv_at hl 0 rfl) ?_
                    refine lv_iconst (v := 0) hx hb dX6_readAsked_295 (by decide) ?_
                    obtain ⟨x30, x31, x32, x33, x34, x35, x36, z36, hf⟩ := ob7_el hf
                    refine cV_V C hw (c_X6_addStep l E a_mo mo_code mo_tape mo_text mo_taped mo_size x19 x20 mo_in mo_kind mo_type mo_long1 mo_letters mo_fields mo_kept mo_now mo_many mo_itemKind mo_itemField mo_itemPlace mo_by mo_stepKind mo_stepField mo_stepOperator mo_stepOther mo_stepMany mo_literalType mo_literalFrom mo_literalSize mo_bytes mo_said mo_number mo_pile mo_pilePlace mo_top mo_open p1 (4 : Int32) x1 x9 x18 (0 : Int32) x30 x31 x32 x33 x34 x35 x36 z36) cs_X6_213 ⟨Nat.le_of_ble_eq_true rfl, Nat.le_of_ble_eq_true rfl⟩ ⟨rfl, rfl⟩ (ci := 6) (cn := (RX6, TX6, 35)) rfl (q0 := 0) rfl (wn := w_mo E a_mo mo_code mo_tape mo_text mo_taped mo_size x19 x30 mo_in mo_kind mo_type mo_long1 mo_letters mo_fields mo_kept mo_now x31 mo_itemKind mo_itemField mo_itemPlace mo_by x32 x33 x34 x35 x36 mo_literalType mo_literalFrom mo_literalSize mo_bytes mo_said mo_number mo_pile mo_pilePlace mo_top mo_open) (Jn.all _ _) rfl hl.1 rfl (Nat.le_of_ble_eq_true rfl) dX6_readAsked_296 ⟨Nat.zero_le _, Nat.zero_le _⟩ (fun H locs hw => ?_)
                    refine lv_goto (tgt := 323) hx hb dX6_readAsked_299 (by decide) ?_
                    cases hf
                    exact rt_v C hw dX6_readAsked_323
                  · replace hf := it_f c253 hf
                    refine lv_aload_n hx hb dX6_readAsked_256 rfl (lv_at hl 5 rfl) ?_
                    refine fg_X6_22 C hw 0 rfl rfl dX6_readAsked_257 ?_
                    refine lv_iload_n hx hb dX6_readAsked_260 rfl (lv_at hl 4 rfl) ?_
                    obtain ⟨x37, ex37, gx37, hf⟩ := rd_el hf
                    refine ra_i C hw 5 rfl gx37 dX6_readAsked_261 ?_
                    refine tp_i ex37 ?_
                    obtain ⟨x38, z38, hf⟩ := ob1_el hf
                    refine cI_S C hw (c_X6_isWhole l E x37 x38 z38) cs_X6_201 ⟨Nat.le_of_ble_eq_true rfl, Nat.le_of_ble_eq_true rfl⟩ ⟨rfl, rfl⟩ (wn := w_mo E a_mo mo_code mo_tape mo_text mo_taped mo_size x19 x20 mo_in mo_kind mo_type mo_long1 mo_letters mo_fields mo_kept mo_now mo_many mo_itemKind mo_itemField mo_itemPlace mo_by mo_stepKind mo_stepField mo_stepOperator mo_stepOther mo_stepMany mo_literalType mo_literalFrom mo_literalSize mo_bytes mo_said mo_number mo_pile mo_pilePlace mo_top mo_open) (Jn.none _) rfl hl.1 rfl (Nat.le_of_ble_eq_true rfl) dX6_readAsked_262 ⟨Nat.zero_le _, Nat.zero_le _⟩ (fun H locs hw => ?_)
                    refine lv_if_eq (tgt := 281) hx hb dX6_readAsked_265 (by decide) (fun c265 => ?_) (fun c265 => ?_)
                    · replace hf := it_t c265 hf
                      exact w_X6_readAsked_281 C hw (lv_sub hl [5, 6, 4, 2, 1, 0] rfl) hf
                    · replace hf := it_f c265 hf
                      refine lv_aload_n hx hb dX6_readAsked_268 rfl (lv_at hl 5 rfl) ?_
                      refine fg_X6_22 C hw 0 rfl rfl dX6_readAsked_269 ?_
                      refine lv_iload hx hb dX6_readAsked_272 (lv_at hl 0 rfl) ?_
                      obtain ⟨x39, ex39, gx39, hf⟩ := rd_el hf
                      refine ra_i C hw 5 rfl gx39 dX6_readAsked_274 ?_
                      refine tp_i ex39 ?_
                      obtain ⟨x40, z40, hf⟩ := ob1_el hf
                      refine cI_S C hw (c_X6_isWhole l E x39 x40 z40) cs_X6_201 ⟨Nat.le_of_ble_eq_true rfl, Nat.le_of_ble_eq_true rfl⟩ ⟨rfl, rfl⟩ (wn := w_mo E a_mo mo_code mo_tape mo_text mo_taped mo_size x19 x20 mo_in mo_kind mo_type mo_long1 mo_letters mo_fields mo_kept mo_now mo_many mo_itemKind mo_itemField mo_itemPlace mo_by mo_stepKind mo_stepField mo_stepOperator mo_stepOther mo_stepMany mo_literalType mo_literalFrom mo_literalSize mo_bytes mo_said mo_number mo_pile mo_pilePlace mo_top mo_open) (Jn.none _) rfl hl.1 rfl (Nat.le_of_ble_eq_true rfl) dX6_readAsked_275 ⟨Nat.zero_le _, Nat.zero_le _⟩ (fun H locs hw => ?_)
                      refine lv_if_ne (tgt := 287) hx hb dX6_readAsked_278 (by decide) (fun c278 => ?_) (fun c278 => ?_)
                      · replace hf := it_f c278 hf
                        refine lv_aload_n hx hb dX6_readAsked_287 rfl (lv_at hl 5 rfl) ?_
                        refine lv_iload_n hx hb dX6_readAsked_288 rfl (lv_at hl 6 rfl) ?_
                        refine lv_iconst (v := 4) hx hb dX6_readAsked_289 (by decide) ?_
                        refine lv_iload_n hx hb dX6_readAsked_290 rfl (lv_at hl 4 rfl) ?_
                        refine lv_iload hx hb dX6_readAsked_291 (lv_at hl 2 rfl) ?_
                        refine lv_iload hx hb dX6_readAsked_293 (lv_at hl 0 rfl) ?_
                        refine lv_iconst (v := 0) hx hb dX6_readAsked_295 (by decide) ?_
                        obtain ⟨x41, x42, x43, x44, x45, x46, x47, z47, hf⟩ := ob7_el hf
                        refine cV_V C hw (c_X6_addStep l E a_mo mo_code mo_tape mo_text mo_taped mo_size x19 x20 mo_in mo_kind mo_type mo_long1 mo_letters mo_fields mo_kept mo_now mo_many mo_itemKind mo_itemField mo_itemPlace mo_by mo_stepKind mo_stepField mo_stepOperator mo_stepOther mo_stepMany mo_literalType mo_literalFrom mo_literalSize mo_bytes mo_said mo_number mo_pile mo_pilePlace mo_top mo_open p1 (4 : Int32) x1 x9 x18 (0 : Int32) x41 x42 x43 x44 x45 x46 x47 z47) cs_X6_213 ⟨Nat.le_of_ble_eq_true rfl, Nat.le_of_ble_eq_true rfl⟩ ⟨rfl, rfl⟩ (ci := 6) (cn := (RX6, TX6, 35)) rfl (q0 := 0) rfl (wn := w_mo E a_mo mo_code mo_tape mo_text mo_taped mo_size x19 x41 mo_in mo_kind mo_type mo_long1 mo_letters mo_fields mo_kept mo_now x42 mo_itemKind mo_itemField mo_itemPlace mo_by x43 x44 x45 x46 x47 mo_literalType mo_literalFrom mo_literalSize mo_bytes mo_said mo_number mo_pile mo_pilePlace mo_top mo_open) (Jn.all _ _) rfl hl.1 rfl (Nat.le_of_ble_eq_true rfl) dX6_readAsked_296 ⟨Nat.zero_le _, Nat.zero_le _⟩ (fun H locs hw => ?_)
                        refine lv_goto (tgt := 323) hx hb dX6_readAsked_299 (by decide) ?_
                        cases hf
                        exact rt_v C hw dX6_readAsked_323
                      · replace hf := it_t c278 hf
                        exact w_X6_readAsked_281 C hw (lv_sub hl [5, 6, 4, 2, 1, 0] rfl) hf
        · replace hf := it_f c181 hf
          cases hf
          exact rt_v C hw dX6_readAsked_184
      · replace hf := it_f c90 hf
        refine lv_aload_n hx hb dX6_readAsked_93 rfl (lv_at hl 2 rfl) ?_
        refine lv_bipush (v := 40) hx hb dX6_readAsked_94 (by decide) ?_
        obtain ⟨x48, x49, z49, hf⟩ := ob2_el hf
        refine cV_V C hw (c_X6_wantSign l E a_mo mo_code mo_tape mo_text mo_taped mo_size x8 x3 mo_in mo_kind mo_type mo_long1 mo_letters mo_fields mo_kept mo_now mo_many mo_itemKind mo_itemField mo_itemPlace mo_by mo_stepKind mo_stepField mo_stepOperator mo_stepOther mo_stepMany mo_literalType mo_literalFrom mo_literalSize mo_bytes mo_said mo_number mo_pile mo_pilePlace mo_top mo_open (40 : Int32) x48 x49 z49) cs_X6_195 ⟨Nat.le_of_ble_eq_true rfl, Nat.le_of_ble_eq_true rfl⟩ ⟨rfl, rfl⟩ (ci := 6) (cn := (RX6, TX6, 35)) rfl (q0 := 0) rfl (wn := w_mo E a_mo mo_code mo_tape mo_text mo_taped mo_size x48 x49 mo_in mo_kind mo_type mo_long1 mo_letters mo_fields mo_kept mo_now mo_many mo_itemKind mo_itemField mo_itemPlace mo_by mo_stepKind mo_stepField mo_stepOperator mo_stepOther mo_stepMany mo_literalType mo_literalFrom mo_literalSize mo_bytes mo_said mo_number mo_pile mo_pilePlace mo_top mo_open) (Jn.all _ _) rfl hl.1 rfl (Nat.le_of_ble_eq_true rfl) dX6_readAsked_96 ⟨Nat.zero_le _, Nat.zero_le _⟩ (fun H locs hw => ?_)
        refine lv_aload_n hx hb dX6_readAsked_99 rfl (lv_at hl 2 rfl) ?_
        refine fg_X6_102 C hw 0 rfl rfl dX6_readAsked_100 ?_
        refine lv_iconst (v := -1) hx hb dX6_readAsked_103 (by decide) ?_
        refine lv_icmp_ne (tgt := 117) hx hb dX6_readAsked_104 (by decide) (fun c104 => ?_) (fun c104 => ?_)
        · replace hf := it_f c104 hf
          obtain ⟨x50, x51, x52, x53, x54, x55, x56, x57, x58, hx50, hf⟩ := ob9_el hf
          refine w_X6_readAsked_117 C FU hw (lv_sub hl [2, 3, 1, 0] rfl) hx50 ?_
          clear hw hl
          intro H locs ls hw hl
          refine lv_aload_n hx hb dX6_readAsked_139 rfl (lv_at hl 0 rfl) ?_
          refine lv_bipush (v := 41) hx hb dX6_readAsked_140 (by decide) ?_
          obtain ⟨x59, x60, z60, hf⟩ := ob2_el hf
          refine cV_V C hw (c_X6_wantSign l E a_mo mo_code mo_tape mo_text mo_taped mo_size x50 x51 mo_in mo_kind mo_type mo_long1 mo_letters mo_fields mo_kept mo_now x52 mo_itemKind mo_itemField mo_itemPlace mo_by mo_stepKind mo_stepField mo_stepOperator mo_stepOther mo_stepMany x53 x54 x55 x56 x57 x58 mo_pile mo_pilePlace mo_top mo_open (41 : Int32) x59 x60 z60) cs_X6_195 ⟨Nat.le_of_ble_eq_true rfl, Nat.le_of_ble_eq_true rfl⟩ ⟨rfl, rfl⟩ (ci := 6) (cn := (RX6, TX6, 35)) rfl (q0 := 0) rfl (wn := w_mo E a_mo mo_code mo_tape mo_text mo_taped mo_size x59 x60 mo_in mo_kind mo_type mo_long1 mo_letters mo_fields mo_kept mo_now x52 mo_itemKind mo_itemField mo_itemPlace mo_by mo_stepKind mo_stepField mo_stepOperator mo_stepOther mo_stepMany x53 x54 x55 x56 x57 x58 mo_pile mo_pilePlace mo_top mo_open) (Jn.all _ _) rfl hl.1 rfl (Nat.le_of_ble_eq_true rfl) dX6_readAsked_142 ⟨Nat.zero_le _, Nat.zero_le _⟩ (fun H locs hw => ?_)
          refine lv_aload_n hx hb dX6_readAsked_145 rfl (lv_at hl 0 rfl) ?_
          refine lv_iload_n hx hb dX6_readAsked_146 rfl (lv_at hl 1 rfl) ?_
          refine lv_iconst (v := 2) hx hb dX6_readAsked_147 (by decide) ?_
          refine lv_iload_n hx hb dX6_readAsked_148 rfl (lv_at hl 2 rfl) ?_
          refine lv_iconst (v := -1) hx hb dX6_readAsked_149 (by decide) ?_
          refine lv_iload_n hx hb dX6_readAsked_150 rfl (lv_at hl 3 rfl) ?_
          refine lv_aload_n hx hb dX6_readAsked_151 rfl (lv_at hl 0 rfl) ?_
          refine fg_X6_35 C hw 0 rfl rfl dX6_readAsked_152 ?_
          refine lv_iconst (v := 4) hx hb dX6_readAsked_155 (by decide) ?_
          refine lv_aload_n hx hb dX6_readAsked_156 rfl (lv_at hl 0 rfl) ?_
          refine fg_X6_189 C hw 0 rfl rfl dX6_readAsked_157 ?_
          refine lv_imul hx hb dX6_readAsked_160 ?_
          refine lv_iconst (v := 3) hx hb dX6_readAsked_161 (by decide) ?_
          refine lv_iadd hx hb dX6_readAsked_162 ?_
          obtain ⟨x61, ex61, gx61, hf⟩ := rd_el hf
          refine ra_i C hw 8 rfl gx61 dX6_readAsked_163 ?_
          refine tp_i ex61 ?_
          refine lv_iload_n hx hb dX6_readAsked_164 rfl (lv_at hl 3 rfl) ?_
          refine lv_isub hx hb dX6_readAsked_165 ?_
          obtain ⟨x62, x63, x64, x65, x66, x67, x68, z68, hf⟩ := ob7_el hf
          refine cV_V C hw (c_X6_addStep l E a_mo mo_code mo_tape mo_text mo_taped mo_size x59 x60 mo_in mo_kind mo_type mo_long1 mo_letters mo_fields mo_kept mo_now x52 mo_itemKind mo_itemField mo_itemPlace mo_by mo_stepKind mo_stepField mo_stepOperator mo_stepOther mo_stepMany x53 x54 x55 x56 x57 x58 mo_pile mo_pilePlace mo_top mo_open p1 (2 : Int32) x1 (-1 : Int32) x6 (x61 - x6) x62 x63 x64 x65 x66 x67 x68 z68) cs_X6_213 ⟨Nat.le_of_ble_eq_true rfl, Nat.le_of_ble_eq_true rfl⟩ ⟨rfl, rfl⟩ (ci := 6) (cn := (RX6, TX6, 35)) rfl (q0 := 0) rfl (wn := w_mo E a_mo mo_code mo_tape mo_text mo_taped mo_size x59 x62 mo_in mo_kind mo_type mo_long1 mo_letters mo_fields mo_kept mo_now x63 mo_itemKind mo_itemField mo_itemPlace mo_by x64 x65 x66 x67 x68 x53 x54 x55 x56 x57 x58 mo_pile mo_pilePlace mo_top mo_open) (Jn.all _ _) rfl hl.1 rfl (Nat.le_of_ble_eq_true rfl) dX6_readAsked_166 ⟨Nat.zero_le _, Nat.zero_le _⟩ (fun H locs hw => ?_)
          cases hf
          exact rt_v C hw dX6_readAsked_169
        · replace hf := it_t c104 hf
          refine lv_aload_n hx hb dX6_readAsked_107 rfl (lv_at hl 2 rfl) ?_
          refine lv_aload_n hx hb dX6_readAsked_108 rfl (lv_at hl 2 rfl) ?_
          refine fg_X6_22 C hw 0 rfl rfl dX6_readAsked_109 ?_
          refine lv_iload_n hx hb dX6_readAsked_112 rfl (lv_at hl 1 rfl) ?_
          obtain ⟨x69, ex69, gx69, hf⟩ := rd_el hf
          refine ra_i C hw 5 rfl gx69 dX6_readAsked_113 ?_
          refine tp_i ex69 ?_
          obtain ⟨x70, x71, x72, x73, x74, x75, x76, x77, x78, z78, hf⟩ := ob9_el hf
          refine cV_V C hw (c_X6_readLiteral l E a_mo mo_code mo_tape mo_text mo_taped mo_size x48 x49 mo_in mo_kind mo_type mo_long1 mo_letters mo_fields mo_kept mo_now mo_many mo_itemKind mo_itemField mo_itemPlace mo_by mo_stepKind mo_stepField mo_stepOperator mo_stepOther mo_stepMany mo_literalType mo_literalFrom mo_literalSize mo_bytes mo_said mo_number mo_pile mo_pilePlace mo_top mo_open x69 x70 x71 x72 x73 x74 x75 x76 x77 x78 z78) cs_X6_230 ⟨Nat.le_of_ble_eq_true rfl, Nat.le_of_ble_eq_true rfl⟩ ⟨rfl, rfl⟩ (ci := 6) (cn := (RX6, TX6, 35)) rfl (q0 := 0) rfl (wn := w_mo E a_mo mo_code mo_tape mo_text mo_taped mo_size x70 x71 mo_in mo_kind mo_type mo_long1 mo_letters mo_fields mo_kept mo_now x72 mo_itemKind mo_itemField mo_itemPlace mo_by mo_stepKind mo_stepField mo_stepOperator mo_stepOther mo_stepMany x73 x74 x75 x76 x77 x78 mo_pile mo_pilePlace mo_top mo_open) (Jn.all _ _) rfl hl.1 rfl (Nat.le_of_ble_eq_true rfl) dX6_readAsked_114 ⟨Nat.zero_le _, Nat.zero_le _⟩ (fun H locs hw => ?_)
          obtain ⟨x79, x80, x81, x82, x83, x84, x85, x86, x87, hx79, hf⟩ := ob9_el hf
          refine w_X6_readAsked_117 C FU hw (lv_sub hl [2, 3, 1, 0] rfl) hx79 ?_
          clear hw hl
          intro H locs ls hw hl
          refine lv_aload_n hx hb dX6_readAsked_139 rfl (lv_at hl 0 rfl) ?_
          refine lv_bipush (v := 41) hx hb dX6_readAsked_140 (by decide) ?_
          obtain ⟨x88, x89, z89, hf⟩ := ob2_el hf
          refine cV_V C hw (c_X6_wantSign l E a_mo mo_code mo_tape mo_text mo_taped mo_size x79 x80 mo_in mo_kind mo_type mo_long1 mo_letters mo_fields mo_kept mo_now x81 mo_itemKind mo_itemField mo_itemPlace mo_by mo_stepKind mo_stepField mo_stepOperator mo_stepOther mo_stepMany x82 x83 x84 x85 x86 x87 mo_pile mo_pilePlace mo_top mo_open (41 : Int32) x88 x89 z89) cs_X6_195 ⟨Nat.le_of_ble_eq_true rfl, Nat.le_of_ble_eq_true rfl⟩ ⟨rfl, rfl⟩ (ci := 6) (cn := (RX6, TX6, 35)) rfl (q0 := 0) rfl (wn := w_mo E a_mo mo_code mo_tape mo_text mo_taped mo_size x88 x89 mo_in mo_kind mo_type mo_long1 mo_letters mo_fields mo_kept mo_now x81 mo_itemKind mo_itemField mo_itemPlace mo_by mo_stepKind mo_stepField mo_stepOperator mo_stepOther mo_stepMany x82 x83 x84 x85 x86 x87 mo_pile mo_pilePlace mo_top mo_open) (Jn.all _ _) rfl hl.1 rfl (Nat.le_of_ble_eq_true rfl) dX6_readAsked_142 ⟨Nat.zero_le _, Nat.zero_le _⟩ (fun H locs hw => ?_)
          refine lv_aload_n hx hb dX6_readAsked_145 rfl (lv_at hl 0 rfl) ?_
          refine lv_iload_n hx hb dX6_readAsked_146 rfl (lv_at hl 1 rfl) ?_
          refine lv_iconst (v := 2) hx hb dX6_readAsked_147 (by decide) ?_
          refine lv_iload_n hx hb dX6_readAsked_148 rfl (lv_at hl 2 rfl) ?_
          refine lv_iconst (v := -1) hx hb dX6_readAsked_149 (by decide) ?_
          refine lv_iload_n hx hb dX6_readAsked_150 rfl (lv_at hl 3 rfl) ?_
          refine lv_aload_n hx hb dX6_readAsked_151 rfl (lv_at hl 0 rfl) ?_
          refine fg_X6_35 C hw 0 rfl rfl dX6_readAsked_152 ?_
          refine lv_iconst (v := 4) hx hb dX6_readAsked_155 (by decide) ?_
          refine lv_aload_n hx hb dX6_readAsked_156 rfl (lv_at hl 0 rfl) ?_
          refine fg_X6_189 C hw 0 rfl rfl dX6_readAsked_157 ?_
          refine lv_imul hx hb dX6_readAsked_160 ?_
          refine lv_iconst (v := 3) hx hb dX6_readAsked_161 (by decide) ?_
          refine lv_iadd hx hb dX6_readAsked_162 ?_
          obtain ⟨x90, ex90, gx90, hf⟩ := rd_el hf
          refine ra_i C hw 8 rfl gx90 dX6_readAsked_163 ?_
          refine tp_i ex90 ?_
          refine lv_iload_n hx hb dX6_readAsked_164 rfl (lv_at hl 3 rfl) ?_
          refine lv_isub hx hb dX6_readAsked_165 ?_
          obtain ⟨x91, x92, x93, x94, x95, x96, x97, z97, hf⟩ := ob7_el hf
          refine cV_V C hw (c_X6_addStep l E a_mo mo_code mo_tape mo_text mo_taped mo_size x88 x89 mo_in mo_kind mo_type mo_long1 mo_letters mo_fields mo_kept mo_now x81 mo_itemKind mo_itemField mo_itemPlace mo_by mo_stepKind mo_stepField mo_stepOperator mo_stepOther mo_stepMany x82 x83 x84 x85 x86 x87 mo_pile mo_pilePlace mo_top mo_open p1 (2 : Int32) x1 (-1 : Int32) x6 (x90 - x6) x91 x92 x93 x94 x95 x96 x97 z97) cs_X6_213 ⟨Nat.le_of_ble_eq_true rfl, Nat.le_of_ble_eq_true rfl⟩ ⟨rfl, rfl⟩ (ci := 6) (cn := (RX6, TX6, 35)) rfl (q0 := 0) rfl (wn := w_mo E a_mo mo_code mo_tape mo_text mo_taped mo_size x88 x91 mo_in mo_kind mo_type mo_long1 mo_letters mo_fields mo_kept mo_now x92 mo_itemKind mo_itemField mo_itemPlace mo_by x93 x94 x95 x96 x97 x82 x83 x84 x85 x86 x87 mo_pile mo_pilePlace mo_top mo_open) (Jn.all _ _) rfl hl.1 rfl (Nat.le_of_ble_eq_true rfl) dX6_readAsked_166 ⟨Nat.zero_le _, Nat.zero_le _⟩ (fun H locs hw => ?_)
          cases hf
          exact rt_v C hw dX6_readAsked_169
    · replace hf := it_f c21 hf
      refine lv_aload_n hx hb dX6_readAsked_24 rfl (lv_at hl 1 rfl) ?_
      refine rc2 C mw_789 dX6_readAsked_25 ?_
      obtain ⟨x98, x99, z99, hf⟩ := ob2_el hf
      refine cI_V C hw (c_X6_takesWord l E a_mo mo_code mo_tape mo_text mo_taped mo_size x5 x3 mo_in mo_kind mo_type mo_long1 mo_letters mo_fields mo_kept mo_now mo_many mo_itemKind mo_itemField mo_itemPlace mo_by mo_stepKind mo_stepField mo_stepOperator mo_stepOther mo_stepMany mo_literalType mo_literalFrom mo_literalSize mo_bytes mo_said mo_number mo_pile mo_pilePlace mo_top mo_open (7237492 : Int64) x98 x99 z99) cs_X6_192 ⟨Nat.le_of_ble_eq_true rfl, Nat.le_of_ble_eq_true rfl⟩ ⟨rfl, rfl⟩ (ci := 6) (cn := (RX6, TX6, 35)) rfl (q0 := 0) rfl (wn := w_mo E a_mo mo_code mo_tape mo_text mo_taped mo_size x99 x3 mo_in mo_kind mo_type mo_long1 mo_letters mo_fields mo_kept mo_now mo_many mo_itemKind mo_itemField mo_itemPlace mo_by mo_stepKind mo_stepField mo_stepOperator mo_stepOther mo_stepMany mo_literalType mo_literalFrom mo_literalSize mo_bytes mo_said mo_number mo_pile mo_pilePlace mo_top mo_open) (Jn.all _ _) rfl hl.1 rfl (Nat.le_of_ble_eq_true rfl) dX6_readAsked_28 ⟨Nat.zero_le _, Nat.zero_le _⟩ (fun H locs hw => ?_)
      refine lv_istore_n (lv' := [(3, .int x98), (2, .int x1), (0, .ref (a_mo 0)), (1, .int p1)]) hx hb dX6_readAsked_31 rfl hl (by decide) rfl (fun ls hl => ?_)
      refine lv_aload_n hx hb dX6_readAsked_32 rfl (lv_at hl 2 rfl) ?_
      refine rc2 C mw_791 dX6_readAsked_33 ?_
      obtain ⟨x100, x101, z101, hf⟩ := ob2_el hf
      refine cI_V C hw (c_X6_takesWord l E a_mo mo_code mo_tape mo_text mo_taped mo_size x99 x3 mo_in mo_kind mo_type mo_long1 mo_letters mo_fields mo_kept mo_now mo_many mo_itemKind mo_itemField mo_itemPlace mo_by mo_stepKind mo_stepField mo_stepOperator mo_stepOther mo_stepMany mo_literalType mo_literalFrom mo_literalSize mo_bytes mo_said mo_number mo_pile mo_pilePlace mo_top mo_open (1853189228 : Int64) x100 x101 z101) cs_X6_192 ⟨Nat.le_of_ble_eq_true rfl, Nat.le_of_ble_eq_true rfl⟩ ⟨rfl, rfl⟩ (ci := 6) (cn := (RX6, TX6, 35)) rfl (q0 := 0) rfl (wn := w_mo E a_mo mo_code mo_tape mo_text mo_taped mo_size x101 x3 mo_in mo_kind mo_type mo_long1 mo_letters mo_fields mo_kept mo_now mo_many mo_itemKind mo_itemField mo_itemPlace mo_by mo_stepKind mo_stepField mo_stepOperator mo_stepOther mo_stepMany mo_literalType mo_literalFrom mo_literalSize mo_bytes mo_said mo_number mo_pile mo_pilePlace mo_top mo_open) (Jn.all _ _) rfl hl.1 rfl (Nat.le_of_ble_eq_true rfl) dX6_readAsked_36 ⟨Nat.zero_le _, Nat.zero_le _⟩ (fun H locs hw => ?_)
      refine lv_if_ne (tgt := 50) hx hb dX6_readAsked_39 (by decide) (fun c39 => ?_) (fun c39 => ?_)
      · replace hf := it_f c39 hf
        exact w_X6_readAsked_50 C hw (lv_sub hl [2, 3, 1, 0] rfl) hf
      · replace hf := it_t c39 hf
        refine lv_aload_n hx hb dX6_readAsked_42 rfl (lv_at hl 2 rfl) ?_
        refine lv_aload_n hx hb dX6_readAsked_43 rfl (lv_at hl 2 rfl) ?_
        refine fg_X6_99 C hw 0 rfl rfl dX6_readAsked_44 ?_
        obtain ⟨x102, z102, hf⟩ := ob1_el hf
        refine cV_V C hw (c_X6_fail l E a_mo mo_code mo_tape mo_text mo_taped mo_size x101 x3 mo_in mo_kind mo_type mo_long1 mo_letters mo_fields mo_kept mo_now mo_many mo_itemKind mo_itemField mo_itemPlace mo_by mo_stepKind mo_stepField mo_stepOperator mo_stepOther mo_stepMany mo_literalType mo_literalFrom mo_literalSize mo_bytes mo_said mo_number mo_pile mo_pilePlace mo_top mo_open x101 x102 z102) cs_X6_144 ⟨Nat.le_of_ble_eq_true rfl, Nat.le_of_ble_eq_true rfl⟩ ⟨rfl, rfl⟩ (ci := 6) (cn := (RX6, TX6, 35)) rfl (q0 := 0) rfl (wn := w_mo E a_mo mo_code mo_tape mo_text mo_taped mo_size x101 x102 mo_in mo_kind mo_type mo_long1 mo_letters mo_fields mo_kept mo_now mo_many mo_itemKind mo_itemField mo_itemPlace mo_by mo_stepKind mo_stepField mo_stepOperator mo_stepOther mo_stepMany mo_literalType mo_literalFrom mo_literalSize mo_bytes mo_said mo_number mo_pile mo_pilePlace mo_top mo_open) (Jn.all _ _) rfl hl.1 rfl (Nat.le_of_ble_eq_true rfl) dX6_readAsked_47 ⟨Nat.zero_le _, Nat.zero_le _⟩ (fun H locs hw => ?_)
        exact w_X6_readAsked_50 C hw (lv_sub hl [2, 3, 1, 0] rfl) hf
  · replace hf := it_f c10 hf
    cases hf
    exact rt_v C hw dX6_readAsked_13
def f_X6_readTest_0 : Nat → (Nat → Int32) → (Int32) → (Int32) → (Int32) → (Nat → Int32) → (Nat → Int32) → (Nat → Int32) → (Nat → Int32) → (Nat → Int32) → (Int32) → (Int32) → (Nat → Int32) → (Nat → Int32) → (Nat → Int32) → (Nat → Int32) → (Nat → Int32) → (Nat → Int32) → (Nat → Int32) → (Nat → Int32) → (Nat → Int32) → (Nat → Int32) → (Nat → Int32) → (Nat → Int64) → (Nat → Int32) → (Nat → Int32) → (Int32) → (Int32) → Option ((Int32) × (Int32) × (Nat → Int32) × (Nat → Int32) × (Nat → Int32) × (Nat → Int32) × (Nat → Int32) × (Nat → Int32) × (Nat → Int32) × (Nat → Int32) × (Nat → Int32) × (Nat → Int32) × (Nat → Int32) × (Nat → Int64) × (Nat → Int32) × (Nat → Int32) × (Int32) × (Int32))
  | 0, _, _, _, _, _, _, _, _, _, _, _, _, _, _, _, _, _, _, _, _, _, _, _, _, _, _, _ => none
  | n + 1, mo_text, mo_size, mo_at, mo_ill, mo_in, mo_kind, mo_type, mo_long1, mo_letters, mo_fields, mo_now, mo_many, mo_stepKind, mo_stepField, mo_stepOperator, mo_stepOther, mo_stepMany, mo_literalType, mo_literalFrom, mo_literalSize, mo_bytes, mo_said, mo_number, mo_pile, mo_pilePlace, mo_top, mo_open =>
  if mo_ill = (-1 : Int32) then (ob1 (f_X6_blanks mo_text mo_size mo_at) (fun x1 =>
  ob2 (f_X6_takesWord (7237492 : Int64) mo_text mo_size x1 mo_ill) (fun x2 x3 =>
  if x2 = (0 : Int32) then (ob2 (f_X6_takesSign (40 : Int32) mo_text mo_size x3 mo_ill) (fun x4 x5 =>
  if x4 = (0 : Int32) then (if (-1 : Int32) = (-1 : Int32) then (ob14 (f_X6_readAsked x1 mo_text mo_size x5 mo_ill mo_in mo_kind mo_type mo_long1 mo_letters mo_fields mo_now mo_many mo_stepKind mo_stepField mo_stepOperator mo_stepOther mo_stepMany mo_literalType mo_literalFrom mo_literalSize mo_bytes mo_said mo_number) (fun x15 x16 x17 x18 x19 x20 x21 x22 x23 x24 x25 x26 x27 x28 =>
  some (x15, x16, x17, x18, x19, x20, x21, x22, x23, x24, x25, x26, x27, x28, mo_pile, mo_pilePlace, mo_top, mo_open)))
  else (if mo_open = (32 : Int32) then (ob1 (f_X6_fail x1 mo_ill) (fun x10 =>
  on (mo_open + (1 : Int32)) (fun x11 =>
  ob3 (f_X6_push (-1 : Int32) x1 mo_pile mo_pilePlace mo_top) (fun x12 x13 x14 =>
  f_X6_readTest_0 n mo_text mo_size x5 x10 mo_in mo_kind mo_type mo_long1 mo_letters mo_fields mo_now mo_many mo_stepKind mo_stepField mo_stepOperator mo_stepOther mo_stepMany mo_literalType mo_literalFrom mo_literalSize mo_bytes mo_said mo_number x12 x13 x14 x11))))
  else (on (mo_open + (1 : Int32)) (fun x6 =>
  ob3 (f_X6_push (-1 : Int32) x1 mo_pile mo_pilePlace mo_top) (fun x7 x8 x9 =>
  f_X6_readTest_0 n mo_text mo_size x5 mo_ill mo_in mo_kind mo_type mo_long1 mo_letters mo_fields mo_now mo_many mo_stepKind mo_stepField mo_stepOperator mo_stepOther mo_stepMany mo_literalType mo_literalFrom mo_literalSize mo_bytes mo_said mo_number x7 x8 x9 x6)))))
  else (if (0 : Int32) = (-1 : Int32) then (ob14 (f_X6_readAsked x1 mo_text mo_size x5 mo_ill mo_in mo_kind mo_type mo_long1 mo_letters mo_fields mo_now mo_many mo_stepKind mo_stepField mo_stepOperator mo_stepOther mo_stepMany mo_literalType mo_literalFrom mo_literalSize mo_bytes mo_said mo_number) (fun x38 x39 x40 x41 x42 x43 x44 x45 x46 x47 x48 x49 x50 x51 =>
  some (x38, x39, x40, x41, x42, x43, x44, x45, x46, x47, x48, x49, x50, x51, mo_pile, mo_pilePlace, mo_top, mo_open)))
  else (if mo_open = (32 : Int32) then (ob1 (f_X6_fail x1 mo_ill) (fun x33 =>
  on (mo_open + (1 : Int32)) (fun x34 =>
  ob3 (f_X6_push (0 : Int32) x1 mo_pile mo_pilePlace mo_top) (fun x35 x36 x37 =>
  f_X6_readTest_0 n mo_text mo_size x5 x33 mo_in mo_kind mo_type mo_long1 mo_letters mo_fields mo_now mo_many mo_stepKind mo_stepField mo_stepOperator mo_stepOther mo_stepMany mo_literalType mo_literalFrom mo_literalSize mo_bytes mo_said mo_number x35 x36 x37 x34))))
  else (on (mo_open + (1 : Int32)) (fun x29 =>
  ob3 (f_X6_push (0 : Int32) x1 mo_pile mo_pilePlace mo_top) (fun x30 x31 x32 =>
  f_X6_readTest_0 n mo_text mo_size x5 mo_ill mo_in mo_kind mo_type mo_long1 mo_letters mo_fields mo_now mo_many mo_stepKind mo_stepField mo_stepOperator mo_stepOther mo_stepMany mo_literalType mo_literalFrom mo_literalSize mo_bytes mo_said mo_number x30 x31 x32 x29)))))))
  else (if (1 : Int32) = (-1 : Int32) then (ob14 (f_X6_readAsked x1 mo_text mo_size x3 mo_ill mo_in mo_kind mo_type mo_long1 mo_letters mo_fields mo_now mo_many mo_stepKind mo_stepField mo_stepOperator mo_stepOther mo_stepMany mo_literalType mo_literalFrom mo_literalSize mo_bytes mo_said mo_number) (fun x61 x62 x63 x64 x65 x66 x67 x68 x69 x70 x71 x72 x73 x74 =>
  some (x61, x62, x63, x64, x65, x66, x67, x68, x69, x70, x71, x72, x73, x74, mo_pile, mo_pilePlace, mo_top, mo_open)))
  else (if mo_open = (32 : Int32) then (ob1 (f_X6_fail x1 mo_ill) (fun x56 =>
  on (mo_open + (1 : Int32)) (fun x57 =>
  ob3 (f_X6_push (1 : Int32) x1 mo_pile mo_pilePlace mo_top) (fun x58 x59 x60 =>
  f_X6_readTest_0 n mo_text mo_size x3 x56 mo_in mo_kind mo_type mo_long1 mo_letters mo_fields mo_now mo_many mo_stepKind mo_stepField mo_stepOperator mo_stepOther mo_stepMany mo_literalType mo_literalFrom mo_literalSize mo_bytes mo_said mo_number x58 x59 x60 x57))))
  else (on (mo_open + (1 : Int32)) (fun x52 =>
  ob3 (f_X6_push (1 : Int32) x1 mo_pile mo_pilePlace mo_top) (fun x53 x54 x55 =>
  f_X6_readTest_0 n mo_text mo_size x3 mo_ill mo_in mo_kind mo_type mo_long1 mo_letters mo_fields mo_now mo_many mo_stepKind mo_stepField mo_stepOperator mo_stepOther mo_stepMany mo_literalType mo_literalFrom mo_literalSize mo_bytes mo_said mo_number x53 x54 x55 x52))))))))
  else (some (mo_at, mo_ill, mo_many, mo_stepKind, mo_stepField, mo_stepOperator, mo_stepOther, mo_stepMany, mo_literalType, mo_literalFrom, mo_literalSize, mo_bytes, mo_said, mo_number, mo_pile, mo_pilePlace, mo_top, mo_open))
set_option maxHeartbeats 4000000 in
set_option maxRecDepth 100000 in
theorem w_X6_readTest_0 {p : Program} {l : Launch} {e : Env} {s : State} {m : MethodId} {args : Array Value} {below : List Frame} {meth : Method} {c : Code} {E : EnvT} {A : Nat → Prop} {a_mo : Nat → Nat} {mo_code : Int32} {mo_tape : Nat → Int32} {mo_taped : Int32} {mo_kept : Int32} {mo_itemKind : Nat → Int32} {mo_itemField : Nat → Int32} {mo_itemPlace : Nat → Int32} {mo_by : Nat → Int32} {o_mo_at : Int32} {o_mo_ill : Int32} {o_mo_many : Nat → Int32} {o_mo_stepKind : Nat → Int32} {o_mo_stepField : Nat → Int32} {o_mo_stepOperator : Nat → Int32} {o_mo_stepOther : Nat → Int32} {o_mo_stepMany : Nat → Int32} {o_mo_literalType : Nat → Int32} {o_mo_literalFrom : Nat → Int32} {o_mo_literalSize : Nat → Int32} {o_mo_bytes : Nat → Int32} {o_mo_said : Nat → Int32} {o_mo_number : Nat → Int64} {o_mo_pile : Nat → Int32} {o_mo_pilePlace : Nat → Int32} {o_mo_top : Int32} {o_mo_open : Int32} (C : MC p s m args meth c E A cX6_readTest 3 RX6 none) : ∀ (n : Nat) {mo_text : Nat → Int32} {mo_size : Int32} {mo_at : Int32} {mo_ill : Int32} {mo_in : Nat → Int32} {mo_kind : Nat → Int32} {mo_type : Nat → Int32} {mo_long1 : Nat → Int32} {mo_letters : Nat → Int32} {mo_fields : Int32} {mo_now : Int32} {mo_many : Nat → Int32} {mo_stepKind : Nat → Int32} {mo_stepField : Nat → Int32} {mo_stepOperator : Nat → Int32} {mo_stepOther : Nat → Int32} {mo_stepMany : Nat → Int32} {mo_literalType : Nat → Int32} {mo_literalFrom : Nat → Int32} {mo_literalSize : Nat → Int32} {mo_bytes : Nat → Int32} {mo_said : Nat → Int32} {mo_number : Nat → Int64} {mo_pile : Nat → Int32} {mo_pilePlace : Nat → Int32} {mo_top : Int32} {mo_open : Int32} {H : Heap} {locs : List Loc} {ls : Array Slot}, WS E A s (w_mo E a_mo mo_code mo_tape mo_text mo_taped mo_size mo_at mo_ill mo_in mo_kind mo_type mo_long1 mo_letters mo_fields mo_kept mo_now mo_many mo_itemKind mo_itemField mo_itemPlace mo_by mo_stepKind mo_stepField mo_stepOperator mo_stepOther mo_stepMany mo_literalType mo_literalFrom mo_literalSize mo_bytes mo_said mo_number mo_pile mo_pilePlace mo_top mo_open) H locs → lv_has ls 3 [(0, .ref (a_mo 0))] → f_X6_readTest_0 n mo_text mo_size mo_at mo_ill mo_in mo_kind mo_type mo_long1 mo_letters mo_fields mo_now mo_many mo_stepKind mo_stepField mo_stepOperator mo_stepOther mo_stepMany mo_literalType mo_literalFrom mo_literalSize mo_bytes mo_said mo_number mo_pile mo_pilePlace mo_top mo_open = some (o_mo_at, o_mo_ill, o_mo_many, o_mo_stepKind, o_mo_stepField, o_mo_stepOperator, o_mo_stepOther, o_mo_stepMany, o_mo_literalType, o_mo_literalFrom, o_mo_literalSize, o_mo_bytes, o_mo_said, o_mo_number, o_mo_pile, o_mo_pilePlace, o_mo_top, o_mo_open) → W p l e { frames := 7, cells := 0, slots := 0, locals := 164 } s m args below meth c H locs 0 0 (MQ below (QcV E A (w_mo E a_mo mo_code mo_tape mo_text mo_taped mo_size o_mo_at o_mo_ill mo_in mo_kind mo_type mo_long1 mo_letters mo_fields mo_kept mo_now o_mo_many mo_itemKind mo_itemField mo_itemPlace mo_by o_mo_stepKind o_mo_stepField o_mo_stepOperator o_mo_stepOther o_mo_stepMany o_mo_literalType o_mo_literalFrom o_mo_literalSize o_mo_bytes o_mo_said o_mo_number o_mo_pile o_mo_pilePlace o_mo_top o_mo_open)) args s 0 0 A) (F0 m 0 ls []) := by
  have hx := C.1
  have hb := C.2.1
  intro n
  induction n with
  | zero =>
    intro mo_text mo_size mo_at mo_ill mo_in mo_kind mo_type mo_long1 mo_letters mo_fields mo_now mo_many mo_stepKind mo_stepField mo_stepOperator mo_stepOther mo_stepMany mo_literalType mo_literalFrom mo_literalSize mo_bytes mo_said mo_number mo_pile mo_pilePlace mo_top mo_open H locs ls hw hl hf
    unfold f_X6_readTest_0 at hf
    cases hf
  | succ n ih =>
    intro mo_text mo_size mo_at mo_ill mo_in mo_kind mo_type mo_long1 mo_letters mo_fields mo_now mo_many mo_stepKind mo_stepField mo_stepOperator mo_stepOther mo_stepMany mo_literalType mo_literalFrom mo_literalSize mo_bytes mo_said mo_number mo_pile mo_pilePlace mo_top mo_open H locs ls hw hl hf
    unfold f_X6_readTest_0 at hf
    refine lv_aload_n hx hb dX6_readTest_0 rfl (lv_at hl 0 rfl) ?_
    refine fg_X6_102 C hw 0 rfl rfl dX6_readTest_1 ?_
    refine lv_iconst (v := -1) hx hb dX6_readTest_4 (by decide) ?_
    refine lv_icmp_ne (tgt := 90) hx hb dX6_readTest_5 (by decide) (fun c5 => ?_) (fun c5 => ?_)
    · replace hf := it_f c5 hf
      cases hf
      exact rt_v C hw dX6_readTest_90
    · replace hf := it_t c5 hf
      refine lv_aload_n hx hb dX6_readTest_8 rfl (lv_at hl 0 rfl) ?_
      obtain ⟨x1, z1, hf⟩ := ob1_el hf
      refine cV_V C hw (c_X6_blanks l E a_mo mo_code mo_tape mo_text mo_taped mo_size mo_at mo_ill mo_in mo_kind mo_type mo_long1 mo_letters mo_fields mo_kept mo_now mo_many mo_itemKind mo_itemField mo_itemPlace mo_by mo_stepKind mo_stepField mo_stepOperator mo_stepOther mo_stepMany mo_literalType mo_literalFrom mo_literalSize mo_bytes mo_said mo_number mo_pile mo_pilePlace mo_top mo_open x1 z1) cs_X6_130 ⟨Nat.le_of_ble_eq_true rfl, Nat.le_of_ble_eq_true rfl⟩ ⟨rfl, rfl⟩ (ci := 6) (cn := (RX6, TX6, 35)) rfl (q0 := 0) rfl (wn := w_mo E a_mo mo_code mo_tape mo_text mo_taped mo_size x1 mo_ill mo_in mo_kind mo_type mo_long1 mo_letters mo_fields mo_kept mo_now mo_many mo_itemKind mo_itemField mo_itemPlace mo_by mo_stepKind mo_stepField mo_stepOperator mo_stepOther mo_stepMany mo_literalType mo_literalFrom mo_literalSize mo_bytes mo_said mo_number mo_pile mo_pilePlace mo_top mo_open) (Jn.all _ _) rfl hl.1 rfl (Nat.le_of_ble_eq_true rfl) dX6_readTest_9 ⟨Nat.zero_le _, Nat.zero_le _⟩ (fun H locs hw => ?_)
      refine lv_aload_n hx hb dX6_readTest_12 rfl (lv_at hl 0 rfl) ?_
      refine fg_X6_99 C hw 0 rfl rfl dX6_readTest_13 ?_
      refine lv_istore_n (lv' := [(1, .int x1), (0, .ref (a_mo 0))]) hx hb dX6_readTest_16 rfl hl (by decide) rfl (fun ls hl => ?_)
      refine lv_aload_n hx hb dX6_readTest_17 rfl (lv_at hl 1 rfl) ?_
      refine rc2 C mw_789 dX6_readTest_18 ?_
      obtain ⟨x2, x3, z3, hf⟩ := ob2_el hf
      refine cI_V C hw (c_X6_takesWord l E a_mo mo_code mo_tape mo_text mo_taped mo_size x1 mo_ill mo_in mo_kind mo_type mo_long1 mo_letters mo_fields mo_kept mo_now mo_many mo_itemKind mo_itemField mo_itemPlace mo_by mo_stepKind mo_stepField mo_stepOperator mo_stepOther mo_stepMany mo_literalType mo_literalFrom mo_literalSize mo_bytes mo_said mo_number mo_pile mo_pilePlace mo_top mo_open (7237492 : Int64) x2 x3 z3) cs_X6_192 ⟨Nat.le_of_ble_eq_true rfl, Nat.le_of_ble_eq_true rfl⟩ ⟨rfl, rfl⟩ (ci := 6) (cn := (RX6, TX6, 35)) rfl (q0 := 0) rfl (wn := w_mo E a_mo mo_code mo_tape mo_text mo_taped mo_size x3 mo_ill mo_in mo_kind mo_type mo_long1 mo_letters mo_fields mo_kept mo_now mo_many mo_itemKind mo_itemField mo_itemPlace mo_by mo_stepKind mo_stepField mo_stepOperator mo_stepOther mo_stepMany mo_literalType mo_literalFrom mo_literalSize mo_bytes mo_said mo_number mo_pile mo_pilePlace mo_top mo_open) (Jn.all _ _) rfl hl.1 rfl (Nat.le_of_ble_eq_true rfl) dX6_readTest_21 ⟨Nat.zero_le _, Nat.zero_le _⟩ (fun H locs hw => ?_)
      refine lv_if_eq (tgt := 31) hx hb dX6_readTest_24 (by decide) (fun c24 => ?_) (fun c24 => ?_)
      · replace hf := it_t c24 hf
        refine lv_aload_n hx hb dX6_readTest_31 rfl (lv_at hl 1 rfl) ?_
        refine lv_bipush (v := 40) hx hb dX6_readTest_32 (by decide) ?_
        obtain ⟨x4, x5, z5, hf⟩ := ob2_el hf
        refine cI_V C hw (c_X6_takesSign l E a_mo mo_code mo_tape mo_text mo_taped mo_size x3 mo_ill mo_in mo_kind mo_type mo_long1 mo_letters mo_fields mo_kept mo_now mo_many mo_itemKind mo_itemField mo_itemPlace mo_by mo_stepKind mo_stepField mo_stepOperator mo_stepOther mo_stepMany mo_literalType mo_literalFrom mo_literalSize mo_bytes mo_said mo_number mo_pile mo_pilePlace mo_top mo_open (40 : Int32) x4 x5 z5) cs_X6_141 ⟨Nat.le_of_ble_eq_true rfl, Nat.le_of_ble_eq_true rfl⟩ ⟨rfl, rfl⟩ (ci := 6) (cn := (RX6, TX6, 35)) rfl (q0 := 0) rfl (wn := w_mo E a_mo mo_code mo_tape mo_text mo_taped mo_size x5 mo_ill mo_in mo_kind mo_type mo_long1 mo_letters mo_fields mo_kept mo_now mo_many mo_itemKind mo_itemField mo_itemPlace mo_by mo_stepKind mo_stepField mo_stepOperator mo_stepOther mo_stepMany mo_literalType mo_literalFrom mo_literalSize mo_bytes mo_said mo_number mo_pile mo_pilePlace mo_top mo_open) (Jn.all _ _) rfl hl.1 rfl (Nat.le_of_ble_eq_true rfl) dX6_readTest_34 ⟨Nat.zero_le _, Nat.zero_le _⟩ (fun H locs hw => ?_)
        refine lv_if_eq (tgt := 44) hx hb dX6_readTest_37 (by decide) (fun c37 => ?_) (fun c37 => ?_)
        · replace hf := it_t c37 hf
          refine lv_iconst (v := -1) hx hb dX6_readTest_44 (by decide) ?_
          refine lv_istore_n (lv' := [(2, .int (-1 : Int32)), (1, .int x1), (0, .ref (a_mo 0))]) hx hb dX6_readTest_45 rfl hl (by decide) rfl (fun ls hl => ?_)
          refine lv_iload_n hx hb dX6_readTest_46 rfl (lv_at hl 0 rfl) ?_
          refine lv_iconst (v := -1) hx hb dX6_readTest_47 (by decide) ?_
          refine lv_icmp_ne (tgt := 57) hx hb dX6_readTest_48 (by decide) (fun c48 => ?_) (fun c48 => ?_)
          · replace hf := it_f c48 hf
            refine lv_aload_n hx hb dX6_readTest_57 rfl (lv_at hl 2 rfl) ?_
            refine fg_X6_210 C hw 0 rfl rfl dX6_readTest_58 ?_
            refine lv_bipush (v := 32) hx hb dX6_readTest_61 (by decide) ?_
            refine lv_icmp_ne (tgt := 71) hx hb dX6_readTest_63 (by decide) (fun c63 => ?_) (fun c63 => ?_)
            · replace hf := it_f c63 hf
              refine lv_aload_n hx hb dX6_readTest_71 rfl (lv_at hl 2 rfl) ?_
              refine lv_dup hx hb dX6_readTest_72 rfl ?_
              refine fg_X6_210 C hw 0 rfl rfl dX6_readTest_73 ?_
              refine lv_iconst (v := 1) hx hb dX6_readTest_76 (by decide) ?_
              refine lv_iadd hx hb dX6_readTest_77 ?_
              obtain ⟨x6, ex6, hf⟩ := on_el hf
              refine tp_i ex6 ?_
              refine fp_X6_210 C hw 0 rfl (Nat.le_of_ble_eq_true rfl) (ws' := w_mo E a_mo mo_code mo_tape mo_text mo_taped mo_size x5 mo_ill mo_in mo_kind mo_type mo_long1 mo_letters mo_fields mo_kept mo_now mo_many mo_itemKind mo_itemField mo_itemPlace mo_by mo_stepKind mo_stepField mo_stepOperator mo_stepOther mo_stepMany mo_literalType mo_literalFrom mo_literalSize mo_bytes mo_said mo_number mo_pile mo_pilePlace mo_top x6) rfl dX6_readTest_78 (fun H locs hw => ?_)
              refine lv_aload_n hx hb dX6_readTest_81 rfl (lv_at hl 2 rfl) ?_
              refine lv_iload_n hx hb dX6_readTest_82 rfl (lv_at hl 0 rfl) ?_
              refine lv_iload_n hx hb dX6_readTest_83 rfl (lv_at hl 1 rfl) ?_
              obtain ⟨x7, x8, x9, z9, hf⟩ := ob3_el hf
              refine cV_V C hw (c_X6_push l E a_mo mo_code mo_tape mo_text mo_taped mo_size x5 mo_ill mo_in mo_kind mo_type mo_long1 mo_letters mo_fields mo_kept mo_now mo_many mo_itemKind mo_itemField mo_itemPlace mo_by mo_stepKind mo_stepField mo_stepOperator mo_stepOther mo_stepMany mo_literalType mo_literalFrom mo_literalSize mo_bytes mo_said mo_number mo_pile mo_pilePlace mo_top x6 (-1 : Int32) x1 x7 x8 x9 z9) cs_X6_220 ⟨Nat.le_of_ble_eq_true rfl, Nat.le_of_ble_eq_true rfl⟩ ⟨rfl, rfl⟩ (ci := 6) (cn := (RX6, TX6, 35)) rfl (q0 := 0) rfl (wn := w_mo E a_mo mo_code mo_tape mo_text mo_taped mo_size x5 mo_ill mo_in mo_kind mo_type mo_long1 mo_letters mo_fields mo_kept mo_now mo_many mo_itemKind mo_itemField mo_itemPlace mo_by mo_stepKind mo_stepField mo_stepOperator mo_stepOther mo_stepMany mo_literalType mo_literalFrom mo_literalSize mo_bytes mo_said mo_number x7 x8 x9 x6) (Jn.all _ _) rfl hl.1 rfl (Nat.le_of_ble_eq_true rfl) dX6_readTest_84 ⟨Nat.zero_le _, Nat.zero_le _⟩ (fun H locs hw => ?_)
              refine lv_goto (tgt := 0) hx hb dX6_readTest_87 (by decide) ?_
              exact ih hw (lv_sub hl [2] rfl) hf
            · replace hf := it_t c63 hf
              refine lv_aload_n hx hb dX6_readTest_66 rfl (lv_at hl 2 rfl) ?_
              refine lv_iload_n hx hb dX6_readTest_67 rfl (lv_at hl 1 rfl) ?_
              obtain ⟨x10, z10, hf⟩ := ob1_el hf
              refine cV_V C hw (c_X6_fail l E a_mo mo_code mo_tape mo_text mo_taped mo_size x5 mo_ill mo_in mo_kind mo_type mo_long1 mo_letters mo_fields mo_kept mo_now mo_many mo_itemKind mo_itemField mo_itemPlace mo_by mo_stepKind mo_stepField mo_stepOperator mo_stepOther mo_stepMany mo_literalType mo_literalFrom mo_literalSize mo_bytes mo_said mo_number mo_pile mo_pilePlace mo_top mo_open x1 x10 z10) cs_X6_144 ⟨Nat.le_of_ble_eq_true rfl, Nat.le_of_ble_eq_true rfl⟩ ⟨rfl, rfl⟩ (ci := 6) (cn := (RX6, TX6, 35)) rfl (q0 := 0) rfl (wn := w_mo E a_mo mo_code mo_tape mo_text mo_taped mo_size x5 x10 mo_in mo_kind mo_type mo_long1 mo_letters mo_fields mo_kept mo_now mo_many mo_itemKind mo_itemField mo_itemPlace mo_by mo_stepKind mo_stepField mo_stepOperator mo_stepOther mo_stepMany mo_literalType mo_literalFrom mo_literalSize mo_bytes mo_said mo_number mo_pile mo_pilePlace mo_top mo_open) (Jn.all _ _) rfl hl.1 rfl (Nat.le_of_ble_eq_true rfl) dX6_readTest_68 ⟨Nat.zero_le _, Nat.zero_le _⟩ (fun H locs hw => ?_)
              refine lv_aload_n hx hb dX6_readTest_71 rfl (lv_at hl 2 rfl) ?_
              refine lv_dup hx hb dX6_readTest_72 rfl ?_
              refine fg_X6_210 C hw 0 rfl rfl dX6_readTest_73 ?_
              refine lv_iconst (v := 1) hx hb dX6_readTest_76 (by decide) ?_
              refine lv_iadd hx hb dX6_readTest_77 ?_
              obtain ⟨x11, ex11, hf⟩ := on_el hf
              refine tp_i ex11 ?_
              refine fp_X6_210 C hw 0 rfl (Nat.le_of_ble_eq_true rfl) (ws' := w_mo E a_mo mo_code mo_tape mo_text mo_taped mo_size x5 x10 mo_in mo_kind mo_type mo_long1 mo_letters mo_fields mo_kept mo_now mo_many mo_itemKind mo_itemField mo_itemPlace mo_by mo_stepKind mo_stepField mo_stepOperator mo_stepOther mo_stepMany mo_literalType mo_literalFrom mo_literalSize mo_bytes mo_said mo_number mo_pile mo_pilePlace mo_top x11) rfl dX6_readTest_78 (fun H locs hw => ?_)
              refine lv_aload_n hx hb dX6_readTest_81 rfl (lv_at hl 2 rfl) ?_
              refine lv_iload_n hx hb dX6_readTest_82 rfl (lv_at hl 0 rfl) ?_
              refine lv_iload_n hx hb dX6_readTest_83 rfl (lv_at hl 1 rfl) ?_
              obtain ⟨x12, x13, x14, z14, hf⟩ := ob3_el hf
              refine cV_V C hw (c_X6_push l E a_mo mo_code mo_tape mo_text mo_taped mo_size x5 x10 mo_in mo_kind mo_type mo_long1 mo_letters mo_fields mo_kept mo_now mo_many mo_itemKind mo_itemField mo_itemPlace mo_by mo_stepKind mo_stepField mo_stepOperator mo_stepOther mo_stepMany mo_literalType mo_literalFrom mo_literalSize mo_bytes mo_said mo_number mo_pile mo_pilePlace mo_top x11 (-1 : Int32) x1 x12 x13 x14 z14) cs_X6_220 ⟨Nat.le_of_ble_eq_true rfl, Nat.le_of_ble_eq_true rfl⟩ ⟨rfl, rfl⟩ (ci := 6) (cn := (RX6, TX6, 35)) rfl (q0 := 0) rfl (wn := w_mo E a_mo mo_code mo_tape mo_text mo_taped mo_size x5 x10 mo_in mo_kind mo_type mo_long1 mo_letters mo_fields mo_kept mo_now mo_many mo_itemKind mo_itemField mo_itemPlace mo_by mo_stepKind mo_stepField mo_stepOperator mo_stepOther mo_stepMany mo_literalType mo_literalFrom mo_literalSize mo_bytes mo_said mo_number x12 x13 x14 x11) (Jn.all _ _) rfl hl.1 rfl (Nat.le_of_ble_eq_true rfl) dX6_readTest_84 ⟨Nat.zero_le _, Nat.zero_le _⟩ (fun H locs hw => ?_)
              refine lv_goto (tgt := 0) hx hb dX6_readTest_87 (by decide) ?_
              exact ih hw (lv_sub hl [2] rfl) hf
          · replace hf := it_t c48 hf
            refine lv_aload_n hx hb dX6_readTest_51 rfl (lv_at hl 2 rfl) ?_
            refine lv_iload_n hx hb dX6_readTest_52 rfl (lv_at hl 1 rfl) ?_
            obtain ⟨x15, x16, x17, x18, x19, x20, x21, x22, x23, x24, x25, x26, x27, x28, z28, hf⟩ := ob14_el hf
            refine cV_V C hw (c_X6_readAsked l E a_mo mo_code mo_tape mo_text mo_taped mo_size x5 mo_ill mo_in mo_kind mo_type mo_long1 mo_letters mo_fields mo_kept mo_now mo_many mo_itemKind mo_itemField mo_itemPlace mo_by mo_stepKind mo_stepField mo_stepOperator mo_stepOther mo_stepMany mo_literalType mo_literalFrom mo_literalSize mo_bytes mo_said mo_number mo_pile mo_pilePlace mo_top mo_open x1 x15 x16 x17 x18 x19 x20 x21 x22 x23 x24 x25 x26 x27 x28 z28) cs_X6_217 ⟨Nat.le_of_ble_eq_true rfl, Nat.le_of_ble_eq_true rfl⟩ ⟨rfl, rfl⟩ (ci := 6) (cn := (RX6, TX6, 35)) rfl (q0 := 0) rfl (wn := w_mo E a_mo mo_code mo_tape mo_text mo_taped mo_size x15 x16 mo_in mo_kind mo_type mo_long1 mo_letters mo_fields mo_kept mo_now x17 mo_itemKind mo_itemField mo_itemPlace mo_by x18 x19 x20 x21 x22 x23 x24 x25 x26 x27 x28 mo_pile mo_pilePlace mo_top mo_open) (Jn.all _ _) rfl hl.1 rfl (Nat.le_of_ble_eq_true rfl) dX6_readTest_53 ⟨Nat.zero_le _, Nat.zero_le _⟩ (fun H locs hw => ?_)
            cases hf
            exact rt_v C hw dX6_readTest_56
        · replace hf := it_f c37 hf
          refine lv_iconst (v := 0) hx hb dX6_readTest_40 (by decide) ?_
          refine lv_goto (tgt := 45) hx hb dX6_readTest_41 (by decide) ?_
          refine lv_istore_n (lv' := [(2, .int (0 : Int32)), (1, .int x1), (0, .ref (a_mo 0))]) hx hb dX6_readTest_45 rfl hl (by decide) rfl (fun ls hl => ?_)
          refine lv_iload_n hx hb dX6_readTest_46 rfl (lv_at hl 0 rfl) ?_
          refine lv_iconst (v := -1) hx hb dX6_readTest_47 (by decide) ?_
          refine lv_icmp_ne (tgt := 57) hx hb dX6_readTest_48 (by decide) (fun c48 => ?_) (fun c48 => ?_)
          · replace hf := it_f c48 hf
            refine lv_aload_n hx hb dX6_readTest_57 rfl (lv_at hl 2 rfl) ?_
            refine fg_X6_210 C hw 0 rfl rfl dX6_readTest_58 ?_
            refine lv_bipush (v := 32) hx hb dX6_readTest_61 (by decide) ?_
            refine lv_icmp_ne (tgt := 71) hx hb dX6_readTest_63 (by decide) (fun c63 => ?_) (fun c63 => ?_)
            · replace hf := it_f c63 hf
              refine lv_aload_n hx hb dX6_readTest_71 rfl (lv_at hl 2 rfl) ?_
              refine lv_dup hx hb dX6_readTest_72 rfl ?_
              refine fg_X6_210 C hw 0 rfl rfl dX6_readTest_73 ?_
              refine lv_iconst (v := 1) hx hb dX6_readTest_76 (by decide) ?_
              refine lv_iadd hx hb dX6_readTest_77 ?_
              obtain ⟨x29, ex29, hf⟩ := on_el hf
              refine tp_i ex29 ?_
              refine fp_X6_210 C hw 0 rfl (Nat.le_of_ble_eq_true rfl) (ws' := w_mo E a_mo mo_code mo_tape mo_text mo_taped mo_size x5 mo_ill mo_in mo_kind mo_type mo_long1 mo_letters mo_fields mo_kept mo_now mo_many mo_itemKind mo_itemField mo_itemPlace mo_by mo_stepKind mo_stepField mo_stepOperator mo_stepOther mo_stepMany mo_literalType mo_literalFrom mo_literalSize mo_bytes mo_said mo_number mo_pile mo_pilePlace mo_top x29) rfl dX6_readTest_78 (fun H locs hw => ?_)
              refine lv_aload_n hx hb dX6_readTest_81 rfl (lv_at hl 2 rfl) ?_
              refine lv_iload_n hx hb dX6_readTest_82 rfl (lv_at hl 0 rfl) ?_
              refine lv_iload_n hx hb dX6_readTest_83 rfl (lv_at hl 1 rfl) ?_
              obtain ⟨x30, x31, x32, z32, hf⟩ := ob3_el hf
              refine cV_V C hw (c_X6_push l E a_mo mo_code mo_tape mo_text mo_taped mo_size x5 mo_ill mo_in mo_kind mo_type mo_long1 mo_letters mo_fields mo_kept mo_now mo_many mo_itemKind mo_itemField mo_itemPlace mo_by mo_stepKind mo_stepField mo_stepOperator mo_stepOther mo_stepMany mo_literalType mo_literalFrom mo_literalSize mo_bytes mo_said mo_number mo_pile mo_pilePlace mo_top x29 (0 : Int32) x1 x30 x31 x32 z32) cs_X6_220 ⟨Nat.le_of_ble_eq_true rfl, Nat.le_of_ble_eq_true rfl⟩ ⟨rfl, rfl⟩ (ci := 6) (cn := (RX6, TX6, 35)) rfl (q0 := 0) rfl (wn := w_mo E a_mo mo_code mo_tape mo_text mo_taped mo_size x5 mo_ill mo_in mo_kind mo_type mo_long1 mo_letters mo_fields mo_kept mo_now mo_many mo_itemKind mo_itemField mo_itemPlace mo_by mo_stepKind mo_stepField mo_stepOperator mo_stepOther mo_stepMany mo_literalType mo_literalFrom mo_literalSize mo_bytes mo_said mo_number x30 x31 x32 x29) (Jn.all _ _) rfl hl.1 rfl (Nat.le_of_ble_eq_true rfl) dX6_readTest_84 ⟨Nat.zero_le _, Nat.zero_le _⟩ (fun H locs hw => ?_)
              refine lv_goto (tgt := 0) hx hb dX6_readTest_87 (by decide) ?_
              exact ih hw (lv_sub hl [2] rfl) hf
            · replace hf := it_t c63 hf
              refine lv_aload_n hx hb dX6_readTest_66 rfl (lv_at hl 2 rfl) ?_
              refine lv_iload_n hx hb dX6_readTest_67 rfl (lv_at hl 1 rfl) ?_
              obtain ⟨x33, z33, hf⟩ := ob1_el hf
              refine cV_V C hw (c_X6_fail l E a_mo mo_code mo_tape mo_text mo_taped mo_size x5 mo_ill mo_in mo_kind mo_type mo_long1 mo_letters mo_fields mo_kept mo_now mo_many mo_itemKind mo_itemField mo_itemPlace mo_by mo_stepKind mo_stepField mo_stepOperator mo_stepOther mo_stepMany mo_literalType mo_literalFrom mo_literalSize mo_bytes mo_said mo_number mo_pile mo_pilePlace mo_top mo_open x1 x33 z33) cs_X6_144 ⟨Nat.le_of_ble_eq_true rfl, Nat.le_of_ble_eq_true rfl⟩ ⟨rfl, rfl⟩ (ci := 6) (cn := (RX6, TX6, 35)) rfl (q0 := 0) rfl (wn := w_mo E a_mo mo_code mo_tape mo_text mo_taped mo_size x5 x33 mo_in mo_kind mo_type mo_long1 mo_letters mo_fields mo_kept mo_now mo_many mo_itemKind mo_itemField mo_itemPlace mo_by mo_stepKind mo_stepField mo_stepOperator mo_stepOther mo_stepMany mo_literalType mo_literalFrom mo_literalSize mo_bytes mo_said mo_number mo_pile mo_pilePlace mo_top mo_open) (Jn.all _ _) rfl hl.1 rfl (Nat.le_of_ble_eq_true rfl) dX6_readTest_68 ⟨Nat.zero_le _, Nat.zero_le _⟩ (fun H locs hw => ?_)
              refine lv_aload_n hx hb dX6_readTest_71 rfl (lv_at hl 2 rfl) ?_
              refine lv_dup hx hb dX6_readTest_72 rfl ?_
              refine fg_X6_210 C hw 0 rfl rfl dX6_readTest_73 ?_
              refine lv_iconst (v := 1) hx hb dX6_readTest_76 (by decide) ?_
              refine lv_iadd hx hb dX6_readTest_77 ?_
              obtain ⟨x34, ex34, hf⟩ := on_el hf
              refine tp_i ex34 ?_
              refine fp_X6_210 C hw 0 rfl (Nat.le_of_ble_eq_true rfl) (ws' := w_mo E a_mo mo_code mo_tape mo_text mo_taped mo_size x5 x33 mo_in mo_kind mo_type mo_long1 mo_letters mo_fields mo_kept mo_now mo_many mo_itemKind mo_itemField mo_itemPlace mo_by mo_stepKind mo_stepField mo_stepOperator mo_stepOther mo_stepMany mo_literalType mo_literalFrom mo_literalSize mo_bytes mo_said mo_number mo_pile mo_pilePlace mo_top x34) rfl dX6_readTest_78 (fun H locs hw => ?_)
              refine lv_aload_n hx hb dX6_readTest_81 rfl (lv_at hl 2 rfl) ?_
              refine lv_iload_n hx hb dX6_readTest_82 rfl (lv_at hl 0 rfl) ?_
              refine lv_iload_n hx hb dX6_readTest_83 rfl (lv_at hl 1 rfl) ?_
              obtain ⟨x35, x36, x37, z37, hf⟩ := ob3_el hf
              refine cV_V C hw (c_X6_push l E a_mo mo_code mo_tape mo_text mo_taped mo_size x5 x33 mo_in mo_kind mo_type mo_long1 mo_letters mo_fields mo_kept mo_now mo_many mo_itemKind mo_itemField mo_itemPlace mo_by mo_stepKind mo_stepField mo_stepOperator mo_stepOther mo_stepMany mo_literalType mo_literalFrom mo_literalSize mo_bytes mo_said mo_number mo_pile mo_pilePlace mo_top x34 (0 : Int32) x1 x35 x36 x37 z37) cs_X6_220 ⟨Nat.le_of_ble_eq_true rfl, Nat.le_of_ble_eq_true rfl⟩ ⟨rfl, rfl⟩ (ci := 6) (cn := (RX6, TX6, 35)) rfl (q0 := 0) rfl (wn := w_mo E a_mo mo_code mo_tape mo_text mo_taped mo_size x5 x33 mo_in mo_kind mo_type mo_long1 mo_letters mo_fields mo_kept mo_now mo_many mo_itemKind mo_itemField mo_itemPlace mo_by mo_stepKind mo_stepField mo_stepOperator mo_stepOther mo_stepMany mo_literalType mo_literalFrom mo_literalSize mo_bytes mo_said mo_number x35 x36 x37 x34) (Jn.all _ _) rfl hl.1 rfl (Nat.le_of_ble_eq_true rfl) dX6_readTest_84 ⟨Nat.zero_le _, Nat.zero_le _⟩ (fun H locs hw => ?_)
              refine lv_goto (tgt := 0) hx hb dX6_readTest_87 (by decide) ?_
              exact ih hw (lv_sub hl [2] rfl) hf
          · replace hf := it_t c48 hf
            refine lv_aload_n hx hb dX6_readTest_51 rfl (lv_at hl 2 rfl) ?_
            refine lv_iload_n hx hb dX6_readTest_52 rfl (lv_at hl 1 rfl) ?_
            obtain ⟨x38, x39, x40, x41, x42, x43, x44, x45, x46, x47, x48, x49, x50, x51, z51, hf⟩ := ob14_el hf
            refine cV_V C hw (c_X6_readAsked l E a_mo mo_code mo_tape mo_text mo_taped mo_size x5 mo_ill mo_in mo_kind mo_type mo_long1 mo_letters mo_fields mo_kept mo_now mo_many mo_itemKind mo_itemField mo_itemPlace mo_by mo_stepKind mo_stepField mo_stepOperator mo_stepOther mo_stepMany mo_literalType mo_literalFrom mo_literalSize mo_bytes mo_said mo_number mo_pile mo_pilePlace mo_top mo_open x1 x38 x39 x40 x41 x42 x43 x44 x45 x46 x47 x48 x49 x50 x51 z51) cs_X6_217 ⟨Nat.le_of_ble_eq_true rfl, Nat.le_of_ble_eq_true rfl⟩ ⟨rfl, rfl⟩ (ci := 6) (cn := (RX6, TX6, 35)) rfl (q0 := 0) rfl (wn := w_mo E a_mo mo_code mo_tape mo_text mo_taped mo_size x38 x39 mo_in mo_kind mo_type mo_long1 mo_letters mo_fields mo_kept mo_now x40 mo_itemKind mo_itemField mo_itemPlace mo_by x41 x42 x43 x44 x45 x46 x47 x48 x49 x50 x51 mo_pile mo_pilePlace mo_top mo_open) (Jn.all _ _) rfl hl.1 rfl (Nat.le_of_ble_eq_true rfl) dX6_readTest_53 ⟨Nat.zero_le _, Nat.zero_le _⟩ (fun H locs hw => ?_)
            cases hf
            exact rt_v C hw dX6_readTest_56
      · replace hf := it_f c24 hf
        refine lv_iconst (v := 1) hx hb dX6_readTest_27 (by decide) ?_
        refine lv_goto (tgt := 45) hx hb dX6_readTest_28 (by decide) ?_
        refine lv_istore_n (lv' := [(2, .int (1 : Int32)), (1, .int x1), (0, .ref (a_mo 0))]) hx hb dX6_readTest_45 rfl hl (by decide) rfl (fun ls hl => ?_)
        refine lv_iload_n hx hb dX6_readTest_46 rfl (lv_at hl 0 rfl) ?_
        refine lv_iconst (v := -1) hx hb dX6_readTest_47 (by decide) ?_
        refine lv_icmp_ne (tgt := 57) hx hb dX6_readTest_48 (by decide) (fun c48 => ?_) (fun c48 => ?_)
        · replace hf := it_f c48 hf
          refine lv_aload_n hx hb dX6_readTest_57 rfl (lv_at hl 2 rfl) ?_
          refine fg_X6_210 C hw 0 rfl rfl dX6_readTest_58 ?_
          refine lv_bipush (v := 32) hx hb dX6_readTest_61 (by decide) ?_
          refine lv_icmp_ne (tgt := 71) hx hb dX6_readTest_63 (by decide) (fun c63 => ?_) (fun c63 => ?_)
          · replace hf := it_f c63 hf
            refine lv_aload_n hx hb dX6_readTest_71 rfl (lv_at hl 2 rfl) ?_
            refine lv_dup hx hb dX6_readTest_72 rfl ?_
            refine fg_X6_210 C hw 0 rfl rfl dX6_readTest_73 ?_
            refine lv_iconst (v := 1) hx hb dX6_readTest_76 (by decide) ?_
            refine lv_iadd hx hb dX6_readTest_77 ?_
            obtain ⟨x52, ex52, hf⟩ := on_el hf
            refine tp_i ex52 ?_
            refine fp_X6_210 C hw 0 rfl (Nat.le_of_ble_eq_true rfl) (ws' := w_mo E a_mo mo_code mo_tape mo_text mo_taped mo_size x3 mo_ill mo_in mo_kind mo_type mo_long1 mo_letters mo_fields mo_kept mo_now mo_many mo_itemKind mo_itemField mo_itemPlace mo_by mo_stepKind mo_stepField mo_stepOperator mo_stepOther mo_stepMany mo_literalType mo_literalFrom mo_literalSize mo_bytes mo_said mo_number mo_pile mo_pilePlace mo_top x52) rfl dX6_readTest_78 (fun H locs hw => ?_)
            refine lv_aload_n hx hb dX6_readTest_81 rfl (lv_at hl 2 rfl) ?_
            refine lv_iload_n hx hb dX6_readTest_82 rfl (lv_at hl 0 rfl) ?_
            refine lv_iload_n hx hb dX6_readTest_83 rfl (lv_at hl 1 rfl) ?_
            obtain ⟨x53, x54, x55, z55, hf⟩ := ob3_el hf
            refine cV_V C hw (c_X6_push l E a_mo mo_code mo_tape mo_text mo_taped mo_size x3 mo_ill mo_in mo_kind mo_type mo_long1 mo_letters mo_fields mo_kept mo_now mo_many mo_itemKind mo_itemField mo_itemPlace mo_by mo_stepKind mo_stepField mo_stepOperator mo_stepOther mo_stepMany mo_literalType mo_literalFrom mo_literalSize mo_bytes mo_said mo_number mo_pile mo_pilePlace mo_top x52 (1 : Int32) x1 x53 x54 x55 z55) cs_X6_220 ⟨Nat.le_of_ble_eq_true rfl, Nat.le_of_ble_eq_true rfl⟩ ⟨rfl, rfl⟩ (ci := 6) (cn := (RX6, TX6, 35)) rfl (q0 := 0) rfl (wn := w_mo E a_mo mo_code mo_tape mo_text mo_taped mo_size x3 mo_ill mo_in mo_kind mo_type mo_long1 mo_letters mo_fields mo_kept mo_now mo_many mo_itemKind mo_itemField mo_itemPlace mo_by mo_stepKind mo_stepField mo_stepOperator mo_stepOther mo_stepMany mo_literalType mo_literalFrom mo_literalSize mo_bytes mo_said mo_number x53 x54 x55 x52) (Jn.all _ _) rfl hl.1 rfl (Nat.le_of_ble_eq_true rfl) dX6_readTest_84 ⟨Nat.zero_le _, Nat.zero_le _⟩ (fun H locs hw => ?_)
            refine lv_goto (tgt := 0) hx hb dX6_readTest_87 (by decide) ?_
            exact ih hw (lv_sub hl [2] rfl) hf
          · replace hf := it_t c63 hf
            refine lv_aload_n hx hb dX6_readTest_66 rfl (lv_at hl 2 rfl) ?_
            refine lv_iload_n hx hb dX6_readTest_67 rfl (lv_at hl 1 rfl) ?_
            obtain ⟨x56, z56, hf⟩ := ob1_el hf
            refine cV_V C hw (c_X6_fail l E a_mo mo_code mo_tape mo_text mo_taped mo_size x3 mo_ill mo_in mo_kind mo_type mo_long1 mo_letters mo_fields mo_kept mo_now mo_many mo_itemKind mo_itemField mo_itemPlace mo_by mo_stepKind mo_stepField mo_stepOperator mo_stepOther mo_stepMany mo_literalType mo_literalFrom mo_literalSize mo_bytes mo_said mo_number mo_pile mo_pilePlace mo_top mo_open x1 x56 z56) cs_X6_144 ⟨Nat.le_of_ble_eq_true rfl, Nat.le_of_ble_eq_true rfl⟩ ⟨rfl, rfl⟩ (ci := 6) (cn := (RX6, TX6, 35)) rfl (q0 := 0) rfl (wn := w_mo E a_mo mo_code mo_tape mo_text mo_taped mo_size x3 x56 mo_in mo_kind mo_type mo_long1 mo_letters mo_fields mo_kept mo_now mo_many mo_itemKind mo_itemField mo_itemPlace mo_by mo_stepKind mo_stepField mo_stepOperator mo_stepOther mo_stepMany mo_literalType mo_literalFrom mo_literalSize mo_bytes mo_said mo_number mo_pile mo_pilePlace mo_top mo_open) (Jn.all _ _) rfl hl.1 rfl (Nat.le_of_ble_eq_true rfl) dX6_readTest_68 ⟨Nat.zero_le _, Nat.zero_le _⟩ (fun H locs hw => ?_)
            refine lv_aload_n hx hb dX6_readTest_71 rfl (lv_at hl 2 rfl) ?_
            refine lv_dup hx hb dX6_readTest_72 rfl ?_
            refine fg_X6_210 C hw 0 rfl rfl dX6_readTest_73 ?_
            refine lv_iconst (v := 1) hx hb dX6_readTest_76 (by decide) ?_
            refine lv_iadd hx hb dX6_readTest_77 ?_
            obtain ⟨x57, ex57, hf⟩ := on_el hf
            refine tp_i ex57 ?_
            refine fp_X6_210 C hw 0 rfl (Nat.le_of_ble_eq_true rfl) (ws' := w_mo E a_mo mo_code mo_tape mo_text mo_taped mo_size x3 x56 mo_in mo_kind mo_type mo_long1 mo_letters mo_fields mo_kept mo_now mo_many mo_itemKind mo_itemField mo_itemPlace mo_by mo_stepKind mo_stepField mo_stepOperator mo_stepOther mo_stepMany mo_literalType mo_literalFrom mo_literalSize mo_bytes mo_said mo_number mo_pile mo_pilePlace mo_top x57) rfl dX6_readTest_78 (fun H locs hw => ?_)
            refine lv_aload_n hx hb dX6_readTest_81 rfl (lv_at hl 2 rfl) ?_
            refine lv_iload_n hx hb dX6_readTest_82 rfl (lv_at hl 0 rfl) ?_
            refine lv_iload_n hx hb dX6_readTest_83 rfl (lv_at hl 1 rfl) ?_
            obtain ⟨x58, x59, x60, z60, hf⟩ := ob3_el hf
            refine cV_V C hw (c_X6_push l E a_mo mo_code mo_tape mo_text mo_taped mo_size x3 x56 mo_in mo_kind mo_type mo_long1 mo_letters mo_fields mo_kept mo_now mo_many mo_itemKind mo_itemField mo_itemPlace mo_by mo_stepKind mo_stepField mo_stepOperator mo_stepOther mo_stepMany mo_literalType mo_literalFrom mo_literalSize mo_bytes mo_said mo_number mo_pile mo_pilePlace mo_top x57 (1 : Int32) x1 x58 x59 x60 z60) cs_X6_220 ⟨Nat.le_of_ble_eq_true rfl, Nat.le_of_ble_eq_true rfl⟩ ⟨rfl, rfl⟩ (ci := 6) (cn := (RX6, TX6, 35)) rfl (q0 := 0) rfl (wn := w_mo E a_mo mo_code mo_tape mo_text mo_taped mo_size x3 x56 mo_in mo_kind mo_type mo_long1 mo_letters mo_fields mo_kept mo_now mo_many mo_itemKind mo_itemField mo_itemPlace mo_by mo_stepKind mo_stepField mo_stepOperator mo_stepOther mo_stepMany mo_literalType mo_literalFrom mo_literalSize mo_bytes mo_said mo_number x58 x59 x60 x57) (Jn.all _ _) rfl hl.1 rfl (Nat.le_of_ble_eq_true rfl) dX6_readTest_84 ⟨Nat.zero_le _, Nat.zero_le _⟩ (fun H locs hw => ?_)
            refine lv_goto (tgt := 0) hx hb dX6_readTest_87 (by decide) ?_
            exact ih hw (lv_sub hl [2] rfl) hf
        · replace hf := it_t c48 hf
          refine lv_aload_n hx hb dX6_readTest_51 rfl (lv_at hl 2 rfl) ?_
          refine lv_iload_n hx hb dX6_readTest_52 rfl (lv_at hl 1 rfl) ?_
          obtain ⟨x61, x62, x63, x64, x65, x66, x67, x68, x69, x70, x71, x72, x73, x74, z74, hf⟩ := ob14_el hf
          refine cV_V C hw (c_X6_readAsked l E a_mo mo_code mo_tape mo_text mo_taped mo_size x3 mo_ill mo_in mo_kind mo_type mo_long1 mo_letters mo_fields mo_kept mo_now mo_many mo_itemKind mo_itemField mo_itemPlace mo_by mo_stepKind mo_stepField mo_stepOperator mo_stepOther mo_stepMany mo_literalType mo_literalFrom mo_literalSize mo_bytes mo_said mo_number mo_pile mo_pilePlace mo_top mo_open x1 x61 x62 x63 x64 x65 x66 x67 x68 x69 x70 x71 x72 x73 x74 z74) cs_X6_217 ⟨Nat.le_of_ble_eq_true rfl, Nat.le_of_ble_eq_true rfl⟩ ⟨rfl, rfl⟩ (ci := 6) (cn := (RX6, TX6, 35)) rfl (q0 := 0) rfl (wn := w_mo E a_mo mo_code mo_tape mo_text mo_taped mo_size x61 x62 mo_in mo_kind mo_type mo_long1 mo_letters mo_fields mo_kept mo_now x63 mo_itemKind mo_itemField mo_itemPlace mo_by x64 x65 x66 x67 x68 x69 x70 x71 x72 x73 x74 mo_pile mo_pilePlace mo_top mo_open) (Jn.all _ _) rfl hl.1 rfl (Nat.le_of_ble_eq_true rfl) dX6_readTest_53 ⟨Nat.zero_le _, Nat.zero_le _⟩ (fun H locs hw => ?_)
          cases hf
          exact rt_v C hw dX6_readTest_56
def f_X6_readTest (mo_text : Nat → Int32) (mo_size : Int32) (mo_at : Int32) (mo_ill : Int32) (mo_in : Nat → Int32) (mo_kind : Nat → Int32) (mo_type : Nat → Int32) (mo_long1 : Nat → Int32) (mo_letters : Nat → Int32) (mo_fields : Int32) (mo_now : Int32) (mo_many : Nat → Int32) (mo_stepKind : Nat → Int32) (mo_stepField : Nat → Int32) (mo_stepOperator : Nat → Int32) (mo_stepOther : Nat → Int32) (mo_stepMany : Nat → Int32) (mo_literalType : Nat → Int32) (mo_literalFrom : Nat → Int32) (mo_literalSize : Nat → Int32) (mo_bytes : Nat → Int32) (mo_said : Nat → Int32) (mo_number : Nat → Int64) (mo_pile : Nat → Int32) (mo_pilePlace : Nat → Int32) (mo_top : Int32) (mo_open : Int32) : Option ((Int32) × (Int32) × (Nat → Int32) × (Nat → Int32) × (Nat → Int32) × (Nat → Int32) × (Nat → Int32) × (Nat → Int32) × (Nat → Int32) × (Nat → Int32) × (Nat → Int32) × (Nat → Int32) × (Nat → Int32) × (Nat → Int64) × (Nat → Int32) × (Nat → Int32) × (Int32) × (Int32)) :=
  f_X6_readTest_0 FU mo_text mo_size mo_at mo_ill mo_in mo_kind mo_type mo_long1 mo_letters mo_fields mo_now mo_many mo_stepKind mo_stepField mo_stepOperator mo_stepOther mo_stepMany mo_literalType mo_literalFrom mo_literalSize mo_bytes mo_said mo_number mo_pile mo_pilePlace mo_top mo_open
set_option maxHeartbeats 4000000 in
set_option maxRecDepth 100000 in
theorem c_X6_readTest (l : Launch) (E : EnvT) (a_mo : Nat → Nat) (mo_code : Int32) (mo_tape : Nat → Int32) (mo_text : Nat → Int32) (mo_taped : Int32) (mo_size : Int32) (mo_at : Int32) (mo_ill : Int32) (mo_in : Nat → Int32) (mo_kind : Nat → Int32) (mo_type : Nat → Int32) (mo_long1 : Nat → Int32) (mo_letters : Nat → Int32) (mo_fields : Int32) (mo_kept : Int32) (mo_now : Int32) (mo_many : Nat → Int32) (mo_itemKind : Nat → Int32) (mo_itemField : Nat → Int32) (mo_itemPlace : Nat → Int32) (mo_by : Nat → Int32) (mo_stepKind : Nat → Int32) (mo_stepField : Nat → Int32) (mo_stepOperator : Nat → Int32) (mo_stepOther : Nat → Int32) (mo_stepMany : Nat → Int32) (mo_literalType : Nat → Int32) (mo_literalFrom : Nat → Int32) (mo_literalSize : Nat → Int32) (mo_bytes : Nat → Int32) (mo_said : Nat → Int32) (mo_number : Nat → Int64) (mo_pile : Nat → Int32) (mo_pilePlace : Nat → Int32) (mo_top : Int32) (mo_open : Int32) (o_mo_at : Int32) (o_mo_ill : Int32) (o_mo_many : Nat → Int32) (o_mo_stepKind : Nat → Int32) (o_mo_stepField : Nat → Int32) (o_mo_stepOperator : Nat → Int32) (o_mo_stepOther : Nat → Int32) (o_mo_stepMany : Nat → Int32) (o_mo_literalType : Nat → Int32) (o_mo_literalFrom : Nat → Int32) (o_mo_literalSize : Nat → Int32) (o_mo_bytes : Nat → Int32) (o_mo_said : Nat → Int32) (o_mo_number : Nat → Int64) (o_mo_pile : Nat → Int32) (o_mo_pilePlace : Nat → Int32) (o_mo_top : Int32) (o_mo_open : Int32) (hf : f_X6_readTest mo_text mo_size mo_at mo_ill mo_in mo_kind mo_type mo_long1 mo_letters mo_fields mo_now mo_many mo_stepKind mo_stepField mo_stepOperator mo_stepOther mo_stepMany mo_literalType mo_literalFrom mo_literalSize mo_bytes mo_said mo_number mo_pile mo_pilePlace mo_top mo_open = some (o_mo_at, o_mo_ill, o_mo_many, o_mo_stepKind, o_mo_stepField, o_mo_stepOperator, o_mo_stepOther, o_mo_stepMany, o_mo_literalType, o_mo_literalFrom, o_mo_literalSize, o_mo_bytes, o_mo_said, o_mo_number, o_mo_pile, o_mo_pilePlace, o_mo_top, o_mo_open)) : CV l yX6_readTest (Cond.code yX6_readTest cX6_readTest 3 none) { frames := 7, cells := 0, slots := 0, locals := 164 } E [.ref (a_mo 0)] (w_mo E a_mo mo_code mo_tape mo_text mo_taped mo_size mo_at mo_ill mo_in mo_kind mo_type mo_long1 mo_letters mo_fields mo_kept mo_now mo_many mo_itemKind mo_itemField mo_itemPlace mo_by mo_stepKind mo_stepField mo_stepOperator mo_stepOther mo_stepMany mo_literalType mo_literalFrom mo_literalSize mo_bytes mo_said mo_number mo_pile mo_pilePlace mo_top mo_open) (w_mo E a_mo mo_code mo_tape mo_text mo_taped mo_size o_mo_at o_mo_ill mo_in mo_kind mo_type mo_long1 mo_letters mo_fields mo_kept mo_now o_mo_many mo_itemKind mo_itemField mo_itemPlace mo_by o_mo_stepKind o_mo_stepField o_mo_stepOperator o_mo_stepOther o_mo_stepMany o_mo_literalType o_mo_literalFrom o_mo_literalSize o_mo_bytes o_mo_said o_mo_number o_mo_pile o_mo_pilePlace o_mo_top o_mo_open) := by
  intro sz
  refine met_start [(0, .ref (a_mo 0))] (by decide) rfl rfl (Nat.le_of_ble_eq_true rfl) rfl ?_
  intro p e s m below meth c ls C hnm hmt hw hl
  have hx := C.1
  have hb := C.2.1
  generalize va_A (w_mo E a_mo mo_code mo_tape mo_text mo_taped mo_size mo_at mo_ill mo_in mo_kind mo_type mo_long1 mo_letters mo_fields mo_kept mo_now mo_many mo_itemKind mo_itemField mo_itemPlace mo_by mo_stepKind mo_stepField mo_stepOperator mo_stepOther mo_stepMany mo_literalType mo_literalFrom mo_literalSize mo_bytes mo_said mo_number mo_pile mo_pilePlace mo_top mo_open) sz = A at C hw ⊢
  unfold f_X6_readTest at hf
  exact w_X6_readTest_0 C FU hw (lv_sub hl [0] rfl) hf
def f_X6_readCondition_14 : Nat → (Nat → Int32) → (Int32) → (Int32) → (Int32) → (Nat → Int32) → (Nat → Int32) → (Nat → Int32) → (Nat → Int32) → (Nat → Int32) → (Int32) → (Int32) → (Nat → Int32) → (Nat → Int32) → (Nat → Int32) → (Nat → Int32) → (Nat → Int32) → (Nat → Int32) → (Nat → Int32) → (Nat → Int32) → (Nat → Int32) → (Nat → Int32) → (Nat → Int32) → (Nat → Int64) → (Nat → Int32) → (Nat → Int32) → (Int32) → (Int32) → Option ((Int32) × (Int32) × (Nat → Int32) × (Nat → Int32) × (Nat → Int32) × (Nat → Int32) × (Nat → Int32) × (Nat → Int32) × (Nat → Int32) × (Nat → Int32) × (Nat → Int32) × (Nat → Int32) × (Nat → Int32) × (Nat → Int64) × (Nat → Int32) × (Nat → Int32) × (Int32) × (Int32))
  | 0, _, _, _, _, _, _, _, _, _, _, _, _, _, _, _, _, _, _, _, _, _, _, _, _, _, _, _ => none
  | n + 1, mo_text, mo_size, mo_at, mo_ill, mo_in, mo_kind, mo_type, mo_long1, mo_letters, mo_fields, mo_now, mo_many, mo_stepKind, mo_stepField, mo_stepOperator, mo_stepOther, mo_stepMany, mo_literalType, mo_literalFrom, mo_literalSize, mo_bytes, mo_said, mo_number, mo_pile, mo_pilePlace, mo_top, mo_open =>
  if mo_ill = (-1 : Int32) then (ob9 (f_X6_joins (1 : Int32) mo_ill mo_now mo_many mo_stepKind mo_stepField mo_stepOperator mo_stepOther mo_stepMany mo_pile mo_pilePlace mo_top mo_open) (fun x1 x2 x3 x4 x5 x6 x7 x8 x9 =>
  ob9 (f_X6_joins (2 : Int32) x1 mo_now x2 x3 x4 x5 x6 x7 mo_pile mo_pilePlace x8 x9) (fun x10 x11 x12 x13 x14 x15 x16 x17 x18 =>
  if x10 = (-1 : Int32) then (ob2 (f_X6_sees (6385252 : Int64) mo_text mo_size mo_at x10) (fun x19 x20 =>
  if x19 = (0 : Int32) then (ob9 (f_X6_joins (3 : Int32) x10 mo_now x11 x12 x13 x14 x15 x16 mo_pile mo_pilePlace x17 x18) (fun x21 x22 x23 x24 x25 x26 x27 x28 x29 =>
  if x21 = (-1 : Int32) then (ob2 (f_X6_sees (28530 : Int64) mo_text mo_size x20 x21) (fun x30 x31 =>
  if x30 = (0 : Int32) then (if x28 = (0 : Int32) then (some (x31, x21, x22, x23, x24, x25, x26, x27, mo_literalType, mo_literalFrom, mo_literalSize, mo_bytes, mo_said, mo_number, mo_pile, mo_pilePlace, x28, x29))
  else (ob2 (f_X6_wantSign (41 : Int32) mo_text mo_size x31 x21) (fun x32 x33 =>
  on (x28 - (1 : Int32)) (fun x34 =>
  on (x29 - (1 : Int32)) (fun x35 =>
  f_X6_readCondition_14 n mo_text mo_size x32 x33 mo_in mo_kind mo_type mo_long1 mo_letters mo_fields mo_now x22 x23 x24 x25 x26 x27 mo_literalType mo_literalFrom mo_literalSize mo_bytes mo_said mo_number mo_pile mo_pilePlace x34 x35)))))
  else (ob3 (f_X6_push (3 : Int32) x31 mo_pile mo_pilePlace x28) (fun x36 x37 x38 =>
  on (x31 + (2 : Int32)) (fun x39 =>
  ob18 (f_X6_readTest mo_text mo_size x39 x21 mo_in mo_kind mo_type mo_long1 mo_letters mo_fields mo_now x22 x23 x24 x25 x26 x27 mo_literalType mo_literalFrom mo_literalSize mo_bytes mo_said mo_number x36 x37 x38 x29) (fun x40 x41 x42 x43 x44 x45 x46 x47 x48 x49 x50 x51 x52 x53 x54 x55 x56 x57 =>
  f_X6_readCondition_14 n mo_text mo_size x40 x41 mo_in mo_kind mo_type mo_long1 mo_letters mo_fields mo_now x42 x43 x44 x45 x46 x47 x48 x49 x50 x51 x52 x53 x54 x55 x56 x57))))))
  else (some (x20, x21, x22, x23, x24, x25, x26, x27, mo_literalType, mo_literalFrom, mo_literalSize, mo_bytes, mo_said, mo_number, mo_pile, mo_pilePlace, x28, x29))))
  else (ob3 (f_X6_push (2 : Int32) x20 mo_pile mo_pilePlace x17) (fun x58 x59 x60 =>
  on (x20 + (3 : Int32)) (fun x61 =>
  ob18 (f_X6_readTest mo_text mo_size x61 x10 mo_in mo_kind mo_type mo_long1 mo_letters mo_fields mo_now x11 x12 x13 x14 x15 x16 mo_literalType mo_literalFrom mo_literalSize mo_bytes mo_said mo_number x58 x59 x60 x18) (fun x62 x63 x64 x65 x66 x67 x68 x69 x70 x71 x72 x73 x74 x75 x76 x77 x78 x79 =>
  f_X6_readCondition_14 n mo_text mo_size x62 x63 mo_in mo_kind mo_type mo_long1 mo_letters mo_fields mo_now x64 x65 x66 x67 x68 x69 x70 x71 x72 x73 x74 x75 x76 x77 x78 x79))))))
  else (some (mo_at, x10, x11, x12, x13, x14, x15, x16, mo_literalType, mo_literalFrom, mo_literalSize, mo_bytes, mo_said, mo_number, mo_pile, mo_pilePlace, x17, x18)))))
  else (some (mo_at, mo_ill, mo_many, mo_stepKind, mo_stepField, mo_stepOperator, mo_stepOther, mo_stepMany, mo_literalType, mo_literalFrom, mo_literalSize, mo_bytes, mo_said, mo_number, mo_pile, mo_pilePlace, mo_top, mo_open))
set_option maxHeartbeats 4000000 in
set_option maxRecDepth 100000 in
theorem w_X6_readCondition_14 {p : Program} {l : Launch} {e : Env} {s : State} {m : MethodId} {args : Array Value} {below : List Frame} {meth : Method} {c : Code} {E : EnvT} {A : Nat → Prop} {a_mo : Nat → Nat} {mo_code : Int32} {mo_tape : Nat → Int32} {mo_taped : Int32} {mo_kept : Int32} {mo_itemKind : Nat → Int32} {mo_itemField : Nat → Int32} {mo_itemPlace : Nat → Int32} {mo_by : Nat → Int32} {o_mo_at : Int32} {o_mo_ill : Int32} {o_mo_many : Nat → Int32} {o_mo_stepKind : Nat → Int32} {o_mo_stepField : Nat → Int32} {o_mo_stepOperator : Nat → Int32} {o_mo_stepOther : Nat → Int32} {o_mo_stepMany : Nat → Int32} {o_mo_literalType : Nat → Int32} {o_mo_literalFrom : Nat → Int32} {o_mo_literalSize : Nat → Int32} {o_mo_bytes : Nat → Int32} {o_mo_said : Nat → Int32} {o_mo_number : Nat → Int64} {o_mo_pile : Nat → Int32} {o_mo_pilePlace : Nat → Int32} {o_mo_top : Int32} {o_mo_open : Int32} (C : MC p s m args meth c E A cX6_readCondition 1 RX6 none) : ∀ (n : Nat) {mo_text : Nat → Int32} {mo_size : Int32} {mo_at : Int32} {mo_ill : Int32} {mo_in : Nat → Int32} {mo_kind : Nat → Int32} {mo_type : Nat → Int32} {mo_long1 : Nat → Int32} {mo_letters : Nat → Int32} {mo_fields : Int32} {mo_now : Int32} {mo_many : Nat → Int32} {mo_stepKind : Nat → Int32} {mo_stepField : Nat → Int32} {mo_stepOperator : Nat → Int32} {mo_stepOther : Nat → Int32} {mo_stepMany : Nat → Int32} {mo_literalType : Nat → Int32} {mo_literalFrom : Nat → Int32} {mo_literalSize : Nat → Int32} {mo_bytes : Nat → Int32} {mo_said : Nat → Int32} {mo_number : Nat → Int64} {mo_pile : Nat → Int32} {mo_pilePlace : Nat → Int32} {mo_top : Int32} {mo_open : Int32} {H : Heap} {locs : List Loc} {ls : Array Slot}, WS E A s (w_mo E a_mo mo_code mo_tape mo_text mo_taped mo_size mo_at mo_ill mo_in mo_kind mo_type mo_long1 mo_letters mo_fields mo_kept mo_now mo_many mo_itemKind mo_itemField mo_itemPlace mo_by mo_stepKind mo_stepField mo_stepOperator mo_stepOther mo_stepMany mo_literalType mo_literalFrom mo_literalSize mo_bytes mo_said mo_number mo_pile mo_pilePlace mo_top mo_open) H locs → lv_has ls 1 [(0, .ref (a_mo 0))] → f_X6_readCondition_14 n mo_text mo_size mo_at mo_ill mo_in mo_kind mo_type mo_long1 mo_letters mo_fields mo_now mo_many mo_stepKind mo_stepField mo_stepOperator mo_stepOther mo_stepMany mo_literalType mo_literalFrom mo_literalSize mo_bytes mo_said mo_number mo_pile mo_pilePlace mo_top mo_open = some (o_mo_at, o_mo_ill, o_mo_many, o_mo_stepKind, o_mo_stepField, o_mo_stepOperator, o_mo_stepOther, o_mo_stepMany, o_mo_literalType, o_mo_literalFrom, o_mo_literalSize, o_mo_bytes, o_mo_said, o_mo_number, o_mo_pile, o_mo_pilePlace, o_mo_top, o_mo_open) → W p l e { frames := 8, cells := 0, slots := 0, locals := 186 } s m args below meth c H locs 0 0 (MQ below (QcV E A (w_mo E a_mo mo_code mo_tape mo_text mo_taped mo_size o_mo_at o_mo_ill mo_in mo_kind mo_type mo_long1 mo_letters mo_fields mo_kept mo_now o_mo_many mo_itemKind mo_itemField mo_itemPlace mo_by o_mo_stepKind o_mo_stepField o_mo_stepOperator o_mo_stepOther o_mo_stepMany o_mo_literalType o_mo_literalFrom o_mo_literalSize o_mo_bytes o_mo_said o_mo_number o_mo_pile o_mo_pilePlace o_mo_top o_mo_open)) args s 0 0 A) (F0 m 14 ls []) := by
  have hx := C.1
  have hb := C.2.1
  intro n
  induction n with
  | zero =>
    intro mo_text mo_size mo_at mo_ill mo_in mo_kind mo_type mo_long1 mo_letters mo_fields mo_now mo_many mo_stepKind mo_stepField mo_stepOperator mo_stepOther mo_stepMany mo_literalType mo_literalFrom mo_literalSize mo_bytes mo_said mo_number mo_pile mo_pilePlace mo_top mo_open H locs ls hw hl hf
    unfold f_X6_readCondition_14 at hf
    cases hf
  | succ n ih =>
    intro mo_text mo_size mo_at mo_ill mo_in mo_kind mo_type mo_long1 mo_letters mo_fields mo_now mo_many mo_stepKind mo_stepField mo_stepOperator mo_stepOther mo_stepMany mo_literalType mo_literalFrom mo_literalSize mo_bytes mo_said mo_number mo_pile mo_pilePlace mo_top mo_open H locs ls hw hl hf
    unfold f_X6_readCondition_14 at hf
    refine lv_aload_n hx hb dX6_readCondition_14 rfl (lv_at hl 0 rfl) ?_
    refine fg_X6_102 C hw 0 rfl rfl dX6_readCondition_15 ?_
    refine lv_iconst (v := -1) hx hb dX6_readCondition_18 (by decide) ?_
    refine lv_icmp_ne (tgt := 164) hx hb dX6_readCondition_19 (by decide) (fun c19 => ?_) (fun c19 => ?_)
    · replace hf := it_f c19 hf
      cases hf
      exact rt_v C hw dX6_readCondition_164
    · replace hf := it_t c19 hf
      refine lv_aload_n hx hb dX6_readCondition_22 rfl (lv_at hl 0 rfl) ?_
      refine lv_iconst (v := 1) hx hb dX6_readCondition_23 (by decide) ?_
      obtain ⟨x1, x2, x3, x4, x5, x6, x7, x8, x9, z9, hf⟩ := ob9_el hf
      refine cV_V C hw (c_X6_joins l E a_mo mo_code mo_tape mo_text mo_taped mo_size mo_at mo_ill mo_in mo_kind mo_type mo_long1 mo_letters mo_fields mo_kept mo_now mo_many mo_itemKind mo_itemField mo_itemPlace mo_by mo_stepKind mo_stepField mo_stepOperator mo_stepOther mo_stepMany mo_literalType mo_literalFrom mo_literalSize mo_bytes mo_said mo_number mo_pile mo_pilePlace mo_top mo_open (1 : Int32) x1 x2 x3 x4 x5 x6 x7 x8 x9 z9) cs_X6_227 ⟨Nat.le_of_ble_eq_true rfl, Nat.le_of_ble_eq_true rfl⟩ ⟨rfl, rfl⟩ (ci := 6) (cn := (RX6, TX6, 35)) rfl (q0 := 0) rfl (wn := w_mo E a_mo mo_code mo_tape mo_text mo_taped mo_size mo_at x1 mo_in mo_kind mo_type mo_long1 mo_letters mo_fields mo_kept mo_now x2 mo_itemKind mo_itemField mo_itemPlace mo_by x3 x4 x5 x6 x7 mo_literalType mo_literalFrom mo_literalSize mo_bytes mo_said mo_number mo_pile mo_pilePlace x8 x9) (Jn.all _ _) rfl hl.1 rfl (Nat.le_of_ble_eq_true rfl) dX6_readCondition_24 ⟨Nat.zero_le _, Nat.zero_le _⟩ (fun H locs hw => ?_)
      refine lv_aload_n hx hb dX6_readCondition_27 rfl (lv_at hl 0 rfl) ?_
      refine lv_iconst (v := 2) hx hb dX6_readCondition_28 (by decide) ?_
      obtain ⟨x10, x11, x12, x13, x14, x15, x16, x17, x18, z18, hf⟩ := ob9_el hf
      refine cV_V C hw (c_X6_joins l E a_mo mo_code mo_tape mo_text mo_taped mo_size mo_at x1 mo_in mo_kind mo_type mo_long1 mo_letters mo_fields mo_kept mo_now x2 mo_itemKind mo_itemField mo_itemPlace mo_by x3 x4 x5 x6 x7 mo_literalType mo_literalFrom mo_literalSize mo_bytes mo_said mo_number mo_pile mo_pilePlace x8 x9 (2 : Int32) x10 x11 x12 x13 x14 x15 x16 x17 x18 z18) cs_X6_227 ⟨Nat.le_of_ble_eq_true rfl, Nat.le_of_ble_eq_true rfl⟩ ⟨rfl, rfl⟩ (ci := 6) (cn := (RX6, TX6, 35)) rfl (q0 := 0) rfl (wn := w_mo E a_mo mo_code mo_tape mo_text mo_taped mo_size mo_at x10 mo_in mo_kind mo_type mo_long1 mo_letters mo_fields mo_kept mo_now x11 mo_itemKind mo_itemField mo_itemPlace mo_by x12 x13 x14 x15 x16 mo_literalType mo_literalFrom mo_literalSize mo_bytes mo_said mo_number mo_pile mo_pilePlace x17 x18) (Jn.all _ _) rfl hl.1 rfl (Nat.le_of_ble_eq_true rfl) dX6_readCondition_29 ⟨Nat.zero_le _, Nat.zero_le _⟩ (fun H locs hw => ?_)
      refine lv_aload_n hx hb dX6_readCondition_32 rfl (lv_at hl 0 rfl) ?_
      refine fg_X6_102 C hw 0 rfl rfl dX6_readCondition_33 ?_
      refine lv_iconst (v := -1) hx hb dX6_readCondition_36 (by decide) ?_
      refine lv_icmp_eq (tgt := 41) hx hb dX6_readCondition_37 (by decide) (fun c37 => ?_) (fun c37 => ?_)
      · replace hf := it_t c37 hf
        refine lv_aload_n hx hb dX6_readCondition_41 rfl (lv_at hl 0 rfl) ?_
        refine rc2 C mw_787 dX6_readCondition_42 ?_
        obtain ⟨x19, x20, z20, hf⟩ := ob2_el hf
        refine cI_V C hw (c_X6_sees l E a_mo mo_code mo_tape mo_text mo_taped mo_size mo_at x10 mo_in mo_kind mo_type mo_long1 mo_letters mo_fields mo_kept mo_now x11 mo_itemKind mo_itemField mo_itemPlace mo_by x12 x13 x14 x15 x16 mo_literalType mo_literalFrom mo_literalSize mo_bytes mo_said mo_number mo_pile mo_pilePlace x17 x18 (6385252 : Int64) x19 x20 z20) cs_X6_137 ⟨Nat.le_of_ble_eq_true rfl, Nat.le_of_ble_eq_true rfl⟩ ⟨rfl, rfl⟩ (ci := 6) (cn := (RX6, TX6, 35)) rfl (q0 := 0) rfl (wn := w_mo E a_mo mo_code mo_tape mo_text mo_taped mo_size x20 x10 mo_in mo_kind mo_type mo_long1 mo_letters mo_fields mo_kept mo_now x11 mo_itemKind mo_itemField mo_itemPlace mo_by x12 x13 x14 x15 x16 mo_literalType mo_literalFrom mo_literalSize mo_bytes mo_said mo_number mo_pile mo_pilePlace x17 x18) (Jn.all _ _) rfl hl.1 rfl (Nat.le_of_ble_eq_true rfl) dX6_readCondition_45 ⟨Nat.zero_le _, Nat.zero_le _⟩ (fun H locs hw => ?_)
        refine lv_if_eq (tgt := 77) hx hb dX6_readCondition_48 (by decide) (fun c48 => ?_) (fun c48 => ?_)
        · replace hf := it_t c48 hf
          refine lv_aload_n hx hb dX6_readCondition_77 rfl (lv_at hl 0 rfl) ?_
          refine lv_iconst (v := 3) hx hb dX6_readCondition_78 (by decide) ?_
          obtain ⟨x21, x22, x23, x24, x25, x26, x27, x28, x29, z29, hf⟩ := ob9_el hf
          refine cV_V C hw (c_X6_joins l E a_mo mo_code mo_tape mo_text mo_taped mo_size x20 x10 mo_in mo_kind mo_type mo_long1 mo_letters mo_fields mo_kept mo_now x11 mo_itemKind mo_itemField mo_itemPlace mo_by x12 x13 x14 x15 x16 mo_literalType mo_literalFrom mo_literalSize mo_bytes mo_said mo_number mo_pile mo_pilePlace x17 x18 (3 : Int32) x21 x22 x23 x24 x25 x26 x27 x28 x29 z29) cs_X6_227 ⟨Nat.le_of_ble_eq_true rfl, Nat.le_of_ble_eq_true rfl⟩ ⟨rfl, rfl⟩ (ci := 6) (cn := (RX6, TX6, 35)) rfl (q0 := 0) rfl (wn := w_mo E a_mo mo_code mo_tape mo_text mo_taped mo_size x20 x21 mo_in mo_kind mo_type mo_long1 mo_letters mo_fields mo_kept mo_now x22 mo_itemKind mo_itemField mo_itemPlace mo_by x23 x24 x25 x26 x27 mo_literalType mo_literalFrom mo_literalSize mo_bytes mo_said mo_number mo_pile mo_pilePlace x28 x29) (Jn.all _ _) rfl hl.1 rfl (Nat.le_of_ble_eq_true rfl) dX6_readCondition_79 ⟨Nat.zero_le _, Nat.zero_le _⟩ (fun H locs hw => ?_)
          refine lv_aload_n hx hb dX6_readCondition_82 rfl (lv_at hl 0 rfl) ?_
          refine fg_X6_102 C hw 0 rfl rfl dX6_readCondition_83 ?_
          refine lv_iconst (v := -1) hx hb dX6_readCondition_86 (by decide) ?_
          refine lv_icmp_eq (tgt := 91) hx hb dX6_readCondition_87 (by decide) (fun c87 => ?_) (fun c87 => ?_)
          · replace hf := it_t c87 hf
            refine lv_aload_n hx hb dX6_readCondition_91 rfl (lv_at hl 0 rfl) ?_
            refine rc2 C mw_788 dX6_readCondition_92 ?_
            obtain ⟨x30, x31, z31, hf⟩ := ob2_el hf
            refine cI_V C hw (c_X6_sees l E a_mo mo_code mo_tape mo_text mo_taped mo_size x20 x21 mo_in mo_kind mo_type mo_long1 mo_letters mo_fields mo_kept mo_now x22 mo_itemKind mo_itemField mo_itemPlace mo_by x23 x24 x25 x26 x27 mo_literalType mo_literalFrom mo_literalSize mo_bytes mo_said mo_number mo_pile mo_pilePlace x28 x29 (28530 : Int64) x30 x31 z31) cs_X6_137 ⟨Nat.le_of_ble_eq_true rfl, Nat.le_of_ble_eq_true rfl⟩ ⟨rfl, rfl⟩ (ci := 6) (cn := (RX6, TX6, 35)) rfl (q0 := 0) rfl (wn := w_mo E a_mo mo_code mo_tape mo_text mo_taped mo_size x31 x21 mo_in mo_kind mo_type mo_long1 mo_letters mo_fields mo_kept mo_now x22 mo_itemKind mo_itemField mo_itemPlace mo_by x23 x24 x25 x26 x27 mo_literalType mo_literalFrom mo_literalSize mo_bytes mo_said mo_number mo_pile mo_pilePlace x28 x29) (Jn.all _ _) rfl hl.1 rfl (Nat.le_of_ble_eq_true rfl) dX6_readCondition_95 ⟨Nat.zero_le _, Nat.zero_le _⟩ (fun H locs hw => ?_)
            refine lv_if_eq (tgt := 127) hx hb dX6_readCondition_98 (by decide) (fun c98 => ?_) (fun c98 => ?_)
            · replace hf := it_t c98 hf
              refine lv_aload_n hx hb dX6_readCondition_127 rfl (lv_at hl 0 rfl) ?_
              refine fg_X6_207 C hw 0 rfl rfl dX6_readCondition_128 ?_
              refine lv_if_ne (tgt := 135) hx hb dX6_readCondition_131 (by decide) (fun c131 => ?_) (fun c131 => ?_)
              · replace hf := it_f c131 hf
                refine lv_aload_n hx hb dX6_readCondition_135 rfl (lv_at hl 0 rfl) ?_
                refine lv_bipush (v := 41) hx hb dX6_readCondition_136 (by decide) ?_
                obtain ⟨x32, x33, z33, hf⟩ := ob2_el hf
                refine cV_V C hw (c_X6_wantSign l E a_mo mo_code mo_tape mo_text mo_taped mo_size x31 x21 mo_in mo_kind mo_type mo_long1 mo_letters mo_fields mo_kept mo_now x22 mo_itemKind mo_itemField mo_itemPlace mo_by x23 x24 x25 x26 x27 mo_literalType mo_literalFrom mo_literalSize mo_bytes mo_said mo_number mo_pile mo_pilePlace x28 x29 (41 : Int32) x32 x33 z33) cs_X6_195 ⟨Nat.le_of_ble_eq_true rfl, Nat.le_of_ble_eq_true rfl⟩ ⟨rfl, rfl⟩ (ci := 6) (cn := (RX6, TX6, 35)) rfl (q0 := 0) rfl (wn := w_mo E a_mo mo_code mo_tape mo_text mo_taped mo_size x32 x33 mo_in mo_kind mo_type mo_long1 mo_letters mo_fields mo_kept mo_now x22 mo_itemKind mo_itemField mo_itemPlace mo_by x23 x24 x25 x26 x27 mo_literalType mo_literalFrom mo_literalSize mo_bytes mo_said mo_number mo_pile mo_pilePlace x28 x29) (Jn.all _ _) rfl hl.1 rfl (Nat.le_of_ble_eq_true rfl) dX6_readCondition_138 ⟨Nat.zero_le _, Nat.zero_le _⟩ (fun H locs hw => ?_)
                refine lv_aload_n hx hb dX6_readCondition_141 rfl (lv_at hl 0 rfl) ?_
                refine lv_dup hx hb dX6_readCondition_142 rfl ?_
                refine fg_X6_207 C hw 0 rfl rfl dX6_readCondition_143 ?_
                refine lv_iconst (v := 1) hx hb dX6_readCondition_146 (by decide) ?_
                refine lv_isub hx hb dX6_readCondition_147 ?_
                obtain ⟨x34, ex34, hf⟩ := on_el hf
                refine tp_i ex34 ?_
                refine fp_X6_207 C hw 0 rfl (Nat.le_of_ble_eq_true rfl) (ws' := w_mo E a_mo mo_code mo_tape mo_text mo_taped mo_size x32 x33 mo_in mo_kind mo_type mo_long1 mo_letters mo_fields mo_kept mo_now x22 mo_itemKind mo_itemField mo_itemPlace mo_by x23 x24 x25 x26 x27 mo_literalType mo_literalFrom mo_literalSize mo_bytes mo_said mo_number mo_pile mo_pilePlace x34 x29) rfl dX6_readCondition_148 (fun H locs hw => ?_)
                refine lv_aload_n hx hb dX6_readCondition_151 rfl (lv_at hl 0 rfl) ?_
                refine lv_dup hx hb dX6_readCondition_152 rfl ?_
                refine fg_X6_210 C hw 0 rfl rfl dX6_readCondition_153 ?_
                refine lv_iconst (v := 1) hx hb dX6_readCondition_156 (by decide) ?_
                refine lv_isub hx hb dX6_readCondition_157 ?_
                obtain ⟨x35, ex35, hf⟩ := on_el hf
                refine tp_i ex35 ?_
                refine fp_X6_210 C hw 0 rfl (Nat.le_of_ble_eq_true rfl) (ws' := w_mo E a_mo mo_code mo_tape mo_text mo_taped mo_size x32 x33 mo_in mo_kind mo_type mo_long1 mo_letters mo_fields mo_kept mo_now x22 mo_itemKind mo_itemField mo_itemPlace mo_by x23 x24 x25 x26 x27 mo_literalType mo_literalFrom mo_literalSize mo_bytes mo_said mo_number mo_pile mo_pilePlace x34 x35) rfl dX6_readCondition_158 (fun H locs hw => ?_)
                refine lv_goto (tgt := 14) hx hb dX6_readCondition_161 (by decide) ?_
                exact ih hw (lv_sub hl [0] rfl) hf
              · replace hf := it_t c131 hf
                cases hf
                exact rt_v C hw dX6_readCondition_134
            · replace hf := it_f c98 hf
              refine lv_aload_n hx hb dX6_readCondition_101 rfl (lv_at hl 0 rfl) ?_
              refine lv_iconst (v := 3) hx hb dX6_readCondition_102 (by decide) ?_
              refine lv_aload_n hx hb dX6_readCondition_103 rfl (lv_at hl 0 rfl) ?_
              refine fg_X6_99 C hw 0 rfl rfl dX6_readCondition_104 ?_
              obtain ⟨x36, x37, x38, z38, hf⟩ := ob3_el hf
              refine cV_V C hw (c_X6_push l E a_mo mo_code mo_tape mo_text mo_taped mo_size x31 x21 mo_in mo_kind mo_type mo_long1 mo_letters mo_fields mo_kept mo_now x22 mo_itemKind mo_itemField mo_itemPlace mo_by x23 x24 x25 x26 x27 mo_literalType mo_literalFrom mo_literalSize mo_bytes mo_said mo_number mo_pile mo_pilePlace x28 x29 (3 : Int32) x31 x36 x37 x38 z38) cs_X6_220 ⟨Nat.le_of_ble_eq_true rfl, Nat.le_of_ble_eq_true rfl⟩ ⟨rfl, rfl⟩ (ci := 6) (cn := (RX6, TX6, 35)) rfl (q0 := 0) rfl (wn := w_mo E a_mo mo_code mo_tape mo_text mo_taped mo_size x31 x21 mo_in mo_kind mo_type mo_long1 mo_letters mo_fields mo_kept mo_now x22 mo_itemKind mo_itemField mo_itemPlace mo_by x23 x24 x25 x26 x27 mo_literalType mo_literalFrom mo_literalSize mo_bytes mo_said mo_number x36 x37 x38 x29) (Jn.all _ _) rfl hl.1 rfl (Nat.le_of_ble_eq_true rfl) dX6_readCondition_107 ⟨Nat.zero_le _, Nat.zero_le _⟩ (fun H locs hw => ?_)
              refine lv_aload_n hx hb dX6_readCondition_110 rfl (lv_at hl 0 rfl) ?_
              refine lv_dup hx hb dX6_readCondition_111 rfl ?_
              refine fg_X6_99 C hw 0 rfl rfl dX6_readCondition_112 ?_
              refine lv_iconst (v := 2) hx hb dX6_readCondition_115 (by decide) ?_
              refine lv_iadd hx hb dX6_readCondition_116 ?_
              obtain ⟨x39, ex39, hf⟩ := on_el hf
              refine tp_i ex39 ?_
              refine fp_X6_99 C hw 0 rfl (Nat.le_of_ble_eq_true rfl) (ws' := w_mo E a_mo mo_code mo_tape mo_text mo_taped mo_size x39 x21 mo_in mo_kind mo_type mo_long1 mo_letters mo_fields mo_kept mo_now x22 mo_itemKind mo_itemField mo_itemPlace mo_by x23 x24 x25 x26 x27 mo_literalType mo_literalFrom mo_literalSize mo_bytes mo_said mo_number x36 x37 x38 x29) rfl dX6_readCondition_117 (fun H locs hw => ?_)
              refine lv_aload_n hx hb dX6_readCondition_120 rfl (lv_at hl 0 rfl) ?_
              obtain ⟨x40, x41, x42, x43, x44, x45, x46, x47, x48, x49, x50, x51, x52, x53, x54, x55, x56, x57, z57, hf⟩ := ob18_el hf
              refine cV_V C hw (c_X6_readTest l E a_mo mo_code mo_tape mo_text mo_taped mo_size x39 x21 mo_in mo_kind mo_type mo_long1 mo_letters mo_fields mo_kept mo_now x22 mo_itemKind mo_itemField mo_itemPlace mo_by x23 x24 x25 x26 x27 mo_literalType mo_literalFrom mo_literalSize mo_bytes mo_said mo_number x36 x37 x38 x29 x40 x41 x42 x43 x44 x45 x46 x47 x48 x49 x50 x51 x52 x53 x54 x55 x56 x57 z57) cs_X6_224 ⟨Nat.le_of_ble_eq_true rfl, Nat.le_of_ble_eq_true rfl⟩ ⟨rfl, rfl⟩ (ci := 6) (cn := (RX6, TX6, 35)) rfl (q0 := 0) rfl (wn := w_mo E a_mo mo_code mo_tape mo_text mo_taped mo_size x40 x41 mo_in mo_kind mo_type mo_long1 mo_letters mo_fields mo_kept mo_now x42 mo_itemKind mo_itemField mo_itemPlace mo_by x43 x44 x45 x46 x47 x48 x49 x50 x51 x52 x53 x54 x55 x56 x57) (Jn.all _ _) rfl hl.1 rfl (Nat.le_of_ble_eq_true rfl) dX6_readCondition_121 ⟨Nat.zero_le _, Nat.zero_le _⟩ (fun H locs hw => ?_)
              refine lv_goto (tgt := 14) hx hb dX6_readCondition_124 (by decide) ?_
              exact ih hw (lv_sub hl [0] rfl) hf
          · replace hf := it_f c87 hf
            cases hf
            exact rt_v C hw dX6_readCondition_90
        · replace hf := it_f c48 hf
          refine lv_aload_n hx hb dX6_readCondition_51 rfl (lv_at hl 0 rfl) ?_
          refine lv_iconst (v := 2) hx hb dX6_readCondition_52 (by decide) ?_
          refine lv_aload_n hx hb dX6_readCondition_53 rfl (lv_at hl 0 rfl) ?_
          refine fg_X6_99 C hw 0 rfl rfl dX6_readCondition_54 ?_
          obtain ⟨x58, x59, x60, z60, hf⟩ := ob3_el hf
          refine cV_V C hw (c_X6_push l E a_mo mo_code mo_tape mo_text mo_taped mo_size x20 x10 mo_in mo_kind mo_type mo_long1 mo_letters mo_fields mo_kept mo_now x11 mo_itemKind mo_itemField mo_itemPlace mo_by x12 x13 x14 x15 x16 mo_literalType mo_literalFrom mo_literalSize mo_bytes mo_said mo_number mo_pile mo_pilePlace x17 x18 (2 : Int32) x20 x58 x59 x60 z60) cs_X6_220 ⟨Nat.le_of_ble_eq_true rfl, Nat.le_of_ble_eq_true rfl⟩ ⟨rfl, rfl⟩ (ci := 6) (cn := (RX6, TX6, 35)) rfl (q0 := 0) rfl (wn := w_mo E a_mo mo_code mo_tape mo_text mo_taped mo_size x20 x10 mo_in mo_kind mo_type mo_long1 mo_letters mo_fields mo_kept mo_now x11 mo_itemKind mo_itemField mo_itemPlace mo_by x12 x13 x14 x15 x16 mo_literalType mo_literalFrom mo_literalSize mo_bytes mo_said mo_number x58 x59 x60 x18) (Jn.all _ _) rfl hl.1 rfl (Nat.le_of_ble_eq_true rfl) dX6_readCondition_57 ⟨Nat.zero_le _, Nat.zero_le _⟩ (fun H locs hw => ?_)
          refine lv_aload_n hx hb dX6_readCondition_60 rfl (lv_at hl 0 rfl) ?_
          refine lv_dup hx hb dX6_readCondition_61 rfl ?_
          refine fg_X6_99 C hw 0 rfl rfl dX6_readCondition_62 ?_
          refine lv_iconst (v := 3) hx hb dX6_readCondition_65 (by decide) ?_
          refine lv_iadd hx hb dX6_readCondition_66 ?_
          obtain ⟨x61, ex61, hf⟩ := on_el hf
          refine tp_i ex61 ?_
          refine fp_X6_99 C hw 0 rfl (Nat.le_of_ble_eq_true rfl) (ws' := w_mo E a_mo mo_code mo_tape mo_text mo_taped mo_size x61 x10 mo_in mo_kind mo_type mo_long1 mo_letters mo_fields mo_kept mo_now x11 mo_itemKind mo_itemField mo_itemPlace mo_by x12 x13 x14 x15 x16 mo_literalType mo_literalFrom mo_literalSize mo_bytes mo_said mo_number x58 x59 x60 x18) rfl dX6_readCondition_67 (fun H locs hw => ?_)
          refine lv_aload_n hx hb dX6_readCondition_70 rfl (lv_at hl 0 rfl) ?_
          obtain ⟨x62, x63, x64, x65, x66, x67, x68, x69, x70, x71, x72, x73, x74, x75, x76, x77, x78, x79, z79, hf⟩ := ob18_el hf
          refine cV_V C hw (c_X6_readTest l E a_mo mo_code mo_tape mo_text mo_taped mo_size x61 x10 mo_in mo_kind mo_type mo_long1 mo_letters mo_fields mo_kept mo_now x11 mo_itemKind mo_itemField mo_itemPlace mo_by x12 x13 x14 x15 x16 mo_literalType mo_literalFrom mo_literalSize mo_bytes mo_said mo_number x58 x59 x60 x18 x62 x63 x64 x65 x66 x67 x68 x69 x70 x71 x72 x73 x74 x75 x76 x77 x78 x79 z79) cs_X6_224 ⟨Nat.le_of_ble_eq_true rfl, Nat.le_of_ble_eq_true rfl⟩ ⟨rfl, rfl⟩ (ci := 6) (cn := (RX6, TX6, 35)) rfl (q0 := 0) rfl (wn := w_mo E a_mo mo_code mo_tape mo_text mo_taped mo_size x62 x63 mo_in mo_kind mo_type mo_long1 mo_letters mo_fields mo_kept mo_now x64 mo_itemKind mo_itemField mo_itemPlace mo_by x65 x66 x67 x68 x69 x70 x71 x72 x73 x74 x75 x76 x77 x78 x79) (Jn.all _ _) rfl hl.1 rfl (Nat.le_of_ble_eq_true rfl) dX6_readCondition_71 ⟨Nat.zero_le _, Nat.zero_le _⟩ (fun H locs hw => ?_)
          refine lv_goto (tgt := 14) hx hb dX6_readCondition_74 (by decide) ?_
          exact ih hw (lv_sub hl [0] rfl) hf
      · replace hf := it_f c37 hf
        cases hf
        exact rt_v C hw dX6_readCondition_40
def f_X6_readCondition (mo_text : Nat → Int32) (mo_size : Int32) (mo_at : Int32) (mo_ill : Int32) (mo_in : Nat → Int32) (mo_kind : Nat → Int32) (mo_type : Nat → Int32) (mo_long1 : Nat → Int32) (mo_letters : Nat → Int32) (mo_fields : Int32) (mo_now : Int32) (mo_many : Nat → Int32) (mo_stepKind : Nat → Int32) (mo_stepField : Nat → Int32) (mo_stepOperator : Nat → Int32) (mo_stepOther : Nat → Int32) (mo_stepMany : Nat → Int32) (mo_literalType : Nat → Int32) (mo_literalFrom : Nat → Int32) (mo_literalSize : Nat → Int32) (mo_bytes : Nat → Int32) (mo_said : Nat → Int32) (mo_number : Nat → Int64) (mo_pile : Nat → Int32) (mo_pilePlace : Nat → Int32) (mo_top : Int32) (mo_open : Int32) : Option ((Int32) × (Int32) × (Nat → Int32) × (Nat → Int32) × (Nat → Int32) × (Nat → Int32) × (Nat → Int32) × (Nat → Int32) × (Nat → Int32) × (Nat → Int32) × (Nat → Int32) × (Nat → Int32) × (Nat → Int32) × (Nat → Int64) × (Nat → Int32) × (Nat → Int32) × (Int32) × (Int32)) :=
  ob18 (f_X6_readTest mo_text mo_size mo_at mo_ill mo_in mo_kind mo_type mo_long1 mo_letters mo_fields mo_now mo_many mo_stepKind mo_stepField mo_stepOperator mo_stepOther mo_stepMany mo_literalType mo_literalFrom mo_literalSize mo_bytes mo_said mo_number mo_pile mo_pilePlace (0 : Int32) (0 : Int32)) (fun x1 x2 x3 x4 x5 x6 x7 x8 x9 x10 x11 x12 x13 x14 x15 x16 x17 x18 =>
  f_X6_readCondition_14 FU mo_text mo_size x1 x2 mo_in mo_kind mo_type mo_long1 mo_letters mo_fields mo_now x3 x4 x5 x6 x7 x8 x9 x10 x11 x12 x13 x14 x15 x16 x17 x18)
set_option maxHeartbeats 4000000 in
set_option maxRecDepth 100000 in
theorem c_X6_readCondition (l : Launch) (E : EnvT) (a_mo : Nat → Nat) (mo_code : Int32) (mo_tape : Nat → Int32) (mo_text : Nat → Int32) (mo_taped : Int32) (mo_size : Int32) (mo_at : Int32) (mo_ill : Int32) (mo_in : Nat → Int32) (mo_kind : Nat → Int32) (mo_type : Nat → Int32) (mo_long1 : Nat → Int32) (mo_letters : Nat → Int32) (mo_fields : Int32) (mo_kept : Int32) (mo_now : Int32) (mo_many : Nat → Int32) (mo_itemKind : Nat → Int32) (mo_itemField : Nat → Int32) (mo_itemPlace : Nat → Int32) (mo_by : Nat → Int32) (mo_stepKind : Nat → Int32) (mo_stepField : Nat → Int32) (mo_stepOperator : Nat → Int32) (mo_stepOther : Nat → Int32) (mo_stepMany : Nat → Int32) (mo_literalType : Nat → Int32) (mo_literalFrom : Nat → Int32) (mo_literalSize : Nat → Int32) (mo_bytes : Nat → Int32) (mo_said : Nat → Int32) (mo_number : Nat → Int64) (mo_pile : Nat → Int32) (mo_pilePlace : Nat → Int32) (mo_top : Int32) (mo_open : Int32) (o_mo_at : Int32) (o_mo_ill : Int32) (o_mo_many : Nat → Int32) (o_mo_stepKind : Nat → Int32) (o_mo_stepField : Nat → Int32) (o_mo_stepOperator : Nat → Int32) (o_mo_stepOther : Nat → Int32) (o_mo_stepMany : Nat → Int32) (o_mo_literalType : Nat → Int32) (o_mo_literalFrom : Nat → Int32) (o_mo_literalSize : Nat → Int32) (o_mo_bytes : Nat → Int32) (o_mo_said : Nat → Int32) (o_mo_number : Nat → Int64) (o_mo_pile : Nat → Int32) (o_mo_pilePlace : Nat → Int32) (o_mo_top : Int32) (o_mo_open : Int32) (hf : f_X6_readCondition mo_text mo_size mo_at mo_ill mo_in mo_kind mo_type mo_long1 mo_letters mo_fields mo_now mo_many mo_stepKind mo_stepField mo_stepOperator mo_stepOther mo_stepMany mo_literalType mo_literalFrom mo_literalSize mo_bytes mo_said mo_number mo_pile mo_pilePlace mo_top mo_open = some (o_mo_at, o_mo_ill, o_mo_many, o_mo_stepKind, o_mo_stepField, o_mo_stepOperator, o_mo_stepOther, o_mo_stepMany, o_mo_literalType, o_mo_literalFrom, o_mo_literalSize, o_mo_bytes, o_mo_said, o_mo_number, o_mo_pile, o_mo_pilePlace, o_mo_top, o_mo_open)) : CV l yX6_readCondition (Cond.code yX6_readCondition cX6_readCondition 1 none) { frames := 8, cells := 0, slots := 0, locals := 186 } E [.ref (a_mo 0)] (w_mo E a_mo mo_code mo_tape mo_text mo_taped mo_size mo_at mo_ill mo_in mo_kind mo_type mo_long1 mo_letters mo_fields mo_kept mo_now mo_many mo_itemKind mo_itemField mo_itemPlace mo_by mo_stepKind mo_stepField mo_stepOperator mo_stepOther mo_stepMany mo_literalType mo_literalFrom mo_literalSize mo_bytes mo_said mo_number mo_pile mo_pilePlace mo_top mo_open) (w_mo E a_mo mo_code mo_tape mo_text mo_taped mo_size o_mo_at o_mo_ill mo_in mo_kind mo_type mo_long1 mo_letters mo_fields mo_kept mo_now o_mo_many mo_itemKind mo_itemField mo_itemPlace mo_by o_mo_stepKind o_mo_stepField o_mo_stepOperator o_mo_stepOther o_mo_stepMany o_mo_literalType o_mo_literalFrom o_mo_literalSize o_mo_bytes o_mo_said o_mo_number o_mo_pile o_mo_pilePlace o_mo_top o_mo_open) := by
  intro sz
  refine met_start [(0, .ref (a_mo 0))] (by decide) rfl rfl (Nat.le_of_ble_eq_true rfl) rfl ?_
  intro p e s m below meth c ls C hnm hmt hw hl
  have hx := C.1
  have hb := C.2.1
  generalize va_A (w_mo E a_mo mo_code mo_tape mo_text mo_taped mo_size mo_at mo_ill mo_in mo_kind mo_type mo_long1 mo_letters mo_fields mo_kept mo_now mo_many mo_itemKind mo_itemField mo_itemPlace mo_by mo_stepKind mo_stepField mo_stepOperator mo_stepOther mo_stepMany mo_literalType mo_literalFrom mo_literalSize mo_bytes mo_said mo_number mo_pile mo_pilePlace mo_top mo_open) sz = A at C hw ⊢
  unfold f_X6_readCondition at hf
  refine lv_aload_n hx hb dX6_readCondition_0 rfl (lv_at hl 0 rfl) ?_
  refine lv_iconst (v := 0) hx hb dX6_readCondition_1 (by decide) ?_
  refine fp_X6_207 C hw 0 rfl (Nat.le_of_ble_eq_true rfl) (ws' := w_mo E a_mo mo_code mo_tape mo_text mo_taped mo_size mo_at mo_ill mo_in mo_kind mo_type mo_long1 mo_letters mo_fields mo_kept mo_now mo_many mo_itemKind mo_itemField mo_itemPlace mo_by mo_stepKind mo_stepField mo_stepOperator mo_stepOther mo_stepMany mo_literalType mo_literalFrom mo_literalSize mo_bytes mo_said mo_number mo_pile mo_pilePlace (0 : Int32) mo_open) rfl dX6_readCondition_2 (fun H locs hw => ?_)
  refine lv_aload_n hx hb dX6_readCondition_5 rfl (lv_at hl 0 rfl) ?_
  refine lv_iconst (v := 0) hx hb dX6_readCondition_6 (by decide) ?_
  refine fp_X6_210 C hw 0 rfl (Nat.le_of_ble_eq_true rfl) (ws' := w_mo E a_mo mo_code mo_tape mo_text mo_taped mo_size mo_at mo_ill mo_in mo_kind mo_type mo_long1 mo_letters mo_fields mo_kept mo_now mo_many mo_itemKind mo_itemField mo_itemPlace mo_by mo_stepKind mo_stepField mo_stepOperator mo_stepOther mo_stepMany mo_literalType mo_literalFrom mo_literalSize mo_bytes mo_said mo_number mo_pile mo_pilePlace (0 : Int32) (0 : Int32)) rfl dX6_readCondition_7 (fun H locs hw => ?_)
  refine lv_aload_n hx hb dX6_readCondition_10 rfl (lv_at hl 0 rfl) ?_
  obtain ⟨x1, x2, x3, x4, x5, x6, x7, x8, x9, x10, x11, x12, x13, x14, x15, x16, x17, x18, z18, hf⟩ := ob18_el hf
  refine cV_V C hw (c_X6_readTest l E a_mo mo_code mo_tape mo_text mo_taped mo_size mo_at mo_ill mo_in mo_kind mo_type mo_long1 mo_letters mo_fields mo_kept mo_now mo_many mo_itemKind mo_itemField mo_itemPlace mo_by mo_stepKind mo_stepField mo_stepOperator mo_stepOther mo_stepMany mo_literalType mo_literalFrom mo_literalSize mo_bytes mo_said mo_number mo_pile mo_pilePlace (0 : Int32) (0 : Int32) x1 x2 x3 x4 x5 x6 x7 x8 x9 x10 x11 x12 x13 x14 x15 x16 x17 x18 z18) cs_X6_224 ⟨Nat.le_of_ble_eq_true rfl, Nat.le_of_ble_eq_true rfl⟩ ⟨rfl, rfl⟩ (ci := 6) (cn := (RX6, TX6, 35)) rfl (q0 := 0) rfl (wn := w_mo E a_mo mo_code mo_tape mo_text mo_taped mo_size x1 x2 mo_in mo_kind mo_type mo_long1 mo_letters mo_fields mo_kept mo_now x3 mo_itemKind mo_itemField mo_itemPlace mo_by x4 x5 x6 x7 x8 x9 x10 x11 x12 x13 x14 x15 x16 x17 x18) (Jn.all _ _) rfl hl.1 rfl (Nat.le_of_ble_eq_true rfl) dX6_readCondition_11 ⟨Nat.zero_le _, Nat.zero_le _⟩ (fun H locs hw => ?_)
  exact w_X6_readCondition_14 C FU hw (lv_sub hl [0] rfl) hf
