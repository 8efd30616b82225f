def f_X6_collects_21 : Nat → (Int32) → (Int32) → (Int32) → (Nat → Int32) → (Nat → Int32) → Option ((Int32))
  | 0, _, _, _, _, _ => none
  | n + 1, l1, l2, l3, mo_many, mo_itemKind =>
  rd mo_many 8 ((4 : Int32) * l1) (fun x1 =>
  if x1 ≤ l3 then (some l2)
  else (if l2 = (0 : Int32) then (rd mo_itemKind 32 (((16 : Int32) * l1) + l3) (fun x3 =>
  if x3 ≤ (0 : Int32) then (on (l3 + (1 : Int32)) (fun x4 =>
  f_X6_collects_21 n l1 (0 : Int32) x4 mo_many mo_itemKind))
  else (on (l3 + (1 : Int32)) (fun x5 =>
  f_X6_collects_21 n l1 (1 : Int32) x5 mo_many mo_itemKind))))
  else (on (l3 + (1 : Int32)) (fun x2 =>
  f_X6_collects_21 n l1 (1 : Int32) x2 mo_many mo_itemKind))))
set_option maxHeartbeats 4000000 in
set_option maxRecDepth 100000 in
theorem w_X6_collects_21 {p : Program} {l : Launch} {e : Env} {s : State} {m : MethodId} {args : Array Value} {below : List Frame} {meth : Method} {c : Code} {E : EnvT} {A : Nat → Prop} {a_mo : Nat → Nat} {Q : State → Prop} {mo_code : Int32} {mo_tape : Nat → Int32} {mo_text : Nat → Int32} {mo_taped : Int32} {mo_size : Int32} {mo_at : Int32} {mo_ill : Int32} {mo_in : Nat → Int32} {mo_kind : Nat → Int32} {mo_type : Nat → Int32} {mo_long1 : Nat → Int32} {mo_letters : Nat → Int32} {mo_fields : Int32} {mo_kept : Int32} {mo_now : Int32} {mo_itemField : Nat → Int32} {mo_itemPlace : Nat → Int32} {mo_by : Nat → Int32} {mo_stepKind : Nat → Int32} {mo_stepField : Nat → Int32} {mo_stepOperator : Nat → Int32} {mo_stepOther : Nat → Int32} {mo_stepMany : Nat → Int32} {mo_literalType : Nat → Int32} {mo_literalFrom : Nat → Int32} {mo_literalSize : Nat → Int32} {mo_bytes : Nat → Int32} {mo_said : Nat → Int32} {mo_number : Nat → Int64} {mo_pile : Nat → Int32} {mo_pilePlace : Nat → Int32} {mo_top : Int32} {mo_open : Int32} {q_l2 : Int32} (C : MC p s m args meth c E A cX6_collects 4 RX6 (some .boolean)) : ∀ (n : Nat) {l1 : Int32} {l2 : Int32} {l3 : Int32} {mo_many : Nat → Int32} {mo_itemKind : Nat → Int32} {H : Heap} {locs : List Loc} {ls : Array Slot}, WS E A s (w_mo E a_mo mo_code mo_tape mo_text mo_taped mo_size mo_at mo_ill mo_in mo_kind mo_type mo_long1 mo_letters mo_fields mo_kept mo_now mo_many mo_itemKind mo_itemField mo_itemPlace mo_by mo_stepKind mo_stepField mo_stepOperator mo_stepOther mo_stepMany mo_literalType mo_literalFrom mo_literalSize mo_bytes mo_said mo_number mo_pile mo_pilePlace mo_top mo_open) H locs → lv_has ls 4 [(0, .ref (a_mo 0)), (1, .int l1), (2, .int l2), (3, .int l3)] → f_X6_collects_21 n l1 l2 l3 mo_many mo_itemKind = some q_l2 → (∀ (H : Heap) (locs : List Loc) (ls : Array Slot), WS E A s (w_mo E a_mo mo_code mo_tape mo_text mo_taped mo_size mo_at mo_ill mo_in mo_kind mo_type mo_long1 mo_letters mo_fields mo_kept mo_now mo_many mo_itemKind mo_itemField mo_itemPlace mo_by mo_stepKind mo_stepField mo_stepOperator mo_stepOther mo_stepMany mo_literalType mo_literalFrom mo_literalSize mo_bytes mo_said mo_number mo_pile mo_pilePlace mo_top mo_open) H locs → lv_has ls 4 [(2, .int q_l2)] → W p l e { frames := 0, cells := 0, slots := 0, locals := 0 } s m args below meth c H locs 0 0 Q (F0 m 63 ls [])) → W p l e { frames := 0, cells := 0, slots := 0, locals := 0 } s m args below meth c H locs 0 0 Q (F0 m 21 ls []) := by
  have hx := C.1
  have hb := C.2.1
  intro n
  induction n with
  | zero =>
    intro l1 l2 l3 mo_many mo_itemKind H locs ls hw hl hf kk
    unfold f_X6_collects_21 at hf
    cases hf
  | succ n ih =>
    intro l1 l2 l3 mo_many mo_itemKind H locs ls hw hl hf kk
    unfold f_X6_collects_21 at hf
    refine lv_iload_n hx hb dX6_collects_21 rfl (lv_at hl 3 rfl) ?_
    refine lv_aload_n hx hb dX6_collects_22 rfl (lv_at hl 0 rfl) ?_
    refine fg_X6_35 C hw 0 rfl rfl dX6_collects_23 ?_
    refine lv_iconst (v := 4) hx hb dX6_collects_26 (by decide) ?_
    refine lv_iload_n hx hb dX6_collects_27 rfl (lv_at hl 1 rfl) ?_
    refine lv_imul hx hb dX6_collects_28 ?_
    obtain ⟨x1, ex1, gx1, hf⟩ := rd_el hf
    refine ra_i C hw 8 rfl gx1 dX6_collects_29 ?_
    refine tp_i ex1 ?_
    refine lv_icmp_ge (tgt := 63) hx hb dX6_collects_30 (by decide) (fun c30 => ?_) (fun c30 => ?_)
    · replace hf := it_t c30 hf
      cases hf
      exact kk _ _ _ hw (lv_sub hl [2] rfl)
    · replace hf := it_f c30 hf
      refine lv_iload_n hx hb dX6_collects_33 rfl (lv_at hl 2 rfl) ?_
      refine lv_if_ne (tgt := 51) hx hb dX6_collects_34 (by decide) (fun c34 => ?_) (fun c34 => ?_)
      · replace hf := it_f c34 hf
        refine lv_iconst (v := 1) hx hb dX6_collects_51 (by decide) ?_
        refine lv_goto (tgt := 56) hx hb dX6_collects_52 (by decide) ?_
        refine lv_istore_n (lv' := [(2, .int (1 : Int32)), (0, .ref (a_mo 0)), (1, .int l1), (3, .int l3)]) hx hb dX6_collects_56 rfl hl (by decide) rfl (fun ls hl => ?_)
        obtain ⟨x2, ex2, hf⟩ := on_el hf
        refine lv_iinc (v := x2) (lv' := [(3, .int x2), (2, .int (1 : Int32)), (0, .ref (a_mo 0)), (1, .int l1)]) hx hb dX6_collects_57 hl (k := 3) rfl (by rw [← ex2]; rfl) (by decide) rfl (fun ls hl => ?_)
        refine lv_goto (tgt := 21) hx hb dX6_collects_60 (by decide) ?_
        exact ih hw (lv_sub hl [2, 3, 1, 0] rfl) hf kk
      · replace hf := it_t c34 hf
        refine lv_aload_n hx hb dX6_collects_37 rfl (lv_at hl 0 rfl) ?_
        refine fg_X6_38 C hw 0 rfl rfl dX6_collects_38 ?_
        refine lv_bipush (v := 16) hx hb dX6_collects_41 (by decide) ?_
        refine lv_iload_n hx hb dX6_collects_43 rfl (lv_at hl 1 rfl) ?_
        refine lv_imul hx hb dX6_collects_44 ?_
        refine lv_iload_n hx hb dX6_collects_45 rfl (lv_at hl 3 rfl) ?_
        refine lv_iadd hx hb dX6_collects_46 ?_
        obtain ⟨x3, ex3, gx3, hf⟩ := rd_el hf
        refine ra_i C hw 9 rfl gx3 dX6_collects_47 ?_
        refine tp_i ex3 ?_
        refine lv_if_le (tgt := 55) hx hb dX6_collects_48 (by decide) (fun c48 => ?_) (fun c48 => ?_)
        · replace hf := it_t c48 hf
          refine lv_iconst (v := 0) hx hb dX6_collects_55 (by decide) ?_
          refine lv_istore_n (lv' := [(2, .int (0 : Int32)), (0, .ref (a_mo 0)), (1, .int l1), (3, .int l3)]) hx hb dX6_collects_56 rfl hl (by decide) rfl (fun ls hl => ?_)
          obtain ⟨x4, ex4, hf⟩ := on_el hf
          refine lv_iinc (v := x4) (lv' := [(3, .int x4), (2, .int (0 : Int32)), (0, .ref (a_mo 0)), (1, .int l1)]) hx hb dX6_collects_57 hl (k := 3) rfl (by rw [← ex4]; rfl) (by decide) rfl (fun ls hl => ?_)
          refine lv_goto (tgt := 21) hx hb dX6_collects_60 (by decide) ?_
          exact ih hw (lv_sub hl [2, 3, 1, 0] rfl) hf kk
        · replace hf := it_f c48 hf
          refine lv_iconst (v := 1) hx hb dX6_collects_51 (by decide) ?_
          refine lv_goto (tgt := 56) hx hb dX6_collects_52 (by decide) ?_
          refine lv_istore_n (lv' := [(2, .int (1 : Int32)), (0, .ref (a_mo 0)), (1, .int l1), (3, .int l3)]) hx hb dX6_collects_56 rfl hl (by decide) rfl (fun ls hl => ?_)
          obtain ⟨x5, ex5, hf⟩ := on_el hf
          refine lv_iinc (v := x5) (lv' := [(3, .int x5), (2, .int (1 : Int32)), (0, .ref (a_mo 0)), (1, .int l1)]) hx hb dX6_collects_57 hl (k := 3) rfl (by rw [← ex5]; rfl) (by decide) rfl (fun ls hl => ?_)
          refine lv_goto (tgt := 21) hx hb dX6_collects_60 (by decide) ?_
          exact ih hw (lv_sub hl [2, 3, 1, 0] rfl) hf kk
def f_X6_collects_18 (l1 : Int32) (s0 : Int32) (mo_many : Nat → Int32) (mo_itemKind : Nat → Int32) : Option ((Int32)) :=
  ob1 (f_X6_collects_21 FU l1 s0 (0 : Int32) mo_many mo_itemKind) (fun x1 =>
  gz x1 (some x1))
set_option maxHeartbeats 4000000 in
set_option maxRecDepth 100000 in
theorem w_X6_collects_18 {p : Program} {l : Launch} {e : Env} {s : State} {m : MethodId} {args : Array Value} {below : List Frame} {meth : Method} {c : Code} {E : EnvT} {A : Nat → Prop} {a_mo : Nat → Nat} {mo_code : Int32} {mo_tape : Nat → Int32} {mo_text : Nat → Int32} {mo_taped : Int32} {mo_size : Int32} {mo_at : Int32} {mo_ill : Int32} {mo_in : Nat → Int32} {mo_kind : Nat → Int32} {mo_type : Nat → Int32} {mo_long1 : Nat → Int32} {mo_letters : Nat → Int32} {mo_fields : Int32} {mo_kept : Int32} {mo_now : Int32} {mo_itemField : Nat → Int32} {mo_itemPlace : Nat → Int32} {mo_by : Nat → Int32} {mo_stepKind : Nat → Int32} {mo_stepField : Nat → Int32} {mo_stepOperator : Nat → Int32} {mo_stepOther : Nat → Int32} {mo_stepMany : Nat → Int32} {mo_literalType : Nat → Int32} {mo_literalFrom : Nat → Int32} {mo_literalSize : Nat → Int32} {mo_bytes : Nat → Int32} {mo_said : Nat → Int32} {mo_number : Nat → Int64} {mo_pile : Nat → Int32} {mo_pilePlace : Nat → Int32} {mo_top : Int32} {mo_open : Int32} {r : Int32} {l1 : Int32} {s0 : Int32} {mo_many : Nat → Int32} {mo_itemKind : Nat → Int32} {H : Heap} {locs : List Loc} {ls : Array Slot} (C : MC p s m args meth c E A cX6_collects 4 RX6 (some .boolean)) (hw : WS E A s (w_mo E a_mo mo_code mo_tape mo_text mo_taped mo_size mo_at mo_ill mo_in mo_kind mo_type mo_long1 mo_letters mo_fields mo_kept mo_now mo_many mo_itemKind mo_itemField mo_itemPlace mo_by mo_stepKind mo_stepField mo_stepOperator mo_stepOther mo_stepMany mo_literalType mo_literalFrom mo_literalSize mo_bytes mo_said mo_number mo_pile mo_pilePlace mo_top mo_open) H locs) (hl : lv_has ls 4 [(0, .ref (a_mo 0)), (1, .int l1)]) (hf : f_X6_collects_18 l1 s0 mo_many mo_itemKind = some r) : W p l e { frames := 0, cells := 0, slots := 0, locals := 0 } s m args below meth c H locs 0 0 (MQ below (QcI E A (w_mo E a_mo mo_code mo_tape mo_text mo_taped mo_size mo_at mo_ill mo_in mo_kind mo_type mo_long1 mo_letters mo_fields mo_kept mo_now mo_many mo_itemKind mo_itemField mo_itemPlace mo_by mo_stepKind mo_stepField mo_stepOperator mo_stepOther mo_stepMany mo_literalType mo_literalFrom mo_literalSize mo_bytes mo_said mo_number mo_pile mo_pilePlace mo_top mo_open) r) args s 0 0 A) (F0 m 18 ls [.int s0]) := by
  have hx := C.1
  have hb := C.2.1
  unfold f_X6_collects_18 at hf
  refine lv_istore_n (lv' := [(2, .int s0), (0, .ref (a_mo 0)), (1, .int l1)]) hx hb dX6_collects_18 rfl hl (by decide) rfl (fun ls hl => ?_)
  refine lv_iconst (v := 0) hx hb dX6_collects_19 (by decide) ?_
  refine lv_istore_n (lv' := [(3, .int (0 : Int32)), (2, .int s0), (0, .ref (a_mo 0)), (1, .int l1)]) hx hb dX6_collects_20 rfl hl (by decide) rfl (fun ls hl => ?_)
  obtain ⟨x1, hx1, hf⟩ := ob1_el hf
  refine w_X6_collects_21 C FU hw (lv_sub hl [2, 3, 1, 0] rfl) hx1 ?_
  clear hw hl
  intro H locs ls hw hl
  refine lv_iload_n hx hb dX6_collects_63 rfl (lv_at hl 0 rfl) ?_
  obtain ⟨hz, hf⟩ := gz_el hf
  cases hf
  exact rt_z C hw hz dX6_collects_64
def f_X6_collects (p1 : Int32) (mo_many : Nat → Int32) (mo_itemKind : Nat → Int32) : Option ((Int32)) :=
  rd mo_many 8 (((4 : Int32) * p1) + (1 : Int32)) (fun x1 =>
  if x1 ≤ (0 : Int32) then (f_X6_collects_18 p1 (0 : Int32) mo_many mo_itemKind)
  else (f_X6_collects_18 p1 (1 : Int32) mo_many mo_itemKind))
set_option maxHeartbeats 4000000 in
set_option maxRecDepth 100000 in
theorem c_X6_collects (l : Launch) (E : EnvT) (a_mo : Nat → Nat) (mo_code : Int32) (mo_tape : Nat → Int32) (mo_text : Nat → Int32) (mo_taped : Int32) (mo_size : Int32) (mo_at : Int32) (mo_ill : Int32) (mo_in : Nat → Int32) (mo_kind : Nat → Int32) (mo_type : Nat → Int32) (mo_long1 : Nat → Int32) (mo_letters : Nat → Int32) (mo_fields : Int32) (mo_kept : Int32) (mo_now : Int32) (mo_many : Nat → Int32) (mo_itemKind : Nat → Int32) (mo_itemField : Nat → Int32) (mo_itemPlace : Nat → Int32) (mo_by : Nat → Int32) (mo_stepKind : Nat → Int32) (mo_stepField : Nat → Int32) (mo_stepOperator : Nat → Int32) (mo_stepOther : Nat → Int32) (mo_stepMany : Nat → Int32) (mo_literalType : Nat → Int32) (mo_literalFrom : Nat → Int32) (mo_literalSize : Nat → Int32) (mo_bytes : Nat → Int32) (mo_said : Nat → Int32) (mo_number : Nat → Int64) (mo_pile : Nat → Int32) (mo_pilePlace : Nat → Int32) (mo_top : Int32) (mo_open : Int32) (p1 : Int32) (r : Int32) (hf : f_X6_collects p1 mo_many mo_itemKind = some r) : CI l yX6_collects (Cond.code yX6_collects cX6_collects 4 (some .boolean)) { frames := 0, cells := 0, slots := 0, locals := 0 } E [.ref (a_mo 0), .int p1] (w_mo E a_mo mo_code mo_tape mo_text mo_taped mo_size mo_at mo_ill mo_in mo_kind mo_type mo_long1 mo_letters mo_fields mo_kept mo_now mo_many mo_itemKind mo_itemField mo_itemPlace mo_by mo_stepKind mo_stepField mo_stepOperator mo_stepOther mo_stepMany mo_literalType mo_literalFrom mo_literalSize mo_bytes mo_said mo_number mo_pile mo_pilePlace mo_top mo_open) r (w_mo E a_mo mo_code mo_tape mo_text mo_taped mo_size mo_at mo_ill mo_in mo_kind mo_type mo_long1 mo_letters mo_fields mo_kept mo_now mo_many mo_itemKind mo_itemField mo_itemPlace mo_by mo_stepKind mo_stepField mo_stepOperator mo_stepOther mo_stepMany mo_literalType mo_literalFrom mo_literalSize mo_bytes mo_said mo_number mo_pile mo_pilePlace mo_top mo_open) := by
  intro sz
  refine met_start [(0, .ref (a_mo 0)), (1, .int p1)] (by decide) rfl rfl (Nat.le_of_ble_eq_true rfl) rfl ?_
  intro p e s m below meth c ls C hnm hmt hw hl
  have hx := C.1
  have hb := C.2.1
  generalize va_A (w_mo E a_mo mo_code mo_tape mo_text mo_taped mo_size mo_at mo_ill mo_in mo_kind mo_type mo_long1 mo_letters mo_fields mo_kept mo_now mo_many mo_itemKind mo_itemField mo_itemPlace mo_by mo_stepKind mo_stepField mo_stepOperator mo_stepOther mo_stepMany mo_literalType mo_literalFrom mo_literalSize mo_bytes mo_said mo_number mo_pile mo_pilePlace mo_top mo_open) sz = A at C hw ⊢
  unfold f_X6_collects at hf
  refine lv_aload_n hx hb dX6_collects_0 rfl (lv_at hl 0 rfl) ?_
  refine fg_X6_35 C hw 0 rfl rfl dX6_collects_1 ?_
  refine lv_iconst (v := 4) hx hb dX6_collects_4 (by decide) ?_
  refine lv_iload_n hx hb dX6_collects_5 rfl (lv_at hl 1 rfl) ?_
  refine lv_imul hx hb dX6_collects_6 ?_
  refine lv_iconst (v := 1) hx hb dX6_collects_7 (by decide) ?_
  refine lv_iadd hx hb dX6_collects_8 ?_
  obtain ⟨x1, ex1, gx1, hf⟩ := rd_el hf
  refine ra_i C hw 8 rfl gx1 dX6_collects_9 ?_
  refine tp_i ex1 ?_
  refine lv_if_le (tgt := 17) hx hb dX6_collects_10 (by decide) (fun c10 => ?_) (fun c10 => ?_)
  · replace hf := it_t c10 hf
    refine lv_iconst (v := 0) hx hb dX6_collects_17 (by decide) ?_
    exact w_X6_collects_18 C hw (lv_sub hl [0, 1] rfl) hf
  · replace hf := it_f c10 hf
    refine lv_iconst (v := 1) hx hb dX6_collects_13 (by decide) ?_
    refine lv_goto (tgt := 18) hx hb dX6_collects_14 (by decide) ?_
    exact w_X6_collects_18 C hw (lv_sub hl [0, 1] rfl) hf
def f_X6_query_34 : Nat → (Int32) → (Int32) → (Nat → Int32) → Option ((Nat → Int32))
  | 0, _, _, _ => none
  | n + 1, l2, mo_now, mo_many =>
  if (4 : Int32) ≤ l2 then (some mo_many)
  else (wr mo_many 8 (((4 : Int32) * mo_now) + l2) (0 : Int32) (fun x1 =>
  on (l2 + (1 : Int32)) (fun x2 =>
  f_X6_query_34 n x2 mo_now x1)))
set_option maxHeartbeats 4000000 in
set_option maxRecDepth 100000 in
theorem w_X6_query_34 {p : Program} {l : Launch} {e : Env} {s : State} {m : MethodId} {args : Array Value} {below : List Frame} {meth : Method} {c : Code} {E : EnvT} {A : Nat → Prop} {a_mo : Nat → Nat} {Q : State → Prop} {mo_code : Int32} {mo_tape : Nat → Int32} {mo_text : Nat → Int32} {mo_taped : Int32} {mo_size : Int32} {mo_at : Int32} {mo_ill : Int32} {mo_in : Nat → Int32} {mo_kind : Nat → Int32} {mo_type : Nat → Int32} {mo_long1 : Nat → Int32} {mo_letters : Nat → Int32} {mo_fields : Int32} {mo_kept : Int32} {mo_itemKind : Nat → Int32} {mo_itemField : Nat → Int32} {mo_itemPlace : Nat → Int32} {mo_by : Nat → Int32} {mo_stepKind : Nat → Int32} {mo_stepField : Nat → Int32} {mo_stepOperator : Nat → Int32} {mo_stepOther : Nat → Int32} {mo_stepMany : Nat → Int32} {mo_literalType : Nat → Int32} {mo_literalFrom : Nat → Int32} {mo_literalSize : Nat → Int32} {mo_bytes : Nat → Int32} {mo_said : Nat → Int32} {mo_number : Nat → Int64} {mo_pile : Nat → Int32} {mo_pilePlace : Nat → Int32} {mo_top : Int32} {mo_open : Int32} {q_mo_many : Nat → Int32} (C : MC p s m args meth c E A cX6_query 4 RX6 (some .int)) : ∀ (n : Nat) {l2 : Int32} {mo_now : Int32} {mo_many : Nat → Int32} {H : Heap} {locs : List Loc} {ls : Array Slot}, WS E A s (w_mo E a_mo mo_code mo_tape mo_text mo_taped mo_size mo_at mo_ill mo_in mo_kind mo_type mo_long1 mo_letters mo_fields mo_kept mo_now mo_many mo_itemKind mo_itemField mo_itemPlace mo_by mo_stepKind mo_stepField mo_stepOperator mo_stepOther mo_stepMany mo_literalType mo_literalFrom mo_literalSize mo_bytes mo_said mo_number mo_pile mo_pilePlace mo_top mo_open) H locs → lv_has ls 4 [(0, .ref (a_mo 0)), (2, .int l2)] → f_X6_query_34 n l2 mo_now mo_many = some q_mo_many → (∀ (H : Heap) (locs : List Loc) (ls : Array Slot), WS E A s (w_mo E a_mo mo_code mo_tape mo_text mo_taped mo_size mo_at mo_ill mo_in mo_kind mo_type mo_long1 mo_letters mo_fields mo_kept mo_now q_mo_many mo_itemKind mo_itemField mo_itemPlace mo_by mo_stepKind mo_stepField mo_stepOperator mo_stepOther mo_stepMany mo_literalType mo_literalFrom mo_literalSize mo_bytes mo_said mo_number mo_pile mo_pilePlace mo_top mo_open) H locs → lv_has ls 4 [(0, .ref (a_mo 0))] → W p l e { frames := 9, cells := 0, slots := 0, locals := 206 } s m args below meth c H locs 0 0 Q (F0 m 59 ls [])) → W p l e { frames := 9, cells := 0, slots := 0, locals := 206 } s m args below meth c H locs 0 0 Q (F0 m 34 ls []) := by
  have hx := C.1
  have hb := C.2.1
  intro n
  induction n with
  | zero =>
    intro l2 mo_now mo_many H locs ls hw hl hf kk
    unfold f_X6_query_34 at hf
    cases hf
  | succ n ih =>
    intro l2 mo_now mo_many H locs ls hw hl hf kk
    unfold f_X6_query_34 at hf
    refine lv_iload_n hx hb dX6_query_34 rfl (lv_at hl 1 rfl) ?_
    refine lv_iconst (v := 4) hx hb dX6_query_35 (by decide) ?_
    refine lv_icmp_ge (tgt := 59) hx hb dX6_query_36 (by decide) (fun c36 => ?_) (fun c36 => ?_)
    · replace hf := it_t c36 hf
      cases hf
      exact kk _ _ _ hw (lv_sub hl [0] rfl)
    · replace hf := it_f c36 hf
      refine lv_aload_n hx hb dX6_query_39 rfl (lv_at hl 0 rfl) ?_
      refine fg_X6_35 C hw 0 rfl rfl dX6_query_40 ?_
      refine lv_iconst (v := 4) hx hb dX6_query_43 (by decide) ?_
      refine lv_aload_n hx hb dX6_query_44 rfl (lv_at hl 0 rfl) ?_
      refine fg_X6_189 C hw 0 rfl rfl dX6_query_45 ?_
      refine lv_imul hx hb dX6_query_48 ?_
      refine lv_iload_n hx hb dX6_query_49 rfl (lv_at hl 1 rfl) ?_
      refine lv_iadd hx hb dX6_query_50 ?_
      refine lv_iconst (v := 0) hx hb dX6_query_51 (by decide) ?_
      obtain ⟨x1, ex1, gx1, hf⟩ := wr_el hf
      refine rs_i C hw 8 rfl gx1 (ws' := w_mo E a_mo mo_code mo_tape mo_text mo_taped mo_size mo_at mo_ill mo_in mo_kind mo_type mo_long1 mo_letters mo_fields mo_kept mo_now x1 mo_itemKind mo_itemField mo_itemPlace mo_by mo_stepKind mo_stepField mo_stepOperator mo_stepOther mo_stepMany mo_literalType mo_literalFrom mo_literalSize mo_bytes mo_said mo_number mo_pile mo_pilePlace mo_top mo_open) (by subst ex1; rfl) dX6_query_52 (fun H locs hw => ?_)
      obtain ⟨x2, ex2, hf⟩ := on_el hf
      refine lv_iinc (v := x2) (lv' := [(2, .int x2), (0, .ref (a_mo 0))]) hx hb dX6_query_53 hl (k := 1) rfl (by rw [← ex2]; rfl) (by decide) rfl (fun ls hl => ?_)
      refine lv_goto (tgt := 34) hx hb dX6_query_56 (by decide) ?_
      exact ih hw (lv_sub hl [1, 0] rfl) hf kk
def f_X6_query_99 : Nat → (Nat → Int32) → (Int32) → (Int32) → (Int32) → (Nat → Int32) → (Nat → Int32) → (Nat → Int32) → (Nat → Int32) → (Nat → Int32) → (Int32) → (Int32) → (Nat → Int32) → (Nat → Int32) → (Nat → Int32) → (Nat → Int32) → Option ((Int32) × (Int32) × (Nat → Int32) × (Nat → Int32) × (Nat → Int32) × (Nat → Int32))
  | 0, _, _, _, _, _, _, _, _, _, _, _, _, _, _, _ => none
  | n + 1, mo_text, mo_size, mo_at, mo_ill, mo_in, mo_kind, mo_type, mo_long1, mo_letters, mo_fields, mo_now, mo_many, mo_itemKind, mo_itemField, mo_itemPlace =>
  ob2 (f_X6_takesSign (44 : Int32) mo_text mo_size mo_at mo_ill) (fun x1 x2 =>
  if x1 = (0 : Int32) then (some (x2, mo_ill, mo_many, mo_itemKind, mo_itemField, mo_itemPlace))
  else (ob6 (f_X6_readItem mo_text mo_size x2 mo_ill mo_in mo_kind mo_type mo_long1 mo_letters mo_fields mo_now mo_many mo_itemKind mo_itemField mo_itemPlace) (fun x3 x4 x5 x6 x7 x8 =>
  f_X6_query_99 n mo_text mo_size x3 x4 mo_in mo_kind mo_type mo_long1 mo_letters mo_fields mo_now x5 x6 x7 x8)))
set_option maxHeartbeats 4000000 in
set_option maxRecDepth 100000 in
theorem w_X6_query_99 {p : Program} {l : Launch} {e : Env} {s : State} {m : MethodId} {args : Array Value} {below : List Frame} {meth : Method} {c : Code} {E : EnvT} {A : Nat → Prop} {a_mo : Nat → Nat} {Q : State → Prop} {mo_code : Int32} {mo_tape : Nat → Int32} {mo_taped : Int32} {mo_kept : Int32} {mo_by : Nat → Int32} {mo_stepKind : Nat → Int32} {mo_stepField : Nat → Int32} {mo_stepOperator : Nat → Int32} {mo_stepOther : Nat → Int32} {mo_stepMany : Nat → Int32} {mo_literalType : Nat → Int32} {mo_literalFrom : Nat → Int32} {mo_literalSize : Nat → Int32} {mo_bytes : Nat → Int32} {mo_said : Nat → Int32} {mo_number : Nat → Int64} {mo_pile : Nat → Int32} {mo_pilePlace : Nat → Int32} {mo_top : Int32} {mo_open : Int32} {q_mo_at : Int32} {q_mo_ill : Int32} {q_mo_many : Nat → Int32} {q_mo_itemKind : Nat → Int32} {q_mo_itemField : Nat → Int32} {q_mo_itemPlace : Nat → Int32} (C : MC p s m args meth c E A cX6_query 4 RX6 (some .int)) : ∀ (n : Nat) {mo_text : Nat → Int32} {mo_size : Int32} {mo_at : Int32} {mo_ill : Int32} {mo_in : Nat → Int32} {mo_kind : Nat → Int32} {mo_type : Nat → Int32} {mo_long1 : Nat → Int32} {mo_letters : Nat → Int32} {mo_fields : Int32} {mo_now : Int32} {mo_many : Nat → Int32} {mo_itemKind : Nat → Int32} {mo_itemField : Nat → Int32} {mo_itemPlace : Nat → Int32} {H : Heap} {locs : List Loc} {ls : Array Slot}, WS E A s (w_mo E a_mo mo_code mo_tape mo_text mo_taped mo_size mo_at mo_ill mo_in mo_kind mo_type mo_long1 mo_letters mo_fields mo_kept mo_now mo_many mo_itemKind mo_itemField mo_itemPlace mo_by mo_stepKind mo_stepField mo_stepOperator mo_stepOther mo_stepMany mo_literalType mo_literalFrom mo_literalSize mo_bytes mo_said mo_number mo_pile mo_pilePlace mo_top mo_open) H locs → lv_has ls 4 [(0, .ref (a_mo 0))] → f_X6_query_99 n mo_text mo_size mo_at mo_ill mo_in mo_kind mo_type mo_long1 mo_letters mo_fields mo_now mo_many mo_itemKind mo_itemField mo_itemPlace = some (q_mo_at, q_mo_ill, q_mo_many, q_mo_itemKind, q_mo_itemField, q_mo_itemPlace) → (∀ (H : Heap) (locs : List Loc) (ls : Array Slot), WS E A s (w_mo E a_mo mo_code mo_tape mo_text mo_taped mo_size q_mo_at q_mo_ill mo_in mo_kind mo_type mo_long1 mo_letters mo_fields mo_kept mo_now q_mo_many q_mo_itemKind q_mo_itemField q_mo_itemPlace mo_by mo_stepKind mo_stepField mo_stepOperator mo_stepOther mo_stepMany mo_literalType mo_literalFrom mo_literalSize mo_bytes mo_said mo_number mo_pile mo_pilePlace mo_top mo_open) H locs → lv_has ls 4 [(0, .ref (a_mo 0))] → W p l e { frames := 9, cells := 0, slots := 0, locals := 206 } s m args below meth c H locs 0 0 Q (F0 m 115 ls [])) → W p l e { frames := 9, cells := 0, slots := 0, locals := 206 } s m args below meth c H locs 0 0 Q (F0 m 99 ls []) := by
  have hx := C.1
  have hb := C.2.1
  intro n
  induction n with
  | zero =>
    intro mo_text mo_size mo_at mo_ill mo_in mo_kind mo_type mo_long1 mo_letters mo_fields mo_now mo_many mo_itemKind mo_itemField mo_itemPlace H locs ls hw hl hf kk
    unfold f_X6_query_99 at hf
    cases hf
  | succ n ih =>
    intro mo_text mo_size mo_at mo_ill mo_in mo_kind mo_type mo_long1 mo_letters mo_fields mo_now mo_many mo_itemKind mo_itemField mo_itemPlace H locs ls hw hl hf kk
    unfold f_X6_query_99 at hf
    refine lv_aload_n hx hb dX6_query_99 rfl (lv_at hl 0 rfl) ?_
    refine lv_bipush (v := 44) hx hb dX6_query_100 (by decide) ?_
    obtain ⟨x1, x2, z2, hf⟩ := ob2_el hf
    refine cI_V C hw (c_X6_takesSign l E a_mo mo_code mo_tape mo_text mo_taped mo_size mo_at mo_ill mo_in mo_kind mo_type mo_long1 mo_letters mo_fields mo_kept mo_now mo_many mo_itemKind mo_itemField mo_itemPlace mo_by mo_stepKind mo_stepField mo_stepOperator mo_stepOther mo_stepMany mo_literalType mo_literalFrom mo_literalSize mo_bytes mo_said mo_number mo_pile mo_pilePlace mo_top mo_open (44 : Int32) x1 x2 z2) cs_X6_141 ⟨Nat.le_of_ble_eq_true rfl, Nat.le_of_ble_eq_true rfl⟩ ⟨rfl, rfl⟩ (ci := 6) (cn := (RX6, TX6, 35)) rfl (q0 := 0) rfl (wn := w_mo E a_mo mo_code mo_tape mo_text mo_taped mo_size x2 mo_ill mo_in mo_kind mo_type mo_long1 mo_letters mo_fields mo_kept mo_now mo_many mo_itemKind mo_itemField mo_itemPlace mo_by mo_stepKind mo_stepField mo_stepOperator mo_stepOther mo_stepMany mo_literalType mo_literalFrom mo_literalSize mo_bytes mo_said mo_number mo_pile mo_pilePlace mo_top mo_open) (Jn.all _ _) rfl hl.1 rfl (Nat.le_of_ble_eq_true rfl) dX6_query_102 ⟨Nat.zero_le _, Nat.zero_le _⟩ (fun H locs hw => ?_)
    refine lv_if_eq (tgt := 115) hx hb dX6_query_105 (by decide) (fun c105 => ?_) (fun c105 => ?_)
    · replace hf := it_t c105 hf
      cases hf
      exact kk _ _ _ hw (lv_sub hl [0] rfl)
    · replace hf := it_f c105 hf
      refine lv_aload_n hx hb dX6_query_108 rfl (lv_at hl 0 rfl) ?_
      obtain ⟨x3, x4, x5, x6, x7, x8, z8, hf⟩ := ob6_el hf
      refine cV_V C hw (c_X6_readItem l E a_mo mo_code mo_tape mo_text mo_taped mo_size x2 mo_ill mo_in mo_kind mo_type mo_long1 mo_letters mo_fields mo_kept mo_now mo_many mo_itemKind mo_itemField mo_itemPlace mo_by mo_stepKind mo_stepField mo_stepOperator mo_stepOther mo_stepMany mo_literalType mo_literalFrom mo_literalSize mo_bytes mo_said mo_number mo_pile mo_pilePlace mo_top mo_open x3 x4 x5 x6 x7 x8 z8) cs_X6_253 ⟨Nat.le_of_ble_eq_true rfl, Nat.le_of_ble_eq_true rfl⟩ ⟨rfl, rfl⟩ (ci := 6) (cn := (RX6, TX6, 35)) rfl (q0 := 0) rfl (wn := w_mo E a_mo mo_code mo_tape mo_text mo_taped mo_size x3 x4 mo_in mo_kind mo_type mo_long1 mo_letters mo_fields mo_kept mo_now x5 x6 x7 x8 mo_by mo_stepKind mo_stepField mo_stepOperator mo_stepOther mo_stepMany mo_literalType mo_literalFrom mo_literalSize mo_bytes mo_said mo_number mo_pile mo_pilePlace mo_top mo_open) (Jn.all _ _) rfl hl.1 rfl (Nat.le_of_ble_eq_true rfl) dX6_query_109 ⟨Nat.zero_le _, Nat.zero_le _⟩ (fun H locs hw => ?_)
      refine lv_goto (tgt := 99) hx hb dX6_query_112 (by decide) ?_
      exact ih hw (lv_sub hl [0] rfl) hf kk
def f_X6_query_243 : Nat → (Int32) → (Int32) → (Int32) → (Int32) → (Nat → Int32) → (Nat → Int32) → (Nat → Int32) → (Nat → Int32) → (Nat → Int32) → Option ((Int32))
  | 0, _, _, _, _, _, _, _, _, _ => none
  | n + 1, l2, l3, mo_ill, mo_now, mo_many, mo_itemKind, mo_itemField, mo_itemPlace, mo_by =>
  rd mo_many 8 ((4 : Int32) * mo_now) (fun x1 =>
  if x1 ≤ l3 then (some mo_ill)
  else (if l2 = (0 : Int32) then (some mo_ill)
  else (rd mo_itemKind 32 (((16 : Int32) * mo_now) + l3) (fun x2 =>
  if x2 = (0 : Int32) then (rd mo_itemField 32 (((16 : Int32) * mo_now) + l3) (fun x4 =>
  ob1 (f_X6_isBy x4 mo_now mo_many mo_by) (fun x5 =>
  if x5 = (0 : Int32) then (rd mo_itemPlace 32 (((16 : Int32) * mo_now) + l3) (fun x7 =>
  ob1 (f_X6_fail x7 mo_ill) (fun x8 =>
  on (l3 + (1 : Int32)) (fun x9 =>
  f_X6_query_243 n l2 x9 x8 mo_now mo_many mo_itemKind mo_itemField mo_itemPlace mo_by))))
  else (on (l3 + (1 : Int32)) (fun x6 =>
  f_X6_query_243 n l2 x6 mo_ill mo_now mo_many mo_itemKind mo_itemField mo_itemPlace mo_by)))))
  else (on (l3 + (1 : Int32)) (fun x3 =>
  f_X6_query_243 n l2 x3 mo_ill mo_now mo_many mo_itemKind mo_itemField mo_itemPlace mo_by))))))
set_option maxHeartbeats 4000000 in
set_option maxRecDepth 100000 in
theorem w_X6_query_243 {p : Program} {l : Launch} {e : Env} {s : State} {m : MethodId} {args : Array Value} {below : List Frame} {meth : Method} {c : Code} {E : EnvT} {A : Nat → Prop} {a_mo : Nat → Nat} {Q : State → Prop} {mo_code : Int32} {mo_tape : Nat → Int32} {mo_text : Nat → Int32} {mo_taped : Int32} {mo_size : Int32} {mo_at : Int32} {mo_in : Nat → Int32} {mo_kind : Nat → Int32} {mo_type : Nat → Int32} {mo_long1 : Nat → Int32} {mo_letters : Nat → Int32} {mo_fields : Int32} {mo_kept : Int32} {mo_stepKind : Nat → Int32} {mo_stepField : Nat → Int32} {mo_stepOperator : Nat → Int32} {mo_stepOther : Nat → Int32} {mo_stepMany : Nat → Int32} {mo_literalType : Nat → Int32} {mo_literalFrom : Nat → Int32} {mo_literalSize : Nat → Int32} {mo_bytes : Nat → Int32} {mo_said : Nat → Int32} {mo_number : Nat → Int64} {mo_pile : Nat → Int32} {mo_pilePlace : Nat → Int32} {mo_top : Int32} {mo_open : Int32} {q_mo_ill : Int32} (C : MC p s m args meth c E A cX6_query 4 RX6 (some .int)) : ∀ (n : Nat) {l2 : Int32} {l3 : Int32} {mo_ill : Int32} {mo_now : Int32} {mo_many : Nat → Int32} {mo_itemKind : Nat → Int32} {mo_itemField : Nat → Int32} {mo_itemPlace : Nat → Int32} {mo_by : Nat → Int32} {H : Heap} {locs : List Loc} {ls : Array Slot}, WS E A s (w_mo E a_mo mo_code mo_tape mo_text mo_taped mo_size mo_at mo_ill mo_in mo_kind mo_type mo_long1 mo_letters mo_fields mo_kept mo_now mo_many mo_itemKind mo_itemField mo_itemPlace mo_by mo_stepKind mo_stepField mo_stepOperator mo_stepOther mo_stepMany mo_literalType mo_literalFrom mo_literalSize mo_bytes mo_said mo_number mo_pile mo_pilePlace mo_top mo_open) H locs → lv_has ls 4 [(0, .ref (a_mo 0)), (2, .int l2), (3, .int l3)] → f_X6_query_243 n l2 l3 mo_ill mo_now mo_many mo_itemKind mo_itemField mo_itemPlace mo_by = some q_mo_ill → (∀ (H : Heap) (locs : List Loc) (ls : Array Slot), WS E A s (w_mo E a_mo mo_code mo_tape mo_text mo_taped mo_size mo_at q_mo_ill mo_in mo_kind mo_type mo_long1 mo_letters mo_fields mo_kept mo_now mo_many mo_itemKind mo_itemField mo_itemPlace mo_by mo_stepKind mo_stepField mo_stepOperator mo_stepOther mo_stepMany mo_literalType mo_literalFrom mo_literalSize mo_bytes mo_said mo_number mo_pile mo_pilePlace mo_top mo_open) H locs → lv_has ls 4 [(0, .ref (a_mo 0))] → W p l e { frames := 9, cells := 0, slots := 0, locals := 206 } s m args below meth c H locs 0 0 Q (F0 m 324 ls [])) → W p l e { frames := 9, cells := 0, slots := 0, locals := 206 } s m args below meth c H locs 0 0 Q (F0 m 243 ls []) := by
  have hx := C.1
  have hb := C.2.1
  intro n
  induction n with
  | zero =>
    intro l2 l3 mo_ill mo_now mo_many mo_itemKind mo_itemField mo_itemPlace mo_by H locs ls hw hl hf kk
    unfold f_X6_query_243 at hf
    cases hf
  | succ n ih =>
    intro l2 l3 mo_ill mo_now mo_many mo_itemKind mo_itemField mo_itemPlace mo_by H locs ls hw hl hf kk
    unfold f_X6_query_243 at hf
    refine lv_iload_n hx hb dX6_query_243 rfl (lv_at hl 2 rfl) ?_
    refine lv_aload_n hx hb dX6_query_244 rfl (lv_at hl 0 rfl) ?_
    refine fg_X6_35 C hw 0 rfl rfl dX6_query_245 ?_
    refine lv_iconst (v := 4) hx hb dX6_query_248 (by decide) ?_
    refine lv_aload_n hx hb dX6_query_249 rfl (lv_at hl 0 rfl) ?_
    refine fg_X6_189 C hw 0 rfl rfl dX6_query_250 ?_
    refine lv_imul hx hb dX6_query_253 ?_
    obtain ⟨x1, ex1, gx1, hf⟩ := rd_el hf
    refine ra_i C hw 8 rfl gx1 dX6_query_254 ?_
    refine tp_i ex1 ?_
    refine lv_icmp_ge (tgt := 324) hx hb dX6_query_255 (by decide) (fun c255 => ?_) (fun c255 => ?_)
    · replace hf := it_t c255 hf
      cases hf
      exact kk _ _ _ hw (lv_sub hl [0] rfl)
    · replace hf := it_f c255 hf
      refine lv_iload_n hx hb dX6_query_258 rfl (lv_at hl 1 rfl) ?_
      refine lv_if_eq (tgt := 324) hx hb dX6_query_259 (by decide) (fun c259 => ?_) (fun c259 => ?_)
      · replace hf := it_t c259 hf
        cases hf
        exact kk _ _ _ hw (lv_sub hl [0] rfl)
      · replace hf := it_f c259 hf
        refine lv_aload_n hx hb dX6_query_262 rfl (lv_at hl 0 rfl) ?_
        refine fg_X6_38 C hw 0 rfl rfl dX6_query_263 ?_
        refine lv_bipush (v := 16) hx hb dX6_query_266 (by decide) ?_
        refine lv_aload_n hx hb dX6_query_268 rfl (lv_at hl 0 rfl) ?_
        refine fg_X6_189 C hw 0 rfl rfl dX6_query_269 ?_
        refine lv_imul hx hb dX6_query_272 ?_
        refine lv_iload_n hx hb dX6_query_273 rfl (lv_at hl 2 rfl) ?_
        refine lv_iadd hx hb dX6_query_274 ?_
        obtain ⟨x2, ex2, gx2, hf⟩ := rd_el hf
        refine ra_i C hw 9 rfl gx2 dX6_query_275 ?_
        refine tp_i ex2 ?_
        refine lv_if_ne (tgt := 318) hx hb dX6_query_276 (by decide) (fun c276 => ?_) (fun c276 => ?_)
        · replace hf := it_f c276 hf
          obtain ⟨x3, ex3, hf⟩ := on_el hf
          refine lv_iinc (v := x3) (lv' := [(3, .int x3), (0, .ref (a_mo 0)), (2, .int l2)]) hx hb dX6_query_318 hl (k := 2) rfl (by rw [← ex3]; rfl) (by decide) rfl (fun ls hl => ?_)
          refine lv_goto (tgt := 243) hx hb dX6_query_321 (by decide) ?_
          exact ih hw (lv_sub hl [1, 2, 0] rfl) hf kk
        · replace hf := it_t c276 hf
          refine lv_aload_n hx hb dX6_query_279 rfl (lv_at hl 0 rfl) ?_
          refine lv_aload_n hx hb dX6_query_280 rfl (lv_at hl 0 rfl) ?_
          refine fg_X6_41 C hw 0 rfl rfl dX6_query_281 ?_
          refine lv_bipush (v := 16) hx hb dX6_query_284 (by decide) ?_
          refine lv_aload_n hx hb dX6_query_286 rfl (lv_at hl 0 rfl) ?_
          refine fg_X6_189 C hw 0 rfl rfl dX6_query_287 ?_
          refine lv_imul hx hb dX6_query_290 ?_
          refine lv_iload_n hx hb dX6_query_291 rfl (lv_at hl 2 rfl) ?_
          refine lv_iadd hx hb dX6_query_292 ?_
          obtain ⟨x4, ex4, gx4, hf⟩ := rd_el hf
          refine ra_i C hw 10 rfl gx4 dX6_query_293 ?_
          refine tp_i ex4 ?_
          obtain ⟨x5, z5, hf⟩ := ob1_el hf
          refine cI_V C hw (c_X6_isBy l E a_mo mo_code mo_tape mo_text mo_taped mo_size mo_at mo_ill mo_in mo_kind mo_type mo_long1 mo_letters mo_fields mo_kept mo_now mo_many mo_itemKind mo_itemField mo_itemPlace mo_by mo_stepKind mo_stepField mo_stepOperator mo_stepOther mo_stepMany mo_literalType mo_literalFrom mo_literalSize mo_bytes mo_said mo_number mo_pile mo_pilePlace mo_top mo_open x4 x5 z5) cs_X6_204 ⟨Nat.le_of_ble_eq_true rfl, Nat.le_of_ble_eq_true rfl⟩ ⟨rfl, rfl⟩ (ci := 6) (cn := (RX6, TX6, 35)) rfl (q0 := 0) rfl (wn := w_mo E a_mo mo_code mo_tape mo_text mo_taped mo_size mo_at mo_ill mo_in mo_kind mo_type mo_long1 mo_letters mo_fields mo_kept mo_now mo_many mo_itemKind mo_itemField mo_itemPlace mo_by mo_stepKind mo_stepField mo_stepOperator mo_stepOther mo_stepMany mo_literalType mo_literalFrom mo_literalSize mo_bytes mo_said mo_number mo_pile mo_pilePlace mo_top mo_open) (Jn.all _ _) rfl hl.1 rfl (Nat.le_of_ble_eq_true rfl) dX6_query_294 ⟨Nat.zero_le _, Nat.zero_le _⟩ (fun H locs hw => ?_)
          refine lv_if_ne (tgt := 318) hx hb dX6_query_297 (by decide) (fun c297 => ?_) (fun c297 => ?_)
          · replace hf := it_f c297 hf
            obtain ⟨x6, ex6, hf⟩ := on_el hf
            refine lv_iinc (v := x6) (lv' := [(3, .int x6), (0, .ref (a_mo 0)), (2, .int l2)]) hx hb dX6_query_318 hl (k := 2) rfl (by rw [← ex6]; rfl) (by decide) rfl (fun ls hl => ?_)
            refine lv_goto (tgt := 243) hx hb dX6_query_321 (by decide) ?_
            exact ih hw (lv_sub hl [1, 2, 0] rfl) hf kk
          · replace hf := it_t c297 hf
            refine lv_aload_n hx hb dX6_query_300 rfl (lv_at hl 0 rfl) ?_
            refine lv_aload_n hx hb dX6_query_301 rfl (lv_at hl 0 rfl) ?_
            refine fg_X6_44 C hw 0 rfl rfl dX6_query_302 ?_
            refine lv_bipush (v := 16) hx hb dX6_query_305 (by decide) ?_
            refine lv_aload_n hx hb dX6_query_307 rfl (lv_at hl 0 rfl) ?_
            refine fg_X6_189 C hw 0 rfl rfl dX6_query_308 ?_
            refine lv_imul hx hb dX6_query_311 ?_
            refine lv_iload_n hx hb dX6_query_312 rfl (lv_at hl 2 rfl) ?_
            refine lv_iadd hx hb dX6_query_313 ?_
            obtain ⟨x7, ex7, gx7, hf⟩ := rd_el hf
            refine ra_i C hw 11 rfl gx7 dX6_query_314 ?_
            refine tp_i ex7 ?_
            obtain ⟨x8, z8, hf⟩ := ob1_el hf
            refine cV_V C hw (c_X6_fail l E a_mo mo_code mo_tape mo_text mo_taped mo_size mo_at mo_ill mo_in mo_kind mo_type mo_long1 mo_letters mo_fields mo_kept mo_now mo_many mo_itemKind mo_itemField mo_itemPlace mo_by mo_stepKind mo_stepField mo_stepOperator mo_stepOther mo_stepMany mo_literalType mo_literalFrom mo_literalSize mo_bytes mo_said mo_number mo_pile mo_pilePlace mo_top mo_open x7 x8 z8) cs_X6_144 ⟨Nat.le_of_ble_eq_true rfl, Nat.le_of_ble_eq_true rfl⟩ ⟨rfl, rfl⟩ (ci := 6) (cn := (RX6, TX6, 35)) rfl (q0 := 0) rfl (wn := w_mo E a_mo mo_code mo_tape mo_text mo_taped mo_size mo_at x8 mo_in mo_kind mo_type mo_long1 mo_letters mo_fields mo_kept mo_now mo_many mo_itemKind mo_itemField mo_itemPlace mo_by mo_stepKind mo_stepField mo_stepOperator mo_stepOther mo_stepMany mo_literalType mo_literalFrom mo_literalSize mo_bytes mo_said mo_number mo_pile mo_pilePlace mo_top mo_open) (Jn.all _ _) rfl hl.1 rfl (Nat.le_of_ble_eq_true rfl) dX6_query_315 ⟨Nat.zero_le _, Nat.zero_le _⟩ (fun H locs hw => ?_)
            obtain ⟨x9, ex9, hf⟩ := on_el hf
            refine lv_iinc (v := x9) (lv' := [(3, .int x9), (0, .ref (a_mo 0)), (2, .int l2)]) hx hb dX6_query_318 hl (k := 2) rfl (by rw [← ex9]; rfl) (by decide) rfl (fun ls hl => ?_)
            refine lv_goto (tgt := 243) hx hb dX6_query_321 (by decide) ?_
            exact ih hw (lv_sub hl [1, 2, 0] rfl) hf kk
def f_X6_query_324 (mo_code : Int32) (mo_text : Nat → Int32) (mo_taped : Int32) (mo_size : Int32) (mo_at : Int32) (mo_ill : Int32) (mo_kept : Int32) (mo_now : Int32) (mo_many : Nat → Int32) (mo_itemKind : Nat → Int32) (mo_itemField : Nat → Int32) (mo_itemPlace : Nat → Int32) (mo_by : Nat → Int32) (mo_stepKind : Nat → Int32) (mo_stepField : Nat → Int32) (mo_stepOperator : Nat → Int32) (mo_stepOther : Nat → Int32) (mo_stepMany : Nat → Int32) (mo_literalType : Nat → Int32) (mo_literalFrom : Nat → Int32) (mo_literalSize : Nat → Int32) (mo_bytes : Nat → Int32) (mo_said : Nat → Int32) (mo_number : Nat → Int64) (mo_pile : Nat → Int32) (mo_pilePlace : Nat → Int32) (mo_top : Int32) (mo_open : Int32) : Option ((Int32) × (Int32) × (Nat → Int32) × (Int32) × (Int32) × (Int32) × (Int32) × (Int32) × (Int32) × (Nat → Int32) × (Nat → Int32) × (Nat → Int32) × (Nat → Int32) × (Nat → Int32) × (Nat → Int32) × (Nat → Int32) × (Nat → Int32) × (Nat → Int32) × (Nat → Int32) × (Nat → Int32) × (Nat → Int32) × (Nat → Int32) × (Nat → Int32) × (Nat → Int32) × (Nat → Int64) × (Nat → Int32) × (Nat → Int32) × (Int32) × (Int32)) :=
  if mo_ill = (-1 : Int32) then (some (mo_ill, mo_code, mo_text, mo_taped, mo_size, mo_at, mo_ill, mo_now, mo_now, mo_many, mo_itemKind, mo_itemField, mo_itemPlace, mo_by, mo_stepKind, mo_stepField, mo_stepOperator, mo_stepOther, mo_stepMany, mo_literalType, mo_literalFrom, mo_literalSize, mo_bytes, mo_said, mo_number, mo_pile, mo_pilePlace, mo_top, mo_open))
  else (some (mo_ill, mo_code, mo_text, mo_taped, mo_size, mo_at, mo_ill, mo_kept, mo_now, mo_many, mo_itemKind, mo_itemField, mo_itemPlace, mo_by, mo_stepKind, mo_stepField, mo_stepOperator, mo_stepOther, mo_stepMany, mo_literalType, mo_literalFrom, mo_literalSize, mo_bytes, mo_said, mo_number, mo_pile, mo_pilePlace, mo_top, mo_open))
set_option maxHeartbeats 4000000 in
set_option maxRecDepth 100000 in
theorem w_X6_query_324 {p : Program} {l : Launch} {e : Env} {s : State} {m : MethodId} {args : Array Value} {below : List Frame} {meth : Method} {c : Code} {E : EnvT} {A : Nat → Prop} {a_mo : Nat → Nat} {mo_tape : Nat → Int32} {mo_in : Nat → Int32} {mo_kind : Nat → Int32} {mo_type : Nat → Int32} {mo_long1 : Nat → Int32} {mo_letters : Nat → Int32} {mo_fields : Int32} {r : Int32} {o_mo_code : Int32} {o_mo_text : Nat → Int32} {o_mo_taped : Int32} {o_mo_size : Int32} {o_mo_at : Int32} {o_mo_ill : Int32} {o_mo_kept : Int32} {o_mo_now : Int32} {o_mo_many : Nat → Int32} {o_mo_itemKind : Nat → Int32} {o_mo_itemField : Nat → Int32} {o_mo_itemPlace : Nat → Int32} {o_mo_by : Nat → Int32} {o_mo_stepKind : Nat → Int32} {o_mo_stepField : Nat → Int32} {o_mo_stepOperator : Nat → Int32} {o_mo_stepOther : Nat → Int32} {o_mo_stepMany : Nat → Int32} {o_mo_literalType : Nat → Int32} {o_mo_literalFrom : Nat → Int32} {o_mo_literalSize : Nat → Int32} {o_mo_bytes : Nat → Int32} {o_mo_said : Nat → Int32} {o_mo_number : Nat → Int64} {o_mo_pile : Nat → Int32} {o_mo_pilePlace : Nat → Int32} {o_mo_top : Int32} {o_mo_open : Int32} {mo_code : Int32} {mo_text : Nat → Int32} {mo_taped : Int32} {mo_size : Int32} {mo_at : Int32} {mo_ill : Int32} {mo_kept : Int32} {mo_now : Int32} {mo_many : Nat → Int32} {mo_itemKind : Nat → Int32} {mo_itemField : Nat → Int32} {mo_itemPlace : Nat → Int32} {mo_by : Nat → Int32} {mo_stepKind : Nat → Int32} {mo_stepField : Nat → Int32} {mo_stepOperator : Nat → Int32} {mo_stepOther : Nat → Int32} {mo_stepMany : Nat → Int32} {mo_literalType : Nat → Int32} {mo_literalFrom : Nat → Int32} {mo_literalSize : Nat → Int32} {mo_bytes : Nat → Int32} {mo_said : Nat → Int32} {mo_number : Nat → Int64} {mo_pile : Nat → Int32} {mo_pilePlace : Nat → Int32} {mo_top : Int32} {mo_open : Int32} {H : Heap} {locs : List Loc} {ls : Array Slot} (C : MC p s m args meth c E A cX6_query 4 RX6 (some .int)) (hw : WS E A s (w_mo E a_mo mo_code mo_tape mo_text mo_taped mo_size mo_at mo_ill mo_in mo_kind mo_type mo_long1 mo_letters mo_fields mo_kept mo_now mo_many mo_itemKind mo_itemField mo_itemPlace mo_by mo_stepKind mo_stepField mo_stepOperator mo_stepOther mo_stepMany mo_literalType mo_literalFrom mo_literalSize mo_bytes mo_said mo_number mo_pile mo_pilePlace mo_top mo_open) H locs) (hl : lv_has ls 4 [(0, .ref (a_mo 0))]) (hf : f_X6_query_324 mo_code mo_text mo_taped mo_size mo_at mo_ill mo_kept mo_now mo_many mo_itemKind mo_itemField mo_itemPlace mo_by mo_stepKind mo_stepField mo_stepOperator mo_stepOther mo_stepMany mo_literalType mo_literalFrom mo_literalSize mo_bytes mo_said mo_number mo_pile mo_pilePlace mo_top mo_open = some (r, o_mo_code, o_mo_text, o_mo_taped, o_mo_size, o_mo_at, o_mo_ill, o_mo_kept, o_mo_now, o_mo_many, o_mo_itemKind, o_mo_itemField, o_mo_itemPlace, o_mo_by, o_mo_stepKind, o_mo_stepField, o_mo_stepOperator, o_mo_stepOther, o_mo_stepMany, o_mo_literalType, o_mo_literalFrom, o_mo_literalSize, o_mo_bytes, o_mo_said, o_mo_number, o_mo_pile, o_mo_pilePlace, o_mo_top, o_mo_open)) : W p l e { frames := 9, cells := 0, slots := 0, locals := 206 } s m args below meth c H locs 0 0 (MQ below (QcI E A (w_mo E a_mo o_mo_code mo_tape o_mo_text o_mo_taped o_mo_size o_mo_at o_mo_ill mo_in mo_kind mo_type mo_long1 mo_letters mo_fields o_mo_kept o_mo_now o_mo_many o_mo_itemKind o_mo_itemField o_mo_itemPlace o_mo_by o_mo_stepKind o_mo_stepField o_mo_stepOperator o_mo_stepOther o_mo_stepMany o_mo_literalType o_mo_literalFrom o_mo_literalSize o_mo_bytes o_mo_said o_mo_number o_mo_pile o_mo_pilePlace o_mo_top o_mo_open) r) args s 0 0 A) (F0 m 324 ls []) := by
  have hx := C.1
  have hb := C.2.1
  unfold f_X6_query_324 at hf
  refine lv_aload_n hx hb dX6_query_324 rfl (lv_at hl 0 rfl) ?_
  refine fg_X6_102 C hw 0 rfl rfl dX6_query_325 ?_
  refine lv_iconst (v := -1) hx hb dX6_query_328 (by decide) ?_
  refine lv_icmp_ne (tgt := 340) hx hb dX6_query_329 (by decide) (fun c329 => ?_) (fun c329 => ?_)
  · replace hf := it_f c329 hf
    refine lv_aload_n hx hb dX6_query_340 rfl (lv_at hl 0 rfl) ?_
    refine fg_X6_102 C hw 0 rfl rfl dX6_query_341 ?_
    cases hf
    exact rt_i C hw dX6_query_344
  · replace hf := it_t c329 hf
    refine lv_aload_n hx hb dX6_query_332 rfl (lv_at hl 0 rfl) ?_
    refine lv_aload_n hx hb dX6_query_333 rfl (lv_at hl 0 rfl) ?_
    refine fg_X6_189 C hw 0 rfl rfl dX6_query_334 ?_
    refine fp_X6_31 C hw 0 rfl (Nat.le_of_ble_eq_true rfl) (ws' := w_mo E a_mo mo_code mo_tape mo_text mo_taped mo_size mo_at mo_ill mo_in mo_kind mo_type mo_long1 mo_letters mo_fields mo_now mo_now mo_many mo_itemKind mo_itemField mo_itemPlace mo_by mo_stepKind mo_stepField mo_stepOperator mo_stepOther mo_stepMany mo_literalType mo_literalFrom mo_literalSize mo_bytes mo_said mo_number mo_pile mo_pilePlace mo_top mo_open) rfl dX6_query_337 (fun H locs hw => ?_)
    refine lv_aload_n hx hb dX6_query_340 rfl (lv_at hl 0 rfl) ?_
    refine fg_X6_102 C hw 0 rfl rfl dX6_query_341 ?_
    cases hf
    exact rt_i C hw dX6_query_344
def f_X6_query_240 (s0 : Int32) (mo_code : Int32) (mo_text : Nat → Int32) (mo_taped : Int32) (mo_size : Int32) (mo_at : Int32) (mo_ill : Int32) (mo_kept : Int32) (mo_now : Int32) (mo_many : Nat → Int32) (mo_itemKind : Nat → Int32) (mo_itemField : Nat → Int32) (mo_itemPlace : Nat → Int32) (mo_by : Nat → Int32) (mo_stepKind : Nat → Int32) (mo_stepField : Nat → Int32) (mo_stepOperator : Nat → Int32) (mo_stepOther : Nat → Int32) (mo_stepMany : Nat → Int32) (mo_literalType : Nat → Int32) (mo_literalFrom : Nat → Int32) (mo_literalSize : Nat → Int32) (mo_bytes : Nat → Int32) (mo_said : Nat → Int32) (mo_number : Nat → Int64) (mo_pile : Nat → Int32) (mo_pilePlace : Nat → Int32) (mo_top : Int32) (mo_open : Int32) : Option ((Int32) × (Int32) × (Nat → Int32) × (Int32) × (Int32) × (Int32) × (Int32) × (Int32) × (Int32) × (Nat → Int32) × (Nat → Int32) × (Nat → Int32) × (Nat → Int32) × (Nat → Int32) × (Nat → Int32) × (Nat → Int32) × (Nat → Int32) × (Nat → Int32) × (Nat → Int32) × (Nat → Int32) × (Nat → Int32) × (Nat → Int32) × (Nat → Int32) × (Nat → Int32) × (Nat → Int64) × (Nat → Int32) × (Nat → Int32) × (Int32) × (Int32)) :=
  ob1 (f_X6_query_243 FU s0 (0 : Int32) mo_ill mo_now mo_many mo_itemKind mo_itemField mo_itemPlace mo_by) (fun x1 =>
  f_X6_query_324 mo_code mo_text mo_taped mo_size mo_at x1 mo_kept mo_now mo_many mo_itemKind mo_itemField mo_itemPlace mo_by mo_stepKind mo_stepField mo_stepOperator mo_stepOther mo_stepMany mo_literalType mo_literalFrom mo_literalSize mo_bytes mo_said mo_number mo_pile mo_pilePlace mo_top mo_open)
set_option maxHeartbeats 4000000 in
set_option maxRecDepth 100000 in
theorem w_X6_query_240 {p : Program} {l : Launch} {e : Env} {s : State} {m : MethodId} {args : Array Value} {below : List Frame} {meth : Method} {c : Code} {E : EnvT} {A : Nat → Prop} {a_mo : Nat → Nat} {mo_tape : Nat → Int32} {mo_in : Nat → Int32} {mo_kind : Nat → Int32} {mo_type : Nat → Int32} {mo_long1 : Nat → Int32} {mo_letters : Nat → Int32} {mo_fields : Int32} {r : Int32} {o_mo_code : Int32} {o_mo_text : Nat → Int32} {o_mo_taped : Int32} {o_mo_size : Int32} {o_mo_at : Int32} {o_mo_ill : Int32} {o_mo_kept : Int32} {o_mo_now : Int32} {o_mo_many : Nat → Int32} {o_mo_itemKind : Nat → Int32} {o_mo_itemField : Nat → Int32} {o_mo_itemPlace : Nat → Int32} {o_mo_by : Nat → Int32} {o_mo_stepKind : Nat → Int32} {o_mo_stepField : Nat → Int32} {o_mo_stepOperator : Nat → Int32} {o_mo_stepOther : Nat → Int32} {o_mo_stepMany : Nat → Int32} {o_mo_literalType : Nat → Int32} {o_mo_literalFrom : Nat → Int32} {o_mo_literalSize : Nat → Int32} {o_mo_bytes : Nat → Int32} {o_mo_said : Nat → Int32} {o_mo_number : Nat → Int64} {o_mo_pile : Nat → Int32} {o_mo_pilePlace : Nat → Int32} {o_mo_top : Int32} {o_mo_open : Int32} {s0 : Int32} {mo_code : Int32} {mo_text : Nat → Int32} {mo_taped : Int32} {mo_size : Int32} {mo_at : Int32} {mo_ill : Int32} {mo_kept : Int32} {mo_now : Int32} {mo_many : Nat → Int32} {mo_itemKind : Nat → Int32} {mo_itemField : Nat → Int32} {mo_itemPlace : Nat → Int32} {mo_by : Nat → Int32} {mo_stepKind : Nat → Int32} {mo_stepField : Nat → Int32} {mo_stepOperator : Nat → Int32} {mo_stepOther : Nat → Int32} {mo_stepMany : Nat → Int32} {mo_literalType : Nat → Int32} {mo_literalFrom : Nat → Int32} {mo_literalSize : Nat → Int32} {mo_bytes : Nat → Int32} {mo_said : Nat → Int32} {mo_number : Nat → Int64} {mo_pile : Nat → Int32} {mo_pilePlace : Nat → Int32} {mo_top : Int32} {mo_open : Int32} {H : Heap} {locs : List Loc} {ls : Array Slot} (C : MC p s m args meth c E A cX6_query 4 RX6 (some .int)) (hw : WS E A s (w_mo E a_mo mo_code mo_tape mo_text mo_taped mo_size mo_at mo_ill mo_in mo_kind mo_type mo_long1 mo_letters mo_fields mo_kept mo_now mo_many mo_itemKind mo_itemField mo_itemPlace mo_by mo_stepKind mo_stepField mo_stepOperator mo_stepOther mo_stepMany mo_literalType mo_literalFrom mo_literalSize mo_bytes mo_said mo_number mo_pile mo_pilePlace mo_top mo_open) H locs) (hl : lv_has ls 4 [(0, .ref (a_mo 0))]) (hf : f_X6_query_240 s0 mo_code mo_text mo_taped mo_size mo_at mo_ill mo_kept mo_now mo_many mo_itemKind mo_itemField mo_itemPlace mo_by mo_stepKind mo_stepField mo_stepOperator mo_stepOther mo_stepMany mo_literalType mo_literalFrom mo_literalSize mo_bytes mo_said mo_number mo_pile mo_pilePlace mo_top mo_open = some (r, o_mo_code, o_mo_text, o_mo_taped, o_mo_size, o_mo_at, o_mo_ill, o_mo_kept, o_mo_now, o_mo_many, o_mo_itemKind, o_mo_itemField, o_mo_itemPlace, o_mo_by, o_mo_stepKind, o_mo_stepField, o_mo_stepOperator, o_mo_stepOther, o_mo_stepMany, o_mo_literalType, o_mo_literalFrom, o_mo_literalSize, o_mo_bytes, o_mo_said, o_mo_number, o_mo_pile, o_mo_pilePlace, o_mo_top, o_mo_open)) : W p l e { frames := 9, cells := 0, slots := 0, locals := 206 } s m args below meth c H locs 0 0 (MQ below (QcI E A (w_mo E a_mo o_mo_code mo_tape o_mo_text o_mo_taped o_mo_size o_mo_at o_mo_ill mo_in mo_kind mo_type mo_long1 mo_letters mo_fields o_mo_kept o_mo_now o_mo_many o_mo_itemKind o_mo_itemField o_mo_itemPlace o_mo_by o_mo_stepKind o_mo_stepField o_mo_stepOperator o_mo_stepOther o_mo_stepMany o_mo_literalType o_mo_literalFrom o_mo_literalSize o_mo_bytes o_mo_said o_mo_number o_mo_pile o_mo_pilePlace o_mo_top o_mo_open) r) args s 0 0 A) (F0 m 240 ls [.int s0]) := by
  have hx := C.1
  have hb := C.2.1
  unfold f_X6_query_240 at hf
  refine lv_istore_n (lv' := [(2, .int s0), (0, .ref (a_mo 0))]) hx hb dX6_query_240 rfl hl (by decide) rfl (fun ls hl => ?_)
  refine lv_iconst (v := 0) hx hb dX6_query_241 (by decide) ?_
  refine lv_istore_n (lv' := [(3, .int (0 : Int32)), (2, .int s0), (0, .ref (a_mo 0))]) hx hb dX6_query_242 rfl hl (by decide) rfl (fun ls hl => ?_)
  obtain ⟨x1, hx1, hf⟩ := ob1_el hf
  refine w_X6_query_243 C FU hw (lv_sub hl [2, 1, 0] rfl) hx1 ?_
  clear hw hl
  intro H locs ls hw hl
  exact w_X6_query_324 C hw (lv_sub hl [0] rfl) hf
def f_X6_query_239 (mo_code : Int32) (mo_text : Nat → Int32) (mo_taped : Int32) (mo_size : Int32) (mo_at : Int32) (mo_ill : Int32) (mo_kept : Int32) (mo_now : Int32) (mo_many : Nat → Int32) (mo_itemKind : Nat → Int32) (mo_itemField : Nat → Int32) (mo_itemPlace : Nat → Int32) (mo_by : Nat → Int32) (mo_stepKind : Nat → Int32) (mo_stepField : Nat → Int32) (mo_stepOperator : Nat → Int32) (mo_stepOther : Nat → Int32) (mo_stepMany : Nat → Int32) (mo_literalType : Nat → Int32) (mo_literalFrom : Nat → Int32) (mo_literalSize : Nat → Int32) (mo_bytes : Nat → Int32) (mo_said : Nat → Int32) (mo_number : Nat → Int64) (mo_pile : Nat → Int32) (mo_pilePlace : Nat → Int32) (mo_top : Int32) (mo_open : Int32) : Option ((Int32) × (Int32) × (Nat → Int32) × (Int32) × (Int32) × (Int32) × (Int32) × (Int32) × (Int32) × (Nat → Int32) × (Nat → Int32) × (Nat → Int32) × (Nat → Int32) × (Nat → Int32) × (Nat → Int32) × (Nat → Int32) × (Nat → Int32) × (Nat → Int32) × (Nat → Int32) × (Nat → Int32) × (Nat → Int32) × (Nat → Int32) × (Nat → Int32) × (Nat → Int32) × (Nat → Int64) × (Nat → Int32) × (Nat → Int32) × (Int32) × (Int32)) :=
  f_X6_query_240 (0 : Int32) mo_code mo_text mo_taped mo_size mo_at mo_ill mo_kept mo_now mo_many mo_itemKind mo_itemField mo_itemPlace mo_by mo_stepKind mo_stepField mo_stepOperator mo_stepOther mo_stepMany mo_literalType mo_literalFrom mo_literalSize mo_bytes mo_said mo_number mo_pile mo_pilePlace mo_top mo_open
set_option maxHeartbeats 4000000 in
set_option maxRecDepth 100000 in
theorem w_X6_query_239 {p : Program} {l : Launch} {e : Env} {s : State} {m : MethodId} {args : Array Value} {below : List Frame} {meth : Method} {c : Code} {E : EnvT} {A : Nat → Prop} {a_mo : Nat → Nat} {mo_tape : Nat → Int32} {mo_in : Nat → Int32} {mo_kind : Nat → Int32} {mo_type : Nat → Int32} {mo_long1 : Nat → Int32} {mo_letters : Nat → Int32} {mo_fields : Int32} {r : Int32} {o_mo_code : Int32} {o_mo_text : Nat → Int32} {o_mo_taped : Int32} {o_mo_size : Int32} {o_mo_at : Int32} {o_mo_ill : Int32} {o_mo_kept : Int32} {o_mo_now : Int32} {o_mo_many : Nat → Int32} {o_mo_itemKind : Nat → Int32} {o_mo_itemField : Nat → Int32} {o_mo_itemPlace : Nat → Int32} {o_mo_by : Nat → Int32} {o_mo_stepKind : Nat → Int32} {o_mo_stepField : Nat → Int32} {o_mo_stepOperator : Nat → Int32} {o_mo_stepOther : Nat → Int32} {o_mo_stepMany : Nat → Int32} {o_mo_literalType : Nat → Int32} {o_mo_literalFrom : Nat → Int32} {o_mo_literalSize : Nat → Int32} {o_mo_bytes : Nat → Int32} {o_mo_said : Nat → Int32} {o_mo_number : Nat → Int64} {o_mo_pile : Nat → Int32} {o_mo_pilePlace : Nat → Int32} {o_mo_top : Int32} {o_mo_open : Int32} {mo_code : Int32} {mo_text : Nat → Int32} {mo_taped : Int32} {mo_size : Int32} {mo_at : Int32} {mo_ill : Int32} {mo_kept : Int32} {mo_now : Int32} {mo_many : Nat → Int32} {mo_itemKind : Nat → Int32} {mo_itemField : Nat → Int32} {mo_itemPlace : Nat → Int32} {mo_by : Nat → Int32} {mo_stepKind : Nat → Int32} {mo_stepField : Nat → Int32} {mo_stepOperator : Nat → Int32} {mo_stepOther : Nat → Int32} {mo_stepMany : Nat → Int32} {mo_literalType : Nat → Int32} {mo_literalFrom : Nat → Int32} {mo_literalSize : Nat → Int32} {mo_bytes : Nat → Int32} {mo_said : Nat → Int32} {mo_number : Nat → Int64} {mo_pile : Nat → Int32} {mo_pilePlace : Nat → Int32} {mo_top : Int32} {mo_open : Int32} {H : Heap} {locs : List Loc} {ls : Array Slot} (C : MC p s m args meth c E A cX6_query 4 RX6 (some .int)) (hw : WS E A s (w_mo E a_mo mo_code mo_tape mo_text mo_taped mo_size mo_at mo_ill mo_in mo_kind mo_type mo_long1 mo_letters mo_fields mo_kept mo_now mo_many mo_itemKind mo_itemField mo_itemPlace mo_by mo_stepKind mo_stepField mo_stepOperator mo_stepOther mo_stepMany mo_literalType mo_literalFrom mo_literalSize mo_bytes mo_said mo_number mo_pile mo_pilePlace mo_top mo_open) H locs) (hl : lv_has ls 4 [(0, .ref (a_mo 0))]) (hf : f_X6_query_239 mo_code mo_text mo_taped mo_size mo_at mo_ill mo_kept mo_now mo_many mo_itemKind mo_itemField mo_itemPlace mo_by mo_stepKind mo_stepField mo_stepOperator mo_stepOther mo_stepMany mo_literalType mo_literalFrom mo_literalSize mo_bytes mo_said mo_number mo_pile mo_pilePlace mo_top mo_open = some (r, o_mo_code, o_mo_text, o_mo_taped, o_mo_size, o_mo_at, o_mo_ill, o_mo_kept, o_mo_now, o_mo_many, o_mo_itemKind, o_mo_itemField, o_mo_itemPlace, o_mo_by, o_mo_stepKind, o_mo_stepField, o_mo_stepOperator, o_mo_stepOther, o_mo_stepMany, o_mo_literalType, o_mo_literalFrom, o_mo_literalSize, o_mo_bytes, o_mo_said, o_mo_number, o_mo_pile, o_mo_pilePlace, o_mo_top, o_mo_open)) : W p l e { frames := 9, cells := 0, slots := 0, locals := 206 } s m args below meth c H locs 0 0 (MQ below (QcI E A (w_mo E a_mo o_mo_code mo_tape o_mo_text o_mo_taped o_mo_size o_mo_at o_mo_ill mo_in mo_kind mo_type mo_long1 mo_letters mo_fields o_mo_kept o_mo_now o_mo_many o_mo_itemKind o_mo_itemField o_mo_itemPlace o_mo_by o_mo_stepKind o_mo_stepField o_mo_stepOperator o_mo_stepOther o_mo_stepMany o_mo_literalType o_mo_literalFrom o_mo_literalSize o_mo_bytes o_mo_said o_mo_number o_mo_pile o_mo_pilePlace o_mo_top o_mo_open) r) args s 0 0 A) (F0 m 239 ls []) := by
  have hx := C.1
  have hb := C.2.1
  unfold f_X6_query_239 at hf
  refine lv_iconst (v := 0) hx hb dX6_query_239 (by decide) ?_
  exact w_X6_query_240 C hw (lv_sub hl [0] rfl) hf
def f_X6_query_216 (mo_code : Int32) (mo_text : Nat → Int32) (mo_taped : Int32) (mo_size : Int32) (mo_at : Int32) (mo_ill : Int32) (mo_kept : Int32) (mo_now : Int32) (mo_many : Nat → Int32) (mo_itemKind : Nat → Int32) (mo_itemField : Nat → Int32) (mo_itemPlace : Nat → Int32) (mo_by : Nat → Int32) (mo_stepKind : Nat → Int32) (mo_stepField : Nat → Int32) (mo_stepOperator : Nat → Int32) (mo_stepOther : Nat → Int32) (mo_stepMany : Nat → Int32) (mo_literalType : Nat → Int32) (mo_literalFrom : Nat → Int32) (mo_literalSize : Nat → Int32) (mo_bytes : Nat → Int32) (mo_said : Nat → Int32) (mo_number : Nat → Int64) (mo_pile : Nat → Int32) (mo_pilePlace : Nat → Int32) (mo_top : Int32) (mo_open : Int32) : Option ((Int32) × (Int32) × (Nat → Int32) × (Int32) × (Int32) × (Int32) × (Int32) × (Int32) × (Int32) × (Nat → Int32) × (Nat → Int32) × (Nat → Int32) × (Nat → Int32) × (Nat → Int32) × (Nat → Int32) × (Nat → Int32) × (Nat → Int32) × (Nat → Int32) × (Nat → Int32) × (Nat → Int32) × (Nat → Int32) × (Nat → Int32) × (Nat → Int32) × (Nat → Int32) × (Nat → Int64) × (Nat → Int32) × (Nat → Int32) × (Int32) × (Int32)) :=
  if mo_ill = (-1 : Int32) then (ob1 (f_X6_collects mo_now mo_many mo_itemKind) (fun x1 =>
  if x1 = (0 : Int32) then (f_X6_query_239 mo_code mo_text mo_taped mo_size mo_at mo_ill mo_kept mo_now mo_many mo_itemKind mo_itemField mo_itemPlace mo_by mo_stepKind mo_stepField mo_stepOperator mo_stepOther mo_stepMany mo_literalType mo_literalFrom mo_literalSize mo_bytes mo_said mo_number mo_pile mo_pilePlace mo_top mo_open)
  else (f_X6_query_240 (1 : Int32) mo_code mo_text mo_taped mo_size mo_at mo_ill mo_kept mo_now mo_many mo_itemKind mo_itemField mo_itemPlace mo_by mo_stepKind mo_stepField mo_stepOperator mo_stepOther mo_stepMany mo_literalType mo_literalFrom mo_literalSize mo_bytes mo_said mo_number mo_pile mo_pilePlace mo_top mo_open)))
  else (f_X6_query_239 mo_code mo_text mo_taped mo_size mo_at mo_ill mo_kept mo_now mo_many mo_itemKind mo_itemField mo_itemPlace mo_by mo_stepKind mo_stepField mo_stepOperator mo_stepOther mo_stepMany mo_literalType mo_literalFrom mo_literalSize mo_bytes mo_said mo_number mo_pile mo_pilePlace mo_top mo_open)
set_option maxHeartbeats 4000000 in
set_option maxRecDepth 100000 in
theorem w_X6_query_216 {p : Program} {l : Launch} {e : Env} {s : State} {m : MethodId} {args : Array Value} {below : List Frame} {meth : Method} {c : Code} {E : EnvT} {A : Nat → Prop} {a_mo : Nat → Nat} {mo_tape : Nat → Int32} {mo_in : Nat → Int32} {mo_kind : Nat → Int32} {mo_type : Nat → Int32} {mo_long1 : Nat → Int32} {mo_letters : Nat → Int32} {mo_fields : Int32} {r : Int32} {o_mo_code : Int32} {o_mo_text : Nat → Int32} {o_mo_taped : Int32} {o_mo_size : Int32} {o_mo_at : Int32} {o_mo_ill : Int32} {o_mo_kept : Int32} {o_mo_now : Int32} {o_mo_many : Nat → Int32} {o_mo_itemKind : Nat → Int32} {o_mo_itemField : Nat → Int32} {o_mo_itemPlace : Nat → Int32} {o_mo_by : Nat → Int32} {o_mo_stepKind : Nat → Int32} {o_mo_stepField : Nat → Int32} {o_mo_stepOperator : Nat → Int32} {o_mo_stepOther : Nat → Int32} {o_mo_stepMany : Nat → Int32} {o_mo_literalType : Nat → Int32} {o_mo_literalFrom : Nat → Int32} {o_mo_literalSize : Nat → Int32} {o_mo_bytes : Nat → Int32} {o_mo_said : Nat → Int32} {o_mo_number : Nat → Int64} {o_mo_pile : Nat → Int32} {o_mo_pilePlace : Nat → Int32} {o_mo_top : Int32} {o_mo_open : Int32} {mo_code : Int32} {mo_text : Nat → Int32} {mo_taped : Int32} {mo_size : Int32} {mo_at : Int32} {mo_ill : Int32} {mo_kept : Int32} {mo_now : Int32} {mo_many : Nat → Int32} {mo_itemKind : Nat → Int32} {mo_itemField : Nat → Int32} {mo_itemPlace : Nat → Int32} {mo_by : Nat → Int32} {mo_stepKind : Nat → Int32} {mo_stepField : Nat → Int32} {mo_stepOperator : Nat → Int32} {mo_stepOther : Nat → Int32} {mo_stepMany : Nat → Int32} {mo_literalType : Nat → Int32} {mo_literalFrom : Nat → Int32} {mo_literalSize : Nat → Int32} {mo_bytes : Nat → Int32} {mo_said : Nat → Int32} {mo_number : Nat → Int64} {mo_pile : Nat → Int32} {mo_pilePlace : Nat → Int32} {mo_top : Int32} {mo_open : Int32} {H : Heap} {locs : List Loc} {ls : Array Slot} (C : MC p s m args meth c E A cX6_query 4 RX6 (some .int)) (hw : WS E A s (w_mo E a_mo mo_code mo_tape mo_text mo_taped mo_size mo_at mo_ill mo_in mo_kind mo_type mo_long1 mo_letters mo_fields mo_kept mo_now mo_many mo_itemKind mo_itemField mo_itemPlace mo_by mo_stepKind mo_stepField mo_stepOperator mo_stepOther mo_stepMany mo_literalType mo_literalFrom mo_literalSize mo_bytes mo_said mo_number mo_pile mo_pilePlace mo_top mo_open) H locs) (hl : lv_has ls 4 [(0, .ref (a_mo 0))]) (hf : f_X6_query_216 mo_code mo_text mo_taped mo_size mo_at mo_ill mo_kept mo_now mo_many mo_itemKind mo_itemField mo_itemPlace mo_by mo_stepKind mo_stepField mo_stepOperator mo_stepOther mo_stepMany mo_literalType mo_literalFrom mo_literalSize mo_bytes mo_said mo_number mo_pile mo_pilePlace mo_top mo_open = some (r, o_mo_code, o_mo_text, o_mo_taped, o_mo_size, o_mo_at, o_mo_ill, o_mo_kept, o_mo_now, o_mo_many, o_mo_itemKind, o_mo_itemField, o_mo_itemPlace, o_mo_by, o_mo_stepKind, o_mo_stepField, o_mo_stepOperator, o_mo_stepOther, o_mo_stepMany, o_mo_literalType, o_mo_literalFrom, o_mo_literalSize, o_mo_bytes, o_mo_said, o_mo_number, o_mo_pile, o_mo_pilePlace, o_mo_top, o_mo_open)) : W p l e { frames := 9, cells := 0, slots := 0, locals := 206 } s m args below meth c H locs 0 0 (MQ below (QcI E A (w_mo E a_mo o_mo_code mo_tape o_mo_text o_mo_taped o_mo_size o_mo_at o_mo_ill mo_in mo_kind mo_type mo_long1 mo_letters mo_fields o_mo_kept o_mo_now o_mo_many o_mo_itemKind o_mo_itemField o_mo_itemPlace o_mo_by o_mo_stepKind o_mo_stepField o_mo_stepOperator o_mo_stepOther o_mo_stepMany o_mo_literalType o_mo_literalFrom o_mo_literalSize o_mo_bytes o_mo_said o_mo_number o_mo_pile o_mo_pilePlace o_mo_top o_mo_open) r) args s 0 0 A) (F0 m 216 ls []) := by
  have hx := C.1
  have hb := C.2.1
  unfold f_X6_query_216 at hf
  refine lv_aload_n hx hb dX6_query_216 rfl (lv_at hl 0 rfl) ?_
  refine fg_X6_102 C hw 0 rfl rfl dX6_query_217 ?_
  refine lv_iconst (v := -1) hx hb dX6_query_220 (by decide) ?_
  refine lv_icmp_ne (tgt := 239) hx hb dX6_query_221 (by decide) (fun c221 => ?_) (fun c221 => ?_)
  · replace hf := it_f c221 hf
    exact w_X6_query_239 C hw (lv_sub hl [0] rfl) hf
  · replace hf := it_t c221 hf
    refine lv_aload_n hx hb dX6_query_224 rfl (lv_at hl 0 rfl) ?_
    refine lv_aload_n hx hb dX6_query_225 rfl (lv_at hl 0 rfl) ?_
    refine fg_X6_189 C hw 0 rfl rfl dX6_query_226 ?_
    obtain ⟨x1, z1, hf⟩ := ob1_el hf
    refine cI_V C hw (c_X6_collects l E a_mo mo_code mo_tape mo_text mo_taped mo_size mo_at mo_ill mo_in mo_kind mo_type mo_long1 mo_letters mo_fields mo_kept mo_now mo_many mo_itemKind mo_itemField mo_itemPlace mo_by mo_stepKind mo_stepField mo_stepOperator mo_stepOther mo_stepMany mo_literalType mo_literalFrom mo_literalSize mo_bytes mo_said mo_number mo_pile mo_pilePlace mo_top mo_open mo_now x1 z1) cs_X6_262 ⟨Nat.le_of_ble_eq_true rfl, Nat.le_of_ble_eq_true rfl⟩ ⟨rfl, rfl⟩ (ci := 6) (cn := (RX6, TX6, 35)) rfl (q0 := 0) rfl (wn := w_mo E a_mo mo_code mo_tape mo_text mo_taped mo_size mo_at mo_ill mo_in mo_kind mo_type mo_long1 mo_letters mo_fields mo_kept mo_now mo_many mo_itemKind mo_itemField mo_itemPlace mo_by mo_stepKind mo_stepField mo_stepOperator mo_stepOther mo_stepMany mo_literalType mo_literalFrom mo_literalSize mo_bytes mo_said mo_number mo_pile mo_pilePlace mo_top mo_open) (Jn.all _ _) rfl hl.1 rfl (Nat.le_of_ble_eq_true rfl) dX6_query_229 ⟨Nat.zero_le _, Nat.zero_le _⟩ (fun H locs hw => ?_)
    refine lv_if_eq (tgt := 239) hx hb dX6_query_232 (by decide) (fun c232 => ?_) (fun c232 => ?_)
    · replace hf := it_t c232 hf
      exact w_X6_query_239 C hw (lv_sub hl [0] rfl) hf
    · replace hf := it_f c232 hf
      refine lv_iconst (v := 1) hx hb dX6_query_235 (by decide) ?_
      refine lv_goto (tgt := 240) hx hb dX6_query_236 (by decide) ?_
      exact w_X6_query_240 C hw (lv_sub hl [0] rfl) hf
def f_X6_query_185 (mo_code : Int32) (mo_text : Nat → Int32) (mo_taped : Int32) (mo_size : Int32) (mo_at : Int32) (mo_ill : Int32) (mo_kept : Int32) (mo_now : Int32) (mo_many : Nat → Int32) (mo_itemKind : Nat → Int32) (mo_itemField : Nat → Int32) (mo_itemPlace : Nat → Int32) (mo_by : Nat → Int32) (mo_stepKind : Nat → Int32) (mo_stepField : Nat → Int32) (mo_stepOperator : Nat → Int32) (mo_stepOther : Nat → Int32) (mo_stepMany : Nat → Int32) (mo_literalType : Nat → Int32) (mo_literalFrom : Nat → Int32) (mo_literalSize : Nat → Int32) (mo_bytes : Nat → Int32) (mo_said : Nat → Int32) (mo_number : Nat → Int64) (mo_pile : Nat → Int32) (mo_pilePlace : Nat → Int32) (mo_top : Int32) (mo_open : Int32) : Option ((Int32) × (Int32) × (Nat → Int32) × (Int32) × (Int32) × (Int32) × (Int32) × (Int32) × (Int32) × (Nat → Int32) × (Nat → Int32) × (Nat → Int32) × (Nat → Int32) × (Nat → Int32) × (Nat → Int32) × (Nat → Int32) × (Nat → Int32) × (Nat → Int32) × (Nat → Int32) × (Nat → Int32) × (Nat → Int32) × (Nat → Int32) × (Nat → Int32) × (Nat → Int32) × (Nat → Int64) × (Nat → Int32) × (Nat → Int32) × (Int32) × (Int32)) :=
  ob1 (f_X6_blanks mo_text mo_size mo_at) (fun x1 =>
  if mo_ill = (-1 : Int32) then (if mo_size ≤ x1 then (f_X6_query_216 mo_code mo_text mo_taped mo_size x1 mo_ill mo_kept mo_now mo_many mo_itemKind mo_itemField mo_itemPlace mo_by mo_stepKind mo_stepField mo_stepOperator mo_stepOther mo_stepMany mo_literalType mo_literalFrom mo_literalSize mo_bytes mo_said mo_number mo_pile mo_pilePlace mo_top mo_open)
  else (ob1 (f_X6_fail x1 mo_ill) (fun x2 =>
  f_X6_query_216 mo_code mo_text mo_taped mo_size x1 x2 mo_kept mo_now mo_many mo_itemKind mo_itemField mo_itemPlace mo_by mo_stepKind mo_stepField mo_stepOperator mo_stepOther mo_stepMany mo_literalType mo_literalFrom mo_literalSize mo_bytes mo_said mo_number mo_pile mo_pilePlace mo_top mo_open)))
  else (f_X6_query_216 mo_code mo_text mo_taped mo_size x1 mo_ill mo_kept mo_now mo_many mo_itemKind mo_itemField mo_itemPlace mo_by mo_stepKind mo_stepField mo_stepOperator mo_stepOther mo_stepMany mo_literalType mo_literalFrom mo_literalSize mo_bytes mo_said mo_number mo_pile mo_pilePlace mo_top mo_open))
set_option maxHeartbeats 4000000 in
set_option maxRecDepth 100000 in
theorem w_X6_query_185 {p : Program} {l : Launch} {e : Env} {s : State} {m : MethodId} {args : Array Value} {below : List Frame} {meth : Method} {c : Code} {E : EnvT} {A : Nat → Prop} {a_mo : Nat → Nat} {mo_tape : Nat → Int32} {mo_in : Nat → Int32} {mo_kind : Nat → Int32} {mo_type : Nat → Int32} {mo_long1 : Nat → Int32} {mo_letters : Nat → Int32} {mo_fields : Int32} {r : Int32} {o_mo_code : Int32} {o_mo_text : Nat → Int32} {o_mo_taped : Int32} {o_mo_size : Int32} {o_mo_at : Int32} {o_mo_ill : Int32} {o_mo_kept : Int32} {o_mo_now : Int32} {o_mo_many : Nat → Int32} {o_mo_itemKind : Nat → Int32} {o_mo_itemField : Nat → Int32} {o_mo_itemPlace : Nat → Int32} {o_mo_by : Nat → Int32} {o_mo_stepKind : Nat → Int32} {o_mo_stepField : Nat → Int32} {o_mo_stepOperator : Nat → Int32} {o_mo_stepOther : Nat → Int32} {o_mo_stepMany : Nat → Int32} {o_mo_literalType : Nat → Int32} {o_mo_literalFrom : Nat → Int32} {o_mo_literalSize : Nat → Int32} {o_mo_bytes : Nat → Int32} {o_mo_said : Nat → Int32} {o_mo_number : Nat → Int64} {o_mo_pile : Nat → Int32} {o_mo_pilePlace : Nat → Int32} {o_mo_top : Int32} {o_mo_open : Int32} {mo_code : Int32} {mo_text : Nat → Int32} {mo_taped : Int32} {mo_size : Int32} {mo_at : Int32} {mo_ill : Int32} {mo_kept : Int32} {mo_now : Int32} {mo_many : Nat → Int32} {mo_itemKind : Nat → Int32} {mo_itemField : Nat → Int32} {mo_itemPlace : Nat → Int32} {mo_by : Nat → Int32} {mo_stepKind : Nat → Int32} {mo_stepField : Nat → Int32} {mo_stepOperator : Nat → Int32} {mo_stepOther : Nat → Int32} {mo_stepMany : Nat → Int32} {mo_literalType : Nat → Int32} {mo_literalFrom : Nat → Int32} {mo_literalSize : Nat → Int32} {mo_bytes : Nat → Int32} {mo_said : Nat → Int32} {mo_number : Nat → Int64} {mo_pile : Nat → Int32} {mo_pilePlace : Nat → Int32} {mo_top : Int32} {mo_open : Int32} {H : Heap} {locs : List Loc} {ls : Array Slot} (C : MC p s m args meth c E A cX6_query 4 RX6 (some .int)) (hw : WS E A s (w_mo E a_mo mo_code mo_tape mo_text mo_taped mo_size mo_at mo_ill mo_in mo_kind mo_type mo_long1 mo_letters mo_fields mo_kept mo_now mo_many mo_itemKind mo_itemField mo_itemPlace mo_by mo_stepKind mo_stepField mo_stepOperator mo_stepOther mo_stepMany mo_literalType mo_literalFrom mo_literalSize mo_bytes mo_said mo_number mo_pile mo_pilePlace mo_top mo_open) H locs) (hl : lv_has ls 4 [(0, .ref (a_mo 0))]) (hf : f_X6_query_185 mo_code mo_text mo_taped mo_size mo_at mo_ill mo_kept mo_now mo_many mo_itemKind mo_itemField mo_itemPlace mo_by mo_stepKind mo_stepField mo_stepOperator mo_stepOther mo_stepMany mo_literalType mo_literalFrom mo_literalSize mo_bytes mo_said mo_number mo_pile mo_pilePlace mo_top mo_open = some (r, o_mo_code, o_mo_text, o_mo_taped, o_mo_size, o_mo_at, o_mo_ill, o_mo_kept, o_mo_now, o_mo_many, o_mo_itemKind, o_mo_itemField, o_mo_itemPlace, o_mo_by, o_mo_stepKind, o_mo_stepField, o_mo_stepOperator, o_mo_stepOther, o_mo_stepMany, o_mo_literalType, o_mo_literalFrom, o_mo_literalSize, o_mo_bytes, o_mo_said, o_mo_number, o_mo_pile, o_mo_pilePlace, o_mo_top, o_mo_open)) : W p l e { frames := 9, cells := 0, slots := 0, locals := 206 } s m args below meth c H locs 0 0 (MQ below (QcI E A (w_mo E a_mo o_mo_code mo_tape o_mo_text o_mo_taped o_mo_size o_mo_at o_mo_ill mo_in mo_kind mo_type mo_long1 mo_letters mo_fields o_mo_kept o_mo_now o_mo_many o_mo_itemKind o_mo_itemField o_mo_itemPlace o_mo_by o_mo_stepKind o_mo_stepField o_mo_stepOperator o_mo_stepOther o_mo_stepMany o_mo_literalType o_mo_literalFrom o_mo_literalSize o_mo_bytes o_mo_said o_mo_number o_mo_pile o_mo_pilePlace o_mo_top o_mo_open) r) args s 0 0 A) (F0 m 185 ls []) := by
  have hx := C.1
  have hb := C.2.1
  unfold f_X6_query_185 at hf
  refine lv_aload_n hx hb dX6_query_185 rfl (lv_at hl 0 rfl) ?_
  obtain ⟨x1, z1, hf⟩ := ob1_el hf
  refine cV_V C hw (c_X6_blanks l E a_mo mo_code mo_tape mo_text mo_taped mo_size mo_at mo_ill mo_in mo_kind mo_type mo_long1 mo_letters mo_fields mo_kept mo_now mo_many mo_itemKind mo_itemField mo_itemPlace mo_by mo_stepKind mo_stepField mo_stepOperator mo_stepOther mo_stepMany mo_literalType mo_literalFrom mo_literalSize mo_bytes mo_said mo_number mo_pile mo_pilePlace mo_top mo_open x1 z1) cs_X6_130 ⟨Nat.le_of_ble_eq_true rfl, Nat.le_of_ble_eq_true rfl⟩ ⟨rfl, rfl⟩ (ci := 6) (cn := (RX6, TX6, 35)) rfl (q0 := 0) rfl (wn := w_mo E a_mo mo_code mo_tape mo_text mo_taped mo_size x1 mo_ill mo_in mo_kind mo_type mo_long1 mo_letters mo_fields mo_kept mo_now mo_many mo_itemKind mo_itemField mo_itemPlace mo_by mo_stepKind mo_stepField mo_stepOperator mo_stepOther mo_stepMany mo_literalType mo_literalFrom mo_literalSize mo_bytes mo_said mo_number mo_pile mo_pilePlace mo_top mo_open) (Jn.all _ _) rfl hl.1 rfl (Nat.le_of_ble_eq_true rfl) dX6_query_186 ⟨Nat.zero_le _, Nat.zero_le _⟩ (fun H locs hw => ?_)
  refine lv_aload_n hx hb dX6_query_189 rfl (lv_at hl 0 rfl) ?_
  refine fg_X6_102 C hw 0 rfl rfl dX6_query_190 ?_
  refine lv_iconst (v := -1) hx hb dX6_query_193 (by decide) ?_
  refine lv_icmp_ne (tgt := 216) hx hb dX6_query_194 (by decide) (fun c194 => ?_) (fun c194 => ?_)
  · replace hf := it_f c194 hf
    exact w_X6_query_216 C hw (lv_sub hl [0] rfl) hf
  · replace hf := it_t c194 hf
    refine lv_aload_n hx hb dX6_query_197 rfl (lv_at hl 0 rfl) ?_
    refine fg_X6_99 C hw 0 rfl rfl dX6_query_198 ?_
    refine lv_aload_n hx hb dX6_query_201 rfl (lv_at hl 0 rfl) ?_
    refine fg_X6_96 C hw 0 rfl rfl dX6_query_202 ?_
    refine lv_icmp_ge (tgt := 216) hx hb dX6_query_205 (by decide) (fun c205 => ?_) (fun c205 => ?_)
    · replace hf := it_t c205 hf
      exact w_X6_query_216 C hw (lv_sub hl [0] rfl) hf
    · replace hf := it_f c205 hf
      refine lv_aload_n hx hb dX6_query_208 rfl (lv_at hl 0 rfl) ?_
      refine lv_aload_n hx hb dX6_query_209 rfl (lv_at hl 0 rfl) ?_
      refine fg_X6_99 C hw 0 rfl rfl dX6_query_210 ?_
      obtain ⟨x2, z2, hf⟩ := ob1_el hf
      refine cV_V C hw (c_X6_fail l E a_mo mo_code mo_tape mo_text mo_taped mo_size x1 mo_ill mo_in mo_kind mo_type mo_long1 mo_letters mo_fields mo_kept mo_now mo_many mo_itemKind mo_itemField mo_itemPlace mo_by mo_stepKind mo_stepField mo_stepOperator mo_stepOther mo_stepMany mo_literalType mo_literalFrom mo_literalSize mo_bytes mo_said mo_number mo_pile mo_pilePlace mo_top mo_open x1 x2 z2) cs_X6_144 ⟨Nat.le_of_ble_eq_true rfl, Nat.le_of_ble_eq_true rfl⟩ ⟨rfl, rfl⟩ (ci := 6) (cn := (RX6, TX6, 35)) rfl (q0 := 0) rfl (wn := w_mo E a_mo mo_code mo_tape mo_text mo_taped mo_size x1 x2 mo_in mo_kind mo_type mo_long1 mo_letters mo_fields mo_kept mo_now mo_many mo_itemKind mo_itemField mo_itemPlace mo_by mo_stepKind mo_stepField mo_stepOperator mo_stepOther mo_stepMany mo_literalType mo_literalFrom mo_literalSize mo_bytes mo_said mo_number mo_pile mo_pilePlace mo_top mo_open) (Jn.all _ _) rfl hl.1 rfl (Nat.le_of_ble_eq_true rfl) dX6_query_213 ⟨Nat.zero_le _, Nat.zero_le _⟩ (fun H locs hw => ?_)
      exact w_X6_query_216 C hw (lv_sub hl [0] rfl) hf
def f_X6_query_169 : Nat → (Nat → Int32) → (Int32) → (Int32) → (Int32) → (Nat → Int32) → (Nat → Int32) → (Nat → Int32) → (Nat → Int32) → (Nat → Int32) → (Int32) → (Int32) → (Nat → Int32) → (Nat → Int32) → Option ((Int32) × (Int32) × (Nat → Int32) × (Nat → Int32))
  | 0, _, _, _, _, _, _, _, _, _, _, _, _, _ => none
  | n + 1, mo_text, mo_size, mo_at, mo_ill, mo_in, mo_kind, mo_type, mo_long1, mo_letters, mo_fields, mo_now, mo_many, mo_by =>
  ob2 (f_X6_takesSign (44 : Int32) mo_text mo_size mo_at mo_ill) (fun x1 x2 =>
  if x1 = (0 : Int32) then (some (x2, mo_ill, mo_many, mo_by))
  else (ob4 (f_X6_readBy mo_text mo_size x2 mo_ill mo_in mo_kind mo_type mo_long1 mo_letters mo_fields mo_now mo_many mo_by) (fun x3 x4 x5 x6 =>
  f_X6_query_169 n mo_text mo_size x3 x4 mo_in mo_kind mo_type mo_long1 mo_letters mo_fields mo_now x5 x6)))
set_option maxHeartbeats 4000000 in
set_option maxRecDepth 100000 in
theorem w_X6_query_169 {p : Program} {l : Launch} {e : Env} {s : State} {m : MethodId} {args : Array Value} {below : List Frame} {meth : Method} {c : Code} {E : EnvT} {A : Nat → Prop} {a_mo : Nat → Nat} {Q : State → Prop} {mo_code : Int32} {mo_tape : Nat → Int32} {mo_taped : Int32} {mo_kept : Int32} {mo_itemKind : Nat → Int32} {mo_itemField : Nat → Int32} {mo_itemPlace : Nat → Int32} {mo_stepKind : Nat → Int32} {mo_stepField : Nat → Int32} {mo_stepOperator : Nat → Int32} {mo_stepOther : Nat → Int32} {mo_stepMany : Nat → Int32} {mo_literalType : Nat → Int32} {mo_literalFrom : Nat → Int32} {mo_literalSize : Nat → Int32} {mo_bytes : Nat → Int32} {mo_said : Nat → Int32} {mo_number : Nat → Int64} {mo_pile : Nat → Int32} {mo_pilePlace : Nat → Int32} {mo_top : Int32} {mo_open : Int32} {q_mo_at : Int32} {q_mo_ill : Int32} {q_mo_many : Nat → Int32} {q_mo_by : Nat → Int32} (C : MC p s m args meth c E A cX6_query 4 RX6 (some .int)) : ∀ (n : Nat) {mo_text : Nat → Int32} {mo_size : Int32} {mo_at : Int32} {mo_ill : Int32} {mo_in : Nat → Int32} {mo_kind : Nat → Int32} {mo_type : Nat → Int32} {mo_long1 : Nat → Int32} {mo_letters : Nat → Int32} {mo_fields : Int32} {mo_now : Int32} {mo_many : Nat → Int32} {mo_by : Nat → Int32} {H : Heap} {locs : List Loc} {ls : Array Slot}, WS E A s (w_mo E a_mo mo_code mo_tape mo_text mo_taped mo_size mo_at mo_ill mo_in mo_kind mo_type mo_long1 mo_letters mo_fields mo_kept mo_now mo_many mo_itemKind mo_itemField mo_itemPlace mo_by mo_stepKind mo_stepField mo_stepOperator mo_stepOther mo_stepMany mo_literalType mo_literalFrom mo_literalSize mo_bytes mo_said mo_number mo_pile mo_pilePlace mo_top mo_open) H locs → lv_has ls 4 [(0, .ref (a_mo 0))] → f_X6_query_169 n mo_text mo_size mo_at mo_ill mo_in mo_kind mo_type mo_long1 mo_letters mo_fields mo_now mo_many mo_by = some (q_mo_at, q_mo_ill, q_mo_many, q_mo_by) → (∀ (H : Heap) (locs : List Loc) (ls : Array Slot), WS E A s (w_mo E a_mo mo_code mo_tape mo_text mo_taped mo_size q_mo_at q_mo_ill mo_in mo_kind mo_type mo_long1 mo_letters mo_fields mo_kept mo_now q_mo_many mo_itemKind mo_itemField mo_itemPlace q_mo_by mo_stepKind mo_stepField mo_stepOperator mo_stepOther mo_stepMany mo_literalType mo_literalFrom mo_literalSize mo_bytes mo_said mo_number mo_pile mo_pilePlace mo_top mo_open) H locs → lv_has ls 4 [(0, .ref (a_mo 0))] → W p l e { frames := 9, cells := 0, slots := 0, locals := 206 } s m args below meth c H locs 0 0 Q (F0 m 185 ls [])) → W p l e { frames := 9, cells := 0, slots := 0, locals := 206 } s m args below meth c H locs 0 0 Q (F0 m 169 ls []) := by
  have hx := C.1
  have hb := C.2.1
  intro n
  induction n with
  | zero =>
    intro mo_text mo_size mo_at mo_ill mo_in mo_kind mo_type mo_long1 mo_letters mo_fields mo_now mo_many mo_by H locs ls hw hl hf kk
    unfold f_X6_query_169 at hf
    cases hf
  | succ n ih =>
    intro mo_text mo_size mo_at mo_ill mo_in mo_kind mo_type mo_long1 mo_letters mo_fields mo_now mo_many mo_by H locs ls hw hl hf kk
    unfold f_X6_query_169 at hf
    refine lv_aload_n hx hb dX6_query_169 rfl (lv_at hl 0 rfl) ?_
    refine lv_bipush (v := 44) hx hb dX6_query_170 (by decide) ?_
    obtain ⟨x1, x2, z2, hf⟩ := ob2_el hf
    refine cI_V C hw (c_X6_takesSign l E a_mo mo_code mo_tape mo_text mo_taped mo_size mo_at mo_ill mo_in mo_kind mo_type mo_long1 mo_letters mo_fields mo_kept mo_now mo_many mo_itemKind mo_itemField mo_itemPlace mo_by mo_stepKind mo_stepField mo_stepOperator mo_stepOther mo_stepMany mo_literalType mo_literalFrom mo_literalSize mo_bytes mo_said mo_number mo_pile mo_pilePlace mo_top mo_open (44 : Int32) x1 x2 z2) cs_X6_141 ⟨Nat.le_of_ble_eq_true rfl, Nat.le_of_ble_eq_true rfl⟩ ⟨rfl, rfl⟩ (ci := 6) (cn := (RX6, TX6, 35)) rfl (q0 := 0) rfl (wn := w_mo E a_mo mo_code mo_tape mo_text mo_taped mo_size x2 mo_ill mo_in mo_kind mo_type mo_long1 mo_letters mo_fields mo_kept mo_now mo_many mo_itemKind mo_itemField mo_itemPlace mo_by mo_stepKind mo_stepField mo_stepOperator mo_stepOther mo_stepMany mo_literalType mo_literalFrom mo_literalSize mo_bytes mo_said mo_number mo_pile mo_pilePlace mo_top mo_open) (Jn.all _ _) rfl hl.1 rfl (Nat.le_of_ble_eq_true rfl) dX6_query_172 ⟨Nat.zero_le _, Nat.zero_le _⟩ (fun H locs hw => ?_)
    refine lv_if_eq (tgt := 185) hx hb dX6_query_175 (by decide) (fun c175 => ?_) (fun c175 => ?_)
    · replace hf := it_t c175 hf
      cases hf
      exact kk _ _ _ hw (lv_sub hl [0] rfl)
    · replace hf := it_f c175 hf
      refine lv_aload_n hx hb dX6_query_178 rfl (lv_at hl 0 rfl) ?_
      obtain ⟨x3, x4, x5, x6, z6, hf⟩ := ob4_el hf
      refine cV_V C hw (c_X6_readBy l E a_mo mo_code mo_tape mo_text mo_taped mo_size x2 mo_ill mo_in mo_kind mo_type mo_long1 mo_letters mo_fields mo_kept mo_now mo_many mo_itemKind mo_itemField mo_itemPlace mo_by mo_stepKind mo_stepField mo_stepOperator mo_stepOther mo_stepMany mo_literalType mo_literalFrom mo_literalSize mo_bytes mo_said mo_number mo_pile mo_pilePlace mo_top mo_open x3 x4 x5 x6 z6) cs_X6_259 ⟨Nat.le_of_ble_eq_true rfl, Nat.le_of_ble_eq_true rfl⟩ ⟨rfl, rfl⟩ (ci := 6) (cn := (RX6, TX6, 35)) rfl (q0 := 0) rfl (wn := w_mo E a_mo mo_code mo_tape mo_text mo_taped mo_size x3 x4 mo_in mo_kind mo_type mo_long1 mo_letters mo_fields mo_kept mo_now x5 mo_itemKind mo_itemField mo_itemPlace x6 mo_stepKind mo_stepField mo_stepOperator mo_stepOther mo_stepMany mo_literalType mo_literalFrom mo_literalSize mo_bytes mo_said mo_number mo_pile mo_pilePlace mo_top mo_open) (Jn.all _ _) rfl hl.1 rfl (Nat.le_of_ble_eq_true rfl) dX6_query_179 ⟨Nat.zero_le _, Nat.zero_le _⟩ (fun H locs hw => ?_)
      refine lv_goto (tgt := 169) hx hb dX6_query_182 (by decide) ?_
      exact ih hw (lv_sub hl [0] rfl) hf kk
def f_X6_query_157 (mo_code : Int32) (mo_text : Nat → Int32) (mo_taped : Int32) (mo_size : Int32) (mo_at : Int32) (mo_ill : Int32) (mo_in : Nat → Int32) (mo_kind : Nat → Int32) (mo_type : Nat → Int32) (mo_long1 : Nat → Int32) (mo_letters : Nat → Int32) (mo_fields : Int32) (mo_kept : Int32) (mo_now : Int32) (mo_many : Nat → Int32) (mo_itemKind : Nat → Int32) (mo_itemField : Nat → Int32) (mo_itemPlace : Nat → Int32) (mo_by : Nat → Int32) (mo_stepKind : Nat → Int32) (mo_stepField : Nat → Int32) (mo_stepOperator : Nat → Int32) (mo_stepOther : Nat → Int32) (mo_stepMany : Nat → Int32) (mo_literalType : Nat → Int32) (mo_literalFrom : Nat → Int32) (mo_literalSize : Nat → Int32) (mo_bytes : Nat → Int32) (mo_said : Nat → Int32) (mo_number : Nat → Int64) (mo_pile : Nat → Int32) (mo_pilePlace : Nat → Int32) (mo_top : Int32) (mo_open : Int32) : Option ((Int32) × (Int32) × (Nat → Int32) × (Int32) × (Int32) × (Int32) × (Int32) × (Int32) × (Int32) × (Nat → Int32) × (Nat → Int32) × (Nat → Int32) × (Nat → Int32) × (Nat → Int32) × (Nat → Int32) × (Nat → Int32) × (Nat → Int32) × (Nat → Int32) × (Nat → Int32) × (Nat → Int32) × (Nat → Int32) × (Nat → Int32) × (Nat → Int32) × (Nat → Int32) × (Nat → Int64) × (Nat → Int32) × (Nat → Int32) × (Int32) × (Int32)) :=
  if mo_ill = (-1 : Int32) then (ob4 (f_X6_readBy mo_text mo_size mo_at mo_ill mo_in mo_kind mo_type mo_long1 mo_letters mo_fields mo_now mo_many mo_by) (fun x5 x6 x7 x8 =>
  ob4 (f_X6_query_169 FU mo_text mo_size x5 x6 mo_in mo_kind mo_type mo_long1 mo_letters mo_fields mo_now x7 x8) (fun x9 x10 x11 x12 =>
  f_X6_query_185 mo_code mo_text mo_taped mo_size x9 x10 mo_kept mo_now x11 mo_itemKind mo_itemField mo_itemPlace x12 mo_stepKind mo_stepField mo_stepOperator mo_stepOther mo_stepMany mo_literalType mo_literalFrom mo_literalSize mo_bytes mo_said mo_number mo_pile mo_pilePlace mo_top mo_open)))
  else (ob4 (f_X6_query_169 FU mo_text mo_size mo_at mo_ill mo_in mo_kind mo_type mo_long1 mo_letters mo_fields mo_now mo_many mo_by) (fun x1 x2 x3 x4 =>
  f_X6_query_185 mo_code mo_text mo_taped mo_size x1 x2 mo_kept mo_now x3 mo_itemKind mo_itemField mo_itemPlace x4 mo_stepKind mo_stepField mo_stepOperator mo_stepOther mo_stepMany mo_literalType mo_literalFrom mo_literalSize mo_bytes mo_said mo_number mo_pile mo_pilePlace mo_top mo_open))
set_option maxHeartbeats 4000000 in
set_option maxRecDepth 100000 in
theorem w_X6_query_157 {p : Program} {l : Launch} {e : Env} {s : State} {m : MethodId} {args : Array Value} {below : List Frame} {meth : Method} {c : Code} {E : EnvT} {A : Nat → Prop} {a_mo : Nat → Nat} {mo_tape : Nat → Int32} {r : Int32} {o_mo_code : Int32} {o_mo_text : Nat → Int32} {o_mo_taped : Int32} {o_mo_size : Int32} {o_mo_at : Int32} {o_mo_ill : Int32} {o_mo_kept : Int32} {o_mo_now : Int32} {o_mo_many : Nat → Int32} {o_mo_itemKind : Nat → Int32} {o_mo_itemField : Nat → Int32} {o_mo_itemPlace : Nat → Int32} {o_mo_by : Nat → Int32} {o_mo_stepKind : Nat → Int32} {o_mo_stepField : Nat → Int32} {o_mo_stepOperator : Nat → Int32} {o_mo_stepOther : Nat → Int32} {o_mo_stepMany : Nat → Int32} {o_mo_literalType : Nat → Int32} {o_mo_literalFrom : Nat → Int32} {o_mo_literalSize : Nat → Int32} {o_mo_bytes : Nat → Int32} {o_mo_said : Nat → Int32} {o_mo_number : Nat → Int64} {o_mo_pile : Nat → Int32} {o_mo_pilePlace : Nat → Int32} {o_mo_top : Int32} {o_mo_open : Int32} {mo_code : Int32} {mo_text : Nat → Int32} {mo_taped : Int32} {mo_size : Int32} {mo_at : Int32} {mo_ill : Int32} {mo_in : Nat → Int32} {mo_kind : Nat → Int32} {mo_type : Nat → Int32} {mo_long1 : Nat → Int32} {mo_letters : Nat → Int32} {mo_fields : Int32} {mo_kept : Int32} {mo_now : Int32} {mo_many : Nat → Int32} {mo_itemKind : Nat → Int32} {mo_itemField : Nat → Int32} {mo_itemPlace : Nat → Int32} {mo_by : Nat → Int32} {mo_stepKind : Nat → Int32} {mo_stepField : Nat → Int32} {mo_stepOperator : Nat → Int32} {mo_stepOther : Nat → Int32} {mo_stepMany : Nat → Int32} {mo_literalType : Nat → Int32} {mo_literalFrom : Nat → Int32} {mo_literalSize : Nat → Int32} {mo_bytes : Nat → Int32} {mo_said : Nat → Int32} {mo_number : Nat → Int64} {mo_pile : Nat → Int32} {mo_pilePlace : Nat → Int32} {mo_top : Int32} {mo_open : Int32} {H : Heap} {locs : List Loc} {ls : Array Slot} (C : MC p s m args meth c E A cX6_query 4 RX6 (some .int)) (hw : WS E A s (w_mo E a_mo mo_code mo_tape mo_text mo_taped mo_size mo_at mo_ill mo_in mo_kind mo_type mo_long1 mo_letters mo_fields mo_kept mo_now mo_many mo_itemKind mo_itemField mo_itemPlace mo_by mo_stepKind mo_stepField mo_stepOperator mo_stepOther mo_stepMany mo_literalType mo_literalFrom mo_literalSize mo_bytes mo_said mo_number mo_pile mo_pilePlace mo_top mo_open) H locs) (hl : lv_has ls 4 [(0, .ref (a_mo 0))]) (hf : f_X6_query_157 mo_code mo_text mo_taped mo_size mo_at mo_ill mo_in mo_kind mo_type mo_long1 mo_letters mo_fields mo_kept mo_now mo_many mo_itemKind mo_itemField mo_itemPlace mo_by mo_stepKind mo_stepField mo_stepOperator mo_stepOther mo_stepMany mo_literalType mo_literalFrom mo_literalSize mo_bytes mo_said mo_number mo_pile mo_pilePlace mo_top mo_open = some (r, o_mo_code, o_mo_text, o_mo_taped, o_mo_size, o_mo_at, o_mo_ill, o_mo_kept, o_mo_now, o_mo_many, o_mo_itemKind, o_mo_itemField, o_mo_itemPlace, o_mo_by, o_mo_stepKind, o_mo_stepField, o_mo_stepOperator, o_mo_stepOther, o_mo_stepMany, o_mo_literalType, o_mo_literalFrom, o_mo_literalSize, o_mo_bytes, o_mo_said, o_mo_number, o_mo_pile, o_mo_pilePlace, o_mo_top, o_mo_open)) : W p l e { frames := 9, cells := 0, slots := 0, locals := 206 } s m args below meth c H locs 0 0 (MQ below (QcI E A (w_mo E a_mo o_mo_code mo_tape o_mo_text o_mo_taped o_mo_size o_mo_at o_mo_ill mo_in mo_kind mo_type mo_long1 mo_letters mo_fields o_mo_kept o_mo_now o_mo_many o_mo_itemKind o_mo_itemField o_mo_itemPlace o_mo_by o_mo_stepKind o_mo_stepField o_mo_stepOperator o_mo_stepOther o_mo_stepMany o_mo_literalType o_mo_literalFrom o_mo_literalSize o_mo_bytes o_mo_said o_mo_number o_mo_pile o_mo_pilePlace o_mo_top o_mo_open) r) args s 0 0 A) (F0 m 157 ls []) := by
  have hx := C.1
  have hb := C.2.1
  unfold f_X6_query_157 at hf
  refine lv_aload_n hx hb dX6_query_157 rfl (lv_at hl 0 rfl) ?_
  refine fg_X6_102 C hw 0 rfl rfl dX6_query_158 ?_
  refine lv_iconst (v := -1) hx hb dX6_query_161 (by decide) ?_
  refine lv_icmp_ne (tgt := 169) hx hb dX6_query_162 (by decide) (fun c162 => ?_) (fun c162 => ?_)
  · replace hf := it_f c162 hf
    obtain ⟨x1, x2, x3, x4, hx1, hf⟩ := ob4_el hf
    refine w_X6_query_169 C FU hw (lv_sub hl [0] rfl) hx1 ?_
    clear hw hl
    intro H locs ls hw hl
    exact w_X6_query_185 C hw (lv_sub hl [0] rfl) hf
  · replace hf := it_t c162 hf
    refine lv_aload_n hx hb dX6_query_165 rfl (lv_at hl 0 rfl) ?_
    obtain ⟨x5, x6, x7, x8, z8, hf⟩ := ob4_el hf
    refine cV_V C hw (c_X6_readBy l E a_mo mo_code mo_tape mo_text mo_taped mo_size mo_at mo_ill mo_in mo_kind mo_type mo_long1 mo_letters mo_fields mo_kept mo_now mo_many mo_itemKind mo_itemField mo_itemPlace mo_by mo_stepKind mo_stepField mo_stepOperator mo_stepOther mo_stepMany mo_literalType mo_literalFrom mo_literalSize mo_bytes mo_said mo_number mo_pile mo_pilePlace mo_top mo_open x5 x6 x7 x8 z8) cs_X6_259 ⟨Nat.le_of_ble_eq_true rfl, Nat.le_of_ble_eq_true rfl⟩ ⟨rfl, rfl⟩ (ci := 6) (cn := (RX6, TX6, 35)) rfl (q0 := 0) rfl (wn := w_mo E a_mo mo_code mo_tape mo_text mo_taped mo_size x5 x6 mo_in mo_kind mo_type mo_long1 mo_letters mo_fields mo_kept mo_now x7 mo_itemKind mo_itemField mo_itemPlace x8 mo_stepKind mo_stepField mo_stepOperator mo_stepOther mo_stepMany mo_literalType mo_literalFrom mo_literalSize mo_bytes mo_said mo_number mo_pile mo_pilePlace mo_top mo_open) (Jn.all _ _) rfl hl.1 rfl (Nat.le_of_ble_eq_true rfl) dX6_query_166 ⟨Nat.zero_le _, Nat.zero_le _⟩ (fun H locs hw => ?_)
    obtain ⟨x9, x10, x11, x12, hx9, hf⟩ := ob4_el hf
    refine w_X6_query_169 C FU hw (lv_sub hl [0] rfl) hx9 ?_
    clear hw hl
    intro H locs ls hw hl
    exact w_X6_query_185 C hw (lv_sub hl [0] rfl) hf
def f_X6_query_129 (mo_code : Int32) (mo_text : Nat → Int32) (mo_taped : Int32) (mo_size : Int32) (mo_at : Int32) (mo_ill : Int32) (mo_in : Nat → Int32) (mo_kind : Nat → Int32) (mo_type : Nat → Int32) (mo_long1 : Nat → Int32) (mo_letters : Nat → Int32) (mo_fields : Int32) (mo_kept : Int32) (mo_now : Int32) (mo_many : Nat → Int32) (mo_itemKind : Nat → Int32) (mo_itemField : Nat → Int32) (mo_itemPlace : Nat → Int32) (mo_by : Nat → Int32) (mo_stepKind : Nat → Int32) (mo_stepField : Nat → Int32) (mo_stepOperator : Nat → Int32) (mo_stepOther : Nat → Int32) (mo_stepMany : Nat → Int32) (mo_literalType : Nat → Int32) (mo_literalFrom : Nat → Int32) (mo_literalSize : Nat → Int32) (mo_bytes : Nat → Int32) (mo_said : Nat → Int32) (mo_number : Nat → Int64) (mo_pile : Nat → Int32) (mo_pilePlace : Nat → Int32) (mo_top : Int32) (mo_open : Int32) : Option ((Int32) × (Int32) × (Nat → Int32) × (Int32) × (Int32) × (Int32) × (Int32) × (Int32) × (Int32) × (Nat → Int32) × (Nat → Int32) × (Nat → Int32) × (Nat → Int32) × (Nat → Int32) × (Nat → Int32) × (Nat → Int32) × (Nat → Int32) × (Nat → Int32) × (Nat → Int32) × (Nat → Int32) × (Nat → Int32) × (Nat → Int32) × (Nat → Int32) × (Nat → Int32) × (Nat → Int64) × (Nat → Int32) × (Nat → Int32) × (Int32) × (Int32)) :=
  ob2 (f_X6_takesWord (444301538672 : Int64) mo_text mo_size mo_at mo_ill) (fun x1 x2 =>
  if x1 = (0 : Int32) then (f_X6_query_185 mo_code mo_text mo_taped mo_size x2 mo_ill mo_kept mo_now mo_many mo_itemKind mo_itemField mo_itemPlace mo_by mo_stepKind mo_stepField mo_stepOperator mo_stepOther mo_stepMany mo_literalType mo_literalFrom mo_literalSize mo_bytes mo_said mo_number mo_pile mo_pilePlace mo_top mo_open)
  else (ob2 (f_X6_takesWord (25209 : Int64) mo_text mo_size x2 mo_ill) (fun x3 x4 =>
  if x3 = (0 : Int32) then (ob1 (f_X6_fail x4 mo_ill) (fun x5 =>
  f_X6_query_157 mo_code mo_text mo_taped mo_size x4 x5 mo_in mo_kind mo_type mo_long1 mo_letters mo_fields mo_kept mo_now mo_many mo_itemKind mo_itemField mo_itemPlace mo_by mo_stepKind mo_stepField mo_stepOperator mo_stepOther mo_stepMany mo_literalType mo_literalFrom mo_literalSize mo_bytes mo_said mo_number mo_pile mo_pilePlace mo_top mo_open))
  else (f_X6_query_157 mo_code mo_text mo_taped mo_size x4 mo_ill mo_in mo_kind mo_type mo_long1 mo_letters mo_fields mo_kept mo_now mo_many mo_itemKind mo_itemField mo_itemPlace mo_by mo_stepKind mo_stepField mo_stepOperator mo_stepOther mo_stepMany mo_literalType mo_literalFrom mo_literalSize mo_bytes mo_said mo_number mo_pile mo_pilePlace mo_top mo_open))))
set_option maxHeartbeats 4000000 in
set_option maxRecDepth 100000 in
theorem w_X6_query_129 {p : Program} {l : Launch} {e : Env} {s : State} {m : MethodId} {args : Array Value} {below : List Frame} {meth : Method} {c : Code} {E : EnvT} {A : Nat → Prop} {a_mo : Nat → Nat} {mo_tape : Nat → Int32} {r : Int32} {o_mo_code : Int32} {o_mo_text : Nat → Int32} {o_mo_taped : Int32} {o_mo_size : Int32} {o_mo_at : Int32} {o_mo_ill : Int32} {o_mo_kept : Int32} {o_mo_now : Int32} {o_mo_many : Nat → Int32} {o_mo_itemKind : Nat → Int32} {o_mo_itemField : Nat → Int32} {o_mo_itemPlace : Nat → Int32} {o_mo_by : Nat → Int32} {o_mo_stepKind : Nat → Int32} {o_mo_stepField : Nat → Int32} {o_mo_stepOperator : Nat → Int32} {o_mo_stepOther : Nat → Int32} {o_mo_stepMany : Nat → Int32} {o_mo_literalType : Nat → Int32} {o_mo_literalFrom : Nat → Int32} {o_mo_literalSize : Nat → Int32} {o_mo_bytes : Nat → Int32} {o_mo_said : Nat → Int32} {o_mo_number : Nat → Int64} {o_mo_pile : Nat → Int32} {o_mo_pilePlace : Nat → Int32} {o_mo_top : Int32} {o_mo_open : Int32} {mo_code : Int32} {mo_text : Nat → Int32} {mo_taped : Int32} {mo_size : Int32} {mo_at : Int32} {mo_ill : Int32} {mo_in : Nat → Int32} {mo_kind : Nat → Int32} {mo_type : Nat → Int32} {mo_long1 : Nat → Int32} {mo_letters : Nat → Int32} {mo_fields : Int32} {mo_kept : Int32} {mo_now : Int32} {mo_many : Nat → Int32} {mo_itemKind : Nat → Int32} {mo_itemField : Nat → Int32} {mo_itemPlace : Nat → Int32} {mo_by : Nat → Int32} {mo_stepKind : Nat → Int32} {mo_stepField : Nat → Int32} {mo_stepOperator : Nat → Int32} {mo_stepOther : Nat → Int32} {mo_stepMany : Nat → Int32} {mo_literalType : Nat → Int32} {mo_literalFrom : Nat → Int32} {mo_literalSize : Nat → Int32} {mo_bytes : Nat → Int32} {mo_said : Nat → Int32} {mo_number : Nat → Int64} {mo_pile : Nat → Int32} {mo_pilePlace : Nat → Int32} {mo_top : Int32} {mo_open : Int32} {H : Heap} {locs : List Loc} {ls : Array Slot} (C : MC p s m args meth c E A cX6_query 4 RX6 (some .int)) (hw : WS E A s (w_mo E a_mo mo_code mo_tape mo_text mo_taped mo_size mo_at mo_ill mo_in mo_kind mo_type mo_long1 mo_letters mo_fields mo_kept mo_now mo_many mo_itemKind mo_itemField mo_itemPlace mo_by mo_stepKind mo_stepField mo_stepOperator mo_stepOther mo_stepMany mo_literalType mo_literalFrom mo_literalSize mo_bytes mo_said mo_number mo_pile mo_pilePlace mo_top mo_open) H locs) (hl : lv_has ls 4 [(0, .ref (a_mo 0))]) (hf : f_X6_query_129 mo_code mo_text mo_taped mo_size mo_at mo_ill mo_in mo_kind mo_type mo_long1 mo_letters mo_fields mo_kept mo_now mo_many mo_itemKind mo_itemField mo_itemPlace mo_by mo_stepKind mo_stepField mo_stepOperator mo_stepOther mo_stepMany mo_literalType mo_literalFrom mo_literalSize mo_bytes mo_said mo_number mo_pile mo_pilePlace mo_top mo_open = some (r, o_mo_code, o_mo_text, o_mo_taped, o_mo_size, o_mo_at, o_mo_ill, o_mo_kept, o_mo_now, o_mo_many, o_mo_itemKind, o_mo_itemField, o_mo_itemPlace, o_mo_by, o_mo_stepKind, o_mo_stepField, o_mo_stepOperator, o_mo_stepOther, o_mo_stepMany, o_mo_literalType, o_mo_literalFrom, o_mo_literalSize, o_mo_bytes, o_mo_said, o_mo_number, o_mo_pile, o_mo_pilePlace, o_mo_top, o_mo_open)) : W p l e { frames := 9, cells := 0, slots := 0, locals := 206 } s m args below meth c H locs 0 0 (MQ below (QcI E A (w_mo E a_mo o_mo_code mo_tape o_mo_text o_mo_taped o_mo_size o_mo_at o_mo_ill mo_in mo_kind mo_type mo_long1 mo_letters mo_fields o_mo_kept o_mo_now o_mo_many o_mo_itemKind o_mo_itemField o_mo_itemPlace o_mo_by o_mo_stepKind o_mo_stepField o_mo_stepOperator o_mo_stepOther o_mo_stepMany o_mo_literalType o_mo_literalFrom o_mo_literalSize o_mo_bytes o_mo_said o_mo_number o_mo_pile o_mo_pilePlace o_mo_top o_mo_open) r) args s 0 0 A) (F0 m 129 ls []) := by
  have hx := C.1
  have hb := C.2.1
  unfold f_X6_query_129 at hf
  refine lv_aload_n hx hb dX6_query_129 rfl (lv_at hl 0 rfl) ?_
  refine rc2 C mw_785 dX6_query_130 ?_
  obtain ⟨x1, x2, z2, hf⟩ := ob2_el hf
  refine cI_V C hw (c_X6_takesWord l E a_mo mo_code mo_tape mo_text mo_taped mo_size mo_at mo_ill mo_in mo_kind mo_type mo_long1 mo_letters mo_fields mo_kept mo_now mo_many mo_itemKind mo_itemField mo_itemPlace mo_by mo_stepKind mo_stepField mo_stepOperator mo_stepOther mo_stepMany mo_literalType mo_literalFrom mo_literalSize mo_bytes mo_said mo_number mo_pile mo_pilePlace mo_top mo_open (444301538672 : Int64) x1 x2 z2) cs_X6_192 ⟨Nat.le_of_ble_eq_true rfl, Nat.le_of_ble_eq_true rfl⟩ ⟨rfl, rfl⟩ (ci := 6) (cn := (RX6, TX6, 35)) rfl (q0 := 0) rfl (wn := w_mo E a_mo mo_code mo_tape mo_text mo_taped mo_size x2 mo_ill mo_in mo_kind mo_type mo_long1 mo_letters mo_fields mo_kept mo_now mo_many mo_itemKind mo_itemField mo_itemPlace mo_by mo_stepKind mo_stepField mo_stepOperator mo_stepOther mo_stepMany mo_literalType mo_literalFrom mo_literalSize mo_bytes mo_said mo_number mo_pile mo_pilePlace mo_top mo_open) (Jn.all _ _) rfl hl.1 rfl (Nat.le_of_ble_eq_true rfl) dX6_query_133 ⟨Nat.zero_le _, Nat.zero_le _⟩ (fun H locs hw => ?_)
  refine lv_if_eq (tgt := 185) hx hb dX6_query_136 (by decide) (fun c136 => ?_) (fun c136 => ?_)
  · replace hf := it_t c136 hf
    exact w_X6_query_185 C hw (lv_sub hl [0] rfl) hf
  · replace hf := it_f c136 hf
    refine lv_aload_n hx hb dX6_query_139 rfl (lv_at hl 0 rfl) ?_
    refine rc2 C mw_786 dX6_query_140 ?_
    obtain ⟨x3, x4, z4, hf⟩ := ob2_el hf
    refine cI_V C hw (c_X6_takesWord l E a_mo mo_code mo_tape mo_text mo_taped mo_size x2 mo_ill mo_in mo_kind mo_type mo_long1 mo_letters mo_fields mo_kept mo_now mo_many mo_itemKind mo_itemField mo_itemPlace mo_by mo_stepKind mo_stepField mo_stepOperator mo_stepOther mo_stepMany mo_literalType mo_literalFrom mo_literalSize mo_bytes mo_said mo_number mo_pile mo_pilePlace mo_top mo_open (25209 : Int64) x3 x4 z4) cs_X6_192 ⟨Nat.le_of_ble_eq_true rfl, Nat.le_of_ble_eq_true rfl⟩ ⟨rfl, rfl⟩ (ci := 6) (cn := (RX6, TX6, 35)) rfl (q0 := 0) rfl (wn := w_mo E a_mo mo_code mo_tape mo_text mo_taped mo_size x4 mo_ill mo_in mo_kind mo_type mo_long1 mo_letters mo_fields mo_kept mo_now mo_many mo_itemKind mo_itemField mo_itemPlace mo_by mo_stepKind mo_stepField mo_stepOperator mo_stepOther mo_stepMany mo_literalType mo_literalFrom mo_literalSize mo_bytes mo_said mo_number mo_pile mo_pilePlace mo_top mo_open) (Jn.all _ _) rfl hl.1 rfl (Nat.le_of_ble_eq_true rfl) dX6_query_143 ⟨Nat.zero_le _, Nat.zero_le _⟩ (fun H locs hw => ?_)
    refine lv_if_ne (tgt := 157) hx hb dX6_query_146 (by decide) (fun c146 => ?_) (fun c146 => ?_)
    · replace hf := it_f c146 hf
      exact w_X6_query_157 C hw (lv_sub hl [0] rfl) hf
    · replace hf := it_t c146 hf
      refine lv_aload_n hx hb dX6_query_149 rfl (lv_at hl 0 rfl) ?_
      refine lv_aload_n hx hb dX6_query_150 rfl (lv_at hl 0 rfl) ?_
      refine fg_X6_99 C hw 0 rfl rfl dX6_query_151 ?_
      obtain ⟨x5, z5, hf⟩ := ob1_el hf
      refine cV_V C hw (c_X6_fail l E a_mo mo_code mo_tape mo_text mo_taped mo_size x4 mo_ill mo_in mo_kind mo_type mo_long1 mo_letters mo_fields mo_kept mo_now mo_many mo_itemKind mo_itemField mo_itemPlace mo_by mo_stepKind mo_stepField mo_stepOperator mo_stepOther mo_stepMany mo_literalType mo_literalFrom mo_literalSize mo_bytes mo_said mo_number mo_pile mo_pilePlace mo_top mo_open x4 x5 z5) cs_X6_144 ⟨Nat.le_of_ble_eq_true rfl, Nat.le_of_ble_eq_true rfl⟩ ⟨rfl, rfl⟩ (ci := 6) (cn := (RX6, TX6, 35)) rfl (q0 := 0) rfl (wn := w_mo E a_mo mo_code mo_tape mo_text mo_taped mo_size x4 x5 mo_in mo_kind mo_type mo_long1 mo_letters mo_fields mo_kept mo_now mo_many mo_itemKind mo_itemField mo_itemPlace mo_by mo_stepKind mo_stepField mo_stepOperator mo_stepOther mo_stepMany mo_literalType mo_literalFrom mo_literalSize mo_bytes mo_said mo_number mo_pile mo_pilePlace mo_top mo_open) (Jn.all _ _) rfl hl.1 rfl (Nat.le_of_ble_eq_true rfl) dX6_query_154 ⟨Nat.zero_le _, Nat.zero_le _⟩ (fun H locs hw => ?_)
      exact w_X6_query_157 C hw (lv_sub hl [0] rfl) hf
def f_X6_query_87 (mo_code : Int32) (mo_text : Nat → Int32) (mo_taped : Int32) (mo_size : Int32) (mo_at : Int32) (mo_ill : Int32) (mo_in : Nat → Int32) (mo_kind : Nat → Int32) (mo_type : Nat → Int32) (mo_long1 : Nat → Int32) (mo_letters : Nat → Int32) (mo_fields : Int32) (mo_kept : Int32) (mo_now : Int32) (mo_many : Nat → Int32) (mo_itemKind : Nat → Int32) (mo_itemField : Nat → Int32) (mo_itemPlace : Nat → Int32) (mo_by : Nat → Int32) (mo_stepKind : Nat → Int32) (mo_stepField : Nat → Int32) (mo_stepOperator : Nat → Int32) (mo_stepOther : Nat → Int32) (mo_stepMany : Nat → Int32) (mo_literalType : Nat → Int32) (mo_literalFrom : Nat → Int32) (mo_literalSize : Nat → Int32) (mo_bytes : Nat → Int32) (mo_said : Nat → Int32) (mo_number : Nat → Int64) (mo_pile : Nat → Int32) (mo_pilePlace : Nat → Int32) (mo_top : Int32) (mo_open : Int32) : Option ((Int32) × (Int32) × (Nat → Int32) × (Int32) × (Int32) × (Int32) × (Int32) × (Int32) × (Int32) × (Nat → Int32) × (Nat → Int32) × (Nat → Int32) × (Nat → Int32) × (Nat → Int32) × (Nat → Int32) × (Nat → Int32) × (Nat → Int32) × (Nat → Int32) × (Nat → Int32) × (Nat → Int32) × (Nat → Int32) × (Nat → Int32) × (Nat → Int32) × (Nat → Int32) × (Nat → Int64) × (Nat → Int32) × (Nat → Int32) × (Int32) × (Int32)) :=
  if mo_ill = (-1 : Int32) then (ob6 (f_X6_readItem mo_text mo_size mo_at mo_ill mo_in mo_kind mo_type mo_long1 mo_letters mo_fields mo_now mo_many mo_itemKind mo_itemField mo_itemPlace) (fun x27 x28 x29 x30 x31 x32 =>
  ob6 (f_X6_query_99 FU mo_text mo_size x27 x28 mo_in mo_kind mo_type mo_long1 mo_letters mo_fields mo_now x29 x30 x31 x32) (fun x33 x34 x35 x36 x37 x38 =>
  ob2 (f_X6_takesWord (512852587109 : Int64) mo_text mo_size x33 x34) (fun x39 x40 =>
  if x39 = (0 : Int32) then (f_X6_query_129 mo_code mo_text mo_taped mo_size x40 x34 mo_in mo_kind mo_type mo_long1 mo_letters mo_fields mo_kept mo_now x35 x36 x37 x38 mo_by mo_stepKind mo_stepField mo_stepOperator mo_stepOther mo_stepMany mo_literalType mo_literalFrom mo_literalSize mo_bytes mo_said mo_number mo_pile mo_pilePlace mo_top mo_open)
  else (ob18 (f_X6_readCondition mo_text mo_size x40 x34 mo_in mo_kind mo_type mo_long1 mo_letters mo_fields mo_now x35 mo_stepKind mo_stepField mo_stepOperator mo_stepOther mo_stepMany mo_literalType mo_literalFrom mo_literalSize mo_bytes mo_said mo_number mo_pile mo_pilePlace mo_top mo_open) (fun x41 x42 x43 x44 x45 x46 x47 x48 x49 x50 x51 x52 x53 x54 x55 x56 x57 x58 =>
  f_X6_query_129 mo_code mo_text mo_taped mo_size x41 x42 mo_in mo_kind mo_type mo_long1 mo_letters mo_fields mo_kept mo_now x43 x36 x37 x38 mo_by x44 x45 x46 x47 x48 x49 x50 x51 x52 x53 x54 x55 x56 x57 x58))))))
  else (ob6 (f_X6_query_99 FU mo_text mo_size mo_at mo_ill mo_in mo_kind mo_type mo_long1 mo_letters mo_fields mo_now mo_many mo_itemKind mo_itemField mo_itemPlace) (fun x1 x2 x3 x4 x5 x6 =>
  ob2 (f_X6_takesWord (512852587109 : Int64) mo_text mo_size x1 x2) (fun x7 x8 =>
  if x7 = (0 : Int32) then (f_X6_query_129 mo_code mo_text mo_taped mo_size x8 x2 mo_in mo_kind mo_type mo_long1 mo_letters mo_fields mo_kept mo_now x3 x4 x5 x6 mo_by mo_stepKind mo_stepField mo_stepOperator mo_stepOther mo_stepMany mo_literalType mo_literalFrom mo_literalSize mo_bytes mo_said mo_number mo_pile mo_pilePlace mo_top mo_open)
  else (ob18 (f_X6_readCondition mo_text mo_size x8 x2 mo_in mo_kind mo_type mo_long1 mo_letters mo_fields mo_now x3 mo_stepKind mo_stepField mo_stepOperator mo_stepOther mo_stepMany mo_literalType mo_literalFrom mo_literalSize mo_bytes mo_said mo_number mo_pile mo_pilePlace mo_top mo_open) (fun x9 x10 x11 x12 x13 x14 x15 x16 x17 x18 x19 x20 x21 x22 x23 x24 x25 x26 =>
  f_X6_query_129 mo_code mo_text mo_taped mo_size x9 x10 mo_in mo_kind mo_type mo_long1 mo_letters mo_fields mo_kept mo_now x11 x4 x5 x6 mo_by x12 x13 x14 x15 x16 x17 x18 x19 x20 x21 x22 x23 x24 x25 x26)))))
set_option maxHeartbeats 4000000 in
set_option maxRecDepth 100000 in
theorem w_X6_query_87 {p : Program} {l : Launch} {e : Env} {s : State} {m : MethodId} {args : Array Value} {below : List Frame} {meth : Method} {c : Code} {E : EnvT} {A : Nat → Prop} {a_mo : Nat → Nat} {mo_tape : Nat → Int32} {r : Int32} {o_mo_code : Int32} {o_mo_text : Nat → Int32} {o_mo_taped : Int32} {o_mo_size : Int32} {o_mo_at : Int32} {o_mo_ill : Int32} {o_mo_kept : Int32} {o_mo_now : Int32} {o_mo_many : Nat → Int32} {o_mo_itemKind : Nat → Int32} {o_mo_itemField : Nat → Int32} {o_mo_itemPlace : Nat → Int32} {o_mo_by : Nat → Int32} {o_mo_stepKind : Nat → Int32} {o_mo_stepField : Nat → Int32} {o_mo_stepOperator : Nat → Int32} {o_mo_stepOther : Nat → Int32} {o_mo_stepMany : Nat → Int32} {o_mo_literalType : Nat → Int32} {o_mo_literalFrom : Nat → Int32} {o_mo_literalSize : Nat → Int32} {o_mo_bytes : Nat → Int32} {o_mo_said : Nat → Int32} {o_mo_number : Nat → Int64} {o_mo_pile : Nat → Int32} {o_mo_pilePlace : Nat → Int32} {o_mo_top : Int32} {o_mo_open : Int32} {mo_code : Int32} {mo_text : Nat → Int32} {mo_taped : Int32} {mo_size : Int32} {mo_at : Int32} {mo_ill : Int32} {mo_in : Nat → Int32} {mo_kind : Nat → Int32} {mo_type : Nat → Int32} {mo_long1 : Nat → Int32} {mo_letters : Nat → Int32} {mo_fields : Int32} {mo_kept : Int32} {mo_now : Int32} {mo_many : Nat → Int32} {mo_itemKind : Nat → Int32} {mo_itemField : Nat → Int32} {mo_itemPlace : Nat → Int32} {mo_by : Nat → Int32} {mo_stepKind : Nat → Int32} {mo_stepField : Nat → Int32} {mo_stepOperator : Nat → Int32} {mo_stepOther : Nat → Int32} {mo_stepMany : Nat → Int32} {mo_literalType : Nat → Int32} {mo_literalFrom : Nat → Int32} {mo_literalSize : Nat → Int32} {mo_bytes : Nat → Int32} {mo_said : Nat → Int32} {mo_number : Nat → Int64} {mo_pile : Nat → Int32} {mo_pilePlace : Nat → Int32} {mo_top : Int32} {mo_open : Int32} {H : Heap} {locs : List Loc} {ls : Array Slot} (C : MC p s m args meth c E A cX6_query 4 RX6 (some .int)) (hw : WS E A s (w_mo E a_mo mo_code mo_tape mo_text mo_taped mo_size mo_at mo_ill mo_in mo_kind mo_type mo_long1 mo_letters mo_fields mo_kept mo_now mo_many mo_itemKind mo_itemField mo_itemPlace mo_by mo_stepKind mo_stepField mo_stepOperator mo_stepOther mo_stepMany mo_literalType mo_literalFrom mo_literalSize mo_bytes mo_said mo_number mo_pile mo_pilePlace mo_top mo_open) H locs) (hl : lv_has ls 4 [(0, .ref (a_mo 0))]) (hf : f_X6_query_87 mo_code mo_text mo_taped mo_size mo_at mo_ill mo_in mo_kind mo_type mo_long1 mo_letters mo_fields mo_kept mo_now mo_many mo_itemKind mo_itemField mo_itemPlace mo_by mo_stepKind mo_stepField mo_stepOperator mo_stepOther mo_stepMany mo_literalType mo_literalFrom mo_literalSize mo_bytes mo_said mo_number mo_pile mo_pilePlace mo_top mo_open = some (r, o_mo_code, o_mo_text, o_mo_taped, o_mo_size, o_mo_at, o_mo_ill, o_mo_kept, o_mo_now, o_mo_many, o_mo_itemKind, o_mo_itemField, o_mo_itemPlace, o_mo_by, o_mo_stepKind, o_mo_stepField, o_mo_stepOperator, o_mo_stepOther, o_mo_stepMany, o_mo_literalType, o_mo_literalFrom, o_mo_literalSize, o_mo_bytes, o_mo_said, o_mo_number, o_mo_pile, o_mo_pilePlace, o_mo_top, o_mo_open)) : W p l e { frames := 9, cells := 0, slots := 0, locals := 206 } s m args below meth c H locs 0 0 (MQ below (QcI E A (w_mo E a_mo o_mo_code mo_tape o_mo_text o_mo_taped o_mo_size o_mo_at o_mo_ill mo_in mo_kind mo_type mo_long1 mo_letters mo_fields o_mo_kept o_mo_now o_mo_many o_mo_itemKind o_mo_itemField o_mo_itemPlace o_mo_by o_mo_stepKind o_mo_stepField o_mo_stepOperator o_mo_stepOther o_mo_stepMany o_mo_literalType o_mo_literalFrom o_mo_literalSize o_mo_bytes o_mo_said o_mo_number o_mo_pile o_mo_pilePlace o_mo_top o_mo_open) r) args s 0 0 A) (F0 m 87 ls []) := by
  have hx := C.1
  have hb := C.2.1
  unfold f_X6_query_87 at hf
  refine lv_aload_n hx hb dX6_query_87 rfl (lv_at hl 0 rfl) ?_
  refine fg_X6_102 C hw 0 rfl rfl dX6_query_88 ?_
  refine lv_iconst (v := -1) hx hb dX6_query_91 (by decide) ?_
  refine lv_icmp_ne (tgt := 99) hx hb dX6_query_92 (by decide) (fun c92 => ?_) (fun c92 => ?_)
  · replace hf := it_f c92 hf
    obtain ⟨x1, x2, x3, x4, x5, x6, hx1, hf⟩ := ob6_el hf
    refine w_X6_query_99 C FU hw (lv_sub hl [0] rfl) hx1 ?_
    clear hw hl
    intro H locs ls hw hl
    refine lv_aload_n hx hb dX6_query_115 rfl (lv_at hl 0 rfl) ?_
    refine rc2 C mw_784 dX6_query_116 ?_
    obtain ⟨x7, x8, z8, hf⟩ := ob2_el hf
    refine cI_V C hw (c_X6_takesWord l E a_mo mo_code mo_tape mo_text mo_taped mo_size x1 x2 mo_in mo_kind mo_type mo_long1 mo_letters mo_fields mo_kept mo_now x3 x4 x5 x6 mo_by mo_stepKind mo_stepField mo_stepOperator mo_stepOther mo_stepMany mo_literalType mo_literalFrom mo_literalSize mo_bytes mo_said mo_number mo_pile mo_pilePlace mo_top mo_open (512852587109 : Int64) x7 x8 z8) cs_X6_192 ⟨Nat.le_of_ble_eq_true rfl, Nat.le_of_ble_eq_true rfl⟩ ⟨rfl, rfl⟩ (ci := 6) (cn := (RX6, TX6, 35)) rfl (q0 := 0) rfl (wn := w_mo E a_mo mo_code mo_tape mo_text mo_taped mo_size x8 x2 mo_in mo_kind mo_type mo_long1 mo_letters mo_fields mo_kept mo_now x3 x4 x5 x6 mo_by mo_stepKind mo_stepField mo_stepOperator mo_stepOther mo_stepMany mo_literalType mo_literalFrom mo_literalSize mo_bytes mo_said mo_number mo_pile mo_pilePlace mo_top mo_open) (Jn.all _ _) rfl hl.1 rfl (Nat.le_of_ble_eq_true rfl) dX6_query_119 ⟨Nat.zero_le _, Nat.zero_le _⟩ (fun H locs hw => ?_)
    refine lv_if_eq (tgt := 129) hx hb dX6_query_122 (by decide) (fun c122 => ?_) (fun c122 => ?_)
    · replace hf := it_t c122 hf
      exact w_X6_query_129 C hw (lv_sub hl [0] rfl) hf
    · replace hf := it_f c122 hf
      refine lv_aload_n hx hb dX6_query_125 rfl (lv_at hl 0 rfl) ?_
      obtain ⟨x9, x10, x11, x12, x13, x14, x15, x16, x17, x18, x19, x20, x21, x22, x23, x24, x25, x26, z26, hf⟩ := ob18_el hf
      refine cV_V C hw (c_X6_readCondition l E a_mo mo_code mo_tape mo_text mo_taped mo_size x8 x2 mo_in mo_kind mo_type mo_long1 mo_letters mo_fields mo_kept mo_now x3 x4 x5 x6 mo_by mo_stepKind mo_stepField mo_stepOperator mo_stepOther mo_stepMany mo_literalType mo_literalFrom mo_literalSize mo_bytes mo_said mo_number mo_pile mo_pilePlace mo_top mo_open x9 x10 x11 x12 x13 x14 x15 x16 x17 x18 x19 x20 x21 x22 x23 x24 x25 x26 z26) cs_X6_256 ⟨Nat.le_of_ble_eq_true rfl, Nat.le_of_ble_eq_true rfl⟩ ⟨rfl, rfl⟩ (ci := 6) (cn := (RX6, TX6, 35)) rfl (q0 := 0) rfl (wn := w_mo E a_mo mo_code mo_tape mo_text mo_taped mo_size x9 x10 mo_in mo_kind mo_type mo_long1 mo_letters mo_fields mo_kept mo_now x11 x4 x5 x6 mo_by x12 x13 x14 x15 x16 x17 x18 x19 x20 x21 x22 x23 x24 x25 x26) (Jn.all _ _) rfl hl.1 rfl (Nat.le_of_ble_eq_true rfl) dX6_query_126 ⟨Nat.zero_le _, Nat.zero_le _⟩ (fun H locs hw => ?_)
      exact w_X6_query_129 C hw (lv_sub hl [0] rfl) hf
  · replace hf := it_t c92 hf
    refine lv_aload_n hx hb dX6_query_95 rfl (lv_at hl 0 rfl) ?_
    obtain ⟨x27, x28, x29, x30, x31, x32, z32, hf⟩ := ob6_el hf
    refine cV_V C hw (c_X6_readItem l E a_mo mo_code mo_tape mo_text mo_taped mo_size mo_at mo_ill mo_in mo_kind mo_type mo_long1 mo_letters mo_fields mo_kept mo_now mo_many mo_itemKind mo_itemField mo_itemPlace mo_by mo_stepKind mo_stepField mo_stepOperator mo_stepOther mo_stepMany mo_literalType mo_literalFrom mo_literalSize mo_bytes mo_said mo_number mo_pile mo_pilePlace mo_top mo_open x27 x28 x29 x30 x31 x32 z32) cs_X6_253 ⟨Nat.le_of_ble_eq_true rfl, Nat.le_of_ble_eq_true rfl⟩ ⟨rfl, rfl⟩ (ci := 6) (cn := (RX6, TX6, 35)) rfl (q0 := 0) rfl (wn := w_mo E a_mo mo_code mo_tape mo_text mo_taped mo_size x27 x28 mo_in mo_kind mo_type mo_long1 mo_letters mo_fields mo_kept mo_now x29 x30 x31 x32 mo_by mo_stepKind mo_stepField mo_stepOperator mo_stepOther mo_stepMany mo_literalType mo_literalFrom mo_literalSize mo_bytes mo_said mo_number mo_pile mo_pilePlace mo_top mo_open) (Jn.all _ _) rfl hl.1 rfl (Nat.le_of_ble_eq_true rfl) dX6_query_96 ⟨Nat.zero_le _, Nat.zero_le _⟩ (fun H locs hw => ?_)
    obtain ⟨x33, x34, x35, x36, x37, x38, hx33, hf⟩ := ob6_el hf
    refine w_X6_query_99 C FU hw (lv_sub hl [0] rfl) hx33 ?_
    clear hw hl
    intro H locs ls hw hl
    refine lv_aload_n hx hb dX6_query_115 rfl (lv_at hl 0 rfl) ?_
    refine rc2 C mw_784 dX6_query_116 ?_
    obtain ⟨x39, x40, z40, hf⟩ := ob2_el hf
    refine cI_V C hw (c_X6_takesWord l E a_mo mo_code mo_tape mo_text mo_taped mo_size x33 x34 mo_in mo_kind mo_type mo_long1 mo_letters mo_fields mo_kept mo_now x35 x36 x37 x38 mo_by mo_stepKind mo_stepField mo_stepOperator mo_stepOther mo_stepMany mo_literalType mo_literalFrom mo_literalSize mo_bytes mo_said mo_number mo_pile mo_pilePlace mo_top mo_open (512852587109 : Int64) x39 x40 z40) cs_X6_192 ⟨Nat.le_of_ble_eq_true rfl, Nat.le_of_ble_eq_true rfl⟩ ⟨rfl, rfl⟩ (ci := 6) (cn := (RX6, TX6, 35)) rfl (q0 := 0) rfl (wn := w_mo E a_mo mo_code mo_tape mo_text mo_taped mo_size x40 x34 mo_in mo_kind mo_type mo_long1 mo_letters mo_fields mo_kept mo_now x35 x36 x37 x38 mo_by mo_stepKind mo_stepField mo_stepOperator mo_stepOther mo_stepMany mo_literalType mo_literalFrom mo_literalSize mo_bytes mo_said mo_number mo_pile mo_pilePlace mo_top mo_open) (Jn.all _ _) rfl hl.1 rfl (Nat.le_of_ble_eq_true rfl) dX6_query_119 ⟨Nat.zero_le _, Nat.zero_le _⟩ (fun H locs hw => ?_)
    refine lv_if_eq (tgt := 129) hx hb dX6_query_122 (by decide) (fun c122 => ?_) (fun c122 => ?_)
    · replace hf := it_t c122 hf
      exact w_X6_query_129 C hw (lv_sub hl [0] rfl) hf
    · replace hf := it_f c122 hf
      refine lv_aload_n hx hb dX6_query_125 rfl (lv_at hl 0 rfl) ?_
      obtain ⟨x41, x42, x43, x44, x45, x46, x47, x48, x49, x50, x51, x52, x53, x54, x55, x56, x57, x58, z58, hf⟩ := ob18_el hf
      refine cV_V C hw (c_X6_readCondition l E a_mo mo_code mo_tape mo_text mo_taped mo_size x40 x34 mo_in mo_kind mo_type mo_long1 mo_letters mo_fields mo_kept mo_now x35 x36 x37 x38 mo_by mo_stepKind mo_stepField mo_stepOperator mo_stepOther mo_stepMany mo_literalType mo_literalFrom mo_literalSize mo_bytes mo_said mo_number mo_pile mo_pilePlace mo_top mo_open x41 x42 x43 x44 x45 x46 x47 x48 x49 x50 x51 x52 x53 x54 x55 x56 x57 x58 z58) cs_X6_256 ⟨Nat.le_of_ble_eq_true rfl, Nat.le_of_ble_eq_true rfl⟩ ⟨rfl, rfl⟩ (ci := 6) (cn := (RX6, TX6, 35)) rfl (q0 := 0) rfl (wn := w_mo E a_mo mo_code mo_tape mo_text mo_taped mo_size x41 x42 mo_in mo_kind mo_type mo_long1 mo_letters mo_fields mo_kept mo_now x43 x36 x37 x38 mo_by x44 x45 x46 x47 x48 x49 x50 x51 x52 x53 x54 x55 x56 x57 x58) (Jn.all _ _) rfl hl.1 rfl (Nat.le_of_ble_eq_true rfl) dX6_query_126 ⟨Nat.zero_le _, Nat.zero_le _⟩ (fun H locs hw => ?_)
      exact w_X6_query_129 C hw (lv_sub hl [0] rfl) hf
def f_X6_query_29 (s1 : Int32) (mo_code : Int32) (mo_text : Nat → Int32) (mo_taped : Int32) (mo_size : Int32) (mo_at : Int32) (mo_ill : Int32) (mo_in : Nat → Int32) (mo_kind : Nat → Int32) (mo_type : Nat → Int32) (mo_long1 : Nat → Int32) (mo_letters : Nat → Int32) (mo_fields : Int32) (mo_kept : Int32) (mo_many : Nat → Int32) (mo_itemKind : Nat → Int32) (mo_itemField : Nat → Int32) (mo_itemPlace : Nat → Int32) (mo_by : Nat → Int32) (mo_stepKind : Nat → Int32) (mo_stepField : Nat → Int32) (mo_stepOperator : Nat → Int32) (mo_stepOther : Nat → Int32) (mo_stepMany : Nat → Int32) (mo_literalType : Nat → Int32) (mo_literalFrom : Nat → Int32) (mo_literalSize : Nat → Int32) (mo_bytes : Nat → Int32) (mo_said : Nat → Int32) (mo_number : Nat → Int64) (mo_pile : Nat → Int32) (mo_pilePlace : Nat → Int32) (mo_top : Int32) (mo_open : Int32) : Option ((Int32) × (Int32) × (Nat → Int32) × (Int32) × (Int32) × (Int32) × (Int32) × (Int32) × (Int32) × (Nat → Int32) × (Nat → Int32) × (Nat → Int32) × (Nat → Int32) × (Nat → Int32) × (Nat → Int32) × (Nat → Int32) × (Nat → Int32) × (Nat → Int32) × (Nat → Int32) × (Nat → Int32) × (Nat → Int32) × (Nat → Int32) × (Nat → Int32) × (Nat → Int32) × (Nat → Int64) × (Nat → Int32) × (Nat → Int32) × (Int32) × (Int32)) :=
  ob1 (f_X6_query_34 FU (0 : Int32) s1 mo_many) (fun x1 =>
  wr mo_said 2 s1 (0 : Int32) (fun x2 =>
  ob2 (f_X6_takesWord (126879447475060 : Int64) mo_text mo_size mo_at mo_ill) (fun x3 x4 =>
  if x3 = (0 : Int32) then (ob1 (f_X6_fail x4 mo_ill) (fun x5 =>
  f_X6_query_87 mo_code mo_text mo_taped mo_size x4 x5 mo_in mo_kind mo_type mo_long1 mo_letters mo_fields mo_kept s1 x1 mo_itemKind mo_itemField mo_itemPlace mo_by mo_stepKind mo_stepField mo_stepOperator mo_stepOther mo_stepMany mo_literalType mo_literalFrom mo_literalSize mo_bytes x2 mo_number mo_pile mo_pilePlace mo_top mo_open))
  else (f_X6_query_87 mo_code mo_text mo_taped mo_size x4 mo_ill mo_in mo_kind mo_type mo_long1 mo_letters mo_fields mo_kept s1 x1 mo_itemKind mo_itemField mo_itemPlace mo_by mo_stepKind mo_stepField mo_stepOperator mo_stepOther mo_stepMany mo_literalType mo_literalFrom mo_literalSize mo_bytes x2 mo_number mo_pile mo_pilePlace mo_top mo_open))))
set_option maxHeartbeats 4000000 in
set_option maxRecDepth 100000 in
theorem w_X6_query_29 {p : Program} {l : Launch} {e : Env} {s : State} {m : MethodId} {args : Array Value} {below : List Frame} {meth : Method} {c : Code} {E : EnvT} {A : Nat → Prop} {a_mo : Nat → Nat} {mo_tape : Nat → Int32} {mo_now : Int32} {r : Int32} {o_mo_code : Int32} {o_mo_text : Nat → Int32} {o_mo_taped : Int32} {o_mo_size : Int32} {o_mo_at : Int32} {o_mo_ill : Int32} {o_mo_kept : Int32} {o_mo_now : Int32} {o_mo_many : Nat → Int32} {o_mo_itemKind : Nat → Int32} {o_mo_itemField : Nat → Int32} {o_mo_itemPlace : Nat → Int32} {o_mo_by : Nat → Int32} {o_mo_stepKind : Nat → Int32} {o_mo_stepField : Nat → Int32} {o_mo_stepOperator : Nat → Int32} {o_mo_stepOther : Nat → Int32} {o_mo_stepMany : Nat → Int32} {o_mo_literalType : Nat → Int32} {o_mo_literalFrom : Nat → Int32} {o_mo_literalSize : Nat → Int32} {o_mo_bytes : Nat → Int32} {o_mo_said : Nat → Int32} {o_mo_number : Nat → Int64} {o_mo_pile : Nat → Int32} {o_mo_pilePlace : Nat → Int32} {o_mo_top : Int32} {o_mo_open : Int32} {s1 : Int32} {mo_code : Int32} {mo_text : Nat → Int32} {mo_taped : Int32} {mo_size : Int32} {mo_at : Int32} {mo_ill : Int32} {mo_in : Nat → Int32} {mo_kind : Nat → Int32} {mo_type : Nat → Int32} {mo_long1 : Nat → Int32} {mo_letters : Nat → Int32} {mo_fields : Int32} {mo_kept : Int32} {mo_many : Nat → Int32} {mo_itemKind : Nat → Int32} {mo_itemField : Nat → Int32} {mo_itemPlace : Nat → Int32} {mo_by : Nat → Int32} {mo_stepKind : Nat → Int32} {mo_stepField : Nat → Int32} {mo_stepOperator : Nat → Int32} {mo_stepOther : Nat → Int32} {mo_stepMany : Nat → Int32} {mo_literalType : Nat → Int32} {mo_literalFrom : Nat → Int32} {mo_literalSize : Nat → Int32} {mo_bytes : Nat → Int32} {mo_said : Nat → Int32} {mo_number : Nat → Int64} {mo_pile : Nat → Int32} {mo_pilePlace : Nat → Int32} {mo_top : Int32} {mo_open : Int32} {H : Heap} {locs : List Loc} {ls : Array Slot} (C : MC p s m args meth c E A cX6_query 4 RX6 (some .int)) (hw : WS E A s (w_mo E a_mo mo_code mo_tape mo_text mo_taped mo_size mo_at mo_ill mo_in mo_kind mo_type mo_long1 mo_letters mo_fields mo_kept mo_now mo_many mo_itemKind mo_itemField mo_itemPlace mo_by mo_stepKind mo_stepField mo_stepOperator mo_stepOther mo_stepMany mo_literalType mo_literalFrom mo_literalSize mo_bytes mo_said mo_number mo_pile mo_pilePlace mo_top mo_open) H locs) (hl : lv_has ls 4 [(0, .ref (a_mo 0))]) (hf : f_X6_query_29 s1 mo_code mo_text mo_taped mo_size mo_at mo_ill mo_in mo_kind mo_type mo_long1 mo_letters mo_fields mo_kept mo_many mo_itemKind mo_itemField mo_itemPlace mo_by mo_stepKind mo_stepField mo_stepOperator mo_stepOther mo_stepMany mo_literalType mo_literalFrom mo_literalSize mo_bytes mo_said mo_number mo_pile mo_pilePlace mo_top mo_open = some (r, o_mo_code, o_mo_text, o_mo_taped, o_mo_size, o_mo_at, o_mo_ill, o_mo_kept, o_mo_now, o_mo_many, o_mo_itemKind, o_mo_itemField, o_mo_itemPlace, o_mo_by, o_mo_stepKind, o_mo_stepField, o_mo_stepOperator, o_mo_stepOther, o_mo_stepMany, o_mo_literalType, o_mo_literalFrom, o_mo_literalSize, o_mo_bytes, o_mo_said, o_mo_number, o_mo_pile, o_mo_pilePlace, o_mo_top, o_mo_open)) : W p l e { frames := 9, cells := 0, slots := 0, locals := 206 } s m args below meth c H locs 0 0 (MQ below (QcI E A (w_mo E a_mo o_mo_code mo_tape o_mo_text o_mo_taped o_mo_size o_mo_at o_mo_ill mo_in mo_kind mo_type mo_long1 mo_letters mo_fields o_mo_kept o_mo_now o_mo_many o_mo_itemKind o_mo_itemField o_mo_itemPlace o_mo_by o_mo_stepKind o_mo_stepField o_mo_stepOperator o_mo_stepOther o_mo_stepMany o_mo_literalType o_mo_literalFrom o_mo_literalSize o_mo_bytes o_mo_said o_mo_number o_mo_pile o_mo_pilePlace o_mo_top o_mo_open) r) args s 0 0 A) (F0 m 29 ls [.int s1, .ref (a_mo 0)]) := by
  have hx := C.1
  have hb := C.2.1
  unfold f_X6_query_29 at hf
  refine fp_X6_189 C hw 0 rfl (Nat.le_of_ble_eq_true rfl) (ws' := w_mo E a_mo mo_code mo_tape mo_text mo_taped mo_size mo_at mo_ill mo_in mo_kind mo_type mo_long1 mo_letters mo_fields mo_kept s1 mo_many mo_itemKind mo_itemField mo_itemPlace mo_by mo_stepKind mo_stepField mo_stepOperator mo_stepOther mo_stepMany mo_literalType mo_literalFrom mo_literalSize mo_bytes mo_said mo_number mo_pile mo_pilePlace mo_top mo_open) rfl dX6_query_29 (fun H locs hw => ?_)
  refine lv_iconst (v := 0) hx hb dX6_query_32 (by decide) ?_
  refine lv_istore_n (lv' := [(2, .int (0 : Int32)), (0, .ref (a_mo 0))]) hx hb dX6_query_33 rfl hl (by decide) rfl (fun ls hl => ?_)
  obtain ⟨x1, hx1, hf⟩ := ob1_el hf
  refine w_X6_query_34 C FU hw (lv_sub hl [1, 0] rfl) hx1 ?_
  clear hw hl
  intro H locs ls hw hl
  refine lv_aload_n hx hb dX6_query_59 rfl (lv_at hl 0 rfl) ?_
  refine fg_X6_77 C hw 0 rfl rfl dX6_query_60 ?_
  refine lv_aload_n hx hb dX6_query_63 rfl (lv_at hl 0 rfl) ?_
  refine fg_X6_189 C hw 0 rfl rfl dX6_query_64 ?_
  refine lv_iconst (v := 0) hx hb dX6_query_67 (by decide) ?_
  obtain ⟨x2, ex2, gx2, hf⟩ := wr_el hf
  refine rs_i C hw 22 rfl gx2 (ws' := w_mo E a_mo mo_code mo_tape mo_text mo_taped mo_size mo_at mo_ill mo_in mo_kind mo_type mo_long1 mo_letters mo_fields mo_kept s1 x1 mo_itemKind mo_itemField mo_itemPlace mo_by mo_stepKind mo_stepField mo_stepOperator mo_stepOther mo_stepMany mo_literalType mo_literalFrom mo_literalSize mo_bytes x2 mo_number mo_pile mo_pilePlace mo_top mo_open) (by subst ex2; rfl) dX6_query_68 (fun H locs hw => ?_)
  refine lv_aload_n hx hb dX6_query_69 rfl (lv_at hl 0 rfl) ?_
  refine rc2 C mw_744 dX6_query_70 ?_
  obtain ⟨x3, x4, z4, hf⟩ := ob2_el hf
  refine cI_V C hw (c_X6_takesWord l E a_mo mo_code mo_tape mo_text mo_taped mo_size mo_at mo_ill mo_in mo_kind mo_type mo_long1 mo_letters mo_fields mo_kept s1 x1 mo_itemKind mo_itemField mo_itemPlace mo_by mo_stepKind mo_stepField mo_stepOperator mo_stepOther mo_stepMany mo_literalType mo_literalFrom mo_literalSize mo_bytes x2 mo_number mo_pile mo_pilePlace mo_top mo_open (126879447475060 : Int64) x3 x4 z4) cs_X6_192 ⟨Nat.le_of_ble_eq_true rfl, Nat.le_of_ble_eq_true rfl⟩ ⟨rfl, rfl⟩ (ci := 6) (cn := (RX6, TX6, 35)) rfl (q0 := 0) rfl (wn := w_mo E a_mo mo_code mo_tape mo_text mo_taped mo_size x4 mo_ill mo_in mo_kind mo_type mo_long1 mo_letters mo_fields mo_kept s1 x1 mo_itemKind mo_itemField mo_itemPlace mo_by mo_stepKind mo_stepField mo_stepOperator mo_stepOther mo_stepMany mo_literalType mo_literalFrom mo_literalSize mo_bytes x2 mo_number mo_pile mo_pilePlace mo_top mo_open) (Jn.all _ _) rfl hl.1 rfl (Nat.le_of_ble_eq_true rfl) dX6_query_73 ⟨Nat.zero_le _, Nat.zero_le _⟩ (fun H locs hw => ?_)
  refine lv_if_ne (tgt := 87) hx hb dX6_query_76 (by decide) (fun c76 => ?_) (fun c76 => ?_)
  · replace hf := it_f c76 hf
    exact w_X6_query_87 C hw (lv_sub hl [0] rfl) hf
  · replace hf := it_t c76 hf
    refine lv_aload_n hx hb dX6_query_79 rfl (lv_at hl 0 rfl) ?_
    refine lv_aload_n hx hb dX6_query_80 rfl (lv_at hl 0 rfl) ?_
    refine fg_X6_99 C hw 0 rfl rfl dX6_query_81 ?_
    obtain ⟨x5, z5, hf⟩ := ob1_el hf
    refine cV_V C hw (c_X6_fail l E a_mo mo_code mo_tape mo_text mo_taped mo_size x4 mo_ill mo_in mo_kind mo_type mo_long1 mo_letters mo_fields mo_kept s1 x1 mo_itemKind mo_itemField mo_itemPlace mo_by mo_stepKind mo_stepField mo_stepOperator mo_stepOther mo_stepMany mo_literalType mo_literalFrom mo_literalSize mo_bytes x2 mo_number mo_pile mo_pilePlace mo_top mo_open x4 x5 z5) cs_X6_144 ⟨Nat.le_of_ble_eq_true rfl, Nat.le_of_ble_eq_true rfl⟩ ⟨rfl, rfl⟩ (ci := 6) (cn := (RX6, TX6, 35)) rfl (q0 := 0) rfl (wn := w_mo E a_mo mo_code mo_tape mo_text mo_taped mo_size x4 x5 mo_in mo_kind mo_type mo_long1 mo_letters mo_fields mo_kept s1 x1 mo_itemKind mo_itemField mo_itemPlace mo_by mo_stepKind mo_stepField mo_stepOperator mo_stepOther mo_stepMany mo_literalType mo_literalFrom mo_literalSize mo_bytes x2 mo_number mo_pile mo_pilePlace mo_top mo_open) (Jn.all _ _) rfl hl.1 rfl (Nat.le_of_ble_eq_true rfl) dX6_query_84 ⟨Nat.zero_le _, Nat.zero_le _⟩ (fun H locs hw => ?_)
    exact w_X6_query_87 C hw (lv_sub hl [0] rfl) hf
def f_X6_query (p1 : Int32) (mo_code : Int32) (mo_tape : Nat → Int32) (mo_text : Nat → Int32) (mo_taped : Int32) (mo_size : Int32) (mo_at : Int32) (mo_ill : Int32) (mo_in : Nat → Int32) (mo_kind : Nat → Int32) (mo_type : Nat → Int32) (mo_long1 : Nat → Int32) (mo_letters : Nat → Int32) (mo_fields : Int32) (mo_kept : Int32) (mo_now : Int32) (mo_many : Nat → Int32) (mo_itemKind : Nat → Int32) (mo_itemField : Nat → Int32) (mo_itemPlace : Nat → Int32) (mo_by : Nat → Int32) (mo_stepKind : Nat → Int32) (mo_stepField : Nat → Int32) (mo_stepOperator : Nat → Int32) (mo_stepOther : Nat → Int32) (mo_stepMany : Nat → Int32) (mo_literalType : Nat → Int32) (mo_literalFrom : Nat → Int32) (mo_literalSize : Nat → Int32) (mo_bytes : Nat → Int32) (mo_said : Nat → Int32) (mo_number : Nat → Int64) (mo_pile : Nat → Int32) (mo_pilePlace : Nat → Int32) (mo_top : Int32) (mo_open : Int32) : Option ((Int32) × (Int32) × (Nat → Int32) × (Int32) × (Int32) × (Int32) × (Int32) × (Int32) × (Int32) × (Nat → Int32) × (Nat → Int32) × (Nat → Int32) × (Nat → Int32) × (Nat → Int32) × (Nat → Int32) × (Nat → Int32) × (Nat → Int32) × (Nat → Int32) × (Nat → Int32) × (Nat → Int32) × (Nat → Int32) × (Nat → Int32) × (Nat → Int32) × (Nat → Int32) × (Nat → Int64) × (Nat → Int32) × (Nat → Int32) × (Int32) × (Int32)) :=
  ob6 (f_X6_takes p1 mo_tape mo_text mo_taped mo_size mo_at mo_ill) (fun x1 x2 x3 x4 x5 x6 =>
  if x1 = (0 : Int32) then (some ((-2 : Int32), (0 : Int32), x2, x3, x4, x5, x6, mo_kept, mo_now, mo_many, mo_itemKind, mo_itemField, mo_itemPlace, mo_by, mo_stepKind, mo_stepField, mo_stepOperator, mo_stepOther, mo_stepMany, mo_literalType, mo_literalFrom, mo_literalSize, mo_bytes, mo_said, mo_number, mo_pile, mo_pilePlace, mo_top, mo_open))
  else (if mo_kept = (0 : Int32) then (f_X6_query_29 (1 : Int32) (0 : Int32) x2 x3 x4 x5 x6 mo_in mo_kind mo_type mo_long1 mo_letters mo_fields mo_kept mo_many mo_itemKind mo_itemField mo_itemPlace mo_by mo_stepKind mo_stepField mo_stepOperator mo_stepOther mo_stepMany mo_literalType mo_literalFrom mo_literalSize mo_bytes mo_said mo_number mo_pile mo_pilePlace mo_top mo_open)
  else (f_X6_query_29 (0 : Int32) (0 : Int32) x2 x3 x4 x5 x6 mo_in mo_kind mo_type mo_long1 mo_letters mo_fields mo_kept mo_many mo_itemKind mo_itemField mo_itemPlace mo_by mo_stepKind mo_stepField mo_stepOperator mo_stepOther mo_stepMany mo_literalType mo_literalFrom mo_literalSize mo_bytes mo_said mo_number mo_pile mo_pilePlace mo_top mo_open)))
set_option maxHeartbeats 4000000 in
set_option maxRecDepth 100000 in
theorem c_X6_query (l : Launch) (E : EnvT) (a_mo : Nat → Nat) (mo_code : Int32) (mo_tape : Nat → Int32) (mo_text : Nat → Int32) (mo_taped : Int32) (mo_size : Int32) (mo_at : Int32) (mo_ill : Int32) (mo_in : Nat → Int32) (mo_kind : Nat → Int32) (mo_type : Nat → Int32) (mo_long1 : Nat → Int32) (mo_letters : Nat → Int32) (mo_fields : Int32) (mo_kept : Int32) (mo_now : Int32) (mo_many : Nat → Int32) (mo_itemKind : Nat → Int32) (mo_itemField : Nat → Int32) (mo_itemPlace : Nat → Int32) (mo_by : Nat → Int32) (mo_stepKind : Nat → Int32) (mo_stepField : Nat → Int32) (mo_stepOperator : Nat → Int32) (mo_stepOther : Nat → Int32) (mo_stepMany : Nat → Int32) (mo_literalType : Nat → Int32) (mo_literalFrom : Nat → Int32) (mo_literalSize : Nat → Int32) (mo_bytes : Nat → Int32) (mo_said : Nat → Int32) (mo_number : Nat → Int64) (mo_pile : Nat → Int32) (mo_pilePlace : Nat → Int32) (mo_top : Int32) (mo_open : Int32) (p1 : Int32) (r : Int32) (o_mo_code : Int32) (o_mo_text : Nat → Int32) (o_mo_taped : Int32) (o_mo_size : Int32) (o_mo_at : Int32) (o_mo_ill : Int32) (o_mo_kept : Int32) (o_mo_now : Int32) (o_mo_many : Nat → Int32) (o_mo_itemKind : Nat → Int32) (o_mo_itemField : Nat → Int32) (o_mo_itemPlace : Nat → Int32) (o_mo_by : Nat → Int32) (o_mo_stepKind : Nat → Int32) (o_mo_stepField : Nat → Int32) (o_mo_stepOperator : Nat → Int32) (o_mo_stepOther : Nat → Int32) (o_mo_stepMany : Nat → Int32) (o_mo_literalType : Nat → Int32) (o_mo_literalFrom : Nat → Int32) (o_mo_literalSize : Nat → Int32) (o_mo_bytes : Nat → Int32) (o_mo_said : Nat → Int32) (o_mo_number : Nat → Int64) (o_mo_pile : Nat → Int32) (o_mo_pilePlace : Nat → Int32) (o_mo_top : Int32) (o_mo_open : Int32) (hf : f_X6_query p1 mo_code mo_tape mo_text mo_taped mo_size mo_at mo_ill mo_in mo_kind mo_type mo_long1 mo_letters mo_fields mo_kept mo_now mo_many mo_itemKind mo_itemField mo_itemPlace mo_by mo_stepKind mo_stepField mo_stepOperator mo_stepOther mo_stepMany mo_literalType mo_literalFrom mo_literalSize mo_bytes mo_said mo_number mo_pile mo_pilePlace mo_top mo_open = some (r, o_mo_code, o_mo_text, o_mo_taped, o_mo_size, o_mo_at, o_mo_ill, o_mo_kept, o_mo_now, o_mo_many, o_mo_itemKind, o_mo_itemField, o_mo_itemPlace, o_mo_by, o_mo_stepKind, o_mo_stepField, o_mo_stepOperator, o_mo_stepOther, o_mo_stepMany, o_mo_literalType, o_mo_literalFrom, o_mo_literalSize, o_mo_bytes, o_mo_said, o_mo_number, o_mo_pile, o_mo_pilePlace, o_mo_top, o_mo_open)) : CI l yX6_query (Cond.code yX6_query cX6_query 4 (some .int)) { frames := 9, cells := 0, slots := 0, locals := 206 } E [.ref (a_mo 0), .int p1] (w_mo E a_mo mo_code mo_tape mo_text mo_taped mo_size mo_at mo_ill mo_in mo_kind mo_type mo_long1 mo_letters mo_fields mo_kept mo_now mo_many mo_itemKind mo_itemField mo_itemPlace mo_by mo_stepKind mo_stepField mo_stepOperator mo_stepOther mo_stepMany mo_literalType mo_literalFrom mo_literalSize mo_bytes mo_said mo_number mo_pile mo_pilePlace mo_top mo_open) r (w_mo E a_mo o_mo_code mo_tape o_mo_text o_mo_taped o_mo_size o_mo_at o_mo_ill mo_in mo_kind mo_type mo_long1 mo_letters mo_fields o_mo_kept o_mo_now o_mo_many o_mo_itemKind o_mo_itemField o_mo_itemPlace o_mo_by o_mo_stepKind o_mo_stepField o_mo_stepOperator o_mo_stepOther o_mo_stepMany o_mo_literalType o_mo_literalFrom o_mo_literalSize o_mo_bytes o_mo_said o_mo_number o_mo_pile o_mo_pilePlace o_mo_top o_mo_open) := by
  intro sz
  refine met_start [(0, .ref (a_mo 0)), (1, .int p1)] (by decide) rfl rfl (Nat.le_of_ble_eq_true rfl) rfl ?_
  intro p e s m below meth c ls C hnm hmt hw hl
  have hx := C.1
  have hb := C.2.1
  generalize va_A (w_mo E a_mo mo_code mo_tape mo_text mo_taped mo_size mo_at mo_ill mo_in mo_kind mo_type mo_long1 mo_letters mo_fields mo_kept mo_now mo_many mo_itemKind mo_itemField mo_itemPlace mo_by mo_stepKind mo_stepField mo_stepOperator mo_stepOther mo_stepMany mo_literalType mo_literalFrom mo_literalSize mo_bytes mo_said mo_number mo_pile mo_pilePlace mo_top mo_open) sz = A at C hw ⊢
  unfold f_X6_query at hf
  refine lv_aload_n hx hb dX6_query_0 rfl (lv_at hl 0 rfl) ?_
  refine lv_iconst (v := 0) hx hb dX6_query_1 (by decide) ?_
  refine fp_X6_90 C hw 0 rfl (Nat.le_of_ble_eq_true rfl) (ws' := w_mo E a_mo (0 : Int32) mo_tape mo_text mo_taped mo_size mo_at mo_ill mo_in mo_kind mo_type mo_long1 mo_letters mo_fields mo_kept mo_now mo_many mo_itemKind mo_itemField mo_itemPlace mo_by mo_stepKind mo_stepField mo_stepOperator mo_stepOther mo_stepMany mo_literalType mo_literalFrom mo_literalSize mo_bytes mo_said mo_number mo_pile mo_pilePlace mo_top mo_open) rfl dX6_query_2 (fun H locs hw => ?_)
  refine lv_aload_n hx hb dX6_query_5 rfl (lv_at hl 0 rfl) ?_
  refine lv_iload_n hx hb dX6_query_6 rfl (lv_at hl 1 rfl) ?_
  obtain ⟨x1, x2, x3, x4, x5, x6, z6, hf⟩ := ob6_el hf
  refine cI_V C hw (c_X6_takes l E a_mo (0 : Int32) mo_tape mo_text mo_taped mo_size mo_at mo_ill mo_in mo_kind mo_type mo_long1 mo_letters mo_fields mo_kept mo_now mo_many mo_itemKind mo_itemField mo_itemPlace mo_by mo_stepKind mo_stepField mo_stepOperator mo_stepOther mo_stepMany mo_literalType mo_literalFrom mo_literalSize mo_bytes mo_said mo_number mo_pile mo_pilePlace mo_top mo_open p1 x1 x2 x3 x4 x5 x6 z6) cs_X6_115 ⟨Nat.le_of_ble_eq_true rfl, Nat.le_of_ble_eq_true rfl⟩ ⟨rfl, rfl⟩ (ci := 6) (cn := (RX6, TX6, 35)) rfl (q0 := 0) rfl (wn := w_mo E a_mo (0 : Int32) mo_tape x2 x3 x4 x5 x6 mo_in mo_kind mo_type mo_long1 mo_letters mo_fields mo_kept mo_now mo_many mo_itemKind mo_itemField mo_itemPlace mo_by mo_stepKind mo_stepField mo_stepOperator mo_stepOther mo_stepMany mo_literalType mo_literalFrom mo_literalSize mo_bytes mo_said mo_number mo_pile mo_pilePlace mo_top mo_open) (Jn.all _ _) rfl hl.1 rfl (Nat.le_of_ble_eq_true rfl) dX6_query_7 ⟨Nat.zero_le _, Nat.zero_le _⟩ (fun H locs hw => ?_)
  refine lv_if_ne (tgt := 16) hx hb dX6_query_10 (by decide) (fun c10 => ?_) (fun c10 => ?_)
  · replace hf := it_f c10 hf
    refine lv_aload_n hx hb dX6_query_16 rfl (lv_at hl 0 rfl) ?_
    refine lv_aload_n hx hb dX6_query_17 rfl (lv_at hl 0 rfl) ?_
    refine fg_X6_31 C hw 0 rfl rfl dX6_query_18 ?_
    refine lv_if_ne (tgt := 28) hx hb dX6_query_21 (by decide) (fun c21 => ?_) (fun c21 => ?_)
    · replace hf := it_f c21 hf
      refine lv_iconst (v := 0) hx hb dX6_query_28 (by decide) ?_
      exact w_X6_query_29 C hw (lv_sub hl [0] rfl) hf
    · replace hf := it_t c21 hf
      refine lv_iconst (v := 1) hx hb dX6_query_24 (by decide) ?_
      refine lv_goto (tgt := 29) hx hb dX6_query_25 (by decide) ?_
      exact w_X6_query_29 C hw (lv_sub hl [0] rfl) hf
  · replace hf := it_t c10 hf
    refine lv_bipush (v := -2) hx hb dX6_query_13 (by decide) ?_
    cases hf
    exact rt_i C hw dX6_query_15
