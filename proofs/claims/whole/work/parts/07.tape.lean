def f_X4_at (p1 : Int32) (tp_bytes : Nat → Int32) (tp_size : Int32) : Option ((Int32)) :=
  if p1 < (0 : Int32) then (some (-1 : Int32))
  else (if tp_size ≤ p1 then (some (-1 : Int32))
  else (rd tp_bytes 2000 p1 (fun x1 =>
  some x1)))
set_option maxHeartbeats 4000000 in
set_option maxRecDepth 100000 in
theorem c_X4_at (l : Launch) (E : EnvT) (a_tp : Nat → Nat) (tp_bytes : Nat → Int32) (tp_size : Int32) (p1 : Int32) (r : Int32) (hf : f_X4_at p1 tp_bytes tp_size = some r) : CI l yX4_at (Cond.code yX4_at cX4_at 2 (some .int)) { frames := 0, cells := 0, slots := 0, locals := 0 } E [.ref (a_tp 0), .int p1] (w_tp E a_tp tp_bytes tp_size) r (w_tp E a_tp tp_bytes tp_size) := by
  intro sz
  refine met_start [(0, .ref (a_tp 0)), (1, .int p1)] (by decide) rfl rfl (Nat.le_of_ble_eq_true rfl) rfl ?_
  intro p e s m below meth c ls C hnm hmt hw hl
  have hx := C.1
  have hb := C.2.1
  generalize va_A (w_tp E a_tp tp_bytes tp_size) sz = A at C hw ⊢
  unfold f_X4_at at hf
  refine lv_iload_n hx hb dX4_at_0 rfl (lv_at hl 1 rfl) ?_
  refine lv_if_lt (tgt := 21) hx hb dX4_at_1 (by decide) (fun c1 => ?_) (fun c1 => ?_)
  · replace hf := it_t c1 hf
    refine lv_iconst (v := -1) hx hb dX4_at_21 (by decide) ?_
    cases hf
    exact rt_i C hw dX4_at_22
  · replace hf := it_f c1 hf
    refine lv_iload_n hx hb dX4_at_4 rfl (lv_at hl 1 rfl) ?_
    refine lv_aload_n hx hb dX4_at_5 rfl (lv_at hl 0 rfl) ?_
    refine fg_X4_15 C hw 0 rfl rfl dX4_at_6 ?_
    refine lv_icmp_ge (tgt := 21) hx hb dX4_at_9 (by decide) (fun c9 => ?_) (fun c9 => ?_)
    · replace hf := it_t c9 hf
      refine lv_iconst (v := -1) hx hb dX4_at_21 (by decide) ?_
      cases hf
      exact rt_i C hw dX4_at_22
    · replace hf := it_f c9 hf
      refine lv_aload_n hx hb dX4_at_12 rfl (lv_at hl 0 rfl) ?_
      refine fg_X4_9 C hw 0 rfl rfl dX4_at_13 ?_
      refine lv_iload_n hx hb dX4_at_16 rfl (lv_at hl 1 rfl) ?_
      obtain ⟨x1, ex1, gx1, hf⟩ := rd_el hf
      refine ra_i C hw 1 rfl gx1 dX4_at_17 ?_
      refine tp_i ex1 ?_
      refine lv_goto (tgt := 22) hx hb dX4_at_18 (by decide) ?_
      cases hf
      exact rt_i C hw dX4_at_22
def f_X4_hasRoom (tp_size : Int32) : Option ((Int32)) :=
  if (2000 : Int32) < (tp_size + (20 : Int32)) then (some (0 : Int32))
  else (some (1 : Int32))
set_option maxHeartbeats 4000000 in
set_option maxRecDepth 100000 in
theorem c_X4_hasRoom (l : Launch) (E : EnvT) (a_tp : Nat → Nat) (tp_bytes : Nat → Int32) (tp_size : Int32) (r : Int32) (hf : f_X4_hasRoom tp_size = some r) : CI l yX4_hasRoom (Cond.code yX4_hasRoom cX4_hasRoom 1 (some .boolean)) { frames := 0, cells := 0, slots := 0, locals := 0 } E [.ref (a_tp 0)] (w_tp E a_tp tp_bytes tp_size) r (w_tp E a_tp tp_bytes tp_size) := by
  intro sz
  refine met_start [(0, .ref (a_tp 0))] (by decide) rfl rfl (Nat.le_of_ble_eq_true rfl) rfl ?_
  intro p e s m below meth c ls C hnm hmt hw hl
  have hx := C.1
  have hb := C.2.1
  generalize va_A (w_tp E a_tp tp_bytes tp_size) sz = A at C hw ⊢
  unfold f_X4_hasRoom at hf
  refine lv_aload_n hx hb dX4_hasRoom_0 rfl (lv_at hl 0 rfl) ?_
  refine fg_X4_15 C hw 0 rfl rfl dX4_hasRoom_1 ?_
  refine lv_bipush (v := 20) hx hb dX4_hasRoom_4 (by decide) ?_
  refine lv_iadd hx hb dX4_hasRoom_6 ?_
  refine lv_sipush (v := 2000) hx hb dX4_hasRoom_7 (by decide) ?_
  refine lv_icmp_gt (tgt := 17) hx hb dX4_hasRoom_10 (by decide) (fun c10 => ?_) (fun c10 => ?_)
  · replace hf := it_t c10 hf
    refine lv_iconst (v := 0) hx hb dX4_hasRoom_17 (by decide) ?_
    cases hf
    exact rt_z C hw (Or.inl rfl) dX4_hasRoom_18
  · replace hf := it_f c10 hf
    refine lv_iconst (v := 1) hx hb dX4_hasRoom_13 (by decide) ?_
    refine lv_goto (tgt := 18) hx hb dX4_hasRoom_14 (by decide) ?_
    cases hf
    exact rt_z C hw (Or.inr rfl) dX4_hasRoom_18
def f_X4_put_3 : Nat → (Int32) → (Int32) → (Nat → Int32) → (Int32) → Option ((Nat → Int32) × (Int32))
  | 0, _, _, _, _ => none
  | n + 1, l1, l2, tp_bytes, tp_size =>
  if l2 < (0 : Int32) then (some (tp_bytes, tp_size))
  else (if (2000 : Int32) ≤ tp_size then (some (tp_bytes, tp_size))
  else (on ((UInt32.toInt32 (Int32.toUInt32 l1 >>> (Int32.toUInt32 l2 &&& Int32.toUInt32 31))) &&& (255 : Int32)) (fun x1 =>
  wr tp_bytes 2000 tp_size x1 (fun x2 =>
  on (tp_size + (1 : Int32)) (fun x3 =>
  on (l2 + (-8 : Int32)) (fun x4 =>
  f_X4_put_3 n l1 x4 x2 x3))))))
set_option maxHeartbeats 4000000 in
set_option maxRecDepth 100000 in
theorem w_X4_put_3 {p : Program} {l : Launch} {e : Env} {s : State} {m : MethodId} {args : Array Value} {below : List Frame} {meth : Method} {c : Code} {E : EnvT} {A : Nat → Prop} {a_tp : Nat → Nat} {Q : State → Prop} {q_tp_bytes : Nat → Int32} {q_tp_size : Int32} (C : MC p s m args meth c E A cX4_put 3 RX4 none) : ∀ (n : Nat) {l1 : Int32} {l2 : Int32} {tp_bytes : Nat → Int32} {tp_size : Int32} {H : Heap} {locs : List Loc} {ls : Array Slot}, WS E A s (w_tp E a_tp tp_bytes tp_size) H locs → lv_has ls 3 [(0, .ref (a_tp 0)), (1, .int l1), (2, .int l2)] → f_X4_put_3 n l1 l2 tp_bytes tp_size = some (q_tp_bytes, q_tp_size) → (∀ (H : Heap) (locs : List Loc) (ls : Array Slot), WS E A s (w_tp E a_tp q_tp_bytes q_tp_size) H locs → lv_has ls 3 [] → W p l e { frames := 0, cells := 0, slots := 0, locals := 0 } s m args below meth c H locs 0 0 Q (F0 m 49 ls [])) → W p l e { frames := 0, cells := 0, slots := 0, locals := 0 } s m args below meth c H locs 0 0 Q (F0 m 3 ls []) := by
  have hx := C.1
  have hb := C.2.1
  intro n
  induction n with
  | zero =>
    intro l1 l2 tp_bytes tp_size H locs ls hw hl hf kk
    unfold f_X4_put_3 at hf
    cases hf
  | succ n ih =>
    intro l1 l2 tp_bytes tp_size H locs ls hw hl hf kk
    unfold f_X4_put_3 at hf
    refine lv_iload_n hx hb dX4_put_3 rfl (lv_at hl 2 rfl) ?_
    refine lv_if_lt (tgt := 49) hx hb dX4_put_4 (by decide) (fun c4 => ?_) (fun c4 => ?_)
    · replace hf := it_t c4 hf
      cases hf
      exact kk _ _ _ hw (lv_sub hl [] rfl)
    · replace hf := it_f c4 hf
      refine lv_aload_n hx hb dX4_put_7 rfl (lv_at hl 0 rfl) ?_
      refine fg_X4_15 C hw 0 rfl rfl dX4_put_8 ?_
      refine lv_sipush (v := 2000) hx hb dX4_put_11 (by decide) ?_
      refine lv_icmp_ge (tgt := 49) hx hb dX4_put_14 (by decide) (fun c14 => ?_) (fun c14 => ?_)
      · replace hf := it_t c14 hf
        cases hf
        exact kk _ _ _ hw (lv_sub hl [] rfl)
      · replace hf := it_f c14 hf
        refine lv_aload_n hx hb dX4_put_17 rfl (lv_at hl 0 rfl) ?_
        refine fg_X4_9 C hw 0 rfl rfl dX4_put_18 ?_
        refine lv_aload_n hx hb dX4_put_21 rfl (lv_at hl 0 rfl) ?_
        refine fg_X4_15 C hw 0 rfl rfl dX4_put_22 ?_
        refine lv_iload_n hx hb dX4_put_25 rfl (lv_at hl 1 rfl) ?_
        refine lv_iload_n hx hb dX4_put_26 rfl (lv_at hl 2 rfl) ?_
        refine lv_iushr hx hb dX4_put_27 rfl ?_
        refine lv_sipush (v := 255) hx hb dX4_put_28 (by decide) ?_
        refine lv_iand hx hb dX4_put_31 ?_
        obtain ⟨x1, ex1, hf⟩ := on_el hf
        refine tp_i ex1 ?_
        obtain ⟨x2, ex2, gx2, hf⟩ := wr_el hf
        refine rs_i C hw 1 rfl gx2 (ws' := w_tp E a_tp x2 tp_size) (by subst ex2; rfl) dX4_put_32 (fun H locs hw => ?_)
        refine lv_aload_n hx hb dX4_put_33 rfl (lv_at hl 0 rfl) ?_
        refine lv_dup hx hb dX4_put_34 rfl ?_
        refine fg_X4_15 C hw 0 rfl rfl dX4_put_35 ?_
        refine lv_iconst (v := 1) hx hb dX4_put_38 (by decide) ?_
        refine lv_iadd hx hb dX4_put_39 ?_
        obtain ⟨x3, ex3, hf⟩ := on_el hf
        refine tp_i ex3 ?_
        refine fp_X4_15 C hw 0 rfl (Nat.le_of_ble_eq_true rfl) (ws' := w_tp E a_tp x2 x3) rfl dX4_put_40 (fun H locs hw => ?_)
        obtain ⟨x4, ex4, hf⟩ := on_el hf
        refine lv_iinc (v := x4) (lv' := [(2, .int x4), (0, .ref (a_tp 0)), (1, .int l1)]) hx hb dX4_put_43 hl (k := 2) rfl (by rw [← ex4]; rfl) (by decide) rfl (fun ls hl => ?_)
        refine lv_goto (tgt := 3) hx hb dX4_put_46 (by decide) ?_
        exact ih hw (lv_sub hl [1, 2, 0] rfl) hf kk
def f_X4_put (p1 : Int32) (tp_bytes : Nat → Int32) (tp_size : Int32) : Option ((Nat → Int32) × (Int32)) :=
  ob2 (f_X4_put_3 FU p1 (24 : Int32) tp_bytes tp_size) (fun x1 x2 =>
  some (x1, x2))
set_option maxHeartbeats 4000000 in
set_option maxRecDepth 100000 in
theorem c_X4_put (l : Launch) (E : EnvT) (a_tp : Nat → Nat) (tp_bytes : Nat → Int32) (tp_size : Int32) (p1 : Int32) (o_tp_bytes : Nat → Int32) (o_tp_size : Int32) (hf : f_X4_put p1 tp_bytes tp_size = some (o_tp_bytes, o_tp_size)) : CV l yX4_put (Cond.code yX4_put cX4_put 3 none) { frames := 0, cells := 0, slots := 0, locals := 0 } E [.ref (a_tp 0), .int p1] (w_tp E a_tp tp_bytes tp_size) (w_tp E a_tp o_tp_bytes o_tp_size) := by
  intro sz
  refine met_start [(0, .ref (a_tp 0)), (1, .int p1)] (by decide) rfl rfl (Nat.le_of_ble_eq_true rfl) rfl ?_
  intro p e s m below meth c ls C hnm hmt hw hl
  have hx := C.1
  have hb := C.2.1
  generalize va_A (w_tp E a_tp tp_bytes tp_size) sz = A at C hw ⊢
  unfold f_X4_put at hf
  refine lv_bipush (v := 24) hx hb dX4_put_0 (by decide) ?_
  refine lv_istore_n (lv' := [(2, .int (24 : Int32)), (0, .ref (a_tp 0)), (1, .int p1)]) hx hb dX4_put_2 rfl hl (by decide) rfl (fun ls hl => ?_)
  obtain ⟨x1, x2, hx1, hf⟩ := ob2_el hf
  refine w_X4_put_3 C FU hw (lv_sub hl [1, 2, 0] rfl) hx1 ?_
  clear hw hl
  intro H locs ls hw hl
  cases hf
  exact rt_v C hw dX4_put_49
def f_X4_cut (p1 : Int32) (tp_size : Int32) : Option ((Int32) × (Int32)) :=
  if p1 < (0 : Int32) then (some ((0 : Int32), tp_size))
  else (if p1 ≤ tp_size then (some ((1 : Int32), p1))
  else (some ((0 : Int32), tp_size)))
set_option maxHeartbeats 4000000 in
set_option maxRecDepth 100000 in
theorem c_X4_cut (l : Launch) (E : EnvT) (a_tp : Nat → Nat) (tp_bytes : Nat → Int32) (tp_size : Int32) (p1 : Int32) (r : Int32) (o_tp_size : Int32) (hf : f_X4_cut p1 tp_size = some (r, o_tp_size)) : CI l yX4_cut (Cond.code yX4_cut cX4_cut 2 (some .boolean)) { frames := 0, cells := 0, slots := 0, locals := 0 } E [.ref (a_tp 0), .int p1] (w_tp E a_tp tp_bytes tp_size) r (w_tp E a_tp tp_bytes o_tp_size) := by
  intro sz
  refine met_start [(0, .ref (a_tp 0)), (1, .int p1)] (by decide) rfl rfl (Nat.le_of_ble_eq_true rfl) rfl ?_
  intro p e s m below meth c ls C hnm hmt hw hl
  have hx := C.1
  have hb := C.2.1
  generalize va_A (w_tp E a_tp tp_bytes tp_size) sz = A at C hw ⊢
  unfold f_X4_cut at hf
  refine lv_iload_n hx hb dX4_cut_0 rfl (lv_at hl 1 rfl) ?_
  refine lv_if_lt (tgt := 12) hx hb dX4_cut_1 (by decide) (fun c1 => ?_) (fun c1 => ?_)
  · replace hf := it_t c1 hf
    refine lv_iconst (v := 0) hx hb dX4_cut_12 (by decide) ?_
    cases hf
    exact rt_z C hw (Or.inl rfl) dX4_cut_13
  · replace hf := it_f c1 hf
    refine lv_iload_n hx hb dX4_cut_4 rfl (lv_at hl 1 rfl) ?_
    refine lv_aload_n hx hb dX4_cut_5 rfl (lv_at hl 0 rfl) ?_
    refine fg_X4_15 C hw 0 rfl rfl dX4_cut_6 ?_
    refine lv_icmp_le (tgt := 14) hx hb dX4_cut_9 (by decide) (fun c9 => ?_) (fun c9 => ?_)
    · replace hf := it_t c9 hf
      refine lv_aload_n hx hb dX4_cut_14 rfl (lv_at hl 0 rfl) ?_
      refine lv_iload_n hx hb dX4_cut_15 rfl (lv_at hl 1 rfl) ?_
      refine fp_X4_15 C hw 0 rfl (Nat.le_of_ble_eq_true rfl) (ws' := w_tp E a_tp tp_bytes p1) rfl dX4_cut_16 (fun H locs hw => ?_)
      refine lv_iconst (v := 1) hx hb dX4_cut_19 (by decide) ?_
      cases hf
      exact rt_z C hw (Or.inr rfl) dX4_cut_20
    · replace hf := it_f c9 hf
      refine lv_iconst (v := 0) hx hb dX4_cut_12 (by decide) ?_
      cases hf
      exact rt_z C hw (Or.inl rfl) dX4_cut_13
def f_X4_clear (tp_size : Int32) : Option ((Int32)) :=
  some (0 : Int32)
set_option maxHeartbeats 4000000 in
set_option maxRecDepth 100000 in
theorem c_X4_clear (l : Launch) (E : EnvT) (a_tp : Nat → Nat) (tp_bytes : Nat → Int32) (tp_size : Int32) (o_tp_size : Int32) (hf : f_X4_clear tp_size = some o_tp_size) : CV l yX4_clear (Cond.code yX4_clear cX4_clear 1 none) { frames := 0, cells := 0, slots := 0, locals := 0 } E [.ref (a_tp 0)] (w_tp E a_tp tp_bytes tp_size) (w_tp E a_tp tp_bytes o_tp_size) := by
  intro sz
  refine met_start [(0, .ref (a_tp 0))] (by decide) rfl rfl (Nat.le_of_ble_eq_true rfl) rfl ?_
  intro p e s m below meth c ls C hnm hmt hw hl
  have hx := C.1
  have hb := C.2.1
  generalize va_A (w_tp E a_tp tp_bytes tp_size) sz = A at C hw ⊢
  unfold f_X4_clear at hf
  refine lv_aload_n hx hb dX4_clear_0 rfl (lv_at hl 0 rfl) ?_
  refine lv_iconst (v := 0) hx hb dX4_clear_1 (by decide) ?_
  refine fp_X4_15 C hw 0 rfl (Nat.le_of_ble_eq_true rfl) (ws' := w_tp E a_tp tp_bytes (0 : Int32)) rfl dX4_clear_2 (fun H locs hw => ?_)
  cases hf
  exact rt_v C hw dX4_clear_5
