def f_X5_isBlank (p0 : Int32) : Option ((Int32)) :=
  if p0 = (32 : Int32) then (some (1 : Int32))
  else (if p0 = (10 : Int32) then (some (1 : Int32))
  else (some (0 : Int32)))
set_option maxHeartbeats 4000000 in
set_option maxRecDepth 100000 in
theorem c_X5_isBlank (l : Launch) (E : EnvT) (p0 : Int32) (r : Int32) (hf : f_X5_isBlank p0 = some r) : CI l yX5_isBlank (Cond.code yX5_isBlank cX5_isBlank 1 (some .boolean)) { frames := 0, cells := 0, slots := 0, locals := 0 } E [.int p0] ([]) r ([]) := by
  intro sz
  refine met_start [(0, .int p0)] (by decide) rfl rfl (Nat.le_of_ble_eq_true rfl) rfl ?_
  intro p e s m below meth c ls C hnm hmt hw hl
  have hx := C.1
  have hb := C.2.1
  generalize va_A ([]) sz = A at C hw ⊢
  unfold f_X5_isBlank at hf
  refine lv_iload_n hx hb dX5_isBlank_0 rfl (lv_at hl 0 rfl) ?_
  refine lv_bipush (v := 32) hx hb dX5_isBlank_1 (by decide) ?_
  refine lv_icmp_eq (tgt := 12) hx hb dX5_isBlank_3 (by decide) (fun c3 => ?_) (fun c3 => ?_)
  · replace hf := it_t c3 hf
    refine lv_iconst (v := 1) hx hb dX5_isBlank_12 (by decide) ?_
    refine lv_goto (tgt := 17) hx hb dX5_isBlank_13 (by decide) ?_
    cases hf
    exact rt_z C hw (Or.inr rfl) dX5_isBlank_17
  · replace hf := it_f c3 hf
    refine lv_iload_n hx hb dX5_isBlank_6 rfl (lv_at hl 0 rfl) ?_
    refine lv_bipush (v := 10) hx hb dX5_isBlank_7 (by decide) ?_
    refine lv_icmp_ne (tgt := 16) hx hb dX5_isBlank_9 (by decide) (fun c9 => ?_) (fun c9 => ?_)
    · replace hf := it_f c9 hf
      refine lv_iconst (v := 0) hx hb dX5_isBlank_16 (by decide) ?_
      cases hf
      exact rt_z C hw (Or.inl rfl) dX5_isBlank_17
    · replace hf := it_t c9 hf
      refine lv_iconst (v := 1) hx hb dX5_isBlank_12 (by decide) ?_
      refine lv_goto (tgt := 17) hx hb dX5_isBlank_13 (by decide) ?_
      cases hf
      exact rt_z C hw (Or.inr rfl) dX5_isBlank_17
def f_X5_isLetter (p0 : Int32) : Option ((Int32)) :=
  if p0 < (97 : Int32) then (if p0 < (65 : Int32) then (some (0 : Int32))
  else (if (90 : Int32) < p0 then (some (0 : Int32))
  else (some (1 : Int32))))
  else (if p0 ≤ (122 : Int32) then (some (1 : Int32))
  else (if p0 < (65 : Int32) then (some (0 : Int32))
  else (if (90 : Int32) < p0 then (some (0 : Int32))
  else (some (1 : Int32)))))
set_option maxHeartbeats 4000000 in
set_option maxRecDepth 100000 in
theorem c_X5_isLetter (l : Launch) (E : EnvT) (p0 : Int32) (r : Int32) (hf : f_X5_isLetter p0 = some r) : CI l yX5_isLetter (Cond.code yX5_isLetter cX5_isLetter 1 (some .boolean)) { frames := 0, cells := 0, slots := 0, locals := 0 } E [.int p0] ([]) r ([]) := by
  intro sz
  refine met_start [(0, .int p0)] (by decide) rfl rfl (Nat.le_of_ble_eq_true rfl) rfl ?_
  intro p e s m below meth c ls C hnm hmt hw hl
  have hx := C.1
  have hb := C.2.1
  generalize va_A ([]) sz = A at C hw ⊢
  unfold f_X5_isLetter at hf
  refine lv_iload_n hx hb dX5_isLetter_0 rfl (lv_at hl 0 rfl) ?_
  refine lv_bipush (v := 97) hx hb dX5_isLetter_1 (by decide) ?_
  refine lv_icmp_lt (tgt := 12) hx hb dX5_isLetter_3 (by decide) (fun c3 => ?_) (fun c3 => ?_)
  · replace hf := it_t c3 hf
    refine lv_iload_n hx hb dX5_isLetter_12 rfl (lv_at hl 0 rfl) ?_
    refine lv_bipush (v := 65) hx hb dX5_isLetter_13 (by decide) ?_
    refine lv_icmp_lt (tgt := 28) hx hb dX5_isLetter_15 (by decide) (fun c15 => ?_) (fun c15 => ?_)
    · replace hf := it_t c15 hf
      refine lv_iconst (v := 0) hx hb dX5_isLetter_28 (by decide) ?_
      cases hf
      exact rt_z C hw (Or.inl rfl) dX5_isLetter_29
    · replace hf := it_f c15 hf
      refine lv_iload_n hx hb dX5_isLetter_18 rfl (lv_at hl 0 rfl) ?_
      refine lv_bipush (v := 90) hx hb dX5_isLetter_19 (by decide) ?_
      refine lv_icmp_gt (tgt := 28) hx hb dX5_isLetter_21 (by decide) (fun c21 => ?_) (fun c21 => ?_)
      · replace hf := it_t c21 hf
        refine lv_iconst (v := 0) hx hb dX5_isLetter_28 (by decide) ?_
        cases hf
        exact rt_z C hw (Or.inl rfl) dX5_isLetter_29
      · replace hf := it_f c21 hf
        refine lv_iconst (v := 1) hx hb dX5_isLetter_24 (by decide) ?_
        refine lv_goto (tgt := 29) hx hb dX5_isLetter_25 (by decide) ?_
        cases hf
        exact rt_z C hw (Or.inr rfl) dX5_isLetter_29
  · replace hf := it_f c3 hf
    refine lv_iload_n hx hb dX5_isLetter_6 rfl (lv_at hl 0 rfl) ?_
    refine lv_bipush (v := 122) hx hb dX5_isLetter_7 (by decide) ?_
    refine lv_icmp_le (tgt := 24) hx hb dX5_isLetter_9 (by decide) (fun c9 => ?_) (fun c9 => ?_)
    · replace hf := it_t c9 hf
      refine lv_iconst (v := 1) hx hb dX5_isLetter_24 (by decide) ?_
      refine lv_goto (tgt := 29) hx hb dX5_isLetter_25 (by decide) ?_
      cases hf
      exact rt_z C hw (Or.inr rfl) dX5_isLetter_29
    · replace hf := it_f c9 hf
      refine lv_iload_n hx hb dX5_isLetter_12 rfl (lv_at hl 0 rfl) ?_
      refine lv_bipush (v := 65) hx hb dX5_isLetter_13 (by decide) ?_
      refine lv_icmp_lt (tgt := 28) hx hb dX5_isLetter_15 (by decide) (fun c15 => ?_) (fun c15 => ?_)
      · replace hf := it_t c15 hf
        refine lv_iconst (v := 0) hx hb dX5_isLetter_28 (by decide) ?_
        cases hf
        exact rt_z C hw (Or.inl rfl) dX5_isLetter_29
      · replace hf := it_f c15 hf
        refine lv_iload_n hx hb dX5_isLetter_18 rfl (lv_at hl 0 rfl) ?_
        refine lv_bipush (v := 90) hx hb dX5_isLetter_19 (by decide) ?_
        refine lv_icmp_gt (tgt := 28) hx hb dX5_isLetter_21 (by decide) (fun c21 => ?_) (fun c21 => ?_)
        · replace hf := it_t c21 hf
          refine lv_iconst (v := 0) hx hb dX5_isLetter_28 (by decide) ?_
          cases hf
          exact rt_z C hw (Or.inl rfl) dX5_isLetter_29
        · replace hf := it_f c21 hf
          refine lv_iconst (v := 1) hx hb dX5_isLetter_24 (by decide) ?_
          refine lv_goto (tgt := 29) hx hb dX5_isLetter_25 (by decide) ?_
          cases hf
          exact rt_z C hw (Or.inr rfl) dX5_isLetter_29
def f_X5_isWordByte_24 (l0 : Int32) : Option ((Int32)) :=
  if l0 < (48 : Int32) then (if l0 = (95 : Int32) then (some (1 : Int32))
  else (some (0 : Int32)))
  else (if l0 ≤ (57 : Int32) then (some (1 : Int32))
  else (if l0 = (95 : Int32) then (some (1 : Int32))
  else (some (0 : Int32))))
set_option maxHeartbeats 4000000 in
set_option maxRecDepth 100000 in
theorem w_X5_isWordByte_24 {p : Program} {l : Launch} {e : Env} {s : State} {m : MethodId} {args : Array Value} {below : List Frame} {meth : Method} {c : Code} {E : EnvT} {A : Nat → Prop} {r : Int32} {l0 : Int32} {H : Heap} {locs : List Loc} {ls : Array Slot} (C : MC p s m args meth c E A cX5_isWordByte 1 RX5 (some .boolean)) (hw : WS E A s ([]) H locs) (hl : lv_has ls 1 [(0, .int l0)]) (hf : f_X5_isWordByte_24 l0 = some r) : W p l e { frames := 0, cells := 0, slots := 0, locals := 0 } s m args below meth c H locs 0 0 (MQ below (QcI E A ([]) r) args s 0 0 A) (F0 m 24 ls []) := by
  have hx := C.1
  have hb := C.2.1
  unfold f_X5_isWordByte_24 at hf
  refine lv_iload_n hx hb dX5_isWordByte_24 rfl (lv_at hl 0 rfl) ?_
  refine lv_bipush (v := 48) hx hb dX5_isWordByte_25 (by decide) ?_
  refine lv_icmp_lt (tgt := 36) hx hb dX5_isWordByte_27 (by decide) (fun c27 => ?_) (fun c27 => ?_)
  · replace hf := it_t c27 hf
    refine lv_iload_n hx hb dX5_isWordByte_36 rfl (lv_at hl 0 rfl) ?_
    refine lv_bipush (v := 95) hx hb dX5_isWordByte_37 (by decide) ?_
    refine lv_icmp_ne (tgt := 46) hx hb dX5_isWordByte_39 (by decide) (fun c39 => ?_) (fun c39 => ?_)
    · replace hf := it_f c39 hf
      refine lv_iconst (v := 0) hx hb dX5_isWordByte_46 (by decide) ?_
      cases hf
      exact rt_z C hw (Or.inl rfl) dX5_isWordByte_47
    · replace hf := it_t c39 hf
      refine lv_iconst (v := 1) hx hb dX5_isWordByte_42 (by decide) ?_
      refine lv_goto (tgt := 47) hx hb dX5_isWordByte_43 (by decide) ?_
      cases hf
      exact rt_z C hw (Or.inr rfl) dX5_isWordByte_47
  · replace hf := it_f c27 hf
    refine lv_iload_n hx hb dX5_isWordByte_30 rfl (lv_at hl 0 rfl) ?_
    refine lv_bipush (v := 57) hx hb dX5_isWordByte_31 (by decide) ?_
    refine lv_icmp_le (tgt := 42) hx hb dX5_isWordByte_33 (by decide) (fun c33 => ?_) (fun c33 => ?_)
    · replace hf := it_t c33 hf
      refine lv_iconst (v := 1) hx hb dX5_isWordByte_42 (by decide) ?_
      refine lv_goto (tgt := 47) hx hb dX5_isWordByte_43 (by decide) ?_
      cases hf
      exact rt_z C hw (Or.inr rfl) dX5_isWordByte_47
    · replace hf := it_f c33 hf
      refine lv_iload_n hx hb dX5_isWordByte_36 rfl (lv_at hl 0 rfl) ?_
      refine lv_bipush (v := 95) hx hb dX5_isWordByte_37 (by decide) ?_
      refine lv_icmp_ne (tgt := 46) hx hb dX5_isWordByte_39 (by decide) (fun c39 => ?_) (fun c39 => ?_)
      · replace hf := it_f c39 hf
        refine lv_iconst (v := 0) hx hb dX5_isWordByte_46 (by decide) ?_
        cases hf
        exact rt_z C hw (Or.inl rfl) dX5_isWordByte_47
      · replace hf := it_t c39 hf
        refine lv_iconst (v := 1) hx hb dX5_isWordByte_42 (by decide) ?_
        refine lv_goto (tgt := 47) hx hb dX5_isWordByte_43 (by decide) ?_
        cases hf
        exact rt_z C hw (Or.inr rfl) dX5_isWordByte_47
def f_X5_isWordByte_12 (l0 : Int32) : Option ((Int32)) :=
  if l0 < (65 : Int32) then (f_X5_isWordByte_24 l0)
  else (if l0 ≤ (90 : Int32) then (some (1 : Int32))
  else (f_X5_isWordByte_24 l0))
set_option maxHeartbeats 4000000 in
set_option maxRecDepth 100000 in
theorem w_X5_isWordByte_12 {p : Program} {l : Launch} {e : Env} {s : State} {m : MethodId} {args : Array Value} {below : List Frame} {meth : Method} {c : Code} {E : EnvT} {A : Nat → Prop} {r : Int32} {l0 : Int32} {H : Heap} {locs : List Loc} {ls : Array Slot} (C : MC p s m args meth c E A cX5_isWordByte 1 RX5 (some .boolean)) (hw : WS E A s ([]) H locs) (hl : lv_has ls 1 [(0, .int l0)]) (hf : f_X5_isWordByte_12 l0 = some r) : W p l e { frames := 0, cells := 0, slots := 0, locals := 0 } s m args below meth c H locs 0 0 (MQ below (QcI E A ([]) r) args s 0 0 A) (F0 m 12 ls []) := by
  have hx := C.1
  have hb := C.2.1
  unfold f_X5_isWordByte_12 at hf
  refine lv_iload_n hx hb dX5_isWordByte_12 rfl (lv_at hl 0 rfl) ?_
  refine lv_bipush (v := 65) hx hb dX5_isWordByte_13 (by decide) ?_
  refine lv_icmp_lt (tgt := 24) hx hb dX5_isWordByte_15 (by decide) (fun c15 => ?_) (fun c15 => ?_)
  · replace hf := it_t c15 hf
    exact w_X5_isWordByte_24 C hw (lv_sub hl [0] rfl) hf
  · replace hf := it_f c15 hf
    refine lv_iload_n hx hb dX5_isWordByte_18 rfl (lv_at hl 0 rfl) ?_
    refine lv_bipush (v := 90) hx hb dX5_isWordByte_19 (by decide) ?_
    refine lv_icmp_le (tgt := 42) hx hb dX5_isWordByte_21 (by decide) (fun c21 => ?_) (fun c21 => ?_)
    · replace hf := it_t c21 hf
      refine lv_iconst (v := 1) hx hb dX5_isWordByte_42 (by decide) ?_
      refine lv_goto (tgt := 47) hx hb dX5_isWordByte_43 (by decide) ?_
      cases hf
      exact rt_z C hw (Or.inr rfl) dX5_isWordByte_47
    · replace hf := it_f c21 hf
      exact w_X5_isWordByte_24 C hw (lv_sub hl [0] rfl) hf
def f_X5_isWordByte (p0 : Int32) : Option ((Int32)) :=
  if p0 < (97 : Int32) then (f_X5_isWordByte_12 p0)
  else (if p0 ≤ (122 : Int32) then (some (1 : Int32))
  else (f_X5_isWordByte_12 p0))
set_option maxHeartbeats 4000000 in
set_option maxRecDepth 100000 in
theorem c_X5_isWordByte (l : Launch) (E : EnvT) (p0 : Int32) (r : Int32) (hf : f_X5_isWordByte p0 = some r) : CI l yX5_isWordByte (Cond.code yX5_isWordByte cX5_isWordByte 1 (some .boolean)) { frames := 0, cells := 0, slots := 0, locals := 0 } E [.int p0] ([]) r ([]) := by
  intro sz
  refine met_start [(0, .int p0)] (by decide) rfl rfl (Nat.le_of_ble_eq_true rfl) rfl ?_
  intro p e s m below meth c ls C hnm hmt hw hl
  have hx := C.1
  have hb := C.2.1
  generalize va_A ([]) sz = A at C hw ⊢
  unfold f_X5_isWordByte at hf
  refine lv_iload_n hx hb dX5_isWordByte_0 rfl (lv_at hl 0 rfl) ?_
  refine lv_bipush (v := 97) hx hb dX5_isWordByte_1 (by decide) ?_
  refine lv_icmp_lt (tgt := 12) hx hb dX5_isWordByte_3 (by decide) (fun c3 => ?_) (fun c3 => ?_)
  · replace hf := it_t c3 hf
    exact w_X5_isWordByte_12 C hw (lv_sub hl [0] rfl) hf
  · replace hf := it_f c3 hf
    refine lv_iload_n hx hb dX5_isWordByte_6 rfl (lv_at hl 0 rfl) ?_
    refine lv_bipush (v := 122) hx hb dX5_isWordByte_7 (by decide) ?_
    refine lv_icmp_le (tgt := 42) hx hb dX5_isWordByte_9 (by decide) (fun c9 => ?_) (fun c9 => ?_)
    · replace hf := it_t c9 hf
      refine lv_iconst (v := 1) hx hb dX5_isWordByte_42 (by decide) ?_
      refine lv_goto (tgt := 47) hx hb dX5_isWordByte_43 (by decide) ?_
      cases hf
      exact rt_z C hw (Or.inr rfl) dX5_isWordByte_47
    · replace hf := it_f c9 hf
      exact w_X5_isWordByte_12 C hw (lv_sub hl [0] rfl) hf
def f_X5_isDigit (p0 : Int32) : Option ((Int32)) :=
  if p0 < (48 : Int32) then (some (0 : Int32))
  else (if (57 : Int32) < p0 then (some (0 : Int32))
  else (some (1 : Int32)))
set_option maxHeartbeats 4000000 in
set_option maxRecDepth 100000 in
theorem c_X5_isDigit (l : Launch) (E : EnvT) (p0 : Int32) (r : Int32) (hf : f_X5_isDigit p0 = some r) : CI l yX5_isDigit (Cond.code yX5_isDigit cX5_isDigit 1 (some .boolean)) { frames := 0, cells := 0, slots := 0, locals := 0 } E [.int p0] ([]) r ([]) := by
  intro sz
  refine met_start [(0, .int p0)] (by decide) rfl rfl (Nat.le_of_ble_eq_true rfl) rfl ?_
  intro p e s m below meth c ls C hnm hmt hw hl
  have hx := C.1
  have hb := C.2.1
  generalize va_A ([]) sz = A at C hw ⊢
  unfold f_X5_isDigit at hf
  refine lv_iload_n hx hb dX5_isDigit_0 rfl (lv_at hl 0 rfl) ?_
  refine lv_bipush (v := 48) hx hb dX5_isDigit_1 (by decide) ?_
  refine lv_icmp_lt (tgt := 16) hx hb dX5_isDigit_3 (by decide) (fun c3 => ?_) (fun c3 => ?_)
  · replace hf := it_t c3 hf
    refine lv_iconst (v := 0) hx hb dX5_isDigit_16 (by decide) ?_
    cases hf
    exact rt_z C hw (Or.inl rfl) dX5_isDigit_17
  · replace hf := it_f c3 hf
    refine lv_iload_n hx hb dX5_isDigit_6 rfl (lv_at hl 0 rfl) ?_
    refine lv_bipush (v := 57) hx hb dX5_isDigit_7 (by decide) ?_
    refine lv_icmp_gt (tgt := 16) hx hb dX5_isDigit_9 (by decide) (fun c9 => ?_) (fun c9 => ?_)
    · replace hf := it_t c9 hf
      refine lv_iconst (v := 0) hx hb dX5_isDigit_16 (by decide) ?_
      cases hf
      exact rt_z C hw (Or.inl rfl) dX5_isDigit_17
    · replace hf := it_f c9 hf
      refine lv_iconst (v := 1) hx hb dX5_isDigit_12 (by decide) ?_
      refine lv_goto (tgt := 17) hx hb dX5_isDigit_13 (by decide) ?_
      cases hf
      exact rt_z C hw (Or.inr rfl) dX5_isDigit_17
def f_X5_hexValue_17 (l0 : Int32) : Option ((Int32)) :=
  if l0 < (97 : Int32) then (some (-1 : Int32))
  else (if (102 : Int32) < l0 then (some (-1 : Int32))
  else (some ((l0 - (97 : Int32)) + (10 : Int32))))
set_option maxHeartbeats 4000000 in
set_option maxRecDepth 100000 in
theorem w_X5_hexValue_17 {p : Program} {l : Launch} {e : Env} {s : State} {m : MethodId} {args : Array Value} {below : List Frame} {meth : Method} {c : Code} {E : EnvT} {A : Nat → Prop} {r : Int32} {l0 : Int32} {H : Heap} {locs : List Loc} {ls : Array Slot} (C : MC p s m args meth c E A cX5_hexValue 1 RX5 (some .int)) (hw : WS E A s ([]) H locs) (hl : lv_has ls 1 [(0, .int l0)]) (hf : f_X5_hexValue_17 l0 = some r) : W p l e { frames := 0, cells := 0, slots := 0, locals := 0 } s m args below meth c H locs 0 0 (MQ below (QcI E A ([]) r) args s 0 0 A) (F0 m 17 ls []) := by
  have hx := C.1
  have hb := C.2.1
  unfold f_X5_hexValue_17 at hf
  refine lv_iload_n hx hb dX5_hexValue_17 rfl (lv_at hl 0 rfl) ?_
  refine lv_bipush (v := 97) hx hb dX5_hexValue_18 (by decide) ?_
  refine lv_icmp_lt (tgt := 39) hx hb dX5_hexValue_20 (by decide) (fun c20 => ?_) (fun c20 => ?_)
  · replace hf := it_t c20 hf
    refine lv_iconst (v := -1) hx hb dX5_hexValue_39 (by decide) ?_
    cases hf
    exact rt_i C hw dX5_hexValue_40
  · replace hf := it_f c20 hf
    refine lv_iload_n hx hb dX5_hexValue_23 rfl (lv_at hl 0 rfl) ?_
    refine lv_bipush (v := 102) hx hb dX5_hexValue_24 (by decide) ?_
    refine lv_icmp_gt (tgt := 39) hx hb dX5_hexValue_26 (by decide) (fun c26 => ?_) (fun c26 => ?_)
    · replace hf := it_t c26 hf
      refine lv_iconst (v := -1) hx hb dX5_hexValue_39 (by decide) ?_
      cases hf
      exact rt_i C hw dX5_hexValue_40
    · replace hf := it_f c26 hf
      refine lv_iload_n hx hb dX5_hexValue_29 rfl (lv_at hl 0 rfl) ?_
      refine lv_bipush (v := 97) hx hb dX5_hexValue_30 (by decide) ?_
      refine lv_isub hx hb dX5_hexValue_32 ?_
      refine lv_bipush (v := 10) hx hb dX5_hexValue_33 (by decide) ?_
      refine lv_iadd hx hb dX5_hexValue_35 ?_
      refine lv_goto (tgt := 40) hx hb dX5_hexValue_36 (by decide) ?_
      cases hf
      exact rt_i C hw dX5_hexValue_40
def f_X5_hexValue (p0 : Int32) : Option ((Int32)) :=
  if p0 < (48 : Int32) then (f_X5_hexValue_17 p0)
  else (if (57 : Int32) < p0 then (f_X5_hexValue_17 p0)
  else (some (p0 - (48 : Int32))))
set_option maxHeartbeats 4000000 in
set_option maxRecDepth 100000 in
theorem c_X5_hexValue (l : Launch) (E : EnvT) (p0 : Int32) (r : Int32) (hf : f_X5_hexValue p0 = some r) : CI l yX5_hexValue (Cond.code yX5_hexValue cX5_hexValue 1 (some .int)) { frames := 0, cells := 0, slots := 0, locals := 0 } E [.int p0] ([]) r ([]) := by
  intro sz
  refine met_start [(0, .int p0)] (by decide) rfl rfl (Nat.le_of_ble_eq_true rfl) rfl ?_
  intro p e s m below meth c ls C hnm hmt hw hl
  have hx := C.1
  have hb := C.2.1
  generalize va_A ([]) sz = A at C hw ⊢
  unfold f_X5_hexValue at hf
  refine lv_iload_n hx hb dX5_hexValue_0 rfl (lv_at hl 0 rfl) ?_
  refine lv_bipush (v := 48) hx hb dX5_hexValue_1 (by decide) ?_
  refine lv_icmp_lt (tgt := 17) hx hb dX5_hexValue_3 (by decide) (fun c3 => ?_) (fun c3 => ?_)
  · replace hf := it_t c3 hf
    exact w_X5_hexValue_17 C hw (lv_sub hl [0] rfl) hf
  · replace hf := it_f c3 hf
    refine lv_iload_n hx hb dX5_hexValue_6 rfl (lv_at hl 0 rfl) ?_
    refine lv_bipush (v := 57) hx hb dX5_hexValue_7 (by decide) ?_
    refine lv_icmp_gt (tgt := 17) hx hb dX5_hexValue_9 (by decide) (fun c9 => ?_) (fun c9 => ?_)
    · replace hf := it_t c9 hf
      exact w_X5_hexValue_17 C hw (lv_sub hl [0] rfl) hf
    · replace hf := it_f c9 hf
      refine lv_iload_n hx hb dX5_hexValue_12 rfl (lv_at hl 0 rfl) ?_
      refine lv_bipush (v := 48) hx hb dX5_hexValue_13 (by decide) ?_
      refine lv_isub hx hb dX5_hexValue_15 ?_
      cases hf
      exact rt_i C hw dX5_hexValue_16
