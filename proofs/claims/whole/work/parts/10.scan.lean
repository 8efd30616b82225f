def f_X2_orderToken (p1 : Int32) (p2 : Int32) (sc_end : Int32) : Option ((Int32) × (Int32)) :=
  if p2 = (61 : Int32) then (on (sc_end + (1 : Int32)) (fun x2 =>
  if p1 = (0 : Int32) then (some ((27 : Int32), x2))
  else (some ((25 : Int32), x2))))
  else (if p1 = (0 : Int32) then (if p1 = (0 : Int32) then (some ((26 : Int32), sc_end))
  else (some ((24 : Int32), sc_end)))
  else (if p2 = (62 : Int32) then (on (sc_end + (1 : Int32)) (fun x1 =>
  some ((23 : Int32), x1)))
  else (if p1 = (0 : Int32) then (some ((26 : Int32), sc_end))
  else (some ((24 : Int32), sc_end)))))
set_option maxHeartbeats 4000000 in
set_option maxRecDepth 100000 in
theorem c_X2_orderToken (l : Launch) (E : EnvT) (a_sc : Nat → Nat) (a_tp : Nat → Nat) (sc_token : Int32) (sc_start : Int32) (sc_end : Int32) (sc_numberRead : Int64) (sc_escaped : Int32) (sc_bytesBehind : Int32) (tp_bytes : Nat → Int32) (tp_size : Int32) (p1 : Int32) (p2 : Int32) (r : Int32) (o_sc_end : Int32) (hf : f_X2_orderToken p1 p2 sc_end = some (r, o_sc_end)) : CI l yX2_orderToken (Cond.code yX2_orderToken cX2_orderToken 3 (some .int)) { frames := 0, cells := 0, slots := 0, locals := 0 } E [.ref (a_sc 0), .int p1, .int p2] (w_sc_tp E a_sc a_tp sc_token sc_start sc_end sc_numberRead sc_escaped sc_bytesBehind tp_bytes tp_size) r (w_sc_tp E a_sc a_tp sc_token sc_start o_sc_end sc_numberRead sc_escaped sc_bytesBehind tp_bytes tp_size) := by
  intro sz
  refine met_start [(0, .ref (a_sc 0)), (1, .int p1), (2, .int p2)] (by decide) rfl rfl (Nat.le_of_ble_eq_true rfl) rfl ?_
  intro p e s m below meth c ls C hnm hmt hw hl
  have hx := C.1
  have hb := C.2.1
  generalize va_A (w_sc_tp E a_sc a_tp sc_token sc_start sc_end sc_numberRead sc_escaped sc_bytesBehind tp_bytes tp_size) sz = A at C hw ⊢
  unfold f_X2_orderToken at hf
  refine lv_iload_n hx hb dX2_orderToken_0 rfl (lv_at hl 2 rfl) ?_
  refine lv_bipush (v := 61) hx hb dX2_orderToken_1 (by decide) ?_
  refine lv_icmp_ne (tgt := 28) hx hb dX2_orderToken_3 (by decide) (fun c3 => ?_) (fun c3 => ?_)
  · replace hf := it_f c3 hf
    refine lv_iload_n hx hb dX2_orderToken_28 rfl (lv_at hl 1 rfl) ?_
    refine lv_if_eq (tgt := 51) hx hb dX2_orderToken_29 (by decide) (fun c29 => ?_) (fun c29 => ?_)
    · replace hf := it_t c29 hf
      refine lv_iload_n hx hb dX2_orderToken_51 rfl (lv_at hl 1 rfl) ?_
      refine lv_if_eq (tgt := 60) hx hb dX2_orderToken_52 (by decide) (fun c52 => ?_) (fun c52 => ?_)
      · replace hf := it_t c52 hf
        refine lv_bipush (v := 26) hx hb dX2_orderToken_60 (by decide) ?_
        cases hf
        exact rt_i C hw dX2_orderToken_62
      · replace hf := it_f c52 hf
        refine lv_bipush (v := 24) hx hb dX2_orderToken_55 (by decide) ?_
        refine lv_goto (tgt := 62) hx hb dX2_orderToken_57 (by decide) ?_
        cases hf
        exact rt_i C hw dX2_orderToken_62
    · replace hf := it_f c29 hf
      refine lv_iload_n hx hb dX2_orderToken_32 rfl (lv_at hl 2 rfl) ?_
      refine lv_bipush (v := 62) hx hb dX2_orderToken_33 (by decide) ?_
      refine lv_icmp_ne (tgt := 51) hx hb dX2_orderToken_35 (by decide) (fun c35 => ?_) (fun c35 => ?_)
      · replace hf := it_f c35 hf
        refine lv_iload_n hx hb dX2_orderToken_51 rfl (lv_at hl 1 rfl) ?_
        refine lv_if_eq (tgt := 60) hx hb dX2_orderToken_52 (by decide) (fun c52 => ?_) (fun c52 => ?_)
        · replace hf := it_t c52 hf
          refine lv_bipush (v := 26) hx hb dX2_orderToken_60 (by decide) ?_
          cases hf
          exact rt_i C hw dX2_orderToken_62
        · replace hf := it_f c52 hf
          refine lv_bipush (v := 24) hx hb dX2_orderToken_55 (by decide) ?_
          refine lv_goto (tgt := 62) hx hb dX2_orderToken_57 (by decide) ?_
          cases hf
          exact rt_i C hw dX2_orderToken_62
      · replace hf := it_t c35 hf
        refine lv_aload_n hx hb dX2_orderToken_38 rfl (lv_at hl 0 rfl) ?_
        refine lv_dup hx hb dX2_orderToken_39 rfl ?_
        refine fg_X2_15 C hw 0 rfl rfl dX2_orderToken_40 ?_
        refine lv_iconst (v := 1) hx hb dX2_orderToken_43 (by decide) ?_
        refine lv_iadd hx hb dX2_orderToken_44 ?_
        obtain ⟨x1, ex1, hf⟩ := on_el hf
        refine tp_i ex1 ?_
        refine fp_X2_15 C hw 0 rfl (Nat.le_of_ble_eq_true rfl) (ws' := w_sc_tp E a_sc a_tp sc_token sc_start x1 sc_numberRead sc_escaped sc_bytesBehind tp_bytes tp_size) rfl dX2_orderToken_45 (fun H locs hw => ?_)
        refine lv_bipush (v := 23) hx hb dX2_orderToken_48 (by decide) ?_
        cases hf
        exact rt_i C hw dX2_orderToken_50
  · replace hf := it_t c3 hf
    refine lv_aload_n hx hb dX2_orderToken_6 rfl (lv_at hl 0 rfl) ?_
    refine lv_dup hx hb dX2_orderToken_7 rfl ?_
    refine fg_X2_15 C hw 0 rfl rfl dX2_orderToken_8 ?_
    refine lv_iconst (v := 1) hx hb dX2_orderToken_11 (by decide) ?_
    refine lv_iadd hx hb dX2_orderToken_12 ?_
    obtain ⟨x2, ex2, hf⟩ := on_el hf
    refine tp_i ex2 ?_
    refine fp_X2_15 C hw 0 rfl (Nat.le_of_ble_eq_true rfl) (ws' := w_sc_tp E a_sc a_tp sc_token sc_start x2 sc_numberRead sc_escaped sc_bytesBehind tp_bytes tp_size) rfl dX2_orderToken_13 (fun H locs hw => ?_)
    refine lv_iload_n hx hb dX2_orderToken_16 rfl (lv_at hl 1 rfl) ?_
    refine lv_if_eq (tgt := 25) hx hb dX2_orderToken_17 (by decide) (fun c17 => ?_) (fun c17 => ?_)
    · replace hf := it_t c17 hf
      refine lv_bipush (v := 27) hx hb dX2_orderToken_25 (by decide) ?_
      cases hf
      exact rt_i C hw dX2_orderToken_27
    · replace hf := it_f c17 hf
      refine lv_bipush (v := 25) hx hb dX2_orderToken_20 (by decide) ?_
      refine lv_goto (tgt := 27) hx hb dX2_orderToken_22 (by decide) ?_
      cases hf
      exact rt_i C hw dX2_orderToken_27
def f_X2_signToken (p1 : Int32) (sc_end : Int32) (tp_bytes : Nat → Int32) (tp_size : Int32) : Option ((Int32) × (Int32)) :=
  if p1 = (39 : Int32) then (some ((18 : Int32), sc_end))
  else (if p1 = (40 : Int32) then (some ((20 : Int32), sc_end))
  else (if p1 = (41 : Int32) then (some ((21 : Int32), sc_end))
  else (if p1 = (44 : Int32) then (some ((19 : Int32), sc_end))
  else (if p1 = (45 : Int32) then (some ((17 : Int32), sc_end))
  else (if p1 = (60 : Int32) then (if p1 = (60 : Int32) then (ob1 (f_X4_at sc_end tp_bytes tp_size) (fun x4 =>
  ob2 (f_X2_orderToken (1 : Int32) x4 sc_end) (fun x5 x6 =>
  some (x5, x6))))
  else (ob1 (f_X4_at sc_end tp_bytes tp_size) (fun x1 =>
  ob2 (f_X2_orderToken (0 : Int32) x1 sc_end) (fun x2 x3 =>
  some (x2, x3)))))
  else (if p1 = (61 : Int32) then (some ((22 : Int32), sc_end))
  else (if p1 = (62 : Int32) then (if p1 = (60 : Int32) then (ob1 (f_X4_at sc_end tp_bytes tp_size) (fun x10 =>
  ob2 (f_X2_orderToken (1 : Int32) x10 sc_end) (fun x11 x12 =>
  some (x11, x12))))
  else (ob1 (f_X4_at sc_end tp_bytes tp_size) (fun x7 =>
  ob2 (f_X2_orderToken (0 : Int32) x7 sc_end) (fun x8 x9 =>
  some (x8, x9)))))
  else (if p1 < (48 : Int32) then (some ((28 : Int32), sc_end))
  else (if (57 : Int32) < p1 then (some ((28 : Int32), sc_end))
  else (some ((17 : Int32), sc_end)))))))))))
set_option maxHeartbeats 4000000 in
set_option maxRecDepth 100000 in
theorem c_X2_signToken (l : Launch) (E : EnvT) (a_sc : Nat → Nat) (a_tp : Nat → Nat) (sc_token : Int32) (sc_start : Int32) (sc_end : Int32) (sc_numberRead : Int64) (sc_escaped : Int32) (sc_bytesBehind : Int32) (tp_bytes : Nat → Int32) (tp_size : Int32) (p1 : Int32) (r : Int32) (o_sc_end : Int32) (hf : f_X2_signToken p1 sc_end tp_bytes tp_size = some (r, o_sc_end)) : CI l yX2_signToken (Cond.code yX2_signToken cX2_signToken 2 (some .int)) { frames := 1, cells := 0, slots := 0, locals := 22 } E [.ref (a_sc 0), .int p1] (w_sc_tp E a_sc a_tp sc_token sc_start sc_end sc_numberRead sc_escaped sc_bytesBehind tp_bytes tp_size) r (w_sc_tp E a_sc a_tp sc_token sc_start o_sc_end sc_numberRead sc_escaped sc_bytesBehind tp_bytes tp_size) := by
  intro sz
  refine met_start [(0, .ref (a_sc 0)), (1, .int p1)] (by decide) rfl rfl (Nat.le_of_ble_eq_true rfl) rfl ?_
  intro p e s m below meth c ls C hnm hmt hw hl
  have hx := C.1
  have hb := C.2.1
  generalize va_A (w_sc_tp E a_sc a_tp sc_token sc_start sc_end sc_numberRead sc_escaped sc_bytesBehind tp_bytes tp_size) sz = A at C hw ⊢
  unfold f_X2_signToken at hf
  refine lv_iload_n hx hb dX2_signToken_0 rfl (lv_at hl 1 rfl) ?_
  by_cases k1_39 : p1 = (39 : Int32)
  · replace hf := it_t k1_39 hf
    refine lv_tab (off := 120) (tgt := 121) hx hb dX2_signToken_1 (by rw [k1_39]; rfl) (by decide) ?_
    refine lv_bipush (v := 18) hx hb dX2_signToken_121 (by decide) ?_
    cases hf
    exact rt_i C hw dX2_signToken_123
  replace hf := it_f k1_39 hf
  by_cases k1_40 : p1 = (40 : Int32)
  · replace hf := it_t k1_40 hf
    refine lv_tab (off := 114) (tgt := 115) hx hb dX2_signToken_1 (by rw [k1_40]; rfl) (by decide) ?_
    refine lv_bipush (v := 20) hx hb dX2_signToken_115 (by decide) ?_
    cases hf
    exact rt_i C hw dX2_signToken_117
  replace hf := it_f k1_40 hf
  by_cases k1_41 : p1 = (41 : Int32)
  · replace hf := it_t k1_41 hf
    refine lv_tab (off := 117) (tgt := 118) hx hb dX2_signToken_1 (by rw [k1_41]; rfl) (by decide) ?_
    refine lv_bipush (v := 21) hx hb dX2_signToken_118 (by decide) ?_
    cases hf
    exact rt_i C hw dX2_signToken_120
  replace hf := it_f k1_41 hf
  by_cases k1_44 : p1 = (44 : Int32)
  · replace hf := it_t k1_44 hf
    refine lv_tab (off := 111) (tgt := 112) hx hb dX2_signToken_1 (by rw [k1_44]; rfl) (by decide) ?_
    refine lv_bipush (v := 19) hx hb dX2_signToken_112 (by decide) ?_
    cases hf
    exact rt_i C hw dX2_signToken_114
  replace hf := it_f k1_44 hf
  by_cases k1_45 : p1 = (45 : Int32)
  · replace hf := it_t k1_45 hf
    refine lv_tab (off := 123) (tgt := 124) hx hb dX2_signToken_1 (by rw [k1_45]; rfl) (by decide) ?_
    refine lv_bipush (v := 17) hx hb dX2_signToken_124 (by decide) ?_
    cases hf
    exact rt_i C hw dX2_signToken_126
  replace hf := it_f k1_45 hf
  by_cases k1_60 : p1 = (60 : Int32)
  · replace hf := it_t k1_60 hf
    refine lv_tab (off := 129) (tgt := 130) hx hb dX2_signToken_1 (by rw [k1_60]; rfl) (by decide) ?_
    refine lv_aload_n hx hb dX2_signToken_130 rfl (lv_at hl 0 rfl) ?_
    refine lv_iload_n hx hb dX2_signToken_131 rfl (lv_at hl 1 rfl) ?_
    refine lv_bipush (v := 60) hx hb dX2_signToken_132 (by decide) ?_
    refine lv_icmp_ne (tgt := 141) hx hb dX2_signToken_134 (by decide) (fun c134 => ?_) (fun c134 => ?_)
    · replace hf := it_f c134 hf
      refine lv_iconst (v := 0) hx hb dX2_signToken_141 (by decide) ?_
      refine lv_aload_n hx hb dX2_signToken_142 rfl (lv_at hl 0 rfl) ?_
      refine fg_X2_9 C hw 0 rfl rfl dX2_signToken_143 ?_
      refine lv_aload_n hx hb dX2_signToken_146 rfl (lv_at hl 0 rfl) ?_
      refine fg_X2_15 C hw 0 rfl rfl dX2_signToken_147 ?_
      obtain ⟨x1, z1, hf⟩ := ob1_el hf
      refine cI_V C hw (c_X4_at l E a_tp tp_bytes tp_size sc_end x1 z1) cs_X2_30 ⟨Nat.le_of_ble_eq_true rfl, Nat.le_of_ble_eq_true rfl⟩ ⟨rfl, rfl⟩ (ci := 4) (cn := (RX4, TX4, 2)) rfl (q0 := 1) rfl (wn := w_sc_tp E a_sc a_tp sc_token sc_start sc_end sc_numberRead sc_escaped sc_bytesBehind tp_bytes tp_size) ⟨[1, 2], [0], [0, 1, 2], rfl, rfl, rfl, rfl, by decide, rfl, rfl⟩ rfl hl.1 rfl (Nat.le_of_ble_eq_true rfl) dX2_signToken_150 ⟨Nat.zero_le _, Nat.zero_le _⟩ (fun H locs hw => ?_)
      obtain ⟨x2, x3, z3, hf⟩ := ob2_el hf
      refine cI_V C hw (c_X2_orderToken l E a_sc a_tp sc_token sc_start sc_end sc_numberRead sc_escaped sc_bytesBehind tp_bytes tp_size (0 : Int32) x1 x2 x3 z3) cs_X2_65 ⟨Nat.le_of_ble_eq_true rfl, Nat.le_of_ble_eq_true rfl⟩ ⟨rfl, rfl⟩ (ci := 2) (cn := (RX2, TX2, 7)) rfl (q0 := 0) rfl (wn := w_sc_tp E a_sc a_tp sc_token sc_start x3 sc_numberRead sc_escaped sc_bytesBehind tp_bytes tp_size) (Jn.all _ _) rfl hl.1 rfl (Nat.le_of_ble_eq_true rfl) dX2_signToken_153 ⟨Nat.zero_le _, Nat.zero_le _⟩ (fun H locs hw => ?_)
      cases hf
      exact rt_i C hw dX2_signToken_156
    · replace hf := it_t c134 hf
      refine lv_iconst (v := 1) hx hb dX2_signToken_137 (by decide) ?_
      refine lv_goto (tgt := 142) hx hb dX2_signToken_138 (by decide) ?_
      refine lv_aload_n hx hb dX2_signToken_142 rfl (lv_at hl 0 rfl) ?_
      refine fg_X2_9 C hw 0 rfl rfl dX2_signToken_143 ?_
      refine lv_aload_n hx hb dX2_signToken_146 rfl (lv_at hl 0 rfl) ?_
      refine fg_X2_15 C hw 0 rfl rfl dX2_signToken_147 ?_
      obtain ⟨x4, z4, hf⟩ := ob1_el hf
      refine cI_V C hw (c_X4_at l E a_tp tp_bytes tp_size sc_end x4 z4) cs_X2_30 ⟨Nat.le_of_ble_eq_true rfl, Nat.le_of_ble_eq_true rfl⟩ ⟨rfl, rfl⟩ (ci := 4) (cn := (RX4, TX4, 2)) rfl (q0 := 1) rfl (wn := w_sc_tp E a_sc a_tp sc_token sc_start sc_end sc_numberRead sc_escaped sc_bytesBehind tp_bytes tp_size) ⟨[1, 2], [0], [0, 1, 2], rfl, rfl, rfl, rfl, by decide, rfl, rfl⟩ rfl hl.1 rfl (Nat.le_of_ble_eq_true rfl) dX2_signToken_150 ⟨Nat.zero_le _, Nat.zero_le _⟩ (fun H locs hw => ?_)
      obtain ⟨x5, x6, z6, hf⟩ := ob2_el hf
      refine cI_V C hw (c_X2_orderToken l E a_sc a_tp sc_token sc_start sc_end sc_numberRead sc_escaped sc_bytesBehind tp_bytes tp_size (1 : Int32) x4 x5 x6 z6) cs_X2_65 ⟨Nat.le_of_ble_eq_true rfl, Nat.le_of_ble_eq_true rfl⟩ ⟨rfl, rfl⟩ (ci := 2) (cn := (RX2, TX2, 7)) rfl (q0 := 0) rfl (wn := w_sc_tp E a_sc a_tp sc_token sc_start x6 sc_numberRead sc_escaped sc_bytesBehind tp_bytes tp_size) (Jn.all _ _) rfl hl.1 rfl (Nat.le_of_ble_eq_true rfl) dX2_signToken_153 ⟨Nat.zero_le _, Nat.zero_le _⟩ (fun H locs hw => ?_)
      cases hf
      exact rt_i C hw dX2_signToken_156
  replace hf := it_f k1_60 hf
  by_cases k1_61 : p1 = (61 : Int32)
  · replace hf := it_t k1_61 hf
    refine lv_tab (off := 126) (tgt := 127) hx hb dX2_signToken_1 (by rw [k1_61]; rfl) (by decide) ?_
    refine lv_bipush (v := 22) hx hb dX2_signToken_127 (by decide) ?_
    cases hf
    exact rt_i C hw dX2_signToken_129
  replace hf := it_f k1_61 hf
  by_cases k1_62 : p1 = (62 : Int32)
  · replace hf := it_t k1_62 hf
    refine lv_tab (off := 129) (tgt := 130) hx hb dX2_signToken_1 (by rw [k1_62]; rfl) (by decide) ?_
    refine lv_aload_n hx hb dX2_signToken_130 rfl (lv_at hl 0 rfl) ?_
    refine lv_iload_n hx hb dX2_signToken_131 rfl (lv_at hl 1 rfl) ?_
    refine lv_bipush (v := 60) hx hb dX2_signToken_132 (by decide) ?_
    refine lv_icmp_ne (tgt := 141) hx hb dX2_signToken_134 (by decide) (fun c134 => ?_) (fun c134 => ?_)
    · replace hf := it_f c134 hf
      refine lv_iconst (v := 0) hx hb dX2_signToken_141 (by decide) ?_
      refine lv_aload_n hx hb dX2_signToken_142 rfl (lv_at hl 0 rfl) ?_
      refine fg_X2_9 C hw 0 rfl rfl dX2_signToken_143 ?_
      refine lv_aload_n hx hb dX2_signToken_146 rfl (lv_at hl 0 rfl) ?_
      refine fg_X2_15 C hw 0 rfl rfl dX2_signToken_147 ?_
      obtain ⟨x7, z7, hf⟩ := ob1_el hf
      refine cI_V C hw (c_X4_at l E a_tp tp_bytes tp_size sc_end x7 z7) cs_X2_30 ⟨Nat.le_of_ble_eq_true rfl, Nat.le_of_ble_eq_true rfl⟩ ⟨rfl, rfl⟩ (ci := 4) (cn := (RX4, TX4, 2)) rfl (q0 := 1) rfl (wn := w_sc_tp E a_sc a_tp sc_token sc_start sc_end sc_numberRead sc_escaped sc_bytesBehind tp_bytes tp_size) ⟨[1, 2], [0], [0, 1, 2], rfl, rfl, rfl, rfl, by decide, rfl, rfl⟩ rfl hl.1 rfl (Nat.le_of_ble_eq_true rfl) dX2_signToken_150 ⟨Nat.zero_le _, Nat.zero_le _⟩ (fun H locs hw => ?_)
      obtain ⟨x8, x9, z9, hf⟩ := ob2_el hf
      refine cI_V C hw (c_X2_orderToken l E a_sc a_tp sc_token sc_start sc_end sc_numberRead sc_escaped sc_bytesBehind tp_bytes tp_size (0 : Int32) x7 x8 x9 z9) cs_X2_65 ⟨Nat.le_of_ble_eq_true rfl, Nat.le_of_ble_eq_true rfl⟩ ⟨rfl, rfl⟩ (ci := 2) (cn := (RX2, TX2, 7)) rfl (q0 := 0) rfl (wn := w_sc_tp E a_sc a_tp sc_token sc_start x9 sc_numberRead sc_escaped sc_bytesBehind tp_bytes tp_size) (Jn.all _ _) rfl hl.1 rfl (Nat.le_of_ble_eq_true rfl) dX2_signToken_153 ⟨Nat.zero_le _, Nat.zero_le _⟩ (fun H locs hw => ?_)
      cases hf
      exact rt_i C hw dX2_signToken_156
    · replace hf := it_t c134 hf
      refine lv_iconst (v := 1) hx hb dX2_signToken_137 (by decide) ?_
      refine lv_goto (tgt := 142) hx hb dX2_signToken_138 (by decide) ?_
      refine lv_aload_n hx hb dX2_signToken_142 rfl (lv_at hl 0 rfl) ?_
      refine fg_X2_9 C hw 0 rfl rfl dX2_signToken_143 ?_
      refine lv_aload_n hx hb dX2_signToken_146 rfl (lv_at hl 0 rfl) ?_
      refine fg_X2_15 C hw 0 rfl rfl dX2_signToken_147 ?_
      obtain ⟨x10, z10, hf⟩ := ob1_el hf
      refine cI_V C hw (c_X4_at l E a_tp tp_bytes tp_size sc_end x10 z10) cs_X2_30 ⟨Nat.le_of_ble_eq_true rfl, Nat.le_of_ble_eq_true rfl⟩ ⟨rfl, rfl⟩ (ci := 4) (cn := (RX4, TX4, 2)) rfl (q0 := 1) rfl (wn := w_sc_tp E a_sc a_tp sc_token sc_start sc_end sc_numberRead sc_escaped sc_bytesBehind tp_bytes tp_size) ⟨[1, 2], [0], [0, 1, 2], rfl, rfl, rfl, rfl, by decide, rfl, rfl⟩ rfl hl.1 rfl (Nat.le_of_ble_eq_true rfl) dX2_signToken_150 ⟨Nat.zero_le _, Nat.zero_le _⟩ (fun H locs hw => ?_)
      obtain ⟨x11, x12, z12, hf⟩ := ob2_el hf
      refine cI_V C hw (c_X2_orderToken l E a_sc a_tp sc_token sc_start sc_end sc_numberRead sc_escaped sc_bytesBehind tp_bytes tp_size (1 : Int32) x10 x11 x12 z12) cs_X2_65 ⟨Nat.le_of_ble_eq_true rfl, Nat.le_of_ble_eq_true rfl⟩ ⟨rfl, rfl⟩ (ci := 2) (cn := (RX2, TX2, 7)) rfl (q0 := 0) rfl (wn := w_sc_tp E a_sc a_tp sc_token sc_start x12 sc_numberRead sc_escaped sc_bytesBehind tp_bytes tp_size) (Jn.all _ _) rfl hl.1 rfl (Nat.le_of_ble_eq_true rfl) dX2_signToken_153 ⟨Nat.zero_le _, Nat.zero_le _⟩ (fun H locs hw => ?_)
      cases hf
      exact rt_i C hw dX2_signToken_156
  replace hf := it_f k1_62 hf
  have n39 := lv_neT k1_39 (a := 39) rfl
  have n40 := lv_neT k1_40 (a := 40) rfl
  have n41 := lv_neT k1_41 (a := 41) rfl
  have n44 := lv_neT k1_44 (a := 44) rfl
  have n45 := lv_neT k1_45 (a := 45) rfl
  have n60 := lv_neT k1_60 (a := 60) rfl
  have n61 := lv_neT k1_61 (a := 61) rfl
  have n62 := lv_neT k1_62 (a := 62) rfl
  have hq : (if p1.toInt < 39 ∨ 62 < p1.toInt then some (156 : Int) else (#[120, 114, 117, 156, 156, 111, 123, 156, 156, 156, 156, 156, 156, 156, 156, 156, 156, 156, 156, 156, 156, 129, 126, 129] : Array Int)[(p1.toInt - 39).toNat]?) = some (156) := by
    by_cases hq : p1.toInt < 39 ∨ 62 < p1.toInt
    · rw [if_pos hq]
    · rw [if_neg hq]
      rcases (show p1.toInt = 39 ∨ p1.toInt = 40 ∨ p1.toInt = 41 ∨ p1.toInt = 42 ∨ p1.toInt = 43 ∨ p1.toInt = 44 ∨ p1.toInt = 45 ∨ p1.toInt = 46 ∨ p1.toInt = 47 ∨ p1.toInt = 48 ∨ p1.toInt = 49 ∨ p1.toInt = 50 ∨ p1.toInt = 51 ∨ p1.toInt = 52 ∨ p1.toInt = 53 ∨ p1.toInt = 54 ∨ p1.toInt = 55 ∨ p1.toInt = 56 ∨ p1.toInt = 57 ∨ p1.toInt = 58 ∨ p1.toInt = 59 ∨ p1.toInt = 60 ∨ p1.toInt = 61 ∨ p1.toInt = 62 by omega) with q | q | q | q | q | q | q | q | q | q | q | q | q | q | q | q | q | q | q | q | q | q | q | q
      · exact absurd q n39
      · exact absurd q n40
      · exact absurd q n41
      · rw [q]; rfl
      · rw [q]; rfl
      · exact absurd q n44
      · exact absurd q n45
      · rw [q]; rfl
      · rw [q]; rfl
      · rw [q]; rfl
      · rw [q]; rfl
      · rw [q]; rfl
      · rw [q]; rfl
      · rw [q]; rfl
      · rw [q]; rfl
      · rw [q]; rfl
      · rw [q]; rfl
      · rw [q]; rfl
      · rw [q]; rfl
      · rw [q]; rfl
      · rw [q]; rfl
      · exact absurd q n60
      · exact absurd q n61
      · exact absurd q n62
  refine lv_tab (off := 156) (tgt := 157) hx hb dX2_signToken_1 hq (by decide) ?_
  refine lv_iload_n hx hb dX2_signToken_157 rfl (lv_at hl 1 rfl) ?_
  refine lv_bipush (v := 48) hx hb dX2_signToken_158 (by decide) ?_
  refine lv_icmp_lt (tgt := 174) hx hb dX2_signToken_160 (by decide) (fun c160 => ?_) (fun c160 => ?_)
  · replace hf := it_t c160 hf
    refine lv_bipush (v := 28) hx hb dX2_signToken_174 (by decide) ?_
    cases hf
    exact rt_i C hw dX2_signToken_176
  · replace hf := it_f c160 hf
    refine lv_iload_n hx hb dX2_signToken_163 rfl (lv_at hl 1 rfl) ?_
    refine lv_bipush (v := 57) hx hb dX2_signToken_164 (by decide) ?_
    refine lv_icmp_gt (tgt := 174) hx hb dX2_signToken_166 (by decide) (fun c166 => ?_) (fun c166 => ?_)
    · replace hf := it_t c166 hf
      refine lv_bipush (v := 28) hx hb dX2_signToken_174 (by decide) ?_
      cases hf
      exact rt_i C hw dX2_signToken_176
    · replace hf := it_f c166 hf
      refine lv_bipush (v := 17) hx hb dX2_signToken_169 (by decide) ?_
      refine lv_goto (tgt := 176) hx hb dX2_signToken_171 (by decide) ?_
      cases hf
      exact rt_i C hw dX2_signToken_176
def f_X2_wordToken_6 : Nat → (Int32) → (Int32) → (Int32) → (Int32) → (Int32) → (Nat → Int32) → (Int32) → Option ((Int32))
  | 0, _, _, _, _, _, _, _ => none
  | n + 1, l1, l2, l3, sc_start, sc_end, tp_bytes, tp_size =>
  if (73 : Int32) ≤ l3 then (some (16 : Int32))
  else (rd sF 73 l3 (fun x1 =>
  if x1 = (32 : Int32) then (if l2 = (sc_end - sc_start) then (some l1)
  else (on (l1 + (1 : Int32)) (fun x2 =>
  on (l3 + (1 : Int32)) (fun x3 =>
  f_X2_wordToken_6 n x2 (0 : Int32) x3 sc_start sc_end tp_bytes tp_size))))
  else (if l2 = (-1 : Int32) then (on (l3 + (1 : Int32)) (fun x4 =>
  f_X2_wordToken_6 n l1 (-1 : Int32) x4 sc_start sc_end tp_bytes tp_size))
  else (if sc_end ≤ (sc_start + l2) then (on (l3 + (1 : Int32)) (fun x5 =>
  f_X2_wordToken_6 n l1 (-1 : Int32) x5 sc_start sc_end tp_bytes tp_size))
  else (ob1 (f_X4_at (sc_start + l2) tp_bytes tp_size) (fun x6 =>
  if x6 = x1 then (on (l2 + (1 : Int32)) (fun x8 =>
  on (l3 + (1 : Int32)) (fun x9 =>
  f_X2_wordToken_6 n l1 x8 x9 sc_start sc_end tp_bytes tp_size)))
  else (on (l3 + (1 : Int32)) (fun x7 =>
  f_X2_wordToken_6 n l1 (-1 : Int32) x7 sc_start sc_end tp_bytes tp_size))))))))
set_option maxHeartbeats 4000000 in
set_option maxRecDepth 100000 in
theorem w_X2_wordToken_6 {p : Program} {l : Launch} {e : Env} {s : State} {m : MethodId} {args : Array Value} {below : List Frame} {meth : Method} {c : Code} {E : EnvT} {A : Nat → Prop} {a_sc : Nat → Nat} {a_tp : Nat → Nat} {sc_token : Int32} {sc_numberRead : Int64} {sc_escaped : Int32} {sc_bytesBehind : Int32} {r : Int32} (C : MC p s m args meth c E A cX2_wordToken 5 RX2 (some .int)) : ∀ (n : Nat) {l1 : Int32} {l2 : Int32} {l3 : Int32} {sc_start : Int32} {sc_end : Int32} {tp_bytes : Nat → Int32} {tp_size : Int32} {H : Heap} {locs : List Loc} {ls : Array Slot}, WS E A s (w_sc_tp E a_sc a_tp sc_token sc_start sc_end sc_numberRead sc_escaped sc_bytesBehind tp_bytes tp_size) H locs → lv_has ls 5 [(0, .ref (a_sc 0)), (1, .int l1), (2, .int l2), (3, .int l3)] → f_X2_wordToken_6 n l1 l2 l3 sc_start sc_end tp_bytes tp_size = some r → W p l e { frames := 4, cells := 0, slots := 0, locals := 85 } s m args below meth c H locs 0 0 (MQ below (QcI E A (w_sc_tp E a_sc a_tp sc_token sc_start sc_end sc_numberRead sc_escaped sc_bytesBehind tp_bytes tp_size) r) args s 0 0 A) (F0 m 6 ls []) := by
  have hx := C.1
  have hb := C.2.1
  intro n
  induction n with
  | zero =>
    intro l1 l2 l3 sc_start sc_end tp_bytes tp_size H locs ls hw hl hf
    unfold f_X2_wordToken_6 at hf
    cases hf
  | succ n ih =>
    intro l1 l2 l3 sc_start sc_end tp_bytes tp_size H locs ls hw hl hf
    unfold f_X2_wordToken_6 at hf
    refine lv_iload_n hx hb dX2_wordToken_6 rfl (lv_at hl 3 rfl) ?_
    refine rstr C dX2_wordToken_7 ?_
    refine cI_J C hw (c_J0_length l E) cs_X2_56 ⟨Nat.le_of_ble_eq_true rfl, Nat.le_of_ble_eq_true rfl⟩ ⟨rfl, rfl⟩ rfl hl.1 rfl (Nat.le_of_ble_eq_true rfl) dX2_wordToken_9 ⟨Nat.zero_le _, Nat.zero_le _⟩ (fun H locs hw => ?_)
    refine lv_icmp_ge (tgt := 103) hx hb dX2_wordToken_12 (by decide) (fun c12 => ?_) (fun c12 => ?_)
    · replace hf := it_t c12 hf
      refine lv_bipush (v := 16) hx hb dX2_wordToken_103 (by decide) ?_
      cases hf
      exact rt_i C hw dX2_wordToken_105
    · replace hf := it_f c12 hf
      refine rstr C dX2_wordToken_15 ?_
      refine lv_iload_n hx hb dX2_wordToken_17 rfl (lv_at hl 3 rfl) ?_
      obtain ⟨x1, ex1, gx1, hf⟩ := rd_el hf
      refine cI_J C hw (c_J0_charAt l E l3 gx1) cs_X2_61 ⟨Nat.le_of_ble_eq_true rfl, Nat.le_of_ble_eq_true rfl⟩ ⟨rfl, rfl⟩ rfl hl.1 rfl (Nat.le_of_ble_eq_true rfl) dX2_wordToken_18 ⟨Nat.zero_le _, Nat.zero_le _⟩ (fun H locs hw => ?_)
      refine tp_i ex1 ?_
      refine lv_istore (lv' := [(4, .int x1), (0, .ref (a_sc 0)), (1, .int l1), (2, .int l2), (3, .int l3)]) hx hb dX2_wordToken_21 hl (by decide) rfl (fun ls hl => ?_)
      refine lv_iload hx hb dX2_wordToken_23 (lv_at hl 0 rfl) ?_
      refine lv_bipush (v := 32) hx hb dX2_wordToken_25 (by decide) ?_
      refine lv_icmp_eq (tgt := 77) hx hb dX2_wordToken_27 (by decide) (fun c27 => ?_) (fun c27 => ?_)
      · replace hf := it_t c27 hf
        refine lv_iload_n hx hb dX2_wordToken_77 rfl (lv_at hl 3 rfl) ?_
        refine lv_aload_n hx hb dX2_wordToken_78 rfl (lv_at hl 1 rfl) ?_
        refine fg_X2_15 C hw 0 rfl rfl dX2_wordToken_79 ?_
        refine lv_aload_n hx hb dX2_wordToken_82 rfl (lv_at hl 1 rfl) ?_
        refine fg_X2_22 C hw 0 rfl rfl dX2_wordToken_83 ?_
        refine lv_isub hx hb dX2_wordToken_86 ?_
        refine lv_icmp_ne (tgt := 92) hx hb dX2_wordToken_87 (by decide) (fun c87 => ?_) (fun c87 => ?_)
        · replace hf := it_f c87 hf
          obtain ⟨x2, ex2, hf⟩ := on_el hf
          refine lv_iinc (v := x2) (lv' := [(1, .int x2), (4, .int x1), (0, .ref (a_sc 0)), (2, .int l2), (3, .int l3)]) hx hb dX2_wordToken_92 hl (k := 2) rfl (by rw [← ex2]; rfl) (by decide) rfl (fun ls hl => ?_)
          refine lv_iconst (v := 0) hx hb dX2_wordToken_95 (by decide) ?_
          refine lv_istore_n (lv' := [(2, .int (0 : Int32)), (1, .int x2), (4, .int x1), (0, .ref (a_sc 0)), (3, .int l3)]) hx hb dX2_wordToken_96 rfl hl (by decide) rfl (fun ls hl => ?_)
          obtain ⟨x3, ex3, hf⟩ := on_el hf
          refine lv_iinc (v := x3) (lv' := [(3, .int x3), (2, .int (0 : Int32)), (1, .int x2), (4, .int x1), (0, .ref (a_sc 0))]) hx hb dX2_wordToken_97 hl (k := 4) rfl (by rw [← ex3]; rfl) (by decide) rfl (fun ls hl => ?_)
          refine lv_goto (tgt := 6) hx hb dX2_wordToken_100 (by decide) ?_
          exact ih hw (lv_sub hl [4, 2, 1, 0] rfl) hf
        · replace hf := it_t c87 hf
          refine lv_iload_n hx hb dX2_wordToken_90 rfl (lv_at hl 2 rfl) ?_
          cases hf
          exact rt_i C hw dX2_wordToken_91
      · replace hf := it_f c27 hf
        refine lv_iload_n hx hb dX2_wordToken_30 rfl (lv_at hl 3 rfl) ?_
        refine lv_iconst (v := -1) hx hb dX2_wordToken_31 (by decide) ?_
        refine lv_icmp_eq (tgt := 72) hx hb dX2_wordToken_32 (by decide) (fun c32 => ?_) (fun c32 => ?_)
        · replace hf := it_t c32 hf
          refine lv_iconst (v := -1) hx hb dX2_wordToken_72 (by decide) ?_
          refine lv_istore_n (lv' := [(2, .int (-1 : Int32)), (4, .int x1), (0, .ref (a_sc 0)), (1, .int l1), (3, .int l3)]) hx hb dX2_wordToken_73 rfl hl (by decide) rfl (fun ls hl => ?_)
          refine lv_goto (tgt := 97) hx hb dX2_wordToken_74 (by decide) ?_
          obtain ⟨x4, ex4, hf⟩ := on_el hf
          refine lv_iinc (v := x4) (lv' := [(3, .int x4), (2, .int (-1 : Int32)), (4, .int x1), (0, .ref (a_sc 0)), (1, .int l1)]) hx hb dX2_wordToken_97 hl (k := 4) rfl (by rw [← ex4]; rfl) (by decide) rfl (fun ls hl => ?_)
          refine lv_goto (tgt := 6) hx hb dX2_wordToken_100 (by decide) ?_
          exact ih hw (lv_sub hl [3, 4, 1, 0] rfl) hf
        · replace hf := it_f c32 hf
          refine lv_aload_n hx hb dX2_wordToken_35 rfl (lv_at hl 1 rfl) ?_
          refine fg_X2_22 C hw 0 rfl rfl dX2_wordToken_36 ?_
          refine lv_iload_n hx hb dX2_wordToken_39 rfl (lv_at hl 3 rfl) ?_
          refine lv_iadd hx hb dX2_wordToken_40 ?_
          refine lv_aload_n hx hb dX2_wordToken_41 rfl (lv_at hl 1 rfl) ?_
          refine fg_X2_15 C hw 0 rfl rfl dX2_wordToken_42 ?_
          refine lv_icmp_ge (tgt := 72) hx hb dX2_wordToken_45 (by decide) (fun c45 => ?_) (fun c45 => ?_)
          · replace hf := it_t c45 hf
            refine lv_iconst (v := -1) hx hb dX2_wordToken_72 (by decide) ?_
            refine lv_istore_n (lv' := [(2, .int (-1 : Int32)), (4, .int x1), (0, .ref (a_sc 0)), (1, .int l1), (3, .int l3)]) hx hb dX2_wordToken_73 rfl hl (by decide) rfl (fun ls hl => ?_)
            refine lv_goto (tgt := 97) hx hb dX2_wordToken_74 (by decide) ?_
            obtain ⟨x5, ex5, hf⟩ := on_el hf
            refine lv_iinc (v := x5) (lv' := [(3, .int x5), (2, .int (-1 : Int32)), (4, .int x1), (0, .ref (a_sc 0)), (1, .int l1)]) hx hb dX2_wordToken_97 hl (k := 4) rfl (by rw [← ex5]; rfl) (by decide) rfl (fun ls hl => ?_)
            refine lv_goto (tgt := 6) hx hb dX2_wordToken_100 (by decide) ?_
            exact ih hw (lv_sub hl [3, 4, 1, 0] rfl) hf
          · replace hf := it_f c45 hf
            refine lv_aload_n hx hb dX2_wordToken_48 rfl (lv_at hl 1 rfl) ?_
            refine fg_X2_9 C hw 0 rfl rfl dX2_wordToken_49 ?_
            refine lv_aload_n hx hb dX2_wordToken_52 rfl (lv_at hl 1 rfl) ?_
            refine fg_X2_22 C hw 0 rfl rfl dX2_wordToken_53 ?_
            refine lv_iload_n hx hb dX2_wordToken_56 rfl (lv_at hl 3 rfl) ?_
            refine lv_iadd hx hb dX2_wordToken_57 ?_
            obtain ⟨x6, z6, hf⟩ := ob1_el hf
            refine cI_V C hw (c_X4_at l E a_tp tp_bytes tp_size (sc_start + l2) x6 z6) cs_X2_30 ⟨Nat.le_of_ble_eq_true rfl, Nat.le_of_ble_eq_true rfl⟩ ⟨rfl, rfl⟩ (ci := 4) (cn := (RX4, TX4, 2)) rfl (q0 := 1) rfl (wn := w_sc_tp E a_sc a_tp sc_token sc_start sc_end sc_numberRead sc_escaped sc_bytesBehind tp_bytes tp_size) ⟨[1, 2], [0], [0, 1, 2], rfl, rfl, rfl, rfl, by decide, rfl, rfl⟩ rfl hl.1 rfl (Nat.le_of_ble_eq_true rfl) dX2_wordToken_58 ⟨Nat.zero_le _, Nat.zero_le _⟩ (fun H locs hw => ?_)
            refine lv_iload hx hb dX2_wordToken_61 (lv_at hl 0 rfl) ?_
            refine lv_icmp_ne (tgt := 72) hx hb dX2_wordToken_63 (by decide) (fun c63 => ?_) (fun c63 => ?_)
            · replace hf := it_f c63 hf
              refine lv_iconst (v := -1) hx hb dX2_wordToken_72 (by decide) ?_
              refine lv_istore_n (lv' := [(2, .int (-1 : Int32)), (4, .int x1), (0, .ref (a_sc 0)), (1, .int l1), (3, .int l3)]) hx hb dX2_wordToken_73 rfl hl (by decide) rfl (fun ls hl => ?_)
              refine lv_goto (tgt := 97) hx hb dX2_wordToken_74 (by decide) ?_
              obtain ⟨x7, ex7, hf⟩ := on_el hf
              refine lv_iinc (v := x7) (lv' := [(3, .int x7), (2, .int (-1 : Int32)), (4, .int x1), (0, .ref (a_sc 0)), (1, .int l1)]) hx hb dX2_wordToken_97 hl (k := 4) rfl (by rw [← ex7]; rfl) (by decide) rfl (fun ls hl => ?_)
              refine lv_goto (tgt := 6) hx hb dX2_wordToken_100 (by decide) ?_
              exact ih hw (lv_sub hl [3, 4, 1, 0] rfl) hf
            · replace hf := it_t c63 hf
              refine lv_iload_n hx hb dX2_wordToken_66 rfl (lv_at hl 3 rfl) ?_
              refine lv_iconst (v := 1) hx hb dX2_wordToken_67 (by decide) ?_
              refine lv_iadd hx hb dX2_wordToken_68 ?_
              refine lv_goto (tgt := 73) hx hb dX2_wordToken_69 (by decide) ?_
              obtain ⟨x8, ex8, hf⟩ := on_el hf
              refine tp_i ex8 ?_
              refine lv_istore_n (lv' := [(2, .int x8), (4, .int x1), (0, .ref (a_sc 0)), (1, .int l1), (3, .int l3)]) hx hb dX2_wordToken_73 rfl hl (by decide) rfl (fun ls hl => ?_)
              refine lv_goto (tgt := 97) hx hb dX2_wordToken_74 (by decide) ?_
              obtain ⟨x9, ex9, hf⟩ := on_el hf
              refine lv_iinc (v := x9) (lv' := [(3, .int x9), (2, .int x8), (4, .int x1), (0, .ref (a_sc 0)), (1, .int l1)]) hx hb dX2_wordToken_97 hl (k := 4) rfl (by rw [← ex9]; rfl) (by decide) rfl (fun ls hl => ?_)
              refine lv_goto (tgt := 6) hx hb dX2_wordToken_100 (by decide) ?_
              exact ih hw (lv_sub hl [3, 4, 1, 0] rfl) hf
def f_X2_wordToken (sc_start : Int32) (sc_end : Int32) (tp_bytes : Nat → Int32) (tp_size : Int32) : Option ((Int32)) :=
  f_X2_wordToken_6 FU (0 : Int32) (0 : Int32) (0 : Int32) sc_start sc_end tp_bytes tp_size
set_option maxHeartbeats 4000000 in
set_option maxRecDepth 100000 in
theorem c_X2_wordToken (l : Launch) (E : EnvT) (a_sc : Nat → Nat) (a_tp : Nat → Nat) (sc_token : Int32) (sc_start : Int32) (sc_end : Int32) (sc_numberRead : Int64) (sc_escaped : Int32) (sc_bytesBehind : Int32) (tp_bytes : Nat → Int32) (tp_size : Int32) (r : Int32) (hf : f_X2_wordToken sc_start sc_end tp_bytes tp_size = some r) : CI l yX2_wordToken (Cond.code yX2_wordToken cX2_wordToken 5 (some .int)) { frames := 4, cells := 0, slots := 0, locals := 85 } E [.ref (a_sc 0)] (w_sc_tp E a_sc a_tp sc_token sc_start sc_end sc_numberRead sc_escaped sc_bytesBehind tp_bytes tp_size) r (w_sc_tp E a_sc a_tp sc_token sc_start sc_end sc_numberRead sc_escaped sc_bytesBehind tp_bytes tp_size) := by
  intro sz
  refine met_start [(0, .ref (a_sc 0))] (by decide) rfl rfl (Nat.le_of_ble_eq_true rfl) rfl ?_
  intro p e s m below meth c ls C hnm hmt hw hl
  have hx := C.1
  have hb := C.2.1
  generalize va_A (w_sc_tp E a_sc a_tp sc_token sc_start sc_end sc_numberRead sc_escaped sc_bytesBehind tp_bytes tp_size) sz = A at C hw ⊢
  unfold f_X2_wordToken at hf
  refine lv_iconst (v := 0) hx hb dX2_wordToken_0 (by decide) ?_
  refine lv_istore_n (lv' := [(1, .int (0 : Int32)), (0, .ref (a_sc 0))]) hx hb dX2_wordToken_1 rfl hl (by decide) rfl (fun ls hl => ?_)
  refine lv_iconst (v := 0) hx hb dX2_wordToken_2 (by decide) ?_
  refine lv_istore_n (lv' := [(2, .int (0 : Int32)), (1, .int (0 : Int32)), (0, .ref (a_sc 0))]) hx hb dX2_wordToken_3 rfl hl (by decide) rfl (fun ls hl => ?_)
  refine lv_iconst (v := 0) hx hb dX2_wordToken_4 (by decide) ?_
  refine lv_istore_n (lv' := [(3, .int (0 : Int32)), (2, .int (0 : Int32)), (1, .int (0 : Int32)), (0, .ref (a_sc 0))]) hx hb dX2_wordToken_5 rfl hl (by decide) rfl (fun ls hl => ?_)
  exact w_X2_wordToken_6 C FU hw (lv_sub hl [3, 2, 1, 0] rfl) hf
def f_X2_advance_8 : Nat → (Int32) → (Nat → Int32) → (Int32) → Option ((Int32))
  | 0, _, _, _ => none
  | n + 1, sc_start, tp_bytes, tp_size =>
  if tp_size ≤ sc_start then (some sc_start)
  else (ob1 (f_X4_at sc_start tp_bytes tp_size) (fun x1 =>
  ob1 (f_X5_isBlank x1) (fun x2 =>
  if x2 = (0 : Int32) then (some sc_start)
  else (on (sc_start + (1 : Int32)) (fun x3 =>
  f_X2_advance_8 n x3 tp_bytes tp_size)))))
set_option maxHeartbeats 4000000 in
set_option maxRecDepth 100000 in
theorem w_X2_advance_8 {p : Program} {l : Launch} {e : Env} {s : State} {m : MethodId} {args : Array Value} {below : List Frame} {meth : Method} {c : Code} {E : EnvT} {A : Nat → Prop} {a_sc : Nat → Nat} {a_tp : Nat → Nat} {Q : State → Prop} {sc_token : Int32} {sc_end : Int32} {sc_numberRead : Int64} {sc_escaped : Int32} {sc_bytesBehind : Int32} {q_sc_start : Int32} (C : MC p s m args meth c E A cX2_advance 2 RX2 none) : ∀ (n : Nat) {sc_start : Int32} {tp_bytes : Nat → Int32} {tp_size : Int32} {H : Heap} {locs : List Loc} {ls : Array Slot}, WS E A s (w_sc_tp E a_sc a_tp sc_token sc_start sc_end sc_numberRead sc_escaped sc_bytesBehind tp_bytes tp_size) H locs → lv_has ls 2 [(0, .ref (a_sc 0))] → f_X2_advance_8 n sc_start tp_bytes tp_size = some q_sc_start → (∀ (H : Heap) (locs : List Loc) (ls : Array Slot), WS E A s (w_sc_tp E a_sc a_tp sc_token q_sc_start sc_end sc_numberRead sc_escaped sc_bytesBehind tp_bytes tp_size) H locs → lv_has ls 2 [(0, .ref (a_sc 0))] → W p l e { frames := 5, cells := 0, slots := 0, locals := 109 } s m args below meth c H locs 0 0 Q (F0 m 52 ls [])) → W p l e { frames := 5, cells := 0, slots := 0, locals := 109 } s m args below meth c H locs 0 0 Q (F0 m 8 ls []) := by
  have hx := C.1
  have hb := C.2.1
  intro n
  induction n with
  | zero =>
    intro sc_start tp_bytes tp_size H locs ls hw hl hf kk
    unfold f_X2_advance_8 at hf
    cases hf
  | succ n ih =>
    intro sc_start tp_bytes tp_size H locs ls hw hl hf kk
    unfold f_X2_advance_8 at hf
    refine lv_aload_n hx hb dX2_advance_8 rfl (lv_at hl 0 rfl) ?_
    refine fg_X2_22 C hw 0 rfl rfl dX2_advance_9 ?_
    refine lv_aload_n hx hb dX2_advance_12 rfl (lv_at hl 0 rfl) ?_
    refine fg_X2_9 C hw 0 rfl rfl dX2_advance_13 ?_
    refine fg_X2_25 C hw 1 rfl rfl dX2_advance_16 ?_
    refine lv_icmp_ge (tgt := 52) hx hb dX2_advance_19 (by decide) (fun c19 => ?_) (fun c19 => ?_)
    · replace hf := it_t c19 hf
      cases hf
      exact kk _ _ _ hw (lv_sub hl [0] rfl)
    · replace hf := it_f c19 hf
      refine lv_aload_n hx hb dX2_advance_22 rfl (lv_at hl 0 rfl) ?_
      refine fg_X2_9 C hw 0 rfl rfl dX2_advance_23 ?_
      refine lv_aload_n hx hb dX2_advance_26 rfl (lv_at hl 0 rfl) ?_
      refine fg_X2_22 C hw 0 rfl rfl dX2_advance_27 ?_
      obtain ⟨x1, z1, hf⟩ := ob1_el hf
      refine cI_V C hw (c_X4_at l E a_tp tp_bytes tp_size sc_start x1 z1) cs_X2_30 ⟨Nat.le_of_ble_eq_true rfl, Nat.le_of_ble_eq_true rfl⟩ ⟨rfl, rfl⟩ (ci := 4) (cn := (RX4, TX4, 2)) rfl (q0 := 1) rfl (wn := w_sc_tp E a_sc a_tp sc_token sc_start sc_end sc_numberRead sc_escaped sc_bytesBehind tp_bytes tp_size) ⟨[1, 2], [0], [0, 1, 2], rfl, rfl, rfl, rfl, by decide, rfl, rfl⟩ rfl hl.1 rfl (Nat.le_of_ble_eq_true rfl) dX2_advance_30 ⟨Nat.zero_le _, Nat.zero_le _⟩ (fun H locs hw => ?_)
      obtain ⟨x2, z2, hf⟩ := ob1_el hf
      refine cI_N C hw (c_X5_isBlank l E x1 x2 z2) cs_X2_34 ⟨Nat.le_of_ble_eq_true rfl, Nat.le_of_ble_eq_true rfl⟩ ⟨rfl, rfl⟩ (wn := w_sc_tp E a_sc a_tp sc_token sc_start sc_end sc_numberRead sc_escaped sc_bytesBehind tp_bytes tp_size) (Jn.none _) rfl hl.1 rfl (Nat.le_of_ble_eq_true rfl) dX2_advance_33 ⟨Nat.zero_le _, Nat.zero_le _⟩ (fun H locs hw => ?_)
      refine lv_if_eq (tgt := 52) hx hb dX2_advance_36 (by decide) (fun c36 => ?_) (fun c36 => ?_)
      · replace hf := it_t c36 hf
        cases hf
        exact kk _ _ _ hw (lv_sub hl [0] rfl)
      · replace hf := it_f c36 hf
        refine lv_aload_n hx hb dX2_advance_39 rfl (lv_at hl 0 rfl) ?_
        refine lv_dup hx hb dX2_advance_40 rfl ?_
        refine fg_X2_22 C hw 0 rfl rfl dX2_advance_41 ?_
        refine lv_iconst (v := 1) hx hb dX2_advance_44 (by decide) ?_
        refine lv_iadd hx hb dX2_advance_45 ?_
        obtain ⟨x3, ex3, hf⟩ := on_el hf
        refine tp_i ex3 ?_
        refine fp_X2_22 C hw 0 rfl (Nat.le_of_ble_eq_true rfl) (ws' := w_sc_tp E a_sc a_tp sc_token x3 sc_end sc_numberRead sc_escaped sc_bytesBehind tp_bytes tp_size) rfl dX2_advance_46 (fun H locs hw => ?_)
        refine lv_goto (tgt := 8) hx hb dX2_advance_49 (by decide) ?_
        exact ih hw (lv_sub hl [0] rfl) hf kk
def f_X2_advance_111 : Nat → (Int32) → (Nat → Int32) → (Int32) → Option ((Int32))
  | 0, _, _, _ => none
  | n + 1, sc_end, tp_bytes, tp_size =>
  if tp_size ≤ sc_end then (some sc_end)
  else (ob1 (f_X4_at sc_end tp_bytes tp_size) (fun x1 =>
  ob1 (f_X5_isWordByte x1) (fun x2 =>
  if x2 = (0 : Int32) then (some sc_end)
  else (on (sc_end + (1 : Int32)) (fun x3 =>
  f_X2_advance_111 n x3 tp_bytes tp_size)))))
set_option maxHeartbeats 4000000 in
set_option maxRecDepth 100000 in
theorem w_X2_advance_111 {p : Program} {l : Launch} {e : Env} {s : State} {m : MethodId} {args : Array Value} {below : List Frame} {meth : Method} {c : Code} {E : EnvT} {A : Nat → Prop} {a_sc : Nat → Nat} {a_tp : Nat → Nat} {Q : State → Prop} {sc_token : Int32} {sc_start : Int32} {sc_numberRead : Int64} {sc_escaped : Int32} {sc_bytesBehind : Int32} {q_sc_end : Int32} (C : MC p s m args meth c E A cX2_advance 2 RX2 none) : ∀ (n : Nat) {sc_end : Int32} {tp_bytes : Nat → Int32} {tp_size : Int32} {H : Heap} {locs : List Loc} {ls : Array Slot}, WS E A s (w_sc_tp E a_sc a_tp sc_token sc_start sc_end sc_numberRead sc_escaped sc_bytesBehind tp_bytes tp_size) H locs → lv_has ls 2 [(0, .ref (a_sc 0))] → f_X2_advance_111 n sc_end tp_bytes tp_size = some q_sc_end → (∀ (H : Heap) (locs : List Loc) (ls : Array Slot), WS E A s (w_sc_tp E a_sc a_tp sc_token sc_start q_sc_end sc_numberRead sc_escaped sc_bytesBehind tp_bytes tp_size) H locs → lv_has ls 2 [(0, .ref (a_sc 0))] → W p l e { frames := 5, cells := 0, slots := 0, locals := 109 } s m args below meth c H locs 0 0 Q (F0 m 155 ls [])) → W p l e { frames := 5, cells := 0, slots := 0, locals := 109 } s m args below meth c H locs 0 0 Q (F0 m 111 ls []) := by
  have hx := C.1
  have hb := C.2.1
  intro n
  induction n with
  | zero =>
    intro sc_end tp_bytes tp_size H locs ls hw hl hf kk
    unfold f_X2_advance_111 at hf
    cases hf
  | succ n ih =>
    intro sc_end tp_bytes tp_size H locs ls hw hl hf kk
    unfold f_X2_advance_111 at hf
    refine lv_aload_n hx hb dX2_advance_111 rfl (lv_at hl 0 rfl) ?_
    refine fg_X2_15 C hw 0 rfl rfl dX2_advance_112 ?_
    refine lv_aload_n hx hb dX2_advance_115 rfl (lv_at hl 0 rfl) ?_
    refine fg_X2_9 C hw 0 rfl rfl dX2_advance_116 ?_
    refine fg_X2_25 C hw 1 rfl rfl dX2_advance_119 ?_
    refine lv_icmp_ge (tgt := 155) hx hb dX2_advance_122 (by decide) (fun c122 => ?_) (fun c122 => ?_)
    · replace hf := it_t c122 hf
      cases hf
      exact kk _ _ _ hw (lv_sub hl [0] rfl)
    · replace hf := it_f c122 hf
      refine lv_aload_n hx hb dX2_advance_125 rfl (lv_at hl 0 rfl) ?_
      refine fg_X2_9 C hw 0 rfl rfl dX2_advance_126 ?_
      refine lv_aload_n hx hb dX2_advance_129 rfl (lv_at hl 0 rfl) ?_
      refine fg_X2_15 C hw 0 rfl rfl dX2_advance_130 ?_
      obtain ⟨x1, z1, hf⟩ := ob1_el hf
      refine cI_V C hw (c_X4_at l E a_tp tp_bytes tp_size sc_end x1 z1) cs_X2_30 ⟨Nat.le_of_ble_eq_true rfl, Nat.le_of_ble_eq_true rfl⟩ ⟨rfl, rfl⟩ (ci := 4) (cn := (RX4, TX4, 2)) rfl (q0 := 1) rfl (wn := w_sc_tp E a_sc a_tp sc_token sc_start sc_end sc_numberRead sc_escaped sc_bytesBehind tp_bytes tp_size) ⟨[1, 2], [0], [0, 1, 2], rfl, rfl, rfl, rfl, by decide, rfl, rfl⟩ rfl hl.1 rfl (Nat.le_of_ble_eq_true rfl) dX2_advance_133 ⟨Nat.zero_le _, Nat.zero_le _⟩ (fun H locs hw => ?_)
      obtain ⟨x2, z2, hf⟩ := ob1_el hf
      refine cI_N C hw (c_X5_isWordByte l E x1 x2 z2) cs_X2_47 ⟨Nat.le_of_ble_eq_true rfl, Nat.le_of_ble_eq_true rfl⟩ ⟨rfl, rfl⟩ (wn := w_sc_tp E a_sc a_tp sc_token sc_start sc_end sc_numberRead sc_escaped sc_bytesBehind tp_bytes tp_size) (Jn.none _) rfl hl.1 rfl (Nat.le_of_ble_eq_true rfl) dX2_advance_136 ⟨Nat.zero_le _, Nat.zero_le _⟩ (fun H locs hw => ?_)
      refine lv_if_eq (tgt := 155) hx hb dX2_advance_139 (by decide) (fun c139 => ?_) (fun c139 => ?_)
      · replace hf := it_t c139 hf
        cases hf
        exact kk _ _ _ hw (lv_sub hl [0] rfl)
      · replace hf := it_f c139 hf
        refine lv_aload_n hx hb dX2_advance_142 rfl (lv_at hl 0 rfl) ?_
        refine lv_dup hx hb dX2_advance_143 rfl ?_
        refine fg_X2_15 C hw 0 rfl rfl dX2_advance_144 ?_
        refine lv_iconst (v := 1) hx hb dX2_advance_147 (by decide) ?_
        refine lv_iadd hx hb dX2_advance_148 ?_
        obtain ⟨x3, ex3, hf⟩ := on_el hf
        refine tp_i ex3 ?_
        refine fp_X2_15 C hw 0 rfl (Nat.le_of_ble_eq_true rfl) (ws' := w_sc_tp E a_sc a_tp sc_token sc_start x3 sc_numberRead sc_escaped sc_bytesBehind tp_bytes tp_size) rfl dX2_advance_149 (fun H locs hw => ?_)
        refine lv_goto (tgt := 111) hx hb dX2_advance_152 (by decide) ?_
        exact ih hw (lv_sub hl [0] rfl) hf kk
def f_X2_advance_52 (sc_start : Int32) (tp_bytes : Nat → Int32) (tp_size : Int32) : Option ((Int32) × (Int32) × (Int32)) :=
  ob1 (f_X4_at sc_start tp_bytes tp_size) (fun x1 =>
  if x1 = (-1 : Int32) then (some ((29 : Int32), sc_start, sc_start))
  else (on (sc_start + (1 : Int32)) (fun x2 =>
  ob1 (f_X5_isLetter x1) (fun x3 =>
  if x3 = (0 : Int32) then (ob2 (f_X2_signToken x1 x2 tp_bytes tp_size) (fun x6 x7 =>
  some (x6, sc_start, x7)))
  else (ob1 (f_X2_advance_111 FU x2 tp_bytes tp_size) (fun x4 =>
  ob1 (f_X2_wordToken sc_start x4 tp_bytes tp_size) (fun x5 =>
  some (x5, sc_start, x4))))))))
set_option maxHeartbeats 4000000 in
set_option maxRecDepth 100000 in
theorem w_X2_advance_52 {p : Program} {l : Launch} {e : Env} {s : State} {m : MethodId} {args : Array Value} {below : List Frame} {meth : Method} {c : Code} {E : EnvT} {A : Nat → Prop} {a_sc : Nat → Nat} {a_tp : Nat → Nat} {sc_token : Int32} {sc_end : Int32} {sc_numberRead : Int64} {sc_escaped : Int32} {sc_bytesBehind : Int32} {o_sc_token : Int32} {o_sc_start : Int32} {o_sc_end : Int32} {sc_start : Int32} {tp_bytes : Nat → Int32} {tp_size : Int32} {H : Heap} {locs : List Loc} {ls : Array Slot} (C : MC p s m args meth c E A cX2_advance 2 RX2 none) (hw : WS E A s (w_sc_tp E a_sc a_tp sc_token sc_start sc_end sc_numberRead sc_escaped sc_bytesBehind tp_bytes tp_size) H locs) (hl : lv_has ls 2 [(0, .ref (a_sc 0))]) (hf : f_X2_advance_52 sc_start tp_bytes tp_size = some (o_sc_token, o_sc_start, o_sc_end)) : W p l e { frames := 5, cells := 0, slots := 0, locals := 109 } s m args below meth c H locs 0 0 (MQ below (QcV E A (w_sc_tp E a_sc a_tp o_sc_token o_sc_start o_sc_end sc_numberRead sc_escaped sc_bytesBehind tp_bytes tp_size)) args s 0 0 A) (F0 m 52 ls []) := by
  have hx := C.1
  have hb := C.2.1
  unfold f_X2_advance_52 at hf
  refine lv_aload_n hx hb dX2_advance_52 rfl (lv_at hl 0 rfl) ?_
  refine fg_X2_9 C hw 0 rfl rfl dX2_advance_53 ?_
  refine lv_aload_n hx hb dX2_advance_56 rfl (lv_at hl 0 rfl) ?_
  refine fg_X2_22 C hw 0 rfl rfl dX2_advance_57 ?_
  obtain ⟨x1, z1, hf⟩ := ob1_el hf
  refine cI_V C hw (c_X4_at l E a_tp tp_bytes tp_size sc_start x1 z1) cs_X2_30 ⟨Nat.le_of_ble_eq_true rfl, Nat.le_of_ble_eq_true rfl⟩ ⟨rfl, rfl⟩ (ci := 4) (cn := (RX4, TX4, 2)) rfl (q0 := 1) rfl (wn := w_sc_tp E a_sc a_tp sc_token sc_start sc_end sc_numberRead sc_escaped sc_bytesBehind tp_bytes tp_size) ⟨[1, 2], [0], [0, 1, 2], rfl, rfl, rfl, rfl, by decide, rfl, rfl⟩ rfl hl.1 rfl (Nat.le_of_ble_eq_true rfl) dX2_advance_60 ⟨Nat.zero_le _, Nat.zero_le _⟩ (fun H locs hw => ?_)
  refine lv_istore_n (lv' := [(1, .int x1), (0, .ref (a_sc 0))]) hx hb dX2_advance_63 rfl hl (by decide) rfl (fun ls hl => ?_)
  refine lv_iload_n hx hb dX2_advance_64 rfl (lv_at hl 0 rfl) ?_
  refine lv_iconst (v := -1) hx hb dX2_advance_65 (by decide) ?_
  refine lv_icmp_ne (tgt := 84) hx hb dX2_advance_66 (by decide) (fun c66 => ?_) (fun c66 => ?_)
  · replace hf := it_f c66 hf
    refine lv_aload_n hx hb dX2_advance_84 rfl (lv_at hl 1 rfl) ?_
    refine lv_aload_n hx hb dX2_advance_85 rfl (lv_at hl 1 rfl) ?_
    refine fg_X2_22 C hw 0 rfl rfl dX2_advance_86 ?_
    refine lv_iconst (v := 1) hx hb dX2_advance_89 (by decide) ?_
    refine lv_iadd hx hb dX2_advance_90 ?_
    obtain ⟨x2, ex2, hf⟩ := on_el hf
    refine tp_i ex2 ?_
    refine fp_X2_15 C hw 0 rfl (Nat.le_of_ble_eq_true rfl) (ws' := w_sc_tp E a_sc a_tp sc_token sc_start x2 sc_numberRead sc_escaped sc_bytesBehind tp_bytes tp_size) rfl dX2_advance_91 (fun H locs hw => ?_)
    refine lv_iload_n hx hb dX2_advance_94 rfl (lv_at hl 0 rfl) ?_
    obtain ⟨x3, z3, hf⟩ := ob1_el hf
    refine cI_N C hw (c_X5_isLetter l E x1 x3 z3) cs_X2_41 ⟨Nat.le_of_ble_eq_true rfl, Nat.le_of_ble_eq_true rfl⟩ ⟨rfl, rfl⟩ (wn := w_sc_tp E a_sc a_tp sc_token sc_start x2 sc_numberRead sc_escaped sc_bytesBehind tp_bytes tp_size) (Jn.none _) rfl hl.1 rfl (Nat.le_of_ble_eq_true rfl) dX2_advance_95 ⟨Nat.zero_le _, Nat.zero_le _⟩ (fun H locs hw => ?_)
    refine lv_if_ne (tgt := 111) hx hb dX2_advance_98 (by decide) (fun c98 => ?_) (fun c98 => ?_)
    · replace hf := it_f c98 hf
      obtain ⟨x4, hx4, hf⟩ := ob1_el hf
      refine w_X2_advance_111 C FU hw (lv_sub hl [1] rfl) hx4 ?_
      clear hw hl
      intro H locs ls hw hl
      refine lv_aload_n hx hb dX2_advance_155 rfl (lv_at hl 0 rfl) ?_
      refine lv_aload_n hx hb dX2_advance_156 rfl (lv_at hl 0 rfl) ?_
      obtain ⟨x5, z5, hf⟩ := ob1_el hf
      refine cI_V C hw (c_X2_wordToken l E a_sc a_tp sc_token sc_start x4 sc_numberRead sc_escaped sc_bytesBehind tp_bytes tp_size x5 z5) cs_X2_50 ⟨Nat.le_of_ble_eq_true rfl, Nat.le_of_ble_eq_true rfl⟩ ⟨rfl, rfl⟩ (ci := 2) (cn := (RX2, TX2, 7)) rfl (q0 := 0) rfl (wn := w_sc_tp E a_sc a_tp sc_token sc_start x4 sc_numberRead sc_escaped sc_bytesBehind tp_bytes tp_size) (Jn.all _ _) rfl hl.1 rfl (Nat.le_of_ble_eq_true rfl) dX2_advance_157 ⟨Nat.zero_le _, Nat.zero_le _⟩ (fun H locs hw => ?_)
      refine fp_X2_38 C hw 0 rfl (Nat.le_of_ble_eq_true rfl) (ws' := w_sc_tp E a_sc a_tp x5 sc_start x4 sc_numberRead sc_escaped sc_bytesBehind tp_bytes tp_size) rfl dX2_advance_160 (fun H locs hw => ?_)
      cases hf
      exact rt_v C hw dX2_advance_163
    · replace hf := it_t c98 hf
      refine lv_aload_n hx hb dX2_advance_101 rfl (lv_at hl 1 rfl) ?_
      refine lv_aload_n hx hb dX2_advance_102 rfl (lv_at hl 1 rfl) ?_
      refine lv_iload_n hx hb dX2_advance_103 rfl (lv_at hl 0 rfl) ?_
      obtain ⟨x6, x7, z7, hf⟩ := ob2_el hf
      refine cI_V C hw (c_X2_signToken l E a_sc a_tp sc_token sc_start x2 sc_numberRead sc_escaped sc_bytesBehind tp_bytes tp_size x1 x6 x7 z7) cs_X2_44 ⟨Nat.le_of_ble_eq_true rfl, Nat.le_of_ble_eq_true rfl⟩ ⟨rfl, rfl⟩ (ci := 2) (cn := (RX2, TX2, 7)) rfl (q0 := 0) rfl (wn := w_sc_tp E a_sc a_tp sc_token sc_start x7 sc_numberRead sc_escaped sc_bytesBehind tp_bytes tp_size) (Jn.all _ _) rfl hl.1 rfl (Nat.le_of_ble_eq_true rfl) dX2_advance_104 ⟨Nat.zero_le _, Nat.zero_le _⟩ (fun H locs hw => ?_)
      refine fp_X2_38 C hw 0 rfl (Nat.le_of_ble_eq_true rfl) (ws' := w_sc_tp E a_sc a_tp x6 sc_start x7 sc_numberRead sc_escaped sc_bytesBehind tp_bytes tp_size) rfl dX2_advance_107 (fun H locs hw => ?_)
      cases hf
      exact rt_v C hw dX2_advance_110
  · replace hf := it_t c66 hf
    refine lv_aload_n hx hb dX2_advance_69 rfl (lv_at hl 1 rfl) ?_
    refine lv_aload_n hx hb dX2_advance_70 rfl (lv_at hl 1 rfl) ?_
    refine fg_X2_22 C hw 0 rfl rfl dX2_advance_71 ?_
    refine fp_X2_15 C hw 0 rfl (Nat.le_of_ble_eq_true rfl) (ws' := w_sc_tp E a_sc a_tp sc_token sc_start sc_start sc_numberRead sc_escaped sc_bytesBehind tp_bytes tp_size) rfl dX2_advance_74 (fun H locs hw => ?_)
    refine lv_aload_n hx hb dX2_advance_77 rfl (lv_at hl 1 rfl) ?_
    refine lv_bipush (v := 29) hx hb dX2_advance_78 (by decide) ?_
    refine fp_X2_38 C hw 0 rfl (Nat.le_of_ble_eq_true rfl) (ws' := w_sc_tp E a_sc a_tp (29 : Int32) sc_start sc_start sc_numberRead sc_escaped sc_bytesBehind tp_bytes tp_size) rfl dX2_advance_80 (fun H locs hw => ?_)
    cases hf
    exact rt_v C hw dX2_advance_83
def f_X2_advance (sc_token : Int32) (sc_start : Int32) (sc_end : Int32) (tp_bytes : Nat → Int32) (tp_size : Int32) : Option ((Int32) × (Int32) × (Int32)) :=
  ob1 (f_X2_advance_8 FU sc_end tp_bytes tp_size) (fun x1 =>
  f_X2_advance_52 x1 tp_bytes tp_size)
set_option maxHeartbeats 4000000 in
set_option maxRecDepth 100000 in
theorem c_X2_advance (l : Launch) (E : EnvT) (a_sc : Nat → Nat) (a_tp : Nat → Nat) (sc_token : Int32) (sc_start : Int32) (sc_end : Int32) (sc_numberRead : Int64) (sc_escaped : Int32) (sc_bytesBehind : Int32) (tp_bytes : Nat → Int32) (tp_size : Int32) (o_sc_token : Int32) (o_sc_start : Int32) (o_sc_end : Int32) (hf : f_X2_advance sc_token sc_start sc_end tp_bytes tp_size = some (o_sc_token, o_sc_start, o_sc_end)) : CV l yX2_advance (Cond.code yX2_advance cX2_advance 2 none) { frames := 5, cells := 0, slots := 0, locals := 109 } E [.ref (a_sc 0)] (w_sc_tp E a_sc a_tp sc_token sc_start sc_end sc_numberRead sc_escaped sc_bytesBehind tp_bytes tp_size) (w_sc_tp E a_sc a_tp o_sc_token o_sc_start o_sc_end sc_numberRead sc_escaped sc_bytesBehind tp_bytes tp_size) := by
  intro sz
  refine met_start [(0, .ref (a_sc 0))] (by decide) rfl rfl (Nat.le_of_ble_eq_true rfl) rfl ?_
  intro p e s m below meth c ls C hnm hmt hw hl
  have hx := C.1
  have hb := C.2.1
  generalize va_A (w_sc_tp E a_sc a_tp sc_token sc_start sc_end sc_numberRead sc_escaped sc_bytesBehind tp_bytes tp_size) sz = A at C hw ⊢
  unfold f_X2_advance at hf
  refine lv_aload_n hx hb dX2_advance_0 rfl (lv_at hl 0 rfl) ?_
  refine lv_aload_n hx hb dX2_advance_1 rfl (lv_at hl 0 rfl) ?_
  refine fg_X2_15 C hw 0 rfl rfl dX2_advance_2 ?_
  refine fp_X2_22 C hw 0 rfl (Nat.le_of_ble_eq_true rfl) (ws' := w_sc_tp E a_sc a_tp sc_token sc_end sc_end sc_numberRead sc_escaped sc_bytesBehind tp_bytes tp_size) rfl dX2_advance_5 (fun H locs hw => ?_)
  obtain ⟨x1, hx1, hf⟩ := ob1_el hf
  refine w_X2_advance_8 C FU hw (lv_sub hl [0] rfl) hx1 ?_
  clear hw hl
  intro H locs ls hw hl
  exact w_X2_advance_52 C hw (lv_sub hl [0] rfl) hf
def f_X2_begin (sc_token : Int32) (sc_start : Int32) (sc_end : Int32) (tp_bytes : Nat → Int32) (tp_size : Int32) : Option ((Int32) × (Int32) × (Int32)) :=
  ob3 (f_X2_advance sc_token sc_start (0 : Int32) tp_bytes tp_size) (fun x1 x2 x3 =>
  some (x1, x2, x3))
set_option maxHeartbeats 4000000 in
set_option maxRecDepth 100000 in
theorem c_X2_begin (l : Launch) (E : EnvT) (a_sc : Nat → Nat) (a_tp : Nat → Nat) (sc_token : Int32) (sc_start : Int32) (sc_end : Int32) (sc_numberRead : Int64) (sc_escaped : Int32) (sc_bytesBehind : Int32) (tp_bytes : Nat → Int32) (tp_size : Int32) (o_sc_token : Int32) (o_sc_start : Int32) (o_sc_end : Int32) (hf : f_X2_begin sc_token sc_start sc_end tp_bytes tp_size = some (o_sc_token, o_sc_start, o_sc_end)) : CV l yX2_begin (Cond.code yX2_begin cX2_begin 1 none) { frames := 6, cells := 0, slots := 0, locals := 130 } E [.ref (a_sc 0)] (w_sc_tp E a_sc a_tp sc_token sc_start sc_end sc_numberRead sc_escaped sc_bytesBehind tp_bytes tp_size) (w_sc_tp E a_sc a_tp o_sc_token o_sc_start o_sc_end sc_numberRead sc_escaped sc_bytesBehind tp_bytes tp_size) := by
  intro sz
  refine met_start [(0, .ref (a_sc 0))] (by decide) rfl rfl (Nat.le_of_ble_eq_true rfl) rfl ?_
  intro p e s m below meth c ls C hnm hmt hw hl
  have hx := C.1
  have hb := C.2.1
  generalize va_A (w_sc_tp E a_sc a_tp sc_token sc_start sc_end sc_numberRead sc_escaped sc_bytesBehind tp_bytes tp_size) sz = A at C hw ⊢
  unfold f_X2_begin at hf
  refine lv_aload_n hx hb dX2_begin_0 rfl (lv_at hl 0 rfl) ?_
  refine lv_iconst (v := 0) hx hb dX2_begin_1 (by decide) ?_
  refine fp_X2_15 C hw 0 rfl (Nat.le_of_ble_eq_true rfl) (ws' := w_sc_tp E a_sc a_tp sc_token sc_start (0 : Int32) sc_numberRead sc_escaped sc_bytesBehind tp_bytes tp_size) rfl dX2_begin_2 (fun H locs hw => ?_)
  refine lv_aload_n hx hb dX2_begin_5 rfl (lv_at hl 0 rfl) ?_
  obtain ⟨x1, x2, x3, z3, hf⟩ := ob3_el hf
  refine cV_V C hw (c_X2_advance l E a_sc a_tp sc_token sc_start (0 : Int32) sc_numberRead sc_escaped sc_bytesBehind tp_bytes tp_size x1 x2 x3 z3) cs_X2_19 ⟨Nat.le_of_ble_eq_true rfl, Nat.le_of_ble_eq_true rfl⟩ ⟨rfl, rfl⟩ (ci := 2) (cn := (RX2, TX2, 7)) rfl (q0 := 0) rfl (wn := w_sc_tp E a_sc a_tp x1 x2 x3 sc_numberRead sc_escaped sc_bytesBehind tp_bytes tp_size) (Jn.all _ _) rfl hl.1 rfl (Nat.le_of_ble_eq_true rfl) dX2_begin_6 ⟨Nat.zero_le _, Nat.zero_le _⟩ (fun H locs hw => ?_)
  cases hf
  exact rt_v C hw dX2_begin_9
def f_X2_passDot (sc_end : Int32) (tp_bytes : Nat → Int32) (tp_size : Int32) : Option ((Int32) × (Int32)) :=
  ob1 (f_X4_at sc_end tp_bytes tp_size) (fun x1 =>
  if x1 = (46 : Int32) then (on (sc_end + (1 : Int32)) (fun x2 =>
  some ((1 : Int32), x2)))
  else (some ((0 : Int32), sc_end)))
set_option maxHeartbeats 4000000 in
set_option maxRecDepth 100000 in
theorem c_X2_passDot (l : Launch) (E : EnvT) (a_sc : Nat → Nat) (a_tp : Nat → Nat) (sc_token : Int32) (sc_start : Int32) (sc_end : Int32) (sc_numberRead : Int64) (sc_escaped : Int32) (sc_bytesBehind : Int32) (tp_bytes : Nat → Int32) (tp_size : Int32) (r : Int32) (o_sc_end : Int32) (hf : f_X2_passDot sc_end tp_bytes tp_size = some (r, o_sc_end)) : CI l yX2_passDot (Cond.code yX2_passDot cX2_passDot 1 (some .boolean)) { frames := 1, cells := 0, slots := 0, locals := 21 } E [.ref (a_sc 0)] (w_sc_tp E a_sc a_tp sc_token sc_start sc_end sc_numberRead sc_escaped sc_bytesBehind tp_bytes tp_size) r (w_sc_tp E a_sc a_tp sc_token sc_start o_sc_end sc_numberRead sc_escaped sc_bytesBehind tp_bytes tp_size) := by
  intro sz
  refine met_start [(0, .ref (a_sc 0))] (by decide) rfl rfl (Nat.le_of_ble_eq_true rfl) rfl ?_
  intro p e s m below meth c ls C hnm hmt hw hl
  have hx := C.1
  have hb := C.2.1
  generalize va_A (w_sc_tp E a_sc a_tp sc_token sc_start sc_end sc_numberRead sc_escaped sc_bytesBehind tp_bytes tp_size) sz = A at C hw ⊢
  unfold f_X2_passDot at hf
  refine lv_aload_n hx hb dX2_passDot_0 rfl (lv_at hl 0 rfl) ?_
  refine fg_X2_9 C hw 0 rfl rfl dX2_passDot_1 ?_
  refine lv_aload_n hx hb dX2_passDot_4 rfl (lv_at hl 0 rfl) ?_
  refine fg_X2_15 C hw 0 rfl rfl dX2_passDot_5 ?_
  obtain ⟨x1, z1, hf⟩ := ob1_el hf
  refine cI_V C hw (c_X4_at l E a_tp tp_bytes tp_size sc_end x1 z1) cs_X2_30 ⟨Nat.le_of_ble_eq_true rfl, Nat.le_of_ble_eq_true rfl⟩ ⟨rfl, rfl⟩ (ci := 4) (cn := (RX4, TX4, 2)) rfl (q0 := 1) rfl (wn := w_sc_tp E a_sc a_tp sc_token sc_start sc_end sc_numberRead sc_escaped sc_bytesBehind tp_bytes tp_size) ⟨[1, 2], [0], [0, 1, 2], rfl, rfl, rfl, rfl, by decide, rfl, rfl⟩ rfl hl.1 rfl (Nat.le_of_ble_eq_true rfl) dX2_passDot_8 ⟨Nat.zero_le _, Nat.zero_le _⟩ (fun H locs hw => ?_)
  refine lv_bipush (v := 46) hx hb dX2_passDot_11 (by decide) ?_
  refine lv_icmp_eq (tgt := 18) hx hb dX2_passDot_13 (by decide) (fun c13 => ?_) (fun c13 => ?_)
  · replace hf := it_t c13 hf
    refine lv_aload_n hx hb dX2_passDot_18 rfl (lv_at hl 0 rfl) ?_
    refine lv_dup hx hb dX2_passDot_19 rfl ?_
    refine fg_X2_15 C hw 0 rfl rfl dX2_passDot_20 ?_
    refine lv_iconst (v := 1) hx hb dX2_passDot_23 (by decide) ?_
    refine lv_iadd hx hb dX2_passDot_24 ?_
    obtain ⟨x2, ex2, hf⟩ := on_el hf
    refine tp_i ex2 ?_
    refine fp_X2_15 C hw 0 rfl (Nat.le_of_ble_eq_true rfl) (ws' := w_sc_tp E a_sc a_tp sc_token sc_start x2 sc_numberRead sc_escaped sc_bytesBehind tp_bytes tp_size) rfl dX2_passDot_25 (fun H locs hw => ?_)
    refine lv_iconst (v := 1) hx hb dX2_passDot_28 (by decide) ?_
    cases hf
    exact rt_z C hw (Or.inr rfl) dX2_passDot_29
  · replace hf := it_f c13 hf
    refine lv_iconst (v := 0) hx hb dX2_passDot_16 (by decide) ?_
    cases hf
    exact rt_z C hw (Or.inl rfl) dX2_passDot_17
def f_X2_isLetterBehind (sc_end : Int32) (tp_bytes : Nat → Int32) (tp_size : Int32) : Option ((Int32)) :=
  ob1 (f_X4_at sc_end tp_bytes tp_size) (fun x1 =>
  ob1 (f_X5_isLetter x1) (fun x2 =>
  gz x2 (some x2)))
set_option maxHeartbeats 4000000 in
set_option maxRecDepth 100000 in
theorem c_X2_isLetterBehind (l : Launch) (E : EnvT) (a_sc : Nat → Nat) (a_tp : Nat → Nat) (sc_token : Int32) (sc_start : Int32) (sc_end : Int32) (sc_numberRead : Int64) (sc_escaped : Int32) (sc_bytesBehind : Int32) (tp_bytes : Nat → Int32) (tp_size : Int32) (r : Int32) (hf : f_X2_isLetterBehind sc_end tp_bytes tp_size = some r) : CI l yX2_isLetterBehind (Cond.code yX2_isLetterBehind cX2_isLetterBehind 1 (some .boolean)) { frames := 1, cells := 0, slots := 0, locals := 21 } E [.ref (a_sc 0)] (w_sc_tp E a_sc a_tp sc_token sc_start sc_end sc_numberRead sc_escaped sc_bytesBehind tp_bytes tp_size) r (w_sc_tp E a_sc a_tp sc_token sc_start sc_end sc_numberRead sc_escaped sc_bytesBehind tp_bytes tp_size) := by
  intro sz
  refine met_start [(0, .ref (a_sc 0))] (by decide) rfl rfl (Nat.le_of_ble_eq_true rfl) rfl ?_
  intro p e s m below meth c ls C hnm hmt hw hl
  have hx := C.1
  have hb := C.2.1
  generalize va_A (w_sc_tp E a_sc a_tp sc_token sc_start sc_end sc_numberRead sc_escaped sc_bytesBehind tp_bytes tp_size) sz = A at C hw ⊢
  unfold f_X2_isLetterBehind at hf
  refine lv_aload_n hx hb dX2_isLetterBehind_0 rfl (lv_at hl 0 rfl) ?_
  refine fg_X2_9 C hw 0 rfl rfl dX2_isLetterBehind_1 ?_
  refine lv_aload_n hx hb dX2_isLetterBehind_4 rfl (lv_at hl 0 rfl) ?_
  refine fg_X2_15 C hw 0 rfl rfl dX2_isLetterBehind_5 ?_
  obtain ⟨x1, z1, hf⟩ := ob1_el hf
  refine cI_V C hw (c_X4_at l E a_tp tp_bytes tp_size sc_end x1 z1) cs_X2_30 ⟨Nat.le_of_ble_eq_true rfl, Nat.le_of_ble_eq_true rfl⟩ ⟨rfl, rfl⟩ (ci := 4) (cn := (RX4, TX4, 2)) rfl (q0 := 1) rfl (wn := w_sc_tp E a_sc a_tp sc_token sc_start sc_end sc_numberRead sc_escaped sc_bytesBehind tp_bytes tp_size) ⟨[1, 2], [0], [0, 1, 2], rfl, rfl, rfl, rfl, by decide, rfl, rfl⟩ rfl hl.1 rfl (Nat.le_of_ble_eq_true rfl) dX2_isLetterBehind_8 ⟨Nat.zero_le _, Nat.zero_le _⟩ (fun H locs hw => ?_)
  obtain ⟨x2, z2, hf⟩ := ob1_el hf
  refine cI_N C hw (c_X5_isLetter l E x1 x2 z2) cs_X2_41 ⟨Nat.le_of_ble_eq_true rfl, Nat.le_of_ble_eq_true rfl⟩ ⟨rfl, rfl⟩ (wn := w_sc_tp E a_sc a_tp sc_token sc_start sc_end sc_numberRead sc_escaped sc_bytesBehind tp_bytes tp_size) (Jn.none _) rfl hl.1 rfl (Nat.le_of_ble_eq_true rfl) dX2_isLetterBehind_11 ⟨Nat.zero_le _, Nat.zero_le _⟩ (fun H locs hw => ?_)
  obtain ⟨hz, hf⟩ := gz_el hf
  cases hf
  exact rt_z C hw hz dX2_isLetterBehind_14
def f_X2_readNumber_67 : Nat → (Int64) → (Int32) → (Int32) → (Nat → Int32) → (Int32) → Option ((Int64) × (Int32) × (Int32))
  | 0, _, _, _, _, _ => none
  | n + 1, l3, l5, l6, tp_bytes, tp_size =>
  if tp_size ≤ l6 then (some (l3, l5, l6))
  else (ob1 (f_X4_at l6 tp_bytes tp_size) (fun x1 =>
  ob1 (f_X5_isDigit x1) (fun x2 =>
  if x2 = (0 : Int32) then (some (l3, l5, l6))
  else (ob1 (f_X4_at l6 tp_bytes tp_size) (fun x3 =>
  on (x3 - (48 : Int32)) (fun x4 =>
  if l5 = (0 : Int32) then (on ((l3 * (10 : Int64)) - (Int32.toInt64 x4)) (fun x5 =>
  on (l6 + (1 : Int32)) (fun x6 =>
  f_X2_readNumber_67 n x5 (0 : Int32) x6 tp_bytes tp_size)))
  else (if (lg_cmp l3 (-922337203685477580 : Int64)) < (0 : Int32) then (on ((l3 * (10 : Int64)) - (Int32.toInt64 x4)) (fun x7 =>
  on (l6 + (1 : Int32)) (fun x8 =>
  f_X2_readNumber_67 n x7 (0 : Int32) x8 tp_bytes tp_size)))
  else (if (lg_cmp (l3 * (10 : Int64)) ((-9223372036854775808 : Int64) + (Int32.toInt64 x4))) < (0 : Int32) then (on ((l3 * (10 : Int64)) - (Int32.toInt64 x4)) (fun x9 =>
  on (l6 + (1 : Int32)) (fun x10 =>
  f_X2_readNumber_67 n x9 (0 : Int32) x10 tp_bytes tp_size)))
  else (on ((l3 * (10 : Int64)) - (Int32.toInt64 x4)) (fun x11 =>
  on (l6 + (1 : Int32)) (fun x12 =>
  f_X2_readNumber_67 n x11 (1 : Int32) x12 tp_bytes tp_size)))))))))))
set_option maxHeartbeats 4000000 in
set_option maxRecDepth 100000 in
theorem w_X2_readNumber_67 {p : Program} {l : Launch} {e : Env} {s : State} {m : MethodId} {args : Array Value} {below : List Frame} {meth : Method} {c : Code} {E : EnvT} {A : Nat → Prop} {a_sc : Nat → Nat} {a_tp : Nat → Nat} {Q : State → Prop} {sc_token : Int32} {sc_start : Int32} {sc_end : Int32} {sc_numberRead : Int64} {sc_escaped : Int32} {sc_bytesBehind : Int32} {l1 : Int32} {l2 : Int32} {q_l3 : Int64} {q_l5 : Int32} {q_l6 : Int32} (C : MC p s m args meth c E A cX2_readNumber 8 RX2 (some .int)) : ∀ (n : Nat) {l3 : Int64} {l5 : Int32} {l6 : Int32} {tp_bytes : Nat → Int32} {tp_size : Int32} {H : Heap} {locs : List Loc} {ls : Array Slot}, WS E A s (w_sc_tp E a_sc a_tp sc_token sc_start sc_end sc_numberRead sc_escaped sc_bytesBehind tp_bytes tp_size) H locs → lv_has ls 8 [(0, .ref (a_sc 0)), (1, .int l1), (2, .int l2), (3, .long l3), (5, .int l5), (6, .int l6)] → f_X2_readNumber_67 n l3 l5 l6 tp_bytes tp_size = some (q_l3, q_l5, q_l6) → (∀ (H : Heap) (locs : List Loc) (ls : Array Slot), WS E A s (w_sc_tp E a_sc a_tp sc_token sc_start sc_end sc_numberRead sc_escaped sc_bytesBehind tp_bytes tp_size) H locs → lv_has ls 8 [(0, .ref (a_sc 0)), (1, .int l1), (2, .int l2), (3, .long q_l3), (5, .int q_l5), (6, .int q_l6)] → W p l e { frames := 1, cells := 0, slots := 0, locals := 21 } s m args below meth c H locs 0 0 Q (F0 m 160 ls [])) → W p l e { frames := 1, cells := 0, slots := 0, locals := 21 } s m args below meth c H locs 0 0 Q (F0 m 67 ls []) := by
  have hx := C.1
  have hb := C.2.1
  intro n
  induction n with
  | zero =>
    intro l3 l5 l6 tp_bytes tp_size H locs ls hw hl hf kk
    unfold f_X2_readNumber_67 at hf
    cases hf
  | succ n ih =>
    intro l3 l5 l6 tp_bytes tp_size H locs ls hw hl hf kk
    unfold f_X2_readNumber_67 at hf
    refine lv_iload hx hb dX2_readNumber_67 (lv_at hl 5 rfl) ?_
    refine lv_aload_n hx hb dX2_readNumber_69 rfl (lv_at hl 0 rfl) ?_
    refine fg_X2_9 C hw 0 rfl rfl dX2_readNumber_70 ?_
    refine fg_X2_25 C hw 1 rfl rfl dX2_readNumber_73 ?_
    refine lv_icmp_ge (tgt := 160) hx hb dX2_readNumber_76 (by decide) (fun c76 => ?_) (fun c76 => ?_)
    · replace hf := it_t c76 hf
      cases hf
      exact kk _ _ _ hw (lv_sub hl [0, 1, 2, 3, 4, 5] rfl)
    · replace hf := it_f c76 hf
      refine lv_aload_n hx hb dX2_readNumber_79 rfl (lv_at hl 0 rfl) ?_
      refine fg_X2_9 C hw 0 rfl rfl dX2_readNumber_80 ?_
      refine lv_iload hx hb dX2_readNumber_83 (lv_at hl 5 rfl) ?_
      obtain ⟨x1, z1, hf⟩ := ob1_el hf
      refine cI_V C hw (c_X4_at l E a_tp tp_bytes tp_size l6 x1 z1) cs_X2_30 ⟨Nat.le_of_ble_eq_true rfl, Nat.le_of_ble_eq_true rfl⟩ ⟨rfl, rfl⟩ (ci := 4) (cn := (RX4, TX4, 2)) rfl (q0 := 1) rfl (wn := w_sc_tp E a_sc a_tp sc_token sc_start sc_end sc_numberRead sc_escaped sc_bytesBehind tp_bytes tp_size) ⟨[1, 2], [0], [0, 1, 2], rfl, rfl, rfl, rfl, by decide, rfl, rfl⟩ rfl hl.1 rfl (Nat.le_of_ble_eq_true rfl) dX2_readNumber_85 ⟨Nat.zero_le _, Nat.zero_le _⟩ (fun H locs hw => ?_)
      obtain ⟨x2, z2, hf⟩ := ob1_el hf
      refine cI_N C hw (c_X5_isDigit l E x1 x2 z2) cs_X2_69 ⟨Nat.le_of_ble_eq_true rfl, Nat.le_of_ble_eq_true rfl⟩ ⟨rfl, rfl⟩ (wn := w_sc_tp E a_sc a_tp sc_token sc_start sc_end sc_numberRead sc_escaped sc_bytesBehind tp_bytes tp_size) (Jn.none _) rfl hl.1 rfl (Nat.le_of_ble_eq_true rfl) dX2_readNumber_88 ⟨Nat.zero_le _, Nat.zero_le _⟩ (fun H locs hw => ?_)
      refine lv_if_eq (tgt := 160) hx hb dX2_readNumber_91 (by decide) (fun c91 => ?_) (fun c91 => ?_)
      · replace hf := it_t c91 hf
        cases hf
        exact kk _ _ _ hw (lv_sub hl [0, 1, 2, 3, 4, 5] rfl)
      · replace hf := it_f c91 hf
        refine lv_aload_n hx hb dX2_readNumber_94 rfl (lv_at hl 0 rfl) ?_
        refine fg_X2_9 C hw 0 rfl rfl dX2_readNumber_95 ?_
        refine lv_iload hx hb dX2_readNumber_98 (lv_at hl 5 rfl) ?_
        obtain ⟨x3, z3, hf⟩ := ob1_el hf
        refine cI_V C hw (c_X4_at l E a_tp tp_bytes tp_size l6 x3 z3) cs_X2_30 ⟨Nat.le_of_ble_eq_true rfl, Nat.le_of_ble_eq_true rfl⟩ ⟨rfl, rfl⟩ (ci := 4) (cn := (RX4, TX4, 2)) rfl (q0 := 1) rfl (wn := w_sc_tp E a_sc a_tp sc_token sc_start sc_end sc_numberRead sc_escaped sc_bytesBehind tp_bytes tp_size) ⟨[1, 2], [0], [0, 1, 2], rfl, rfl, rfl, rfl, by decide, rfl, rfl⟩ rfl hl.1 rfl (Nat.le_of_ble_eq_true rfl) dX2_readNumber_100 ⟨Nat.zero_le _, Nat.zero_le _⟩ (fun H locs hw => ?_)
        refine lv_bipush (v := 48) hx hb dX2_readNumber_103 (by decide) ?_
        refine lv_isub hx hb dX2_readNumber_105 ?_
        obtain ⟨x4, ex4, hf⟩ := on_el hf
        refine tp_i ex4 ?_
        refine lv_istore (lv' := [(7, .int x4), (0, .ref (a_sc 0)), (1, .int l1), (2, .int l2), (3, .long l3), (5, .int l5), (6, .int l6)]) hx hb dX2_readNumber_106 hl (by decide) rfl (fun ls hl => ?_)
        refine lv_iload hx hb dX2_readNumber_108 (lv_at hl 5 rfl) ?_
        refine lv_if_eq (tgt := 141) hx hb dX2_readNumber_110 (by decide) (fun c110 => ?_) (fun c110 => ?_)
        · replace hf := it_t c110 hf
          refine lv_iconst (v := 0) hx hb dX2_readNumber_141 (by decide) ?_
          refine lv_istore (lv' := [(5, .int (0 : Int32)), (7, .int x4), (0, .ref (a_sc 0)), (1, .int l1), (2, .int l2), (3, .long l3), (6, .int l6)]) hx hb dX2_readNumber_142 hl (by decide) rfl (fun ls hl => ?_)
          refine lv_lload_n hx hb dX2_readNumber_144 rfl (lv_at hl 5 rfl) ?_
          refine rc2 C mw_491 dX2_readNumber_145 ?_
          refine lv_lmul hx hb dX2_readNumber_148 ?_
          refine lv_iload hx hb dX2_readNumber_149 (lv_at hl 1 rfl) ?_
          refine lv_i2l hx hb dX2_readNumber_151 rfl ?_
          refine lv_lsub hx hb dX2_readNumber_152 ?_
          obtain ⟨x5, ex5, hf⟩ := on_el hf
          refine tp_l ex5 ?_
          refine lv_lstore_n (lv' := [(3, .long x5), (5, .int (0 : Int32)), (7, .int x4), (0, .ref (a_sc 0)), (1, .int l1), (2, .int l2), (6, .int l6)]) hx hb dX2_readNumber_153 rfl hl (by decide) rfl (fun ls hl => ?_)
          obtain ⟨x6, ex6, hf⟩ := on_el hf
          refine lv_iinc (v := x6) (lv' := [(6, .int x6), (3, .long x5), (5, .int (0 : Int32)), (7, .int x4), (0, .ref (a_sc 0)), (1, .int l1), (2, .int l2)]) hx hb dX2_readNumber_154 hl (k := 6) rfl (by rw [← ex6]; rfl) (by decide) rfl (fun ls hl => ?_)
          refine lv_goto (tgt := 67) hx hb dX2_readNumber_157 (by decide) ?_
          exact ih hw (lv_sub hl [4, 5, 6, 1, 2, 0] rfl) hf kk
        · replace hf := it_f c110 hf
          refine lv_lload_n hx hb dX2_readNumber_113 rfl (lv_at hl 4 rfl) ?_
          refine rc2 C mw_490 dX2_readNumber_114 ?_
          refine W.lcmp hx hb dX2_readNumber_117 ?_
          refine lv_if_lt (tgt := 141) hx hb dX2_readNumber_118 (by decide) (fun c118 => ?_) (fun c118 => ?_)
          · replace hf := it_t c118 hf
            refine lv_iconst (v := 0) hx hb dX2_readNumber_141 (by decide) ?_
            refine lv_istore (lv' := [(5, .int (0 : Int32)), (7, .int x4), (0, .ref (a_sc 0)), (1, .int l1), (2, .int l2), (3, .long l3), (6, .int l6)]) hx hb dX2_readNumber_142 hl (by decide) rfl (fun ls hl => ?_)
            refine lv_lload_n hx hb dX2_readNumber_144 rfl (lv_at hl 5 rfl) ?_
            refine rc2 C mw_491 dX2_readNumber_145 ?_
            refine lv_lmul hx hb dX2_readNumber_148 ?_
            refine lv_iload hx hb dX2_readNumber_149 (lv_at hl 1 rfl) ?_
            refine lv_i2l hx hb dX2_readNumber_151 rfl ?_
            refine lv_lsub hx hb dX2_readNumber_152 ?_
            obtain ⟨x7, ex7, hf⟩ := on_el hf
            refine tp_l ex7 ?_
            refine lv_lstore_n (lv' := [(3, .long x7), (5, .int (0 : Int32)), (7, .int x4), (0, .ref (a_sc 0)), (1, .int l1), (2, .int l2), (6, .int l6)]) hx hb dX2_readNumber_153 rfl hl (by decide) rfl (fun ls hl => ?_)
            obtain ⟨x8, ex8, hf⟩ := on_el hf
            refine lv_iinc (v := x8) (lv' := [(6, .int x8), (3, .long x7), (5, .int (0 : Int32)), (7, .int x4), (0, .ref (a_sc 0)), (1, .int l1), (2, .int l2)]) hx hb dX2_readNumber_154 hl (k := 6) rfl (by rw [← ex8]; rfl) (by decide) rfl (fun ls hl => ?_)
            refine lv_goto (tgt := 67) hx hb dX2_readNumber_157 (by decide) ?_
            exact ih hw (lv_sub hl [4, 5, 6, 1, 2, 0] rfl) hf kk
          · replace hf := it_f c118 hf
            refine lv_lload_n hx hb dX2_readNumber_121 rfl (lv_at hl 4 rfl) ?_
            refine rc2 C mw_491 dX2_readNumber_122 ?_
            refine lv_lmul hx hb dX2_readNumber_125 ?_
            refine rc2 C mw_492 dX2_readNumber_126 ?_
            refine lv_iload hx hb dX2_readNumber_129 (lv_at hl 0 rfl) ?_
            refine lv_i2l hx hb dX2_readNumber_131 rfl ?_
            refine lv_ladd hx hb dX2_readNumber_132 ?_
            refine W.lcmp hx hb dX2_readNumber_133 ?_
            refine lv_if_lt (tgt := 141) hx hb dX2_readNumber_134 (by decide) (fun c134 => ?_) (fun c134 => ?_)
            · replace hf := it_t c134 hf
              refine lv_iconst (v := 0) hx hb dX2_readNumber_141 (by decide) ?_
              refine lv_istore (lv' := [(5, .int (0 : Int32)), (7, .int x4), (0, .ref (a_sc 0)), (1, .int l1), (2, .int l2), (3, .long l3), (6, .int l6)]) hx hb dX2_readNumber_142 hl (by decide) rfl (fun ls hl => ?_)
              refine lv_lload_n hx hb dX2_readNumber_144 rfl (lv_at hl 5 rfl) ?_
              refine rc2 C mw_491 dX2_readNumber_145 ?_
              refine lv_lmul hx hb dX2_readNumber_148 ?_
              refine lv_iload hx hb dX2_readNumber_149 (lv_at hl 1 rfl) ?_
              refine lv_i2l hx hb dX2_readNumber_151 rfl ?_
              refine lv_lsub hx hb dX2_readNumber_152 ?_
              obtain ⟨x9, ex9, hf⟩ := on_el hf
              refine tp_l ex9 ?_
              refine lv_lstore_n (lv' := [(3, .long x9), (5, .int (0 : Int32)), (7, .int x4), (0, .ref (a_sc 0)), (1, .int l1), (2, .int l2), (6, .int l6)]) hx hb dX2_readNumber_153 rfl hl (by decide) rfl (fun ls hl => ?_)
              obtain ⟨x10, ex10, hf⟩ := on_el hf
              refine lv_iinc (v := x10) (lv' := [(6, .int x10), (3, .long x9), (5, .int (0 : Int32)), (7, .int x4), (0, .ref (a_sc 0)), (1, .int l1), (2, .int l2)]) hx hb dX2_readNumber_154 hl (k := 6) rfl (by rw [← ex10]; rfl) (by decide) rfl (fun ls hl => ?_)
              refine lv_goto (tgt := 67) hx hb dX2_readNumber_157 (by decide) ?_
              exact ih hw (lv_sub hl [4, 5, 6, 1, 2, 0] rfl) hf kk
            · replace hf := it_f c134 hf
              refine lv_iconst (v := 1) hx hb dX2_readNumber_137 (by decide) ?_
              refine lv_goto (tgt := 142) hx hb dX2_readNumber_138 (by decide) ?_
              refine lv_istore (lv' := [(5, .int (1 : Int32)), (7, .int x4), (0, .ref (a_sc 0)), (1, .int l1), (2, .int l2), (3, .long l3), (6, .int l6)]) hx hb dX2_readNumber_142 hl (by decide) rfl (fun ls hl => ?_)
              refine lv_lload_n hx hb dX2_readNumber_144 rfl (lv_at hl 5 rfl) ?_
              refine rc2 C mw_491 dX2_readNumber_145 ?_
              refine lv_lmul hx hb dX2_readNumber_148 ?_
              refine lv_iload hx hb dX2_readNumber_149 (lv_at hl 1 rfl) ?_
              refine lv_i2l hx hb dX2_readNumber_151 rfl ?_
              refine lv_lsub hx hb dX2_readNumber_152 ?_
              obtain ⟨x11, ex11, hf⟩ := on_el hf
              refine tp_l ex11 ?_
              refine lv_lstore_n (lv' := [(3, .long x11), (5, .int (1 : Int32)), (7, .int x4), (0, .ref (a_sc 0)), (1, .int l1), (2, .int l2), (6, .int l6)]) hx hb dX2_readNumber_153 rfl hl (by decide) rfl (fun ls hl => ?_)
              obtain ⟨x12, ex12, hf⟩ := on_el hf
              refine lv_iinc (v := x12) (lv' := [(6, .int x12), (3, .long x11), (5, .int (1 : Int32)), (7, .int x4), (0, .ref (a_sc 0)), (1, .int l1), (2, .int l2)]) hx hb dX2_readNumber_154 hl (k := 6) rfl (by rw [← ex12]; rfl) (by decide) rfl (fun ls hl => ?_)
              refine lv_goto (tgt := 67) hx hb dX2_readNumber_157 (by decide) ?_
              exact ih hw (lv_sub hl [4, 5, 6, 1, 2, 0] rfl) hf kk
def f_X2_readNumber_225 (l1 : Int32) (l3 : Int64) (l6 : Int32) : Option ((Int32) × (Int32) × (Int64)) :=
  if l1 = (0 : Int32) then (on (-l3) (fun x1 =>
  some ((-1 : Int32), l6, x1)))
  else (some ((-1 : Int32), l6, l3))
set_option maxHeartbeats 4000000 in
set_option maxRecDepth 100000 in
theorem w_X2_readNumber_225 {p : Program} {l : Launch} {e : Env} {s : State} {m : MethodId} {args : Array Value} {below : List Frame} {meth : Method} {c : Code} {E : EnvT} {A : Nat → Prop} {a_sc : Nat → Nat} {a_tp : Nat → Nat} {sc_token : Int32} {sc_start : Int32} {sc_end : Int32} {sc_numberRead : Int64} {sc_escaped : Int32} {sc_bytesBehind : Int32} {tp_bytes : Nat → Int32} {tp_size : Int32} {r : Int32} {o_sc_end : Int32} {o_sc_numberRead : Int64} {l1 : Int32} {l3 : Int64} {l6 : Int32} {H : Heap} {locs : List Loc} {ls : Array Slot} (C : MC p s m args meth c E A cX2_readNumber 8 RX2 (some .int)) (hw : WS E A s (w_sc_tp E a_sc a_tp sc_token sc_start sc_end sc_numberRead sc_escaped sc_bytesBehind tp_bytes tp_size) H locs) (hl : lv_has ls 8 [(0, .ref (a_sc 0)), (1, .int l1), (3, .long l3), (6, .int l6)]) (hf : f_X2_readNumber_225 l1 l3 l6 = some (r, o_sc_end, o_sc_numberRead)) : W p l e { frames := 1, cells := 0, slots := 0, locals := 21 } s m args below meth c H locs 0 0 (MQ below (QcI E A (w_sc_tp E a_sc a_tp sc_token sc_start o_sc_end o_sc_numberRead sc_escaped sc_bytesBehind tp_bytes tp_size) r) args s 0 0 A) (F0 m 225 ls []) := by
  have hx := C.1
  have hb := C.2.1
  unfold f_X2_readNumber_225 at hf
  refine lv_aload_n hx hb dX2_readNumber_225 rfl (lv_at hl 0 rfl) ?_
  refine lv_iload_n hx hb dX2_readNumber_226 rfl (lv_at hl 1 rfl) ?_
  refine lv_if_eq (tgt := 234) hx hb dX2_readNumber_227 (by decide) (fun c227 => ?_) (fun c227 => ?_)
  · replace hf := it_t c227 hf
    refine lv_lload_n hx hb dX2_readNumber_234 rfl (lv_at hl 2 rfl) ?_
    refine lv_lneg hx hb dX2_readNumber_235 ?_
    obtain ⟨x1, ex1, hf⟩ := on_el hf
    refine tp_l ex1 ?_
    refine fp_X2_78 C hw 0 rfl (Nat.le_of_ble_eq_true rfl) (ws' := w_sc_tp E a_sc a_tp sc_token sc_start sc_end x1 sc_escaped sc_bytesBehind tp_bytes tp_size) rfl dX2_readNumber_236 (fun H locs hw => ?_)
    refine lv_aload_n hx hb dX2_readNumber_239 rfl (lv_at hl 0 rfl) ?_
    refine lv_iload hx hb dX2_readNumber_240 (lv_at hl 3 rfl) ?_
    refine fp_X2_15 C hw 0 rfl (Nat.le_of_ble_eq_true rfl) (ws' := w_sc_tp E a_sc a_tp sc_token sc_start l6 x1 sc_escaped sc_bytesBehind tp_bytes tp_size) rfl dX2_readNumber_242 (fun H locs hw => ?_)
    refine lv_iconst (v := -1) hx hb dX2_readNumber_245 (by decide) ?_
    cases hf
    exact rt_i C hw dX2_readNumber_246
  · replace hf := it_f c227 hf
    refine lv_lload_n hx hb dX2_readNumber_230 rfl (lv_at hl 2 rfl) ?_
    refine lv_goto (tgt := 236) hx hb dX2_readNumber_231 (by decide) ?_
    refine fp_X2_78 C hw 0 rfl (Nat.le_of_ble_eq_true rfl) (ws' := w_sc_tp E a_sc a_tp sc_token sc_start sc_end l3 sc_escaped sc_bytesBehind tp_bytes tp_size) rfl dX2_readNumber_236 (fun H locs hw => ?_)
    refine lv_aload_n hx hb dX2_readNumber_239 rfl (lv_at hl 0 rfl) ?_
    refine lv_iload hx hb dX2_readNumber_240 (lv_at hl 3 rfl) ?_
    refine fp_X2_15 C hw 0 rfl (Nat.le_of_ble_eq_true rfl) (ws' := w_sc_tp E a_sc a_tp sc_token sc_start l6 l3 sc_escaped sc_bytesBehind tp_bytes tp_size) rfl dX2_readNumber_242 (fun H locs hw => ?_)
    refine lv_iconst (v := -1) hx hb dX2_readNumber_245 (by decide) ?_
    cases hf
    exact rt_i C hw dX2_readNumber_246
def f_X2_readNumber_190 (l1 : Int32) (l2 : Int32) (l3 : Int64) (l5 : Int32) (l6 : Int32) (s0 : Int32) (sc_start : Int32) (sc_end : Int32) (sc_numberRead : Int64) : Option ((Int32) × (Int32) × (Int64)) :=
  if l6 = l2 then (some (sc_start, sc_end, sc_numberRead))
  else (if s0 = (0 : Int32) then (if l5 = (0 : Int32) then (some (sc_start, sc_end, sc_numberRead))
  else (if l1 = (0 : Int32) then (if (lg_cmp l3 (-9223372036854775808 : Int64)) = (0 : Int32) then (some (sc_start, sc_end, sc_numberRead))
  else (f_X2_readNumber_225 l1 l3 l6))
  else (f_X2_readNumber_225 l1 l3 l6)))
  else (some (sc_start, sc_end, sc_numberRead)))
set_option maxHeartbeats 4000000 in
set_option maxRecDepth 100000 in
theorem w_X2_readNumber_190 {p : Program} {l : Launch} {e : Env} {s : State} {m : MethodId} {args : Array Value} {below : List Frame} {meth : Method} {c : Code} {E : EnvT} {A : Nat → Prop} {a_sc : Nat → Nat} {a_tp : Nat → Nat} {sc_token : Int32} {sc_escaped : Int32} {sc_bytesBehind : Int32} {tp_bytes : Nat → Int32} {tp_size : Int32} {r : Int32} {o_sc_end : Int32} {o_sc_numberRead : Int64} {l1 : Int32} {l2 : Int32} {l3 : Int64} {l5 : Int32} {l6 : Int32} {s0 : Int32} {sc_start : Int32} {sc_end : Int32} {sc_numberRead : Int64} {H : Heap} {locs : List Loc} {ls : Array Slot} (C : MC p s m args meth c E A cX2_readNumber 8 RX2 (some .int)) (hw : WS E A s (w_sc_tp E a_sc a_tp sc_token sc_start sc_end sc_numberRead sc_escaped sc_bytesBehind tp_bytes tp_size) H locs) (hl : lv_has ls 8 [(0, .ref (a_sc 0)), (1, .int l1), (2, .int l2), (3, .long l3), (5, .int l5), (6, .int l6)]) (hf : f_X2_readNumber_190 l1 l2 l3 l5 l6 s0 sc_start sc_end sc_numberRead = some (r, o_sc_end, o_sc_numberRead)) : W p l e { frames := 1, cells := 0, slots := 0, locals := 21 } s m args below meth c H locs 0 0 (MQ below (QcI E A (w_sc_tp E a_sc a_tp sc_token sc_start o_sc_end o_sc_numberRead sc_escaped sc_bytesBehind tp_bytes tp_size) r) args s 0 0 A) (F0 m 190 ls [.int s0]) := by
  have hx := C.1
  have hb := C.2.1
  unfold f_X2_readNumber_190 at hf
  refine lv_istore (lv' := [(7, .int s0), (0, .ref (a_sc 0)), (1, .int l1), (2, .int l2), (3, .long l3), (5, .int l5), (6, .int l6)]) hx hb dX2_readNumber_190 hl (by decide) rfl (fun ls hl => ?_)
  refine lv_iload hx hb dX2_readNumber_192 (lv_at hl 6 rfl) ?_
  refine lv_iload_n hx hb dX2_readNumber_194 rfl (lv_at hl 3 rfl) ?_
  refine lv_icmp_eq (tgt := 220) hx hb dX2_readNumber_195 (by decide) (fun c195 => ?_) (fun c195 => ?_)
  · replace hf := it_t c195 hf
    refine lv_aload_n hx hb dX2_readNumber_220 rfl (lv_at hl 1 rfl) ?_
    refine fg_X2_22 C hw 0 rfl rfl dX2_readNumber_221 ?_
    cases hf
    exact rt_i C hw dX2_readNumber_224
  · replace hf := it_f c195 hf
    refine lv_iload hx hb dX2_readNumber_198 (lv_at hl 0 rfl) ?_
    refine lv_if_ne (tgt := 220) hx hb dX2_readNumber_200 (by decide) (fun c200 => ?_) (fun c200 => ?_)
    · replace hf := it_f c200 hf
      refine lv_aload_n hx hb dX2_readNumber_220 rfl (lv_at hl 1 rfl) ?_
      refine fg_X2_22 C hw 0 rfl rfl dX2_readNumber_221 ?_
      cases hf
      exact rt_i C hw dX2_readNumber_224
    · replace hf := it_t c200 hf
      refine lv_iload hx hb dX2_readNumber_203 (lv_at hl 5 rfl) ?_
      refine lv_if_eq (tgt := 220) hx hb dX2_readNumber_205 (by decide) (fun c205 => ?_) (fun c205 => ?_)
      · replace hf := it_t c205 hf
        refine lv_aload_n hx hb dX2_readNumber_220 rfl (lv_at hl 1 rfl) ?_
        refine fg_X2_22 C hw 0 rfl rfl dX2_readNumber_221 ?_
        cases hf
        exact rt_i C hw dX2_readNumber_224
      · replace hf := it_f c205 hf
        refine lv_iload_n hx hb dX2_readNumber_208 rfl (lv_at hl 2 rfl) ?_
        refine lv_if_ne (tgt := 225) hx hb dX2_readNumber_209 (by decide) (fun c209 => ?_) (fun c209 => ?_)
        · replace hf := it_f c209 hf
          exact w_X2_readNumber_225 C hw (lv_sub hl [1, 2, 4, 6] rfl) hf
        · replace hf := it_t c209 hf
          refine lv_lload_n hx hb dX2_readNumber_212 rfl (lv_at hl 4 rfl) ?_
          refine rc2 C mw_492 dX2_readNumber_213 ?_
          refine W.lcmp hx hb dX2_readNumber_216 ?_
          refine lv_if_ne (tgt := 225) hx hb dX2_readNumber_217 (by decide) (fun c217 => ?_) (fun c217 => ?_)
          · replace hf := it_f c217 hf
            exact w_X2_readNumber_225 C hw (lv_sub hl [1, 2, 4, 6] rfl) hf
          · replace hf := it_t c217 hf
            refine lv_aload_n hx hb dX2_readNumber_220 rfl (lv_at hl 1 rfl) ?_
            refine fg_X2_22 C hw 0 rfl rfl dX2_readNumber_221 ?_
            cases hf
            exact rt_i C hw dX2_readNumber_224
def f_X2_readNumber_189 (l1 : Int32) (l2 : Int32) (l3 : Int64) (l5 : Int32) (l6 : Int32) (sc_start : Int32) (sc_end : Int32) (sc_numberRead : Int64) : Option ((Int32) × (Int32) × (Int64)) :=
  f_X2_readNumber_190 l1 l2 l3 l5 l6 (0 : Int32) sc_start sc_end sc_numberRead
set_option maxHeartbeats 4000000 in
set_option maxRecDepth 100000 in
theorem w_X2_readNumber_189 {p : Program} {l : Launch} {e : Env} {s : State} {m : MethodId} {args : Array Value} {below : List Frame} {meth : Method} {c : Code} {E : EnvT} {A : Nat → Prop} {a_sc : Nat → Nat} {a_tp : Nat → Nat} {sc_token : Int32} {sc_escaped : Int32} {sc_bytesBehind : Int32} {tp_bytes : Nat → Int32} {tp_size : Int32} {r : Int32} {o_sc_end : Int32} {o_sc_numberRead : Int64} {l1 : Int32} {l2 : Int32} {l3 : Int64} {l5 : Int32} {l6 : Int32} {sc_start : Int32} {sc_end : Int32} {sc_numberRead : Int64} {H : Heap} {locs : List Loc} {ls : Array Slot} (C : MC p s m args meth c E A cX2_readNumber 8 RX2 (some .int)) (hw : WS E A s (w_sc_tp E a_sc a_tp sc_token sc_start sc_end sc_numberRead sc_escaped sc_bytesBehind tp_bytes tp_size) H locs) (hl : lv_has ls 8 [(0, .ref (a_sc 0)), (1, .int l1), (2, .int l2), (3, .long l3), (5, .int l5), (6, .int l6)]) (hf : f_X2_readNumber_189 l1 l2 l3 l5 l6 sc_start sc_end sc_numberRead = some (r, o_sc_end, o_sc_numberRead)) : W p l e { frames := 1, cells := 0, slots := 0, locals := 21 } s m args below meth c H locs 0 0 (MQ below (QcI E A (w_sc_tp E a_sc a_tp sc_token sc_start o_sc_end o_sc_numberRead sc_escaped sc_bytesBehind tp_bytes tp_size) r) args s 0 0 A) (F0 m 189 ls []) := by
  have hx := C.1
  have hb := C.2.1
  unfold f_X2_readNumber_189 at hf
  refine lv_iconst (v := 0) hx hb dX2_readNumber_189 (by decide) ?_
  exact w_X2_readNumber_190 C hw (lv_sub hl [0, 1, 2, 3, 4, 5] rfl) hf
def f_X2_readNumber_185 (l1 : Int32) (l2 : Int32) (l3 : Int64) (l5 : Int32) (l6 : Int32) (sc_start : Int32) (sc_end : Int32) (sc_numberRead : Int64) : Option ((Int32) × (Int32) × (Int64)) :=
  f_X2_readNumber_190 l1 l2 l3 l5 l6 (1 : Int32) sc_start sc_end sc_numberRead
set_option maxHeartbeats 4000000 in
set_option maxRecDepth 100000 in
theorem w_X2_readNumber_185 {p : Program} {l : Launch} {e : Env} {s : State} {m : MethodId} {args : Array Value} {below : List Frame} {meth : Method} {c : Code} {E : EnvT} {A : Nat → Prop} {a_sc : Nat → Nat} {a_tp : Nat → Nat} {sc_token : Int32} {sc_escaped : Int32} {sc_bytesBehind : Int32} {tp_bytes : Nat → Int32} {tp_size : Int32} {r : Int32} {o_sc_end : Int32} {o_sc_numberRead : Int64} {l1 : Int32} {l2 : Int32} {l3 : Int64} {l5 : Int32} {l6 : Int32} {sc_start : Int32} {sc_end : Int32} {sc_numberRead : Int64} {H : Heap} {locs : List Loc} {ls : Array Slot} (C : MC p s m args meth c E A cX2_readNumber 8 RX2 (some .int)) (hw : WS E A s (w_sc_tp E a_sc a_tp sc_token sc_start sc_end sc_numberRead sc_escaped sc_bytesBehind tp_bytes tp_size) H locs) (hl : lv_has ls 8 [(0, .ref (a_sc 0)), (1, .int l1), (2, .int l2), (3, .long l3), (5, .int l5), (6, .int l6)]) (hf : f_X2_readNumber_185 l1 l2 l3 l5 l6 sc_start sc_end sc_numberRead = some (r, o_sc_end, o_sc_numberRead)) : W p l e { frames := 1, cells := 0, slots := 0, locals := 21 } s m args below meth c H locs 0 0 (MQ below (QcI E A (w_sc_tp E a_sc a_tp sc_token sc_start o_sc_end o_sc_numberRead sc_escaped sc_bytesBehind tp_bytes tp_size) r) args s 0 0 A) (F0 m 185 ls []) := by
  have hx := C.1
  have hb := C.2.1
  unfold f_X2_readNumber_185 at hf
  refine lv_iconst (v := 1) hx hb dX2_readNumber_185 (by decide) ?_
  refine lv_goto (tgt := 190) hx hb dX2_readNumber_186 (by decide) ?_
  exact w_X2_readNumber_190 C hw (lv_sub hl [0, 1, 2, 3, 4, 5] rfl) hf
def f_X2_readNumber_160 (l1 : Int32) (l2 : Int32) (l3 : Int64) (l5 : Int32) (l6 : Int32) (sc_start : Int32) (sc_end : Int32) (sc_numberRead : Int64) (tp_bytes : Nat → Int32) (tp_size : Int32) : Option ((Int32) × (Int32) × (Int64)) :=
  ob1 (f_X4_at l2 tp_bytes tp_size) (fun x1 =>
  if x1 = (48 : Int32) then (if l1 = (0 : Int32) then (if l6 ≤ (l2 + (1 : Int32)) then (f_X2_readNumber_189 l1 l2 l3 l5 l6 sc_start sc_end sc_numberRead)
  else (f_X2_readNumber_185 l1 l2 l3 l5 l6 sc_start sc_end sc_numberRead))
  else (f_X2_readNumber_185 l1 l2 l3 l5 l6 sc_start sc_end sc_numberRead))
  else (f_X2_readNumber_189 l1 l2 l3 l5 l6 sc_start sc_end sc_numberRead))
set_option maxHeartbeats 4000000 in
set_option maxRecDepth 100000 in
theorem w_X2_readNumber_160 {p : Program} {l : Launch} {e : Env} {s : State} {m : MethodId} {args : Array Value} {below : List Frame} {meth : Method} {c : Code} {E : EnvT} {A : Nat → Prop} {a_sc : Nat → Nat} {a_tp : Nat → Nat} {sc_token : Int32} {sc_escaped : Int32} {sc_bytesBehind : Int32} {r : Int32} {o_sc_end : Int32} {o_sc_numberRead : Int64} {l1 : Int32} {l2 : Int32} {l3 : Int64} {l5 : Int32} {l6 : Int32} {sc_start : Int32} {sc_end : Int32} {sc_numberRead : Int64} {tp_bytes : Nat → Int32} {tp_size : Int32} {H : Heap} {locs : List Loc} {ls : Array Slot} (C : MC p s m args meth c E A cX2_readNumber 8 RX2 (some .int)) (hw : WS E A s (w_sc_tp E a_sc a_tp sc_token sc_start sc_end sc_numberRead sc_escaped sc_bytesBehind tp_bytes tp_size) H locs) (hl : lv_has ls 8 [(0, .ref (a_sc 0)), (1, .int l1), (2, .int l2), (3, .long l3), (5, .int l5), (6, .int l6)]) (hf : f_X2_readNumber_160 l1 l2 l3 l5 l6 sc_start sc_end sc_numberRead tp_bytes tp_size = some (r, o_sc_end, o_sc_numberRead)) : W p l e { frames := 1, cells := 0, slots := 0, locals := 21 } s m args below meth c H locs 0 0 (MQ below (QcI E A (w_sc_tp E a_sc a_tp sc_token sc_start o_sc_end o_sc_numberRead sc_escaped sc_bytesBehind tp_bytes tp_size) r) args s 0 0 A) (F0 m 160 ls []) := by
  have hx := C.1
  have hb := C.2.1
  unfold f_X2_readNumber_160 at hf
  refine lv_aload_n hx hb dX2_readNumber_160 rfl (lv_at hl 0 rfl) ?_
  refine fg_X2_9 C hw 0 rfl rfl dX2_readNumber_161 ?_
  refine lv_iload_n hx hb dX2_readNumber_164 rfl (lv_at hl 2 rfl) ?_
  obtain ⟨x1, z1, hf⟩ := ob1_el hf
  refine cI_V C hw (c_X4_at l E a_tp tp_bytes tp_size l2 x1 z1) cs_X2_30 ⟨Nat.le_of_ble_eq_true rfl, Nat.le_of_ble_eq_true rfl⟩ ⟨rfl, rfl⟩ (ci := 4) (cn := (RX4, TX4, 2)) rfl (q0 := 1) rfl (wn := w_sc_tp E a_sc a_tp sc_token sc_start sc_end sc_numberRead sc_escaped sc_bytesBehind tp_bytes tp_size) ⟨[1, 2], [0], [0, 1, 2], rfl, rfl, rfl, rfl, by decide, rfl, rfl⟩ rfl hl.1 rfl (Nat.le_of_ble_eq_true rfl) dX2_readNumber_165 ⟨Nat.zero_le _, Nat.zero_le _⟩ (fun H locs hw => ?_)
  refine lv_bipush (v := 48) hx hb dX2_readNumber_168 (by decide) ?_
  refine lv_icmp_ne (tgt := 189) hx hb dX2_readNumber_170 (by decide) (fun c170 => ?_) (fun c170 => ?_)
  · replace hf := it_f c170 hf
    exact w_X2_readNumber_189 C hw (lv_sub hl [0, 1, 2, 3, 4, 5] rfl) hf
  · replace hf := it_t c170 hf
    refine lv_iload_n hx hb dX2_readNumber_173 rfl (lv_at hl 1 rfl) ?_
    refine lv_if_ne (tgt := 185) hx hb dX2_readNumber_174 (by decide) (fun c174 => ?_) (fun c174 => ?_)
    · replace hf := it_f c174 hf
      exact w_X2_readNumber_185 C hw (lv_sub hl [0, 1, 2, 3, 4, 5] rfl) hf
    · replace hf := it_t c174 hf
      refine lv_iload hx hb dX2_readNumber_177 (lv_at hl 5 rfl) ?_
      refine lv_iload_n hx hb dX2_readNumber_179 rfl (lv_at hl 2 rfl) ?_
      refine lv_iconst (v := 1) hx hb dX2_readNumber_180 (by decide) ?_
      refine lv_iadd hx hb dX2_readNumber_181 ?_
      refine lv_icmp_le (tgt := 189) hx hb dX2_readNumber_182 (by decide) (fun c182 => ?_) (fun c182 => ?_)
      · replace hf := it_t c182 hf
        exact w_X2_readNumber_189 C hw (lv_sub hl [0, 1, 2, 3, 4, 5] rfl) hf
      · replace hf := it_f c182 hf
        exact w_X2_readNumber_185 C hw (lv_sub hl [0, 1, 2, 3, 4, 5] rfl) hf
def f_X2_readNumber_39 (l1 : Int32) (s0 : Int32) (sc_start : Int32) (sc_end : Int32) (sc_numberRead : Int64) (tp_bytes : Nat → Int32) (tp_size : Int32) : Option ((Int32) × (Int32) × (Int64)) :=
  if s0 < tp_size then (ob3 (f_X2_readNumber_67 FU (0 : Int64) (1 : Int32) s0 tp_bytes tp_size) (fun x1 x2 x3 =>
  f_X2_readNumber_160 l1 s0 x1 x2 x3 sc_start sc_end sc_numberRead tp_bytes tp_size))
  else (some (tp_size, sc_end, sc_numberRead))
set_option maxHeartbeats 4000000 in
set_option maxRecDepth 100000 in
theorem w_X2_readNumber_39 {p : Program} {l : Launch} {e : Env} {s : State} {m : MethodId} {args : Array Value} {below : List Frame} {meth : Method} {c : Code} {E : EnvT} {A : Nat → Prop} {a_sc : Nat → Nat} {a_tp : Nat → Nat} {sc_token : Int32} {sc_escaped : Int32} {sc_bytesBehind : Int32} {r : Int32} {o_sc_end : Int32} {o_sc_numberRead : Int64} {l1 : Int32} {s0 : Int32} {sc_start : Int32} {sc_end : Int32} {sc_numberRead : Int64} {tp_bytes : Nat → Int32} {tp_size : Int32} {H : Heap} {locs : List Loc} {ls : Array Slot} (C : MC p s m args meth c E A cX2_readNumber 8 RX2 (some .int)) (hw : WS E A s (w_sc_tp E a_sc a_tp sc_token sc_start sc_end sc_numberRead sc_escaped sc_bytesBehind tp_bytes tp_size) H locs) (hl : lv_has ls 8 [(0, .ref (a_sc 0)), (1, .int l1)]) (hf : f_X2_readNumber_39 l1 s0 sc_start sc_end sc_numberRead tp_bytes tp_size = some (r, o_sc_end, o_sc_numberRead)) : W p l e { frames := 1, cells := 0, slots := 0, locals := 21 } s m args below meth c H locs 0 0 (MQ below (QcI E A (w_sc_tp E a_sc a_tp sc_token sc_start o_sc_end o_sc_numberRead sc_escaped sc_bytesBehind tp_bytes tp_size) r) args s 0 0 A) (F0 m 39 ls [.int s0]) := by
  have hx := C.1
  have hb := C.2.1
  unfold f_X2_readNumber_39 at hf
  refine lv_istore_n (lv' := [(2, .int s0), (0, .ref (a_sc 0)), (1, .int l1)]) hx hb dX2_readNumber_39 rfl hl (by decide) rfl (fun ls hl => ?_)
  refine lv_iload_n hx hb dX2_readNumber_40 rfl (lv_at hl 0 rfl) ?_
  refine lv_aload_n hx hb dX2_readNumber_41 rfl (lv_at hl 1 rfl) ?_
  refine fg_X2_9 C hw 0 rfl rfl dX2_readNumber_42 ?_
  refine fg_X2_25 C hw 1 rfl rfl dX2_readNumber_45 ?_
  refine lv_icmp_lt (tgt := 59) hx hb dX2_readNumber_48 (by decide) (fun c48 => ?_) (fun c48 => ?_)
  · replace hf := it_t c48 hf
    refine lv_lconst (v := 0) hx hb dX2_readNumber_59 (by decide) ?_
    refine lv_lstore_n (lv' := [(3, .long (0 : Int64)), (2, .int s0), (0, .ref (a_sc 0)), (1, .int l1)]) hx hb dX2_readNumber_60 rfl hl (by decide) rfl (fun ls hl => ?_)
    refine lv_iconst (v := 1) hx hb dX2_readNumber_61 (by decide) ?_
    refine lv_istore (lv' := [(5, .int (1 : Int32)), (3, .long (0 : Int64)), (2, .int s0), (0, .ref (a_sc 0)), (1, .int l1)]) hx hb dX2_readNumber_62 hl (by decide) rfl (fun ls hl => ?_)
    refine lv_iload_n hx hb dX2_readNumber_64 rfl (lv_at hl 2 rfl) ?_
    refine lv_istore (lv' := [(6, .int s0), (5, .int (1 : Int32)), (3, .long (0 : Int64)), (2, .int s0), (0, .ref (a_sc 0)), (1, .int l1)]) hx hb dX2_readNumber_65 hl (by decide) rfl (fun ls hl => ?_)
    obtain ⟨x1, x2, x3, hx1, hf⟩ := ob3_el hf
    refine w_X2_readNumber_67 C FU hw (lv_sub hl [4, 5, 3, 2, 1, 0] rfl) hx1 ?_
    clear hw hl
    intro H locs ls hw hl
    exact w_X2_readNumber_160 C hw (lv_sub hl [0, 1, 2, 3, 4, 5] rfl) hf
  · replace hf := it_f c48 hf
    refine lv_aload_n hx hb dX2_readNumber_51 rfl (lv_at hl 1 rfl) ?_
    refine fg_X2_9 C hw 0 rfl rfl dX2_readNumber_52 ?_
    refine fg_X2_25 C hw 1 rfl rfl dX2_readNumber_55 ?_
    cases hf
    exact rt_i C hw dX2_readNumber_58
def f_X2_readNumber_21 (s0 : Int32) (sc_start : Int32) (sc_end : Int32) (sc_numberRead : Int64) (tp_bytes : Nat → Int32) (tp_size : Int32) : Option ((Int32) × (Int32) × (Int64)) :=
  if s0 = (0 : Int32) then (f_X2_readNumber_39 s0 sc_start sc_start sc_end sc_numberRead tp_bytes tp_size)
  else (f_X2_readNumber_39 s0 (sc_start + (1 : Int32)) sc_start sc_end sc_numberRead tp_bytes tp_size)
set_option maxHeartbeats 4000000 in
set_option maxRecDepth 100000 in
theorem w_X2_readNumber_21 {p : Program} {l : Launch} {e : Env} {s : State} {m : MethodId} {args : Array Value} {below : List Frame} {meth : Method} {c : Code} {E : EnvT} {A : Nat → Prop} {a_sc : Nat → Nat} {a_tp : Nat → Nat} {sc_token : Int32} {sc_escaped : Int32} {sc_bytesBehind : Int32} {r : Int32} {o_sc_end : Int32} {o_sc_numberRead : Int64} {s0 : Int32} {sc_start : Int32} {sc_end : Int32} {sc_numberRead : Int64} {tp_bytes : Nat → Int32} {tp_size : Int32} {H : Heap} {locs : List Loc} {ls : Array Slot} (C : MC p s m args meth c E A cX2_readNumber 8 RX2 (some .int)) (hw : WS E A s (w_sc_tp E a_sc a_tp sc_token sc_start sc_end sc_numberRead sc_escaped sc_bytesBehind tp_bytes tp_size) H locs) (hl : lv_has ls 8 [(0, .ref (a_sc 0))]) (hf : f_X2_readNumber_21 s0 sc_start sc_end sc_numberRead tp_bytes tp_size = some (r, o_sc_end, o_sc_numberRead)) : W p l e { frames := 1, cells := 0, slots := 0, locals := 21 } s m args below meth c H locs 0 0 (MQ below (QcI E A (w_sc_tp E a_sc a_tp sc_token sc_start o_sc_end o_sc_numberRead sc_escaped sc_bytesBehind tp_bytes tp_size) r) args s 0 0 A) (F0 m 21 ls [.int s0]) := by
  have hx := C.1
  have hb := C.2.1
  unfold f_X2_readNumber_21 at hf
  refine lv_istore_n (lv' := [(1, .int s0), (0, .ref (a_sc 0))]) hx hb dX2_readNumber_21 rfl hl (by decide) rfl (fun ls hl => ?_)
  refine lv_iload_n hx hb dX2_readNumber_22 rfl (lv_at hl 0 rfl) ?_
  refine lv_if_eq (tgt := 35) hx hb dX2_readNumber_23 (by decide) (fun c23 => ?_) (fun c23 => ?_)
  · replace hf := it_t c23 hf
    refine lv_aload_n hx hb dX2_readNumber_35 rfl (lv_at hl 1 rfl) ?_
    refine fg_X2_22 C hw 0 rfl rfl dX2_readNumber_36 ?_
    exact w_X2_readNumber_39 C hw (lv_sub hl [1, 0] rfl) hf
  · replace hf := it_f c23 hf
    refine lv_aload_n hx hb dX2_readNumber_26 rfl (lv_at hl 1 rfl) ?_
    refine fg_X2_22 C hw 0 rfl rfl dX2_readNumber_27 ?_
    refine lv_iconst (v := 1) hx hb dX2_readNumber_30 (by decide) ?_
    refine lv_iadd hx hb dX2_readNumber_31 ?_
    refine lv_goto (tgt := 39) hx hb dX2_readNumber_32 (by decide) ?_
    exact w_X2_readNumber_39 C hw (lv_sub hl [1, 0] rfl) hf
def f_X2_readNumber (sc_start : Int32) (sc_end : Int32) (sc_numberRead : Int64) (tp_bytes : Nat → Int32) (tp_size : Int32) : Option ((Int32) × (Int32) × (Int64)) :=
  ob1 (f_X4_at sc_start tp_bytes tp_size) (fun x1 =>
  if x1 = (45 : Int32) then (f_X2_readNumber_21 (1 : Int32) sc_start sc_end sc_numberRead tp_bytes tp_size)
  else (f_X2_readNumber_21 (0 : Int32) sc_start sc_end sc_numberRead tp_bytes tp_size))
set_option maxHeartbeats 4000000 in
set_option maxRecDepth 100000 in
theorem c_X2_readNumber (l : Launch) (E : EnvT) (a_sc : Nat → Nat) (a_tp : Nat → Nat) (sc_token : Int32) (sc_start : Int32) (sc_end : Int32) (sc_numberRead : Int64) (sc_escaped : Int32) (sc_bytesBehind : Int32) (tp_bytes : Nat → Int32) (tp_size : Int32) (r : Int32) (o_sc_end : Int32) (o_sc_numberRead : Int64) (hf : f_X2_readNumber sc_start sc_end sc_numberRead tp_bytes tp_size = some (r, o_sc_end, o_sc_numberRead)) : CI l yX2_readNumber (Cond.code yX2_readNumber cX2_readNumber 8 (some .int)) { frames := 1, cells := 0, slots := 0, locals := 21 } E [.ref (a_sc 0)] (w_sc_tp E a_sc a_tp sc_token sc_start sc_end sc_numberRead sc_escaped sc_bytesBehind tp_bytes tp_size) r (w_sc_tp E a_sc a_tp sc_token sc_start o_sc_end o_sc_numberRead sc_escaped sc_bytesBehind tp_bytes tp_size) := by
  intro sz
  refine met_start [(0, .ref (a_sc 0))] (by decide) rfl rfl (Nat.le_of_ble_eq_true rfl) rfl ?_
  intro p e s m below meth c ls C hnm hmt hw hl
  have hx := C.1
  have hb := C.2.1
  generalize va_A (w_sc_tp E a_sc a_tp sc_token sc_start sc_end sc_numberRead sc_escaped sc_bytesBehind tp_bytes tp_size) sz = A at C hw ⊢
  unfold f_X2_readNumber at hf
  refine lv_aload_n hx hb dX2_readNumber_0 rfl (lv_at hl 0 rfl) ?_
  refine fg_X2_9 C hw 0 rfl rfl dX2_readNumber_1 ?_
  refine lv_aload_n hx hb dX2_readNumber_4 rfl (lv_at hl 0 rfl) ?_
  refine fg_X2_22 C hw 0 rfl rfl dX2_readNumber_5 ?_
  obtain ⟨x1, z1, hf⟩ := ob1_el hf
  refine cI_V C hw (c_X4_at l E a_tp tp_bytes tp_size sc_start x1 z1) cs_X2_30 ⟨Nat.le_of_ble_eq_true rfl, Nat.le_of_ble_eq_true rfl⟩ ⟨rfl, rfl⟩ (ci := 4) (cn := (RX4, TX4, 2)) rfl (q0 := 1) rfl (wn := w_sc_tp E a_sc a_tp sc_token sc_start sc_end sc_numberRead sc_escaped sc_bytesBehind tp_bytes tp_size) ⟨[1, 2], [0], [0, 1, 2], rfl, rfl, rfl, rfl, by decide, rfl, rfl⟩ rfl hl.1 rfl (Nat.le_of_ble_eq_true rfl) dX2_readNumber_8 ⟨Nat.zero_le _, Nat.zero_le _⟩ (fun H locs hw => ?_)
  refine lv_bipush (v := 45) hx hb dX2_readNumber_11 (by decide) ?_
  refine lv_icmp_ne (tgt := 20) hx hb dX2_readNumber_13 (by decide) (fun c13 => ?_) (fun c13 => ?_)
  · replace hf := it_f c13 hf
    refine lv_iconst (v := 0) hx hb dX2_readNumber_20 (by decide) ?_
    exact w_X2_readNumber_21 C hw (lv_sub hl [0] rfl) hf
  · replace hf := it_t c13 hf
    refine lv_iconst (v := 1) hx hb dX2_readNumber_16 (by decide) ?_
    refine lv_goto (tgt := 21) hx hb dX2_readNumber_17 (by decide) ?_
    exact w_X2_readNumber_21 C hw (lv_sub hl [0] rfl) hf
def f_X2_readEscape (p1 : Int32) (sc_escaped : Int32) (sc_bytesBehind : Int32) (tp_bytes : Nat → Int32) (tp_size : Int32) : Option ((Int32) × (Int32) × (Int32)) :=
  ob1 (f_X4_at (p1 + (1 : Int32)) tp_bytes tp_size) (fun x1 =>
  if x1 = (39 : Int32) then (some ((-1 : Int32), x1, (1 : Int32)))
  else (if x1 = (92 : Int32) then (some ((-1 : Int32), x1, (1 : Int32)))
  else (if x1 = (120 : Int32) then (ob1 (f_X4_at (p1 + (2 : Int32)) tp_bytes tp_size) (fun x2 =>
  ob1 (f_X5_hexValue x2) (fun x3 =>
  ob1 (f_X4_at (p1 + (3 : Int32)) tp_bytes tp_size) (fun x4 =>
  ob1 (f_X5_hexValue x4) (fun x5 =>
  if x3 = (-1 : Int32) then (if tp_size ≤ (p1 + (2 : Int32)) then (some (tp_size, sc_escaped, sc_bytesBehind))
  else (some (p1, sc_escaped, sc_bytesBehind)))
  else (if x5 = (-1 : Int32) then (if tp_size ≤ (p1 + (3 : Int32)) then (some (tp_size, sc_escaped, sc_bytesBehind))
  else (some (p1, sc_escaped, sc_bytesBehind)))
  else (on ((x3 * (16 : Int32)) + x5) (fun x6 =>
  some ((-1 : Int32), x6, (3 : Int32))))))))))
  else (if x1 = (-1 : Int32) then (some (tp_size, sc_escaped, sc_bytesBehind))
  else (some (p1, sc_escaped, sc_bytesBehind))))))
set_option maxHeartbeats 4000000 in
set_option maxRecDepth 100000 in
theorem c_X2_readEscape (l : Launch) (E : EnvT) (a_sc : Nat → Nat) (a_tp : Nat → Nat) (sc_token : Int32) (sc_start : Int32) (sc_end : Int32) (sc_numberRead : Int64) (sc_escaped : Int32) (sc_bytesBehind : Int32) (tp_bytes : Nat → Int32) (tp_size : Int32) (p1 : Int32) (r : Int32) (o_sc_escaped : Int32) (o_sc_bytesBehind : Int32) (hf : f_X2_readEscape p1 sc_escaped sc_bytesBehind tp_bytes tp_size = some (r, o_sc_escaped, o_sc_bytesBehind)) : CI l yX2_readEscape (Cond.code yX2_readEscape cX2_readEscape 5 (some .int)) { frames := 1, cells := 0, slots := 0, locals := 21 } E [.ref (a_sc 0), .int p1] (w_sc_tp E a_sc a_tp sc_token sc_start sc_end sc_numberRead sc_escaped sc_bytesBehind tp_bytes tp_size) r (w_sc_tp E a_sc a_tp sc_token sc_start sc_end sc_numberRead o_sc_escaped o_sc_bytesBehind tp_bytes tp_size) := by
  intro sz
  refine met_start [(0, .ref (a_sc 0)), (1, .int p1)] (by decide) rfl rfl (Nat.le_of_ble_eq_true rfl) rfl ?_
  intro p e s m below meth c ls C hnm hmt hw hl
  have hx := C.1
  have hb := C.2.1
  generalize va_A (w_sc_tp E a_sc a_tp sc_token sc_start sc_end sc_numberRead sc_escaped sc_bytesBehind tp_bytes tp_size) sz = A at C hw ⊢
  unfold f_X2_readEscape at hf
  refine lv_aload_n hx hb dX2_readEscape_0 rfl (lv_at hl 0 rfl) ?_
  refine fg_X2_9 C hw 0 rfl rfl dX2_readEscape_1 ?_
  refine lv_iload_n hx hb dX2_readEscape_4 rfl (lv_at hl 1 rfl) ?_
  refine lv_iconst (v := 1) hx hb dX2_readEscape_5 (by decide) ?_
  refine lv_iadd hx hb dX2_readEscape_6 ?_
  obtain ⟨x1, z1, hf⟩ := ob1_el hf
  refine cI_V C hw (c_X4_at l E a_tp tp_bytes tp_size (p1 + (1 : Int32)) x1 z1) cs_X2_30 ⟨Nat.le_of_ble_eq_true rfl, Nat.le_of_ble_eq_true rfl⟩ ⟨rfl, rfl⟩ (ci := 4) (cn := (RX4, TX4, 2)) rfl (q0 := 1) rfl (wn := w_sc_tp E a_sc a_tp sc_token sc_start sc_end sc_numberRead sc_escaped sc_bytesBehind tp_bytes tp_size) ⟨[1, 2], [0], [0, 1, 2], rfl, rfl, rfl, rfl, by decide, rfl, rfl⟩ rfl hl.1 rfl (Nat.le_of_ble_eq_true rfl) dX2_readEscape_7 ⟨Nat.zero_le _, Nat.zero_le _⟩ (fun H locs hw => ?_)
  refine lv_istore_n (lv' := [(2, .int x1), (0, .ref (a_sc 0)), (1, .int p1)]) hx hb dX2_readEscape_10 rfl hl (by decide) rfl (fun ls hl => ?_)
  refine lv_iload_n hx hb dX2_readEscape_11 rfl (lv_at hl 0 rfl) ?_
  refine lv_bipush (v := 39) hx hb dX2_readEscape_12 (by decide) ?_
  refine lv_icmp_eq (tgt := 23) hx hb dX2_readEscape_14 (by decide) (fun c14 => ?_) (fun c14 => ?_)
  · replace hf := it_t c14 hf
    refine lv_aload_n hx hb dX2_readEscape_23 rfl (lv_at hl 1 rfl) ?_
    refine lv_iload_n hx hb dX2_readEscape_24 rfl (lv_at hl 0 rfl) ?_
    refine fp_X2_85 C hw 0 rfl (Nat.le_of_ble_eq_true rfl) (ws' := w_sc_tp E a_sc a_tp sc_token sc_start sc_end sc_numberRead x1 sc_bytesBehind tp_bytes tp_size) rfl dX2_readEscape_25 (fun H locs hw => ?_)
    refine lv_aload_n hx hb dX2_readEscape_28 rfl (lv_at hl 1 rfl) ?_
    refine lv_iconst (v := 1) hx hb dX2_readEscape_29 (by decide) ?_
    refine fp_X2_88 C hw 0 rfl (Nat.le_of_ble_eq_true rfl) (ws' := w_sc_tp E a_sc a_tp sc_token sc_start sc_end sc_numberRead x1 (1 : Int32) tp_bytes tp_size) rfl dX2_readEscape_30 (fun H locs hw => ?_)
    refine lv_iconst (v := -1) hx hb dX2_readEscape_33 (by decide) ?_
    cases hf
    exact rt_i C hw dX2_readEscape_34
  · replace hf := it_f c14 hf
    refine lv_iload_n hx hb dX2_readEscape_17 rfl (lv_at hl 0 rfl) ?_
    refine lv_bipush (v := 92) hx hb dX2_readEscape_18 (by decide) ?_
    refine lv_icmp_ne (tgt := 35) hx hb dX2_readEscape_20 (by decide) (fun c20 => ?_) (fun c20 => ?_)
    · replace hf := it_f c20 hf
      refine lv_iload_n hx hb dX2_readEscape_35 rfl (lv_at hl 0 rfl) ?_
      refine lv_bipush (v := 120) hx hb dX2_readEscape_36 (by decide) ?_
      refine lv_icmp_eq (tgt := 58) hx hb dX2_readEscape_38 (by decide) (fun c38 => ?_) (fun c38 => ?_)
      · replace hf := it_t c38 hf
        refine lv_aload_n hx hb dX2_readEscape_58 rfl (lv_at hl 1 rfl) ?_
        refine fg_X2_9 C hw 0 rfl rfl dX2_readEscape_59 ?_
        refine lv_iload_n hx hb dX2_readEscape_62 rfl (lv_at hl 2 rfl) ?_
        refine lv_iconst (v := 2) hx hb dX2_readEscape_63 (by decide) ?_
        refine lv_iadd hx hb dX2_readEscape_64 ?_
        obtain ⟨x2, z2, hf⟩ := ob1_el hf
        refine cI_V C hw (c_X4_at l E a_tp tp_bytes tp_size (p1 + (2 : Int32)) x2 z2) cs_X2_30 ⟨Nat.le_of_ble_eq_true rfl, Nat.le_of_ble_eq_true rfl⟩ ⟨rfl, rfl⟩ (ci := 4) (cn := (RX4, TX4, 2)) rfl (q0 := 1) rfl (wn := w_sc_tp E a_sc a_tp sc_token sc_start sc_end sc_numberRead sc_escaped sc_bytesBehind tp_bytes tp_size) ⟨[1, 2], [0], [0, 1, 2], rfl, rfl, rfl, rfl, by decide, rfl, rfl⟩ rfl hl.1 rfl (Nat.le_of_ble_eq_true rfl) dX2_readEscape_65 ⟨Nat.zero_le _, Nat.zero_le _⟩ (fun H locs hw => ?_)
        obtain ⟨x3, z3, hf⟩ := ob1_el hf
        refine cI_N C hw (c_X5_hexValue l E x2 x3 z3) cs_X2_97 ⟨Nat.le_of_ble_eq_true rfl, Nat.le_of_ble_eq_true rfl⟩ ⟨rfl, rfl⟩ (wn := w_sc_tp E a_sc a_tp sc_token sc_start sc_end sc_numberRead sc_escaped sc_bytesBehind tp_bytes tp_size) (Jn.none _) rfl hl.1 rfl (Nat.le_of_ble_eq_true rfl) dX2_readEscape_68 ⟨Nat.zero_le _, Nat.zero_le _⟩ (fun H locs hw => ?_)
        refine lv_istore_n (lv' := [(3, .int x3), (2, .int x1), (0, .ref (a_sc 0)), (1, .int p1)]) hx hb dX2_readEscape_71 rfl hl (by decide) rfl (fun ls hl => ?_)
        refine lv_aload_n hx hb dX2_readEscape_72 rfl (lv_at hl 2 rfl) ?_
        refine fg_X2_9 C hw 0 rfl rfl dX2_readEscape_73 ?_
        refine lv_iload_n hx hb dX2_readEscape_76 rfl (lv_at hl 3 rfl) ?_
        refine lv_iconst (v := 3) hx hb dX2_readEscape_77 (by decide) ?_
        refine lv_iadd hx hb dX2_readEscape_78 ?_
        obtain ⟨x4, z4, hf⟩ := ob1_el hf
        refine cI_V C hw (c_X4_at l E a_tp tp_bytes tp_size (p1 + (3 : Int32)) x4 z4) cs_X2_30 ⟨Nat.le_of_ble_eq_true rfl, Nat.le_of_ble_eq_true rfl⟩ ⟨rfl, rfl⟩ (ci := 4) (cn := (RX4, TX4, 2)) rfl (q0 := 1) rfl (wn := w_sc_tp E a_sc a_tp sc_token sc_start sc_end sc_numberRead sc_escaped sc_bytesBehind tp_bytes tp_size) ⟨[1, 2], [0], [0, 1, 2], rfl, rfl, rfl, rfl, by decide, rfl, rfl⟩ rfl hl.1 rfl (Nat.le_of_ble_eq_true rfl) dX2_readEscape_79 ⟨Nat.zero_le _, Nat.zero_le _⟩ (fun H locs hw => ?_)
        obtain ⟨x5, z5, hf⟩ := ob1_el hf
        refine cI_N C hw (c_X5_hexValue l E x4 x5 z5) cs_X2_97 ⟨Nat.le_of_ble_eq_true rfl, Nat.le_of_ble_eq_true rfl⟩ ⟨rfl, rfl⟩ (wn := w_sc_tp E a_sc a_tp sc_token sc_start sc_end sc_numberRead sc_escaped sc_bytesBehind tp_bytes tp_size) (Jn.none _) rfl hl.1 rfl (Nat.le_of_ble_eq_true rfl) dX2_readEscape_82 ⟨Nat.zero_le _, Nat.zero_le _⟩ (fun H locs hw => ?_)
        refine lv_istore (lv' := [(4, .int x5), (3, .int x3), (2, .int x1), (0, .ref (a_sc 0)), (1, .int p1)]) hx hb dX2_readEscape_85 hl (by decide) rfl (fun ls hl => ?_)
        refine lv_iload_n hx hb dX2_readEscape_87 rfl (lv_at hl 1 rfl) ?_
        refine lv_iconst (v := -1) hx hb dX2_readEscape_88 (by decide) ?_
        refine lv_icmp_ne (tgt := 117) hx hb dX2_readEscape_89 (by decide) (fun c89 => ?_) (fun c89 => ?_)
        · replace hf := it_f c89 hf
          refine lv_iload hx hb dX2_readEscape_117 (lv_at hl 0 rfl) ?_
          refine lv_iconst (v := -1) hx hb dX2_readEscape_119 (by decide) ?_
          refine lv_icmp_ne (tgt := 148) hx hb dX2_readEscape_120 (by decide) (fun c120 => ?_) (fun c120 => ?_)
          · replace hf := it_f c120 hf
            refine lv_aload_n hx hb dX2_readEscape_148 rfl (lv_at hl 3 rfl) ?_
            refine lv_iload_n hx hb dX2_readEscape_149 rfl (lv_at hl 1 rfl) ?_
            refine lv_bipush (v := 16) hx hb dX2_readEscape_150 (by decide) ?_
            refine lv_imul hx hb dX2_readEscape_152 ?_
            refine lv_iload hx hb dX2_readEscape_153 (lv_at hl 0 rfl) ?_
            refine lv_iadd hx hb dX2_readEscape_155 ?_
            obtain ⟨x6, ex6, hf⟩ := on_el hf
            refine tp_i ex6 ?_
            refine fp_X2_85 C hw 0 rfl (Nat.le_of_ble_eq_true rfl) (ws' := w_sc_tp E a_sc a_tp sc_token sc_start sc_end sc_numberRead x6 sc_bytesBehind tp_bytes tp_size) rfl dX2_readEscape_156 (fun H locs hw => ?_)
            refine lv_aload_n hx hb dX2_readEscape_159 rfl (lv_at hl 3 rfl) ?_
            refine lv_iconst (v := 3) hx hb dX2_readEscape_160 (by decide) ?_
            refine fp_X2_88 C hw 0 rfl (Nat.le_of_ble_eq_true rfl) (ws' := w_sc_tp E a_sc a_tp sc_token sc_start sc_end sc_numberRead x6 (3 : Int32) tp_bytes tp_size) rfl dX2_readEscape_161 (fun H locs hw => ?_)
            refine lv_iconst (v := -1) hx hb dX2_readEscape_164 (by decide) ?_
            cases hf
            exact rt_i C hw dX2_readEscape_165
          · replace hf := it_t c120 hf
            refine lv_iload_n hx hb dX2_readEscape_123 rfl (lv_at hl 4 rfl) ?_
            refine lv_iconst (v := 3) hx hb dX2_readEscape_124 (by decide) ?_
            refine lv_iadd hx hb dX2_readEscape_125 ?_
            refine lv_aload_n hx hb dX2_readEscape_126 rfl (lv_at hl 3 rfl) ?_
            refine fg_X2_9 C hw 0 rfl rfl dX2_readEscape_127 ?_
            refine fg_X2_25 C hw 1 rfl rfl dX2_readEscape_130 ?_
            refine lv_icmp_ge (tgt := 140) hx hb dX2_readEscape_133 (by decide) (fun c133 => ?_) (fun c133 => ?_)
            · replace hf := it_t c133 hf
              refine lv_aload_n hx hb dX2_readEscape_140 rfl (lv_at hl 3 rfl) ?_
              refine fg_X2_9 C hw 0 rfl rfl dX2_readEscape_141 ?_
              refine fg_X2_25 C hw 1 rfl rfl dX2_readEscape_144 ?_
              cases hf
              exact rt_i C hw dX2_readEscape_147
            · replace hf := it_f c133 hf
              refine lv_iload_n hx hb dX2_readEscape_136 rfl (lv_at hl 4 rfl) ?_
              refine lv_goto (tgt := 147) hx hb dX2_readEscape_137 (by decide) ?_
              cases hf
              exact rt_i C hw dX2_readEscape_147
        · replace hf := it_t c89 hf
          refine lv_iload_n hx hb dX2_readEscape_92 rfl (lv_at hl 4 rfl) ?_
          refine lv_iconst (v := 2) hx hb dX2_readEscape_93 (by decide) ?_
          refine lv_iadd hx hb dX2_readEscape_94 ?_
          refine lv_aload_n hx hb dX2_readEscape_95 rfl (lv_at hl 3 rfl) ?_
          refine fg_X2_9 C hw 0 rfl rfl dX2_readEscape_96 ?_
          refine fg_X2_25 C hw 1 rfl rfl dX2_readEscape_99 ?_
          refine lv_icmp_ge (tgt := 109) hx hb dX2_readEscape_102 (by decide) (fun c102 => ?_) (fun c102 => ?_)
          · replace hf := it_t c102 hf
            refine lv_aload_n hx hb dX2_readEscape_109 rfl (lv_at hl 3 rfl) ?_
            refine fg_X2_9 C hw 0 rfl rfl dX2_readEscape_110 ?_
            refine fg_X2_25 C hw 1 rfl rfl dX2_readEscape_113 ?_
            cases hf
            exact rt_i C hw dX2_readEscape_116
          · replace hf := it_f c102 hf
            refine lv_iload_n hx hb dX2_readEscape_105 rfl (lv_at hl 4 rfl) ?_
            refine lv_goto (tgt := 116) hx hb dX2_readEscape_106 (by decide) ?_
            cases hf
            exact rt_i C hw dX2_readEscape_116
      · replace hf := it_f c38 hf
        refine lv_iload_n hx hb dX2_readEscape_41 rfl (lv_at hl 0 rfl) ?_
        refine lv_iconst (v := -1) hx hb dX2_readEscape_42 (by decide) ?_
        refine lv_icmp_ne (tgt := 56) hx hb dX2_readEscape_43 (by decide) (fun c43 => ?_) (fun c43 => ?_)
        · replace hf := it_f c43 hf
          refine lv_iload_n hx hb dX2_readEscape_56 rfl (lv_at hl 2 rfl) ?_
          cases hf
          exact rt_i C hw dX2_readEscape_57
        · replace hf := it_t c43 hf
          refine lv_aload_n hx hb dX2_readEscape_46 rfl (lv_at hl 1 rfl) ?_
          refine fg_X2_9 C hw 0 rfl rfl dX2_readEscape_47 ?_
          refine fg_X2_25 C hw 1 rfl rfl dX2_readEscape_50 ?_
          refine lv_goto (tgt := 57) hx hb dX2_readEscape_53 (by decide) ?_
          cases hf
          exact rt_i C hw dX2_readEscape_57
    · replace hf := it_t c20 hf
      refine lv_aload_n hx hb dX2_readEscape_23 rfl (lv_at hl 1 rfl) ?_
      refine lv_iload_n hx hb dX2_readEscape_24 rfl (lv_at hl 0 rfl) ?_
      refine fp_X2_85 C hw 0 rfl (Nat.le_of_ble_eq_true rfl) (ws' := w_sc_tp E a_sc a_tp sc_token sc_start sc_end sc_numberRead x1 sc_bytesBehind tp_bytes tp_size) rfl dX2_readEscape_25 (fun H locs hw => ?_)
      refine lv_aload_n hx hb dX2_readEscape_28 rfl (lv_at hl 1 rfl) ?_
      refine lv_iconst (v := 1) hx hb dX2_readEscape_29 (by decide) ?_
      refine fp_X2_88 C hw 0 rfl (Nat.le_of_ble_eq_true rfl) (ws' := w_sc_tp E a_sc a_tp sc_token sc_start sc_end sc_numberRead x1 (1 : Int32) tp_bytes tp_size) rfl dX2_readEscape_30 (fun H locs hw => ?_)
      refine lv_iconst (v := -1) hx hb dX2_readEscape_33 (by decide) ?_
      cases hf
      exact rt_i C hw dX2_readEscape_34
def f_X2_readText_9 : Nat → (Int32) → (Int32) → (Int32) → (Int32) → (Int32) → (Nat → Int32) → (Int32) → (Nat → Int32) → (Int32) → Option ((Int32) × (Int32) × (Int32) × (Int32) × (Nat → Int32) × (Int32))
  | 0, _, _, _, _, _, _, _, _, _ => none
  | n + 1, l2, l3, sc_end, sc_escaped, sc_bytesBehind, tp_bytes, tp_size, pl_textBytes, pl_textEnd =>
  if tp_size ≤ l3 then (some (tp_size, sc_end, sc_escaped, sc_bytesBehind, pl_textBytes, pl_textEnd))
  else (ob1 (f_X4_at l3 tp_bytes tp_size) (fun x1 =>
  if x1 = (39 : Int32) then (on (l3 + (1 : Int32)) (fun x14 =>
  some ((-1 : Int32), x14, sc_escaped, sc_bytesBehind, pl_textBytes, pl_textEnd)))
  else (if (255 : Int32) ≤ l2 then (some (l3, sc_end, sc_escaped, sc_bytesBehind, pl_textBytes, pl_textEnd))
  else (if x1 < (32 : Int32) then (some (l3, sc_end, sc_escaped, sc_bytesBehind, pl_textBytes, pl_textEnd))
  else (if x1 ≤ (126 : Int32) then (if x1 = (92 : Int32) then (ob3 (f_X2_readEscape l3 sc_escaped sc_bytesBehind tp_bytes tp_size) (fun x6 x7 x8 =>
  if x6 = (-1 : Int32) then (on (l3 + x8) (fun x9 =>
  ob2 (f_X1_addTextByte x7 pl_textBytes pl_textEnd) (fun x10 x11 =>
  on (l2 + (1 : Int32)) (fun x12 =>
  on (x9 + (1 : Int32)) (fun x13 =>
  f_X2_readText_9 n x12 x13 sc_end x7 x8 tp_bytes tp_size x10 x11)))))
  else (some (x6, sc_end, x7, x8, pl_textBytes, pl_textEnd))))
  else (ob2 (f_X1_addTextByte x1 pl_textBytes pl_textEnd) (fun x2 x3 =>
  on (l2 + (1 : Int32)) (fun x4 =>
  on (l3 + (1 : Int32)) (fun x5 =>
  f_X2_readText_9 n x4 x5 sc_end sc_escaped sc_bytesBehind tp_bytes tp_size x2 x3)))))
  else (some (l3, sc_end, sc_escaped, sc_bytesBehind, pl_textBytes, pl_textEnd)))))))
set_option maxHeartbeats 4000000 in
set_option maxRecDepth 100000 in
theorem w_X2_readText_9 {p : Program} {l : Launch} {e : Env} {s : State} {m : MethodId} {args : Array Value} {below : List Frame} {meth : Method} {c : Code} {E : EnvT} {A : Nat → Prop} {a_sc : Nat → Nat} {a_tp : Nat → Nat} {a_pl : Nat → Nat} {sc_token : Int32} {sc_start : Int32} {sc_numberRead : Int64} {pl_items : Nat → Int32} {pl_behindBy : Nat → Int32} {pl_steps : Nat → Int32} {pl_literalTypes : Nat → Int32} {pl_numbers : Nat → Int64} {pl_textStarts : Nat → Int32} {pl_textLengths : Nat → Int32} {pl_itemCount : Int32} {pl_byCount : Int32} {pl_stepCount : Int32} {pl_literalCount : Int32} {r : Int32} {o_sc_end : Int32} {o_sc_escaped : Int32} {o_sc_bytesBehind : Int32} {o_pl_textBytes : Nat → Int32} {o_pl_textEnd : Int32} (C : MC p s m args meth c E A cX2_readText 6 RX2 (some .int)) : ∀ (n : Nat) {l2 : Int32} {l3 : Int32} {sc_end : Int32} {sc_escaped : Int32} {sc_bytesBehind : Int32} {tp_bytes : Nat → Int32} {tp_size : Int32} {pl_textBytes : Nat → Int32} {pl_textEnd : Int32} {H : Heap} {locs : List Loc} {ls : Array Slot}, WS E A s (w_sc_tp_pl E a_sc a_tp a_pl sc_token sc_start sc_end sc_numberRead sc_escaped sc_bytesBehind tp_bytes tp_size pl_items pl_behindBy pl_steps pl_literalTypes pl_numbers pl_textStarts pl_textLengths pl_textBytes pl_itemCount pl_byCount pl_stepCount pl_literalCount pl_textEnd) H locs → lv_has ls 6 [(0, .ref (a_sc 0)), (1, .ref (a_pl 0)), (2, .int l2), (3, .int l3)] → f_X2_readText_9 n l2 l3 sc_end sc_escaped sc_bytesBehind tp_bytes tp_size pl_textBytes pl_textEnd = some (r, o_sc_end, o_sc_escaped, o_sc_bytesBehind, o_pl_textBytes, o_pl_textEnd) → W p l e { frames := 2, cells := 0, slots := 0, locals := 45 } s m args below meth c H locs 0 0 (MQ below (QcI E A (w_sc_tp_pl E a_sc a_tp a_pl sc_token sc_start o_sc_end sc_numberRead o_sc_escaped o_sc_bytesBehind tp_bytes tp_size pl_items pl_behindBy pl_steps pl_literalTypes pl_numbers pl_textStarts pl_textLengths o_pl_textBytes pl_itemCount pl_byCount pl_stepCount pl_literalCount o_pl_textEnd) r) args s 0 0 A) (F0 m 9 ls []) := by
  have hx := C.1
  have hb := C.2.1
  intro n
  induction n with
  | zero =>
    intro l2 l3 sc_end sc_escaped sc_bytesBehind tp_bytes tp_size pl_textBytes pl_textEnd H locs ls hw hl hf
    unfold f_X2_readText_9 at hf
    cases hf
  | succ n ih =>
    intro l2 l3 sc_end sc_escaped sc_bytesBehind tp_bytes tp_size pl_textBytes pl_textEnd H locs ls hw hl hf
    unfold f_X2_readText_9 at hf
    refine lv_iload_n hx hb dX2_readText_9 rfl (lv_at hl 3 rfl) ?_
    refine lv_aload_n hx hb dX2_readText_10 rfl (lv_at hl 0 rfl) ?_
    refine fg_X2_9 C hw 0 rfl rfl dX2_readText_11 ?_
    refine fg_X2_25 C hw 1 rfl rfl dX2_readText_14 ?_
    refine lv_icmp_ge (tgt := 120) hx hb dX2_readText_17 (by decide) (fun c17 => ?_) (fun c17 => ?_)
    · replace hf := it_t c17 hf
      refine lv_aload_n hx hb dX2_readText_120 rfl (lv_at hl 0 rfl) ?_
      refine fg_X2_9 C hw 0 rfl rfl dX2_readText_121 ?_
      refine fg_X2_25 C hw 1 rfl rfl dX2_readText_124 ?_
      cases hf
      exact rt_i C hw dX2_readText_127
    · replace hf := it_f c17 hf
      refine lv_aload_n hx hb dX2_readText_20 rfl (lv_at hl 0 rfl) ?_
      refine fg_X2_9 C hw 0 rfl rfl dX2_readText_21 ?_
      refine lv_iload_n hx hb dX2_readText_24 rfl (lv_at hl 3 rfl) ?_
      obtain ⟨x1, z1, hf⟩ := ob1_el hf
      refine cI_V C hw (c_X4_at l E a_tp tp_bytes tp_size l3 x1 z1) cs_X2_30 ⟨Nat.le_of_ble_eq_true rfl, Nat.le_of_ble_eq_true rfl⟩ ⟨rfl, rfl⟩ (ci := 4) (cn := (RX4, TX4, 2)) rfl (q0 := 1) rfl (wn := w_sc_tp_pl E a_sc a_tp a_pl sc_token sc_start sc_end sc_numberRead sc_escaped sc_bytesBehind tp_bytes tp_size pl_items pl_behindBy pl_steps pl_literalTypes pl_numbers pl_textStarts pl_textLengths pl_textBytes pl_itemCount pl_byCount pl_stepCount pl_literalCount pl_textEnd) ⟨[1, 2], [0, 3, 4, 5, 6, 7, 8, 9, 10, 11], [0, 10, 11, 1, 2, 3, 4, 5, 6, 7, 8, 9], rfl, rfl, rfl, rfl, by decide, rfl, rfl⟩ rfl hl.1 rfl (Nat.le_of_ble_eq_true rfl) dX2_readText_25 ⟨Nat.zero_le _, Nat.zero_le _⟩ (fun H locs hw => ?_)
      refine lv_istore (lv' := [(4, .int x1), (0, .ref (a_sc 0)), (1, .ref (a_pl 0)), (2, .int l2), (3, .int l3)]) hx hb dX2_readText_28 hl (by decide) rfl (fun ls hl => ?_)
      refine lv_iload hx hb dX2_readText_30 (lv_at hl 0 rfl) ?_
      refine lv_bipush (v := 39) hx hb dX2_readText_32 (by decide) ?_
      refine lv_icmp_ne (tgt := 46) hx hb dX2_readText_34 (by decide) (fun c34 => ?_) (fun c34 => ?_)
      · replace hf := it_f c34 hf
        refine lv_iload_n hx hb dX2_readText_46 rfl (lv_at hl 3 rfl) ?_
        refine lv_sipush (v := 255) hx hb dX2_readText_47 (by decide) ?_
        refine lv_icmp_ge (tgt := 67) hx hb dX2_readText_50 (by decide) (fun c50 => ?_) (fun c50 => ?_)
        · replace hf := it_t c50 hf
          refine lv_iload_n hx hb dX2_readText_67 rfl (lv_at hl 4 rfl) ?_
          cases hf
          exact rt_i C hw dX2_readText_68
        · replace hf := it_f c50 hf
          refine lv_iload hx hb dX2_readText_53 (lv_at hl 0 rfl) ?_
          refine lv_bipush (v := 32) hx hb dX2_readText_55 (by decide) ?_
          refine lv_icmp_lt (tgt := 67) hx hb dX2_readText_57 (by decide) (fun c57 => ?_) (fun c57 => ?_)
          · replace hf := it_t c57 hf
            refine lv_iload_n hx hb dX2_readText_67 rfl (lv_at hl 4 rfl) ?_
            cases hf
            exact rt_i C hw dX2_readText_68
          · replace hf := it_f c57 hf
            refine lv_iload hx hb dX2_readText_60 (lv_at hl 0 rfl) ?_
            refine lv_bipush (v := 126) hx hb dX2_readText_62 (by decide) ?_
            refine lv_icmp_le (tgt := 69) hx hb dX2_readText_64 (by decide) (fun c64 => ?_) (fun c64 => ?_)
            · replace hf := it_t c64 hf
              refine lv_iload hx hb dX2_readText_69 (lv_at hl 0 rfl) ?_
              refine lv_bipush (v := 92) hx hb dX2_readText_71 (by decide) ?_
              refine lv_icmp_ne (tgt := 105) hx hb dX2_readText_73 (by decide) (fun c73 => ?_) (fun c73 => ?_)
              · replace hf := it_f c73 hf
                refine lv_aload_n hx hb dX2_readText_105 rfl (lv_at hl 2 rfl) ?_
                refine lv_iload hx hb dX2_readText_106 (lv_at hl 0 rfl) ?_
                obtain ⟨x2, x3, z3, hf⟩ := ob2_el hf
                refine cV_V C hw (c_X1_addTextByte l E a_pl pl_items pl_behindBy pl_steps pl_literalTypes pl_numbers pl_textStarts pl_textLengths pl_textBytes pl_itemCount pl_byCount pl_stepCount pl_literalCount pl_textEnd x1 x2 x3 z3) cs_X2_91 ⟨Nat.le_of_ble_eq_true rfl, Nat.le_of_ble_eq_true rfl⟩ ⟨rfl, rfl⟩ (ci := 1) (cn := (RX1, TX1, 13)) rfl (q0 := 3) rfl (wn := w_sc_tp_pl E a_sc a_tp a_pl sc_token sc_start sc_end sc_numberRead sc_escaped sc_bytesBehind tp_bytes tp_size pl_items pl_behindBy pl_steps pl_literalTypes pl_numbers pl_textStarts pl_textLengths x2 pl_itemCount pl_byCount pl_stepCount pl_literalCount x3) ⟨[3, 4, 5, 6, 7, 8, 9, 10, 11], [0, 1, 2], [0, 1, 2, 3, 4, 5, 6, 7, 8, 9, 10, 11], rfl, rfl, rfl, rfl, by decide, rfl, rfl⟩ rfl hl.1 rfl (Nat.le_of_ble_eq_true rfl) dX2_readText_108 ⟨Nat.zero_le _, Nat.zero_le _⟩ (fun H locs hw => ?_)
                obtain ⟨x4, ex4, hf⟩ := on_el hf
                refine lv_iinc (v := x4) (lv' := [(2, .int x4), (4, .int x1), (0, .ref (a_sc 0)), (1, .ref (a_pl 0)), (3, .int l3)]) hx hb dX2_readText_111 hl (k := 3) rfl (by rw [← ex4]; rfl) (by decide) rfl (fun ls hl => ?_)
                obtain ⟨x5, ex5, hf⟩ := on_el hf
                refine lv_iinc (v := x5) (lv' := [(3, .int x5), (2, .int x4), (4, .int x1), (0, .ref (a_sc 0)), (1, .ref (a_pl 0))]) hx hb dX2_readText_114 hl (k := 4) rfl (by rw [← ex5]; rfl) (by decide) rfl (fun ls hl => ?_)
                refine lv_goto (tgt := 9) hx hb dX2_readText_117 (by decide) ?_
                exact ih hw (lv_sub hl [3, 4, 1, 0] rfl) hf
              · replace hf := it_t c73 hf
                refine lv_aload_n hx hb dX2_readText_76 rfl (lv_at hl 1 rfl) ?_
                refine lv_iload_n hx hb dX2_readText_77 rfl (lv_at hl 4 rfl) ?_
                obtain ⟨x6, x7, x8, z8, hf⟩ := ob3_el hf
                refine cI_V C hw (c_X2_readEscape l E a_sc a_tp sc_token sc_start sc_end sc_numberRead sc_escaped sc_bytesBehind tp_bytes tp_size l3 x6 x7 x8 z8) cs_X2_82 ⟨Nat.le_of_ble_eq_true rfl, Nat.le_of_ble_eq_true rfl⟩ ⟨rfl, rfl⟩ (ci := 2) (cn := (RX2, TX2, 7)) rfl (q0 := 0) rfl (wn := w_sc_tp_pl E a_sc a_tp a_pl sc_token sc_start sc_end sc_numberRead x7 x8 tp_bytes tp_size pl_items pl_behindBy pl_steps pl_literalTypes pl_numbers pl_textStarts pl_textLengths pl_textBytes pl_itemCount pl_byCount pl_stepCount pl_literalCount pl_textEnd) ⟨[0, 1, 2], [3, 4, 5, 6, 7, 8, 9, 10, 11], [9, 10, 11, 0, 1, 2, 3, 4, 5, 6, 7, 8], rfl, rfl, rfl, rfl, by decide, rfl, rfl⟩ rfl hl.1 rfl (Nat.le_of_ble_eq_true rfl) dX2_readText_78 ⟨Nat.zero_le _, Nat.zero_le _⟩ (fun H locs hw => ?_)
                refine lv_istore (lv' := [(5, .int x6), (4, .int x1), (0, .ref (a_sc 0)), (1, .ref (a_pl 0)), (2, .int l2), (3, .int l3)]) hx hb dX2_readText_81 hl (by decide) rfl (fun ls hl => ?_)
                refine lv_iload hx hb dX2_readText_83 (lv_at hl 0 rfl) ?_
                refine lv_iconst (v := -1) hx hb dX2_readText_85 (by decide) ?_
                refine lv_icmp_eq (tgt := 92) hx hb dX2_readText_86 (by decide) (fun c86 => ?_) (fun c86 => ?_)
                · replace hf := it_t c86 hf
                  refine lv_aload_n hx hb dX2_readText_92 rfl (lv_at hl 2 rfl) ?_
                  refine fg_X2_85 C hw 0 rfl rfl dX2_readText_93 ?_
                  refine lv_istore (lv' := [(4, .int x7), (5, .int x6), (0, .ref (a_sc 0)), (1, .ref (a_pl 0)), (2, .int l2), (3, .int l3)]) hx hb dX2_readText_96 hl (by decide) rfl (fun ls hl => ?_)
                  refine lv_iload_n hx hb dX2_readText_98 rfl (lv_at hl 5 rfl) ?_
                  refine lv_aload_n hx hb dX2_readText_99 rfl (lv_at hl 2 rfl) ?_
                  refine fg_X2_88 C hw 0 rfl rfl dX2_readText_100 ?_
                  refine lv_iadd hx hb dX2_readText_103 ?_
                  obtain ⟨x9, ex9, hf⟩ := on_el hf
                  refine tp_i ex9 ?_
                  refine lv_istore_n (lv' := [(3, .int x9), (4, .int x7), (5, .int x6), (0, .ref (a_sc 0)), (1, .ref (a_pl 0)), (2, .int l2)]) hx hb dX2_readText_104 rfl hl (by decide) rfl (fun ls hl => ?_)
                  refine lv_aload_n hx hb dX2_readText_105 rfl (lv_at hl 4 rfl) ?_
                  refine lv_iload hx hb dX2_readText_106 (lv_at hl 1 rfl) ?_
                  obtain ⟨x10, x11, z11, hf⟩ := ob2_el hf
                  refine cV_V C hw (c_X1_addTextByte l E a_pl pl_items pl_behindBy pl_steps pl_literalTypes pl_numbers pl_textStarts pl_textLengths pl_textBytes pl_itemCount pl_byCount pl_stepCount pl_literalCount pl_textEnd x7 x10 x11 z11) cs_X2_91 ⟨Nat.le_of_ble_eq_true rfl, Nat.le_of_ble_eq_true rfl⟩ ⟨rfl, rfl⟩ (ci := 1) (cn := (RX1, TX1, 13)) rfl (q0 := 3) rfl (wn := w_sc_tp_pl E a_sc a_tp a_pl sc_token sc_start sc_end sc_numberRead x7 x8 tp_bytes tp_size pl_items pl_behindBy pl_steps pl_literalTypes pl_numbers pl_textStarts pl_textLengths x10 pl_itemCount pl_byCount pl_stepCount pl_literalCount x11) ⟨[3, 4, 5, 6, 7, 8, 9, 10, 11], [0, 1, 2], [0, 1, 2, 3, 4, 5, 6, 7, 8, 9, 10, 11], rfl, rfl, rfl, rfl, by decide, rfl, rfl⟩ rfl hl.1 rfl (Nat.le_of_ble_eq_true rfl) dX2_readText_108 ⟨Nat.zero_le _, Nat.zero_le _⟩ (fun H locs hw => ?_)
                  obtain ⟨x12, ex12, hf⟩ := on_el hf
                  refine lv_iinc (v := x12) (lv' := [(2, .int x12), (3, .int x9), (4, .int x7), (5, .int x6), (0, .ref (a_sc 0)), (1, .ref (a_pl 0))]) hx hb dX2_readText_111 hl (k := 5) rfl (by rw [← ex12]; rfl) (by decide) rfl (fun ls hl => ?_)
                  obtain ⟨x13, ex13, hf⟩ := on_el hf
                  refine lv_iinc (v := x13) (lv' := [(3, .int x13), (2, .int x12), (4, .int x7), (5, .int x6), (0, .ref (a_sc 0)), (1, .ref (a_pl 0))]) hx hb dX2_readText_114 hl (k := 1) rfl (by rw [← ex13]; rfl) (by decide) rfl (fun ls hl => ?_)
                  refine lv_goto (tgt := 9) hx hb dX2_readText_117 (by decide) ?_
                  exact ih hw (lv_sub hl [4, 5, 1, 0] rfl) hf
                · replace hf := it_f c86 hf
                  refine lv_iload hx hb dX2_readText_89 (lv_at hl 0 rfl) ?_
                  cases hf
                  exact rt_i C hw dX2_readText_91
            · replace hf := it_f c64 hf
              refine lv_iload_n hx hb dX2_readText_67 rfl (lv_at hl 4 rfl) ?_
              cases hf
              exact rt_i C hw dX2_readText_68
      · replace hf := it_t c34 hf
        refine lv_aload_n hx hb dX2_readText_37 rfl (lv_at hl 1 rfl) ?_
        refine lv_iload_n hx hb dX2_readText_38 rfl (lv_at hl 4 rfl) ?_
        refine lv_iconst (v := 1) hx hb dX2_readText_39 (by decide) ?_
        refine lv_iadd hx hb dX2_readText_40 ?_
        obtain ⟨x14, ex14, hf⟩ := on_el hf
        refine tp_i ex14 ?_
        refine fp_X2_15 C hw 0 rfl (Nat.le_of_ble_eq_true rfl) (ws' := w_sc_tp_pl E a_sc a_tp a_pl sc_token sc_start x14 sc_numberRead sc_escaped sc_bytesBehind tp_bytes tp_size pl_items pl_behindBy pl_steps pl_literalTypes pl_numbers pl_textStarts pl_textLengths pl_textBytes pl_itemCount pl_byCount pl_stepCount pl_literalCount pl_textEnd) rfl dX2_readText_41 (fun H locs hw => ?_)
        refine lv_iconst (v := -1) hx hb dX2_readText_44 (by decide) ?_
        cases hf
        exact rt_i C hw dX2_readText_45
def f_X2_readText (sc_start : Int32) (sc_end : Int32) (sc_escaped : Int32) (sc_bytesBehind : Int32) (tp_bytes : Nat → Int32) (tp_size : Int32) (pl_textBytes : Nat → Int32) (pl_textEnd : Int32) : Option ((Int32) × (Int32) × (Int32) × (Int32) × (Nat → Int32) × (Int32)) :=
  on (sc_start + (1 : Int32)) (fun x1 =>
  f_X2_readText_9 FU (0 : Int32) x1 sc_end sc_escaped sc_bytesBehind tp_bytes tp_size pl_textBytes pl_textEnd)
set_option maxHeartbeats 4000000 in
set_option maxRecDepth 100000 in
theorem c_X2_readText (l : Launch) (E : EnvT) (a_sc : Nat → Nat) (a_tp : Nat → Nat) (a_pl : Nat → Nat) (sc_token : Int32) (sc_start : Int32) (sc_end : Int32) (sc_numberRead : Int64) (sc_escaped : Int32) (sc_bytesBehind : Int32) (tp_bytes : Nat → Int32) (tp_size : Int32) (pl_items : Nat → Int32) (pl_behindBy : Nat → Int32) (pl_steps : Nat → Int32) (pl_literalTypes : Nat → Int32) (pl_numbers : Nat → Int64) (pl_textStarts : Nat → Int32) (pl_textLengths : Nat → Int32) (pl_textBytes : Nat → Int32) (pl_itemCount : Int32) (pl_byCount : Int32) (pl_stepCount : Int32) (pl_literalCount : Int32) (pl_textEnd : Int32) (r : Int32) (o_sc_end : Int32) (o_sc_escaped : Int32) (o_sc_bytesBehind : Int32) (o_pl_textBytes : Nat → Int32) (o_pl_textEnd : Int32) (hf : f_X2_readText sc_start sc_end sc_escaped sc_bytesBehind tp_bytes tp_size pl_textBytes pl_textEnd = some (r, o_sc_end, o_sc_escaped, o_sc_bytesBehind, o_pl_textBytes, o_pl_textEnd)) : CI l yX2_readText (Cond.code yX2_readText cX2_readText 6 (some .int)) { frames := 2, cells := 0, slots := 0, locals := 45 } E [.ref (a_sc 0), .ref (a_pl 0)] (w_sc_tp_pl E a_sc a_tp a_pl sc_token sc_start sc_end sc_numberRead sc_escaped sc_bytesBehind tp_bytes tp_size pl_items pl_behindBy pl_steps pl_literalTypes pl_numbers pl_textStarts pl_textLengths pl_textBytes pl_itemCount pl_byCount pl_stepCount pl_literalCount pl_textEnd) r (w_sc_tp_pl E a_sc a_tp a_pl sc_token sc_start o_sc_end sc_numberRead o_sc_escaped o_sc_bytesBehind tp_bytes tp_size pl_items pl_behindBy pl_steps pl_literalTypes pl_numbers pl_textStarts pl_textLengths o_pl_textBytes pl_itemCount pl_byCount pl_stepCount pl_literalCount o_pl_textEnd) := by
  intro sz
  refine met_start [(0, .ref (a_sc 0)), (1, .ref (a_pl 0))] (by decide) rfl rfl (Nat.le_of_ble_eq_true rfl) rfl ?_
  intro p e s m below meth c ls C hnm hmt hw hl
  have hx := C.1
  have hb := C.2.1
  generalize va_A (w_sc_tp_pl E a_sc a_tp a_pl sc_token sc_start sc_end sc_numberRead sc_escaped sc_bytesBehind tp_bytes tp_size pl_items pl_behindBy pl_steps pl_literalTypes pl_numbers pl_textStarts pl_textLengths pl_textBytes pl_itemCount pl_byCount pl_stepCount pl_literalCount pl_textEnd) sz = A at C hw ⊢
  unfold f_X2_readText at hf
  refine lv_iconst (v := 0) hx hb dX2_readText_0 (by decide) ?_
  refine lv_istore_n (lv' := [(2, .int (0 : Int32)), (0, .ref (a_sc 0)), (1, .ref (a_pl 0))]) hx hb dX2_readText_1 rfl hl (by decide) rfl (fun ls hl => ?_)
  refine lv_aload_n hx hb dX2_readText_2 rfl (lv_at hl 1 rfl) ?_
  refine fg_X2_22 C hw 0 rfl rfl dX2_readText_3 ?_
  refine lv_iconst (v := 1) hx hb dX2_readText_6 (by decide) ?_
  refine lv_iadd hx hb dX2_readText_7 ?_
  obtain ⟨x1, ex1, hf⟩ := on_el hf
  refine tp_i ex1 ?_
  refine lv_istore_n (lv' := [(3, .int x1), (2, .int (0 : Int32)), (0, .ref (a_sc 0)), (1, .ref (a_pl 0))]) hx hb dX2_readText_8 rfl hl (by decide) rfl (fun ls hl => ?_)
  exact w_X2_readText_9 C FU hw (lv_sub hl [2, 3, 1, 0] rfl) hf
