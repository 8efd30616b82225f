def f_X3_bearsName_2 : Nat → (Int32) → (Int32) → (Int32) → (Nat → Int32) → (Nat → Int32) → (Nat → Int32) → (Int32) → Option ((Int32))
  | 0, _, _, _, _, _, _, _ => none
  | n + 1, l1, l2, l3, sh_names, sh_nameLengths, tp_bytes, tp_size =>
  rd sh_nameLengths 64 l1 (fun x1 =>
  if x1 ≤ l3 then (some (1 : Int32))
  else (rd sh_names 1024 ((l1 * (16 : Int32)) + l3) (fun x2 =>
  ob1 (f_X4_at (l2 + l3) tp_bytes tp_size) (fun x3 =>
  if x2 = x3 then (on (l3 + (1 : Int32)) (fun x4 =>
  f_X3_bearsName_2 n l1 l2 x4 sh_names sh_nameLengths tp_bytes tp_size))
  else (some (0 : Int32))))))
set_option maxHeartbeats 4000000 in
set_option maxRecDepth 100000 in
theorem w_X3_bearsName_2 {p : Program} {l : Launch} {e : Env} {s : State} {m : MethodId} {args : Array Value} {below : List Frame} {meth : Method} {c : Code} {E : EnvT} {A : Nat → Prop} {a_sh : Nat → Nat} {a_tp : Nat → Nat} {sh_groups : Nat → Int32} {sh_types : Nat → Int32} {sh_flat : Nat → Int32} {sh_size : Int32} {r : Int32} (C : MC p s m args meth c E A cX3_bearsName 4 RX3 (some .boolean)) : ∀ (n : Nat) {l1 : Int32} {l2 : Int32} {l3 : Int32} {sh_names : Nat → Int32} {sh_nameLengths : Nat → Int32} {tp_bytes : Nat → Int32} {tp_size : Int32} {H : Heap} {locs : List Loc} {ls : Array Slot}, WS E A s (w_sh_tp E a_sh a_tp sh_names sh_nameLengths sh_groups sh_types sh_flat sh_size tp_bytes tp_size) H locs → lv_has ls 4 [(0, .ref (a_sh 0)), (1, .int l1), (2, .int l2), (3, .int l3)] → f_X3_bearsName_2 n l1 l2 l3 sh_names sh_nameLengths tp_bytes tp_size = some r → W p l e { frames := 1, cells := 0, slots := 0, locals := 21 } s m args below meth c H locs 0 0 (MQ below (QcI E A (w_sh_tp E a_sh a_tp sh_names sh_nameLengths sh_groups sh_types sh_flat sh_size tp_bytes tp_size) r) args s 0 0 A) (F0 m 2 ls []) := by
  have hx := C.1
  have hb := C.2.1
  intro n
  induction n with
  | zero =>
    intro l1 l2 l3 sh_names sh_nameLengths tp_bytes tp_size H locs ls hw hl hf
    unfold f_X3_bearsName_2 at hf
    cases hf
  | succ n ih =>
    intro l1 l2 l3 sh_names sh_nameLengths tp_bytes tp_size H locs ls hw hl hf
    unfold f_X3_bearsName_2 at hf
    refine lv_iload_n hx hb dX3_bearsName_2 rfl (lv_at hl 3 rfl) ?_
    refine lv_aload_n hx hb dX3_bearsName_3 rfl (lv_at hl 0 rfl) ?_
    refine fg_X3_15 C hw 0 rfl rfl dX3_bearsName_4 ?_
    refine lv_iload_n hx hb dX3_bearsName_7 rfl (lv_at hl 1 rfl) ?_
    obtain ⟨x1, ex1, gx1, hf⟩ := rd_el hf
    refine ra_i C hw 2 rfl gx1 dX3_bearsName_8 ?_
    refine tp_i ex1 ?_
    refine lv_icmp_ge (tgt := 44) hx hb dX3_bearsName_9 (by decide) (fun c9 => ?_) (fun c9 => ?_)
    · replace hf := it_t c9 hf
      refine lv_iconst (v := 1) hx hb dX3_bearsName_44 (by decide) ?_
      cases hf
      exact rt_z C hw (Or.inr rfl) dX3_bearsName_45
    · replace hf := it_f c9 hf
      refine lv_aload_n hx hb dX3_bearsName_12 rfl (lv_at hl 0 rfl) ?_
      refine fg_X3_9 C hw 0 rfl rfl dX3_bearsName_13 ?_
      refine lv_iload_n hx hb dX3_bearsName_16 rfl (lv_at hl 1 rfl) ?_
      refine lv_bipush (v := 16) hx hb dX3_bearsName_17 (by decide) ?_
      refine lv_imul hx hb dX3_bearsName_19 ?_
      refine lv_iload_n hx hb dX3_bearsName_20 rfl (lv_at hl 3 rfl) ?_
      refine lv_iadd hx hb dX3_bearsName_21 ?_
      obtain ⟨x2, ex2, gx2, hf⟩ := rd_el hf
      refine ra_i C hw 1 rfl gx2 dX3_bearsName_22 ?_
      refine tp_i ex2 ?_
      refine lv_aload_n hx hb dX3_bearsName_23 rfl (lv_at hl 0 rfl) ?_
      refine fg_X3_28 C hw 0 rfl rfl dX3_bearsName_24 ?_
      refine lv_iload_n hx hb dX3_bearsName_27 rfl (lv_at hl 2 rfl) ?_
      refine lv_iload_n hx hb dX3_bearsName_28 rfl (lv_at hl 3 rfl) ?_
      refine lv_iadd hx hb dX3_bearsName_29 ?_
      obtain ⟨x3, z3, hf⟩ := ob1_el hf
      refine cI_V C hw (c_X4_at l E a_tp tp_bytes tp_size (l2 + l3) x3 z3) cs_X3_51 ⟨Nat.le_of_ble_eq_true rfl, Nat.le_of_ble_eq_true rfl⟩ ⟨rfl, rfl⟩ (ci := 4) (cn := (RX4, TX4, 2)) rfl (q0 := 6) rfl (wn := w_sh_tp E a_sh a_tp sh_names sh_nameLengths sh_groups sh_types sh_flat sh_size tp_bytes tp_size) ⟨[6, 7], [0, 1, 2, 3, 4, 5], [0, 1, 2, 3, 4, 5, 6, 7], rfl, rfl, rfl, rfl, by decide, rfl, rfl⟩ rfl hl.1 rfl (Nat.le_of_ble_eq_true rfl) dX3_bearsName_30 ⟨Nat.zero_le _, Nat.zero_le _⟩ (fun H locs hw => ?_)
      refine lv_icmp_eq (tgt := 38) hx hb dX3_bearsName_33 (by decide) (fun c33 => ?_) (fun c33 => ?_)
      · replace hf := it_t c33 hf
        obtain ⟨x4, ex4, hf⟩ := on_el hf
        refine lv_iinc (v := x4) (lv' := [(3, .int x4), (0, .ref (a_sh 0)), (1, .int l1), (2, .int l2)]) hx hb dX3_bearsName_38 hl (k := 3) rfl (by rw [← ex4]; rfl) (by decide) rfl (fun ls hl => ?_)
        refine lv_goto (tgt := 2) hx hb dX3_bearsName_41 (by decide) ?_
        exact ih hw (lv_sub hl [1, 2, 3, 0] rfl) hf
      · replace hf := it_f c33 hf
        refine lv_iconst (v := 0) hx hb dX3_bearsName_36 (by decide) ?_
        cases hf
        exact rt_z C hw (Or.inl rfl) dX3_bearsName_37
def f_X3_bearsName (p1 : Int32) (p2 : Int32) (sh_names : Nat → Int32) (sh_nameLengths : Nat → Int32) (tp_bytes : Nat → Int32) (tp_size : Int32) : Option ((Int32)) :=
  f_X3_bearsName_2 FU p1 p2 (0 : Int32) sh_names sh_nameLengths tp_bytes tp_size
set_option maxHeartbeats 4000000 in
set_option maxRecDepth 100000 in
theorem c_X3_bearsName (l : Launch) (E : EnvT) (a_sh : Nat → Nat) (a_tp : Nat → Nat) (sh_names : Nat → Int32) (sh_nameLengths : Nat → Int32) (sh_groups : Nat → Int32) (sh_types : Nat → Int32) (sh_flat : Nat → Int32) (sh_size : Int32) (tp_bytes : Nat → Int32) (tp_size : Int32) (p1 : Int32) (p2 : Int32) (r : Int32) (hf : f_X3_bearsName p1 p2 sh_names sh_nameLengths tp_bytes tp_size = some r) : CI l yX3_bearsName (Cond.code yX3_bearsName cX3_bearsName 4 (some .boolean)) { frames := 1, cells := 0, slots := 0, locals := 21 } E [.ref (a_sh 0), .int p1, .int p2] (w_sh_tp E a_sh a_tp sh_names sh_nameLengths sh_groups sh_types sh_flat sh_size tp_bytes tp_size) r (w_sh_tp E a_sh a_tp sh_names sh_nameLengths sh_groups sh_types sh_flat sh_size tp_bytes tp_size) := by
  intro sz
  refine met_start [(0, .ref (a_sh 0)), (1, .int p1), (2, .int p2)] (by decide) rfl rfl (Nat.le_of_ble_eq_true rfl) rfl ?_
  intro p e s m below meth c ls C hnm hmt hw hl
  have hx := C.1
  have hb := C.2.1
  generalize va_A (w_sh_tp E a_sh a_tp sh_names sh_nameLengths sh_groups sh_types sh_flat sh_size tp_bytes tp_size) sz = A at C hw ⊢
  unfold f_X3_bearsName at hf
  refine lv_iconst (v := 0) hx hb dX3_bearsName_0 (by decide) ?_
  refine lv_istore_n (lv' := [(3, .int (0 : Int32)), (0, .ref (a_sh 0)), (1, .int p1), (2, .int p2)]) hx hb dX3_bearsName_1 rfl hl (by decide) rfl (fun ls hl => ?_)
  exact w_X3_bearsName_2 C FU hw (lv_sub hl [1, 2, 3, 0] rfl) hf
def f_X3_find_3 : Nat → (Int32) → (Int32) → (Int32) → (Int32) → (Nat → Int32) → (Nat → Int32) → (Nat → Int32) → (Int32) → (Nat → Int32) → (Int32) → Option ((Int32))
  | 0, _, _, _, _, _, _, _, _, _, _ => none
  | n + 1, l1, l2, l3, l4, sh_names, sh_nameLengths, sh_groups, sh_size, tp_bytes, tp_size =>
  if sh_size ≤ l4 then (some (-1 : Int32))
  else (rd sh_groups 64 l4 (fun x1 =>
  if x1 = l1 then (rd sh_nameLengths 64 l4 (fun x3 =>
  if x3 = (l3 - l2) then (ob1 (f_X3_bearsName l4 l2 sh_names sh_nameLengths tp_bytes tp_size) (fun x5 =>
  if x5 = (0 : Int32) then (on (l4 + (1 : Int32)) (fun x6 =>
  f_X3_find_3 n l1 l2 l3 x6 sh_names sh_nameLengths sh_groups sh_size tp_bytes tp_size))
  else (some l4)))
  else (on (l4 + (1 : Int32)) (fun x4 =>
  f_X3_find_3 n l1 l2 l3 x4 sh_names sh_nameLengths sh_groups sh_size tp_bytes tp_size))))
  else (on (l4 + (1 : Int32)) (fun x2 =>
  f_X3_find_3 n l1 l2 l3 x2 sh_names sh_nameLengths sh_groups sh_size tp_bytes tp_size))))
set_option maxHeartbeats 4000000 in
set_option maxRecDepth 100000 in
theorem w_X3_find_3 {p : Program} {l : Launch} {e : Env} {s : State} {m : MethodId} {args : Array Value} {below : List Frame} {meth : Method} {c : Code} {E : EnvT} {A : Nat → Prop} {a_sh : Nat → Nat} {a_tp : Nat → Nat} {sh_types : Nat → Int32} {sh_flat : Nat → Int32} {r : Int32} (C : MC p s m args meth c E A cX3_find 5 RX3 (some .int)) : ∀ (n : Nat) {l1 : Int32} {l2 : Int32} {l3 : Int32} {l4 : Int32} {sh_names : Nat → Int32} {sh_nameLengths : Nat → Int32} {sh_groups : Nat → Int32} {sh_size : Int32} {tp_bytes : Nat → Int32} {tp_size : Int32} {H : Heap} {locs : List Loc} {ls : Array Slot}, WS E A s (w_sh_tp E a_sh a_tp sh_names sh_nameLengths sh_groups sh_types sh_flat sh_size tp_bytes tp_size) H locs → lv_has ls 5 [(0, .ref (a_sh 0)), (1, .int l1), (2, .int l2), (3, .int l3), (4, .int l4)] → f_X3_find_3 n l1 l2 l3 l4 sh_names sh_nameLengths sh_groups sh_size tp_bytes tp_size = some r → W p l e { frames := 2, cells := 0, slots := 0, locals := 44 } s m args below meth c H locs 0 0 (MQ below (QcI E A (w_sh_tp E a_sh a_tp sh_names sh_nameLengths sh_groups sh_types sh_flat sh_size tp_bytes tp_size) r) args s 0 0 A) (F0 m 3 ls []) := by
  have hx := C.1
  have hb := C.2.1
  intro n
  induction n with
  | zero =>
    intro l1 l2 l3 l4 sh_names sh_nameLengths sh_groups sh_size tp_bytes tp_size H locs ls hw hl hf
    unfold f_X3_find_3 at hf
    cases hf
  | succ n ih =>
    intro l1 l2 l3 l4 sh_names sh_nameLengths sh_groups sh_size tp_bytes tp_size H locs ls hw hl hf
    unfold f_X3_find_3 at hf
    refine lv_iload hx hb dX3_find_3 (lv_at hl 4 rfl) ?_
    refine lv_aload_n hx hb dX3_find_5 rfl (lv_at hl 0 rfl) ?_
    refine fg_X3_32 C hw 0 rfl rfl dX3_find_6 ?_
    refine lv_icmp_ge (tgt := 55) hx hb dX3_find_9 (by decide) (fun c9 => ?_) (fun c9 => ?_)
    · replace hf := it_t c9 hf
      refine lv_iconst (v := -1) hx hb dX3_find_55 (by decide) ?_
      cases hf
      exact rt_i C hw dX3_find_56
    · replace hf := it_f c9 hf
      refine lv_aload_n hx hb dX3_find_12 rfl (lv_at hl 0 rfl) ?_
      refine fg_X3_18 C hw 0 rfl rfl dX3_find_13 ?_
      refine lv_iload hx hb dX3_find_16 (lv_at hl 4 rfl) ?_
      obtain ⟨x1, ex1, gx1, hf⟩ := rd_el hf
      refine ra_i C hw 3 rfl gx1 dX3_find_18 ?_
      refine tp_i ex1 ?_
      refine lv_iload_n hx hb dX3_find_19 rfl (lv_at hl 1 rfl) ?_
      refine lv_icmp_ne (tgt := 49) hx hb dX3_find_20 (by decide) (fun c20 => ?_) (fun c20 => ?_)
      · replace hf := it_f c20 hf
        obtain ⟨x2, ex2, hf⟩ := on_el hf
        refine lv_iinc (v := x2) (lv' := [(4, .int x2), (0, .ref (a_sh 0)), (1, .int l1), (2, .int l2), (3, .int l3)]) hx hb dX3_find_49 hl (k := 4) rfl (by rw [← ex2]; rfl) (by decide) rfl (fun ls hl => ?_)
        refine lv_goto (tgt := 3) hx hb dX3_find_52 (by decide) ?_
        exact ih hw (lv_sub hl [1, 2, 3, 4, 0] rfl) hf
      · replace hf := it_t c20 hf
        refine lv_aload_n hx hb dX3_find_23 rfl (lv_at hl 0 rfl) ?_
        refine fg_X3_15 C hw 0 rfl rfl dX3_find_24 ?_
        refine lv_iload hx hb dX3_find_27 (lv_at hl 4 rfl) ?_
        obtain ⟨x3, ex3, gx3, hf⟩ := rd_el hf
        refine ra_i C hw 2 rfl gx3 dX3_find_29 ?_
        refine tp_i ex3 ?_
        refine lv_iload_n hx hb dX3_find_30 rfl (lv_at hl 3 rfl) ?_
        refine lv_iload_n hx hb dX3_find_31 rfl (lv_at hl 2 rfl) ?_
        refine lv_isub hx hb dX3_find_32 ?_
        refine lv_icmp_ne (tgt := 49) hx hb dX3_find_33 (by decide) (fun c33 => ?_) (fun c33 => ?_)
        · replace hf := it_f c33 hf
          obtain ⟨x4, ex4, hf⟩ := on_el hf
          refine lv_iinc (v := x4) (lv' := [(4, .int x4), (0, .ref (a_sh 0)), (1, .int l1), (2, .int l2), (3, .int l3)]) hx hb dX3_find_49 hl (k := 4) rfl (by rw [← ex4]; rfl) (by decide) rfl (fun ls hl => ?_)
          refine lv_goto (tgt := 3) hx hb dX3_find_52 (by decide) ?_
          exact ih hw (lv_sub hl [1, 2, 3, 4, 0] rfl) hf
        · replace hf := it_t c33 hf
          refine lv_aload_n hx hb dX3_find_36 rfl (lv_at hl 0 rfl) ?_
          refine lv_iload hx hb dX3_find_37 (lv_at hl 4 rfl) ?_
          refine lv_iload_n hx hb dX3_find_39 rfl (lv_at hl 2 rfl) ?_
          obtain ⟨x5, z5, hf⟩ := ob1_el hf
          refine cI_V C hw (c_X3_bearsName l E a_sh a_tp sh_names sh_nameLengths sh_groups sh_types sh_flat sh_size tp_bytes tp_size l4 l2 x5 z5) cs_X3_61 ⟨Nat.le_of_ble_eq_true rfl, Nat.le_of_ble_eq_true rfl⟩ ⟨rfl, rfl⟩ (ci := 3) (cn := (RX3, TX3, 7)) rfl (q0 := 0) rfl (wn := w_sh_tp E a_sh a_tp sh_names sh_nameLengths sh_groups sh_types sh_flat sh_size tp_bytes tp_size) (Jn.all _ _) rfl hl.1 rfl (Nat.le_of_ble_eq_true rfl) dX3_find_40 ⟨Nat.zero_le _, Nat.zero_le _⟩ (fun H locs hw => ?_)
          refine lv_if_eq (tgt := 49) hx hb dX3_find_43 (by decide) (fun c43 => ?_) (fun c43 => ?_)
          · replace hf := it_t c43 hf
            obtain ⟨x6, ex6, hf⟩ := on_el hf
            refine lv_iinc (v := x6) (lv' := [(4, .int x6), (0, .ref (a_sh 0)), (1, .int l1), (2, .int l2), (3, .int l3)]) hx hb dX3_find_49 hl (k := 4) rfl (by rw [← ex6]; rfl) (by decide) rfl (fun ls hl => ?_)
            refine lv_goto (tgt := 3) hx hb dX3_find_52 (by decide) ?_
            exact ih hw (lv_sub hl [1, 2, 3, 4, 0] rfl) hf
          · replace hf := it_f c43 hf
            refine lv_iload hx hb dX3_find_46 (lv_at hl 4 rfl) ?_
            cases hf
            exact rt_i C hw dX3_find_48
def f_X3_find (p1 : Int32) (p2 : Int32) (p3 : Int32) (sh_names : Nat → Int32) (sh_nameLengths : Nat → Int32) (sh_groups : Nat → Int32) (sh_size : Int32) (tp_bytes : Nat → Int32) (tp_size : Int32) : Option ((Int32)) :=
  f_X3_find_3 FU p1 p2 p3 (0 : Int32) sh_names sh_nameLengths sh_groups sh_size tp_bytes tp_size
set_option maxHeartbeats 4000000 in
set_option maxRecDepth 100000 in
theorem c_X3_find (l : Launch) (E : EnvT) (a_sh : Nat → Nat) (a_tp : Nat → Nat) (sh_names : Nat → Int32) (sh_nameLengths : Nat → Int32) (sh_groups : Nat → Int32) (sh_types : Nat → Int32) (sh_flat : Nat → Int32) (sh_size : Int32) (tp_bytes : Nat → Int32) (tp_size : Int32) (p1 : Int32) (p2 : Int32) (p3 : Int32) (r : Int32) (hf : f_X3_find p1 p2 p3 sh_names sh_nameLengths sh_groups sh_size tp_bytes tp_size = some r) : CI l yX3_find (Cond.code yX3_find cX3_find 5 (some .int)) { frames := 2, cells := 0, slots := 0, locals := 44 } E [.ref (a_sh 0), .int p1, .int p2, .int p3] (w_sh_tp E a_sh a_tp sh_names sh_nameLengths sh_groups sh_types sh_flat sh_size tp_bytes tp_size) r (w_sh_tp E a_sh a_tp sh_names sh_nameLengths sh_groups sh_types sh_flat sh_size tp_bytes tp_size) := by
  intro sz
  refine met_start [(0, .ref (a_sh 0)), (1, .int p1), (2, .int p2), (3, .int p3)] (by decide) rfl rfl (Nat.le_of_ble_eq_true rfl) rfl ?_
  intro p e s m below meth c ls C hnm hmt hw hl
  have hx := C.1
  have hb := C.2.1
  generalize va_A (w_sh_tp E a_sh a_tp sh_names sh_nameLengths sh_groups sh_types sh_flat sh_size tp_bytes tp_size) sz = A at C hw ⊢
  unfold f_X3_find at hf
  refine lv_iconst (v := 0) hx hb dX3_find_0 (by decide) ?_
  refine lv_istore (lv' := [(4, .int (0 : Int32)), (0, .ref (a_sh 0)), (1, .int p1), (2, .int p2), (3, .int p3)]) hx hb dX3_find_1 hl (by decide) rfl (fun ls hl => ?_)
  exact w_X3_find_3 C FU hw (lv_sub hl [1, 2, 3, 4, 0] rfl) hf
def f_X3_isFlatValue (p1 : Int32) (sh_types : Nat → Int32) (sh_flat : Nat → Int32) (sh_size : Int32) : Option ((Int32)) :=
  if p1 < (0 : Int32) then (some (0 : Int32))
  else (if sh_size ≤ p1 then (some (0 : Int32))
  else (rd sh_flat 64 p1 (fun x1 =>
  if x1 = (0 : Int32) then (some (0 : Int32))
  else (rd sh_types 64 p1 (fun x2 =>
  if x2 = (4 : Int32) then (some (0 : Int32))
  else (some (1 : Int32)))))))
set_option maxHeartbeats 4000000 in
set_option maxRecDepth 100000 in
theorem c_X3_isFlatValue (l : Launch) (E : EnvT) (a_sh : Nat → Nat) (a_tp : Nat → Nat) (sh_names : Nat → Int32) (sh_nameLengths : Nat → Int32) (sh_groups : Nat → Int32) (sh_types : Nat → Int32) (sh_flat : Nat → Int32) (sh_size : Int32) (tp_bytes : Nat → Int32) (tp_size : Int32) (p1 : Int32) (r : Int32) (hf : f_X3_isFlatValue p1 sh_types sh_flat sh_size = some r) : CI l yX3_isFlatValue (Cond.code yX3_isFlatValue cX3_isFlatValue 2 (some .boolean)) { frames := 0, cells := 0, slots := 0, locals := 0 } E [.ref (a_sh 0), .int p1] (w_sh_tp E a_sh a_tp sh_names sh_nameLengths sh_groups sh_types sh_flat sh_size tp_bytes tp_size) r (w_sh_tp E a_sh a_tp sh_names sh_nameLengths sh_groups sh_types sh_flat sh_size tp_bytes tp_size) := by
  intro sz
  refine met_start [(0, .ref (a_sh 0)), (1, .int p1)] (by decide) rfl rfl (Nat.le_of_ble_eq_true rfl) rfl ?_
  intro p e s m below meth c ls C hnm hmt hw hl
  have hx := C.1
  have hb := C.2.1
  generalize va_A (w_sh_tp E a_sh a_tp sh_names sh_nameLengths sh_groups sh_types sh_flat sh_size tp_bytes tp_size) sz = A at C hw ⊢
  unfold f_X3_isFlatValue at hf
  refine lv_iload_n hx hb dX3_isFlatValue_0 rfl (lv_at hl 1 rfl) ?_
  refine lv_if_lt (tgt := 35) hx hb dX3_isFlatValue_1 (by decide) (fun c1 => ?_) (fun c1 => ?_)
  · replace hf := it_t c1 hf
    refine lv_iconst (v := 0) hx hb dX3_isFlatValue_35 (by decide) ?_
    cases hf
    exact rt_z C hw (Or.inl rfl) dX3_isFlatValue_36
  · replace hf := it_f c1 hf
    refine lv_iload_n hx hb dX3_isFlatValue_4 rfl (lv_at hl 1 rfl) ?_
    refine lv_aload_n hx hb dX3_isFlatValue_5 rfl (lv_at hl 0 rfl) ?_
    refine fg_X3_32 C hw 0 rfl rfl dX3_isFlatValue_6 ?_
    refine lv_icmp_ge (tgt := 35) hx hb dX3_isFlatValue_9 (by decide) (fun c9 => ?_) (fun c9 => ?_)
    · replace hf := it_t c9 hf
      refine lv_iconst (v := 0) hx hb dX3_isFlatValue_35 (by decide) ?_
      cases hf
      exact rt_z C hw (Or.inl rfl) dX3_isFlatValue_36
    · replace hf := it_f c9 hf
      refine lv_aload_n hx hb dX3_isFlatValue_12 rfl (lv_at hl 0 rfl) ?_
      refine fg_X3_24 C hw 0 rfl rfl dX3_isFlatValue_13 ?_
      refine lv_iload_n hx hb dX3_isFlatValue_16 rfl (lv_at hl 1 rfl) ?_
      obtain ⟨x1, ex1, gx1, hf⟩ := rd_el hf
      refine ra_z C hw 5 rfl gx1 dX3_isFlatValue_17 ?_
      refine tp_i ex1 ?_
      refine lv_if_eq (tgt := 35) hx hb dX3_isFlatValue_18 (by decide) (fun c18 => ?_) (fun c18 => ?_)
      · replace hf := it_t c18 hf
        refine lv_iconst (v := 0) hx hb dX3_isFlatValue_35 (by decide) ?_
        cases hf
        exact rt_z C hw (Or.inl rfl) dX3_isFlatValue_36
      · replace hf := it_f c18 hf
        refine lv_aload_n hx hb dX3_isFlatValue_21 rfl (lv_at hl 0 rfl) ?_
        refine fg_X3_21 C hw 0 rfl rfl dX3_isFlatValue_22 ?_
        refine lv_iload_n hx hb dX3_isFlatValue_25 rfl (lv_at hl 1 rfl) ?_
        obtain ⟨x2, ex2, gx2, hf⟩ := rd_el hf
        refine ra_i C hw 4 rfl gx2 dX3_isFlatValue_26 ?_
        refine tp_i ex2 ?_
        refine lv_iconst (v := 4) hx hb dX3_isFlatValue_27 (by decide) ?_
        refine lv_icmp_eq (tgt := 35) hx hb dX3_isFlatValue_28 (by decide) (fun c28 => ?_) (fun c28 => ?_)
        · replace hf := it_t c28 hf
          refine lv_iconst (v := 0) hx hb dX3_isFlatValue_35 (by decide) ?_
          cases hf
          exact rt_z C hw (Or.inl rfl) dX3_isFlatValue_36
        · replace hf := it_f c28 hf
          refine lv_iconst (v := 1) hx hb dX3_isFlatValue_31 (by decide) ?_
          refine lv_goto (tgt := 36) hx hb dX3_isFlatValue_32 (by decide) ?_
          cases hf
          exact rt_z C hw (Or.inr rfl) dX3_isFlatValue_36
def f_X3_typeOf (p1 : Int32) (sh_types : Nat → Int32) (sh_size : Int32) : Option ((Int32)) :=
  if p1 < (0 : Int32) then (some (-1 : Int32))
  else (if sh_size ≤ p1 then (some (-1 : Int32))
  else (rd sh_types 64 p1 (fun x1 =>
  some x1)))
set_option maxHeartbeats 4000000 in
set_option maxRecDepth 100000 in
theorem c_X3_typeOf (l : Launch) (E : EnvT) (a_sh : Nat → Nat) (a_tp : Nat → Nat) (sh_names : Nat → Int32) (sh_nameLengths : Nat → Int32) (sh_groups : Nat → Int32) (sh_types : Nat → Int32) (sh_flat : Nat → Int32) (sh_size : Int32) (tp_bytes : Nat → Int32) (tp_size : Int32) (p1 : Int32) (r : Int32) (hf : f_X3_typeOf p1 sh_types sh_size = some r) : CI l yX3_typeOf (Cond.code yX3_typeOf cX3_typeOf 2 (some .int)) { frames := 0, cells := 0, slots := 0, locals := 0 } E [.ref (a_sh 0), .int p1] (w_sh_tp E a_sh a_tp sh_names sh_nameLengths sh_groups sh_types sh_flat sh_size tp_bytes tp_size) r (w_sh_tp E a_sh a_tp sh_names sh_nameLengths sh_groups sh_types sh_flat sh_size tp_bytes tp_size) := by
  intro sz
  refine met_start [(0, .ref (a_sh 0)), (1, .int p1)] (by decide) rfl rfl (Nat.le_of_ble_eq_true rfl) rfl ?_
  intro p e s m below meth c ls C hnm hmt hw hl
  have hx := C.1
  have hb := C.2.1
  generalize va_A (w_sh_tp E a_sh a_tp sh_names sh_nameLengths sh_groups sh_types sh_flat sh_size tp_bytes tp_size) sz = A at C hw ⊢
  unfold f_X3_typeOf at hf
  refine lv_iload_n hx hb dX3_typeOf_0 rfl (lv_at hl 1 rfl) ?_
  refine lv_if_lt (tgt := 21) hx hb dX3_typeOf_1 (by decide) (fun c1 => ?_) (fun c1 => ?_)
  · replace hf := it_t c1 hf
    refine lv_iconst (v := -1) hx hb dX3_typeOf_21 (by decide) ?_
    cases hf
    exact rt_i C hw dX3_typeOf_22
  · replace hf := it_f c1 hf
    refine lv_iload_n hx hb dX3_typeOf_4 rfl (lv_at hl 1 rfl) ?_
    refine lv_aload_n hx hb dX3_typeOf_5 rfl (lv_at hl 0 rfl) ?_
    refine fg_X3_32 C hw 0 rfl rfl dX3_typeOf_6 ?_
    refine lv_icmp_ge (tgt := 21) hx hb dX3_typeOf_9 (by decide) (fun c9 => ?_) (fun c9 => ?_)
    · replace hf := it_t c9 hf
      refine lv_iconst (v := -1) hx hb dX3_typeOf_21 (by decide) ?_
      cases hf
      exact rt_i C hw dX3_typeOf_22
    · replace hf := it_f c9 hf
      refine lv_aload_n hx hb dX3_typeOf_12 rfl (lv_at hl 0 rfl) ?_
      refine fg_X3_21 C hw 0 rfl rfl dX3_typeOf_13 ?_
      refine lv_iload_n hx hb dX3_typeOf_16 rfl (lv_at hl 1 rfl) ?_
      obtain ⟨x1, ex1, gx1, hf⟩ := rd_el hf
      refine ra_i C hw 4 rfl gx1 dX3_typeOf_17 ?_
      refine tp_i ex1 ?_
      refine lv_goto (tgt := 22) hx hb dX3_typeOf_18 (by decide) ?_
      cases hf
      exact rt_i C hw dX3_typeOf_22
def f_X3_isName_30 : Nat → (Int32) → (Nat → Int32) → (Int32) → Option ((Int32))
  | 0, _, _, _ => none
  | n + 1, l1, tp_bytes, tp_size =>
  if tp_size ≤ l1 then (some (1 : Int32))
  else (ob1 (f_X4_at l1 tp_bytes tp_size) (fun x1 =>
  ob1 (f_X5_isWordByte x1) (fun x2 =>
  if x2 = (0 : Int32) then (some (0 : Int32))
  else (on (l1 + (1 : Int32)) (fun x3 =>
  f_X3_isName_30 n x3 tp_bytes tp_size)))))
set_option maxHeartbeats 4000000 in
set_option maxRecDepth 100000 in
theorem w_X3_isName_30 {p : Program} {l : Launch} {e : Env} {s : State} {m : MethodId} {args : Array Value} {below : List Frame} {meth : Method} {c : Code} {E : EnvT} {A : Nat → Prop} {a_sh : Nat → Nat} {a_tp : Nat → Nat} {sh_names : Nat → Int32} {sh_nameLengths : Nat → Int32} {sh_groups : Nat → Int32} {sh_types : Nat → Int32} {sh_flat : Nat → Int32} {sh_size : Int32} {r : Int32} (C : MC p s m args meth c E A cX3_isName 2 RX3 (some .boolean)) : ∀ (n : Nat) {l1 : Int32} {tp_bytes : Nat → Int32} {tp_size : Int32} {H : Heap} {locs : List Loc} {ls : Array Slot}, WS E A s (w_sh_tp E a_sh a_tp sh_names sh_nameLengths sh_groups sh_types sh_flat sh_size tp_bytes tp_size) H locs → lv_has ls 2 [(0, .ref (a_sh 0)), (1, .int l1)] → f_X3_isName_30 n l1 tp_bytes tp_size = some r → W p l e { frames := 1, cells := 0, slots := 0, locals := 21 } s m args below meth c H locs 0 0 (MQ below (QcI E A (w_sh_tp E a_sh a_tp sh_names sh_nameLengths sh_groups sh_types sh_flat sh_size tp_bytes tp_size) r) args s 0 0 A) (F0 m 30 ls []) := by
  have hx := C.1
  have hb := C.2.1
  intro n
  induction n with
  | zero =>
    intro l1 tp_bytes tp_size H locs ls hw hl hf
    unfold f_X3_isName_30 at hf
    cases hf
  | succ n ih =>
    intro l1 tp_bytes tp_size H locs ls hw hl hf
    unfold f_X3_isName_30 at hf
    refine lv_iload_n hx hb dX3_isName_30 rfl (lv_at hl 1 rfl) ?_
    refine lv_aload_n hx hb dX3_isName_31 rfl (lv_at hl 0 rfl) ?_
    refine fg_X3_28 C hw 0 rfl rfl dX3_isName_32 ?_
    refine fg_X3_44 C hw 6 rfl rfl dX3_isName_35 ?_
    refine lv_icmp_ge (tgt := 63) hx hb dX3_isName_38 (by decide) (fun c38 => ?_) (fun c38 => ?_)
    · replace hf := it_t c38 hf
      refine lv_iconst (v := 1) hx hb dX3_isName_63 (by decide) ?_
      cases hf
      exact rt_z C hw (Or.inr rfl) dX3_isName_64
    · replace hf := it_f c38 hf
      refine lv_aload_n hx hb dX3_isName_41 rfl (lv_at hl 0 rfl) ?_
      refine fg_X3_28 C hw 0 rfl rfl dX3_isName_42 ?_
      refine lv_iload_n hx hb dX3_isName_45 rfl (lv_at hl 1 rfl) ?_
      obtain ⟨x1, z1, hf⟩ := ob1_el hf
      refine cI_V C hw (c_X4_at l E a_tp tp_bytes tp_size l1 x1 z1) cs_X3_51 ⟨Nat.le_of_ble_eq_true rfl, Nat.le_of_ble_eq_true rfl⟩ ⟨rfl, rfl⟩ (ci := 4) (cn := (RX4, TX4, 2)) rfl (q0 := 6) rfl (wn := w_sh_tp E a_sh a_tp sh_names sh_nameLengths sh_groups sh_types sh_flat sh_size tp_bytes tp_size) ⟨[6, 7], [0, 1, 2, 3, 4, 5], [0, 1, 2, 3, 4, 5, 6, 7], rfl, rfl, rfl, rfl, by decide, rfl, rfl⟩ rfl hl.1 rfl (Nat.le_of_ble_eq_true rfl) dX3_isName_46 ⟨Nat.zero_le _, Nat.zero_le _⟩ (fun H locs hw => ?_)
      obtain ⟨x2, z2, hf⟩ := ob1_el hf
      refine cI_N C hw (c_X5_isWordByte l E x1 x2 z2) cs_X3_58 ⟨Nat.le_of_ble_eq_true rfl, Nat.le_of_ble_eq_true rfl⟩ ⟨rfl, rfl⟩ (wn := w_sh_tp E a_sh a_tp sh_names sh_nameLengths sh_groups sh_types sh_flat sh_size tp_bytes tp_size) (Jn.none _) rfl hl.1 rfl (Nat.le_of_ble_eq_true rfl) dX3_isName_49 ⟨Nat.zero_le _, Nat.zero_le _⟩ (fun H locs hw => ?_)
      refine lv_if_ne (tgt := 57) hx hb dX3_isName_52 (by decide) (fun c52 => ?_) (fun c52 => ?_)
      · replace hf := it_f c52 hf
        obtain ⟨x3, ex3, hf⟩ := on_el hf
        refine lv_iinc (v := x3) (lv' := [(1, .int x3), (0, .ref (a_sh 0))]) hx hb dX3_isName_57 hl (k := 1) rfl (by rw [← ex3]; rfl) (by decide) rfl (fun ls hl => ?_)
        refine lv_goto (tgt := 30) hx hb dX3_isName_60 (by decide) ?_
        exact ih hw (lv_sub hl [1, 0] rfl) hf
      · replace hf := it_t c52 hf
        refine lv_iconst (v := 0) hx hb dX3_isName_55 (by decide) ?_
        cases hf
        exact rt_z C hw (Or.inl rfl) dX3_isName_56
def f_X3_isName (tp_bytes : Nat → Int32) (tp_size : Int32) : Option ((Int32)) :=
  if (16 : Int32) < tp_size then (some (0 : Int32))
  else (ob1 (f_X4_at (0 : Int32) tp_bytes tp_size) (fun x1 =>
  ob1 (f_X5_isLetter x1) (fun x2 =>
  if x2 = (0 : Int32) then (some (0 : Int32))
  else (f_X3_isName_30 FU (1 : Int32) tp_bytes tp_size))))
set_option maxHeartbeats 4000000 in
set_option maxRecDepth 100000 in
theorem c_X3_isName (l : Launch) (E : EnvT) (a_sh : Nat → Nat) (a_tp : Nat → Nat) (sh_names : Nat → Int32) (sh_nameLengths : Nat → Int32) (sh_groups : Nat → Int32) (sh_types : Nat → Int32) (sh_flat : Nat → Int32) (sh_size : Int32) (tp_bytes : Nat → Int32) (tp_size : Int32) (r : Int32) (hf : f_X3_isName tp_bytes tp_size = some r) : CI l yX3_isName (Cond.code yX3_isName cX3_isName 2 (some .boolean)) { frames := 1, cells := 0, slots := 0, locals := 21 } E [.ref (a_sh 0)] (w_sh_tp E a_sh a_tp sh_names sh_nameLengths sh_groups sh_types sh_flat sh_size tp_bytes tp_size) r (w_sh_tp E a_sh a_tp sh_names sh_nameLengths sh_groups sh_types sh_flat sh_size tp_bytes tp_size) := by
  intro sz
  refine met_start [(0, .ref (a_sh 0))] (by decide) rfl rfl (Nat.le_of_ble_eq_true rfl) rfl ?_
  intro p e s m below meth c ls C hnm hmt hw hl
  have hx := C.1
  have hb := C.2.1
  generalize va_A (w_sh_tp E a_sh a_tp sh_names sh_nameLengths sh_groups sh_types sh_flat sh_size tp_bytes tp_size) sz = A at C hw ⊢
  unfold f_X3_isName at hf
  refine lv_aload_n hx hb dX3_isName_0 rfl (lv_at hl 0 rfl) ?_
  refine fg_X3_28 C hw 0 rfl rfl dX3_isName_1 ?_
  refine fg_X3_44 C hw 6 rfl rfl dX3_isName_4 ?_
  refine lv_bipush (v := 16) hx hb dX3_isName_7 (by decide) ?_
  refine lv_icmp_gt (tgt := 26) hx hb dX3_isName_9 (by decide) (fun c9 => ?_) (fun c9 => ?_)
  · replace hf := it_t c9 hf
    refine lv_iconst (v := 0) hx hb dX3_isName_26 (by decide) ?_
    cases hf
    exact rt_z C hw (Or.inl rfl) dX3_isName_27
  · replace hf := it_f c9 hf
    refine lv_aload_n hx hb dX3_isName_12 rfl (lv_at hl 0 rfl) ?_
    refine fg_X3_28 C hw 0 rfl rfl dX3_isName_13 ?_
    refine lv_iconst (v := 0) hx hb dX3_isName_16 (by decide) ?_
    obtain ⟨x1, z1, hf⟩ := ob1_el hf
    refine cI_V C hw (c_X4_at l E a_tp tp_bytes tp_size (0 : Int32) x1 z1) cs_X3_51 ⟨Nat.le_of_ble_eq_true rfl, Nat.le_of_ble_eq_true rfl⟩ ⟨rfl, rfl⟩ (ci := 4) (cn := (RX4, TX4, 2)) rfl (q0 := 6) rfl (wn := w_sh_tp E a_sh a_tp sh_names sh_nameLengths sh_groups sh_types sh_flat sh_size tp_bytes tp_size) ⟨[6, 7], [0, 1, 2, 3, 4, 5], [0, 1, 2, 3, 4, 5, 6, 7], rfl, rfl, rfl, rfl, by decide, rfl, rfl⟩ rfl hl.1 rfl (Nat.le_of_ble_eq_true rfl) dX3_isName_17 ⟨Nat.zero_le _, Nat.zero_le _⟩ (fun H locs hw => ?_)
    obtain ⟨x2, z2, hf⟩ := ob1_el hf
    refine cI_N C hw (c_X5_isLetter l E x1 x2 z2) cs_X3_54 ⟨Nat.le_of_ble_eq_true rfl, Nat.le_of_ble_eq_true rfl⟩ ⟨rfl, rfl⟩ (wn := w_sh_tp E a_sh a_tp sh_names sh_nameLengths sh_groups sh_types sh_flat sh_size tp_bytes tp_size) (Jn.none _) rfl hl.1 rfl (Nat.le_of_ble_eq_true rfl) dX3_isName_20 ⟨Nat.zero_le _, Nat.zero_le _⟩ (fun H locs hw => ?_)
    refine lv_if_ne (tgt := 28) hx hb dX3_isName_23 (by decide) (fun c23 => ?_) (fun c23 => ?_)
    · replace hf := it_f c23 hf
      refine lv_iconst (v := 1) hx hb dX3_isName_28 (by decide) ?_
      refine lv_istore_n (lv' := [(1, .int (1 : Int32)), (0, .ref (a_sh 0))]) hx hb dX3_isName_29 rfl hl (by decide) rfl (fun ls hl => ?_)
      exact w_X3_isName_30 C FU hw (lv_sub hl [1, 0] rfl) hf
    · replace hf := it_t c23 hf
      refine lv_iconst (v := 0) hx hb dX3_isName_26 (by decide) ?_
      cases hf
      exact rt_z C hw (Or.inl rfl) dX3_isName_27
def f_X3_add_74 : Nat → (Int32) → (Nat → Int32) → (Int32) → (Nat → Int32) → (Int32) → Option ((Nat → Int32))
  | 0, _, _, _, _, _ => none
  | n + 1, l4, sh_names, sh_size, tp_bytes, tp_size =>
  if tp_size ≤ l4 then (some sh_names)
  else (if (16 : Int32) ≤ l4 then (some sh_names)
  else (ob1 (f_X4_at l4 tp_bytes tp_size) (fun x1 =>
  wr sh_names 1024 ((sh_size * (16 : Int32)) + l4) x1 (fun x2 =>
  on (l4 + (1 : Int32)) (fun x3 =>
  f_X3_add_74 n x3 x2 sh_size tp_bytes tp_size)))))
set_option maxHeartbeats 4000000 in
set_option maxRecDepth 100000 in
theorem w_X3_add_74 {p : Program} {l : Launch} {e : Env} {s : State} {m : MethodId} {args : Array Value} {below : List Frame} {meth : Method} {c : Code} {E : EnvT} {A : Nat → Prop} {a_sh : Nat → Nat} {a_tp : Nat → Nat} {Q : State → Prop} {sh_nameLengths : Nat → Int32} {sh_groups : Nat → Int32} {sh_types : Nat → Int32} {sh_flat : Nat → Int32} {l1 : Int32} {l2 : Int32} {l3 : Int32} {q_sh_names : Nat → Int32} (C : MC p s m args meth c E A cX3_add 5 RX3 (some .int)) : ∀ (n : Nat) {l4 : Int32} {sh_names : Nat → Int32} {sh_size : Int32} {tp_bytes : Nat → Int32} {tp_size : Int32} {H : Heap} {locs : List Loc} {ls : Array Slot}, WS E A s (w_sh_tp E a_sh a_tp sh_names sh_nameLengths sh_groups sh_types sh_flat sh_size tp_bytes tp_size) H locs → lv_has ls 5 [(0, .ref (a_sh 0)), (1, .int l1), (2, .int l2), (3, .int l3), (4, .int l4)] → f_X3_add_74 n l4 sh_names sh_size tp_bytes tp_size = some q_sh_names → (∀ (H : Heap) (locs : List Loc) (ls : Array Slot), WS E A s (w_sh_tp E a_sh a_tp q_sh_names sh_nameLengths sh_groups sh_types sh_flat sh_size tp_bytes tp_size) H locs → lv_has ls 5 [(0, .ref (a_sh 0)), (1, .int l1), (2, .int l2), (3, .int l3)] → W p l e { frames := 3, cells := 0, slots := 0, locals := 68 } s m args below meth c H locs 0 0 Q (F0 m 123 ls [])) → W p l e { frames := 3, cells := 0, slots := 0, locals := 68 } s m args below meth c H locs 0 0 Q (F0 m 74 ls []) := by
  have hx := C.1
  have hb := C.2.1
  intro n
  induction n with
  | zero =>
    intro l4 sh_names sh_size tp_bytes tp_size H locs ls hw hl hf kk
    unfold f_X3_add_74 at hf
    cases hf
  | succ n ih =>
    intro l4 sh_names sh_size tp_bytes tp_size H locs ls hw hl hf kk
    unfold f_X3_add_74 at hf
    refine lv_iload hx hb dX3_add_74 (lv_at hl 4 rfl) ?_
    refine lv_aload_n hx hb dX3_add_76 rfl (lv_at hl 0 rfl) ?_
    refine fg_X3_28 C hw 0 rfl rfl dX3_add_77 ?_
    refine fg_X3_44 C hw 6 rfl rfl dX3_add_80 ?_
    refine lv_icmp_ge (tgt := 123) hx hb dX3_add_83 (by decide) (fun c83 => ?_) (fun c83 => ?_)
    · replace hf := it_t c83 hf
      cases hf
      exact kk _ _ _ hw (lv_sub hl [0, 1, 2, 3] rfl)
    · replace hf := it_f c83 hf
      refine lv_iload hx hb dX3_add_86 (lv_at hl 4 rfl) ?_
      refine lv_bipush (v := 16) hx hb dX3_add_88 (by decide) ?_
      refine lv_icmp_ge (tgt := 123) hx hb dX3_add_90 (by decide) (fun c90 => ?_) (fun c90 => ?_)
      · replace hf := it_t c90 hf
        cases hf
        exact kk _ _ _ hw (lv_sub hl [0, 1, 2, 3] rfl)
      · replace hf := it_f c90 hf
        refine lv_aload_n hx hb dX3_add_93 rfl (lv_at hl 0 rfl) ?_
        refine fg_X3_9 C hw 0 rfl rfl dX3_add_94 ?_
        refine lv_aload_n hx hb dX3_add_97 rfl (lv_at hl 0 rfl) ?_
        refine fg_X3_32 C hw 0 rfl rfl dX3_add_98 ?_
        refine lv_bipush (v := 16) hx hb dX3_add_101 (by decide) ?_
        refine lv_imul hx hb dX3_add_103 ?_
        refine lv_iload hx hb dX3_add_104 (lv_at hl 4 rfl) ?_
        refine lv_iadd hx hb dX3_add_106 ?_
        refine lv_aload_n hx hb dX3_add_107 rfl (lv_at hl 0 rfl) ?_
        refine fg_X3_28 C hw 0 rfl rfl dX3_add_108 ?_
        refine lv_iload hx hb dX3_add_111 (lv_at hl 4 rfl) ?_
        obtain ⟨x1, z1, hf⟩ := ob1_el hf
        refine cI_V C hw (c_X4_at l E a_tp tp_bytes tp_size l4 x1 z1) cs_X3_51 ⟨Nat.le_of_ble_eq_true rfl, Nat.le_of_ble_eq_true rfl⟩ ⟨rfl, rfl⟩ (ci := 4) (cn := (RX4, TX4, 2)) rfl (q0 := 6) rfl (wn := w_sh_tp E a_sh a_tp sh_names sh_nameLengths sh_groups sh_types sh_flat sh_size tp_bytes tp_size) ⟨[6, 7], [0, 1, 2, 3, 4, 5], [0, 1, 2, 3, 4, 5, 6, 7], rfl, rfl, rfl, rfl, by decide, rfl, rfl⟩ rfl hl.1 rfl (Nat.le_of_ble_eq_true rfl) dX3_add_113 ⟨Nat.zero_le _, Nat.zero_le _⟩ (fun H locs hw => ?_)
        obtain ⟨x2, ex2, gx2, hf⟩ := wr_el hf
        refine rs_i C hw 1 rfl gx2 (ws' := w_sh_tp E a_sh a_tp x2 sh_nameLengths sh_groups sh_types sh_flat sh_size tp_bytes tp_size) (by subst ex2; rfl) dX3_add_116 (fun H locs hw => ?_)
        obtain ⟨x3, ex3, hf⟩ := on_el hf
        refine lv_iinc (v := x3) (lv' := [(4, .int x3), (0, .ref (a_sh 0)), (1, .int l1), (2, .int l2), (3, .int l3)]) hx hb dX3_add_117 hl (k := 4) rfl (by rw [← ex3]; rfl) (by decide) rfl (fun ls hl => ?_)
        refine lv_goto (tgt := 74) hx hb dX3_add_120 (by decide) ?_
        exact ih hw (lv_sub hl [1, 2, 3, 4, 0] rfl) hf kk
def f_X3_add_191 (s1 : Int32) (s2 : Int32) (sh_names : Nat → Int32) (sh_nameLengths : Nat → Int32) (sh_groups : Nat → Int32) (sh_types : Nat → Int32) (sh_flat : Nat → Int32) (sh_size : Int32) : Option ((Int32) × (Nat → Int32) × (Nat → Int32) × (Nat → Int32) × (Nat → Int32) × (Nat → Int32) × (Int32)) :=
  wrZ sh_flat 64 s1 s2 (fun x1 =>
  on (sh_size + (1 : Int32)) (fun x2 =>
  some ((x2 - (1 : Int32)), sh_names, sh_nameLengths, sh_groups, sh_types, x1, x2)))
set_option maxHeartbeats 4000000 in
set_option maxRecDepth 100000 in
theorem w_X3_add_191 {p : Program} {l : Launch} {e : Env} {s : State} {m : MethodId} {args : Array Value} {below : List Frame} {meth : Method} {c : Code} {E : EnvT} {A : Nat → Prop} {a_sh : Nat → Nat} {a_tp : Nat → Nat} {tp_bytes : Nat → Int32} {tp_size : Int32} {r : Int32} {o_sh_names : Nat → Int32} {o_sh_nameLengths : Nat → Int32} {o_sh_groups : Nat → Int32} {o_sh_types : Nat → Int32} {o_sh_flat : Nat → Int32} {o_sh_size : Int32} {s1 : Int32} {s2 : Int32} {sh_names : Nat → Int32} {sh_nameLengths : Nat → Int32} {sh_groups : Nat → Int32} {sh_types : Nat → Int32} {sh_flat : Nat → Int32} {sh_size : Int32} {H : Heap} {locs : List Loc} {ls : Array Slot} (C : MC p s m args meth c E A cX3_add 5 RX3 (some .int)) (hw : WS E A s (w_sh_tp E a_sh a_tp sh_names sh_nameLengths sh_groups sh_types sh_flat sh_size tp_bytes tp_size) H locs) (hl : lv_has ls 5 [(0, .ref (a_sh 0))]) (hf : f_X3_add_191 s1 s2 sh_names sh_nameLengths sh_groups sh_types sh_flat sh_size = some (r, o_sh_names, o_sh_nameLengths, o_sh_groups, o_sh_types, o_sh_flat, o_sh_size)) : W p l e { frames := 3, cells := 0, slots := 0, locals := 68 } s m args below meth c H locs 0 0 (MQ below (QcI E A (w_sh_tp E a_sh a_tp o_sh_names o_sh_nameLengths o_sh_groups o_sh_types o_sh_flat o_sh_size tp_bytes tp_size) r) args s 0 0 A) (F0 m 191 ls [.int s2, .int s1, .ref (a_sh 5)]) := by
  have hx := C.1
  have hb := C.2.1
  unfold f_X3_add_191 at hf
  obtain ⟨x1, ex1, gx1, hf⟩ := wrZ_el hf
  refine rs_z C hw 5 rfl gx1 (ws' := w_sh_tp E a_sh a_tp sh_names sh_nameLengths sh_groups sh_types x1 sh_size tp_bytes tp_size) (by subst ex1; rfl) dX3_add_191 (fun H locs hw => ?_)
  refine lv_aload_n hx hb dX3_add_192 rfl (lv_at hl 0 rfl) ?_
  refine lv_dup hx hb dX3_add_193 rfl ?_
  refine fg_X3_32 C hw 0 rfl rfl dX3_add_194 ?_
  refine lv_iconst (v := 1) hx hb dX3_add_197 (by decide) ?_
  refine lv_iadd hx hb dX3_add_198 ?_
  obtain ⟨x2, ex2, hf⟩ := on_el hf
  refine tp_i ex2 ?_
  refine fp_X3_32 C hw 0 rfl (Nat.le_of_ble_eq_true rfl) (ws' := w_sh_tp E a_sh a_tp sh_names sh_nameLengths sh_groups sh_types x1 x2 tp_bytes tp_size) rfl dX3_add_199 (fun H locs hw => ?_)
  refine lv_aload_n hx hb dX3_add_202 rfl (lv_at hl 0 rfl) ?_
  refine fg_X3_32 C hw 0 rfl rfl dX3_add_203 ?_
  refine lv_iconst (v := 1) hx hb dX3_add_206 (by decide) ?_
  refine lv_isub hx hb dX3_add_207 ?_
  cases hf
  exact rt_i C hw dX3_add_208
def f_X3_add_190 (s1 : Int32) (sh_names : Nat → Int32) (sh_nameLengths : Nat → Int32) (sh_groups : Nat → Int32) (sh_types : Nat → Int32) (sh_flat : Nat → Int32) (sh_size : Int32) : Option ((Int32) × (Nat → Int32) × (Nat → Int32) × (Nat → Int32) × (Nat → Int32) × (Nat → Int32) × (Int32)) :=
  f_X3_add_191 s1 (0 : Int32) sh_names sh_nameLengths sh_groups sh_types sh_flat sh_size
set_option maxHeartbeats 4000000 in
set_option maxRecDepth 100000 in
theorem w_X3_add_190 {p : Program} {l : Launch} {e : Env} {s : State} {m : MethodId} {args : Array Value} {below : List Frame} {meth : Method} {c : Code} {E : EnvT} {A : Nat → Prop} {a_sh : Nat → Nat} {a_tp : Nat → Nat} {tp_bytes : Nat → Int32} {tp_size : Int32} {r : Int32} {o_sh_names : Nat → Int32} {o_sh_nameLengths : Nat → Int32} {o_sh_groups : Nat → Int32} {o_sh_types : Nat → Int32} {o_sh_flat : Nat → Int32} {o_sh_size : Int32} {s1 : Int32} {sh_names : Nat → Int32} {sh_nameLengths : Nat → Int32} {sh_groups : Nat → Int32} {sh_types : Nat → Int32} {sh_flat : Nat → Int32} {sh_size : Int32} {H : Heap} {locs : List Loc} {ls : Array Slot} (C : MC p s m args meth c E A cX3_add 5 RX3 (some .int)) (hw : WS E A s (w_sh_tp E a_sh a_tp sh_names sh_nameLengths sh_groups sh_types sh_flat sh_size tp_bytes tp_size) H locs) (hl : lv_has ls 5 [(0, .ref (a_sh 0))]) (hf : f_X3_add_190 s1 sh_names sh_nameLengths sh_groups sh_types sh_flat sh_size = some (r, o_sh_names, o_sh_nameLengths, o_sh_groups, o_sh_types, o_sh_flat, o_sh_size)) : W p l e { frames := 3, cells := 0, slots := 0, locals := 68 } s m args below meth c H locs 0 0 (MQ below (QcI E A (w_sh_tp E a_sh a_tp o_sh_names o_sh_nameLengths o_sh_groups o_sh_types o_sh_flat o_sh_size tp_bytes tp_size) r) args s 0 0 A) (F0 m 190 ls [.int s1, .ref (a_sh 5)]) := by
  have hx := C.1
  have hb := C.2.1
  unfold f_X3_add_190 at hf
  refine lv_iconst (v := 0) hx hb dX3_add_190 (by decide) ?_
  exact w_X3_add_191 C hw (lv_sub hl [0] rfl) hf
def f_X3_add_186 (s1 : Int32) (sh_names : Nat → Int32) (sh_nameLengths : Nat → Int32) (sh_groups : Nat → Int32) (sh_types : Nat → Int32) (sh_flat : Nat → Int32) (sh_size : Int32) : Option ((Int32) × (Nat → Int32) × (Nat → Int32) × (Nat → Int32) × (Nat → Int32) × (Nat → Int32) × (Int32)) :=
  f_X3_add_191 s1 (1 : Int32) sh_names sh_nameLengths sh_groups sh_types sh_flat sh_size
set_option maxHeartbeats 4000000 in
set_option maxRecDepth 100000 in
theorem w_X3_add_186 {p : Program} {l : Launch} {e : Env} {s : State} {m : MethodId} {args : Array Value} {below : List Frame} {meth : Method} {c : Code} {E : EnvT} {A : Nat → Prop} {a_sh : Nat → Nat} {a_tp : Nat → Nat} {tp_bytes : Nat → Int32} {tp_size : Int32} {r : Int32} {o_sh_names : Nat → Int32} {o_sh_nameLengths : Nat → Int32} {o_sh_groups : Nat → Int32} {o_sh_types : Nat → Int32} {o_sh_flat : Nat → Int32} {o_sh_size : Int32} {s1 : Int32} {sh_names : Nat → Int32} {sh_nameLengths : Nat → Int32} {sh_groups : Nat → Int32} {sh_types : Nat → Int32} {sh_flat : Nat → Int32} {sh_size : Int32} {H : Heap} {locs : List Loc} {ls : Array Slot} (C : MC p s m args meth c E A cX3_add 5 RX3 (some .int)) (hw : WS E A s (w_sh_tp E a_sh a_tp sh_names sh_nameLengths sh_groups sh_types sh_flat sh_size tp_bytes tp_size) H locs) (hl : lv_has ls 5 [(0, .ref (a_sh 0))]) (hf : f_X3_add_186 s1 sh_names sh_nameLengths sh_groups sh_types sh_flat sh_size = some (r, o_sh_names, o_sh_nameLengths, o_sh_groups, o_sh_types, o_sh_flat, o_sh_size)) : W p l e { frames := 3, cells := 0, slots := 0, locals := 68 } s m args below meth c H locs 0 0 (MQ below (QcI E A (w_sh_tp E a_sh a_tp o_sh_names o_sh_nameLengths o_sh_groups o_sh_types o_sh_flat o_sh_size tp_bytes tp_size) r) args s 0 0 A) (F0 m 186 ls [.int s1, .ref (a_sh 5)]) := by
  have hx := C.1
  have hb := C.2.1
  unfold f_X3_add_186 at hf
  refine lv_iconst (v := 1) hx hb dX3_add_186 (by decide) ?_
  refine lv_goto (tgt := 191) hx hb dX3_add_187 (by decide) ?_
  exact w_X3_add_191 C hw (lv_sub hl [0] rfl) hf
def f_X3_add_123 (l1 : Int32) (l2 : Int32) (l3 : Int32) (sh_names : Nat → Int32) (sh_nameLengths : Nat → Int32) (sh_groups : Nat → Int32) (sh_types : Nat → Int32) (sh_flat : Nat → Int32) (sh_size : Int32) (tp_size : Int32) : Option ((Int32) × (Nat → Int32) × (Nat → Int32) × (Nat → Int32) × (Nat → Int32) × (Nat → Int32) × (Int32)) :=
  wr sh_nameLengths 64 sh_size tp_size (fun x1 =>
  wr sh_groups 64 sh_size l1 (fun x2 =>
  wr sh_types 64 sh_size l3 (fun x3 =>
  if l2 = (2 : Int32) then (f_X3_add_190 sh_size sh_names x1 x2 x3 sh_flat sh_size)
  else (if l1 = (-1 : Int32) then (f_X3_add_186 sh_size sh_names x1 x2 x3 sh_flat sh_size)
  else (rd sh_flat 64 l1 (fun x4 =>
  if x4 = (0 : Int32) then (f_X3_add_190 sh_size sh_names x1 x2 x3 sh_flat sh_size)
  else (f_X3_add_186 sh_size sh_names x1 x2 x3 sh_flat sh_size)))))))
set_option maxHeartbeats 4000000 in
set_option maxRecDepth 100000 in
theorem w_X3_add_123 {p : Program} {l : Launch} {e : Env} {s : State} {m : MethodId} {args : Array Value} {below : List Frame} {meth : Method} {c : Code} {E : EnvT} {A : Nat → Prop} {a_sh : Nat → Nat} {a_tp : Nat → Nat} {tp_bytes : Nat → Int32} {r : Int32} {o_sh_names : Nat → Int32} {o_sh_nameLengths : Nat → Int32} {o_sh_groups : Nat → Int32} {o_sh_types : Nat → Int32} {o_sh_flat : Nat → Int32} {o_sh_size : Int32} {l1 : Int32} {l2 : Int32} {l3 : Int32} {sh_names : Nat → Int32} {sh_nameLengths : Nat → Int32} {sh_groups : Nat → Int32} {sh_types : Nat → Int32} {sh_flat : Nat → Int32} {sh_size : Int32} {tp_size : Int32} {H : Heap} {locs : List Loc} {ls : Array Slot} (C : MC p s m args meth c E A cX3_add 5 RX3 (some .int)) (hw : WS E A s (w_sh_tp E a_sh a_tp sh_names sh_nameLengths sh_groups sh_types sh_flat sh_size tp_bytes tp_size) H locs) (hl : lv_has ls 5 [(0, .ref (a_sh 0)), (1, .int l1), (2, .int l2), (3, .int l3)]) (hf : f_X3_add_123 l1 l2 l3 sh_names sh_nameLengths sh_groups sh_types sh_flat sh_size tp_size = some (r, o_sh_names, o_sh_nameLengths, o_sh_groups, o_sh_types, o_sh_flat, o_sh_size)) : W p l e { frames := 3, cells := 0, slots := 0, locals := 68 } s m args below meth c H locs 0 0 (MQ below (QcI E A (w_sh_tp E a_sh a_tp o_sh_names o_sh_nameLengths o_sh_groups o_sh_types o_sh_flat o_sh_size tp_bytes tp_size) r) args s 0 0 A) (F0 m 123 ls []) := by
  have hx := C.1
  have hb := C.2.1
  unfold f_X3_add_123 at hf
  refine lv_aload_n hx hb dX3_add_123 rfl (lv_at hl 0 rfl) ?_
  refine fg_X3_15 C hw 0 rfl rfl dX3_add_124 ?_
  refine lv_aload_n hx hb dX3_add_127 rfl (lv_at hl 0 rfl) ?_
  refine fg_X3_32 C hw 0 rfl rfl dX3_add_128 ?_
  refine lv_aload_n hx hb dX3_add_131 rfl (lv_at hl 0 rfl) ?_
  refine fg_X3_28 C hw 0 rfl rfl dX3_add_132 ?_
  refine fg_X3_44 C hw 6 rfl rfl dX3_add_135 ?_
  obtain ⟨x1, ex1, gx1, hf⟩ := wr_el hf
  refine rs_i C hw 2 rfl gx1 (ws' := w_sh_tp E a_sh a_tp sh_names x1 sh_groups sh_types sh_flat sh_size tp_bytes tp_size) (by subst ex1; rfl) dX3_add_138 (fun H locs hw => ?_)
  refine lv_aload_n hx hb dX3_add_139 rfl (lv_at hl 0 rfl) ?_
  refine fg_X3_18 C hw 0 rfl rfl dX3_add_140 ?_
  refine lv_aload_n hx hb dX3_add_143 rfl (lv_at hl 0 rfl) ?_
  refine fg_X3_32 C hw 0 rfl rfl dX3_add_144 ?_
  refine lv_iload_n hx hb dX3_add_147 rfl (lv_at hl 1 rfl) ?_
  obtain ⟨x2, ex2, gx2, hf⟩ := wr_el hf
  refine rs_i C hw 3 rfl gx2 (ws' := w_sh_tp E a_sh a_tp sh_names x1 x2 sh_types sh_flat sh_size tp_bytes tp_size) (by subst ex2; rfl) dX3_add_148 (fun H locs hw => ?_)
  refine lv_aload_n hx hb dX3_add_149 rfl (lv_at hl 0 rfl) ?_
  refine fg_X3_21 C hw 0 rfl rfl dX3_add_150 ?_
  refine lv_aload_n hx hb dX3_add_153 rfl (lv_at hl 0 rfl) ?_
  refine fg_X3_32 C hw 0 rfl rfl dX3_add_154 ?_
  refine lv_iload_n hx hb dX3_add_157 rfl (lv_at hl 3 rfl) ?_
  obtain ⟨x3, ex3, gx3, hf⟩ := wr_el hf
  refine rs_i C hw 4 rfl gx3 (ws' := w_sh_tp E a_sh a_tp sh_names x1 x2 x3 sh_flat sh_size tp_bytes tp_size) (by subst ex3; rfl) dX3_add_158 (fun H locs hw => ?_)
  refine lv_aload_n hx hb dX3_add_159 rfl (lv_at hl 0 rfl) ?_
  refine fg_X3_24 C hw 0 rfl rfl dX3_add_160 ?_
  refine lv_aload_n hx hb dX3_add_163 rfl (lv_at hl 0 rfl) ?_
  refine fg_X3_32 C hw 0 rfl rfl dX3_add_164 ?_
  refine lv_iload_n hx hb dX3_add_167 rfl (lv_at hl 2 rfl) ?_
  refine lv_iconst (v := 2) hx hb dX3_add_168 (by decide) ?_
  refine lv_icmp_eq (tgt := 190) hx hb dX3_add_169 (by decide) (fun c169 => ?_) (fun c169 => ?_)
  · replace hf := it_t c169 hf
    exact w_X3_add_190 C hw (lv_sub hl [0] rfl) hf
  · replace hf := it_f c169 hf
    refine lv_iload_n hx hb dX3_add_172 rfl (lv_at hl 1 rfl) ?_
    refine lv_iconst (v := -1) hx hb dX3_add_173 (by decide) ?_
    refine lv_icmp_eq (tgt := 186) hx hb dX3_add_174 (by decide) (fun c174 => ?_) (fun c174 => ?_)
    · replace hf := it_t c174 hf
      exact w_X3_add_186 C hw (lv_sub hl [0] rfl) hf
    · replace hf := it_f c174 hf
      refine lv_aload_n hx hb dX3_add_177 rfl (lv_at hl 0 rfl) ?_
      refine fg_X3_24 C hw 0 rfl rfl dX3_add_178 ?_
      refine lv_iload_n hx hb dX3_add_181 rfl (lv_at hl 1 rfl) ?_
      obtain ⟨x4, ex4, gx4, hf⟩ := rd_el hf
      refine ra_z C hw 5 rfl gx4 dX3_add_182 ?_
      refine tp_i ex4 ?_
      refine lv_if_eq (tgt := 190) hx hb dX3_add_183 (by decide) (fun c183 => ?_) (fun c183 => ?_)
      · replace hf := it_t c183 hf
        exact w_X3_add_190 C hw (lv_sub hl [0] rfl) hf
      · replace hf := it_f c183 hf
        exact w_X3_add_186 C hw (lv_sub hl [0] rfl) hf
def f_X3_add_45 (l1 : Int32) (l2 : Int32) (l3 : Int32) (sh_names : Nat → Int32) (sh_nameLengths : Nat → Int32) (sh_groups : Nat → Int32) (sh_types : Nat → Int32) (sh_flat : Nat → Int32) (sh_size : Int32) (tp_bytes : Nat → Int32) (tp_size : Int32) : Option ((Int32) × (Nat → Int32) × (Nat → Int32) × (Nat → Int32) × (Nat → Int32) × (Nat → Int32) × (Int32)) :=
  ob1 (f_X3_isName tp_bytes tp_size) (fun x1 =>
  if x1 = (0 : Int32) then (some ((-1 : Int32), sh_names, sh_nameLengths, sh_groups, sh_types, sh_flat, sh_size))
  else (ob1 (f_X3_find l1 (0 : Int32) tp_size sh_names sh_nameLengths sh_groups sh_size tp_bytes tp_size) (fun x2 =>
  if x2 = (-1 : Int32) then (ob1 (f_X3_add_74 FU (0 : Int32) sh_names sh_size tp_bytes tp_size) (fun x3 =>
  f_X3_add_123 l1 l2 l3 x3 sh_nameLengths sh_groups sh_types sh_flat sh_size tp_size))
  else (some ((-1 : Int32), sh_names, sh_nameLengths, sh_groups, sh_types, sh_flat, sh_size)))))
set_option maxHeartbeats 4000000 in
set_option maxRecDepth 100000 in
theorem w_X3_add_45 {p : Program} {l : Launch} {e : Env} {s : State} {m : MethodId} {args : Array Value} {below : List Frame} {meth : Method} {c : Code} {E : EnvT} {A : Nat → Prop} {a_sh : Nat → Nat} {a_tp : Nat → Nat} {r : Int32} {o_sh_names : Nat → Int32} {o_sh_nameLengths : Nat → Int32} {o_sh_groups : Nat → Int32} {o_sh_types : Nat → Int32} {o_sh_flat : Nat → Int32} {o_sh_size : Int32} {l1 : Int32} {l2 : Int32} {l3 : Int32} {sh_names : Nat → Int32} {sh_nameLengths : Nat → Int32} {sh_groups : Nat → Int32} {sh_types : Nat → Int32} {sh_flat : Nat → Int32} {sh_size : Int32} {tp_bytes : Nat → Int32} {tp_size : Int32} {H : Heap} {locs : List Loc} {ls : Array Slot} (C : MC p s m args meth c E A cX3_add 5 RX3 (some .int)) (hw : WS E A s (w_sh_tp E a_sh a_tp sh_names sh_nameLengths sh_groups sh_types sh_flat sh_size tp_bytes tp_size) H locs) (hl : lv_has ls 5 [(0, .ref (a_sh 0)), (1, .int l1), (2, .int l2), (3, .int l3)]) (hf : f_X3_add_45 l1 l2 l3 sh_names sh_nameLengths sh_groups sh_types sh_flat sh_size tp_bytes tp_size = some (r, o_sh_names, o_sh_nameLengths, o_sh_groups, o_sh_types, o_sh_flat, o_sh_size)) : W p l e { frames := 3, cells := 0, slots := 0, locals := 68 } s m args below meth c H locs 0 0 (MQ below (QcI E A (w_sh_tp E a_sh a_tp o_sh_names o_sh_nameLengths o_sh_groups o_sh_types o_sh_flat o_sh_size tp_bytes tp_size) r) args s 0 0 A) (F0 m 45 ls []) := by
  have hx := C.1
  have hb := C.2.1
  unfold f_X3_add_45 at hf
  refine lv_aload_n hx hb dX3_add_45 rfl (lv_at hl 0 rfl) ?_
  obtain ⟨x1, z1, hf⟩ := ob1_el hf
  refine cI_V C hw (c_X3_isName l E a_sh a_tp sh_names sh_nameLengths sh_groups sh_types sh_flat sh_size tp_bytes tp_size x1 z1) cs_X3_40 ⟨Nat.le_of_ble_eq_true rfl, Nat.le_of_ble_eq_true rfl⟩ ⟨rfl, rfl⟩ (ci := 3) (cn := (RX3, TX3, 7)) rfl (q0 := 0) rfl (wn := w_sh_tp E a_sh a_tp sh_names sh_nameLengths sh_groups sh_types sh_flat sh_size tp_bytes tp_size) (Jn.all _ _) rfl hl.1 rfl (Nat.le_of_ble_eq_true rfl) dX3_add_46 ⟨Nat.zero_le _, Nat.zero_le _⟩ (fun H locs hw => ?_)
  refine lv_if_eq (tgt := 69) hx hb dX3_add_49 (by decide) (fun c49 => ?_) (fun c49 => ?_)
  · replace hf := it_t c49 hf
    refine lv_iconst (v := -1) hx hb dX3_add_69 (by decide) ?_
    cases hf
    exact rt_i C hw dX3_add_70
  · replace hf := it_f c49 hf
    refine lv_aload_n hx hb dX3_add_52 rfl (lv_at hl 0 rfl) ?_
    refine lv_iload_n hx hb dX3_add_53 rfl (lv_at hl 1 rfl) ?_
    refine lv_iconst (v := 0) hx hb dX3_add_54 (by decide) ?_
    refine lv_aload_n hx hb dX3_add_55 rfl (lv_at hl 0 rfl) ?_
    refine fg_X3_28 C hw 0 rfl rfl dX3_add_56 ?_
    refine fg_X3_44 C hw 6 rfl rfl dX3_add_59 ?_
    obtain ⟨x2, z2, hf⟩ := ob1_el hf
    refine cI_V C hw (c_X3_find l E a_sh a_tp sh_names sh_nameLengths sh_groups sh_types sh_flat sh_size tp_bytes tp_size l1 (0 : Int32) tp_size x2 z2) cs_X3_47 ⟨Nat.le_of_ble_eq_true rfl, Nat.le_of_ble_eq_true rfl⟩ ⟨rfl, rfl⟩ (ci := 3) (cn := (RX3, TX3, 7)) rfl (q0 := 0) rfl (wn := w_sh_tp E a_sh a_tp sh_names sh_nameLengths sh_groups sh_types sh_flat sh_size tp_bytes tp_size) (Jn.all _ _) rfl hl.1 rfl (Nat.le_of_ble_eq_true rfl) dX3_add_62 ⟨Nat.zero_le _, Nat.zero_le _⟩ (fun H locs hw => ?_)
    refine lv_iconst (v := -1) hx hb dX3_add_65 (by decide) ?_
    refine lv_icmp_eq (tgt := 71) hx hb dX3_add_66 (by decide) (fun c66 => ?_) (fun c66 => ?_)
    · replace hf := it_t c66 hf
      refine lv_iconst (v := 0) hx hb dX3_add_71 (by decide) ?_
      refine lv_istore (lv' := [(4, .int (0 : Int32)), (0, .ref (a_sh 0)), (1, .int l1), (2, .int l2), (3, .int l3)]) hx hb dX3_add_72 hl (by decide) rfl (fun ls hl => ?_)
      obtain ⟨x3, hx3, hf⟩ := ob1_el hf
      refine w_X3_add_74 C FU hw (lv_sub hl [1, 2, 3, 4, 0] rfl) hx3 ?_
      clear hw hl
      intro H locs ls hw hl
      exact w_X3_add_123 C hw (lv_sub hl [0, 1, 2, 3] rfl) hf
    · replace hf := it_f c66 hf
      refine lv_iconst (v := -1) hx hb dX3_add_69 (by decide) ?_
      cases hf
      exact rt_i C hw dX3_add_70
def f_X3_add (p1 : Int32) (p2 : Int32) (p3 : Int32) (sh_names : Nat → Int32) (sh_nameLengths : Nat → Int32) (sh_groups : Nat → Int32) (sh_types : Nat → Int32) (sh_flat : Nat → Int32) (sh_size : Int32) (tp_bytes : Nat → Int32) (tp_size : Int32) : Option ((Int32) × (Nat → Int32) × (Nat → Int32) × (Nat → Int32) × (Nat → Int32) × (Nat → Int32) × (Int32)) :=
  if (64 : Int32) ≤ sh_size then (some ((-1 : Int32), sh_names, sh_nameLengths, sh_groups, sh_types, sh_flat, sh_size))
  else (if p2 < (0 : Int32) then (some ((-1 : Int32), sh_names, sh_nameLengths, sh_groups, sh_types, sh_flat, sh_size))
  else (if (2 : Int32) < p2 then (some ((-1 : Int32), sh_names, sh_nameLengths, sh_groups, sh_types, sh_flat, sh_size))
  else (if p3 < (0 : Int32) then (some ((-1 : Int32), sh_names, sh_nameLengths, sh_groups, sh_types, sh_flat, sh_size))
  else (if p3 ≤ (4 : Int32) then (if p1 = (-1 : Int32) then (f_X3_add_45 p1 p2 p3 sh_names sh_nameLengths sh_groups sh_types sh_flat sh_size tp_bytes tp_size)
  else (ob1 (f_X3_typeOf p1 sh_types sh_size) (fun x1 =>
  if x1 = (4 : Int32) then (f_X3_add_45 p1 p2 p3 sh_names sh_nameLengths sh_groups sh_types sh_flat sh_size tp_bytes tp_size)
  else (some ((-1 : Int32), sh_names, sh_nameLengths, sh_groups, sh_types, sh_flat, sh_size)))))
  else (some ((-1 : Int32), sh_names, sh_nameLengths, sh_groups, sh_types, sh_flat, sh_size))))))
set_option maxHeartbeats 4000000 in
set_option maxRecDepth 100000 in
theorem c_X3_add (l : Launch) (E : EnvT) (a_sh : Nat → Nat) (a_tp : Nat → Nat) (sh_names : Nat → Int32) (sh_nameLengths : Nat → Int32) (sh_groups : Nat → Int32) (sh_types : Nat → Int32) (sh_flat : Nat → Int32) (sh_size : Int32) (tp_bytes : Nat → Int32) (tp_size : Int32) (p1 : Int32) (p2 : Int32) (p3 : Int32) (r : Int32) (o_sh_names : Nat → Int32) (o_sh_nameLengths : Nat → Int32) (o_sh_groups : Nat → Int32) (o_sh_types : Nat → Int32) (o_sh_flat : Nat → Int32) (o_sh_size : Int32) (hf : f_X3_add p1 p2 p3 sh_names sh_nameLengths sh_groups sh_types sh_flat sh_size tp_bytes tp_size = some (r, o_sh_names, o_sh_nameLengths, o_sh_groups, o_sh_types, o_sh_flat, o_sh_size)) : CI l yX3_add (Cond.code yX3_add cX3_add 5 (some .int)) { frames := 3, cells := 0, slots := 0, locals := 68 } E [.ref (a_sh 0), .int p1, .int p2, .int p3] (w_sh_tp E a_sh a_tp sh_names sh_nameLengths sh_groups sh_types sh_flat sh_size tp_bytes tp_size) r (w_sh_tp E a_sh a_tp o_sh_names o_sh_nameLengths o_sh_groups o_sh_types o_sh_flat o_sh_size tp_bytes tp_size) := by
  intro sz
  refine met_start [(0, .ref (a_sh 0)), (1, .int p1), (2, .int p2), (3, .int p3)] (by decide) rfl rfl (Nat.le_of_ble_eq_true rfl) rfl ?_
  intro p e s m below meth c ls C hnm hmt hw hl
  have hx := C.1
  have hb := C.2.1
  generalize va_A (w_sh_tp E a_sh a_tp sh_names sh_nameLengths sh_groups sh_types sh_flat sh_size tp_bytes tp_size) sz = A at C hw ⊢
  unfold f_X3_add at hf
  refine lv_aload_n hx hb dX3_add_0 rfl (lv_at hl 0 rfl) ?_
  refine fg_X3_32 C hw 0 rfl rfl dX3_add_1 ?_
  refine lv_bipush (v := 64) hx hb dX3_add_4 (by decide) ?_
  refine lv_icmp_ge (tgt := 27) hx hb dX3_add_6 (by decide) (fun c6 => ?_) (fun c6 => ?_)
  · replace hf := it_t c6 hf
    refine lv_iconst (v := -1) hx hb dX3_add_27 (by decide) ?_
    cases hf
    exact rt_i C hw dX3_add_28
  · replace hf := it_f c6 hf
    refine lv_iload_n hx hb dX3_add_9 rfl (lv_at hl 2 rfl) ?_
    refine lv_if_lt (tgt := 27) hx hb dX3_add_10 (by decide) (fun c10 => ?_) (fun c10 => ?_)
    · replace hf := it_t c10 hf
      refine lv_iconst (v := -1) hx hb dX3_add_27 (by decide) ?_
      cases hf
      exact rt_i C hw dX3_add_28
    · replace hf := it_f c10 hf
      refine lv_iload_n hx hb dX3_add_13 rfl (lv_at hl 2 rfl) ?_
      refine lv_iconst (v := 2) hx hb dX3_add_14 (by decide) ?_
      refine lv_icmp_gt (tgt := 27) hx hb dX3_add_15 (by decide) (fun c15 => ?_) (fun c15 => ?_)
      · replace hf := it_t c15 hf
        refine lv_iconst (v := -1) hx hb dX3_add_27 (by decide) ?_
        cases hf
        exact rt_i C hw dX3_add_28
      · replace hf := it_f c15 hf
        refine lv_iload_n hx hb dX3_add_18 rfl (lv_at hl 3 rfl) ?_
        refine lv_if_lt (tgt := 27) hx hb dX3_add_19 (by decide) (fun c19 => ?_) (fun c19 => ?_)
        · replace hf := it_t c19 hf
          refine lv_iconst (v := -1) hx hb dX3_add_27 (by decide) ?_
          cases hf
          exact rt_i C hw dX3_add_28
        · replace hf := it_f c19 hf
          refine lv_iload_n hx hb dX3_add_22 rfl (lv_at hl 3 rfl) ?_
          refine lv_iconst (v := 4) hx hb dX3_add_23 (by decide) ?_
          refine lv_icmp_le (tgt := 29) hx hb dX3_add_24 (by decide) (fun c24 => ?_) (fun c24 => ?_)
          · replace hf := it_t c24 hf
            refine lv_iload_n hx hb dX3_add_29 rfl (lv_at hl 1 rfl) ?_
            refine lv_iconst (v := -1) hx hb dX3_add_30 (by decide) ?_
            refine lv_icmp_eq (tgt := 45) hx hb dX3_add_31 (by decide) (fun c31 => ?_) (fun c31 => ?_)
            · replace hf := it_t c31 hf
              exact w_X3_add_45 C hw (lv_sub hl [0, 1, 2, 3] rfl) hf
            · replace hf := it_f c31 hf
              refine lv_aload_n hx hb dX3_add_34 rfl (lv_at hl 0 rfl) ?_
              refine lv_iload_n hx hb dX3_add_35 rfl (lv_at hl 1 rfl) ?_
              obtain ⟨x1, z1, hf⟩ := ob1_el hf
              refine cI_V C hw (c_X3_typeOf l E a_sh a_tp sh_names sh_nameLengths sh_groups sh_types sh_flat sh_size tp_bytes tp_size p1 x1 z1) cs_X3_36 ⟨Nat.le_of_ble_eq_true rfl, Nat.le_of_ble_eq_true rfl⟩ ⟨rfl, rfl⟩ (ci := 3) (cn := (RX3, TX3, 7)) rfl (q0 := 0) rfl (wn := w_sh_tp E a_sh a_tp sh_names sh_nameLengths sh_groups sh_types sh_flat sh_size tp_bytes tp_size) (Jn.all _ _) rfl hl.1 rfl (Nat.le_of_ble_eq_true rfl) dX3_add_36 ⟨Nat.zero_le _, Nat.zero_le _⟩ (fun H locs hw => ?_)
              refine lv_iconst (v := 4) hx hb dX3_add_39 (by decide) ?_
              refine lv_icmp_eq (tgt := 45) hx hb dX3_add_40 (by decide) (fun c40 => ?_) (fun c40 => ?_)
              · replace hf := it_t c40 hf
                exact w_X3_add_45 C hw (lv_sub hl [0, 1, 2, 3] rfl) hf
              · replace hf := it_f c40 hf
                refine lv_iconst (v := -1) hx hb dX3_add_43 (by decide) ?_
                cases hf
                exact rt_i C hw dX3_add_44
          · replace hf := it_f c24 hf
            refine lv_iconst (v := -1) hx hb dX3_add_27 (by decide) ?_
            cases hf
            exact rt_i C hw dX3_add_28
