def f_X6_feed_23 : Nat → (Int32) → (Int32) → (Int32) → (Int32) → (Int32) → (Int32) → (Nat → Int32) → (Int32) → Option ((Nat → Int32))
  | 0, _, _, _, _, _, _, _, _ => none
  | n + 1, l1, l2, l3, l4, l5, l6, mo_tape, mo_taped =>
  if (20 : Int32) ≤ l6 then (some mo_tape)
  else (if (4 : Int32) ≤ l6 then (if (8 : Int32) ≤ l6 then (if (12 : Int32) ≤ l6 then (if (16 : Int32) ≤ l6 then (on ((l5 >>> (((24 : Int32) - ((8 : Int32) * (l6 - l6 / (4 : Int32) * (4 : Int32)))) &&& 31)) &&& (255 : Int32)) (fun x1 =>
  wr mo_tape 2000 (mo_taped + l6) x1 (fun x2 =>
  on (l6 + (1 : Int32)) (fun x3 =>
  f_X6_feed_23 n l1 l2 l3 l4 l5 x3 x2 mo_taped))))
  else (on ((l4 >>> (((24 : Int32) - ((8 : Int32) * (l6 - l6 / (4 : Int32) * (4 : Int32)))) &&& 31)) &&& (255 : Int32)) (fun x4 =>
  wr mo_tape 2000 (mo_taped + l6) x4 (fun x5 =>
  on (l6 + (1 : Int32)) (fun x6 =>
  f_X6_feed_23 n l1 l2 l3 l4 l5 x6 x5 mo_taped)))))
  else (on ((l3 >>> (((24 : Int32) - ((8 : Int32) * (l6 - l6 / (4 : Int32) * (4 : Int32)))) &&& 31)) &&& (255 : Int32)) (fun x7 =>
  wr mo_tape 2000 (mo_taped + l6) x7 (fun x8 =>
  on (l6 + (1 : Int32)) (fun x9 =>
  f_X6_feed_23 n l1 l2 l3 l4 l5 x9 x8 mo_taped)))))
  else (on ((l2 >>> (((24 : Int32) - ((8 : Int32) * (l6 - l6 / (4 : Int32) * (4 : Int32)))) &&& 31)) &&& (255 : Int32)) (fun x10 =>
  wr mo_tape 2000 (mo_taped + l6) x10 (fun x11 =>
  on (l6 + (1 : Int32)) (fun x12 =>
  f_X6_feed_23 n l1 l2 l3 l4 l5 x12 x11 mo_taped)))))
  else (on ((l1 >>> (((24 : Int32) - ((8 : Int32) * (l6 - l6 / (4 : Int32) * (4 : Int32)))) &&& 31)) &&& (255 : Int32)) (fun x13 =>
  wr mo_tape 2000 (mo_taped + l6) x13 (fun x14 =>
  on (l6 + (1 : Int32)) (fun x15 =>
  f_X6_feed_23 n l1 l2 l3 l4 l5 x15 x14 mo_taped)))))
set_option maxHeartbeats 4000000 in
set_option maxRecDepth 100000 in
theorem w_X6_feed_23 {p : Program} {l : Launch} {e : Env} {s : State} {m : MethodId} {args : Array Value} {below : List Frame} {meth : Method} {c : Code} {E : EnvT} {A : Nat → Prop} {a_mo : Nat → Nat} {Q : State → Prop} {mo_code : Int32} {mo_text : Nat → Int32} {mo_size : Int32} {mo_at : Int32} {mo_ill : Int32} {mo_in : Nat → Int32} {mo_kind : Nat → Int32} {mo_type : Nat → Int32} {mo_long1 : Nat → Int32} {mo_letters : Nat → Int32} {mo_fields : Int32} {mo_kept : Int32} {mo_now : Int32} {mo_many : Nat → Int32} {mo_itemKind : Nat → Int32} {mo_itemField : Nat → Int32} {mo_itemPlace : Nat → Int32} {mo_by : Nat → Int32} {mo_stepKind : Nat → Int32} {mo_stepField : Nat → Int32} {mo_stepOperator : Nat → Int32} {mo_stepOther : Nat → Int32} {mo_stepMany : Nat → Int32} {mo_literalType : Nat → Int32} {mo_literalFrom : Nat → Int32} {mo_literalSize : Nat → Int32} {mo_bytes : Nat → Int32} {mo_said : Nat → Int32} {mo_number : Nat → Int64} {mo_pile : Nat → Int32} {mo_pilePlace : Nat → Int32} {mo_top : Int32} {mo_open : Int32} {q_mo_tape : Nat → Int32} (C : MC p s m args meth c E A cX6_feed 8 RX6 (some .boolean)) : ∀ (n : Nat) {l1 : Int32} {l2 : Int32} {l3 : Int32} {l4 : Int32} {l5 : Int32} {l6 : Int32} {mo_tape : Nat → Int32} {mo_taped : Int32} {H : Heap} {locs : List Loc} {ls : Array Slot}, WS E A s (w_mo E a_mo mo_code mo_tape mo_text mo_taped mo_size mo_at mo_ill mo_in mo_kind mo_type mo_long1 mo_letters mo_fields mo_kept mo_now mo_many mo_itemKind mo_itemField mo_itemPlace mo_by mo_stepKind mo_stepField mo_stepOperator mo_stepOther mo_stepMany mo_literalType mo_literalFrom mo_literalSize mo_bytes mo_said mo_number mo_pile mo_pilePlace mo_top mo_open) H locs → lv_has ls 8 [(0, .ref (a_mo 0)), (1, .int l1), (2, .int l2), (3, .int l3), (4, .int l4), (5, .int l5), (6, .int l6)] → f_X6_feed_23 n l1 l2 l3 l4 l5 l6 mo_tape mo_taped = some q_mo_tape → (∀ (H : Heap) (locs : List Loc) (ls : Array Slot), WS E A s (w_mo E a_mo mo_code q_mo_tape mo_text mo_taped mo_size mo_at mo_ill mo_in mo_kind mo_type mo_long1 mo_letters mo_fields mo_kept mo_now mo_many mo_itemKind mo_itemField mo_itemPlace mo_by mo_stepKind mo_stepField mo_stepOperator mo_stepOther mo_stepMany mo_literalType mo_literalFrom mo_literalSize mo_bytes mo_said mo_number mo_pile mo_pilePlace mo_top mo_open) H locs → lv_has ls 8 [(0, .ref (a_mo 0))] → W p l e { frames := 0, cells := 0, slots := 0, locals := 0 } s m args below meth c H locs 0 0 Q (F0 m 113 ls [])) → W p l e { frames := 0, cells := 0, slots := 0, locals := 0 } s m args below meth c H locs 0 0 Q (F0 m 23 ls []) := by
  have hx := C.1
  have hb := C.2.1
  intro n
  induction n with
  | zero =>
    intro l1 l2 l3 l4 l5 l6 mo_tape mo_taped H locs ls hw hl hf kk
    unfold f_X6_feed_23 at hf
    cases hf
  | succ n ih =>
    intro l1 l2 l3 l4 l5 l6 mo_tape mo_taped H locs ls hw hl hf kk
    unfold f_X6_feed_23 at hf
    refine lv_iload hx hb dX6_feed_23 (lv_at hl 6 rfl) ?_
    refine lv_bipush (v := 20) hx hb dX6_feed_25 (by decide) ?_
    refine lv_icmp_ge (tgt := 113) hx hb dX6_feed_27 (by decide) (fun c27 => ?_) (fun c27 => ?_)
    · replace hf := it_t c27 hf
      cases hf
      exact kk _ _ _ hw (lv_sub hl [0] rfl)
    · replace hf := it_f c27 hf
      refine lv_iload hx hb dX6_feed_30 (lv_at hl 6 rfl) ?_
      refine lv_iconst (v := 4) hx hb dX6_feed_32 (by decide) ?_
      refine lv_icmp_ge (tgt := 40) hx hb dX6_feed_33 (by decide) (fun c33 => ?_) (fun c33 => ?_)
      · replace hf := it_t c33 hf
        refine lv_iload hx hb dX6_feed_40 (lv_at hl 6 rfl) ?_
        refine lv_bipush (v := 8) hx hb dX6_feed_42 (by decide) ?_
        refine lv_icmp_ge (tgt := 51) hx hb dX6_feed_44 (by decide) (fun c44 => ?_) (fun c44 => ?_)
        · replace hf := it_t c44 hf
          refine lv_iload hx hb dX6_feed_51 (lv_at hl 6 rfl) ?_
          refine lv_bipush (v := 12) hx hb dX6_feed_53 (by decide) ?_
          refine lv_icmp_ge (tgt := 62) hx hb dX6_feed_55 (by decide) (fun c55 => ?_) (fun c55 => ?_)
          · replace hf := it_t c55 hf
            refine lv_iload hx hb dX6_feed_62 (lv_at hl 6 rfl) ?_
            refine lv_bipush (v := 16) hx hb dX6_feed_64 (by decide) ?_
            refine lv_icmp_ge (tgt := 74) hx hb dX6_feed_66 (by decide) (fun c66 => ?_) (fun c66 => ?_)
            · replace hf := it_t c66 hf
              refine lv_iload hx hb dX6_feed_74 (lv_at hl 5 rfl) ?_
              refine lv_istore (lv' := [(7, .int l5), (0, .ref (a_mo 0)), (1, .int l1), (2, .int l2), (3, .int l3), (4, .int l4), (5, .int l5), (6, .int l6)]) hx hb dX6_feed_76 hl (by decide) rfl (fun ls hl => ?_)
              refine lv_aload_n hx hb dX6_feed_78 rfl (lv_at hl 1 rfl) ?_
              refine fg_X6_7 C hw 0 rfl rfl dX6_feed_79 ?_
              refine lv_aload_n hx hb dX6_feed_82 rfl (lv_at hl 1 rfl) ?_
              refine fg_X6_93 C hw 0 rfl rfl dX6_feed_83 ?_
              refine lv_iload hx hb dX6_feed_86 (lv_at hl 7 rfl) ?_
              refine lv_iadd hx hb dX6_feed_88 ?_
              refine lv_iload hx hb dX6_feed_89 (lv_at hl 0 rfl) ?_
              refine lv_bipush (v := 24) hx hb dX6_feed_91 (by decide) ?_
              refine lv_bipush (v := 8) hx hb dX6_feed_93 (by decide) ?_
              refine lv_iload hx hb dX6_feed_95 (lv_at hl 7 rfl) ?_
              refine lv_iconst (v := 4) hx hb dX6_feed_97 (by decide) ?_
              refine lv_irem hx hb dX6_feed_98 (by decide) ?_
              refine lv_imul hx hb dX6_feed_99 ?_
              refine lv_isub hx hb dX6_feed_100 ?_
              refine lv_ishr hx hb dX6_feed_101 ?_
              refine lv_sipush (v := 255) hx hb dX6_feed_102 (by decide) ?_
              refine lv_iand hx hb dX6_feed_105 ?_
              obtain ⟨x1, ex1, hf⟩ := on_el hf
              refine tp_i ex1 ?_
              obtain ⟨x2, ex2, gx2, hf⟩ := wr_el hf
              refine rs_i C hw 1 rfl gx2 (ws' := w_mo E a_mo mo_code x2 mo_text mo_taped mo_size mo_at mo_ill mo_in mo_kind mo_type mo_long1 mo_letters mo_fields mo_kept mo_now mo_many mo_itemKind mo_itemField mo_itemPlace mo_by mo_stepKind mo_stepField mo_stepOperator mo_stepOther mo_stepMany mo_literalType mo_literalFrom mo_literalSize mo_bytes mo_said mo_number mo_pile mo_pilePlace mo_top mo_open) (by subst ex2; rfl) dX6_feed_106 (fun H locs hw => ?_)
              obtain ⟨x3, ex3, hf⟩ := on_el hf
              refine lv_iinc (v := x3) (lv' := [(6, .int x3), (7, .int l5), (0, .ref (a_mo 0)), (1, .int l1), (2, .int l2), (3, .int l3), (4, .int l4), (5, .int l5)]) hx hb dX6_feed_107 hl (k := 7) rfl (by rw [← ex3]; rfl) (by decide) rfl (fun ls hl => ?_)
              refine lv_goto (tgt := 23) hx hb dX6_feed_110 (by decide) ?_
              exact ih hw (lv_sub hl [2, 3, 4, 5, 6, 7, 0] rfl) hf kk
            · replace hf := it_f c66 hf
              refine lv_iload hx hb dX6_feed_69 (lv_at hl 4 rfl) ?_
              refine lv_goto (tgt := 76) hx hb dX6_feed_71 (by decide) ?_
              refine lv_istore (lv' := [(7, .int l4), (0, .ref (a_mo 0)), (1, .int l1), (2, .int l2), (3, .int l3), (4, .int l4), (5, .int l5), (6, .int l6)]) hx hb dX6_feed_76 hl (by decide) rfl (fun ls hl => ?_)
              refine lv_aload_n hx hb dX6_feed_78 rfl (lv_at hl 1 rfl) ?_
              refine fg_X6_7 C hw 0 rfl rfl dX6_feed_79 ?_
              refine lv_aload_n hx hb dX6_feed_82 rfl (lv_at hl 1 rfl) ?_
              refine fg_X6_93 C hw 0 rfl rfl dX6_feed_83 ?_
              refine lv_iload hx hb dX6_feed_86 (lv_at hl 7 rfl) ?_
              refine lv_iadd hx hb dX6_feed_88 ?_
              refine lv_iload hx hb dX6_feed_89 (lv_at hl 0 rfl) ?_
              refine lv_bipush (v := 24) hx hb dX6_feed_91 (by decide) ?_
              refine lv_bipush (v := 8) hx hb dX6_feed_93 (by decide) ?_
              refine lv_iload hx hb dX6_feed_95 (lv_at hl 7 rfl) ?_
              refine lv_iconst (v := 4) hx hb dX6_feed_97 (by decide) ?_
              refine lv_irem hx hb dX6_feed_98 (by decide) ?_
              refine lv_imul hx hb dX6_feed_99 ?_
              refine lv_isub hx hb dX6_feed_100 ?_
              refine lv_ishr hx hb dX6_feed_101 ?_
              refine lv_sipush (v := 255) hx hb dX6_feed_102 (by decide) ?_
              refine lv_iand hx hb dX6_feed_105 ?_
              obtain ⟨x4, ex4, hf⟩ := on_el hf
              refine tp_i ex4 ?_
              obtain ⟨x5, ex5, gx5, hf⟩ := wr_el hf
              refine rs_i C hw 1 rfl gx5 (ws' := w_mo E a_mo mo_code x5 mo_text mo_taped mo_size mo_at mo_ill mo_in mo_kind mo_type mo_long1 mo_letters mo_fields mo_kept mo_now mo_many mo_itemKind mo_itemField mo_itemPlace mo_by mo_stepKind mo_stepField mo_stepOperator mo_stepOther mo_stepMany mo_literalType mo_literalFrom mo_literalSize mo_bytes mo_said mo_number mo_pile mo_pilePlace mo_top mo_open) (by subst ex5; rfl) dX6_feed_106 (fun H locs hw => ?_)
              obtain ⟨x6, ex6, hf⟩ := on_el hf
              refine lv_iinc (v := x6) (lv' := [(6, .int x6), (7, .int l4), (0, .ref (a_mo 0)), (1, .int l1), (2, .int l2), (3, .int l3), (4, .int l4), (5, .int l5)]) hx hb dX6_feed_107 hl (k := 7) rfl (by rw [← ex6]; rfl) (by decide) rfl (fun ls hl => ?_)
              refine lv_goto (tgt := 23) hx hb dX6_feed_110 (by decide) ?_
              exact ih hw (lv_sub hl [2, 3, 4, 5, 6, 7, 0] rfl) hf kk
          · replace hf := it_f c55 hf
            refine lv_iload_n hx hb dX6_feed_58 rfl (lv_at hl 3 rfl) ?_
            refine lv_goto (tgt := 76) hx hb dX6_feed_59 (by decide) ?_
            refine lv_istore (lv' := [(7, .int l3), (0, .ref (a_mo 0)), (1, .int l1), (2, .int l2), (3, .int l3), (4, .int l4), (5, .int l5), (6, .int l6)]) hx hb dX6_feed_76 hl (by decide) rfl (fun ls hl => ?_)
            refine lv_aload_n hx hb dX6_feed_78 rfl (lv_at hl 1 rfl) ?_
            refine fg_X6_7 C hw 0 rfl rfl dX6_feed_79 ?_
            refine lv_aload_n hx hb dX6_feed_82 rfl (lv_at hl 1 rfl) ?_
            refine fg_X6_93 C hw 0 rfl rfl dX6_feed_83 ?_
            refine lv_iload hx hb dX6_feed_86 (lv_at hl 7 rfl) ?_
            refine lv_iadd hx hb dX6_feed_88 ?_
            refine lv_iload hx hb dX6_feed_89 (lv_at hl 0 rfl) ?_
            refine lv_bipush (v := 24) hx hb dX6_feed_91 (by decide) ?_
            refine lv_bipush (v := 8) hx hb dX6_feed_93 (by decide) ?_
            refine lv_iload hx hb dX6_feed_95 (lv_at hl 7 rfl) ?_
            refine lv_iconst (v := 4) hx hb dX6_feed_97 (by decide) ?_
            refine lv_irem hx hb dX6_feed_98 (by decide) ?_
            refine lv_imul hx hb dX6_feed_99 ?_
            refine lv_isub hx hb dX6_feed_100 ?_
            refine lv_ishr hx hb dX6_feed_101 ?_
            refine lv_sipush (v := 255) hx hb dX6_feed_102 (by decide) ?_
            refine lv_iand hx hb dX6_feed_105 ?_
            obtain ⟨x7, ex7, hf⟩ := on_el hf
            refine tp_i ex7 ?_
            obtain ⟨x8, ex8, gx8, hf⟩ := wr_el hf
            refine rs_i C hw 1 rfl gx8 (ws' := w_mo E a_mo mo_code x8 mo_text mo_taped mo_size mo_at mo_ill mo_in mo_kind mo_type mo_long1 mo_letters mo_fields mo_kept mo_now mo_many mo_itemKind mo_itemField mo_itemPlace mo_by mo_stepKind mo_stepField mo_stepOperator mo_stepOther mo_stepMany mo_literalType mo_literalFrom mo_literalSize mo_bytes mo_said mo_number mo_pile mo_pilePlace mo_top mo_open) (by subst ex8; rfl) dX6_feed_106 (fun H locs hw => ?_)
            obtain ⟨x9, ex9, hf⟩ := on_el hf
            refine lv_iinc (v := x9) (lv' := [(6, .int x9), (7, .int l3), (0, .ref (a_mo 0)), (1, .int l1), (2, .int l2), (3, .int l3), (4, .int l4), (5, .int l5)]) hx hb dX6_feed_107 hl (k := 7) rfl (by rw [← ex9]; rfl) (by decide) rfl (fun ls hl => ?_)
            refine lv_goto (tgt := 23) hx hb dX6_feed_110 (by decide) ?_
            exact ih hw (lv_sub hl [2, 3, 4, 5, 6, 7, 0] rfl) hf kk
        · replace hf := it_f c44 hf
          refine lv_iload_n hx hb dX6_feed_47 rfl (lv_at hl 2 rfl) ?_
          refine lv_goto (tgt := 76) hx hb dX6_feed_48 (by decide) ?_
          refine lv_istore (lv' := [(7, .int l2), (0, .ref (a_mo 0)), (1, .int l1), (2, .int l2), (3, .int l3), (4, .int l4), (5, .int l5), (6, .int l6)]) hx hb dX6_feed_76 hl (by decide) rfl (fun ls hl => ?_)
          refine lv_aload_n hx hb dX6_feed_78 rfl (lv_at hl 1 rfl) ?_
          refine fg_X6_7 C hw 0 rfl rfl dX6_feed_79 ?_
          refine lv_aload_n hx hb dX6_feed_82 rfl (lv_at hl 1 rfl) ?_
          refine fg_X6_93 C hw 0 rfl rfl dX6_feed_83 ?_
          refine lv_iload hx hb dX6_feed_86 (lv_at hl 7 rfl) ?_
          refine lv_iadd hx hb dX6_feed_88 ?_
          refine lv_iload hx hb dX6_feed_89 (lv_at hl 0 rfl) ?_
          refine lv_bipush (v := 24) hx hb dX6_feed_91 (by decide) ?_
          refine lv_bipush (v := 8) hx hb dX6_feed_93 (by decide) ?_
          refine lv_iload hx hb dX6_feed_95 (lv_at hl 7 rfl) ?_
          refine lv_iconst (v := 4) hx hb dX6_feed_97 (by decide) ?_
          refine lv_irem hx hb dX6_feed_98 (by decide) ?_
          refine lv_imul hx hb dX6_feed_99 ?_
          refine lv_isub hx hb dX6_feed_100 ?_
          refine lv_ishr hx hb dX6_feed_101 ?_
          refine lv_sipush (v := 255) hx hb dX6_feed_102 (by decide) ?_
          refine lv_iand hx hb dX6_feed_105 ?_
          obtain ⟨x10, ex10, hf⟩ := on_el hf
          refine tp_i ex10 ?_
          obtain ⟨x11, ex11, gx11, hf⟩ := wr_el hf
          refine rs_i C hw 1 rfl gx11 (ws' := w_mo E a_mo mo_code x11 mo_text mo_taped mo_size mo_at mo_ill mo_in mo_kind mo_type mo_long1 mo_letters mo_fields mo_kept mo_now mo_many mo_itemKind mo_itemField mo_itemPlace mo_by mo_stepKind mo_stepField mo_stepOperator mo_stepOther mo_stepMany mo_literalType mo_literalFrom mo_literalSize mo_bytes mo_said mo_number mo_pile mo_pilePlace mo_top mo_open) (by subst ex11; rfl) dX6_feed_106 (fun H locs hw => ?_)
          obtain ⟨x12, ex12, hf⟩ := on_el hf
          refine lv_iinc (v := x12) (lv' := [(6, .int x12), (7, .int l2), (0, .ref (a_mo 0)), (1, .int l1), (2, .int l2), (3, .int l3), (4, .int l4), (5, .int l5)]) hx hb dX6_feed_107 hl (k := 7) rfl (by rw [← ex12]; rfl) (by decide) rfl (fun ls hl => ?_)
          refine lv_goto (tgt := 23) hx hb dX6_feed_110 (by decide) ?_
          exact ih hw (lv_sub hl [2, 3, 4, 5, 6, 7, 0] rfl) hf kk
      · replace hf := it_f c33 hf
        refine lv_iload_n hx hb dX6_feed_36 rfl (lv_at hl 1 rfl) ?_
        refine lv_goto (tgt := 76) hx hb dX6_feed_37 (by decide) ?_
        refine lv_istore (lv' := [(7, .int l1), (0, .ref (a_mo 0)), (1, .int l1), (2, .int l2), (3, .int l3), (4, .int l4), (5, .int l5), (6, .int l6)]) hx hb dX6_feed_76 hl (by decide) rfl (fun ls hl => ?_)
        refine lv_aload_n hx hb dX6_feed_78 rfl (lv_at hl 1 rfl) ?_
        refine fg_X6_7 C hw 0 rfl rfl dX6_feed_79 ?_
        refine lv_aload_n hx hb dX6_feed_82 rfl (lv_at hl 1 rfl) ?_
        refine fg_X6_93 C hw 0 rfl rfl dX6_feed_83 ?_
        refine lv_iload hx hb dX6_feed_86 (lv_at hl 7 rfl) ?_
        refine lv_iadd hx hb dX6_feed_88 ?_
        refine lv_iload hx hb dX6_feed_89 (lv_at hl 0 rfl) ?_
        refine lv_bipush (v := 24) hx hb dX6_feed_91 (by decide) ?_
        refine lv_bipush (v := 8) hx hb dX6_feed_93 (by decide) ?_
        refine lv_iload hx hb dX6_feed_95 (lv_at hl 7 rfl) ?_
        refine lv_iconst (v := 4) hx hb dX6_feed_97 (by decide) ?_
        refine lv_irem hx hb dX6_feed_98 (by decide) ?_
        refine lv_imul hx hb dX6_feed_99 ?_
        refine lv_isub hx hb dX6_feed_100 ?_
        refine lv_ishr hx hb dX6_feed_101 ?_
        refine lv_sipush (v := 255) hx hb dX6_feed_102 (by decide) ?_
        refine lv_iand hx hb dX6_feed_105 ?_
        obtain ⟨x13, ex13, hf⟩ := on_el hf
        refine tp_i ex13 ?_
        obtain ⟨x14, ex14, gx14, hf⟩ := wr_el hf
        refine rs_i C hw 1 rfl gx14 (ws' := w_mo E a_mo mo_code x14 mo_text mo_taped mo_size mo_at mo_ill mo_in mo_kind mo_type mo_long1 mo_letters mo_fields mo_kept mo_now mo_many mo_itemKind mo_itemField mo_itemPlace mo_by mo_stepKind mo_stepField mo_stepOperator mo_stepOther mo_stepMany mo_literalType mo_literalFrom mo_literalSize mo_bytes mo_said mo_number mo_pile mo_pilePlace mo_top mo_open) (by subst ex14; rfl) dX6_feed_106 (fun H locs hw => ?_)
        obtain ⟨x15, ex15, hf⟩ := on_el hf
        refine lv_iinc (v := x15) (lv' := [(6, .int x15), (7, .int l1), (0, .ref (a_mo 0)), (1, .int l1), (2, .int l2), (3, .int l3), (4, .int l4), (5, .int l5)]) hx hb dX6_feed_107 hl (k := 7) rfl (by rw [← ex15]; rfl) (by decide) rfl (fun ls hl => ?_)
        refine lv_goto (tgt := 23) hx hb dX6_feed_110 (by decide) ?_
        exact ih hw (lv_sub hl [2, 3, 4, 5, 6, 7, 0] rfl) hf kk
def f_X6_feed (p1 : Int32) (p2 : Int32) (p3 : Int32) (p4 : Int32) (p5 : Int32) (mo_code : Int32) (mo_tape : Nat → Int32) (mo_taped : Int32) : Option ((Int32) × (Int32) × (Nat → Int32) × (Int32)) :=
  if (mo_taped + (20 : Int32)) ≤ (2000 : Int32) then (ob1 (f_X6_feed_23 FU p1 p2 p3 p4 p5 (0 : Int32) mo_tape mo_taped) (fun x1 =>
  on (mo_taped + (20 : Int32)) (fun x2 =>
  some ((1 : Int32), (0 : Int32), x1, x2))))
  else (some ((0 : Int32), (0 : Int32), mo_tape, mo_taped))
set_option maxHeartbeats 4000000 in
set_option maxRecDepth 100000 in
theorem c_X6_feed (l : Launch) (E : EnvT) (a_mo : Nat → Nat) (mo_code : Int32) (mo_tape : Nat → Int32) (mo_text : Nat → Int32) (mo_taped : Int32) (mo_size : Int32) (mo_at : Int32) (mo_ill : Int32) (mo_in : Nat → Int32) (mo_kind : Nat → Int32) (mo_type : Nat → Int32) (mo_long1 : Nat → Int32) (mo_letters : Nat → Int32) (mo_fields : Int32) (mo_kept : Int32) (mo_now : Int32) (mo_many : Nat → Int32) (mo_itemKind : Nat → Int32) (mo_itemField : Nat → Int32) (mo_itemPlace : Nat → Int32) (mo_by : Nat → Int32) (mo_stepKind : Nat → Int32) (mo_stepField : Nat → Int32) (mo_stepOperator : Nat → Int32) (mo_stepOther : Nat → Int32) (mo_stepMany : Nat → Int32) (mo_literalType : Nat → Int32) (mo_literalFrom : Nat → Int32) (mo_literalSize : Nat → Int32) (mo_bytes : Nat → Int32) (mo_said : Nat → Int32) (mo_number : Nat → Int64) (mo_pile : Nat → Int32) (mo_pilePlace : Nat → Int32) (mo_top : Int32) (mo_open : Int32) (p1 : Int32) (p2 : Int32) (p3 : Int32) (p4 : Int32) (p5 : Int32) (r : Int32) (o_mo_code : Int32) (o_mo_tape : Nat → Int32) (o_mo_taped : Int32) (hf : f_X6_feed p1 p2 p3 p4 p5 mo_code mo_tape mo_taped = some (r, o_mo_code, o_mo_tape, o_mo_taped)) : CI l yX6_feed (Cond.code yX6_feed cX6_feed 8 (some .boolean)) { frames := 0, cells := 0, slots := 0, locals := 0 } E [.ref (a_mo 0), .int p1, .int p2, .int p3, .int p4, .int p5] (w_mo E a_mo mo_code mo_tape mo_text mo_taped mo_size mo_at mo_ill mo_in mo_kind mo_type mo_long1 mo_letters mo_fields mo_kept mo_now mo_many mo_itemKind mo_itemField mo_itemPlace mo_by mo_stepKind mo_stepField mo_stepOperator mo_stepOther mo_stepMany mo_literalType mo_literalFrom mo_literalSize mo_bytes mo_said mo_number mo_pile mo_pilePlace mo_top mo_open) r (w_mo E a_mo o_mo_code o_mo_tape mo_text o_mo_taped mo_size mo_at mo_ill mo_in mo_kind mo_type mo_long1 mo_letters mo_fields mo_kept mo_now mo_many mo_itemKind mo_itemField mo_itemPlace mo_by mo_stepKind mo_stepField mo_stepOperator mo_stepOther mo_stepMany mo_literalType mo_literalFrom mo_literalSize mo_bytes mo_said mo_number mo_pile mo_pilePlace mo_top mo_open) := by
  intro sz
  refine met_start [(0, .ref (a_mo 0)), (1, .int p1), (2, .int p2), (3, .int p3), (4, .int p4), (5, .int p5)] (by decide) rfl rfl (Nat.le_of_ble_eq_true rfl) rfl ?_
  intro p e s m below meth c ls C hnm hmt hw hl
  have hx := C.1
  have hb := C.2.1
  generalize va_A (w_mo E a_mo mo_code mo_tape mo_text mo_taped mo_size mo_at mo_ill mo_in mo_kind mo_type mo_long1 mo_letters mo_fields mo_kept mo_now mo_many mo_itemKind mo_itemField mo_itemPlace mo_by mo_stepKind mo_stepField mo_stepOperator mo_stepOther mo_stepMany mo_literalType mo_literalFrom mo_literalSize mo_bytes mo_said mo_number mo_pile mo_pilePlace mo_top mo_open) sz = A at C hw ⊢
  unfold f_X6_feed at hf
  refine lv_aload_n hx hb dX6_feed_0 rfl (lv_at hl 0 rfl) ?_
  refine lv_iconst (v := 0) hx hb dX6_feed_1 (by decide) ?_
  refine fp_X6_90 C hw 0 rfl (Nat.le_of_ble_eq_true rfl) (ws' := w_mo E a_mo (0 : Int32) mo_tape mo_text mo_taped mo_size mo_at mo_ill mo_in mo_kind mo_type mo_long1 mo_letters mo_fields mo_kept mo_now mo_many mo_itemKind mo_itemField mo_itemPlace mo_by mo_stepKind mo_stepField mo_stepOperator mo_stepOther mo_stepMany mo_literalType mo_literalFrom mo_literalSize mo_bytes mo_said mo_number mo_pile mo_pilePlace mo_top mo_open) rfl dX6_feed_2 (fun H locs hw => ?_)
  refine lv_aload_n hx hb dX6_feed_5 rfl (lv_at hl 0 rfl) ?_
  refine fg_X6_93 C hw 0 rfl rfl dX6_feed_6 ?_
  refine lv_bipush (v := 20) hx hb dX6_feed_9 (by decide) ?_
  refine lv_iadd hx hb dX6_feed_11 ?_
  refine lv_sipush (v := 2000) hx hb dX6_feed_12 (by decide) ?_
  refine lv_icmp_le (tgt := 20) hx hb dX6_feed_15 (by decide) (fun c15 => ?_) (fun c15 => ?_)
  · replace hf := it_t c15 hf
    refine lv_iconst (v := 0) hx hb dX6_feed_20 (by decide) ?_
    refine lv_istore (lv' := [(6, .int (0 : Int32)), (0, .ref (a_mo 0)), (1, .int p1), (2, .int p2), (3, .int p3), (4, .int p4), (5, .int p5)]) hx hb dX6_feed_21 hl (by decide) rfl (fun ls hl => ?_)
    obtain ⟨x1, hx1, hf⟩ := ob1_el hf
    refine w_X6_feed_23 C FU hw (lv_sub hl [1, 2, 3, 4, 5, 6, 0] rfl) hx1 ?_
    clear hw hl
    intro H locs ls hw hl
    refine lv_aload_n hx hb dX6_feed_113 rfl (lv_at hl 0 rfl) ?_
    refine lv_dup hx hb dX6_feed_114 rfl ?_
    refine fg_X6_93 C hw 0 rfl rfl dX6_feed_115 ?_
    refine lv_bipush (v := 20) hx hb dX6_feed_118 (by decide) ?_
    refine lv_iadd hx hb dX6_feed_120 ?_
    obtain ⟨x2, ex2, hf⟩ := on_el hf
    refine tp_i ex2 ?_
    refine fp_X6_93 C hw 0 rfl (Nat.le_of_ble_eq_true rfl) (ws' := w_mo E a_mo (0 : Int32) x1 mo_text x2 mo_size mo_at mo_ill mo_in mo_kind mo_type mo_long1 mo_letters mo_fields mo_kept mo_now mo_many mo_itemKind mo_itemField mo_itemPlace mo_by mo_stepKind mo_stepField mo_stepOperator mo_stepOther mo_stepMany mo_literalType mo_literalFrom mo_literalSize mo_bytes mo_said mo_number mo_pile mo_pilePlace mo_top mo_open) rfl dX6_feed_121 (fun H locs hw => ?_)
    refine lv_iconst (v := 1) hx hb dX6_feed_124 (by decide) ?_
    cases hf
    exact rt_z C hw (Or.inr rfl) dX6_feed_125
  · replace hf := it_f c15 hf
    refine lv_iconst (v := 0) hx hb dX6_feed_18 (by decide) ?_
    cases hf
    exact rt_z C hw (Or.inl rfl) dX6_feed_19
def f_X6_takes_16 : Nat → (Int32) → (Int32) → (Nat → Int32) → (Nat → Int32) → Option ((Nat → Int32))
  | 0, _, _, _, _ => none
  | n + 1, l1, l2, mo_tape, mo_text =>
  if l1 ≤ l2 then (some mo_text)
  else (rd mo_tape 2000 l2 (fun x1 =>
  wr mo_text 2000 l2 x1 (fun x2 =>
  on (l2 + (1 : Int32)) (fun x3 =>
  f_X6_takes_16 n l1 x3 mo_tape x2))))
set_option maxHeartbeats 4000000 in
set_option maxRecDepth 100000 in
theorem w_X6_takes_16 {p : Program} {l : Launch} {e : Env} {s : State} {m : MethodId} {args : Array Value} {below : List Frame} {meth : Method} {c : Code} {E : EnvT} {A : Nat → Prop} {a_mo : Nat → Nat} {Q : State → Prop} {mo_code : Int32} {mo_taped : Int32} {mo_size : Int32} {mo_at : Int32} {mo_ill : Int32} {mo_in : Nat → Int32} {mo_kind : Nat → Int32} {mo_type : Nat → Int32} {mo_long1 : Nat → Int32} {mo_letters : Nat → Int32} {mo_fields : Int32} {mo_kept : Int32} {mo_now : Int32} {mo_many : Nat → Int32} {mo_itemKind : Nat → Int32} {mo_itemField : Nat → Int32} {mo_itemPlace : Nat → Int32} {mo_by : Nat → Int32} {mo_stepKind : Nat → Int32} {mo_stepField : Nat → Int32} {mo_stepOperator : Nat → Int32} {mo_stepOther : Nat → Int32} {mo_stepMany : Nat → Int32} {mo_literalType : Nat → Int32} {mo_literalFrom : Nat → Int32} {mo_literalSize : Nat → Int32} {mo_bytes : Nat → Int32} {mo_said : Nat → Int32} {mo_number : Nat → Int64} {mo_pile : Nat → Int32} {mo_pilePlace : Nat → Int32} {mo_top : Int32} {mo_open : Int32} {q_mo_text : Nat → Int32} (C : MC p s m args meth c E A cX6_takes 3 RX6 (some .boolean)) : ∀ (n : Nat) {l1 : Int32} {l2 : Int32} {mo_tape : Nat → Int32} {mo_text : Nat → Int32} {H : Heap} {locs : List Loc} {ls : Array Slot}, WS E A s (w_mo E a_mo mo_code mo_tape mo_text mo_taped mo_size mo_at mo_ill mo_in mo_kind mo_type mo_long1 mo_letters mo_fields mo_kept mo_now mo_many mo_itemKind mo_itemField mo_itemPlace mo_by mo_stepKind mo_stepField mo_stepOperator mo_stepOther mo_stepMany mo_literalType mo_literalFrom mo_literalSize mo_bytes mo_said mo_number mo_pile mo_pilePlace mo_top mo_open) H locs → lv_has ls 3 [(0, .ref (a_mo 0)), (1, .int l1), (2, .int l2)] → f_X6_takes_16 n l1 l2 mo_tape mo_text = some q_mo_text → (∀ (H : Heap) (locs : List Loc) (ls : Array Slot), WS E A s (w_mo E a_mo mo_code mo_tape q_mo_text mo_taped mo_size mo_at mo_ill mo_in mo_kind mo_type mo_long1 mo_letters mo_fields mo_kept mo_now mo_many mo_itemKind mo_itemField mo_itemPlace mo_by mo_stepKind mo_stepField mo_stepOperator mo_stepOther mo_stepMany mo_literalType mo_literalFrom mo_literalSize mo_bytes mo_said mo_number mo_pile mo_pilePlace mo_top mo_open) H locs → lv_has ls 3 [(0, .ref (a_mo 0)), (1, .int l1)] → W p l e { frames := 0, cells := 0, slots := 0, locals := 0 } s m args below meth c H locs 0 0 Q (F0 m 39 ls [])) → W p l e { frames := 0, cells := 0, slots := 0, locals := 0 } s m args below meth c H locs 0 0 Q (F0 m 16 ls []) := by
  have hx := C.1
  have hb := C.2.1
  intro n
  induction n with
  | zero =>
    intro l1 l2 mo_tape mo_text H locs ls hw hl hf kk
    unfold f_X6_takes_16 at hf
    cases hf
  | succ n ih =>
    intro l1 l2 mo_tape mo_text H locs ls hw hl hf kk
    unfold f_X6_takes_16 at hf
    refine lv_iload_n hx hb dX6_takes_16 rfl (lv_at hl 2 rfl) ?_
    refine lv_iload_n hx hb dX6_takes_17 rfl (lv_at hl 1 rfl) ?_
    refine lv_icmp_ge (tgt := 39) hx hb dX6_takes_18 (by decide) (fun c18 => ?_) (fun c18 => ?_)
    · replace hf := it_t c18 hf
      cases hf
      exact kk _ _ _ hw (lv_sub hl [0, 1] rfl)
    · replace hf := it_f c18 hf
      refine lv_aload_n hx hb dX6_takes_21 rfl (lv_at hl 0 rfl) ?_
      refine fg_X6_13 C hw 0 rfl rfl dX6_takes_22 ?_
      refine lv_iload_n hx hb dX6_takes_25 rfl (lv_at hl 2 rfl) ?_
      refine lv_aload_n hx hb dX6_takes_26 rfl (lv_at hl 0 rfl) ?_
      refine fg_X6_7 C hw 0 rfl rfl dX6_takes_27 ?_
      refine lv_iload_n hx hb dX6_takes_30 rfl (lv_at hl 2 rfl) ?_
      obtain ⟨x1, ex1, gx1, hf⟩ := rd_el hf
      refine ra_i C hw 1 rfl gx1 dX6_takes_31 ?_
      refine tp_i ex1 ?_
      obtain ⟨x2, ex2, gx2, hf⟩ := wr_el hf
      refine rs_i C hw 2 rfl gx2 (ws' := w_mo E a_mo mo_code mo_tape x2 mo_taped mo_size mo_at mo_ill mo_in mo_kind mo_type mo_long1 mo_letters mo_fields mo_kept mo_now mo_many mo_itemKind mo_itemField mo_itemPlace mo_by mo_stepKind mo_stepField mo_stepOperator mo_stepOther mo_stepMany mo_literalType mo_literalFrom mo_literalSize mo_bytes mo_said mo_number mo_pile mo_pilePlace mo_top mo_open) (by subst ex2; rfl) dX6_takes_32 (fun H locs hw => ?_)
      obtain ⟨x3, ex3, hf⟩ := on_el hf
      refine lv_iinc (v := x3) (lv' := [(2, .int x3), (0, .ref (a_mo 0)), (1, .int l1)]) hx hb dX6_takes_33 hl (k := 2) rfl (by rw [← ex3]; rfl) (by decide) rfl (fun ls hl => ?_)
      refine lv_goto (tgt := 16) hx hb dX6_takes_36 (by decide) ?_
      exact ih hw (lv_sub hl [1, 2, 0] rfl) hf kk
def f_X6_takes (p1 : Int32) (mo_tape : Nat → Int32) (mo_text : Nat → Int32) (mo_taped : Int32) (mo_size : Int32) (mo_at : Int32) (mo_ill : Int32) : Option ((Int32) × (Nat → Int32) × (Int32) × (Int32) × (Int32) × (Int32)) :=
  if p1 < (0 : Int32) then (some ((0 : Int32), mo_text, mo_taped, mo_size, mo_at, mo_ill))
  else (if p1 ≤ mo_taped then (ob1 (f_X6_takes_16 FU p1 (0 : Int32) mo_tape mo_text) (fun x1 =>
  some ((1 : Int32), x1, (0 : Int32), p1, (0 : Int32), (-1 : Int32))))
  else (some ((0 : Int32), mo_text, mo_taped, mo_size, mo_at, mo_ill)))
set_option maxHeartbeats 4000000 in
set_option maxRecDepth 100000 in
theorem c_X6_takes (l : Launch) (E : EnvT) (a_mo : Nat → Nat) (mo_code : Int32) (mo_tape : Nat → Int32) (mo_text : Nat → Int32) (mo_taped : Int32) (mo_size : Int32) (mo_at : Int32) (mo_ill : Int32) (mo_in : Nat → Int32) (mo_kind : Nat → Int32) (mo_type : Nat → Int32) (mo_long1 : Nat → Int32) (mo_letters : Nat → Int32) (mo_fields : Int32) (mo_kept : Int32) (mo_now : Int32) (mo_many : Nat → Int32) (mo_itemKind : Nat → Int32) (mo_itemField : Nat → Int32) (mo_itemPlace : Nat → Int32) (mo_by : Nat → Int32) (mo_stepKind : Nat → Int32) (mo_stepField : Nat → Int32) (mo_stepOperator : Nat → Int32) (mo_stepOther : Nat → Int32) (mo_stepMany : Nat → Int32) (mo_literalType : Nat → Int32) (mo_literalFrom : Nat → Int32) (mo_literalSize : Nat → Int32) (mo_bytes : Nat → Int32) (mo_said : Nat → Int32) (mo_number : Nat → Int64) (mo_pile : Nat → Int32) (mo_pilePlace : Nat → Int32) (mo_top : Int32) (mo_open : Int32) (p1 : Int32) (r : Int32) (o_mo_text : Nat → Int32) (o_mo_taped : Int32) (o_mo_size : Int32) (o_mo_at : Int32) (o_mo_ill : Int32) (hf : f_X6_takes p1 mo_tape mo_text mo_taped mo_size mo_at mo_ill = some (r, o_mo_text, o_mo_taped, o_mo_size, o_mo_at, o_mo_ill)) : CI l yX6_takes (Cond.code yX6_takes cX6_takes 3 (some .boolean)) { frames := 0, cells := 0, slots := 0, locals := 0 } E [.ref (a_mo 0), .int p1] (w_mo E a_mo mo_code mo_tape mo_text mo_taped mo_size mo_at mo_ill mo_in mo_kind mo_type mo_long1 mo_letters mo_fields mo_kept mo_now mo_many mo_itemKind mo_itemField mo_itemPlace mo_by mo_stepKind mo_stepField mo_stepOperator mo_stepOther mo_stepMany mo_literalType mo_literalFrom mo_literalSize mo_bytes mo_said mo_number mo_pile mo_pilePlace mo_top mo_open) r (w_mo E a_mo mo_code mo_tape o_mo_text o_mo_taped o_mo_size o_mo_at o_mo_ill mo_in mo_kind mo_type mo_long1 mo_letters mo_fields mo_kept mo_now mo_many mo_itemKind mo_itemField mo_itemPlace mo_by mo_stepKind mo_stepField mo_stepOperator mo_stepOther mo_stepMany mo_literalType mo_literalFrom mo_literalSize mo_bytes mo_said mo_number mo_pile mo_pilePlace mo_top mo_open) := by
  intro sz
  refine met_start [(0, .ref (a_mo 0)), (1, .int p1)] (by decide) rfl rfl (Nat.le_of_ble_eq_true rfl) rfl ?_
  intro p e s m below meth c ls C hnm hmt hw hl
  have hx := C.1
  have hb := C.2.1
  generalize va_A (w_mo E a_mo mo_code mo_tape mo_text mo_taped mo_size mo_at mo_ill mo_in mo_kind mo_type mo_long1 mo_letters mo_fields mo_kept mo_now mo_many mo_itemKind mo_itemField mo_itemPlace mo_by mo_stepKind mo_stepField mo_stepOperator mo_stepOther mo_stepMany mo_literalType mo_literalFrom mo_literalSize mo_bytes mo_said mo_number mo_pile mo_pilePlace mo_top mo_open) sz = A at C hw ⊢
  unfold f_X6_takes at hf
  refine lv_iload_n hx hb dX6_takes_0 rfl (lv_at hl 1 rfl) ?_
  refine lv_if_lt (tgt := 12) hx hb dX6_takes_1 (by decide) (fun c1 => ?_) (fun c1 => ?_)
  · replace hf := it_t c1 hf
    refine lv_iconst (v := 0) hx hb dX6_takes_12 (by decide) ?_
    cases hf
    exact rt_z C hw (Or.inl rfl) dX6_takes_13
  · replace hf := it_f c1 hf
    refine lv_iload_n hx hb dX6_takes_4 rfl (lv_at hl 1 rfl) ?_
    refine lv_aload_n hx hb dX6_takes_5 rfl (lv_at hl 0 rfl) ?_
    refine fg_X6_93 C hw 0 rfl rfl dX6_takes_6 ?_
    refine lv_icmp_le (tgt := 14) hx hb dX6_takes_9 (by decide) (fun c9 => ?_) (fun c9 => ?_)
    · replace hf := it_t c9 hf
      refine lv_iconst (v := 0) hx hb dX6_takes_14 (by decide) ?_
      refine lv_istore_n (lv' := [(2, .int (0 : Int32)), (0, .ref (a_mo 0)), (1, .int p1)]) hx hb dX6_takes_15 rfl hl (by decide) rfl (fun ls hl => ?_)
      obtain ⟨x1, hx1, hf⟩ := ob1_el hf
      refine w_X6_takes_16 C FU hw (lv_sub hl [1, 2, 0] rfl) hx1 ?_
      clear hw hl
      intro H locs ls hw hl
      refine lv_aload_n hx hb dX6_takes_39 rfl (lv_at hl 0 rfl) ?_
      refine lv_iload_n hx hb dX6_takes_40 rfl (lv_at hl 1 rfl) ?_
      refine fp_X6_96 C hw 0 rfl (Nat.le_of_ble_eq_true rfl) (ws' := w_mo E a_mo mo_code mo_tape x1 mo_taped p1 mo_at mo_ill mo_in mo_kind mo_type mo_long1 mo_letters mo_fields mo_kept mo_now mo_many mo_itemKind mo_itemField mo_itemPlace mo_by mo_stepKind mo_stepField mo_stepOperator mo_stepOther mo_stepMany mo_literalType mo_literalFrom mo_literalSize mo_bytes mo_said mo_number mo_pile mo_pilePlace mo_top mo_open) rfl dX6_takes_41 (fun H locs hw => ?_)
      refine lv_aload_n hx hb dX6_takes_44 rfl (lv_at hl 0 rfl) ?_
      refine lv_iconst (v := 0) hx hb dX6_takes_45 (by decide) ?_
      refine fp_X6_93 C hw 0 rfl (Nat.le_of_ble_eq_true rfl) (ws' := w_mo E a_mo mo_code mo_tape x1 (0 : Int32) p1 mo_at mo_ill mo_in mo_kind mo_type mo_long1 mo_letters mo_fields mo_kept mo_now mo_many mo_itemKind mo_itemField mo_itemPlace mo_by mo_stepKind mo_stepField mo_stepOperator mo_stepOther mo_stepMany mo_literalType mo_literalFrom mo_literalSize mo_bytes mo_said mo_number mo_pile mo_pilePlace mo_top mo_open) rfl dX6_takes_46 (fun H locs hw => ?_)
      refine lv_aload_n hx hb dX6_takes_49 rfl (lv_at hl 0 rfl) ?_
      refine lv_iconst (v := 0) hx hb dX6_takes_50 (by decide) ?_
      refine fp_X6_99 C hw 0 rfl (Nat.le_of_ble_eq_true rfl) (ws' := w_mo E a_mo mo_code mo_tape x1 (0 : Int32) p1 (0 : Int32) mo_ill mo_in mo_kind mo_type mo_long1 mo_letters mo_fields mo_kept mo_now mo_many mo_itemKind mo_itemField mo_itemPlace mo_by mo_stepKind mo_stepField mo_stepOperator mo_stepOther mo_stepMany mo_literalType mo_literalFrom mo_literalSize mo_bytes mo_said mo_number mo_pile mo_pilePlace mo_top mo_open) rfl dX6_takes_51 (fun H locs hw => ?_)
      refine lv_aload_n hx hb dX6_takes_54 rfl (lv_at hl 0 rfl) ?_
      refine lv_iconst (v := -1) hx hb dX6_takes_55 (by decide) ?_
      refine fp_X6_102 C hw 0 rfl (Nat.le_of_ble_eq_true rfl) (ws' := w_mo E a_mo mo_code mo_tape x1 (0 : Int32) p1 (0 : Int32) (-1 : Int32) mo_in mo_kind mo_type mo_long1 mo_letters mo_fields mo_kept mo_now mo_many mo_itemKind mo_itemField mo_itemPlace mo_by mo_stepKind mo_stepField mo_stepOperator mo_stepOther mo_stepMany mo_literalType mo_literalFrom mo_literalSize mo_bytes mo_said mo_number mo_pile mo_pilePlace mo_top mo_open) rfl dX6_takes_56 (fun H locs hw => ?_)
      refine lv_iconst (v := 1) hx hb dX6_takes_59 (by decide) ?_
      cases hf
      exact rt_z C hw (Or.inr rfl) dX6_takes_60
    · replace hf := it_f c9 hf
      refine lv_iconst (v := 0) hx hb dX6_takes_12 (by decide) ?_
      cases hf
      exact rt_z C hw (Or.inl rfl) dX6_takes_13
def f_X6_isLetter (p0 : Int32) : Option ((Int32)) :=
  if p0 < (97 : Int32) then (if p0 < (65 : Int32) then (some (0 : Int32))
  else (if (90 : Int32) < p0 then (some (0 : Int32))
  else (some (1 : Int32))))
  else (if p0 ≤ (122 : Int32) then (some (1 : Int32))
  else (if p0 < (65 : Int32) then (some (0 : Int32))
  else (if (90 : Int32) < p0 then (some (0 : Int32))
  else (some (1 : Int32)))))
set_option maxHeartbeats 4000000 in
set_option maxRecDepth 100000 in
theorem c_X6_isLetter (l : Launch) (E : EnvT) (p0 : Int32) (r : Int32) (hf : f_X6_isLetter p0 = some r) : CI l yX6_isLetter (Cond.code yX6_isLetter cX6_isLetter 1 (some .boolean)) { frames := 0, cells := 0, slots := 0, locals := 0 } E [.int p0] ([]) r ([]) := by
  intro sz
  refine met_start [(0, .int p0)] (by decide) rfl rfl (Nat.le_of_ble_eq_true rfl) rfl ?_
  intro p e s m below meth c ls C hnm hmt hw hl
  have hx := C.1
  have hb := C.2.1
  generalize va_A ([]) sz = A at C hw ⊢
  unfold f_X6_isLetter at hf
  refine lv_iload_n hx hb dX6_isLetter_0 rfl (lv_at hl 0 rfl) ?_
  refine lv_bipush (v := 97) hx hb dX6_isLetter_1 (by decide) ?_
  refine lv_icmp_lt (tgt := 12) hx hb dX6_isLetter_3 (by decide) (fun c3 => ?_) (fun c3 => ?_)
  · replace hf := it_t c3 hf
    refine lv_iload_n hx hb dX6_isLetter_12 rfl (lv_at hl 0 rfl) ?_
    refine lv_bipush (v := 65) hx hb dX6_isLetter_13 (by decide) ?_
    refine lv_icmp_lt (tgt := 28) hx hb dX6_isLetter_15 (by decide) (fun c15 => ?_) (fun c15 => ?_)
    · replace hf := it_t c15 hf
      refine lv_iconst (v := 0) hx hb dX6_isLetter_28 (by decide) ?_
      cases hf
      exact rt_z C hw (Or.inl rfl) dX6_isLetter_29
    · replace hf := it_f c15 hf
      refine lv_iload_n hx hb dX6_isLetter_18 rfl (lv_at hl 0 rfl) ?_
      refine lv_bipush (v := 90) hx hb dX6_isLetter_19 (by decide) ?_
      refine lv_icmp_gt (tgt := 28) hx hb dX6_isLetter_21 (by decide) (fun c21 => ?_) (fun c21 => ?_)
      · replace hf := it_t c21 hf
        refine lv_iconst (v := 0) hx hb dX6_isLetter_28 (by decide) ?_
        cases hf
        exact rt_z C hw (Or.inl rfl) dX6_isLetter_29
      · replace hf := it_f c21 hf
        refine lv_iconst (v := 1) hx hb dX6_isLetter_24 (by decide) ?_
        refine lv_goto (tgt := 29) hx hb dX6_isLetter_25 (by decide) ?_
        cases hf
        exact rt_z C hw (Or.inr rfl) dX6_isLetter_29
  · replace hf := it_f c3 hf
    refine lv_iload_n hx hb dX6_isLetter_6 rfl (lv_at hl 0 rfl) ?_
    refine lv_bipush (v := 122) hx hb dX6_isLetter_7 (by decide) ?_
    refine lv_icmp_le (tgt := 24) hx hb dX6_isLetter_9 (by decide) (fun c9 => ?_) (fun c9 => ?_)
    · replace hf := it_t c9 hf
      refine lv_iconst (v := 1) hx hb dX6_isLetter_24 (by decide) ?_
      refine lv_goto (tgt := 29) hx hb dX6_isLetter_25 (by decide) ?_
      cases hf
      exact rt_z C hw (Or.inr rfl) dX6_isLetter_29
    · replace hf := it_f c9 hf
      refine lv_iload_n hx hb dX6_isLetter_12 rfl (lv_at hl 0 rfl) ?_
      refine lv_bipush (v := 65) hx hb dX6_isLetter_13 (by decide) ?_
      refine lv_icmp_lt (tgt := 28) hx hb dX6_isLetter_15 (by decide) (fun c15 => ?_) (fun c15 => ?_)
      · replace hf := it_t c15 hf
        refine lv_iconst (v := 0) hx hb dX6_isLetter_28 (by decide) ?_
        cases hf
        exact rt_z C hw (Or.inl rfl) dX6_isLetter_29
      · replace hf := it_f c15 hf
        refine lv_iload_n hx hb dX6_isLetter_18 rfl (lv_at hl 0 rfl) ?_
        refine lv_bipush (v := 90) hx hb dX6_isLetter_19 (by decide) ?_
        refine lv_icmp_gt (tgt := 28) hx hb dX6_isLetter_21 (by decide) (fun c21 => ?_) (fun c21 => ?_)
        · replace hf := it_t c21 hf
          refine lv_iconst (v := 0) hx hb dX6_isLetter_28 (by decide) ?_
          cases hf
          exact rt_z C hw (Or.inl rfl) dX6_isLetter_29
        · replace hf := it_f c21 hf
          refine lv_iconst (v := 1) hx hb dX6_isLetter_24 (by decide) ?_
          refine lv_goto (tgt := 29) hx hb dX6_isLetter_25 (by decide) ?_
          cases hf
          exact rt_z C hw (Or.inr rfl) dX6_isLetter_29
def f_X6_isDigit (p0 : Int32) : Option ((Int32)) :=
  if p0 < (48 : Int32) then (some (0 : Int32))
  else (if (57 : Int32) < p0 then (some (0 : Int32))
  else (some (1 : Int32)))
set_option maxHeartbeats 4000000 in
set_option maxRecDepth 100000 in
theorem c_X6_isDigit (l : Launch) (E : EnvT) (p0 : Int32) (r : Int32) (hf : f_X6_isDigit p0 = some r) : CI l yX6_isDigit (Cond.code yX6_isDigit cX6_isDigit 1 (some .boolean)) { frames := 0, cells := 0, slots := 0, locals := 0 } E [.int p0] ([]) r ([]) := by
  intro sz
  refine met_start [(0, .int p0)] (by decide) rfl rfl (Nat.le_of_ble_eq_true rfl) rfl ?_
  intro p e s m below meth c ls C hnm hmt hw hl
  have hx := C.1
  have hb := C.2.1
  generalize va_A ([]) sz = A at C hw ⊢
  unfold f_X6_isDigit at hf
  refine lv_iload_n hx hb dX6_isDigit_0 rfl (lv_at hl 0 rfl) ?_
  refine lv_bipush (v := 48) hx hb dX6_isDigit_1 (by decide) ?_
  refine lv_icmp_lt (tgt := 16) hx hb dX6_isDigit_3 (by decide) (fun c3 => ?_) (fun c3 => ?_)
  · replace hf := it_t c3 hf
    refine lv_iconst (v := 0) hx hb dX6_isDigit_16 (by decide) ?_
    cases hf
    exact rt_z C hw (Or.inl rfl) dX6_isDigit_17
  · replace hf := it_f c3 hf
    refine lv_iload_n hx hb dX6_isDigit_6 rfl (lv_at hl 0 rfl) ?_
    refine lv_bipush (v := 57) hx hb dX6_isDigit_7 (by decide) ?_
    refine lv_icmp_gt (tgt := 16) hx hb dX6_isDigit_9 (by decide) (fun c9 => ?_) (fun c9 => ?_)
    · replace hf := it_t c9 hf
      refine lv_iconst (v := 0) hx hb dX6_isDigit_16 (by decide) ?_
      cases hf
      exact rt_z C hw (Or.inl rfl) dX6_isDigit_17
    · replace hf := it_f c9 hf
      refine lv_iconst (v := 1) hx hb dX6_isDigit_12 (by decide) ?_
      refine lv_goto (tgt := 17) hx hb dX6_isDigit_13 (by decide) ?_
      cases hf
      exact rt_z C hw (Or.inr rfl) dX6_isDigit_17
def f_X6_wordAt_2 : Nat → (Int32) → (Int32) → (Nat → Int32) → (Int32) → Option ((Int32))
  | 0, _, _, _, _ => none
  | n + 1, l1, l2, mo_text, mo_size =>
  if mo_size ≤ l2 then (some l2)
  else (rd mo_text 2000 l2 (fun x1 =>
  ob1 (f_X6_isLetter x1) (fun x2 =>
  if x2 = (0 : Int32) then (if l2 ≤ l1 then (some l2)
  else (rd mo_text 2000 l2 (fun x4 =>
  ob1 (f_X6_isDigit x4) (fun x5 =>
  if x5 = (0 : Int32) then (rd mo_text 2000 l2 (fun x7 =>
  if x7 = (95 : Int32) then (on (l2 + (1 : Int32)) (fun x8 =>
  f_X6_wordAt_2 n l1 x8 mo_text mo_size))
  else (some l2)))
  else (on (l2 + (1 : Int32)) (fun x6 =>
  f_X6_wordAt_2 n l1 x6 mo_text mo_size))))))
  else (on (l2 + (1 : Int32)) (fun x3 =>
  f_X6_wordAt_2 n l1 x3 mo_text mo_size)))))
set_option maxHeartbeats 4000000 in
set_option maxRecDepth 100000 in
theorem w_X6_wordAt_2 {p : Program} {l : Launch} {e : Env} {s : State} {m : MethodId} {args : Array Value} {below : List Frame} {meth : Method} {c : Code} {E : EnvT} {A : Nat → Prop} {a_mo : Nat → Nat} {Q : State → Prop} {mo_code : Int32} {mo_tape : Nat → Int32} {mo_taped : Int32} {mo_at : Int32} {mo_ill : Int32} {mo_in : Nat → Int32} {mo_kind : Nat → Int32} {mo_type : Nat → Int32} {mo_long1 : Nat → Int32} {mo_letters : Nat → Int32} {mo_fields : Int32} {mo_kept : Int32} {mo_now : Int32} {mo_many : Nat → Int32} {mo_itemKind : Nat → Int32} {mo_itemField : Nat → Int32} {mo_itemPlace : Nat → Int32} {mo_by : Nat → Int32} {mo_stepKind : Nat → Int32} {mo_stepField : Nat → Int32} {mo_stepOperator : Nat → Int32} {mo_stepOther : Nat → Int32} {mo_stepMany : Nat → Int32} {mo_literalType : Nat → Int32} {mo_literalFrom : Nat → Int32} {mo_literalSize : Nat → Int32} {mo_bytes : Nat → Int32} {mo_said : Nat → Int32} {mo_number : Nat → Int64} {mo_pile : Nat → Int32} {mo_pilePlace : Nat → Int32} {mo_top : Int32} {mo_open : Int32} {q_l2 : Int32} (C : MC p s m args meth c E A cX6_wordAt 3 RX6 (some .int)) : ∀ (n : Nat) {l1 : Int32} {l2 : Int32} {mo_text : Nat → Int32} {mo_size : Int32} {H : Heap} {locs : List Loc} {ls : Array Slot}, WS E A s (w_mo E a_mo mo_code mo_tape mo_text mo_taped mo_size mo_at mo_ill mo_in mo_kind mo_type mo_long1 mo_letters mo_fields mo_kept mo_now mo_many mo_itemKind mo_itemField mo_itemPlace mo_by mo_stepKind mo_stepField mo_stepOperator mo_stepOther mo_stepMany mo_literalType mo_literalFrom mo_literalSize mo_bytes mo_said mo_number mo_pile mo_pilePlace mo_top mo_open) H locs → lv_has ls 3 [(0, .ref (a_mo 0)), (1, .int l1), (2, .int l2)] → f_X6_wordAt_2 n l1 l2 mo_text mo_size = some q_l2 → (∀ (H : Heap) (locs : List Loc) (ls : Array Slot), WS E A s (w_mo E a_mo mo_code mo_tape mo_text mo_taped mo_size mo_at mo_ill mo_in mo_kind mo_type mo_long1 mo_letters mo_fields mo_kept mo_now mo_many mo_itemKind mo_itemField mo_itemPlace mo_by mo_stepKind mo_stepField mo_stepOperator mo_stepOther mo_stepMany mo_literalType mo_literalFrom mo_literalSize mo_bytes mo_said mo_number mo_pile mo_pilePlace mo_top mo_open) H locs → lv_has ls 3 [(1, .int l1), (2, .int q_l2)] → W p l e { frames := 1, cells := 0, slots := 0, locals := 20 } s m args below meth c H locs 0 0 Q (F0 m 56 ls [])) → W p l e { frames := 1, cells := 0, slots := 0, locals := 20 } s m args below meth c H locs 0 0 Q (F0 m 2 ls []) := by
  have hx := C.1
  have hb := C.2.1
  intro n
  induction n with
  | zero =>
    intro l1 l2 mo_text mo_size H locs ls hw hl hf kk
    unfold f_X6_wordAt_2 at hf
    cases hf
  | succ n ih =>
    intro l1 l2 mo_text mo_size H locs ls hw hl hf kk
    unfold f_X6_wordAt_2 at hf
    refine lv_iload_n hx hb dX6_wordAt_2 rfl (lv_at hl 2 rfl) ?_
    refine lv_aload_n hx hb dX6_wordAt_3 rfl (lv_at hl 0 rfl) ?_
    refine fg_X6_96 C hw 0 rfl rfl dX6_wordAt_4 ?_
    refine lv_icmp_ge (tgt := 56) hx hb dX6_wordAt_7 (by decide) (fun c7 => ?_) (fun c7 => ?_)
    · replace hf := it_t c7 hf
      cases hf
      exact kk _ _ _ hw (lv_sub hl [1, 2] rfl)
    · replace hf := it_f c7 hf
      refine lv_aload_n hx hb dX6_wordAt_10 rfl (lv_at hl 0 rfl) ?_
      refine fg_X6_13 C hw 0 rfl rfl dX6_wordAt_11 ?_
      refine lv_iload_n hx hb dX6_wordAt_14 rfl (lv_at hl 2 rfl) ?_
      obtain ⟨x1, ex1, gx1, hf⟩ := rd_el hf
      refine ra_i C hw 2 rfl gx1 dX6_wordAt_15 ?_
      refine tp_i ex1 ?_
      obtain ⟨x2, z2, hf⟩ := ob1_el hf
      refine cI_S C hw (c_X6_isLetter l E x1 x2 z2) cs_X6_105 ⟨Nat.le_of_ble_eq_true rfl, Nat.le_of_ble_eq_true rfl⟩ ⟨rfl, rfl⟩ (wn := w_mo E a_mo mo_code mo_tape mo_text mo_taped mo_size mo_at mo_ill mo_in mo_kind mo_type mo_long1 mo_letters mo_fields mo_kept mo_now mo_many mo_itemKind mo_itemField mo_itemPlace mo_by mo_stepKind mo_stepField mo_stepOperator mo_stepOther mo_stepMany mo_literalType mo_literalFrom mo_literalSize mo_bytes mo_said mo_number mo_pile mo_pilePlace mo_top mo_open) (Jn.none _) rfl hl.1 rfl (Nat.le_of_ble_eq_true rfl) dX6_wordAt_16 ⟨Nat.zero_le _, Nat.zero_le _⟩ (fun H locs hw => ?_)
      refine lv_if_ne (tgt := 50) hx hb dX6_wordAt_19 (by decide) (fun c19 => ?_) (fun c19 => ?_)
      · replace hf := it_f c19 hf
        obtain ⟨x3, ex3, hf⟩ := on_el hf
        refine lv_iinc (v := x3) (lv' := [(2, .int x3), (0, .ref (a_mo 0)), (1, .int l1)]) hx hb dX6_wordAt_50 hl (k := 2) rfl (by rw [← ex3]; rfl) (by decide) rfl (fun ls hl => ?_)
        refine lv_goto (tgt := 2) hx hb dX6_wordAt_53 (by decide) ?_
        exact ih hw (lv_sub hl [1, 2, 0] rfl) hf kk
      · replace hf := it_t c19 hf
        refine lv_iload_n hx hb dX6_wordAt_22 rfl (lv_at hl 2 rfl) ?_
        refine lv_iload_n hx hb dX6_wordAt_23 rfl (lv_at hl 1 rfl) ?_
        refine lv_icmp_le (tgt := 56) hx hb dX6_wordAt_24 (by decide) (fun c24 => ?_) (fun c24 => ?_)
        · replace hf := it_t c24 hf
          cases hf
          exact kk _ _ _ hw (lv_sub hl [1, 2] rfl)
        · replace hf := it_f c24 hf
          refine lv_aload_n hx hb dX6_wordAt_27 rfl (lv_at hl 0 rfl) ?_
          refine fg_X6_13 C hw 0 rfl rfl dX6_wordAt_28 ?_
          refine lv_iload_n hx hb dX6_wordAt_31 rfl (lv_at hl 2 rfl) ?_
          obtain ⟨x4, ex4, gx4, hf⟩ := rd_el hf
          refine ra_i C hw 2 rfl gx4 dX6_wordAt_32 ?_
          refine tp_i ex4 ?_
          obtain ⟨x5, z5, hf⟩ := ob1_el hf
          refine cI_S C hw (c_X6_isDigit l E x4 x5 z5) cs_X6_109 ⟨Nat.le_of_ble_eq_true rfl, Nat.le_of_ble_eq_true rfl⟩ ⟨rfl, rfl⟩ (wn := w_mo E a_mo mo_code mo_tape mo_text mo_taped mo_size mo_at mo_ill mo_in mo_kind mo_type mo_long1 mo_letters mo_fields mo_kept mo_now mo_many mo_itemKind mo_itemField mo_itemPlace mo_by mo_stepKind mo_stepField mo_stepOperator mo_stepOther mo_stepMany mo_literalType mo_literalFrom mo_literalSize mo_bytes mo_said mo_number mo_pile mo_pilePlace mo_top mo_open) (Jn.none _) rfl hl.1 rfl (Nat.le_of_ble_eq_true rfl) dX6_wordAt_33 ⟨Nat.zero_le _, Nat.zero_le _⟩ (fun H locs hw => ?_)
          refine lv_if_ne (tgt := 50) hx hb dX6_wordAt_36 (by decide) (fun c36 => ?_) (fun c36 => ?_)
          · replace hf := it_f c36 hf
            obtain ⟨x6, ex6, hf⟩ := on_el hf
            refine lv_iinc (v := x6) (lv' := [(2, .int x6), (0, .ref (a_mo 0)), (1, .int l1)]) hx hb dX6_wordAt_50 hl (k := 2) rfl (by rw [← ex6]; rfl) (by decide) rfl (fun ls hl => ?_)
            refine lv_goto (tgt := 2) hx hb dX6_wordAt_53 (by decide) ?_
            exact ih hw (lv_sub hl [1, 2, 0] rfl) hf kk
          · replace hf := it_t c36 hf
            refine lv_aload_n hx hb dX6_wordAt_39 rfl (lv_at hl 0 rfl) ?_
            refine fg_X6_13 C hw 0 rfl rfl dX6_wordAt_40 ?_
            refine lv_iload_n hx hb dX6_wordAt_43 rfl (lv_at hl 2 rfl) ?_
            obtain ⟨x7, ex7, gx7, hf⟩ := rd_el hf
            refine ra_i C hw 2 rfl gx7 dX6_wordAt_44 ?_
            refine tp_i ex7 ?_
            refine lv_bipush (v := 95) hx hb dX6_wordAt_45 (by decide) ?_
            refine lv_icmp_ne (tgt := 56) hx hb dX6_wordAt_47 (by decide) (fun c47 => ?_) (fun c47 => ?_)
            · replace hf := it_f c47 hf
              cases hf
              exact kk _ _ _ hw (lv_sub hl [1, 2] rfl)
            · replace hf := it_t c47 hf
              obtain ⟨x8, ex8, hf⟩ := on_el hf
              refine lv_iinc (v := x8) (lv' := [(2, .int x8), (0, .ref (a_mo 0)), (1, .int l1)]) hx hb dX6_wordAt_50 hl (k := 2) rfl (by rw [← ex8]; rfl) (by decide) rfl (fun ls hl => ?_)
              refine lv_goto (tgt := 2) hx hb dX6_wordAt_53 (by decide) ?_
              exact ih hw (lv_sub hl [1, 2, 0] rfl) hf kk
def f_X6_wordAt (p1 : Int32) (mo_text : Nat → Int32) (mo_size : Int32) : Option ((Int32)) :=
  ob1 (f_X6_wordAt_2 FU p1 p1 mo_text mo_size) (fun x1 =>
  some (x1 - p1))
set_option maxHeartbeats 4000000 in
set_option maxRecDepth 100000 in
theorem c_X6_wordAt (l : Launch) (E : EnvT) (a_mo : Nat → Nat) (mo_code : Int32) (mo_tape : Nat → Int32) (mo_text : Nat → Int32) (mo_taped : Int32) (mo_size : Int32) (mo_at : Int32) (mo_ill : Int32) (mo_in : Nat → Int32) (mo_kind : Nat → Int32) (mo_type : Nat → Int32) (mo_long1 : Nat → Int32) (mo_letters : Nat → Int32) (mo_fields : Int32) (mo_kept : Int32) (mo_now : Int32) (mo_many : Nat → Int32) (mo_itemKind : Nat → Int32) (mo_itemField : Nat → Int32) (mo_itemPlace : Nat → Int32) (mo_by : Nat → Int32) (mo_stepKind : Nat → Int32) (mo_stepField : Nat → Int32) (mo_stepOperator : Nat → Int32) (mo_stepOther : Nat → Int32) (mo_stepMany : Nat → Int32) (mo_literalType : Nat → Int32) (mo_literalFrom : Nat → Int32) (mo_literalSize : Nat → Int32) (mo_bytes : Nat → Int32) (mo_said : Nat → Int32) (mo_number : Nat → Int64) (mo_pile : Nat → Int32) (mo_pilePlace : Nat → Int32) (mo_top : Int32) (mo_open : Int32) (p1 : Int32) (r : Int32) (hf : f_X6_wordAt p1 mo_text mo_size = some r) : CI l yX6_wordAt (Cond.code yX6_wordAt cX6_wordAt 3 (some .int)) { frames := 1, cells := 0, slots := 0, locals := 20 } E [.ref (a_mo 0), .int p1] (w_mo E a_mo mo_code mo_tape mo_text mo_taped mo_size mo_at mo_ill mo_in mo_kind mo_type mo_long1 mo_letters mo_fields mo_kept mo_now mo_many mo_itemKind mo_itemField mo_itemPlace mo_by mo_stepKind mo_stepField mo_stepOperator mo_stepOther mo_stepMany mo_literalType mo_literalFrom mo_literalSize mo_bytes mo_said mo_number mo_pile mo_pilePlace mo_top mo_open) r (w_mo E a_mo mo_code mo_tape mo_text mo_taped mo_size mo_at mo_ill mo_in mo_kind mo_type mo_long1 mo_letters mo_fields mo_kept mo_now mo_many mo_itemKind mo_itemField mo_itemPlace mo_by mo_stepKind mo_stepField mo_stepOperator mo_stepOther mo_stepMany mo_literalType mo_literalFrom mo_literalSize mo_bytes mo_said mo_number mo_pile mo_pilePlace mo_top mo_open) := by
  intro sz
  refine met_start [(0, .ref (a_mo 0)), (1, .int p1)] (by decide) rfl rfl (Nat.le_of_ble_eq_true rfl) rfl ?_
  intro p e s m below meth c ls C hnm hmt hw hl
  have hx := C.1
  have hb := C.2.1
  generalize va_A (w_mo E a_mo mo_code mo_tape mo_text mo_taped mo_size mo_at mo_ill mo_in mo_kind mo_type mo_long1 mo_letters mo_fields mo_kept mo_now mo_many mo_itemKind mo_itemField mo_itemPlace mo_by mo_stepKind mo_stepField mo_stepOperator mo_stepOther mo_stepMany mo_literalType mo_literalFrom mo_literalSize mo_bytes mo_said mo_number mo_pile mo_pilePlace mo_top mo_open) sz = A at C hw ⊢
  unfold f_X6_wordAt at hf
  refine lv_iload_n hx hb dX6_wordAt_0 rfl (lv_at hl 1 rfl) ?_
  refine lv_istore_n (lv' := [(2, .int p1), (0, .ref (a_mo 0)), (1, .int p1)]) hx hb dX6_wordAt_1 rfl hl (by decide) rfl (fun ls hl => ?_)
  obtain ⟨x1, hx1, hf⟩ := ob1_el hf
  refine w_X6_wordAt_2 C FU hw (lv_sub hl [1, 2, 0] rfl) hx1 ?_
  clear hw hl
  intro H locs ls hw hl
  refine lv_iload_n hx hb dX6_wordAt_56 rfl (lv_at hl 1 rfl) ?_
  refine lv_iload_n hx hb dX6_wordAt_57 rfl (lv_at hl 0 rfl) ?_
  refine lv_isub hx hb dX6_wordAt_58 ?_
  cases hf
  exact rt_i C hw dX6_wordAt_59
def f_X6_find_48 : Nat → (Int32) → (Int32) → (Int32) → (Int32) → (Int32) → (Nat → Int32) → (Nat → Int32) → Option ((Int32))
  | 0, _, _, _, _, _, _, _ => none
  | n + 1, l2, l3, l5, l6, l7, mo_text, mo_letters =>
  if l6 = (0 : Int32) then (some l6)
  else (if l3 ≤ l7 then (some l6)
  else (rd mo_letters 1024 (((16 : Int32) * l5) + l7) (fun x1 =>
  rd mo_text 2000 (l2 + l7) (fun x2 =>
  if x1 = x2 then (on (l7 + (1 : Int32)) (fun x4 =>
  f_X6_find_48 n l2 l3 l5 (1 : Int32) x4 mo_text mo_letters))
  else (on (l7 + (1 : Int32)) (fun x3 =>
  f_X6_find_48 n l2 l3 l5 (0 : Int32) x3 mo_text mo_letters))))))
set_option maxHeartbeats 4000000 in
set_option maxRecDepth 100000 in
theorem w_X6_find_48 {p : Program} {l : Launch} {e : Env} {s : State} {m : MethodId} {args : Array Value} {below : List Frame} {meth : Method} {c : Code} {E : EnvT} {A : Nat → Prop} {a_mo : Nat → Nat} {Q : State → Prop} {mo_code : Int32} {mo_tape : Nat → Int32} {mo_taped : Int32} {mo_size : Int32} {mo_at : Int32} {mo_ill : Int32} {mo_in : Nat → Int32} {mo_kind : Nat → Int32} {mo_type : Nat → Int32} {mo_long1 : Nat → Int32} {mo_fields : Int32} {mo_kept : Int32} {mo_now : Int32} {mo_many : Nat → Int32} {mo_itemKind : Nat → Int32} {mo_itemField : Nat → Int32} {mo_itemPlace : Nat → Int32} {mo_by : Nat → Int32} {mo_stepKind : Nat → Int32} {mo_stepField : Nat → Int32} {mo_stepOperator : Nat → Int32} {mo_stepOther : Nat → Int32} {mo_stepMany : Nat → Int32} {mo_literalType : Nat → Int32} {mo_literalFrom : Nat → Int32} {mo_literalSize : Nat → Int32} {mo_bytes : Nat → Int32} {mo_said : Nat → Int32} {mo_number : Nat → Int64} {mo_pile : Nat → Int32} {mo_pilePlace : Nat → Int32} {mo_top : Int32} {mo_open : Int32} {l1 : Int32} {l4 : Int32} {q_l6 : Int32} (C : MC p s m args meth c E A cX6_find 8 RX6 (some .int)) : ∀ (n : Nat) {l2 : Int32} {l3 : Int32} {l5 : Int32} {l6 : Int32} {l7 : Int32} {mo_text : Nat → Int32} {mo_letters : Nat → Int32} {H : Heap} {locs : List Loc} {ls : Array Slot}, WS E A s (w_mo E a_mo mo_code mo_tape mo_text mo_taped mo_size mo_at mo_ill mo_in mo_kind mo_type mo_long1 mo_letters mo_fields mo_kept mo_now mo_many mo_itemKind mo_itemField mo_itemPlace mo_by mo_stepKind mo_stepField mo_stepOperator mo_stepOther mo_stepMany mo_literalType mo_literalFrom mo_literalSize mo_bytes mo_said mo_number mo_pile mo_pilePlace mo_top mo_open) H locs → lv_has ls 8 [(0, .ref (a_mo 0)), (1, .int l1), (2, .int l2), (3, .int l3), (4, .int l4), (5, .int l5), (6, .int l6), (7, .int l7)] → f_X6_find_48 n l2 l3 l5 l6 l7 mo_text mo_letters = some q_l6 → (∀ (H : Heap) (locs : List Loc) (ls : Array Slot), WS E A s (w_mo E a_mo mo_code mo_tape mo_text mo_taped mo_size mo_at mo_ill mo_in mo_kind mo_type mo_long1 mo_letters mo_fields mo_kept mo_now mo_many mo_itemKind mo_itemField mo_itemPlace mo_by mo_stepKind mo_stepField mo_stepOperator mo_stepOther mo_stepMany mo_literalType mo_literalFrom mo_literalSize mo_bytes mo_said mo_number mo_pile mo_pilePlace mo_top mo_open) H locs → lv_has ls 8 [(0, .ref (a_mo 0)), (1, .int l1), (2, .int l2), (3, .int l3), (4, .int l4), (5, .int l5), (6, .int q_l6)] → W p l e { frames := 0, cells := 0, slots := 0, locals := 0 } s m args below meth c H locs 0 0 Q (F0 m 97 ls [])) → W p l e { frames := 0, cells := 0, slots := 0, locals := 0 } s m args below meth c H locs 0 0 Q (F0 m 48 ls []) := by
  have hx := C.1
  have hb := C.2.1
  intro n
  induction n with
  | zero =>
    intro l2 l3 l5 l6 l7 mo_text mo_letters H locs ls hw hl hf kk
    unfold f_X6_find_48 at hf
    cases hf
  | succ n ih =>
    intro l2 l3 l5 l6 l7 mo_text mo_letters H locs ls hw hl hf kk
    unfold f_X6_find_48 at hf
    refine lv_iload hx hb dX6_find_48 (lv_at hl 6 rfl) ?_
    refine lv_if_eq (tgt := 97) hx hb dX6_find_50 (by decide) (fun c50 => ?_) (fun c50 => ?_)
    · replace hf := it_t c50 hf
      cases hf
      exact kk _ _ _ hw (lv_sub hl [0, 1, 2, 3, 4, 5, 6] rfl)
    · replace hf := it_f c50 hf
      refine lv_iload hx hb dX6_find_53 (lv_at hl 7 rfl) ?_
      refine lv_iload_n hx hb dX6_find_55 rfl (lv_at hl 3 rfl) ?_
      refine lv_icmp_ge (tgt := 97) hx hb dX6_find_56 (by decide) (fun c56 => ?_) (fun c56 => ?_)
      · replace hf := it_t c56 hf
        cases hf
        exact kk _ _ _ hw (lv_sub hl [0, 1, 2, 3, 4, 5, 6] rfl)
      · replace hf := it_f c56 hf
        refine lv_aload_n hx hb dX6_find_59 rfl (lv_at hl 0 rfl) ?_
        refine fg_X6_28 C hw 0 rfl rfl dX6_find_60 ?_
        refine lv_bipush (v := 16) hx hb dX6_find_63 (by decide) ?_
        refine lv_iload hx hb dX6_find_65 (lv_at hl 5 rfl) ?_
        refine lv_imul hx hb dX6_find_67 ?_
        refine lv_iload hx hb dX6_find_68 (lv_at hl 7 rfl) ?_
        refine lv_iadd hx hb dX6_find_70 ?_
        obtain ⟨x1, ex1, gx1, hf⟩ := rd_el hf
        refine ra_i C hw 7 rfl gx1 dX6_find_71 ?_
        refine tp_i ex1 ?_
        refine lv_aload_n hx hb dX6_find_72 rfl (lv_at hl 0 rfl) ?_
        refine fg_X6_13 C hw 0 rfl rfl dX6_find_73 ?_
        refine lv_iload_n hx hb dX6_find_76 rfl (lv_at hl 2 rfl) ?_
        refine lv_iload hx hb dX6_find_77 (lv_at hl 7 rfl) ?_
        refine lv_iadd hx hb dX6_find_79 ?_
        obtain ⟨x2, ex2, gx2, hf⟩ := rd_el hf
        refine ra_i C hw 2 rfl gx2 dX6_find_80 ?_
        refine tp_i ex2 ?_
        refine lv_icmp_ne (tgt := 88) hx hb dX6_find_81 (by decide) (fun c81 => ?_) (fun c81 => ?_)
        · replace hf := it_f c81 hf
          refine lv_iconst (v := 0) hx hb dX6_find_88 (by decide) ?_
          refine lv_istore (lv' := [(6, .int (0 : Int32)), (0, .ref (a_mo 0)), (1, .int l1), (2, .int l2), (3, .int l3), (4, .int l4), (5, .int l5), (7, .int l7)]) hx hb dX6_find_89 hl (by decide) rfl (fun ls hl => ?_)
          obtain ⟨x3, ex3, hf⟩ := on_el hf
          refine lv_iinc (v := x3) (lv' := [(7, .int x3), (6, .int (0 : Int32)), (0, .ref (a_mo 0)), (1, .int l1), (2, .int l2), (3, .int l3), (4, .int l4), (5, .int l5)]) hx hb dX6_find_91 hl (k := 7) rfl (by rw [← ex3]; rfl) (by decide) rfl (fun ls hl => ?_)
          refine lv_goto (tgt := 48) hx hb dX6_find_94 (by decide) ?_
          exact ih hw (lv_sub hl [2, 3, 4, 5, 6, 7, 1, 0] rfl) hf kk
        · replace hf := it_t c81 hf
          refine lv_iconst (v := 1) hx hb dX6_find_84 (by decide) ?_
          refine lv_goto (tgt := 89) hx hb dX6_find_85 (by decide) ?_
          refine lv_istore (lv' := [(6, .int (1 : Int32)), (0, .ref (a_mo 0)), (1, .int l1), (2, .int l2), (3, .int l3), (4, .int l4), (5, .int l5), (7, .int l7)]) hx hb dX6_find_89 hl (by decide) rfl (fun ls hl => ?_)
          obtain ⟨x4, ex4, hf⟩ := on_el hf
          refine lv_iinc (v := x4) (lv' := [(7, .int x4), (6, .int (1 : Int32)), (0, .ref (a_mo 0)), (1, .int l1), (2, .int l2), (3, .int l3), (4, .int l4), (5, .int l5)]) hx hb dX6_find_91 hl (k := 7) rfl (by rw [← ex4]; rfl) (by decide) rfl (fun ls hl => ?_)
          refine lv_goto (tgt := 48) hx hb dX6_find_94 (by decide) ?_
          exact ih hw (lv_sub hl [2, 3, 4, 5, 6, 7, 1, 0] rfl) hf kk
def f_X6_find_11 : Nat → (Int32) → (Int32) → (Int32) → (Int32) → (Int32) → (Nat → Int32) → (Nat → Int32) → (Nat → Int32) → (Nat → Int32) → Option ((Int32))
  | 0, _, _, _, _, _, _, _, _, _ => none
  | n + 1, l1, l2, l3, l4, l5, mo_text, mo_in, mo_long1, mo_letters =>
  if l5 < (0 : Int32) then (some l4)
  else (rd mo_in 64 l5 (fun x1 =>
  if x1 = l1 then (rd mo_long1 64 l5 (fun x5 =>
  if x5 = l3 then (ob1 (f_X6_find_48 FU l2 l3 l5 (1 : Int32) (0 : Int32) mo_text mo_letters) (fun x9 =>
  if x9 = (0 : Int32) then (on (l5 + (-1 : Int32)) (fun x10 =>
  f_X6_find_11 n l1 l2 l3 l4 x10 mo_text mo_in mo_long1 mo_letters))
  else (on (l5 + (-1 : Int32)) (fun x11 =>
  f_X6_find_11 n l1 l2 l3 l5 x11 mo_text mo_in mo_long1 mo_letters))))
  else (ob1 (f_X6_find_48 FU l2 l3 l5 (0 : Int32) (0 : Int32) mo_text mo_letters) (fun x6 =>
  if x6 = (0 : Int32) then (on (l5 + (-1 : Int32)) (fun x7 =>
  f_X6_find_11 n l1 l2 l3 l4 x7 mo_text mo_in mo_long1 mo_letters))
  else (on (l5 + (-1 : Int32)) (fun x8 =>
  f_X6_find_11 n l1 l2 l3 l5 x8 mo_text mo_in mo_long1 mo_letters))))))
  else (ob1 (f_X6_find_48 FU l2 l3 l5 (0 : Int32) (0 : Int32) mo_text mo_letters) (fun x2 =>
  if x2 = (0 : Int32) then (on (l5 + (-1 : Int32)) (fun x3 =>
  f_X6_find_11 n l1 l2 l3 l4 x3 mo_text mo_in mo_long1 mo_letters))
  else (on (l5 + (-1 : Int32)) (fun x4 =>
  f_X6_find_11 n l1 l2 l3 l5 x4 mo_text mo_in mo_long1 mo_letters))))))
set_option maxHeartbeats 4000000 in
set_option maxRecDepth 100000 in
theorem w_X6_find_11 {p : Program} {l : Launch} {e : Env} {s : State} {m : MethodId} {args : Array Value} {below : List Frame} {meth : Method} {c : Code} {E : EnvT} {A : Nat → Prop} {a_mo : Nat → Nat} {Q : State → Prop} {mo_code : Int32} {mo_tape : Nat → Int32} {mo_taped : Int32} {mo_size : Int32} {mo_at : Int32} {mo_ill : Int32} {mo_kind : Nat → Int32} {mo_type : Nat → Int32} {mo_fields : Int32} {mo_kept : Int32} {mo_now : Int32} {mo_many : Nat → Int32} {mo_itemKind : Nat → Int32} {mo_itemField : Nat → Int32} {mo_itemPlace : Nat → Int32} {mo_by : Nat → Int32} {mo_stepKind : Nat → Int32} {mo_stepField : Nat → Int32} {mo_stepOperator : Nat → Int32} {mo_stepOther : Nat → Int32} {mo_stepMany : Nat → Int32} {mo_literalType : Nat → Int32} {mo_literalFrom : Nat → Int32} {mo_literalSize : Nat → Int32} {mo_bytes : Nat → Int32} {mo_said : Nat → Int32} {mo_number : Nat → Int64} {mo_pile : Nat → Int32} {mo_pilePlace : Nat → Int32} {mo_top : Int32} {mo_open : Int32} {q_l4 : Int32} (C : MC p s m args meth c E A cX6_find 8 RX6 (some .int)) : ∀ (n : Nat) {l1 : Int32} {l2 : Int32} {l3 : Int32} {l4 : Int32} {l5 : Int32} {mo_text : Nat → Int32} {mo_in : Nat → Int32} {mo_long1 : Nat → Int32} {mo_letters : Nat → Int32} {H : Heap} {locs : List Loc} {ls : Array Slot}, WS E A s (w_mo E a_mo mo_code mo_tape mo_text mo_taped mo_size mo_at mo_ill mo_in mo_kind mo_type mo_long1 mo_letters mo_fields mo_kept mo_now mo_many mo_itemKind mo_itemField mo_itemPlace mo_by mo_stepKind mo_stepField mo_stepOperator mo_stepOther mo_stepMany mo_literalType mo_literalFrom mo_literalSize mo_bytes mo_said mo_number mo_pile mo_pilePlace mo_top mo_open) H locs → lv_has ls 8 [(0, .ref (a_mo 0)), (1, .int l1), (2, .int l2), (3, .int l3), (4, .int l4), (5, .int l5)] → f_X6_find_11 n l1 l2 l3 l4 l5 mo_text mo_in mo_long1 mo_letters = some q_l4 → (∀ (H : Heap) (locs : List Loc) (ls : Array Slot), WS E A s (w_mo E a_mo mo_code mo_tape mo_text mo_taped mo_size mo_at mo_ill mo_in mo_kind mo_type mo_long1 mo_letters mo_fields mo_kept mo_now mo_many mo_itemKind mo_itemField mo_itemPlace mo_by mo_stepKind mo_stepField mo_stepOperator mo_stepOther mo_stepMany mo_literalType mo_literalFrom mo_literalSize mo_bytes mo_said mo_number mo_pile mo_pilePlace mo_top mo_open) H locs → lv_has ls 8 [(4, .int q_l4)] → W p l e { frames := 0, cells := 0, slots := 0, locals := 0 } s m args below meth c H locs 0 0 Q (F0 m 117 ls [])) → W p l e { frames := 0, cells := 0, slots := 0, locals := 0 } s m args below meth c H locs 0 0 Q (F0 m 11 ls []) := by
  have hx := C.1
  have hb := C.2.1
  intro n
  induction n with
  | zero =>
    intro l1 l2 l3 l4 l5 mo_text mo_in mo_long1 mo_letters H locs ls hw hl hf kk
    unfold f_X6_find_11 at hf
    cases hf
  | succ n ih =>
    intro l1 l2 l3 l4 l5 mo_text mo_in mo_long1 mo_letters H locs ls hw hl hf kk
    unfold f_X6_find_11 at hf
    refine lv_iload hx hb dX6_find_11 (lv_at hl 5 rfl) ?_
    refine lv_if_lt (tgt := 117) hx hb dX6_find_13 (by decide) (fun c13 => ?_) (fun c13 => ?_)
    · replace hf := it_t c13 hf
      cases hf
      exact kk _ _ _ hw (lv_sub hl [4] rfl)
    · replace hf := it_f c13 hf
      refine lv_aload_n hx hb dX6_find_16 rfl (lv_at hl 0 rfl) ?_
      refine fg_X6_16 C hw 0 rfl rfl dX6_find_17 ?_
      refine lv_iload hx hb dX6_find_20 (lv_at hl 5 rfl) ?_
      obtain ⟨x1, ex1, gx1, hf⟩ := rd_el hf
      refine ra_i C hw 3 rfl gx1 dX6_find_22 ?_
      refine tp_i ex1 ?_
      refine lv_iload_n hx hb dX6_find_23 rfl (lv_at hl 1 rfl) ?_
      refine lv_icmp_ne (tgt := 42) hx hb dX6_find_24 (by decide) (fun c24 => ?_) (fun c24 => ?_)
      · replace hf := it_f c24 hf
        refine lv_iconst (v := 0) hx hb dX6_find_42 (by decide) ?_
        refine lv_istore (lv' := [(6, .int (0 : Int32)), (0, .ref (a_mo 0)), (1, .int l1), (2, .int l2), (3, .int l3), (4, .int l4), (5, .int l5)]) hx hb dX6_find_43 hl (by decide) rfl (fun ls hl => ?_)
        refine lv_iconst (v := 0) hx hb dX6_find_45 (by decide) ?_
        refine lv_istore (lv' := [(7, .int (0 : Int32)), (6, .int (0 : Int32)), (0, .ref (a_mo 0)), (1, .int l1), (2, .int l2), (3, .int l3), (4, .int l4), (5, .int l5)]) hx hb dX6_find_46 hl (by decide) rfl (fun ls hl => ?_)
        obtain ⟨x2, hx2, hf⟩ := ob1_el hf
        refine w_X6_find_48 C FU hw (lv_sub hl [2, 3, 4, 5, 6, 7, 1, 0] rfl) hx2 ?_
        clear hw hl
        intro H locs ls hw hl
        refine lv_iload hx hb dX6_find_97 (lv_at hl 6 rfl) ?_
        refine lv_if_eq (tgt := 107) hx hb dX6_find_99 (by decide) (fun c99 => ?_) (fun c99 => ?_)
        · replace hf := it_t c99 hf
          refine lv_iload hx hb dX6_find_107 (lv_at hl 4 rfl) ?_
          refine lv_istore (lv' := [(4, .int l4), (0, .ref (a_mo 0)), (1, .int l1), (2, .int l2), (3, .int l3), (5, .int l5), (6, .int x2)]) hx hb dX6_find_109 hl (by decide) rfl (fun ls hl => ?_)
          obtain ⟨x3, ex3, hf⟩ := on_el hf
          refine lv_iinc (v := x3) (lv' := [(5, .int x3), (4, .int l4), (0, .ref (a_mo 0)), (1, .int l1), (2, .int l2), (3, .int l3), (6, .int x2)]) hx hb dX6_find_111 hl (k := 5) rfl (by rw [← ex3]; rfl) (by decide) rfl (fun ls hl => ?_)
          refine lv_goto (tgt := 11) hx hb dX6_find_114 (by decide) ?_
          exact ih hw (lv_sub hl [2, 3, 4, 5, 1, 0] rfl) hf kk
        · replace hf := it_f c99 hf
          refine lv_iload hx hb dX6_find_102 (lv_at hl 5 rfl) ?_
          refine lv_goto (tgt := 109) hx hb dX6_find_104 (by decide) ?_
          refine lv_istore (lv' := [(4, .int l5), (0, .ref (a_mo 0)), (1, .int l1), (2, .int l2), (3, .int l3), (5, .int l5), (6, .int x2)]) hx hb dX6_find_109 hl (by decide) rfl (fun ls hl => ?_)
          obtain ⟨x4, ex4, hf⟩ := on_el hf
          refine lv_iinc (v := x4) (lv' := [(5, .int x4), (4, .int l5), (0, .ref (a_mo 0)), (1, .int l1), (2, .int l2), (3, .int l3), (6, .int x2)]) hx hb dX6_find_111 hl (k := 5) rfl (by rw [← ex4]; rfl) (by decide) rfl (fun ls hl => ?_)
          refine lv_goto (tgt := 11) hx hb dX6_find_114 (by decide) ?_
          exact ih hw (lv_sub hl [2, 3, 4, 5, 1, 0] rfl) hf kk
      · replace hf := it_t c24 hf
        refine lv_aload_n hx hb dX6_find_27 rfl (lv_at hl 0 rfl) ?_
        refine fg_X6_25 C hw 0 rfl rfl dX6_find_28 ?_
        refine lv_iload hx hb dX6_find_31 (lv_at hl 5 rfl) ?_
        obtain ⟨x5, ex5, gx5, hf⟩ := rd_el hf
        refine ra_i C hw 6 rfl gx5 dX6_find_33 ?_
        refine tp_i ex5 ?_
        refine lv_iload_n hx hb dX6_find_34 rfl (lv_at hl 3 rfl) ?_
        refine lv_icmp_ne (tgt := 42) hx hb dX6_find_35 (by decide) (fun c35 => ?_) (fun c35 => ?_)
        · replace hf := it_f c35 hf
          refine lv_iconst (v := 0) hx hb dX6_find_42 (by decide) ?_
          refine lv_istore (lv' := [(6, .int (0 : Int32)), (0, .ref (a_mo 0)), (1, .int l1), (2, .int l2), (3, .int l3), (4, .int l4), (5, .int l5)]) hx hb dX6_find_43 hl (by decide) rfl (fun ls hl => ?_)
          refine lv_iconst (v := 0) hx hb dX6_find_45 (by decide) ?_
          refine lv_istore (lv' := [(7, .int (0 : Int32)), (6, .int (0 : Int32)), (0, .ref (a_mo 0)), (1, .int l1), (2, .int l2), (3, .int l3), (4, .int l4), (5, .int l5)]) hx hb dX6_find_46 hl (by decide) rfl (fun ls hl => ?_)
          obtain ⟨x6, hx6, hf⟩ := ob1_el hf
          refine w_X6_find_48 C FU hw (lv_sub hl [2, 3, 4, 5, 6, 7, 1, 0] rfl) hx6 ?_
          clear hw hl
          intro H locs ls hw hl
          refine lv_iload hx hb dX6_find_97 (lv_at hl 6 rfl) ?_
          refine lv_if_eq (tgt := 107) hx hb dX6_find_99 (by decide) (fun c99 => ?_) (fun c99 => ?_)
          · replace hf := it_t c99 hf
            refine lv_iload hx hb dX6_find_107 (lv_at hl 4 rfl) ?_
            refine lv_istore (lv' := [(4, .int l4), (0, .ref (a_mo 0)), (1, .int l1), (2, .int l2), (3, .int l3), (5, .int l5), (6, .int x6)]) hx hb dX6_find_109 hl (by decide) rfl (fun ls hl => ?_)
            obtain ⟨x7, ex7, hf⟩ := on_el hf
            refine lv_iinc (v := x7) (lv' := [(5, .int x7), (4, .int l4), (0, .ref (a_mo 0)), (1, .int l1), (2, .int l2), (3, .int l3), (6, .int x6)]) hx hb dX6_find_111 hl (k := 5) rfl (by rw [← ex7]; rfl) (by decide) rfl (fun ls hl => ?_)
            refine lv_goto (tgt := 11) hx hb dX6_find_114 (by decide) ?_
            exact ih hw (lv_sub hl [2, 3, 4, 5, 1, 0] rfl) hf kk
          · replace hf := it_f c99 hf
            refine lv_iload hx hb dX6_find_102 (lv_at hl 5 rfl) ?_
            refine lv_goto (tgt := 109) hx hb dX6_find_104 (by decide) ?_
            refine lv_istore (lv' := [(4, .int l5), (0, .ref (a_mo 0)), (1, .int l1), (2, .int l2), (3, .int l3), (5, .int l5), (6, .int x6)]) hx hb dX6_find_109 hl (by decide) rfl (fun ls hl => ?_)
            obtain ⟨x8, ex8, hf⟩ := on_el hf
            refine lv_iinc (v := x8) (lv' := [(5, .int x8), (4, .int l5), (0, .ref (a_mo 0)), (1, .int l1), (2, .int l2), (3, .int l3), (6, .int x6)]) hx hb dX6_find_111 hl (k := 5) rfl (by rw [← ex8]; rfl) (by decide) rfl (fun ls hl => ?_)
            refine lv_goto (tgt := 11) hx hb dX6_find_114 (by decide) ?_
            exact ih hw (lv_sub hl [2, 3, 4, 5, 1, 0] rfl) hf kk
        · replace hf := it_t c35 hf
          refine lv_iconst (v := 1) hx hb dX6_find_38 (by decide) ?_
          refine lv_goto (tgt := 43) hx hb dX6_find_39 (by decide) ?_
          refine lv_istore (lv' := [(6, .int (1 : Int32)), (0, .ref (a_mo 0)), (1, .int l1), (2, .int l2), (3, .int l3), (4, .int l4), (5, .int l5)]) hx hb dX6_find_43 hl (by decide) rfl (fun ls hl => ?_)
          refine lv_iconst (v := 0) hx hb dX6_find_45 (by decide) ?_
          refine lv_istore (lv' := [(7, .int (0 : Int32)), (6, .int (1 : Int32)), (0, .ref (a_mo 0)), (1, .int l1), (2, .int l2), (3, .int l3), (4, .int l4), (5, .int l5)]) hx hb dX6_find_46 hl (by decide) rfl (fun ls hl => ?_)
          obtain ⟨x9, hx9, hf⟩ := ob1_el hf
          refine w_X6_find_48 C FU hw (lv_sub hl [2, 3, 4, 5, 6, 7, 1, 0] rfl) hx9 ?_
          clear hw hl
          intro H locs ls hw hl
          refine lv_iload hx hb dX6_find_97 (lv_at hl 6 rfl) ?_
          refine lv_if_eq (tgt := 107) hx hb dX6_find_99 (by decide) (fun c99 => ?_) (fun c99 => ?_)
          · replace hf := it_t c99 hf
            refine lv_iload hx hb dX6_find_107 (lv_at hl 4 rfl) ?_
            refine lv_istore (lv' := [(4, .int l4), (0, .ref (a_mo 0)), (1, .int l1), (2, .int l2), (3, .int l3), (5, .int l5), (6, .int x9)]) hx hb dX6_find_109 hl (by decide) rfl (fun ls hl => ?_)
            obtain ⟨x10, ex10, hf⟩ := on_el hf
            refine lv_iinc (v := x10) (lv' := [(5, .int x10), (4, .int l4), (0, .ref (a_mo 0)), (1, .int l1), (2, .int l2), (3, .int l3), (6, .int x9)]) hx hb dX6_find_111 hl (k := 5) rfl (by rw [← ex10]; rfl) (by decide) rfl (fun ls hl => ?_)
            refine lv_goto (tgt := 11) hx hb dX6_find_114 (by decide) ?_
            exact ih hw (lv_sub hl [2, 3, 4, 5, 1, 0] rfl) hf kk
          · replace hf := it_f c99 hf
            refine lv_iload hx hb dX6_find_102 (lv_at hl 5 rfl) ?_
            refine lv_goto (tgt := 109) hx hb dX6_find_104 (by decide) ?_
            refine lv_istore (lv' := [(4, .int l5), (0, .ref (a_mo 0)), (1, .int l1), (2, .int l2), (3, .int l3), (5, .int l5), (6, .int x9)]) hx hb dX6_find_109 hl (by decide) rfl (fun ls hl => ?_)
            obtain ⟨x11, ex11, hf⟩ := on_el hf
            refine lv_iinc (v := x11) (lv' := [(5, .int x11), (4, .int l5), (0, .ref (a_mo 0)), (1, .int l1), (2, .int l2), (3, .int l3), (6, .int x9)]) hx hb dX6_find_111 hl (k := 5) rfl (by rw [← ex11]; rfl) (by decide) rfl (fun ls hl => ?_)
            refine lv_goto (tgt := 11) hx hb dX6_find_114 (by decide) ?_
            exact ih hw (lv_sub hl [2, 3, 4, 5, 1, 0] rfl) hf kk
def f_X6_find (p1 : Int32) (p2 : Int32) (p3 : Int32) (mo_text : Nat → Int32) (mo_in : Nat → Int32) (mo_long1 : Nat → Int32) (mo_letters : Nat → Int32) (mo_fields : Int32) : Option ((Int32)) :=
  on (mo_fields - (1 : Int32)) (fun x1 =>
  ob1 (f_X6_find_11 FU p1 p2 p3 (-1 : Int32) x1 mo_text mo_in mo_long1 mo_letters) (fun x2 =>
  some x2))
set_option maxHeartbeats 4000000 in
set_option maxRecDepth 100000 in
theorem c_X6_find (l : Launch) (E : EnvT) (a_mo : Nat → Nat) (mo_code : Int32) (mo_tape : Nat → Int32) (mo_text : Nat → Int32) (mo_taped : Int32) (mo_size : Int32) (mo_at : Int32) (mo_ill : Int32) (mo_in : Nat → Int32) (mo_kind : Nat → Int32) (mo_type : Nat → Int32) (mo_long1 : Nat → Int32) (mo_letters : Nat → Int32) (mo_fields : Int32) (mo_kept : Int32) (mo_now : Int32) (mo_many : Nat → Int32) (mo_itemKind : Nat → Int32) (mo_itemField : Nat → Int32) (mo_itemPlace : Nat → Int32) (mo_by : Nat → Int32) (mo_stepKind : Nat → Int32) (mo_stepField : Nat → Int32) (mo_stepOperator : Nat → Int32) (mo_stepOther : Nat → Int32) (mo_stepMany : Nat → Int32) (mo_literalType : Nat → Int32) (mo_literalFrom : Nat → Int32) (mo_literalSize : Nat → Int32) (mo_bytes : Nat → Int32) (mo_said : Nat → Int32) (mo_number : Nat → Int64) (mo_pile : Nat → Int32) (mo_pilePlace : Nat → Int32) (mo_top : Int32) (mo_open : Int32) (p1 : Int32) (p2 : Int32) (p3 : Int32) (r : Int32) (hf : f_X6_find p1 p2 p3 mo_text mo_in mo_long1 mo_letters mo_fields = some r) : CI l yX6_find (Cond.code yX6_find cX6_find 8 (some .int)) { frames := 0, cells := 0, slots := 0, locals := 0 } E [.ref (a_mo 0), .int p1, .int p2, .int p3] (w_mo E a_mo mo_code mo_tape mo_text mo_taped mo_size mo_at mo_ill mo_in mo_kind mo_type mo_long1 mo_letters mo_fields mo_kept mo_now mo_many mo_itemKind mo_itemField mo_itemPlace mo_by mo_stepKind mo_stepField mo_stepOperator mo_stepOther mo_stepMany mo_literalType mo_literalFrom mo_literalSize mo_bytes mo_said mo_number mo_pile mo_pilePlace mo_top mo_open) r (w_mo E a_mo mo_code mo_tape mo_text mo_taped mo_size mo_at mo_ill mo_in mo_kind mo_type mo_long1 mo_letters mo_fields mo_kept mo_now mo_many mo_itemKind mo_itemField mo_itemPlace mo_by mo_stepKind mo_stepField mo_stepOperator mo_stepOther mo_stepMany mo_literalType mo_literalFrom mo_literalSize mo_bytes mo_said mo_number mo_pile mo_pilePlace mo_top mo_open) := by
  intro sz
  refine met_start [(0, .ref (a_mo 0)), (1, .int p1), (2, .int p2), (3, .int p3)] (by decide) rfl rfl (Nat.le_of_ble_eq_true rfl) rfl ?_
  intro p e s m below meth c ls C hnm hmt hw hl
  have hx := C.1
  have hb := C.2.1
  generalize va_A (w_mo E a_mo mo_code mo_tape mo_text mo_taped mo_size mo_at mo_ill mo_in mo_kind mo_type mo_long1 mo_letters mo_fields mo_kept mo_now mo_many mo_itemKind mo_itemField mo_itemPlace mo_by mo_stepKind mo_stepField mo_stepOperator mo_stepOther mo_stepMany mo_literalType mo_literalFrom mo_literalSize mo_bytes mo_said mo_number mo_pile mo_pilePlace mo_top mo_open) sz = A at C hw ⊢
  unfold f_X6_find at hf
  refine lv_iconst (v := -1) hx hb dX6_find_0 (by decide) ?_
  refine lv_istore (lv' := [(4, .int (-1 : Int32)), (0, .ref (a_mo 0)), (1, .int p1), (2, .int p2), (3, .int p3)]) hx hb dX6_find_1 hl (by decide) rfl (fun ls hl => ?_)
  refine lv_aload_n hx hb dX6_find_3 rfl (lv_at hl 1 rfl) ?_
  refine fg_X6_112 C hw 0 rfl rfl dX6_find_4 ?_
  refine lv_iconst (v := 1) hx hb dX6_find_7 (by decide) ?_
  refine lv_isub hx hb dX6_find_8 ?_
  obtain ⟨x1, ex1, hf⟩ := on_el hf
  refine tp_i ex1 ?_
  refine lv_istore (lv' := [(5, .int x1), (4, .int (-1 : Int32)), (0, .ref (a_mo 0)), (1, .int p1), (2, .int p2), (3, .int p3)]) hx hb dX6_find_9 hl (by decide) rfl (fun ls hl => ?_)
  obtain ⟨x2, hx2, hf⟩ := ob1_el hf
  refine w_X6_find_11 C FU hw (lv_sub hl [2, 3, 4, 5, 1, 0] rfl) hx2 ?_
  clear hw hl
  intro H locs ls hw hl
  refine lv_iload hx hb dX6_find_117 (lv_at hl 0 rfl) ?_
  cases hf
  exact rt_i C hw dX6_find_119
def f_X6_field_169 : Nat → (Int32) → (Int32) → (Nat → Int32) → (Nat → Int32) → (Int32) → Option ((Nat → Int32))
  | 0, _, _, _, _, _ => none
  | n + 1, l4, l6, mo_text, mo_letters, mo_fields =>
  if l4 ≤ l6 then (some mo_letters)
  else (rd mo_text 2000 l6 (fun x1 =>
  wr mo_letters 1024 (((16 : Int32) * mo_fields) + l6) x1 (fun x2 =>
  on (l6 + (1 : Int32)) (fun x3 =>
  f_X6_field_169 n l4 x3 mo_text x2 mo_fields))))
set_option maxHeartbeats 4000000 in
set_option maxRecDepth 100000 in
theorem w_X6_field_169 {p : Program} {l : Launch} {e : Env} {s : State} {m : MethodId} {args : Array Value} {below : List Frame} {meth : Method} {c : Code} {E : EnvT} {A : Nat → Prop} {a_mo : Nat → Nat} {Q : State → Prop} {mo_code : Int32} {mo_tape : Nat → Int32} {mo_taped : Int32} {mo_size : Int32} {mo_at : Int32} {mo_ill : Int32} {mo_in : Nat → Int32} {mo_kind : Nat → Int32} {mo_type : Nat → Int32} {mo_long1 : Nat → Int32} {mo_kept : Int32} {mo_now : Int32} {mo_many : Nat → Int32} {mo_itemKind : Nat → Int32} {mo_itemField : Nat → Int32} {mo_itemPlace : Nat → Int32} {mo_by : Nat → Int32} {mo_stepKind : Nat → Int32} {mo_stepField : Nat → Int32} {mo_stepOperator : Nat → Int32} {mo_stepOther : Nat → Int32} {mo_stepMany : Nat → Int32} {mo_literalType : Nat → Int32} {mo_literalFrom : Nat → Int32} {mo_literalSize : Nat → Int32} {mo_bytes : Nat → Int32} {mo_said : Nat → Int32} {mo_number : Nat → Int64} {mo_pile : Nat → Int32} {mo_pilePlace : Nat → Int32} {mo_top : Int32} {mo_open : Int32} {q_mo_letters : Nat → Int32} (C : MC p s m args meth c E A cX6_field 7 RX6 (some .int)) : ∀ (n : Nat) {l4 : Int32} {l6 : Int32} {mo_text : Nat → Int32} {mo_letters : Nat → Int32} {mo_fields : Int32} {H : Heap} {locs : List Loc} {ls : Array Slot}, WS E A s (w_mo E a_mo mo_code mo_tape mo_text mo_taped mo_size mo_at mo_ill mo_in mo_kind mo_type mo_long1 mo_letters mo_fields mo_kept mo_now mo_many mo_itemKind mo_itemField mo_itemPlace mo_by mo_stepKind mo_stepField mo_stepOperator mo_stepOther mo_stepMany mo_literalType mo_literalFrom mo_literalSize mo_bytes mo_said mo_number mo_pile mo_pilePlace mo_top mo_open) H locs → lv_has ls 7 [(0, .ref (a_mo 0)), (4, .int l4), (6, .int l6)] → f_X6_field_169 n l4 l6 mo_text mo_letters mo_fields = some q_mo_letters → (∀ (H : Heap) (locs : List Loc) (ls : Array Slot), WS E A s (w_mo E a_mo mo_code mo_tape mo_text mo_taped mo_size mo_at mo_ill mo_in mo_kind mo_type mo_long1 q_mo_letters mo_fields mo_kept mo_now mo_many mo_itemKind mo_itemField mo_itemPlace mo_by mo_stepKind mo_stepField mo_stepOperator mo_stepOther mo_stepMany mo_literalType mo_literalFrom mo_literalSize mo_bytes mo_said mo_number mo_pile mo_pilePlace mo_top mo_open) H locs → lv_has ls 7 [(0, .ref (a_mo 0))] → W p l e { frames := 2, cells := 0, slots := 0, locals := 42 } s m args below meth c H locs 0 0 Q (F0 m 204 ls [])) → W p l e { frames := 2, cells := 0, slots := 0, locals := 42 } s m args below meth c H locs 0 0 Q (F0 m 169 ls []) := by
  have hx := C.1
  have hb := C.2.1
  intro n
  induction n with
  | zero =>
    intro l4 l6 mo_text mo_letters mo_fields H locs ls hw hl hf kk
    unfold f_X6_field_169 at hf
    cases hf
  | succ n ih =>
    intro l4 l6 mo_text mo_letters mo_fields H locs ls hw hl hf kk
    unfold f_X6_field_169 at hf
    refine lv_iload hx hb dX6_field_169 (lv_at hl 2 rfl) ?_
    refine lv_iload hx hb dX6_field_171 (lv_at hl 1 rfl) ?_
    refine lv_icmp_ge (tgt := 204) hx hb dX6_field_173 (by decide) (fun c173 => ?_) (fun c173 => ?_)
    · replace hf := it_t c173 hf
      cases hf
      exact kk _ _ _ hw (lv_sub hl [0] rfl)
    · replace hf := it_f c173 hf
      refine lv_aload_n hx hb dX6_field_176 rfl (lv_at hl 0 rfl) ?_
      refine fg_X6_28 C hw 0 rfl rfl dX6_field_177 ?_
      refine lv_bipush (v := 16) hx hb dX6_field_180 (by decide) ?_
      refine lv_aload_n hx hb dX6_field_182 rfl (lv_at hl 0 rfl) ?_
      refine fg_X6_112 C hw 0 rfl rfl dX6_field_183 ?_
      refine lv_imul hx hb dX6_field_186 ?_
      refine lv_iload hx hb dX6_field_187 (lv_at hl 2 rfl) ?_
      refine lv_iadd hx hb dX6_field_189 ?_
      refine lv_aload_n hx hb dX6_field_190 rfl (lv_at hl 0 rfl) ?_
      refine fg_X6_13 C hw 0 rfl rfl dX6_field_191 ?_
      refine lv_iload hx hb dX6_field_194 (lv_at hl 2 rfl) ?_
      obtain ⟨x1, ex1, gx1, hf⟩ := rd_el hf
      refine ra_i C hw 2 rfl gx1 dX6_field_196 ?_
      refine tp_i ex1 ?_
      obtain ⟨x2, ex2, gx2, hf⟩ := wr_el hf
      refine rs_i C hw 7 rfl gx2 (ws' := w_mo E a_mo mo_code mo_tape mo_text mo_taped mo_size mo_at mo_ill mo_in mo_kind mo_type mo_long1 x2 mo_fields mo_kept mo_now mo_many mo_itemKind mo_itemField mo_itemPlace mo_by mo_stepKind mo_stepField mo_stepOperator mo_stepOther mo_stepMany mo_literalType mo_literalFrom mo_literalSize mo_bytes mo_said mo_number mo_pile mo_pilePlace mo_top mo_open) (by subst ex2; rfl) dX6_field_197 (fun H locs hw => ?_)
      obtain ⟨x3, ex3, hf⟩ := on_el hf
      refine lv_iinc (v := x3) (lv' := [(6, .int x3), (0, .ref (a_mo 0)), (4, .int l4)]) hx hb dX6_field_198 hl (k := 2) rfl (by rw [← ex3]; rfl) (by decide) rfl (fun ls hl => ?_)
      refine lv_goto (tgt := 169) hx hb dX6_field_201 (by decide) ?_
      exact ih hw (lv_sub hl [1, 2, 0] rfl) hf kk
def f_X6_field_111 (l1 : Int32) (l2 : Int32) (l3 : Int32) (l4 : Int32) (mo_code : Int32) (mo_text : Nat → Int32) (mo_taped : Int32) (mo_size : Int32) (mo_at : Int32) (mo_ill : Int32) (mo_in : Nat → Int32) (mo_kind : Nat → Int32) (mo_type : Nat → Int32) (mo_long1 : Nat → Int32) (mo_letters : Nat → Int32) (mo_fields : Int32) (mo_kept : Int32) : Option ((Int32) × (Int32) × (Nat → Int32) × (Int32) × (Int32) × (Int32) × (Int32) × (Nat → Int32) × (Nat → Int32) × (Nat → Int32) × (Nat → Int32) × (Nat → Int32) × (Int32) × (Int32)) :=
  ob1 (f_X6_find l1 (0 : Int32) l4 mo_text mo_in mo_long1 mo_letters mo_fields) (fun x1 =>
  if x1 = (-1 : Int32) then (wr mo_in 64 mo_fields l1 (fun x2 =>
  wr mo_kind 64 mo_fields l2 (fun x3 =>
  wr mo_type 64 mo_fields l3 (fun x4 =>
  wr mo_long1 64 mo_fields l4 (fun x5 =>
  ob1 (f_X6_field_169 FU l4 (0 : Int32) mo_text mo_letters mo_fields) (fun x6 =>
  on (mo_fields + (1 : Int32)) (fun x7 =>
  some ((x7 - (1 : Int32)), mo_code, mo_text, mo_taped, mo_size, mo_at, mo_ill, x2, x3, x4, x5, x6, x7, mo_kept))))))))
  else (some ((-1 : Int32), mo_code, mo_text, mo_taped, mo_size, mo_at, mo_ill, mo_in, mo_kind, mo_type, mo_long1, mo_letters, mo_fields, mo_kept)))
set_option maxHeartbeats 4000000 in
set_option maxRecDepth 100000 in
theorem w_X6_field_111 {p : Program} {l : Launch} {e : Env} {s : State} {m : MethodId} {args : Array Value} {below : List Frame} {meth : Method} {c : Code} {E : EnvT} {A : Nat → Prop} {a_mo : Nat → Nat} {mo_tape : Nat → Int32} {mo_now : Int32} {mo_many : Nat → Int32} {mo_itemKind : Nat → Int32} {mo_itemField : Nat → Int32} {mo_itemPlace : Nat → Int32} {mo_by : Nat → Int32} {mo_stepKind : Nat → Int32} {mo_stepField : Nat → Int32} {mo_stepOperator : Nat → Int32} {mo_stepOther : Nat → Int32} {mo_stepMany : Nat → Int32} {mo_literalType : Nat → Int32} {mo_literalFrom : Nat → Int32} {mo_literalSize : Nat → Int32} {mo_bytes : Nat → Int32} {mo_said : Nat → Int32} {mo_number : Nat → Int64} {mo_pile : Nat → Int32} {mo_pilePlace : Nat → Int32} {mo_top : Int32} {mo_open : Int32} {r : Int32} {o_mo_code : Int32} {o_mo_text : Nat → Int32} {o_mo_taped : Int32} {o_mo_size : Int32} {o_mo_at : Int32} {o_mo_ill : Int32} {o_mo_in : Nat → Int32} {o_mo_kind : Nat → Int32} {o_mo_type : Nat → Int32} {o_mo_long1 : Nat → Int32} {o_mo_letters : Nat → Int32} {o_mo_fields : Int32} {o_mo_kept : Int32} {l1 : Int32} {l2 : Int32} {l3 : Int32} {l4 : Int32} {mo_code : Int32} {mo_text : Nat → Int32} {mo_taped : Int32} {mo_size : Int32} {mo_at : Int32} {mo_ill : Int32} {mo_in : Nat → Int32} {mo_kind : Nat → Int32} {mo_type : Nat → Int32} {mo_long1 : Nat → Int32} {mo_letters : Nat → Int32} {mo_fields : Int32} {mo_kept : Int32} {H : Heap} {locs : List Loc} {ls : Array Slot} (C : MC p s m args meth c E A cX6_field 7 RX6 (some .int)) (hw : WS E A s (w_mo E a_mo mo_code mo_tape mo_text mo_taped mo_size mo_at mo_ill mo_in mo_kind mo_type mo_long1 mo_letters mo_fields mo_kept mo_now mo_many mo_itemKind mo_itemField mo_itemPlace mo_by mo_stepKind mo_stepField mo_stepOperator mo_stepOther mo_stepMany mo_literalType mo_literalFrom mo_literalSize mo_bytes mo_said mo_number mo_pile mo_pilePlace mo_top mo_open) H locs) (hl : lv_has ls 7 [(0, .ref (a_mo 0)), (1, .int l1), (2, .int l2), (3, .int l3), (4, .int l4)]) (hf : f_X6_field_111 l1 l2 l3 l4 mo_code mo_text mo_taped mo_size mo_at mo_ill mo_in mo_kind mo_type mo_long1 mo_letters mo_fields mo_kept = some (r, o_mo_code, o_mo_text, o_mo_taped, o_mo_size, o_mo_at, o_mo_ill, o_mo_in, o_mo_kind, o_mo_type, o_mo_long1, o_mo_letters, o_mo_fields, o_mo_kept)) : W p l e { frames := 2, cells := 0, slots := 0, locals := 42 } s m args below meth c H locs 0 0 (MQ below (QcI E A (w_mo E a_mo o_mo_code mo_tape o_mo_text o_mo_taped o_mo_size o_mo_at o_mo_ill o_mo_in o_mo_kind o_mo_type o_mo_long1 o_mo_letters o_mo_fields o_mo_kept mo_now mo_many mo_itemKind mo_itemField mo_itemPlace mo_by mo_stepKind mo_stepField mo_stepOperator mo_stepOther mo_stepMany mo_literalType mo_literalFrom mo_literalSize mo_bytes mo_said mo_number mo_pile mo_pilePlace mo_top mo_open) r) args s 0 0 A) (F0 m 111 ls []) := by
  have hx := C.1
  have hb := C.2.1
  unfold f_X6_field_111 at hf
  refine lv_aload_n hx hb dX6_field_111 rfl (lv_at hl 0 rfl) ?_
  refine lv_iload_n hx hb dX6_field_112 rfl (lv_at hl 1 rfl) ?_
  refine lv_iconst (v := 0) hx hb dX6_field_113 (by decide) ?_
  refine lv_iload hx hb dX6_field_114 (lv_at hl 4 rfl) ?_
  obtain ⟨x1, z1, hf⟩ := ob1_el hf
  refine cI_V C hw (c_X6_find l E a_mo mo_code mo_tape mo_text mo_taped mo_size mo_at mo_ill mo_in mo_kind mo_type mo_long1 mo_letters mo_fields mo_kept mo_now mo_many mo_itemKind mo_itemField mo_itemPlace mo_by mo_stepKind mo_stepField mo_stepOperator mo_stepOther mo_stepMany mo_literalType mo_literalFrom mo_literalSize mo_bytes mo_said mo_number mo_pile mo_pilePlace mo_top mo_open l1 (0 : Int32) l4 x1 z1) cs_X6_122 ⟨Nat.le_of_ble_eq_true rfl, Nat.le_of_ble_eq_true rfl⟩ ⟨rfl, rfl⟩ (ci := 6) (cn := (RX6, TX6, 35)) rfl (q0 := 0) rfl (wn := w_mo E a_mo mo_code mo_tape mo_text mo_taped mo_size mo_at mo_ill mo_in mo_kind mo_type mo_long1 mo_letters mo_fields mo_kept mo_now mo_many mo_itemKind mo_itemField mo_itemPlace mo_by mo_stepKind mo_stepField mo_stepOperator mo_stepOther mo_stepMany mo_literalType mo_literalFrom mo_literalSize mo_bytes mo_said mo_number mo_pile mo_pilePlace mo_top mo_open) (Jn.all _ _) rfl hl.1 rfl (Nat.le_of_ble_eq_true rfl) dX6_field_116 ⟨Nat.zero_le _, Nat.zero_le _⟩ (fun H locs hw => ?_)
  refine lv_iconst (v := -1) hx hb dX6_field_119 (by decide) ?_
  refine lv_icmp_eq (tgt := 125) hx hb dX6_field_120 (by decide) (fun c120 => ?_) (fun c120 => ?_)
  · replace hf := it_t c120 hf
    refine lv_aload_n hx hb dX6_field_125 rfl (lv_at hl 0 rfl) ?_
    refine fg_X6_16 C hw 0 rfl rfl dX6_field_126 ?_
    refine lv_aload_n hx hb dX6_field_129 rfl (lv_at hl 0 rfl) ?_
    refine fg_X6_112 C hw 0 rfl rfl dX6_field_130 ?_
    refine lv_iload_n hx hb dX6_field_133 rfl (lv_at hl 1 rfl) ?_
    obtain ⟨x2, ex2, gx2, hf⟩ := wr_el hf
    refine rs_i C hw 3 rfl gx2 (ws' := w_mo E a_mo mo_code mo_tape mo_text mo_taped mo_size mo_at mo_ill x2 mo_kind mo_type mo_long1 mo_letters mo_fields mo_kept mo_now mo_many mo_itemKind mo_itemField mo_itemPlace mo_by mo_stepKind mo_stepField mo_stepOperator mo_stepOther mo_stepMany mo_literalType mo_literalFrom mo_literalSize mo_bytes mo_said mo_number mo_pile mo_pilePlace mo_top mo_open) (by subst ex2; rfl) dX6_field_134 (fun H locs hw => ?_)
    refine lv_aload_n hx hb dX6_field_135 rfl (lv_at hl 0 rfl) ?_
    refine fg_X6_19 C hw 0 rfl rfl dX6_field_136 ?_
    refine lv_aload_n hx hb dX6_field_139 rfl (lv_at hl 0 rfl) ?_
    refine fg_X6_112 C hw 0 rfl rfl dX6_field_140 ?_
    refine lv_iload_n hx hb dX6_field_143 rfl (lv_at hl 2 rfl) ?_
    obtain ⟨x3, ex3, gx3, hf⟩ := wr_el hf
    refine rs_i C hw 4 rfl gx3 (ws' := w_mo E a_mo mo_code mo_tape mo_text mo_taped mo_size mo_at mo_ill x2 x3 mo_type mo_long1 mo_letters mo_fields mo_kept mo_now mo_many mo_itemKind mo_itemField mo_itemPlace mo_by mo_stepKind mo_stepField mo_stepOperator mo_stepOther mo_stepMany mo_literalType mo_literalFrom mo_literalSize mo_bytes mo_said mo_number mo_pile mo_pilePlace mo_top mo_open) (by subst ex3; rfl) dX6_field_144 (fun H locs hw => ?_)
    refine lv_aload_n hx hb dX6_field_145 rfl (lv_at hl 0 rfl) ?_
    refine fg_X6_22 C hw 0 rfl rfl dX6_field_146 ?_
    refine lv_aload_n hx hb dX6_field_149 rfl (lv_at hl 0 rfl) ?_
    refine fg_X6_112 C hw 0 rfl rfl dX6_field_150 ?_
    refine lv_iload_n hx hb dX6_field_153 rfl (lv_at hl 3 rfl) ?_
    obtain ⟨x4, ex4, gx4, hf⟩ := wr_el hf
    refine rs_i C hw 5 rfl gx4 (ws' := w_mo E a_mo mo_code mo_tape mo_text mo_taped mo_size mo_at mo_ill x2 x3 x4 mo_long1 mo_letters mo_fields mo_kept mo_now mo_many mo_itemKind mo_itemField mo_itemPlace mo_by mo_stepKind mo_stepField mo_stepOperator mo_stepOther mo_stepMany mo_literalType mo_literalFrom mo_literalSize mo_bytes mo_said mo_number mo_pile mo_pilePlace mo_top mo_open) (by subst ex4; rfl) dX6_field_154 (fun H locs hw => ?_)
    refine lv_aload_n hx hb dX6_field_155 rfl (lv_at hl 0 rfl) ?_
    refine fg_X6_25 C hw 0 rfl rfl dX6_field_156 ?_
    refine lv_aload_n hx hb dX6_field_159 rfl (lv_at hl 0 rfl) ?_
    refine fg_X6_112 C hw 0 rfl rfl dX6_field_160 ?_
    refine lv_iload hx hb dX6_field_163 (lv_at hl 4 rfl) ?_
    obtain ⟨x5, ex5, gx5, hf⟩ := wr_el hf
    refine rs_i C hw 6 rfl gx5 (ws' := w_mo E a_mo mo_code mo_tape mo_text mo_taped mo_size mo_at mo_ill x2 x3 x4 x5 mo_letters mo_fields mo_kept mo_now mo_many mo_itemKind mo_itemField mo_itemPlace mo_by mo_stepKind mo_stepField mo_stepOperator mo_stepOther mo_stepMany mo_literalType mo_literalFrom mo_literalSize mo_bytes mo_said mo_number mo_pile mo_pilePlace mo_top mo_open) (by subst ex5; rfl) dX6_field_165 (fun H locs hw => ?_)
    refine lv_iconst (v := 0) hx hb dX6_field_166 (by decide) ?_
    refine lv_istore (lv' := [(6, .int (0 : Int32)), (0, .ref (a_mo 0)), (1, .int l1), (2, .int l2), (3, .int l3), (4, .int l4)]) hx hb dX6_field_167 hl (by decide) rfl (fun ls hl => ?_)
    obtain ⟨x6, hx6, hf⟩ := ob1_el hf
    refine w_X6_field_169 C FU hw (lv_sub hl [1, 5, 0] rfl) hx6 ?_
    clear hw hl
    intro H locs ls hw hl
    refine lv_aload_n hx hb dX6_field_204 rfl (lv_at hl 0 rfl) ?_
    refine lv_dup hx hb dX6_field_205 rfl ?_
    refine fg_X6_112 C hw 0 rfl rfl dX6_field_206 ?_
    refine lv_iconst (v := 1) hx hb dX6_field_209 (by decide) ?_
    refine lv_iadd hx hb dX6_field_210 ?_
    obtain ⟨x7, ex7, hf⟩ := on_el hf
    refine tp_i ex7 ?_
    refine fp_X6_112 C hw 0 rfl (Nat.le_of_ble_eq_true rfl) (ws' := w_mo E a_mo mo_code mo_tape mo_text mo_taped mo_size mo_at mo_ill x2 x3 x4 x5 x6 x7 mo_kept mo_now mo_many mo_itemKind mo_itemField mo_itemPlace mo_by mo_stepKind mo_stepField mo_stepOperator mo_stepOther mo_stepMany mo_literalType mo_literalFrom mo_literalSize mo_bytes mo_said mo_number mo_pile mo_pilePlace mo_top mo_open) rfl dX6_field_211 (fun H locs hw => ?_)
    refine lv_aload_n hx hb dX6_field_214 rfl (lv_at hl 0 rfl) ?_
    refine fg_X6_112 C hw 0 rfl rfl dX6_field_215 ?_
    refine lv_iconst (v := 1) hx hb dX6_field_218 (by decide) ?_
    refine lv_isub hx hb dX6_field_219 ?_
    cases hf
    exact rt_i C hw dX6_field_220
  · replace hf := it_f c120 hf
    refine lv_iconst (v := -1) hx hb dX6_field_123 (by decide) ?_
    cases hf
    exact rt_i C hw dX6_field_124
def f_X6_field_89 (l1 : Int32) (l2 : Int32) (l3 : Int32) (l4 : Int32) (s0 : Int32) (mo_code : Int32) (mo_text : Nat → Int32) (mo_taped : Int32) (mo_size : Int32) (mo_at : Int32) (mo_ill : Int32) (mo_in : Nat → Int32) (mo_kind : Nat → Int32) (mo_type : Nat → Int32) (mo_long1 : Nat → Int32) (mo_letters : Nat → Int32) (mo_fields : Int32) (mo_kept : Int32) : Option ((Int32) × (Int32) × (Nat → Int32) × (Int32) × (Int32) × (Int32) × (Int32) × (Nat → Int32) × (Nat → Int32) × (Nat → Int32) × (Nat → Int32) × (Nat → Int32) × (Int32) × (Int32)) :=
  if s0 = (0 : Int32) then (some ((-1 : Int32), mo_code, mo_text, mo_taped, mo_size, mo_at, mo_ill, mo_in, mo_kind, mo_type, mo_long1, mo_letters, mo_fields, mo_kept))
  else (if l1 = (-1 : Int32) then (f_X6_field_111 l1 l2 l3 l4 mo_code mo_text mo_taped mo_size mo_at mo_ill mo_in mo_kind mo_type mo_long1 mo_letters mo_fields mo_kept)
  else (rd mo_type 64 l1 (fun x1 =>
  if x1 = (4 : Int32) then (f_X6_field_111 l1 l2 l3 l4 mo_code mo_text mo_taped mo_size mo_at mo_ill mo_in mo_kind mo_type mo_long1 mo_letters mo_fields mo_kept)
  else (some ((-1 : Int32), mo_code, mo_text, mo_taped, mo_size, mo_at, mo_ill, mo_in, mo_kind, mo_type, mo_long1, mo_letters, mo_fields, mo_kept)))))
set_option maxHeartbeats 4000000 in
set_option maxRecDepth 100000 in
theorem w_X6_field_89 {p : Program} {l : Launch} {e : Env} {s : State} {m : MethodId} {args : Array Value} {below : List Frame} {meth : Method} {c : Code} {E : EnvT} {A : Nat → Prop} {a_mo : Nat → Nat} {mo_tape : Nat → Int32} {mo_now : Int32} {mo_many : Nat → Int32} {mo_itemKind : Nat → Int32} {mo_itemField : Nat → Int32} {mo_itemPlace : Nat → Int32} {mo_by : Nat → Int32} {mo_stepKind : Nat → Int32} {mo_stepField : Nat → Int32} {mo_stepOperator : Nat → Int32} {mo_stepOther : Nat → Int32} {mo_stepMany : Nat → Int32} {mo_literalType : Nat → Int32} {mo_literalFrom : Nat → Int32} {mo_literalSize : Nat → Int32} {mo_bytes : Nat → Int32} {mo_said : Nat → Int32} {mo_number : Nat → Int64} {mo_pile : Nat → Int32} {mo_pilePlace : Nat → Int32} {mo_top : Int32} {mo_open : Int32} {r : Int32} {o_mo_code : Int32} {o_mo_text : Nat → Int32} {o_mo_taped : Int32} {o_mo_size : Int32} {o_mo_at : Int32} {o_mo_ill : Int32} {o_mo_in : Nat → Int32} {o_mo_kind : Nat → Int32} {o_mo_type : Nat → Int32} {o_mo_long1 : Nat → Int32} {o_mo_letters : Nat → Int32} {o_mo_fields : Int32} {o_mo_kept : Int32} {l1 : Int32} {l2 : Int32} {l3 : Int32} {l4 : Int32} {s0 : Int32} {mo_code : Int32} {mo_text : Nat → Int32} {mo_taped : Int32} {mo_size : Int32} {mo_at : Int32} {mo_ill : Int32} {mo_in : Nat → Int32} {mo_kind : Nat → Int32} {mo_type : Nat → Int32} {mo_long1 : Nat → Int32} {mo_letters : Nat → Int32} {mo_fields : Int32} {mo_kept : Int32} {H : Heap} {locs : List Loc} {ls : Array Slot} (C : MC p s m args meth c E A cX6_field 7 RX6 (some .int)) (hw : WS E A s (w_mo E a_mo mo_code mo_tape mo_text mo_taped mo_size mo_at mo_ill mo_in mo_kind mo_type mo_long1 mo_letters mo_fields mo_kept mo_now mo_many mo_itemKind mo_itemField mo_itemPlace mo_by mo_stepKind mo_stepField mo_stepOperator mo_stepOther mo_stepMany mo_literalType mo_literalFrom mo_literalSize mo_bytes mo_said mo_number mo_pile mo_pilePlace mo_top mo_open) H locs) (hl : lv_has ls 7 [(0, .ref (a_mo 0)), (1, .int l1), (2, .int l2), (3, .int l3), (4, .int l4)]) (hf : f_X6_field_89 l1 l2 l3 l4 s0 mo_code mo_text mo_taped mo_size mo_at mo_ill mo_in mo_kind mo_type mo_long1 mo_letters mo_fields mo_kept = some (r, o_mo_code, o_mo_text, o_mo_taped, o_mo_size, o_mo_at, o_mo_ill, o_mo_in, o_mo_kind, o_mo_type, o_mo_long1, o_mo_letters, o_mo_fields, o_mo_kept)) : W p l e { frames := 2, cells := 0, slots := 0, locals := 42 } s m args below meth c H locs 0 0 (MQ below (QcI E A (w_mo E a_mo o_mo_code mo_tape o_mo_text o_mo_taped o_mo_size o_mo_at o_mo_ill o_mo_in o_mo_kind o_mo_type o_mo_long1 o_mo_letters o_mo_fields o_mo_kept mo_now mo_many mo_itemKind mo_itemField mo_itemPlace mo_by mo_stepKind mo_stepField mo_stepOperator mo_stepOther mo_stepMany mo_literalType mo_literalFrom mo_literalSize mo_bytes mo_said mo_number mo_pile mo_pilePlace mo_top mo_open) r) args s 0 0 A) (F0 m 89 ls [.int s0]) := by
  have hx := C.1
  have hb := C.2.1
  unfold f_X6_field_89 at hf
  refine lv_istore (lv' := [(5, .int s0), (0, .ref (a_mo 0)), (1, .int l1), (2, .int l2), (3, .int l3), (4, .int l4)]) hx hb dX6_field_89 hl (by decide) rfl (fun ls hl => ?_)
  refine lv_iload hx hb dX6_field_91 (lv_at hl 0 rfl) ?_
  refine lv_if_eq (tgt := 123) hx hb dX6_field_93 (by decide) (fun c93 => ?_) (fun c93 => ?_)
  · replace hf := it_t c93 hf
    refine lv_iconst (v := -1) hx hb dX6_field_123 (by decide) ?_
    cases hf
    exact rt_i C hw dX6_field_124
  · replace hf := it_f c93 hf
    refine lv_iload_n hx hb dX6_field_96 rfl (lv_at hl 2 rfl) ?_
    refine lv_iconst (v := -1) hx hb dX6_field_97 (by decide) ?_
    refine lv_icmp_eq (tgt := 111) hx hb dX6_field_98 (by decide) (fun c98 => ?_) (fun c98 => ?_)
    · replace hf := it_t c98 hf
      exact w_X6_field_111 C hw (lv_sub hl [1, 2, 3, 4, 5] rfl) hf
    · replace hf := it_f c98 hf
      refine lv_aload_n hx hb dX6_field_101 rfl (lv_at hl 1 rfl) ?_
      refine fg_X6_22 C hw 0 rfl rfl dX6_field_102 ?_
      refine lv_iload_n hx hb dX6_field_105 rfl (lv_at hl 2 rfl) ?_
      obtain ⟨x1, ex1, gx1, hf⟩ := rd_el hf
      refine ra_i C hw 5 rfl gx1 dX6_field_106 ?_
      refine tp_i ex1 ?_
      refine lv_iconst (v := 4) hx hb dX6_field_107 (by decide) ?_
      refine lv_icmp_ne (tgt := 123) hx hb dX6_field_108 (by decide) (fun c108 => ?_) (fun c108 => ?_)
      · replace hf := it_f c108 hf
        refine lv_iconst (v := -1) hx hb dX6_field_123 (by decide) ?_
        cases hf
        exact rt_i C hw dX6_field_124
      · replace hf := it_t c108 hf
        exact w_X6_field_111 C hw (lv_sub hl [1, 2, 3, 4, 5] rfl) hf
def f_X6_field_88 (l1 : Int32) (l2 : Int32) (l3 : Int32) (l4 : Int32) (mo_code : Int32) (mo_text : Nat → Int32) (mo_taped : Int32) (mo_size : Int32) (mo_at : Int32) (mo_ill : Int32) (mo_in : Nat → Int32) (mo_kind : Nat → Int32) (mo_type : Nat → Int32) (mo_long1 : Nat → Int32) (mo_letters : Nat → Int32) (mo_fields : Int32) (mo_kept : Int32) : Option ((Int32) × (Int32) × (Nat → Int32) × (Int32) × (Int32) × (Int32) × (Int32) × (Nat → Int32) × (Nat → Int32) × (Nat → Int32) × (Nat → Int32) × (Nat → Int32) × (Int32) × (Int32)) :=
  f_X6_field_89 l1 l2 l3 l4 (0 : Int32) mo_code mo_text mo_taped mo_size mo_at mo_ill mo_in mo_kind mo_type mo_long1 mo_letters mo_fields mo_kept
set_option maxHeartbeats 4000000 in
set_option maxRecDepth 100000 in
theorem w_X6_field_88 {p : Program} {l : Launch} {e : Env} {s : State} {m : MethodId} {args : Array Value} {below : List Frame} {meth : Method} {c : Code} {E : EnvT} {A : Nat → Prop} {a_mo : Nat → Nat} {mo_tape : Nat → Int32} {mo_now : Int32} {mo_many : Nat → Int32} {mo_itemKind : Nat → Int32} {mo_itemField : Nat → Int32} {mo_itemPlace : Nat → Int32} {mo_by : Nat → Int32} {mo_stepKind : Nat → Int32} {mo_stepField : Nat → Int32} {mo_stepOperator : Nat → Int32} {mo_stepOther : Nat → Int32} {mo_stepMany : Nat → Int32} {mo_literalType : Nat → Int32} {mo_literalFrom : Nat → Int32} {mo_literalSize : Nat → Int32} {mo_bytes : Nat → Int32} {mo_said : Nat → Int32} {mo_number : Nat → Int64} {mo_pile : Nat → Int32} {mo_pilePlace : Nat → Int32} {mo_top : Int32} {mo_open : Int32} {r : Int32} {o_mo_code : Int32} {o_mo_text : Nat → Int32} {o_mo_taped : Int32} {o_mo_size : Int32} {o_mo_at : Int32} {o_mo_ill : Int32} {o_mo_in : Nat → Int32} {o_mo_kind : Nat → Int32} {o_mo_type : Nat → Int32} {o_mo_long1 : Nat → Int32} {o_mo_letters : Nat → Int32} {o_mo_fields : Int32} {o_mo_kept : Int32} {l1 : Int32} {l2 : Int32} {l3 : Int32} {l4 : Int32} {mo_code : Int32} {mo_text : Nat → Int32} {mo_taped : Int32} {mo_size : Int32} {mo_at : Int32} {mo_ill : Int32} {mo_in : Nat → Int32} {mo_kind : Nat → Int32} {mo_type : Nat → Int32} {mo_long1 : Nat → Int32} {mo_letters : Nat → Int32} {mo_fields : Int32} {mo_kept : Int32} {H : Heap} {locs : List Loc} {ls : Array Slot} (C : MC p s m args meth c E A cX6_field 7 RX6 (some .int)) (hw : WS E A s (w_mo E a_mo mo_code mo_tape mo_text mo_taped mo_size mo_at mo_ill mo_in mo_kind mo_type mo_long1 mo_letters mo_fields mo_kept mo_now mo_many mo_itemKind mo_itemField mo_itemPlace mo_by mo_stepKind mo_stepField mo_stepOperator mo_stepOther mo_stepMany mo_literalType mo_literalFrom mo_literalSize mo_bytes mo_said mo_number mo_pile mo_pilePlace mo_top mo_open) H locs) (hl : lv_has ls 7 [(0, .ref (a_mo 0)), (1, .int l1), (2, .int l2), (3, .int l3), (4, .int l4)]) (hf : f_X6_field_88 l1 l2 l3 l4 mo_code mo_text mo_taped mo_size mo_at mo_ill mo_in mo_kind mo_type mo_long1 mo_letters mo_fields mo_kept = some (r, o_mo_code, o_mo_text, o_mo_taped, o_mo_size, o_mo_at, o_mo_ill, o_mo_in, o_mo_kind, o_mo_type, o_mo_long1, o_mo_letters, o_mo_fields, o_mo_kept)) : W p l e { frames := 2, cells := 0, slots := 0, locals := 42 } s m args below meth c H locs 0 0 (MQ below (QcI E A (w_mo E a_mo o_mo_code mo_tape o_mo_text o_mo_taped o_mo_size o_mo_at o_mo_ill o_mo_in o_mo_kind o_mo_type o_mo_long1 o_mo_letters o_mo_fields o_mo_kept mo_now mo_many mo_itemKind mo_itemField mo_itemPlace mo_by mo_stepKind mo_stepField mo_stepOperator mo_stepOther mo_stepMany mo_literalType mo_literalFrom mo_literalSize mo_bytes mo_said mo_number mo_pile mo_pilePlace mo_top mo_open) r) args s 0 0 A) (F0 m 88 ls []) := by
  have hx := C.1
  have hb := C.2.1
  unfold f_X6_field_88 at hf
  refine lv_iconst (v := 0) hx hb dX6_field_88 (by decide) ?_
  exact w_X6_field_89 C hw (lv_sub hl [0, 1, 2, 3, 4] rfl) hf
def f_X6_field (p1 : Int32) (p2 : Int32) (p3 : Int32) (p4 : Int32) (mo_code : Int32) (mo_tape : Nat → Int32) (mo_text : Nat → Int32) (mo_taped : Int32) (mo_size : Int32) (mo_at : Int32) (mo_ill : Int32) (mo_in : Nat → Int32) (mo_kind : Nat → Int32) (mo_type : Nat → Int32) (mo_long1 : Nat → Int32) (mo_letters : Nat → Int32) (mo_fields : Int32) (mo_kept : Int32) : Option ((Int32) × (Int32) × (Nat → Int32) × (Int32) × (Int32) × (Int32) × (Int32) × (Nat → Int32) × (Nat → Int32) × (Nat → Int32) × (Nat → Int32) × (Nat → Int32) × (Int32) × (Int32)) :=
  ob6 (f_X6_takes p4 mo_tape mo_text mo_taped mo_size mo_at mo_ill) (fun x1 x2 x3 x4 x5 x6 =>
  if x1 = (0 : Int32) then (some ((-2 : Int32), (0 : Int32), x2, x3, x4, x5, x6, mo_in, mo_kind, mo_type, mo_long1, mo_letters, mo_fields, mo_kept))
  else (if (64 : Int32) ≤ mo_fields then (f_X6_field_88 p1 p2 p3 p4 (0 : Int32) x2 x3 x4 x5 x6 mo_in mo_kind mo_type mo_long1 mo_letters mo_fields (-1 : Int32))
  else (if p1 < (-1 : Int32) then (f_X6_field_88 p1 p2 p3 p4 (0 : Int32) x2 x3 x4 x5 x6 mo_in mo_kind mo_type mo_long1 mo_letters mo_fields (-1 : Int32))
  else (if mo_fields ≤ p1 then (f_X6_field_88 p1 p2 p3 p4 (0 : Int32) x2 x3 x4 x5 x6 mo_in mo_kind mo_type mo_long1 mo_letters mo_fields (-1 : Int32))
  else (if p2 < (0 : Int32) then (f_X6_field_88 p1 p2 p3 p4 (0 : Int32) x2 x3 x4 x5 x6 mo_in mo_kind mo_type mo_long1 mo_letters mo_fields (-1 : Int32))
  else (if (2 : Int32) < p2 then (f_X6_field_88 p1 p2 p3 p4 (0 : Int32) x2 x3 x4 x5 x6 mo_in mo_kind mo_type mo_long1 mo_letters mo_fields (-1 : Int32))
  else (if p3 < (0 : Int32) then (f_X6_field_88 p1 p2 p3 p4 (0 : Int32) x2 x3 x4 x5 x6 mo_in mo_kind mo_type mo_long1 mo_letters mo_fields (-1 : Int32))
  else (if (4 : Int32) < p3 then (f_X6_field_88 p1 p2 p3 p4 (0 : Int32) x2 x3 x4 x5 x6 mo_in mo_kind mo_type mo_long1 mo_letters mo_fields (-1 : Int32))
  else (if p4 ≤ (0 : Int32) then (f_X6_field_88 p1 p2 p3 p4 (0 : Int32) x2 x3 x4 x5 x6 mo_in mo_kind mo_type mo_long1 mo_letters mo_fields (-1 : Int32))
  else (if (16 : Int32) < p4 then (f_X6_field_88 p1 p2 p3 p4 (0 : Int32) x2 x3 x4 x5 x6 mo_in mo_kind mo_type mo_long1 mo_letters mo_fields (-1 : Int32))
  else (ob1 (f_X6_wordAt (0 : Int32) x2 x4) (fun x7 =>
  if x7 = p4 then (f_X6_field_89 p1 p2 p3 p4 (1 : Int32) (0 : Int32) x2 x3 x4 x5 x6 mo_in mo_kind mo_type mo_long1 mo_letters mo_fields (-1 : Int32))
  else (f_X6_field_88 p1 p2 p3 p4 (0 : Int32) x2 x3 x4 x5 x6 mo_in mo_kind mo_type mo_long1 mo_letters mo_fields (-1 : Int32))))))))))))))
set_option maxHeartbeats 4000000 in
set_option maxRecDepth 100000 in
theorem c_X6_field (l : Launch) (E : EnvT) (a_mo : Nat → Nat) (mo_code : Int32) (mo_tape : Nat → Int32) (mo_text : Nat → Int32) (mo_taped : Int32) (mo_size : Int32) (mo_at : Int32) (mo_ill : Int32) (mo_in : Nat → Int32) (mo_kind : Nat → Int32) (mo_type : Nat → Int32) (mo_long1 : Nat → Int32) (mo_letters : Nat → Int32) (mo_fields : Int32) (mo_kept : Int32) (mo_now : Int32) (mo_many : Nat → Int32) (mo_itemKind : Nat → Int32) (mo_itemField : Nat → Int32) (mo_itemPlace : Nat → Int32) (mo_by : Nat → Int32) (mo_stepKind : Nat → Int32) (mo_stepField : Nat → Int32) (mo_stepOperator : Nat → Int32) (mo_stepOther : Nat → Int32) (mo_stepMany : Nat → Int32) (mo_literalType : Nat → Int32) (mo_literalFrom : Nat → Int32) (mo_literalSize : Nat → Int32) (mo_bytes : Nat → Int32) (mo_said : Nat → Int32) (mo_number : Nat → Int64) (mo_pile : Nat → Int32) (mo_pilePlace : Nat → Int32) (mo_top : Int32) (mo_open : Int32) (p1 : Int32) (p2 : Int32) (p3 : Int32) (p4 : Int32) (r : Int32) (o_mo_code : Int32) (o_mo_text : Nat → Int32) (o_mo_taped : Int32) (o_mo_size : Int32) (o_mo_at : Int32) (o_mo_ill : Int32) (o_mo_in : Nat → Int32) (o_mo_kind : Nat → Int32) (o_mo_type : Nat → Int32) (o_mo_long1 : Nat → Int32) (o_mo_letters : Nat → Int32) (o_mo_fields : Int32) (o_mo_kept : Int32) (hf : f_X6_field p1 p2 p3 p4 mo_code mo_tape mo_text mo_taped mo_size mo_at mo_ill mo_in mo_kind mo_type mo_long1 mo_letters mo_fields mo_kept = some (r, o_mo_code, o_mo_text, o_mo_taped, o_mo_size, o_mo_at, o_mo_ill, o_mo_in, o_mo_kind, o_mo_type, o_mo_long1, o_mo_letters, o_mo_fields, o_mo_kept)) : CI l yX6_field (Cond.code yX6_field cX6_field 7 (some .int)) { frames := 2, cells := 0, slots := 0, locals := 42 } E [.ref (a_mo 0), .int p1, .int p2, .int p3, .int p4] (w_mo E a_mo mo_code mo_tape mo_text mo_taped mo_size mo_at mo_ill mo_in mo_kind mo_type mo_long1 mo_letters mo_fields mo_kept mo_now mo_many mo_itemKind mo_itemField mo_itemPlace mo_by mo_stepKind mo_stepField mo_stepOperator mo_stepOther mo_stepMany mo_literalType mo_literalFrom mo_literalSize mo_bytes mo_said mo_number mo_pile mo_pilePlace mo_top mo_open) r (w_mo E a_mo o_mo_code mo_tape o_mo_text o_mo_taped o_mo_size o_mo_at o_mo_ill o_mo_in o_mo_kind o_mo_type o_mo_long1 o_mo_letters o_mo_fields o_mo_kept mo_now mo_many mo_itemKind mo_itemField mo_itemPlace mo_by mo_stepKind mo_stepField mo_stepOperator mo_stepOther mo_stepMany mo_literalType mo_literalFrom mo_literalSize mo_bytes mo_said mo_number mo_pile mo_pilePlace mo_top mo_open) := by
  intro sz
  refine met_start [(0, .ref (a_mo 0)), (1, .int p1), (2, .int p2), (3, .int p3), (4, .int p4)] (by decide) rfl rfl (Nat.le_of_ble_eq_true rfl) rfl ?_
  intro p e s m below meth c ls C hnm hmt hw hl
  have hx := C.1
  have hb := C.2.1
  generalize va_A (w_mo E a_mo mo_code mo_tape mo_text mo_taped mo_size mo_at mo_ill mo_in mo_kind mo_type mo_long1 mo_letters mo_fields mo_kept mo_now mo_many mo_itemKind mo_itemField mo_itemPlace mo_by mo_stepKind mo_stepField mo_stepOperator mo_stepOther mo_stepMany mo_literalType mo_literalFrom mo_literalSize mo_bytes mo_said mo_number mo_pile mo_pilePlace mo_top mo_open) sz = A at C hw ⊢
  unfold f_X6_field at hf
  refine lv_aload_n hx hb dX6_field_0 rfl (lv_at hl 0 rfl) ?_
  refine lv_iconst (v := 0) hx hb dX6_field_1 (by decide) ?_
  refine fp_X6_90 C hw 0 rfl (Nat.le_of_ble_eq_true rfl) (ws' := w_mo E a_mo (0 : Int32) mo_tape mo_text mo_taped mo_size mo_at mo_ill mo_in mo_kind mo_type mo_long1 mo_letters mo_fields mo_kept mo_now mo_many mo_itemKind mo_itemField mo_itemPlace mo_by mo_stepKind mo_stepField mo_stepOperator mo_stepOther mo_stepMany mo_literalType mo_literalFrom mo_literalSize mo_bytes mo_said mo_number mo_pile mo_pilePlace mo_top mo_open) rfl dX6_field_2 (fun H locs hw => ?_)
  refine lv_aload_n hx hb dX6_field_5 rfl (lv_at hl 0 rfl) ?_
  refine lv_iload hx hb dX6_field_6 (lv_at hl 4 rfl) ?_
  obtain ⟨x1, x2, x3, x4, x5, x6, z6, hf⟩ := ob6_el hf
  refine cI_V C hw (c_X6_takes l E a_mo (0 : Int32) mo_tape mo_text mo_taped mo_size mo_at mo_ill mo_in mo_kind mo_type mo_long1 mo_letters mo_fields mo_kept mo_now mo_many mo_itemKind mo_itemField mo_itemPlace mo_by mo_stepKind mo_stepField mo_stepOperator mo_stepOther mo_stepMany mo_literalType mo_literalFrom mo_literalSize mo_bytes mo_said mo_number mo_pile mo_pilePlace mo_top mo_open p4 x1 x2 x3 x4 x5 x6 z6) cs_X6_115 ⟨Nat.le_of_ble_eq_true rfl, Nat.le_of_ble_eq_true rfl⟩ ⟨rfl, rfl⟩ (ci := 6) (cn := (RX6, TX6, 35)) rfl (q0 := 0) rfl (wn := w_mo E a_mo (0 : Int32) mo_tape x2 x3 x4 x5 x6 mo_in mo_kind mo_type mo_long1 mo_letters mo_fields mo_kept mo_now mo_many mo_itemKind mo_itemField mo_itemPlace mo_by mo_stepKind mo_stepField mo_stepOperator mo_stepOther mo_stepMany mo_literalType mo_literalFrom mo_literalSize mo_bytes mo_said mo_number mo_pile mo_pilePlace mo_top mo_open) (Jn.all _ _) rfl hl.1 rfl (Nat.le_of_ble_eq_true rfl) dX6_field_8 ⟨Nat.zero_le _, Nat.zero_le _⟩ (fun H locs hw => ?_)
  refine lv_if_ne (tgt := 17) hx hb dX6_field_11 (by decide) (fun c11 => ?_) (fun c11 => ?_)
  · replace hf := it_f c11 hf
    refine lv_aload_n hx hb dX6_field_17 rfl (lv_at hl 0 rfl) ?_
    refine lv_iconst (v := -1) hx hb dX6_field_18 (by decide) ?_
    refine fp_X6_31 C hw 0 rfl (Nat.le_of_ble_eq_true rfl) (ws' := w_mo E a_mo (0 : Int32) mo_tape x2 x3 x4 x5 x6 mo_in mo_kind mo_type mo_long1 mo_letters mo_fields (-1 : Int32) mo_now mo_many mo_itemKind mo_itemField mo_itemPlace mo_by mo_stepKind mo_stepField mo_stepOperator mo_stepOther mo_stepMany mo_literalType mo_literalFrom mo_literalSize mo_bytes mo_said mo_number mo_pile mo_pilePlace mo_top mo_open) rfl dX6_field_19 (fun H locs hw => ?_)
    refine lv_aload_n hx hb dX6_field_22 rfl (lv_at hl 0 rfl) ?_
    refine fg_X6_112 C hw 0 rfl rfl dX6_field_23 ?_
    refine lv_bipush (v := 64) hx hb dX6_field_26 (by decide) ?_
    refine lv_icmp_ge (tgt := 88) hx hb dX6_field_28 (by decide) (fun c28 => ?_) (fun c28 => ?_)
    · replace hf := it_t c28 hf
      exact w_X6_field_88 C hw (lv_sub hl [0, 1, 2, 3, 4] rfl) hf
    · replace hf := it_f c28 hf
      refine lv_iload_n hx hb dX6_field_31 rfl (lv_at hl 1 rfl) ?_
      refine lv_iconst (v := -1) hx hb dX6_field_32 (by decide) ?_
      refine lv_icmp_lt (tgt := 88) hx hb dX6_field_33 (by decide) (fun c33 => ?_) (fun c33 => ?_)
      · replace hf := it_t c33 hf
        exact w_X6_field_88 C hw (lv_sub hl [0, 1, 2, 3, 4] rfl) hf
      · replace hf := it_f c33 hf
        refine lv_iload_n hx hb dX6_field_36 rfl (lv_at hl 1 rfl) ?_
        refine lv_aload_n hx hb dX6_field_37 rfl (lv_at hl 0 rfl) ?_
        refine fg_X6_112 C hw 0 rfl rfl dX6_field_38 ?_
        refine lv_icmp_ge (tgt := 88) hx hb dX6_field_41 (by decide) (fun c41 => ?_) (fun c41 => ?_)
        · replace hf := it_t c41 hf
          exact w_X6_field_88 C hw (lv_sub hl [0, 1, 2, 3, 4] rfl) hf
        · replace hf := it_f c41 hf
          refine lv_iload_n hx hb dX6_field_44 rfl (lv_at hl 2 rfl) ?_
          refine lv_if_lt (tgt := 88) hx hb dX6_field_45 (by decide) (fun c45 => ?_) (fun c45 => ?_)
          · replace hf := it_t c45 hf
            exact w_X6_field_88 C hw (lv_sub hl [0, 1, 2, 3, 4] rfl) hf
          · replace hf := it_f c45 hf
            refine lv_iload_n hx hb dX6_field_48 rfl (lv_at hl 2 rfl) ?_
            refine lv_iconst (v := 2) hx hb dX6_field_49 (by decide) ?_
            refine lv_icmp_gt (tgt := 88) hx hb dX6_field_50 (by decide) (fun c50 => ?_) (fun c50 => ?_)
            · replace hf := it_t c50 hf
              exact w_X6_field_88 C hw (lv_sub hl [0, 1, 2, 3, 4] rfl) hf
            · replace hf := it_f c50 hf
              refine lv_iload_n hx hb dX6_field_53 rfl (lv_at hl 3 rfl) ?_
              refine lv_if_lt (tgt := 88) hx hb dX6_field_54 (by decide) (fun c54 => ?_) (fun c54 => ?_)
              · replace hf := it_t c54 hf
                exact w_X6_field_88 C hw (lv_sub hl [0, 1, 2, 3, 4] rfl) hf
              · replace hf := it_f c54 hf
                refine lv_iload_n hx hb dX6_field_57 rfl (lv_at hl 3 rfl) ?_
                refine lv_iconst (v := 4) hx hb dX6_field_58 (by decide) ?_
                refine lv_icmp_gt (tgt := 88) hx hb dX6_field_59 (by decide) (fun c59 => ?_) (fun c59 => ?_)
                · replace hf := it_t c59 hf
                  exact w_X6_field_88 C hw (lv_sub hl [0, 1, 2, 3, 4] rfl) hf
                · replace hf := it_f c59 hf
                  refine lv_iload hx hb dX6_field_62 (lv_at hl 4 rfl) ?_
                  refine lv_if_le (tgt := 88) hx hb dX6_field_64 (by decide) (fun c64 => ?_) (fun c64 => ?_)
                  · replace hf := it_t c64 hf
                    exact w_X6_field_88 C hw (lv_sub hl [0, 1, 2, 3, 4] rfl) hf
                  · replace hf := it_f c64 hf
                    refine lv_iload hx hb dX6_field_67 (lv_at hl 4 rfl) ?_
                    refine lv_bipush (v := 16) hx hb dX6_field_69 (by decide) ?_
                    refine lv_icmp_gt (tgt := 88) hx hb dX6_field_71 (by decide) (fun c71 => ?_) (fun c71 => ?_)
                    · replace hf := it_t c71 hf
                      exact w_X6_field_88 C hw (lv_sub hl [0, 1, 2, 3, 4] rfl) hf
                    · replace hf := it_f c71 hf
                      refine lv_aload_n hx hb dX6_field_74 rfl (lv_at hl 0 rfl) ?_
                      refine lv_iconst (v := 0) hx hb dX6_field_75 (by decide) ?_
                      obtain ⟨x7, z7, hf⟩ := ob1_el hf
                      refine cI_V C hw (c_X6_wordAt l E a_mo (0 : Int32) mo_tape x2 x3 x4 x5 x6 mo_in mo_kind mo_type mo_long1 mo_letters mo_fields (-1 : Int32) mo_now mo_many mo_itemKind mo_itemField mo_itemPlace mo_by mo_stepKind mo_stepField mo_stepOperator mo_stepOther mo_stepMany mo_literalType mo_literalFrom mo_literalSize mo_bytes mo_said mo_number mo_pile mo_pilePlace mo_top mo_open (0 : Int32) x7 z7) cs_X6_118 ⟨Nat.le_of_ble_eq_true rfl, Nat.le_of_ble_eq_true rfl⟩ ⟨rfl, rfl⟩ (ci := 6) (cn := (RX6, TX6, 35)) rfl (q0 := 0) rfl (wn := w_mo E a_mo (0 : Int32) mo_tape x2 x3 x4 x5 x6 mo_in mo_kind mo_type mo_long1 mo_letters mo_fields (-1 : Int32) mo_now mo_many mo_itemKind mo_itemField mo_itemPlace mo_by mo_stepKind mo_stepField mo_stepOperator mo_stepOther mo_stepMany mo_literalType mo_literalFrom mo_literalSize mo_bytes mo_said mo_number mo_pile mo_pilePlace mo_top mo_open) (Jn.all _ _) rfl hl.1 rfl (Nat.le_of_ble_eq_true rfl) dX6_field_76 ⟨Nat.zero_le _, Nat.zero_le _⟩ (fun H locs hw => ?_)
                      refine lv_iload hx hb dX6_field_79 (lv_at hl 4 rfl) ?_
                      refine lv_icmp_ne (tgt := 88) hx hb dX6_field_81 (by decide) (fun c81 => ?_) (fun c81 => ?_)
                      · replace hf := it_f c81 hf
                        exact w_X6_field_88 C hw (lv_sub hl [0, 1, 2, 3, 4] rfl) hf
                      · replace hf := it_t c81 hf
                        refine lv_iconst (v := 1) hx hb dX6_field_84 (by decide) ?_
                        refine lv_goto (tgt := 89) hx hb dX6_field_85 (by decide) ?_
                        exact w_X6_field_89 C hw (lv_sub hl [0, 1, 2, 3, 4] rfl) hf
  · replace hf := it_t c11 hf
    refine lv_bipush (v := -2) hx hb dX6_field_14 (by decide) ?_
    cases hf
    exact rt_i C hw dX6_field_16
def f_X6_fail (p1 : Int32) (mo_ill : Int32) : Option ((Int32)) :=
  if mo_ill = (-1 : Int32) then (some p1)
  else (some mo_ill)
set_option maxHeartbeats 4000000 in
set_option maxRecDepth 100000 in
theorem c_X6_fail (l : Launch) (E : EnvT) (a_mo : Nat → Nat) (mo_code : Int32) (mo_tape : Nat → Int32) (mo_text : Nat → Int32) (mo_taped : Int32) (mo_size : Int32) (mo_at : Int32) (mo_ill : Int32) (mo_in : Nat → Int32) (mo_kind : Nat → Int32) (mo_type : Nat → Int32) (mo_long1 : Nat → Int32) (mo_letters : Nat → Int32) (mo_fields : Int32) (mo_kept : Int32) (mo_now : Int32) (mo_many : Nat → Int32) (mo_itemKind : Nat → Int32) (mo_itemField : Nat → Int32) (mo_itemPlace : Nat → Int32) (mo_by : Nat → Int32) (mo_stepKind : Nat → Int32) (mo_stepField : Nat → Int32) (mo_stepOperator : Nat → Int32) (mo_stepOther : Nat → Int32) (mo_stepMany : Nat → Int32) (mo_literalType : Nat → Int32) (mo_literalFrom : Nat → Int32) (mo_literalSize : Nat → Int32) (mo_bytes : Nat → Int32) (mo_said : Nat → Int32) (mo_number : Nat → Int64) (mo_pile : Nat → Int32) (mo_pilePlace : Nat → Int32) (mo_top : Int32) (mo_open : Int32) (p1 : Int32) (o_mo_ill : Int32) (hf : f_X6_fail p1 mo_ill = some o_mo_ill) : CV l yX6_fail (Cond.code yX6_fail cX6_fail 2 none) { frames := 0, cells := 0, slots := 0, locals := 0 } E [.ref (a_mo 0), .int p1] (w_mo E a_mo mo_code mo_tape mo_text mo_taped mo_size mo_at mo_ill mo_in mo_kind mo_type mo_long1 mo_letters mo_fields mo_kept mo_now mo_many mo_itemKind mo_itemField mo_itemPlace mo_by mo_stepKind mo_stepField mo_stepOperator mo_stepOther mo_stepMany mo_literalType mo_literalFrom mo_literalSize mo_bytes mo_said mo_number mo_pile mo_pilePlace mo_top mo_open) (w_mo E a_mo mo_code mo_tape mo_text mo_taped mo_size mo_at o_mo_ill mo_in mo_kind mo_type mo_long1 mo_letters mo_fields mo_kept mo_now mo_many mo_itemKind mo_itemField mo_itemPlace mo_by mo_stepKind mo_stepField mo_stepOperator mo_stepOther mo_stepMany mo_literalType mo_literalFrom mo_literalSize mo_bytes mo_said mo_number mo_pile mo_pilePlace mo_top mo_open) := by
  intro sz
  refine met_start [(0, .ref (a_mo 0)), (1, .int p1)] (by decide) rfl rfl (Nat.le_of_ble_eq_true rfl) rfl ?_
  intro p e s m below meth c ls C hnm hmt hw hl
  have hx := C.1
  have hb := C.2.1
  generalize va_A (w_mo E a_mo mo_code mo_tape mo_text mo_taped mo_size mo_at mo_ill mo_in mo_kind mo_type mo_long1 mo_letters mo_fields mo_kept mo_now mo_many mo_itemKind mo_itemField mo_itemPlace mo_by mo_stepKind mo_stepField mo_stepOperator mo_stepOther mo_stepMany mo_literalType mo_literalFrom mo_literalSize mo_bytes mo_said mo_number mo_pile mo_pilePlace mo_top mo_open) sz = A at C hw ⊢
  unfold f_X6_fail at hf
  refine lv_aload_n hx hb dX6_fail_0 rfl (lv_at hl 0 rfl) ?_
  refine fg_X6_102 C hw 0 rfl rfl dX6_fail_1 ?_
  refine lv_iconst (v := -1) hx hb dX6_fail_4 (by decide) ?_
  refine lv_icmp_ne (tgt := 13) hx hb dX6_fail_5 (by decide) (fun c5 => ?_) (fun c5 => ?_)
  · replace hf := it_f c5 hf
    cases hf
    exact rt_v C hw dX6_fail_13
  · replace hf := it_t c5 hf
    refine lv_aload_n hx hb dX6_fail_8 rfl (lv_at hl 0 rfl) ?_
    refine lv_iload_n hx hb dX6_fail_9 rfl (lv_at hl 1 rfl) ?_
    refine fp_X6_102 C hw 0 rfl (Nat.le_of_ble_eq_true rfl) (ws' := w_mo E a_mo mo_code mo_tape mo_text mo_taped mo_size mo_at p1 mo_in mo_kind mo_type mo_long1 mo_letters mo_fields mo_kept mo_now mo_many mo_itemKind mo_itemField mo_itemPlace mo_by mo_stepKind mo_stepField mo_stepOperator mo_stepOther mo_stepMany mo_literalType mo_literalFrom mo_literalSize mo_bytes mo_said mo_number mo_pile mo_pilePlace mo_top mo_open) rfl dX6_fail_10 (fun H locs hw => ?_)
    cases hf
    exact rt_v C hw dX6_fail_13
def f_X6_look (mo_text : Nat → Int32) (mo_size : Int32) (mo_at : Int32) : Option ((Int32)) :=
  if mo_size ≤ mo_at then (some (-1 : Int32))
  else (rd mo_text 2000 mo_at (fun x1 =>
  some x1))
set_option maxHeartbeats 4000000 in
set_option maxRecDepth 100000 in
theorem c_X6_look (l : Launch) (E : EnvT) (a_mo : Nat → Nat) (mo_code : Int32) (mo_tape : Nat → Int32) (mo_text : Nat → Int32) (mo_taped : Int32) (mo_size : Int32) (mo_at : Int32) (mo_ill : Int32) (mo_in : Nat → Int32) (mo_kind : Nat → Int32) (mo_type : Nat → Int32) (mo_long1 : Nat → Int32) (mo_letters : Nat → Int32) (mo_fields : Int32) (mo_kept : Int32) (mo_now : Int32) (mo_many : Nat → Int32) (mo_itemKind : Nat → Int32) (mo_itemField : Nat → Int32) (mo_itemPlace : Nat → Int32) (mo_by : Nat → Int32) (mo_stepKind : Nat → Int32) (mo_stepField : Nat → Int32) (mo_stepOperator : Nat → Int32) (mo_stepOther : Nat → Int32) (mo_stepMany : Nat → Int32) (mo_literalType : Nat → Int32) (mo_literalFrom : Nat → Int32) (mo_literalSize : Nat → Int32) (mo_bytes : Nat → Int32) (mo_said : Nat → Int32) (mo_number : Nat → Int64) (mo_pile : Nat → Int32) (mo_pilePlace : Nat → Int32) (mo_top : Int32) (mo_open : Int32) (r : Int32) (hf : f_X6_look mo_text mo_size mo_at = some r) : CI l yX6_look (Cond.code yX6_look cX6_look 1 (some .int)) { frames := 0, cells := 0, slots := 0, locals := 0 } E [.ref (a_mo 0)] (w_mo E a_mo mo_code mo_tape mo_text mo_taped mo_size mo_at mo_ill mo_in mo_kind mo_type mo_long1 mo_letters mo_fields mo_kept mo_now mo_many mo_itemKind mo_itemField mo_itemPlace mo_by mo_stepKind mo_stepField mo_stepOperator mo_stepOther mo_stepMany mo_literalType mo_literalFrom mo_literalSize mo_bytes mo_said mo_number mo_pile mo_pilePlace mo_top mo_open) r (w_mo E a_mo mo_code mo_tape mo_text mo_taped mo_size mo_at mo_ill mo_in mo_kind mo_type mo_long1 mo_letters mo_fields mo_kept mo_now mo_many mo_itemKind mo_itemField mo_itemPlace mo_by mo_stepKind mo_stepField mo_stepOperator mo_stepOther mo_stepMany mo_literalType mo_literalFrom mo_literalSize mo_bytes mo_said mo_number mo_pile mo_pilePlace mo_top mo_open) := by
  intro sz
  refine met_start [(0, .ref (a_mo 0))] (by decide) rfl rfl (Nat.le_of_ble_eq_true rfl) rfl ?_
  intro p e s m below meth c ls C hnm hmt hw hl
  have hx := C.1
  have hb := C.2.1
  generalize va_A (w_mo E a_mo mo_code mo_tape mo_text mo_taped mo_size mo_at mo_ill mo_in mo_kind mo_type mo_long1 mo_letters mo_fields mo_kept mo_now mo_many mo_itemKind mo_itemField mo_itemPlace mo_by mo_stepKind mo_stepField mo_stepOperator mo_stepOther mo_stepMany mo_literalType mo_literalFrom mo_literalSize mo_bytes mo_said mo_number mo_pile mo_pilePlace mo_top mo_open) sz = A at C hw ⊢
  unfold f_X6_look at hf
  refine lv_aload_n hx hb dX6_look_0 rfl (lv_at hl 0 rfl) ?_
  refine fg_X6_99 C hw 0 rfl rfl dX6_look_1 ?_
  refine lv_aload_n hx hb dX6_look_4 rfl (lv_at hl 0 rfl) ?_
  refine fg_X6_96 C hw 0 rfl rfl dX6_look_5 ?_
  refine lv_icmp_ge (tgt := 23) hx hb dX6_look_8 (by decide) (fun c8 => ?_) (fun c8 => ?_)
  · replace hf := it_t c8 hf
    refine lv_iconst (v := -1) hx hb dX6_look_23 (by decide) ?_
    cases hf
    exact rt_i C hw dX6_look_24
  · replace hf := it_f c8 hf
    refine lv_aload_n hx hb dX6_look_11 rfl (lv_at hl 0 rfl) ?_
    refine fg_X6_13 C hw 0 rfl rfl dX6_look_12 ?_
    refine lv_aload_n hx hb dX6_look_15 rfl (lv_at hl 0 rfl) ?_
    refine fg_X6_99 C hw 0 rfl rfl dX6_look_16 ?_
    obtain ⟨x1, ex1, gx1, hf⟩ := rd_el hf
    refine ra_i C hw 2 rfl gx1 dX6_look_19 ?_
    refine tp_i ex1 ?_
    refine lv_goto (tgt := 24) hx hb dX6_look_20 (by decide) ?_
    cases hf
    exact rt_i C hw dX6_look_24
def f_X6_blanks_0 : Nat → (Nat → Int32) → (Int32) → (Int32) → Option ((Int32))
  | 0, _, _, _ => none
  | n + 1, mo_text, mo_size, mo_at =>
  ob1 (f_X6_look mo_text mo_size mo_at) (fun x1 =>
  if x1 = (32 : Int32) then (on (mo_at + (1 : Int32)) (fun x2 =>
  f_X6_blanks_0 n mo_text mo_size x2))
  else (ob1 (f_X6_look mo_text mo_size mo_at) (fun x3 =>
  if x3 = (10 : Int32) then (on (mo_at + (1 : Int32)) (fun x4 =>
  f_X6_blanks_0 n mo_text mo_size x4))
  else (some mo_at))))
set_option maxHeartbeats 4000000 in
set_option maxRecDepth 100000 in
theorem w_X6_blanks_0 {p : Program} {l : Launch} {e : Env} {s : State} {m : MethodId} {args : Array Value} {below : List Frame} {meth : Method} {c : Code} {E : EnvT} {A : Nat → Prop} {a_mo : Nat → Nat} {Q : State → Prop} {mo_code : Int32} {mo_tape : Nat → Int32} {mo_taped : Int32} {mo_ill : Int32} {mo_in : Nat → Int32} {mo_kind : Nat → Int32} {mo_type : Nat → Int32} {mo_long1 : Nat → Int32} {mo_letters : Nat → Int32} {mo_fields : Int32} {mo_kept : Int32} {mo_now : Int32} {mo_many : Nat → Int32} {mo_itemKind : Nat → Int32} {mo_itemField : Nat → Int32} {mo_itemPlace : Nat → Int32} {mo_by : Nat → Int32} {mo_stepKind : Nat → Int32} {mo_stepField : Nat → Int32} {mo_stepOperator : Nat → Int32} {mo_stepOther : Nat → Int32} {mo_stepMany : Nat → Int32} {mo_literalType : Nat → Int32} {mo_literalFrom : Nat → Int32} {mo_literalSize : Nat → Int32} {mo_bytes : Nat → Int32} {mo_said : Nat → Int32} {mo_number : Nat → Int64} {mo_pile : Nat → Int32} {mo_pilePlace : Nat → Int32} {mo_top : Int32} {mo_open : Int32} {q_mo_at : Int32} (C : MC p s m args meth c E A cX6_blanks 1 RX6 none) : ∀ (n : Nat) {mo_text : Nat → Int32} {mo_size : Int32} {mo_at : Int32} {H : Heap} {locs : List Loc} {ls : Array Slot}, WS E A s (w_mo E a_mo mo_code mo_tape mo_text mo_taped mo_size mo_at mo_ill mo_in mo_kind mo_type mo_long1 mo_letters mo_fields mo_kept mo_now mo_many mo_itemKind mo_itemField mo_itemPlace mo_by mo_stepKind mo_stepField mo_stepOperator mo_stepOther mo_stepMany mo_literalType mo_literalFrom mo_literalSize mo_bytes mo_said mo_number mo_pile mo_pilePlace mo_top mo_open) H locs → lv_has ls 1 [(0, .ref (a_mo 0))] → f_X6_blanks_0 n mo_text mo_size mo_at = some q_mo_at → (∀ (H : Heap) (locs : List Loc) (ls : Array Slot), WS E A s (w_mo E a_mo mo_code mo_tape mo_text mo_taped mo_size q_mo_at mo_ill mo_in mo_kind mo_type mo_long1 mo_letters mo_fields mo_kept mo_now mo_many mo_itemKind mo_itemField mo_itemPlace mo_by mo_stepKind mo_stepField mo_stepOperator mo_stepOther mo_stepMany mo_literalType mo_literalFrom mo_literalSize mo_bytes mo_said mo_number mo_pile mo_pilePlace mo_top mo_open) H locs → lv_has ls 1 [] → W p l e { frames := 1, cells := 0, slots := 0, locals := 20 } s m args below meth c H locs 0 0 Q (F0 m 31 ls [])) → W p l e { frames := 1, cells := 0, slots := 0, locals := 20 } s m args below meth c H locs 0 0 Q (F0 m 0 ls []) := by
  have hx := C.1
  have hb := C.2.1
  intro n
  induction n with
  | zero =>
    intro mo_text mo_size mo_at H locs ls hw hl hf kk
    unfold f_X6_blanks_0 at hf
    cases hf
  | succ n ih =>
    intro mo_text mo_size mo_at H locs ls hw hl hf kk
    unfold f_X6_blanks_0 at hf
    refine lv_aload_n hx hb dX6_blanks_0 rfl (lv_at hl 0 rfl) ?_
    obtain ⟨x1, z1, hf⟩ := ob1_el hf
    refine cI_V C hw (c_X6_look l E a_mo mo_code mo_tape mo_text mo_taped mo_size mo_at mo_ill mo_in mo_kind mo_type mo_long1 mo_letters mo_fields mo_kept mo_now mo_many mo_itemKind mo_itemField mo_itemPlace mo_by mo_stepKind mo_stepField mo_stepOperator mo_stepOther mo_stepMany mo_literalType mo_literalFrom mo_literalSize mo_bytes mo_said mo_number mo_pile mo_pilePlace mo_top mo_open x1 z1) cs_X6_126 ⟨Nat.le_of_ble_eq_true rfl, Nat.le_of_ble_eq_true rfl⟩ ⟨rfl, rfl⟩ (ci := 6) (cn := (RX6, TX6, 35)) rfl (q0 := 0) rfl (wn := w_mo E a_mo mo_code mo_tape mo_text mo_taped mo_size mo_at mo_ill mo_in mo_kind mo_type mo_long1 mo_letters mo_fields mo_kept mo_now mo_many mo_itemKind mo_itemField mo_itemPlace mo_by mo_stepKind mo_stepField mo_stepOperator mo_stepOther mo_stepMany mo_literalType mo_literalFrom mo_literalSize mo_bytes mo_said mo_number mo_pile mo_pilePlace mo_top mo_open) (Jn.all _ _) rfl hl.1 rfl (Nat.le_of_ble_eq_true rfl) dX6_blanks_1 ⟨Nat.zero_le _, Nat.zero_le _⟩ (fun H locs hw => ?_)
    refine lv_bipush (v := 32) hx hb dX6_blanks_4 (by decide) ?_
    refine lv_icmp_eq (tgt := 18) hx hb dX6_blanks_6 (by decide) (fun c6 => ?_) (fun c6 => ?_)
    · replace hf := it_t c6 hf
      refine lv_aload_n hx hb dX6_blanks_18 rfl (lv_at hl 0 rfl) ?_
      refine lv_dup hx hb dX6_blanks_19 rfl ?_
      refine fg_X6_99 C hw 0 rfl rfl dX6_blanks_20 ?_
      refine lv_iconst (v := 1) hx hb dX6_blanks_23 (by decide) ?_
      refine lv_iadd hx hb dX6_blanks_24 ?_
      obtain ⟨x2, ex2, hf⟩ := on_el hf
      refine tp_i ex2 ?_
      refine fp_X6_99 C hw 0 rfl (Nat.le_of_ble_eq_true rfl) (ws' := w_mo E a_mo mo_code mo_tape mo_text mo_taped mo_size x2 mo_ill mo_in mo_kind mo_type mo_long1 mo_letters mo_fields mo_kept mo_now mo_many mo_itemKind mo_itemField mo_itemPlace mo_by mo_stepKind mo_stepField mo_stepOperator mo_stepOther mo_stepMany mo_literalType mo_literalFrom mo_literalSize mo_bytes mo_said mo_number mo_pile mo_pilePlace mo_top mo_open) rfl dX6_blanks_25 (fun H locs hw => ?_)
      refine lv_goto (tgt := 0) hx hb dX6_blanks_28 (by decide) ?_
      exact ih hw (lv_sub hl [0] rfl) hf kk
    · replace hf := it_f c6 hf
      refine lv_aload_n hx hb dX6_blanks_9 rfl (lv_at hl 0 rfl) ?_
      obtain ⟨x3, z3, hf⟩ := ob1_el hf
      refine cI_V C hw (c_X6_look l E a_mo mo_code mo_tape mo_text mo_taped mo_size mo_at mo_ill mo_in mo_kind mo_type mo_long1 mo_letters mo_fields mo_kept mo_now mo_many mo_itemKind mo_itemField mo_itemPlace mo_by mo_stepKind mo_stepField mo_stepOperator mo_stepOther mo_stepMany mo_literalType mo_literalFrom mo_literalSize mo_bytes mo_said mo_number mo_pile mo_pilePlace mo_top mo_open x3 z3) cs_X6_126 ⟨Nat.le_of_ble_eq_true rfl, Nat.le_of_ble_eq_true rfl⟩ ⟨rfl, rfl⟩ (ci := 6) (cn := (RX6, TX6, 35)) rfl (q0 := 0) rfl (wn := w_mo E a_mo mo_code mo_tape mo_text mo_taped mo_size mo_at mo_ill mo_in mo_kind mo_type mo_long1 mo_letters mo_fields mo_kept mo_now mo_many mo_itemKind mo_itemField mo_itemPlace mo_by mo_stepKind mo_stepField mo_stepOperator mo_stepOther mo_stepMany mo_literalType mo_literalFrom mo_literalSize mo_bytes mo_said mo_number mo_pile mo_pilePlace mo_top mo_open) (Jn.all _ _) rfl hl.1 rfl (Nat.le_of_ble_eq_true rfl) dX6_blanks_10 ⟨Nat.zero_le _, Nat.zero_le _⟩ (fun H locs hw => ?_)
      refine lv_bipush (v := 10) hx hb dX6_blanks_13 (by decide) ?_
      refine lv_icmp_ne (tgt := 31) hx hb dX6_blanks_15 (by decide) (fun c15 => ?_) (fun c15 => ?_)
      · replace hf := it_f c15 hf
        cases hf
        exact kk _ _ _ hw (lv_sub hl [] rfl)
      · replace hf := it_t c15 hf
        refine lv_aload_n hx hb dX6_blanks_18 rfl (lv_at hl 0 rfl) ?_
        refine lv_dup hx hb dX6_blanks_19 rfl ?_
        refine fg_X6_99 C hw 0 rfl rfl dX6_blanks_20 ?_
        refine lv_iconst (v := 1) hx hb dX6_blanks_23 (by decide) ?_
        refine lv_iadd hx hb dX6_blanks_24 ?_
        obtain ⟨x4, ex4, hf⟩ := on_el hf
        refine tp_i ex4 ?_
        refine fp_X6_99 C hw 0 rfl (Nat.le_of_ble_eq_true rfl) (ws' := w_mo E a_mo mo_code mo_tape mo_text mo_taped mo_size x4 mo_ill mo_in mo_kind mo_type mo_long1 mo_letters mo_fields mo_kept mo_now mo_many mo_itemKind mo_itemField mo_itemPlace mo_by mo_stepKind mo_stepField mo_stepOperator mo_stepOther mo_stepMany mo_literalType mo_literalFrom mo_literalSize mo_bytes mo_said mo_number mo_pile mo_pilePlace mo_top mo_open) rfl dX6_blanks_25 (fun H locs hw => ?_)
        refine lv_goto (tgt := 0) hx hb dX6_blanks_28 (by decide) ?_
        exact ih hw (lv_sub hl [0] rfl) hf kk
def f_X6_blanks (mo_text : Nat → Int32) (mo_size : Int32) (mo_at : Int32) : Option ((Int32)) :=
  ob1 (f_X6_blanks_0 FU mo_text mo_size mo_at) (fun x1 =>
  some x1)
set_option maxHeartbeats 4000000 in
set_option maxRecDepth 100000 in
theorem c_X6_blanks (l : Launch) (E : EnvT) (a_mo : Nat → Nat) (mo_code : Int32) (mo_tape : Nat → Int32) (mo_text : Nat → Int32) (mo_taped : Int32) (mo_size : Int32) (mo_at : Int32) (mo_ill : Int32) (mo_in : Nat → Int32) (mo_kind : Nat → Int32) (mo_type : Nat → Int32) (mo_long1 : Nat → Int32) (mo_letters : Nat → Int32) (mo_fields : Int32) (mo_kept : Int32) (mo_now : Int32) (mo_many : Nat → Int32) (mo_itemKind : Nat → Int32) (mo_itemField : Nat → Int32) (mo_itemPlace : Nat → Int32) (mo_by : Nat → Int32) (mo_stepKind : Nat → Int32) (mo_stepField : Nat → Int32) (mo_stepOperator : Nat → Int32) (mo_stepOther : Nat → Int32) (mo_stepMany : Nat → Int32) (mo_literalType : Nat → Int32) (mo_literalFrom : Nat → Int32) (mo_literalSize : Nat → Int32) (mo_bytes : Nat → Int32) (mo_said : Nat → Int32) (mo_number : Nat → Int64) (mo_pile : Nat → Int32) (mo_pilePlace : Nat → Int32) (mo_top : Int32) (mo_open : Int32) (o_mo_at : Int32) (hf : f_X6_blanks mo_text mo_size mo_at = some o_mo_at) : CV l yX6_blanks (Cond.code yX6_blanks cX6_blanks 1 none) { frames := 1, cells := 0, slots := 0, locals := 20 } E [.ref (a_mo 0)] (w_mo E a_mo mo_code mo_tape mo_text mo_taped mo_size mo_at mo_ill mo_in mo_kind mo_type mo_long1 mo_letters mo_fields mo_kept mo_now mo_many mo_itemKind mo_itemField mo_itemPlace mo_by mo_stepKind mo_stepField mo_stepOperator mo_stepOther mo_stepMany mo_literalType mo_literalFrom mo_literalSize mo_bytes mo_said mo_number mo_pile mo_pilePlace mo_top mo_open) (w_mo E a_mo mo_code mo_tape mo_text mo_taped mo_size o_mo_at mo_ill mo_in mo_kind mo_type mo_long1 mo_letters mo_fields mo_kept mo_now mo_many mo_itemKind mo_itemField mo_itemPlace mo_by mo_stepKind mo_stepField mo_stepOperator mo_stepOther mo_stepMany mo_literalType mo_literalFrom mo_literalSize mo_bytes mo_said mo_number mo_pile mo_pilePlace mo_top mo_open) := by
  intro sz
  refine met_start [(0, .ref (a_mo 0))] (by decide) rfl rfl (Nat.le_of_ble_eq_true rfl) rfl ?_
  intro p e s m below meth c ls C hnm hmt hw hl
  have hx := C.1
  have hb := C.2.1
  generalize va_A (w_mo E a_mo mo_code mo_tape mo_text mo_taped mo_size mo_at mo_ill mo_in mo_kind mo_type mo_long1 mo_letters mo_fields mo_kept mo_now mo_many mo_itemKind mo_itemField mo_itemPlace mo_by mo_stepKind mo_stepField mo_stepOperator mo_stepOther mo_stepMany mo_literalType mo_literalFrom mo_literalSize mo_bytes mo_said mo_number mo_pile mo_pilePlace mo_top mo_open) sz = A at C hw ⊢
  unfold f_X6_blanks at hf
  obtain ⟨x1, hx1, hf⟩ := ob1_el hf
  refine w_X6_blanks_0 C FU hw (lv_sub hl [0] rfl) hx1 ?_
  clear hw hl
  intro H locs ls hw hl
  cases hf
  exact rt_v C hw dX6_blanks_31
