/-! THE CLAIM OUT OF ONE WALK OF THE LAW'S BODY. Your part is whole_start (and what it stands on); all else here is the same for every law, but numbers. -/
def R_law : String := "QueryTextLaw"
def lw_P (b : Addr) (xs : List Int32) (args : Array Value) (s : State) : Prop := args = #[.ref b] ∧ s.IntsAt b xs ∧ xs.length ≤ 3072 ∧ (Jvm.Cond.and given_1 narrow_1).before args s = true
def lw_Q (_ : Array Value) (s : State) (o : Outcome) (t : State) : Prop := o = .returned (some (.int 1)) ∧ Framed s o t [] 58 19608
def lw_Z (below : List Frame) (a : Array Value) (s : State) : State → Prop := fun t => ∃ o, t.status = .running ∧ Ended t below o ∧ lw_Q a s o t
/-- the law's own end, with 1 on the stack, nothing written that was there before, its room as the claim has it -/
theorem lw_ret {p : Program} {l : Launch} {e : Env} {s : State} {m : MethodId} {below : List Frame} {meth : Method} {c : Code} {b : Nat} (hx : p.tables.exec = Jvm.exec) (hb : c.code = code) (hr : meth.sig.returnType = ret) (hlocks : meth.locks = false) {pc : Nat} {H : Heap} {ls : Array Slot} (hdg : decode code pc = .ok (.ireturn, 1)) : W p l e room_1 s m #[Value.ref b] below meth c H [] 58 19608 (lw_Z below #[Value.ref b] s) (F0 m pc ls [.int 1]) := by
  intro T hT X
  obtain ⟨fs, hret, hrun, hended, hW, hframe⟩ := X.leave (v := some (.int 1)) (hlocks := hlocks) (fun h => by rw [hr] at h; cases h)
  have hmeth' : T.vm.method? m = some meth := X.method'
  refine ⟨T.setFrames fs, ?_, .returned (some (.int 1)), hrun, hended, rfl, ⟨_, rfl⟩, hW, hframe⟩
  jvm_step X.here [X.here.top, hx, hb, hdg, hmeth', hr, ret, narrow_b1]
  (try refine ⟨rfl, ?_⟩); (try refine ⟨rfl, ?_⟩)
  first | (intro acts; rw [hret _ acts rfl rfl rfl]) | rw [hret _ _ rfl rfl rfl]
  exact Steps.refl _
/-- what holds at the law's entry: the machine, the code, the tables' words (any of lw_tbl by 'hts w (by decide +kernel)'), the script of L ints xs at the cell b, what the Statement gives of the start (any of its parts by flat_of_before) -/
def lw_At (p : Program) (s : State) (m : MethodId) (meth : Method) (c : Code) (b L : Nat) (xs : Nat → Int32) : Prop :=
  p.tables.exec = Jvm.exec ∧ c.code = code ∧ meth.sig.returnType = ret ∧ c.maxLocals = 4 ∧ s.vm.findClass R_law = some m.cls ∧ (∀ w ∈ lw_tbl, w.before #[Value.ref b] s = true) ∧ va_X b L xs s s.heap ∧ b < s.heap.size ∧ meth.locks = false ∧ (Jvm.Cond.and given_1 narrow_1).before #[Value.ref b] s = true
theorem mw_266 : Cond.methodLink RL 13 yX5_feed ∈ GW := gw_of (List.mem_of_getElem? (i := 266) (by decide +kernel)) rfl
theorem mw_267 : Cond.instanceMethod yX5_feed ∈ GW := gw_of (List.mem_of_getElem? (i := 267) (by decide +kernel)) rfl
theorem mw_268 : Cond.selects RX5 yX5_feed yX5_feed ∈ GW := gw_of (List.mem_of_getElem? (i := 268) (by decide +kernel)) rfl
set_option maxRecDepth 100000 in
theorem mw_269 : Cond.code yX5_feed cX5_feed 6 (some .boolean) ∈ GW := gw_of (List.mem_of_getElem? (i := 269) rfl) rfl
theorem cs_L_13 : CWV RL 13 RX5 yX5_feed cX5_feed 6 (some .boolean) 5 := cwv mw_266 mw_267 mw_268 mw_55 mw_269 (by decide +kernel)
theorem mw_714 : Cond.methodLink RL 17 yX6_feed ∈ GW := gw_of (List.mem_of_getElem? (i := 714) (by decide +kernel)) rfl
theorem mw_715 : Cond.instanceMethod yX6_feed ∈ GW := gw_of (List.mem_of_getElem? (i := 715) (by decide +kernel)) rfl
theorem mw_716 : Cond.selects RX6 yX6_feed yX6_feed ∈ GW := gw_of (List.mem_of_getElem? (i := 716) (by decide +kernel)) rfl
set_option maxRecDepth 100000 in
theorem mw_717 : Cond.code yX6_feed cX6_feed 8 (some .boolean) ∈ GW := gw_of (List.mem_of_getElem? (i := 717) rfl) rfl
theorem cs_L_17 : CWV RL 17 RX6 yX6_feed cX6_feed 8 (some .boolean) 5 := cwv mw_714 mw_715 mw_716 mw_61 mw_717 (by decide +kernel)
theorem mw_278 : Cond.methodLink RL 18 yX5_field ∈ GW := gw_of (List.mem_of_getElem? (i := 278) (by decide +kernel)) rfl
theorem mw_279 : Cond.instanceMethod yX5_field ∈ GW := gw_of (List.mem_of_getElem? (i := 279) (by decide +kernel)) rfl
theorem mw_280 : Cond.selects RX5 yX5_field yX5_field ∈ GW := gw_of (List.mem_of_getElem? (i := 280) (by decide +kernel)) rfl
set_option maxRecDepth 100000 in
theorem mw_281 : Cond.code yX5_field cX5_field 6 (some .int) ∈ GW := gw_of (List.mem_of_getElem? (i := 281) rfl) rfl
theorem cs_L_18 : CWV RL 18 RX5 yX5_field cX5_field 6 (some .int) 4 := cwv mw_278 mw_279 mw_280 mw_55 mw_281 (by decide +kernel)
theorem mw_718 : Cond.methodLink RL 22 yX6_field ∈ GW := gw_of (List.mem_of_getElem? (i := 718) (by decide +kernel)) rfl
theorem mw_719 : Cond.instanceMethod yX6_field ∈ GW := gw_of (List.mem_of_getElem? (i := 719) (by decide +kernel)) rfl
theorem mw_720 : Cond.selects RX6 yX6_field yX6_field ∈ GW := gw_of (List.mem_of_getElem? (i := 720) (by decide +kernel)) rfl
set_option maxRecDepth 100000 in
theorem mw_721 : Cond.code yX6_field cX6_field 7 (some .int) ∈ GW := gw_of (List.mem_of_getElem? (i := 721) rfl) rfl
theorem cs_L_22 : CWV RL 22 RX6 yX6_field cX6_field 7 (some .int) 4 := cwv mw_718 mw_719 mw_720 mw_61 mw_721 (by decide +kernel)
theorem mw_324 : Cond.methodLink RL 23 yX5_query ∈ GW := gw_of (List.mem_of_getElem? (i := 324) (by decide +kernel)) rfl
theorem mw_325 : Cond.instanceMethod yX5_query ∈ GW := gw_of (List.mem_of_getElem? (i := 325) (by decide +kernel)) rfl
theorem mw_326 : Cond.selects RX5 yX5_query yX5_query ∈ GW := gw_of (List.mem_of_getElem? (i := 326) (by decide +kernel)) rfl
set_option maxRecDepth 100000 in
theorem mw_327 : Cond.code yX5_query cX5_query 2 (some .int) ∈ GW := gw_of (List.mem_of_getElem? (i := 327) rfl) rfl
theorem cs_L_23 : CWV RL 23 RX5 yX5_query cX5_query 2 (some .int) 1 := cwv mw_324 mw_325 mw_326 mw_55 mw_327 (by decide +kernel)
theorem mw_740 : Cond.methodLink RL 27 yX6_query ∈ GW := gw_of (List.mem_of_getElem? (i := 740) (by decide +kernel)) rfl
theorem mw_741 : Cond.instanceMethod yX6_query ∈ GW := gw_of (List.mem_of_getElem? (i := 741) (by decide +kernel)) rfl
theorem mw_742 : Cond.selects RX6 yX6_query yX6_query ∈ GW := gw_of (List.mem_of_getElem? (i := 742) (by decide +kernel)) rfl
set_option maxRecDepth 100000 in
theorem mw_743 : Cond.code yX6_query cX6_query 4 (some .int) ∈ GW := gw_of (List.mem_of_getElem? (i := 743) rfl) rfl
theorem cs_L_27 : CWV RL 27 RX6 yX6_query cX6_query 4 (some .int) 1 := cwv mw_740 mw_741 mw_742 mw_61 mw_743 (by decide +kernel)
theorem mw_561 : Cond.methodLink RL 28 yX5_count ∈ GW := gw_of (List.mem_of_getElem? (i := 561) (by decide +kernel)) rfl
theorem mw_562 : Cond.instanceMethod yX5_count ∈ GW := gw_of (List.mem_of_getElem? (i := 562) (by decide +kernel)) rfl
theorem mw_563 : Cond.selects RX5 yX5_count yX5_count ∈ GW := gw_of (List.mem_of_getElem? (i := 563) (by decide +kernel)) rfl
set_option maxRecDepth 100000 in
theorem mw_564 : Cond.code yX5_count cX5_count 2 (some .int) ∈ GW := gw_of (List.mem_of_getElem? (i := 564) rfl) rfl
theorem cs_L_28 : CWV RL 28 RX5 yX5_count cX5_count 2 (some .int) 1 := cwv mw_561 mw_562 mw_563 mw_55 mw_564 (by decide +kernel)
theorem mw_876 : Cond.methodLink RL 31 yX6_count ∈ GW := gw_of (List.mem_of_getElem? (i := 876) (by decide +kernel)) rfl
theorem mw_877 : Cond.instanceMethod yX6_count ∈ GW := gw_of (List.mem_of_getElem? (i := 877) (by decide +kernel)) rfl
theorem mw_878 : Cond.selects RX6 yX6_count yX6_count ∈ GW := gw_of (List.mem_of_getElem? (i := 878) (by decide +kernel)) rfl
set_option maxRecDepth 100000 in
theorem mw_879 : Cond.code yX6_count cX6_count 2 (some .int) ∈ GW := gw_of (List.mem_of_getElem? (i := 879) rfl) rfl
theorem cs_L_31 : CWV RL 31 RX6 yX6_count cX6_count 2 (some .int) 1 := cwv mw_876 mw_877 mw_878 mw_61 mw_879 (by decide +kernel)
theorem mw_566 : Cond.methodLink RL 32 yX5_item ∈ GW := gw_of (List.mem_of_getElem? (i := 566) (by decide +kernel)) rfl
theorem mw_567 : Cond.instanceMethod yX5_item ∈ GW := gw_of (List.mem_of_getElem? (i := 567) (by decide +kernel)) rfl
theorem mw_568 : Cond.selects RX5 yX5_item yX5_item ∈ GW := gw_of (List.mem_of_getElem? (i := 568) (by decide +kernel)) rfl
set_option maxRecDepth 100000 in
theorem mw_569 : Cond.code yX5_item cX5_item 3 (some .int) ∈ GW := gw_of (List.mem_of_getElem? (i := 569) rfl) rfl
theorem cs_L_32 : CWV RL 32 RX5 yX5_item cX5_item 3 (some .int) 2 := cwv mw_566 mw_567 mw_568 mw_55 mw_569 (by decide +kernel)
theorem mw_880 : Cond.methodLink RL 36 yX6_item ∈ GW := gw_of (List.mem_of_getElem? (i := 880) (by decide +kernel)) rfl
theorem mw_881 : Cond.instanceMethod yX6_item ∈ GW := gw_of (List.mem_of_getElem? (i := 881) (by decide +kernel)) rfl
theorem mw_882 : Cond.selects RX6 yX6_item yX6_item ∈ GW := gw_of (List.mem_of_getElem? (i := 882) (by decide +kernel)) rfl
set_option maxRecDepth 100000 in
theorem mw_883 : Cond.code yX6_item cX6_item 3 (some .int) ∈ GW := gw_of (List.mem_of_getElem? (i := 883) rfl) rfl
theorem cs_L_36 : CWV RL 36 RX6 yX6_item cX6_item 3 (some .int) 2 := cwv mw_880 mw_881 mw_882 mw_61 mw_883 (by decide +kernel)
theorem mw_570 : Cond.methodLink RL 37 yX5_by ∈ GW := gw_of (List.mem_of_getElem? (i := 570) (by decide +kernel)) rfl
theorem mw_571 : Cond.instanceMethod yX5_by ∈ GW := gw_of (List.mem_of_getElem? (i := 571) (by decide +kernel)) rfl
theorem mw_572 : Cond.selects RX5 yX5_by yX5_by ∈ GW := gw_of (List.mem_of_getElem? (i := 572) (by decide +kernel)) rfl
set_option maxRecDepth 100000 in
theorem mw_573 : Cond.code yX5_by cX5_by 2 (some .int) ∈ GW := gw_of (List.mem_of_getElem? (i := 573) rfl) rfl
theorem cs_L_37 : CWV RL 37 RX5 yX5_by cX5_by 2 (some .int) 1 := cwv mw_570 mw_571 mw_572 mw_55 mw_573 (by decide +kernel)
theorem mw_888 : Cond.methodLink RL 40 yX6_by ∈ GW := gw_of (List.mem_of_getElem? (i := 888) (by decide +kernel)) rfl
theorem mw_889 : Cond.instanceMethod yX6_by ∈ GW := gw_of (List.mem_of_getElem? (i := 889) (by decide +kernel)) rfl
theorem mw_890 : Cond.selects RX6 yX6_by yX6_by ∈ GW := gw_of (List.mem_of_getElem? (i := 890) (by decide +kernel)) rfl
set_option maxRecDepth 100000 in
theorem mw_891 : Cond.code yX6_by cX6_by 2 (some .int) ∈ GW := gw_of (List.mem_of_getElem? (i := 891) rfl) rfl
theorem cs_L_40 : CWV RL 40 RX6 yX6_by cX6_by 2 (some .int) 1 := cwv mw_888 mw_889 mw_890 mw_61 mw_891 (by decide +kernel)
theorem mw_574 : Cond.methodLink RL 41 yX5_step ∈ GW := gw_of (List.mem_of_getElem? (i := 574) (by decide +kernel)) rfl
theorem mw_575 : Cond.instanceMethod yX5_step ∈ GW := gw_of (List.mem_of_getElem? (i := 575) (by decide +kernel)) rfl
theorem mw_576 : Cond.selects RX5 yX5_step yX5_step ∈ GW := gw_of (List.mem_of_getElem? (i := 576) (by decide +kernel)) rfl
set_option maxRecDepth 100000 in
theorem mw_577 : Cond.code yX5_step cX5_step 3 (some .int) ∈ GW := gw_of (List.mem_of_getElem? (i := 577) rfl) rfl
theorem cs_L_41 : CWV RL 41 RX5 yX5_step cX5_step 3 (some .int) 2 := cwv mw_574 mw_575 mw_576 mw_55 mw_577 (by decide +kernel)
theorem mw_892 : Cond.methodLink RL 44 yX6_step ∈ GW := gw_of (List.mem_of_getElem? (i := 892) (by decide +kernel)) rfl
theorem mw_893 : Cond.instanceMethod yX6_step ∈ GW := gw_of (List.mem_of_getElem? (i := 893) (by decide +kernel)) rfl
theorem mw_894 : Cond.selects RX6 yX6_step yX6_step ∈ GW := gw_of (List.mem_of_getElem? (i := 894) (by decide +kernel)) rfl
set_option maxRecDepth 100000 in
theorem mw_895 : Cond.code yX6_step cX6_step 4 (some .int) ∈ GW := gw_of (List.mem_of_getElem? (i := 895) rfl) rfl
theorem cs_L_44 : CWV RL 44 RX6 yX6_step cX6_step 4 (some .int) 2 := cwv mw_892 mw_893 mw_894 mw_61 mw_895 (by decide +kernel)
theorem mw_578 : Cond.methodLink RL 45 yX5_literal ∈ GW := gw_of (List.mem_of_getElem? (i := 578) (by decide +kernel)) rfl
theorem mw_579 : Cond.instanceMethod yX5_literal ∈ GW := gw_of (List.mem_of_getElem? (i := 579) (by decide +kernel)) rfl
theorem mw_580 : Cond.selects RX5 yX5_literal yX5_literal ∈ GW := gw_of (List.mem_of_getElem? (i := 580) (by decide +kernel)) rfl
set_option maxRecDepth 100000 in
theorem mw_581 : Cond.code yX5_literal cX5_literal 2 (some .int) ∈ GW := gw_of (List.mem_of_getElem? (i := 581) rfl) rfl
theorem cs_L_45 : CWV RL 45 RX5 yX5_literal cX5_literal 2 (some .int) 1 := cwv mw_578 mw_579 mw_580 mw_55 mw_581 (by decide +kernel)
theorem mw_896 : Cond.methodLink RL 48 yX6_literal ∈ GW := gw_of (List.mem_of_getElem? (i := 896) (by decide +kernel)) rfl
theorem mw_897 : Cond.instanceMethod yX6_literal ∈ GW := gw_of (List.mem_of_getElem? (i := 897) (by decide +kernel)) rfl
theorem mw_898 : Cond.selects RX6 yX6_literal yX6_literal ∈ GW := gw_of (List.mem_of_getElem? (i := 898) (by decide +kernel)) rfl
set_option maxRecDepth 100000 in
theorem mw_899 : Cond.code yX6_literal cX6_literal 2 (some .int) ∈ GW := gw_of (List.mem_of_getElem? (i := 899) rfl) rfl
theorem cs_L_48 : CWV RL 48 RX6 yX6_literal cX6_literal 2 (some .int) 1 := cwv mw_896 mw_897 mw_898 mw_61 mw_899 (by decide +kernel)
theorem mw_586 : Cond.methodLink RL 49 yX5_number ∈ GW := gw_of (List.mem_of_getElem? (i := 586) (by decide +kernel)) rfl
theorem mw_587 : Cond.instanceMethod yX5_number ∈ GW := gw_of (List.mem_of_getElem? (i := 587) (by decide +kernel)) rfl
theorem mw_588 : Cond.selects RX5 yX5_number yX5_number ∈ GW := gw_of (List.mem_of_getElem? (i := 588) (by decide +kernel)) rfl
set_option maxRecDepth 100000 in
theorem mw_589 : Cond.code yX5_number cX5_number 2 (some .long) ∈ GW := gw_of (List.mem_of_getElem? (i := 589) rfl) rfl
theorem cs_L_49 : CWV RL 49 RX5 yX5_number cX5_number 2 (some .long) 1 := cwv mw_586 mw_587 mw_588 mw_55 mw_589 (by decide +kernel)
theorem mw_900 : Cond.methodLink RL 53 yX6_number ∈ GW := gw_of (List.mem_of_getElem? (i := 900) (by decide +kernel)) rfl
theorem mw_901 : Cond.instanceMethod yX6_number ∈ GW := gw_of (List.mem_of_getElem? (i := 901) (by decide +kernel)) rfl
theorem mw_902 : Cond.selects RX6 yX6_number yX6_number ∈ GW := gw_of (List.mem_of_getElem? (i := 902) (by decide +kernel)) rfl
set_option maxRecDepth 100000 in
theorem mw_903 : Cond.code yX6_number cX6_number 2 (some .long) ∈ GW := gw_of (List.mem_of_getElem? (i := 903) rfl) rfl
theorem cs_L_53 : CWV RL 53 RX6 yX6_number cX6_number 2 (some .long) 1 := cwv mw_900 mw_901 mw_902 mw_61 mw_903 (by decide +kernel)
theorem mw_590 : Cond.methodLink RL 54 yX5_length ∈ GW := gw_of (List.mem_of_getElem? (i := 590) (by decide +kernel)) rfl
theorem mw_591 : Cond.instanceMethod yX5_length ∈ GW := gw_of (List.mem_of_getElem? (i := 591) (by decide +kernel)) rfl
theorem mw_592 : Cond.selects RX5 yX5_length yX5_length ∈ GW := gw_of (List.mem_of_getElem? (i := 592) (by decide +kernel)) rfl
set_option maxRecDepth 100000 in
theorem mw_593 : Cond.code yX5_length cX5_length 2 (some .int) ∈ GW := gw_of (List.mem_of_getElem? (i := 593) rfl) rfl
theorem cs_L_54 : CWV RL 54 RX5 yX5_length cX5_length 2 (some .int) 1 := cwv mw_590 mw_591 mw_592 mw_55 mw_593 (by decide +kernel)
theorem mw_904 : Cond.methodLink RL 57 yX6_length ∈ GW := gw_of (List.mem_of_getElem? (i := 904) (by decide +kernel)) rfl
theorem mw_905 : Cond.instanceMethod yX6_length ∈ GW := gw_of (List.mem_of_getElem? (i := 905) (by decide +kernel)) rfl
theorem mw_906 : Cond.selects RX6 yX6_length yX6_length ∈ GW := gw_of (List.mem_of_getElem? (i := 906) (by decide +kernel)) rfl
set_option maxRecDepth 100000 in
theorem mw_907 : Cond.code yX6_length cX6_length 2 (some .int) ∈ GW := gw_of (List.mem_of_getElem? (i := 907) rfl) rfl
theorem cs_L_57 : CWV RL 57 RX6 yX6_length cX6_length 2 (some .int) 1 := cwv mw_904 mw_905 mw_906 mw_61 mw_907 (by decide +kernel)
theorem mw_598 : Cond.methodLink RL 58 yX5_byteOf ∈ GW := gw_of (List.mem_of_getElem? (i := 598) (by decide +kernel)) rfl
theorem mw_599 : Cond.instanceMethod yX5_byteOf ∈ GW := gw_of (List.mem_of_getElem? (i := 599) (by decide +kernel)) rfl
theorem mw_600 : Cond.selects RX5 yX5_byteOf yX5_byteOf ∈ GW := gw_of (List.mem_of_getElem? (i := 600) (by decide +kernel)) rfl
set_option maxRecDepth 100000 in
theorem mw_601 : Cond.code yX5_byteOf cX5_byteOf 3 (some .int) ∈ GW := gw_of (List.mem_of_getElem? (i := 601) rfl) rfl
theorem cs_L_58 : CWV RL 58 RX5 yX5_byteOf cX5_byteOf 3 (some .int) 2 := cwv mw_598 mw_599 mw_600 mw_55 mw_601 (by decide +kernel)
theorem mw_912 : Cond.methodLink RL 61 yX6_byteOf ∈ GW := gw_of (List.mem_of_getElem? (i := 912) (by decide +kernel)) rfl
theorem mw_913 : Cond.instanceMethod yX6_byteOf ∈ GW := gw_of (List.mem_of_getElem? (i := 913) (by decide +kernel)) rfl
theorem mw_914 : Cond.selects RX6 yX6_byteOf yX6_byteOf ∈ GW := gw_of (List.mem_of_getElem? (i := 914) (by decide +kernel)) rfl
set_option maxRecDepth 100000 in
theorem mw_915 : Cond.code yX6_byteOf cX6_byteOf 3 (some .int) ∈ GW := gw_of (List.mem_of_getElem? (i := 915) rfl) rfl
theorem cs_L_61 : CWV RL 61 RX6 yX6_byteOf cX6_byteOf 3 (some .int) 2 := cwv mw_912 mw_913 mw_914 mw_61 mw_915 (by decide +kernel)
theorem mw_68 : Cond.instantiable RX5 4 ∈ GW := gw_of (List.mem_of_getElem? (i := 68) (by decide +kernel)) rfl
theorem mw_603 : Cond.instantiable RX6 35 ∈ GW := gw_of (List.mem_of_getElem? (i := 603) (by decide +kernel)) rfl
theorem mw_67 : Cond.classLink RL 7 RX5 ∈ GW := gw_of (List.mem_of_getElem? (i := 67) (by decide +kernel)) rfl
theorem mw_69 : Cond.methodLink RL 9 yX5_init ∈ GW := gw_of (List.mem_of_getElem? (i := 69) (by decide +kernel)) rfl
theorem mw_70 : Cond.instanceMethod yX5_init ∈ GW := gw_of (List.mem_of_getElem? (i := 70) (by decide +kernel)) rfl
set_option maxRecDepth 100000 in
theorem mw_71 : Cond.code yX5_init cX5_init 1 none ∈ GW := gw_of (List.mem_of_getElem? (i := 71) rfl) rfl
theorem mw_602 : Cond.classLink RL 10 RX6 ∈ GW := gw_of (List.mem_of_getElem? (i := 602) (by decide +kernel)) rfl
theorem mw_604 : Cond.methodLink RL 12 yX6_init ∈ GW := gw_of (List.mem_of_getElem? (i := 604) (by decide +kernel)) rfl
theorem mw_605 : Cond.instanceMethod yX6_init ∈ GW := gw_of (List.mem_of_getElem? (i := 605) (by decide +kernel)) rfl
set_option maxRecDepth 100000 in
theorem mw_606 : Cond.code yX6_init cX6_init 1 none ∈ GW := gw_of (List.mem_of_getElem? (i := 606) rfl) rfl
theorem map_left {α : Type} (w v : List α) : (List.range w.length).map (fun i => (w ++ v)[i]?) = w.map some := by
  apply List.ext_getElem
  · simp
  · intro i h1 h2
    simp at h1 h2
    simp [List.getElem?_append_left h1, h1]
theorem map_right {α : Type} (v w : List α) : (List.range' v.length w.length).map (fun i => (v ++ w)[i]?) = w.map some := by
  apply List.ext_getElem
  · simp
  · intro i h1 h2
    simp at h1 h2
    simp [h1]
theorem nd_app {a b : List Nat} (ha : va_nd a = true) (hb : va_nd b = true) (h : ∀ i ∈ a, i ∉ b) : va_nd (a ++ b) = true := by
  induction a with
  | nil => exact hb
  | cons x a ih =>
    rw [va_nd, Bool.and_eq_true, decide_eq_true_eq] at ha
    rw [List.cons_append, va_nd, Bool.and_eq_true, decide_eq_true_eq]
    refine ⟨fun hm => ?_, ih ha.2 (fun i hi => h i (List.mem_cons_of_mem _ hi))⟩
    rcases List.mem_append.mp hm with hm | hm
    · exact ha.1 hm
    · exact h x List.mem_cons_self hm
theorem Jn.left (wa wb w1 : va_W) : Jn (wa ++ wb) wa w1 (w1 ++ wb) := by
  refine ⟨List.range wa.length, List.range' wa.length wb.length, List.range' wb.length w1.length ++ List.range wb.length, map_left wa wb, nd_range _, ?_, nd_range' _ _, fun i hi hc => ?_, ?_, nd_app (nd_range' _ _) (nd_range _) (fun i hi hc => ?_)⟩
  · rw [fm_of (map_right wa wb)]; exact map_right wa wb
  · rw [List.mem_range'_1] at hi; rw [List.mem_range] at hc; omega
  · rw [fm_of (map_right wa wb), List.map_append, map_right wb w1, map_left wb w1, List.map_append]
  · rw [List.mem_range'_1] at hi; rw [List.mem_range] at hc; omega
theorem Jn.right (wa wb w1 : va_W) : Jn (wa ++ wb) wb w1 (wa ++ w1) := by
  refine ⟨List.range' wa.length wb.length, List.range wa.length, List.range (wa ++ w1).length, map_right wa wb, nd_range' _ _, ?_, nd_range _, fun i hi hc => ?_, ?_, nd_range _⟩
  · rw [fm_of (map_left wa wb)]; exact map_left wa wb
  · rw [List.mem_range'_1] at hc; rw [List.mem_range] at hi; omega
  · rw [fm_of (map_left wa wb)]; exact map_range (wa ++ w1)
theorem lg_cmp_self (r : Int64) : lg_cmp r r = 0 := by
  unfold lg_cmp
  rw [if_neg (by simp), if_pos rfl]
theorem law_lt {i L : Nat} (hi : i < 2 ^ 30) (hL : L < 2 ^ 30) (h : ¬ (Int32.ofNat L - 6 < nI i)) : i + 6 ≤ L := by
  have h1 := pk_sub_toInt (a := L) (b := 6) hL (by decide)
  have h2 := nI_toInt (n := i) (by omega)
  have h3 : ¬ (nI L - nI 6).toInt < (nI i).toInt := fun z => h (Int32.lt_iff_toInt_lt.mpr z)
  rw [h1, h2] at h3
  omega
set_option maxHeartbeats 16000000 in
set_option maxRecDepth 100000 in
theorem law_loop {p : Program} {l : Launch} {e : Env} {s : State} {m : MethodId} {below : List Frame} {meth : Method} {c : Code} {E : EnvT} {b L : Nat} {xs : Nat → Int32} (hL : L ≤ 3072) (C : MC p s m #[Value.ref b] meth c E (fun q => s.heap.size ≤ q) cL_law 4 RL ret) (hX : va_X b L xs s s.heap) (hbl : b < s.heap.size) (a_qt : Nat → Nat) (a_tp : Nat → Nat) (a_sh : Nat → Nat) (a_pa : Nat → Nat) (a_sc : Nat → Nat) (a_dr : Nat → Nat) (a_pl : Nat → Nat) (a_mo : Nat → Nat) :
    ∀ (n i : Nat) (x3 : Int32) (tp_bytes : Nat → Int32) (tp_size : Int32) (sh_names : Nat → Int32) (sh_nameLengths : Nat → Int32) (sh_groups : Nat → Int32) (sh_types : Nat → Int32) (sh_flat : Nat → Int32) (sh_size : Int32) (pa_itemPlaces : Nat → Int32) (pa_waitingSigns : Nat → Int32) (pa_waitingPlaces : Nat → Int32) (pa_waiting : Int32) (pa_nested : Int32) (pa_fault : Int32) (sc_token : Int32) (sc_start : Int32) (sc_end : Int32) (sc_numberRead : Int64) (sc_escaped : Int32) (sc_bytesBehind : Int32) (dr_items : Nat → Int32) (dr_behindBy : Nat → Int32) (dr_steps : Nat → Int32) (dr_literalTypes : Nat → Int32) (dr_numbers : Nat → Int64) (dr_textStarts : Nat → Int32) (dr_textLengths : Nat → Int32) (dr_textBytes : Nat → Int32) (dr_itemCount : Int32) (dr_byCount : Int32) (dr_stepCount : Int32) (dr_literalCount : Int32) (dr_textEnd : Int32) (pl_items : Nat → Int32) (pl_behindBy : Nat → Int32) (pl_steps : Nat → Int32) (pl_literalTypes : Nat → Int32) (pl_numbers : Nat → Int64) (pl_textStarts : Nat → Int32) (pl_textLengths : Nat → Int32) (pl_textBytes : Nat → Int32) (pl_itemCount : Int32) (pl_byCount : Int32) (pl_stepCount : Int32) (pl_literalCount : Int32) (pl_textEnd : Int32) (mo_code : Int32) (mo_tape : Nat → Int32) (mo_text : Nat → Int32) (mo_taped : Int32) (mo_size : Int32) (mo_at : Int32) (mo_ill : Int32) (mo_in : Nat → Int32) (mo_kind : Nat → Int32) (mo_type : Nat → Int32) (mo_long1 : Nat → Int32) (mo_letters : Nat → Int32) (mo_fields : Int32) (mo_kept : Int32) (mo_now : Int32) (mo_many : Nat → Int32) (mo_itemKind : Nat → Int32) (mo_itemField : Nat → Int32) (mo_itemPlace : Nat → Int32) (mo_by : Nat → Int32) (mo_stepKind : Nat → Int32) (mo_stepField : Nat → Int32) (mo_stepOperator : Nat → Int32) (mo_stepOther : Nat → Int32) (mo_stepMany : Nat → Int32) (mo_literalType : Nat → Int32) (mo_literalFrom : Nat → Int32) (mo_literalSize : Nat → Int32) (mo_bytes : Nat → Int32) (mo_said : Nat → Int32) (mo_number : Nat → Int64) (mo_pile : Nat → Int32) (mo_pilePlace : Nat → Int32) (mo_top : Int32) (mo_open : Int32), i ≤ L → L + 1 ≤ i + n → x3 = nI i → INV tp_bytes tp_size sh_names sh_nameLengths sh_groups sh_types sh_flat sh_size pl_items pl_behindBy pl_steps pl_literalTypes pl_numbers pl_textStarts pl_textLengths pl_textBytes pl_itemCount pl_byCount pl_stepCount pl_literalCount pl_textEnd mo_tape mo_taped mo_in mo_kind mo_type mo_long1 mo_letters mo_fields mo_kept mo_many mo_itemKind mo_itemField mo_by mo_stepKind mo_stepField mo_stepOperator mo_stepOther mo_stepMany mo_literalType mo_literalFrom mo_literalSize mo_bytes mo_number → ∀ (H : Heap) (locs : List Loc) (ls : Array Slot), WS E (fun q => s.heap.size ≤ q) s (w_qt_tp_sh_pa_sc_dr_pl E a_qt a_tp a_sh a_pa a_sc a_dr a_pl tp_bytes tp_size sh_names sh_nameLengths sh_groups sh_types sh_flat sh_size pa_itemPlaces pa_waitingSigns pa_waitingPlaces pa_waiting pa_nested pa_fault sc_token sc_start sc_end sc_numberRead sc_escaped sc_bytesBehind dr_items dr_behindBy dr_steps dr_literalTypes dr_numbers dr_textStarts dr_textLengths dr_textBytes dr_itemCount dr_byCount dr_stepCount dr_literalCount dr_textEnd pl_items pl_behindBy pl_steps pl_literalTypes pl_numbers pl_textStarts pl_textLengths pl_textBytes pl_itemCount pl_byCount pl_stepCount pl_literalCount pl_textEnd ++ w_mo E a_mo mo_code mo_tape mo_text mo_taped mo_size mo_at mo_ill mo_in mo_kind mo_type mo_long1 mo_letters mo_fields mo_kept mo_now mo_many mo_itemKind mo_itemField mo_itemPlace mo_by mo_stepKind mo_stepField mo_stepOperator mo_stepOther mo_stepMany mo_literalType mo_literalFrom mo_literalSize mo_bytes mo_said mo_number mo_pile mo_pilePlace mo_top mo_open) H locs → lv_has ls 4 [(0, .ref b), (1, .ref (a_qt 0)), (2, .ref (a_mo 0)), (3, .int x3)] → W p l e room_1 s m #[Value.ref b] below meth c H locs 58 19608 (lw_Z below #[Value.ref b] s) (F0 m 18 ls []) := by
  have hx := C.1
  have hb := C.2.1
  have hbA : ¬ (fun q : Nat => s.heap.size ≤ q) b := Nat.not_le.mpr hbl
  intro n
  induction n with
  | zero =>
    intro i x3 tp_bytes tp_size sh_names sh_nameLengths sh_groups sh_types sh_flat sh_size pa_itemPlaces pa_waitingSigns pa_waitingPlaces pa_waiting pa_nested pa_fault sc_token sc_start sc_end sc_numberRead sc_escaped sc_bytesBehind dr_items dr_behindBy dr_steps dr_literalTypes dr_numbers dr_textStarts dr_textLengths dr_textBytes dr_itemCount dr_byCount dr_stepCount dr_literalCount dr_textEnd pl_items pl_behindBy pl_steps pl_literalTypes pl_numbers pl_textStarts pl_textLengths pl_textBytes pl_itemCount pl_byCount pl_stepCount pl_literalCount pl_textEnd mo_code mo_tape mo_text mo_taped mo_size mo_at mo_ill mo_in mo_kind mo_type mo_long1 mo_letters mo_fields mo_kept mo_now mo_many mo_itemKind mo_itemField mo_itemPlace mo_by mo_stepKind mo_stepField mo_stepOperator mo_stepOther mo_stepMany mo_literalType mo_literalFrom mo_literalSize mo_bytes mo_said mo_number mo_pile mo_pilePlace mo_top mo_open h1 h2
    exact absurd h2 (by omega)
  | succ n ih =>
    intro i x3 tp_bytes tp_size sh_names sh_nameLengths sh_groups sh_types sh_flat sh_size pa_itemPlaces pa_waitingSigns pa_waitingPlaces pa_waiting pa_nested pa_fault sc_token sc_start sc_end sc_numberRead sc_escaped sc_bytesBehind dr_items dr_behindBy dr_steps dr_literalTypes dr_numbers dr_textStarts dr_textLengths dr_textBytes dr_itemCount dr_byCount dr_stepCount dr_literalCount dr_textEnd pl_items pl_behindBy pl_steps pl_literalTypes pl_numbers pl_textStarts pl_textLengths pl_textBytes pl_itemCount pl_byCount pl_stepCount pl_literalCount pl_textEnd mo_code mo_tape mo_text mo_taped mo_size mo_at mo_ill mo_in mo_kind mo_type mo_long1 mo_letters mo_fields mo_kept mo_now mo_many mo_itemKind mo_itemField mo_itemPlace mo_by mo_stepKind mo_stepField mo_stepOperator mo_stepOther mo_stepMany mo_literalType mo_literalFrom mo_literalSize mo_bytes mo_said mo_number mo_pile mo_pilePlace mo_top mo_open hi hn ex3 hI H locs ls hw hl
    refine lv_iload_n hx hb dL_law_18 rfl (lv_at hl 3 rfl) ?_
    refine lv_aload_n hx hb dL_law_19 rfl (lv_at hl 0 rfl) ?_
    refine va_slen hx hb hX hbl hbA hw.2.2 dL_law_20 ?_
    refine lv_bipush (v := 6) hx hb dL_law_21 (by decide) ?_
    refine lv_isub hx hb dL_law_23 ?_
    refine lv_icmp_gt (tgt := 452) hx hb dL_law_24 (by decide) (fun c24 => ?_) (fun c24 => ?_)
    · refine lv_iconst (v := 1) hx hb dL_law_452 (by decide) ?_
      refine va_forget (fun q hq => hw.2.2.2.2 q hq) ?_
      exact lw_ret hx hb C.2.2.2.2.2.1 C.2.2.2.2.2.2.1 dL_law_453
    have hi6 : i + 6 ≤ L := by rw [ex3] at c24; exact law_lt (by omega) (by omega) c24
    have hg : ∀ k : Nat, k < 6 → vp_in (x3 + nI k) L := fun k hk => by rw [ex3, nI_add]; exact vp_in_nI (by omega) (by omega)
    have g0 : vp_in x3 L := by rw [ex3]; exact vp_in_nI (by omega) (by omega)
    have g1 : vp_in (x3 + 1) L := hg 1 (by decide)
    have g2 : vp_in (x3 + 2) L := hg 2 (by decide)
    have g3 : vp_in (x3 + 3) L := hg 3 (by decide)
    have g4 : vp_in (x3 + 4) L := hg 4 (by decide)
    have g5 : vp_in (x3 + 5) L := hg 5 (by decide)
    refine lv_aload_n hx hb dL_law_27 rfl (lv_at hl 0 rfl) ?_
    refine lv_iload_n hx hb dL_law_28 rfl (lv_at hl 3 rfl) ?_
    refine va_sld hx hb hX hbl hbA hw.2.2 g0 dL_law_29 ?_
    refine lv_bipush (v := 15) hx hb dL_law_30 (by decide) ?_
    refine lv_iand hx hb dL_law_32 ?_
    generalize (xs x3.toNatClampNeg &&& 15) = sw
    by_cases k_0 : sw = (0 : Int32)
    · refine lv_tab (off := 59) (tgt := 92) hx hb dL_law_33 (by rw [k_0]; rfl) (by decide) ?_
      obtain ⟨r, b_tp_bytes, b_tp_size, hC, b_mo_code, b_mo_tape, b_mo_taped, hM, hI2⟩ := S_feed (xs (x3 + 1).toNatClampNeg) (xs (x3 + 2).toNatClampNeg) (xs (x3 + 3).toNatClampNeg) (xs (x3 + 4).toNatClampNeg) (xs (x3 + 5).toNatClampNeg) tp_bytes tp_size sh_names sh_nameLengths sh_groups sh_types sh_flat sh_size pl_items pl_behindBy pl_steps pl_literalTypes pl_numbers pl_textStarts pl_textLengths pl_textBytes pl_itemCount pl_byCount pl_stepCount pl_literalCount pl_textEnd mo_code mo_tape mo_taped mo_in mo_kind mo_type mo_long1 mo_letters mo_fields mo_kept mo_many mo_itemKind mo_itemField mo_by mo_stepKind mo_stepField mo_stepOperator mo_stepOther mo_stepMany mo_literalType mo_literalFrom mo_literalSize mo_bytes mo_number hI
      refine lv_aload_n hx hb dL_law_92 rfl (lv_at hl 1 rfl) ?_
      refine lv_aload_n hx hb dL_law_93 rfl (lv_at hl 0 rfl) ?_
      refine lv_iload_n hx hb dL_law_94 rfl (lv_at hl 3 rfl) ?_
      refine lv_iconst (v := 1) hx hb dL_law_95 (by decide) ?_
      refine lv_iadd hx hb dL_law_96 ?_
      refine va_sld hx hb hX hbl hbA hw.2.2 g1 dL_law_97 ?_
      refine lv_aload_n hx hb dL_law_98 rfl (lv_at hl 0 rfl) ?_
      refine lv_iload_n hx hb dL_law_99 rfl (lv_at hl 3 rfl) ?_
      refine lv_iconst (v := 2) hx hb dL_law_100 (by decide) ?_
      refine lv_iadd hx hb dL_law_101 ?_
      refine va_sld hx hb hX hbl hbA hw.2.2 g2 dL_law_102 ?_
      refine lv_aload_n hx hb dL_law_103 rfl (lv_at hl 0 rfl) ?_
      refine lv_iload_n hx hb dL_law_104 rfl (lv_at hl 3 rfl) ?_
      refine lv_iconst (v := 3) hx hb dL_law_105 (by decide) ?_
      refine lv_iadd hx hb dL_law_106 ?_
      refine va_sld hx hb hX hbl hbA hw.2.2 g3 dL_law_107 ?_
      refine lv_aload_n hx hb dL_law_108 rfl (lv_at hl 0 rfl) ?_
      refine lv_iload_n hx hb dL_law_109 rfl (lv_at hl 3 rfl) ?_
      refine lv_iconst (v := 4) hx hb dL_law_110 (by decide) ?_
      refine lv_iadd hx hb dL_law_111 ?_
      refine va_sld hx hb hX hbl hbA hw.2.2 g4 dL_law_112 ?_
      refine lv_aload_n hx hb dL_law_113 rfl (lv_at hl 0 rfl) ?_
      refine lv_iload_n hx hb dL_law_114 rfl (lv_at hl 3 rfl) ?_
      refine lv_iconst (v := 5) hx hb dL_law_115 (by decide) ?_
      refine lv_iadd hx hb dL_law_116 ?_
      refine va_sld hx hb hX hbl hbA hw.2.2 g5 dL_law_117 ?_
      refine cI_V C hw (c_X5_feed l E a_qt a_tp a_sh a_pa a_sc a_dr a_pl tp_bytes tp_size sh_names sh_nameLengths sh_groups sh_types sh_flat sh_size pa_itemPlaces pa_waitingSigns pa_waitingPlaces pa_waiting pa_nested pa_fault sc_token sc_start sc_end sc_numberRead sc_escaped sc_bytesBehind dr_items dr_behindBy dr_steps dr_literalTypes dr_numbers dr_textStarts dr_textLengths dr_textBytes dr_itemCount dr_byCount dr_stepCount dr_literalCount dr_textEnd pl_items pl_behindBy pl_steps pl_literalTypes pl_numbers pl_textStarts pl_textLengths pl_textBytes pl_itemCount pl_byCount pl_stepCount pl_literalCount pl_textEnd (xs (x3 + 1).toNatClampNeg) (xs (x3 + 2).toNatClampNeg) (xs (x3 + 3).toNatClampNeg) (xs (x3 + 4).toNatClampNeg) (xs (x3 + 5).toNatClampNeg) r b_tp_bytes b_tp_size hC) cs_L_13 ⟨Nat.le_of_ble_eq_true rfl, Nat.le_of_ble_eq_true rfl⟩ ⟨rfl, rfl⟩ (ci := 5) (cn := (RX5, TX5, 4)) rfl (q0 := 0) rfl (wn := w_qt_tp_sh_pa_sc_dr_pl E a_qt a_tp a_sh a_pa a_sc a_dr a_pl b_tp_bytes b_tp_size sh_names sh_nameLengths sh_groups sh_types sh_flat sh_size pa_itemPlaces pa_waitingSigns pa_waitingPlaces pa_waiting pa_nested pa_fault sc_token sc_start sc_end sc_numberRead sc_escaped sc_bytesBehind dr_items dr_behindBy dr_steps dr_literalTypes dr_numbers dr_textStarts dr_textLengths dr_textBytes dr_itemCount dr_byCount dr_stepCount dr_literalCount dr_textEnd pl_items pl_behindBy pl_steps pl_literalTypes pl_numbers pl_textStarts pl_textLengths pl_textBytes pl_itemCount pl_byCount pl_stepCount pl_literalCount pl_textEnd ++ w_mo E a_mo mo_code mo_tape mo_text mo_taped mo_size mo_at mo_ill mo_in mo_kind mo_type mo_long1 mo_letters mo_fields mo_kept mo_now mo_many mo_itemKind mo_itemField mo_itemPlace mo_by mo_stepKind mo_stepField mo_stepOperator mo_stepOther mo_stepMany mo_literalType mo_literalFrom mo_literalSize mo_bytes mo_said mo_number mo_pile mo_pilePlace mo_top mo_open) (Jn.left _ _ _) rfl hl.1 rfl (Nat.le_of_ble_eq_true rfl) dL_law_118 ⟨Nat.le_of_ble_eq_true rfl, Nat.le_of_ble_eq_true rfl⟩ (fun H locs hw => ?_)
      refine lv_aload_n hx hb dL_law_121 rfl (lv_at hl 2 rfl) ?_
      refine lv_aload_n hx hb dL_law_122 rfl (lv_at hl 0 rfl) ?_
      refine lv_iload_n hx hb dL_law_123 rfl (lv_at hl 3 rfl) ?_
      refine lv_iconst (v := 1) hx hb dL_law_124 (by decide) ?_
      refine lv_iadd hx hb dL_law_125 ?_
      refine va_sld hx hb hX hbl hbA hw.2.2 g1 dL_law_126 ?_
      refine lv_aload_n hx hb dL_law_127 rfl (lv_at hl 0 rfl) ?_
      refine lv_iload_n hx hb dL_law_128 rfl (lv_at hl 3 rfl) ?_
      refine lv_iconst (v := 2) hx hb dL_law_129 (by decide) ?_
      refine lv_iadd hx hb dL_law_130 ?_
      refine va_sld hx hb hX hbl hbA hw.2.2 g2 dL_law_131 ?_
      refine lv_aload_n hx hb dL_law_132 rfl (lv_at hl 0 rfl) ?_
      refine lv_iload_n hx hb dL_law_133 rfl (lv_at hl 3 rfl) ?_
      refine lv_iconst (v := 3) hx hb dL_law_134 (by decide) ?_
      refine lv_iadd hx hb dL_law_135 ?_
      refine va_sld hx hb hX hbl hbA hw.2.2 g3 dL_law_136 ?_
      refine lv_aload_n hx hb dL_law_137 rfl (lv_at hl 0 rfl) ?_
      refine lv_iload_n hx hb dL_law_138 rfl (lv_at hl 3 rfl) ?_
      refine lv_iconst (v := 4) hx hb dL_law_139 (by decide) ?_
      refine lv_iadd hx hb dL_law_140 ?_
      refine va_sld hx hb hX hbl hbA hw.2.2 g4 dL_law_141 ?_
      refine lv_aload_n hx hb dL_law_142 rfl (lv_at hl 0 rfl) ?_
      refine lv_iload_n hx hb dL_law_143 rfl (lv_at hl 3 rfl) ?_
      refine lv_iconst (v := 5) hx hb dL_law_144 (by decide) ?_
      refine lv_iadd hx hb dL_law_145 ?_
      refine va_sld hx hb hX hbl hbA hw.2.2 g5 dL_law_146 ?_
      refine cI_V C hw (c_X6_feed l E a_mo mo_code mo_tape mo_text mo_taped mo_size mo_at mo_ill mo_in mo_kind mo_type mo_long1 mo_letters mo_fields mo_kept mo_now mo_many mo_itemKind mo_itemField mo_itemPlace mo_by mo_stepKind mo_stepField mo_stepOperator mo_stepOther mo_stepMany mo_literalType mo_literalFrom mo_literalSize mo_bytes mo_said mo_number mo_pile mo_pilePlace mo_top mo_open (xs (x3 + 1).toNatClampNeg) (xs (x3 + 2).toNatClampNeg) (xs (x3 + 3).toNatClampNeg) (xs (x3 + 4).toNatClampNeg) (xs (x3 + 5).toNatClampNeg) r b_mo_code b_mo_tape b_mo_taped hM) cs_L_17 ⟨Nat.le_of_ble_eq_true rfl, Nat.le_of_ble_eq_true rfl⟩ ⟨rfl, rfl⟩ (ci := 6) (cn := (RX6, TX6, 35)) rfl (q0 := 32) rfl (wn := w_qt_tp_sh_pa_sc_dr_pl E a_qt a_tp a_sh a_pa a_sc a_dr a_pl b_tp_bytes b_tp_size sh_names sh_nameLengths sh_groups sh_types sh_flat sh_size pa_itemPlaces pa_waitingSigns pa_waitingPlaces pa_waiting pa_nested pa_fault sc_token sc_start sc_end sc_numberRead sc_escaped sc_bytesBehind dr_items dr_behindBy dr_steps dr_literalTypes dr_numbers dr_textStarts dr_textLengths dr_textBytes dr_itemCount dr_byCount dr_stepCount dr_literalCount dr_textEnd pl_items pl_behindBy pl_steps pl_literalTypes pl_numbers pl_textStarts pl_textLengths pl_textBytes pl_itemCount pl_byCount pl_stepCount pl_literalCount pl_textEnd ++ w_mo E a_mo b_mo_code b_mo_tape mo_text b_mo_taped mo_size mo_at mo_ill mo_in mo_kind mo_type mo_long1 mo_letters mo_fields mo_kept mo_now mo_many mo_itemKind mo_itemField mo_itemPlace mo_by mo_stepKind mo_stepField mo_stepOperator mo_stepOther mo_stepMany mo_literalType mo_literalFrom mo_literalSize mo_bytes mo_said mo_number mo_pile mo_pilePlace mo_top mo_open) (Jn.right _ _ _) rfl hl.1 rfl (Nat.le_of_ble_eq_true rfl) dL_law_147 ⟨Nat.le_of_ble_eq_true rfl, Nat.le_of_ble_eq_true rfl⟩ (fun H locs hw => ?_)
      refine lv_icmp_eq (tgt := 446) hx hb dL_law_150 (by decide) (fun _ => ?_) (fun z => absurd rfl z)
      obtain ⟨x4, ex4⟩ : ∃ y : Int32, y = x3 + 6 := ⟨_, rfl⟩
      refine lv_iinc (v := x4) (lv' := [(3, .int x4), (0, .ref b), (1, .ref (a_qt 0)), (2, .ref (a_mo 0))]) hx hb dL_law_446 hl (k := 3) rfl (by rw [ex4]; rfl) (by decide) rfl (fun ls hl => ?_)
      refine lv_goto (tgt := 18) hx hb dL_law_449 (by decide) ?_
      exact ih (i + 6) x4 b_tp_bytes b_tp_size sh_names sh_nameLengths sh_groups sh_types sh_flat sh_size pa_itemPlaces pa_waitingSigns pa_waitingPlaces pa_waiting pa_nested pa_fault sc_token sc_start sc_end sc_numberRead sc_escaped sc_bytesBehind dr_items dr_behindBy dr_steps dr_literalTypes dr_numbers dr_textStarts dr_textLengths dr_textBytes dr_itemCount dr_byCount dr_stepCount dr_literalCount dr_textEnd pl_items pl_behindBy pl_steps pl_literalTypes pl_numbers pl_textStarts pl_textLengths pl_textBytes pl_itemCount pl_byCount pl_stepCount pl_literalCount pl_textEnd b_mo_code b_mo_tape mo_text b_mo_taped mo_size mo_at mo_ill mo_in mo_kind mo_type mo_long1 mo_letters mo_fields mo_kept mo_now mo_many mo_itemKind mo_itemField mo_itemPlace mo_by mo_stepKind mo_stepField mo_stepOperator mo_stepOther mo_stepMany mo_literalType mo_literalFrom mo_literalSize mo_bytes mo_said mo_number mo_pile mo_pilePlace mo_top mo_open hi6 (by omega) (by rw [ex4, ex3]; exact nI_add i 6) hI2 _ _ _ hw (lv_sub hl [1, 2, 3, 0] rfl)
    by_cases k_1 : sw = (1 : Int32)
    · refine lv_tab (off := 122) (tgt := 155) hx hb dL_law_33 (by rw [k_1]; rfl) (by decide) ?_
      obtain ⟨r, b_tp_size, b_sh_names, b_sh_nameLengths, b_sh_groups, b_sh_types, b_sh_flat, b_sh_size, b_pl_itemCount, b_pl_byCount, b_pl_stepCount, b_pl_literalCount, b_pl_textEnd, hC, b_mo_code, b_mo_text, b_mo_taped, b_mo_size, b_mo_at, b_mo_ill, b_mo_in, b_mo_kind, b_mo_type, b_mo_long1, b_mo_letters, b_mo_fields, b_mo_kept, hM, hI2⟩ := S_field (xs (x3 + 1).toNatClampNeg) (xs (x3 + 2).toNatClampNeg) (xs (x3 + 3).toNatClampNeg) (xs (x3 + 4).toNatClampNeg) tp_bytes tp_size sh_names sh_nameLengths sh_groups sh_types sh_flat sh_size pl_items pl_behindBy pl_steps pl_literalTypes pl_numbers pl_textStarts pl_textLengths pl_textBytes pl_itemCount pl_byCount pl_stepCount pl_literalCount pl_textEnd mo_code mo_tape mo_text mo_taped mo_size mo_at mo_ill mo_in mo_kind mo_type mo_long1 mo_letters mo_fields mo_kept mo_many mo_itemKind mo_itemField mo_by mo_stepKind mo_stepField mo_stepOperator mo_stepOther mo_stepMany mo_literalType mo_literalFrom mo_literalSize mo_bytes mo_number hI
      refine lv_aload_n hx hb dL_law_155 rfl (lv_at hl 1 rfl) ?_
      refine lv_aload_n hx hb dL_law_156 rfl (lv_at hl 0 rfl) ?_
      refine lv_iload_n hx hb dL_law_157 rfl (lv_at hl 3 rfl) ?_
      refine lv_iconst (v := 1) hx hb dL_law_158 (by decide) ?_
      refine lv_iadd hx hb dL_law_159 ?_
      refine va_sld hx hb hX hbl hbA hw.2.2 g1 dL_law_160 ?_
      refine lv_aload_n hx hb dL_law_161 rfl (lv_at hl 0 rfl) ?_
      refine lv_iload_n hx hb dL_law_162 rfl (lv_at hl 3 rfl) ?_
      refine lv_iconst (v := 2) hx hb dL_law_163 (by decide) ?_
      refine lv_iadd hx hb dL_law_164 ?_
      refine va_sld hx hb hX hbl hbA hw.2.2 g2 dL_law_165 ?_
      refine lv_aload_n hx hb dL_law_166 rfl (lv_at hl 0 rfl) ?_
      refine lv_iload_n hx hb dL_law_167 rfl (lv_at hl 3 rfl) ?_
      refine lv_iconst (v := 3) hx hb dL_law_168 (by decide) ?_
      refine lv_iadd hx hb dL_law_169 ?_
      refine va_sld hx hb hX hbl hbA hw.2.2 g3 dL_law_170 ?_
      refine lv_aload_n hx hb dL_law_171 rfl (lv_at hl 0 rfl) ?_
      refine lv_iload_n hx hb dL_law_172 rfl (lv_at hl 3 rfl) ?_
      refine lv_iconst (v := 4) hx hb dL_law_173 (by decide) ?_
      refine lv_iadd hx hb dL_law_174 ?_
      refine va_sld hx hb hX hbl hbA hw.2.2 g4 dL_law_175 ?_
      refine cI_V C hw (c_X5_field l E a_qt a_tp a_sh a_pa a_sc a_dr a_pl tp_bytes tp_size sh_names sh_nameLengths sh_groups sh_types sh_flat sh_size pa_itemPlaces pa_waitingSigns pa_waitingPlaces pa_waiting pa_nested pa_fault sc_token sc_start sc_end sc_numberRead sc_escaped sc_bytesBehind dr_items dr_behindBy dr_steps dr_literalTypes dr_numbers dr_textStarts dr_textLengths dr_textBytes dr_itemCount dr_byCount dr_stepCount dr_literalCount dr_textEnd pl_items pl_behindBy pl_steps pl_literalTypes pl_numbers pl_textStarts pl_textLengths pl_textBytes pl_itemCount pl_byCount pl_stepCount pl_literalCount pl_textEnd (xs (x3 + 1).toNatClampNeg) (xs (x3 + 2).toNatClampNeg) (xs (x3 + 3).toNatClampNeg) (xs (x3 + 4).toNatClampNeg) r b_tp_size b_sh_names b_sh_nameLengths b_sh_groups b_sh_types b_sh_flat b_sh_size b_pl_itemCount b_pl_byCount b_pl_stepCount b_pl_literalCount b_pl_textEnd hC) cs_L_18 ⟨Nat.le_of_ble_eq_true rfl, Nat.le_of_ble_eq_true rfl⟩ ⟨rfl, rfl⟩ (ci := 5) (cn := (RX5, TX5, 4)) rfl (q0 := 0) rfl (wn := w_qt_tp_sh_pa_sc_dr_pl E a_qt a_tp a_sh a_pa a_sc a_dr a_pl tp_bytes b_tp_size b_sh_names b_sh_nameLengths b_sh_groups b_sh_types b_sh_flat b_sh_size pa_itemPlaces pa_waitingSigns pa_waitingPlaces pa_waiting pa_nested pa_fault sc_token sc_start sc_end sc_numberRead sc_escaped sc_bytesBehind dr_items dr_behindBy dr_steps dr_literalTypes dr_numbers dr_textStarts dr_textLengths dr_textBytes dr_itemCount dr_byCount dr_stepCount dr_literalCount dr_textEnd pl_items pl_behindBy pl_steps pl_literalTypes pl_numbers pl_textStarts pl_textLengths pl_textBytes b_pl_itemCount b_pl_byCount b_pl_stepCount b_pl_literalCount b_pl_textEnd ++ w_mo E a_mo mo_code mo_tape mo_text mo_taped mo_size mo_at mo_ill mo_in mo_kind mo_type mo_long1 mo_letters mo_fields mo_kept mo_now mo_many mo_itemKind mo_itemField mo_itemPlace mo_by mo_stepKind mo_stepField mo_stepOperator mo_stepOther mo_stepMany mo_literalType mo_literalFrom mo_literalSize mo_bytes mo_said mo_number mo_pile mo_pilePlace mo_top mo_open) (Jn.left _ _ _) rfl hl.1 rfl (Nat.le_of_ble_eq_true rfl) dL_law_176 ⟨Nat.le_of_ble_eq_true rfl, Nat.le_of_ble_eq_true rfl⟩ (fun H locs hw => ?_)
      refine lv_aload_n hx hb dL_law_179 rfl (lv_at hl 2 rfl) ?_
      refine lv_aload_n hx hb dL_law_180 rfl (lv_at hl 0 rfl) ?_
      refine lv_iload_n hx hb dL_law_181 rfl (lv_at hl 3 rfl) ?_
      refine lv_iconst (v := 1) hx hb dL_law_182 (by decide) ?_
      refine lv_iadd hx hb dL_law_183 ?_
      refine va_sld hx hb hX hbl hbA hw.2.2 g1 dL_law_184 ?_
      refine lv_aload_n hx hb dL_law_185 rfl (lv_at hl 0 rfl) ?_
      refine lv_iload_n hx hb dL_law_186 rfl (lv_at hl 3 rfl) ?_
      refine lv_iconst (v := 2) hx hb dL_law_187 (by decide) ?_
      refine lv_iadd hx hb dL_law_188 ?_
      refine va_sld hx hb hX hbl hbA hw.2.2 g2 dL_law_189 ?_
      refine lv_aload_n hx hb dL_law_190 rfl (lv_at hl 0 rfl) ?_
      refine lv_iload_n hx hb dL_law_191 rfl (lv_at hl 3 rfl) ?_
      refine lv_iconst (v := 3) hx hb dL_law_192 (by decide) ?_
      refine lv_iadd hx hb dL_law_193 ?_
      refine va_sld hx hb hX hbl hbA hw.2.2 g3 dL_law_194 ?_
      refine lv_aload_n hx hb dL_law_195 rfl (lv_at hl 0 rfl) ?_
      refine lv_iload_n hx hb dL_law_196 rfl (lv_at hl 3 rfl) ?_
      refine lv_iconst (v := 4) hx hb dL_law_197 (by decide) ?_
      refine lv_iadd hx hb dL_law_198 ?_
      refine va_sld hx hb hX hbl hbA hw.2.2 g4 dL_law_199 ?_
      refine cI_V C hw (c_X6_field l E a_mo mo_code mo_tape mo_text mo_taped mo_size mo_at mo_ill mo_in mo_kind mo_type mo_long1 mo_letters mo_fields mo_kept mo_now mo_many mo_itemKind mo_itemField mo_itemPlace mo_by mo_stepKind mo_stepField mo_stepOperator mo_stepOther mo_stepMany mo_literalType mo_literalFrom mo_literalSize mo_bytes mo_said mo_number mo_pile mo_pilePlace mo_top mo_open (xs (x3 + 1).toNatClampNeg) (xs (x3 + 2).toNatClampNeg) (xs (x3 + 3).toNatClampNeg) (xs (x3 + 4).toNatClampNeg) r b_mo_code b_mo_text b_mo_taped b_mo_size b_mo_at b_mo_ill b_mo_in b_mo_kind b_mo_type b_mo_long1 b_mo_letters b_mo_fields b_mo_kept hM) cs_L_22 ⟨Nat.le_of_ble_eq_true rfl, Nat.le_of_ble_eq_true rfl⟩ ⟨rfl, rfl⟩ (ci := 6) (cn := (RX6, TX6, 35)) rfl (q0 := 32) rfl (wn := w_qt_tp_sh_pa_sc_dr_pl E a_qt a_tp a_sh a_pa a_sc a_dr a_pl tp_bytes b_tp_size b_sh_names b_sh_nameLengths b_sh_groups b_sh_types b_sh_flat b_sh_size pa_itemPlaces pa_waitingSigns pa_waitingPlaces pa_waiting pa_nested pa_fault sc_token sc_start sc_end sc_numberRead sc_escaped sc_bytesBehind dr_items dr_behindBy dr_steps dr_literalTypes dr_numbers dr_textStarts dr_textLengths dr_textBytes dr_itemCount dr_byCount dr_stepCount dr_literalCount dr_textEnd pl_items pl_behindBy pl_steps pl_literalTypes pl_numbers pl_textStarts pl_textLengths pl_textBytes b_pl_itemCount b_pl_byCount b_pl_stepCount b_pl_literalCount b_pl_textEnd ++ w_mo E a_mo b_mo_code mo_tape b_mo_text b_mo_taped b_mo_size b_mo_at b_mo_ill b_mo_in b_mo_kind b_mo_type b_mo_long1 b_mo_letters b_mo_fields b_mo_kept mo_now mo_many mo_itemKind mo_itemField mo_itemPlace mo_by mo_stepKind mo_stepField mo_stepOperator mo_stepOther mo_stepMany mo_literalType mo_literalFrom mo_literalSize mo_bytes mo_said mo_number mo_pile mo_pilePlace mo_top mo_open) (Jn.right _ _ _) rfl hl.1 rfl (Nat.le_of_ble_eq_true rfl) dL_law_200 ⟨Nat.le_of_ble_eq_true rfl, Nat.le_of_ble_eq_true rfl⟩ (fun H locs hw => ?_)
      refine lv_icmp_eq (tgt := 446) hx hb dL_law_203 (by decide) (fun _ => ?_) (fun z => absurd rfl z)
      obtain ⟨x4, ex4⟩ : ∃ y : Int32, y = x3 + 6 := ⟨_, rfl⟩
      refine lv_iinc (v := x4) (lv' := [(3, .int x4), (0, .ref b), (1, .ref (a_qt 0)), (2, .ref (a_mo 0))]) hx hb dL_law_446 hl (k := 3) rfl (by rw [ex4]; rfl) (by decide) rfl (fun ls hl => ?_)
      refine lv_goto (tgt := 18) hx hb dL_law_449 (by decide) ?_
      exact ih (i + 6) x4 tp_bytes b_tp_size b_sh_names b_sh_nameLengths b_sh_groups b_sh_types b_sh_flat b_sh_size pa_itemPlaces pa_waitingSigns pa_waitingPlaces pa_waiting pa_nested pa_fault sc_token sc_start sc_end sc_numberRead sc_escaped sc_bytesBehind dr_items dr_behindBy dr_steps dr_literalTypes dr_numbers dr_textStarts dr_textLengths dr_textBytes dr_itemCount dr_byCount dr_stepCount dr_literalCount dr_textEnd pl_items pl_behindBy pl_steps pl_literalTypes pl_numbers pl_textStarts pl_textLengths pl_textBytes b_pl_itemCount b_pl_byCount b_pl_stepCount b_pl_literalCount b_pl_textEnd b_mo_code mo_tape b_mo_text b_mo_taped b_mo_size b_mo_at b_mo_ill b_mo_in b_mo_kind b_mo_type b_mo_long1 b_mo_letters b_mo_fields b_mo_kept mo_now mo_many mo_itemKind mo_itemField mo_itemPlace mo_by mo_stepKind mo_stepField mo_stepOperator mo_stepOther mo_stepMany mo_literalType mo_literalFrom mo_literalSize mo_bytes mo_said mo_number mo_pile mo_pilePlace mo_top mo_open hi6 (by omega) (by rw [ex4, ex3]; exact nI_add i 6) hI2 _ _ _ hw (lv_sub hl [1, 2, 3, 0] rfl)
    by_cases k_2 : sw = (2 : Int32)
    · refine lv_tab (off := 175) (tgt := 208) hx hb dL_law_33 (by rw [k_2]; rfl) (by decide) ?_
      obtain ⟨r, b_tp_size, b_pa_itemPlaces, b_pa_waitingSigns, b_pa_waitingPlaces, b_pa_waiting, b_pa_nested, b_pa_fault, b_sc_token, b_sc_start, b_sc_end, b_sc_numberRead, b_sc_escaped, b_sc_bytesBehind, b_dr_items, b_dr_behindBy, b_dr_steps, b_dr_literalTypes, b_dr_numbers, b_dr_textStarts, b_dr_textLengths, b_dr_textBytes, b_dr_itemCount, b_dr_byCount, b_dr_stepCount, b_dr_literalCount, b_dr_textEnd, b_pl_items, b_pl_behindBy, b_pl_steps, b_pl_literalTypes, b_pl_numbers, b_pl_textStarts, b_pl_textLengths, b_pl_textBytes, b_pl_itemCount, b_pl_byCount, b_pl_stepCount, b_pl_literalCount, b_pl_textEnd, hC, b_mo_code, b_mo_text, b_mo_taped, b_mo_size, b_mo_at, b_mo_ill, b_mo_kept, b_mo_now, b_mo_many, b_mo_itemKind, b_mo_itemField, b_mo_itemPlace, b_mo_by, b_mo_stepKind, b_mo_stepField, b_mo_stepOperator, b_mo_stepOther, b_mo_stepMany, b_mo_literalType, b_mo_literalFrom, b_mo_literalSize, b_mo_bytes, b_mo_said, b_mo_number, b_mo_pile, b_mo_pilePlace, b_mo_top, b_mo_open, hM, hI2⟩ := S_query (xs (x3 + 1).toNatClampNeg) tp_bytes tp_size sh_names sh_nameLengths sh_groups sh_types sh_flat sh_size pa_itemPlaces pa_waitingSigns pa_waitingPlaces pa_waiting pa_nested pa_fault sc_token sc_start sc_end sc_numberRead sc_escaped sc_bytesBehind dr_items dr_behindBy dr_steps dr_literalTypes dr_numbers dr_textStarts dr_textLengths dr_textBytes dr_itemCount dr_byCount dr_stepCount dr_literalCount dr_textEnd pl_items pl_behindBy pl_steps pl_literalTypes pl_numbers pl_textStarts pl_textLengths pl_textBytes pl_itemCount pl_byCount pl_stepCount pl_literalCount pl_textEnd mo_code mo_tape mo_text mo_taped mo_size mo_at mo_ill mo_in mo_kind mo_type mo_long1 mo_letters mo_fields mo_kept mo_now mo_many mo_itemKind mo_itemField mo_itemPlace mo_by mo_stepKind mo_stepField mo_stepOperator mo_stepOther mo_stepMany mo_literalType mo_literalFrom mo_literalSize mo_bytes mo_said mo_number mo_pile mo_pilePlace mo_top mo_open hI
      refine lv_aload_n hx hb dL_law_208 rfl (lv_at hl 1 rfl) ?_
      refine lv_aload_n hx hb dL_law_209 rfl (lv_at hl 0 rfl) ?_
      refine lv_iload_n hx hb dL_law_210 rfl (lv_at hl 3 rfl) ?_
      refine lv_iconst (v := 1) hx hb dL_law_211 (by decide) ?_
      refine lv_iadd hx hb dL_law_212 ?_
      refine va_sld hx hb hX hbl hbA hw.2.2 g1 dL_law_213 ?_
      refine cI_V C hw (c_X5_query l E a_qt a_tp a_sh a_pa a_sc a_dr a_pl tp_bytes tp_size sh_names sh_nameLengths sh_groups sh_types sh_flat sh_size pa_itemPlaces pa_waitingSigns pa_waitingPlaces pa_waiting pa_nested pa_fault sc_token sc_start sc_end sc_numberRead sc_escaped sc_bytesBehind dr_items dr_behindBy dr_steps dr_literalTypes dr_numbers dr_textStarts dr_textLengths dr_textBytes dr_itemCount dr_byCount dr_stepCount dr_literalCount dr_textEnd pl_items pl_behindBy pl_steps pl_literalTypes pl_numbers pl_textStarts pl_textLengths pl_textBytes pl_itemCount pl_byCount pl_stepCount pl_literalCount pl_textEnd (xs (x3 + 1).toNatClampNeg) r b_tp_size b_pa_itemPlaces b_pa_waitingSigns b_pa_waitingPlaces b_pa_waiting b_pa_nested b_pa_fault b_sc_token b_sc_start b_sc_end b_sc_numberRead b_sc_escaped b_sc_bytesBehind b_dr_items b_dr_behindBy b_dr_steps b_dr_literalTypes b_dr_numbers b_dr_textStarts b_dr_textLengths b_dr_textBytes b_dr_itemCount b_dr_byCount b_dr_stepCount b_dr_literalCount b_dr_textEnd b_pl_items b_pl_behindBy b_pl_steps b_pl_literalTypes b_pl_numbers b_pl_textStarts b_pl_textLengths b_pl_textBytes b_pl_itemCount b_pl_byCount b_pl_stepCount b_pl_literalCount b_pl_textEnd hC) cs_L_23 ⟨Nat.le_of_ble_eq_true rfl, Nat.le_of_ble_eq_true rfl⟩ ⟨rfl, rfl⟩ (ci := 5) (cn := (RX5, TX5, 4)) rfl (q0 := 0) rfl (wn := w_qt_tp_sh_pa_sc_dr_pl E a_qt a_tp a_sh a_pa a_sc a_dr a_pl tp_bytes b_tp_size sh_names sh_nameLengths sh_groups sh_types sh_flat sh_size b_pa_itemPlaces b_pa_waitingSigns b_pa_waitingPlaces b_pa_waiting b_pa_nested b_pa_fault b_sc_token b_sc_start b_sc_end b_sc_numberRead b_sc_escaped b_sc_bytesBehind b_dr_items b_dr_behindBy b_dr_steps b_dr_literalTypes b_dr_numbers b_dr_textStarts b_dr_textLengths b_dr_textBytes b_dr_itemCount b_dr_byCount b_dr_stepCount b_dr_literalCount b_dr_textEnd b_pl_items b_pl_behindBy b_pl_steps b_pl_literalTypes b_pl_numbers b_pl_textStarts b_pl_textLengths b_pl_textBytes b_pl_itemCount b_pl_byCount b_pl_stepCount b_pl_literalCount b_pl_textEnd ++ w_mo E a_mo mo_code mo_tape mo_text mo_taped mo_size mo_at mo_ill mo_in mo_kind mo_type mo_long1 mo_letters mo_fields mo_kept mo_now mo_many mo_itemKind mo_itemField mo_itemPlace mo_by mo_stepKind mo_stepField mo_stepOperator mo_stepOther mo_stepMany mo_literalType mo_literalFrom mo_literalSize mo_bytes mo_said mo_number mo_pile mo_pilePlace mo_top mo_open) (Jn.left _ _ _) rfl hl.1 rfl (Nat.le_of_ble_eq_true rfl) dL_law_214 ⟨Nat.le_of_ble_eq_true rfl, Nat.le_of_ble_eq_true rfl⟩ (fun H locs hw => ?_)
      refine lv_aload_n hx hb dL_law_217 rfl (lv_at hl 2 rfl) ?_
      refine lv_aload_n hx hb dL_law_218 rfl (lv_at hl 0 rfl) ?_
      refine lv_iload_n hx hb dL_law_219 rfl (lv_at hl 3 rfl) ?_
      refine lv_iconst (v := 1) hx hb dL_law_220 (by decide) ?_
      refine lv_iadd hx hb dL_law_221 ?_
      refine va_sld hx hb hX hbl hbA hw.2.2 g1 dL_law_222 ?_
      refine cI_V C hw (c_X6_query l E a_mo mo_code mo_tape mo_text mo_taped mo_size mo_at mo_ill mo_in mo_kind mo_type mo_long1 mo_letters mo_fields mo_kept mo_now mo_many mo_itemKind mo_itemField mo_itemPlace mo_by mo_stepKind mo_stepField mo_stepOperator mo_stepOther mo_stepMany mo_literalType mo_literalFrom mo_literalSize mo_bytes mo_said mo_number mo_pile mo_pilePlace mo_top mo_open (xs (x3 + 1).toNatClampNeg) r b_mo_code b_mo_text b_mo_taped b_mo_size b_mo_at b_mo_ill b_mo_kept b_mo_now b_mo_many b_mo_itemKind b_mo_itemField b_mo_itemPlace b_mo_by b_mo_stepKind b_mo_stepField b_mo_stepOperator b_mo_stepOther b_mo_stepMany b_mo_literalType b_mo_literalFrom b_mo_literalSize b_mo_bytes b_mo_said b_mo_number b_mo_pile b_mo_pilePlace b_mo_top b_mo_open hM) cs_L_27 ⟨Nat.le_of_ble_eq_true rfl, Nat.le_of_ble_eq_true rfl⟩ ⟨rfl, rfl⟩ (ci := 6) (cn := (RX6, TX6, 35)) rfl (q0 := 32) rfl (wn := w_qt_tp_sh_pa_sc_dr_pl E a_qt a_tp a_sh a_pa a_sc a_dr a_pl tp_bytes b_tp_size sh_names sh_nameLengths sh_groups sh_types sh_flat sh_size b_pa_itemPlaces b_pa_waitingSigns b_pa_waitingPlaces b_pa_waiting b_pa_nested b_pa_fault b_sc_token b_sc_start b_sc_end b_sc_numberRead b_sc_escaped b_sc_bytesBehind b_dr_items b_dr_behindBy b_dr_steps b_dr_literalTypes b_dr_numbers b_dr_textStarts b_dr_textLengths b_dr_textBytes b_dr_itemCount b_dr_byCount b_dr_stepCount b_dr_literalCount b_dr_textEnd b_pl_items b_pl_behindBy b_pl_steps b_pl_literalTypes b_pl_numbers b_pl_textStarts b_pl_textLengths b_pl_textBytes b_pl_itemCount b_pl_byCount b_pl_stepCount b_pl_literalCount b_pl_textEnd ++ w_mo E a_mo b_mo_code mo_tape b_mo_text b_mo_taped b_mo_size b_mo_at b_mo_ill mo_in mo_kind mo_type mo_long1 mo_letters mo_fields b_mo_kept b_mo_now b_mo_many b_mo_itemKind b_mo_itemField b_mo_itemPlace b_mo_by b_mo_stepKind b_mo_stepField b_mo_stepOperator b_mo_stepOther b_mo_stepMany b_mo_literalType b_mo_literalFrom b_mo_literalSize b_mo_bytes b_mo_said b_mo_number b_mo_pile b_mo_pilePlace b_mo_top b_mo_open) (Jn.right _ _ _) rfl hl.1 rfl (Nat.le_of_ble_eq_true rfl) dL_law_223 ⟨Nat.le_of_ble_eq_true rfl, Nat.le_of_ble_eq_true rfl⟩ (fun H locs hw => ?_)
      refine lv_icmp_eq (tgt := 446) hx hb dL_law_226 (by decide) (fun _ => ?_) (fun z => absurd rfl z)
      obtain ⟨x4, ex4⟩ : ∃ y : Int32, y = x3 + 6 := ⟨_, rfl⟩
      refine lv_iinc (v := x4) (lv' := [(3, .int x4), (0, .ref b), (1, .ref (a_qt 0)), (2, .ref (a_mo 0))]) hx hb dL_law_446 hl (k := 3) rfl (by rw [ex4]; rfl) (by decide) rfl (fun ls hl => ?_)
      refine lv_goto (tgt := 18) hx hb dL_law_449 (by decide) ?_
      exact ih (i + 6) x4 tp_bytes b_tp_size sh_names sh_nameLengths sh_groups sh_types sh_flat sh_size b_pa_itemPlaces b_pa_waitingSigns b_pa_waitingPlaces b_pa_waiting b_pa_nested b_pa_fault b_sc_token b_sc_start b_sc_end b_sc_numberRead b_sc_escaped b_sc_bytesBehind b_dr_items b_dr_behindBy b_dr_steps b_dr_literalTypes b_dr_numbers b_dr_textStarts b_dr_textLengths b_dr_textBytes b_dr_itemCount b_dr_byCount b_dr_stepCount b_dr_literalCount b_dr_textEnd b_pl_items b_pl_behindBy b_pl_steps b_pl_literalTypes b_pl_numbers b_pl_textStarts b_pl_textLengths b_pl_textBytes b_pl_itemCount b_pl_byCount b_pl_stepCount b_pl_literalCount b_pl_textEnd b_mo_code mo_tape b_mo_text b_mo_taped b_mo_size b_mo_at b_mo_ill mo_in mo_kind mo_type mo_long1 mo_letters mo_fields b_mo_kept b_mo_now b_mo_many b_mo_itemKind b_mo_itemField b_mo_itemPlace b_mo_by b_mo_stepKind b_mo_stepField b_mo_stepOperator b_mo_stepOther b_mo_stepMany b_mo_literalType b_mo_literalFrom b_mo_literalSize b_mo_bytes b_mo_said b_mo_number b_mo_pile b_mo_pilePlace b_mo_top b_mo_open hi6 (by omega) (by rw [ex4, ex3]; exact nI_add i 6) hI2 _ _ _ hw (lv_sub hl [1, 2, 3, 0] rfl)
    by_cases k_3 : sw = (3 : Int32)
    · refine lv_tab (off := 198) (tgt := 231) hx hb dL_law_33 (by rw [k_3]; rfl) (by decide) ?_
      obtain ⟨r, hC, b_mo_code, hM, hI2⟩ := S_count (xs (x3 + 1).toNatClampNeg) tp_bytes tp_size sh_names sh_nameLengths sh_groups sh_types sh_flat sh_size pl_items pl_behindBy pl_steps pl_literalTypes pl_numbers pl_textStarts pl_textLengths pl_textBytes pl_itemCount pl_byCount pl_stepCount pl_literalCount pl_textEnd mo_code mo_tape mo_taped mo_in mo_kind mo_type mo_long1 mo_letters mo_fields mo_kept mo_many mo_itemKind mo_itemField mo_by mo_stepKind mo_stepField mo_stepOperator mo_stepOther mo_stepMany mo_literalType mo_literalFrom mo_literalSize mo_bytes mo_number hI
      refine lv_aload_n hx hb dL_law_231 rfl (lv_at hl 1 rfl) ?_
      refine lv_aload_n hx hb dL_law_232 rfl (lv_at hl 0 rfl) ?_
      refine lv_iload_n hx hb dL_law_233 rfl (lv_at hl 3 rfl) ?_
      refine lv_iconst (v := 1) hx hb dL_law_234 (by decide) ?_
      refine lv_iadd hx hb dL_law_235 ?_
      refine va_sld hx hb hX hbl hbA hw.2.2 g1 dL_law_236 ?_
      refine cI_V C hw (c_X5_count l E a_qt a_tp a_sh a_pa a_sc a_dr a_pl tp_bytes tp_size sh_names sh_nameLengths sh_groups sh_types sh_flat sh_size pa_itemPlaces pa_waitingSigns pa_waitingPlaces pa_waiting pa_nested pa_fault sc_token sc_start sc_end sc_numberRead sc_escaped sc_bytesBehind dr_items dr_behindBy dr_steps dr_literalTypes dr_numbers dr_textStarts dr_textLengths dr_textBytes dr_itemCount dr_byCount dr_stepCount dr_literalCount dr_textEnd pl_items pl_behindBy pl_steps pl_literalTypes pl_numbers pl_textStarts pl_textLengths pl_textBytes pl_itemCount pl_byCount pl_stepCount pl_literalCount pl_textEnd (xs (x3 + 1).toNatClampNeg) r hC) cs_L_28 ⟨Nat.le_of_ble_eq_true rfl, Nat.le_of_ble_eq_true rfl⟩ ⟨rfl, rfl⟩ (ci := 5) (cn := (RX5, TX5, 4)) rfl (q0 := 0) rfl (wn := w_qt_tp_sh_pa_sc_dr_pl E a_qt a_tp a_sh a_pa a_sc a_dr a_pl tp_bytes tp_size sh_names sh_nameLengths sh_groups sh_types sh_flat sh_size pa_itemPlaces pa_waitingSigns pa_waitingPlaces pa_waiting pa_nested pa_fault sc_token sc_start sc_end sc_numberRead sc_escaped sc_bytesBehind dr_items dr_behindBy dr_steps dr_literalTypes dr_numbers dr_textStarts dr_textLengths dr_textBytes dr_itemCount dr_byCount dr_stepCount dr_literalCount dr_textEnd pl_items pl_behindBy pl_steps pl_literalTypes pl_numbers pl_textStarts pl_textLengths pl_textBytes pl_itemCount pl_byCount pl_stepCount pl_literalCount pl_textEnd ++ w_mo E a_mo mo_code mo_tape mo_text mo_taped mo_size mo_at mo_ill mo_in mo_kind mo_type mo_long1 mo_letters mo_fields mo_kept mo_now mo_many mo_itemKind mo_itemField mo_itemPlace mo_by mo_stepKind mo_stepField mo_stepOperator mo_stepOther mo_stepMany mo_literalType mo_literalFrom mo_literalSize mo_bytes mo_said mo_number mo_pile mo_pilePlace mo_top mo_open) (Jn.left _ _ _) rfl hl.1 rfl (Nat.le_of_ble_eq_true rfl) dL_law_237 ⟨Nat.le_of_ble_eq_true rfl, Nat.le_of_ble_eq_true rfl⟩ (fun H locs hw => ?_)
      refine lv_aload_n hx hb dL_law_240 rfl (lv_at hl 2 rfl) ?_
      refine lv_aload_n hx hb dL_law_241 rfl (lv_at hl 0 rfl) ?_
      refine lv_iload_n hx hb dL_law_242 rfl (lv_at hl 3 rfl) ?_
      refine lv_iconst (v := 1) hx hb dL_law_243 (by decide) ?_
      refine lv_iadd hx hb dL_law_244 ?_
      refine va_sld hx hb hX hbl hbA hw.2.2 g1 dL_law_245 ?_
      refine cI_V C hw (c_X6_count l E a_mo mo_code mo_tape mo_text mo_taped mo_size mo_at mo_ill mo_in mo_kind mo_type mo_long1 mo_letters mo_fields mo_kept mo_now mo_many mo_itemKind mo_itemField mo_itemPlace mo_by mo_stepKind mo_stepField mo_stepOperator mo_stepOther mo_stepMany mo_literalType mo_literalFrom mo_literalSize mo_bytes mo_said mo_number mo_pile mo_pilePlace mo_top mo_open (xs (x3 + 1).toNatClampNeg) r b_mo_code hM) cs_L_31 ⟨Nat.le_of_ble_eq_true rfl, Nat.le_of_ble_eq_true rfl⟩ ⟨rfl, rfl⟩ (ci := 6) (cn := (RX6, TX6, 35)) rfl (q0 := 32) rfl (wn := w_qt_tp_sh_pa_sc_dr_pl E a_qt a_tp a_sh a_pa a_sc a_dr a_pl tp_bytes tp_size sh_names sh_nameLengths sh_groups sh_types sh_flat sh_size pa_itemPlaces pa_waitingSigns pa_waitingPlaces pa_waiting pa_nested pa_fault sc_token sc_start sc_end sc_numberRead sc_escaped sc_bytesBehind dr_items dr_behindBy dr_steps dr_literalTypes dr_numbers dr_textStarts dr_textLengths dr_textBytes dr_itemCount dr_byCount dr_stepCount dr_literalCount dr_textEnd pl_items pl_behindBy pl_steps pl_literalTypes pl_numbers pl_textStarts pl_textLengths pl_textBytes pl_itemCount pl_byCount pl_stepCount pl_literalCount pl_textEnd ++ w_mo E a_mo b_mo_code mo_tape mo_text mo_taped mo_size mo_at mo_ill mo_in mo_kind mo_type mo_long1 mo_letters mo_fields mo_kept mo_now mo_many mo_itemKind mo_itemField mo_itemPlace mo_by mo_stepKind mo_stepField mo_stepOperator mo_stepOther mo_stepMany mo_literalType mo_literalFrom mo_literalSize mo_bytes mo_said mo_number mo_pile mo_pilePlace mo_top mo_open) (Jn.right _ _ _) rfl hl.1 rfl (Nat.le_of_ble_eq_true rfl) dL_law_246 ⟨Nat.le_of_ble_eq_true rfl, Nat.le_of_ble_eq_true rfl⟩ (fun H locs hw => ?_)
      refine lv_icmp_eq (tgt := 446) hx hb dL_law_249 (by decide) (fun _ => ?_) (fun z => absurd rfl z)
      obtain ⟨x4, ex4⟩ : ∃ y : Int32, y = x3 + 6 := ⟨_, rfl⟩
      refine lv_iinc (v := x4) (lv' := [(3, .int x4), (0, .ref b), (1, .ref (a_qt 0)), (2, .ref (a_mo 0))]) hx hb dL_law_446 hl (k := 3) rfl (by rw [ex4]; rfl) (by decide) rfl (fun ls hl => ?_)
      refine lv_goto (tgt := 18) hx hb dL_law_449 (by decide) ?_
      exact ih (i + 6) x4 tp_bytes tp_size sh_names sh_nameLengths sh_groups sh_types sh_flat sh_size pa_itemPlaces pa_waitingSigns pa_waitingPlaces pa_waiting pa_nested pa_fault sc_token sc_start sc_end sc_numberRead sc_escaped sc_bytesBehind dr_items dr_behindBy dr_steps dr_literalTypes dr_numbers dr_textStarts dr_textLengths dr_textBytes dr_itemCount dr_byCount dr_stepCount dr_literalCount dr_textEnd pl_items pl_behindBy pl_steps pl_literalTypes pl_numbers pl_textStarts pl_textLengths pl_textBytes pl_itemCount pl_byCount pl_stepCount pl_literalCount pl_textEnd b_mo_code mo_tape mo_text mo_taped mo_size mo_at mo_ill mo_in mo_kind mo_type mo_long1 mo_letters mo_fields mo_kept mo_now mo_many mo_itemKind mo_itemField mo_itemPlace mo_by mo_stepKind mo_stepField mo_stepOperator mo_stepOther mo_stepMany mo_literalType mo_literalFrom mo_literalSize mo_bytes mo_said mo_number mo_pile mo_pilePlace mo_top mo_open hi6 (by omega) (by rw [ex4, ex3]; exact nI_add i 6) hI2 _ _ _ hw (lv_sub hl [1, 2, 3, 0] rfl)
    by_cases k_4 : sw = (4 : Int32)
    · refine lv_tab (off := 221) (tgt := 254) hx hb dL_law_33 (by rw [k_4]; rfl) (by decide) ?_
      obtain ⟨r, hC, b_mo_code, hM, hI2⟩ := S_item (xs (x3 + 1).toNatClampNeg) (xs (x3 + 2).toNatClampNeg) tp_bytes tp_size sh_names sh_nameLengths sh_groups sh_types sh_flat sh_size pl_items pl_behindBy pl_steps pl_literalTypes pl_numbers pl_textStarts pl_textLengths pl_textBytes pl_itemCount pl_byCount pl_stepCount pl_literalCount pl_textEnd mo_code mo_tape mo_taped mo_in mo_kind mo_type mo_long1 mo_letters mo_fields mo_kept mo_many mo_itemKind mo_itemField mo_by mo_stepKind mo_stepField mo_stepOperator mo_stepOther mo_stepMany mo_literalType mo_literalFrom mo_literalSize mo_bytes mo_number hI
      refine lv_aload_n hx hb dL_law_254 rfl (lv_at hl 1 rfl) ?_
      refine lv_aload_n hx hb dL_law_255 rfl (lv_at hl 0 rfl) ?_
      refine lv_iload_n hx hb dL_law_256 rfl (lv_at hl 3 rfl) ?_
      refine lv_iconst (v := 1) hx hb dL_law_257 (by decide) ?_
      refine lv_iadd hx hb dL_law_258 ?_
      refine va_sld hx hb hX hbl hbA hw.2.2 g1 dL_law_259 ?_
      refine lv_aload_n hx hb dL_law_260 rfl (lv_at hl 0 rfl) ?_
      refine lv_iload_n hx hb dL_law_261 rfl (lv_at hl 3 rfl) ?_
      refine lv_iconst (v := 2) hx hb dL_law_262 (by decide) ?_
      refine lv_iadd hx hb dL_law_263 ?_
      refine va_sld hx hb hX hbl hbA hw.2.2 g2 dL_law_264 ?_
      refine cI_V C hw (c_X5_item l E a_qt a_tp a_sh a_pa a_sc a_dr a_pl tp_bytes tp_size sh_names sh_nameLengths sh_groups sh_types sh_flat sh_size pa_itemPlaces pa_waitingSigns pa_waitingPlaces pa_waiting pa_nested pa_fault sc_token sc_start sc_end sc_numberRead sc_escaped sc_bytesBehind dr_items dr_behindBy dr_steps dr_literalTypes dr_numbers dr_textStarts dr_textLengths dr_textBytes dr_itemCount dr_byCount dr_stepCount dr_literalCount dr_textEnd pl_items pl_behindBy pl_steps pl_literalTypes pl_numbers pl_textStarts pl_textLengths pl_textBytes pl_itemCount pl_byCount pl_stepCount pl_literalCount pl_textEnd (xs (x3 + 1).toNatClampNeg) (xs (x3 + 2).toNatClampNeg) r hC) cs_L_32 ⟨Nat.le_of_ble_eq_true rfl, Nat.le_of_ble_eq_true rfl⟩ ⟨rfl, rfl⟩ (ci := 5) (cn := (RX5, TX5, 4)) rfl (q0 := 0) rfl (wn := w_qt_tp_sh_pa_sc_dr_pl E a_qt a_tp a_sh a_pa a_sc a_dr a_pl tp_bytes tp_size sh_names sh_nameLengths sh_groups sh_types sh_flat sh_size pa_itemPlaces pa_waitingSigns pa_waitingPlaces pa_waiting pa_nested pa_fault sc_token sc_start sc_end sc_numberRead sc_escaped sc_bytesBehind dr_items dr_behindBy dr_steps dr_literalTypes dr_numbers dr_textStarts dr_textLengths dr_textBytes dr_itemCount dr_byCount dr_stepCount dr_literalCount dr_textEnd pl_items pl_behindBy pl_steps pl_literalTypes pl_numbers pl_textStarts pl_textLengths pl_textBytes pl_itemCount pl_byCount pl_stepCount pl_literalCount pl_textEnd ++ w_mo E a_mo mo_code mo_tape mo_text mo_taped mo_size mo_at mo_ill mo_in mo_kind mo_type mo_long1 mo_letters mo_fields mo_kept mo_now mo_many mo_itemKind mo_itemField mo_itemPlace mo_by mo_stepKind mo_stepField mo_stepOperator mo_stepOther mo_stepMany mo_literalType mo_literalFrom mo_literalSize mo_bytes mo_said mo_number mo_pile mo_pilePlace mo_top mo_open) (Jn.left _ _ _) rfl hl.1 rfl (Nat.le_of_ble_eq_true rfl) dL_law_265 ⟨Nat.le_of_ble_eq_true rfl, Nat.le_of_ble_eq_true rfl⟩ (fun H locs hw => ?_)
      refine lv_aload_n hx hb dL_law_268 rfl (lv_at hl 2 rfl) ?_
      refine lv_aload_n hx hb dL_law_269 rfl (lv_at hl 0 rfl) ?_
      refine lv_iload_n hx hb dL_law_270 rfl (lv_at hl 3 rfl) ?_
      refine lv_iconst (v := 1) hx hb dL_law_271 (by decide) ?_
      refine lv_iadd hx hb dL_law_272 ?_
      refine va_sld hx hb hX hbl hbA hw.2.2 g1 dL_law_273 ?_
      refine lv_aload_n hx hb dL_law_274 rfl (lv_at hl 0 rfl) ?_
      refine lv_iload_n hx hb dL_law_275 rfl (lv_at hl 3 rfl) ?_
      refine lv_iconst (v := 2) hx hb dL_law_276 (by decide) ?_
      refine lv_iadd hx hb dL_law_277 ?_
      refine va_sld hx hb hX hbl hbA hw.2.2 g2 dL_law_278 ?_
      refine cI_V C hw (c_X6_item l E a_mo mo_code mo_tape mo_text mo_taped mo_size mo_at mo_ill mo_in mo_kind mo_type mo_long1 mo_letters mo_fields mo_kept mo_now mo_many mo_itemKind mo_itemField mo_itemPlace mo_by mo_stepKind mo_stepField mo_stepOperator mo_stepOther mo_stepMany mo_literalType mo_literalFrom mo_literalSize mo_bytes mo_said mo_number mo_pile mo_pilePlace mo_top mo_open (xs (x3 + 1).toNatClampNeg) (xs (x3 + 2).toNatClampNeg) r b_mo_code hM) cs_L_36 ⟨Nat.le_of_ble_eq_true rfl, Nat.le_of_ble_eq_true rfl⟩ ⟨rfl, rfl⟩ (ci := 6) (cn := (RX6, TX6, 35)) rfl (q0 := 32) rfl (wn := w_qt_tp_sh_pa_sc_dr_pl E a_qt a_tp a_sh a_pa a_sc a_dr a_pl tp_bytes tp_size sh_names sh_nameLengths sh_groups sh_types sh_flat sh_size pa_itemPlaces pa_waitingSigns pa_waitingPlaces pa_waiting pa_nested pa_fault sc_token sc_start sc_end sc_numberRead sc_escaped sc_bytesBehind dr_items dr_behindBy dr_steps dr_literalTypes dr_numbers dr_textStarts dr_textLengths dr_textBytes dr_itemCount dr_byCount dr_stepCount dr_literalCount dr_textEnd pl_items pl_behindBy pl_steps pl_literalTypes pl_numbers pl_textStarts pl_textLengths pl_textBytes pl_itemCount pl_byCount pl_stepCount pl_literalCount pl_textEnd ++ w_mo E a_mo b_mo_code mo_tape mo_text mo_taped mo_size mo_at mo_ill mo_in mo_kind mo_type mo_long1 mo_letters mo_fields mo_kept mo_now mo_many mo_itemKind mo_itemField mo_itemPlace mo_by mo_stepKind mo_stepField mo_stepOperator mo_stepOther mo_stepMany mo_literalType mo_literalFrom mo_literalSize mo_bytes mo_said mo_number mo_pile mo_pilePlace mo_top mo_open) (Jn.right _ _ _) rfl hl.1 rfl (Nat.le_of_ble_eq_true rfl) dL_law_279 ⟨Nat.le_of_ble_eq_true rfl, Nat.le_of_ble_eq_true rfl⟩ (fun H locs hw => ?_)
      refine lv_icmp_eq (tgt := 446) hx hb dL_law_282 (by decide) (fun _ => ?_) (fun z => absurd rfl z)
      obtain ⟨x4, ex4⟩ : ∃ y : Int32, y = x3 + 6 := ⟨_, rfl⟩
      refine lv_iinc (v := x4) (lv' := [(3, .int x4), (0, .ref b), (1, .ref (a_qt 0)), (2, .ref (a_mo 0))]) hx hb dL_law_446 hl (k := 3) rfl (by rw [ex4]; rfl) (by decide) rfl (fun ls hl => ?_)
      refine lv_goto (tgt := 18) hx hb dL_law_449 (by decide) ?_
      exact ih (i + 6) x4 tp_bytes tp_size sh_names sh_nameLengths sh_groups sh_types sh_flat sh_size pa_itemPlaces pa_waitingSigns pa_waitingPlaces pa_waiting pa_nested pa_fault sc_token sc_start sc_end sc_numberRead sc_escaped sc_bytesBehind dr_items dr_behindBy dr_steps dr_literalTypes dr_numbers dr_textStarts dr_textLengths dr_textBytes dr_itemCount dr_byCount dr_stepCount dr_literalCount dr_textEnd pl_items pl_behindBy pl_steps pl_literalTypes pl_numbers pl_textStarts pl_textLengths pl_textBytes pl_itemCount pl_byCount pl_stepCount pl_literalCount pl_textEnd b_mo_code mo_tape mo_text mo_taped mo_size mo_at mo_ill mo_in mo_kind mo_type mo_long1 mo_letters mo_fields mo_kept mo_now mo_many mo_itemKind mo_itemField mo_itemPlace mo_by mo_stepKind mo_stepField mo_stepOperator mo_stepOther mo_stepMany mo_literalType mo_literalFrom mo_literalSize mo_bytes mo_said mo_number mo_pile mo_pilePlace mo_top mo_open hi6 (by omega) (by rw [ex4, ex3]; exact nI_add i 6) hI2 _ _ _ hw (lv_sub hl [1, 2, 3, 0] rfl)
    by_cases k_5 : sw = (5 : Int32)
    · refine lv_tab (off := 254) (tgt := 287) hx hb dL_law_33 (by rw [k_5]; rfl) (by decide) ?_
      obtain ⟨r, hC, b_mo_code, hM, hI2⟩ := S_by (xs (x3 + 1).toNatClampNeg) tp_bytes tp_size sh_names sh_nameLengths sh_groups sh_types sh_flat sh_size pl_items pl_behindBy pl_steps pl_literalTypes pl_numbers pl_textStarts pl_textLengths pl_textBytes pl_itemCount pl_byCount pl_stepCount pl_literalCount pl_textEnd mo_code mo_tape mo_taped mo_in mo_kind mo_type mo_long1 mo_letters mo_fields mo_kept mo_many mo_itemKind mo_itemField mo_by mo_stepKind mo_stepField mo_stepOperator mo_stepOther mo_stepMany mo_literalType mo_literalFrom mo_literalSize mo_bytes mo_number hI
      refine lv_aload_n hx hb dL_law_287 rfl (lv_at hl 1 rfl) ?_
      refine lv_aload_n hx hb dL_law_288 rfl (lv_at hl 0 rfl) ?_
      refine lv_iload_n hx hb dL_law_289 rfl (lv_at hl 3 rfl) ?_
      refine lv_iconst (v := 1) hx hb dL_law_290 (by decide) ?_
      refine lv_iadd hx hb dL_law_291 ?_
      refine va_sld hx hb hX hbl hbA hw.2.2 g1 dL_law_292 ?_
      refine cI_V C hw (c_X5_by l E a_qt a_tp a_sh a_pa a_sc a_dr a_pl tp_bytes tp_size sh_names sh_nameLengths sh_groups sh_types sh_flat sh_size pa_itemPlaces pa_waitingSigns pa_waitingPlaces pa_waiting pa_nested pa_fault sc_token sc_start sc_end sc_numberRead sc_escaped sc_bytesBehind dr_items dr_behindBy dr_steps dr_literalTypes dr_numbers dr_textStarts dr_textLengths dr_textBytes dr_itemCount dr_byCount dr_stepCount dr_literalCount dr_textEnd pl_items pl_behindBy pl_steps pl_literalTypes pl_numbers pl_textStarts pl_textLengths pl_textBytes pl_itemCount pl_byCount pl_stepCount pl_literalCount pl_textEnd (xs (x3 + 1).toNatClampNeg) r hC) cs_L_37 ⟨Nat.le_of_ble_eq_true rfl, Nat.le_of_ble_eq_true rfl⟩ ⟨rfl, rfl⟩ (ci := 5) (cn := (RX5, TX5, 4)) rfl (q0 := 0) rfl (wn := w_qt_tp_sh_pa_sc_dr_pl E a_qt a_tp a_sh a_pa a_sc a_dr a_pl tp_bytes tp_size sh_names sh_nameLengths sh_groups sh_types sh_flat sh_size pa_itemPlaces pa_waitingSigns pa_waitingPlaces pa_waiting pa_nested pa_fault sc_token sc_start sc_end sc_numberRead sc_escaped sc_bytesBehind dr_items dr_behindBy dr_steps dr_literalTypes dr_numbers dr_textStarts dr_textLengths dr_textBytes dr_itemCount dr_byCount dr_stepCount dr_literalCount dr_textEnd pl_items pl_behindBy pl_steps pl_literalTypes pl_numbers pl_textStarts pl_textLengths pl_textBytes pl_itemCount pl_byCount pl_stepCount pl_literalCount pl_textEnd ++ w_mo E a_mo mo_code mo_tape mo_text mo_taped mo_size mo_at mo_ill mo_in mo_kind mo_type mo_long1 mo_letters mo_fields mo_kept mo_now mo_many mo_itemKind mo_itemField mo_itemPlace mo_by mo_stepKind mo_stepField mo_stepOperator mo_stepOther mo_stepMany mo_literalType mo_literalFrom mo_literalSize mo_bytes mo_said mo_number mo_pile mo_pilePlace mo_top mo_open) (Jn.left _ _ _) rfl hl.1 rfl (Nat.le_of_ble_eq_true rfl) dL_law_293 ⟨Nat.le_of_ble_eq_true rfl, Nat.le_of_ble_eq_true rfl⟩ (fun H locs hw => ?_)
      refine lv_aload_n hx hb dL_law_296 rfl (lv_at hl 2 rfl) ?_
      refine lv_aload_n hx hb dL_law_297 rfl (lv_at hl 0 rfl) ?_
      refine lv_iload_n hx hb dL_law_298 rfl (lv_at hl 3 rfl) ?_
      refine lv_iconst (v := 1) hx hb dL_law_299 (by decide) ?_
      refine lv_iadd hx hb dL_law_300 ?_
      refine va_sld hx hb hX hbl hbA hw.2.2 g1 dL_law_301 ?_
      refine cI_V C hw (c_X6_by l E a_mo mo_code mo_tape mo_text mo_taped mo_size mo_at mo_ill mo_in mo_kind mo_type mo_long1 mo_letters mo_fields mo_kept mo_now mo_many mo_itemKind mo_itemField mo_itemPlace mo_by mo_stepKind mo_stepField mo_stepOperator mo_stepOther mo_stepMany mo_literalType mo_literalFrom mo_literalSize mo_bytes mo_said mo_number mo_pile mo_pilePlace mo_top mo_open (xs (x3 + 1).toNatClampNeg) r b_mo_code hM) cs_L_40 ⟨Nat.le_of_ble_eq_true rfl, Nat.le_of_ble_eq_true rfl⟩ ⟨rfl, rfl⟩ (ci := 6) (cn := (RX6, TX6, 35)) rfl (q0 := 32) rfl (wn := w_qt_tp_sh_pa_sc_dr_pl E a_qt a_tp a_sh a_pa a_sc a_dr a_pl tp_bytes tp_size sh_names sh_nameLengths sh_groups sh_types sh_flat sh_size pa_itemPlaces pa_waitingSigns pa_waitingPlaces pa_waiting pa_nested pa_fault sc_token sc_start sc_end sc_numberRead sc_escaped sc_bytesBehind dr_items dr_behindBy dr_steps dr_literalTypes dr_numbers dr_textStarts dr_textLengths dr_textBytes dr_itemCount dr_byCount dr_stepCount dr_literalCount dr_textEnd pl_items pl_behindBy pl_steps pl_literalTypes pl_numbers pl_textStarts pl_textLengths pl_textBytes pl_itemCount pl_byCount pl_stepCount pl_literalCount pl_textEnd ++ w_mo E a_mo b_mo_code mo_tape mo_text mo_taped mo_size mo_at mo_ill mo_in mo_kind mo_type mo_long1 mo_letters mo_fields mo_kept mo_now mo_many mo_itemKind mo_itemField mo_itemPlace mo_by mo_stepKind mo_stepField mo_stepOperator mo_stepOther mo_stepMany mo_literalType mo_literalFrom mo_literalSize mo_bytes mo_said mo_number mo_pile mo_pilePlace mo_top mo_open) (Jn.right _ _ _) rfl hl.1 rfl (Nat.le_of_ble_eq_true rfl) dL_law_302 ⟨Nat.le_of_ble_eq_true rfl, Nat.le_of_ble_eq_true rfl⟩ (fun H locs hw => ?_)
      refine lv_icmp_eq (tgt := 446) hx hb dL_law_305 (by decide) (fun _ => ?_) (fun z => absurd rfl z)
      obtain ⟨x4, ex4⟩ : ∃ y : Int32, y = x3 + 6 := ⟨_, rfl⟩
      refine lv_iinc (v := x4) (lv' := [(3, .int x4), (0, .ref b), (1, .ref (a_qt 0)), (2, .ref (a_mo 0))]) hx hb dL_law_446 hl (k := 3) rfl (by rw [ex4]; rfl) (by decide) rfl (fun ls hl => ?_)
      refine lv_goto (tgt := 18) hx hb dL_law_449 (by decide) ?_
      exact ih (i + 6) x4 tp_bytes tp_size sh_names sh_nameLengths sh_groups sh_types sh_flat sh_size pa_itemPlaces pa_waitingSigns pa_waitingPlaces pa_waiting pa_nested pa_fault sc_token sc_start sc_end sc_numberRead sc_escaped sc_bytesBehind dr_items dr_behindBy dr_steps dr_literalTypes dr_numbers dr_textStarts dr_textLengths dr_textBytes dr_itemCount dr_byCount dr_stepCount dr_literalCount dr_textEnd pl_items pl_behindBy pl_steps pl_literalTypes pl_numbers pl_textStarts pl_textLengths pl_textBytes pl_itemCount pl_byCount pl_stepCount pl_literalCount pl_textEnd b_mo_code mo_tape mo_text mo_taped mo_size mo_at mo_ill mo_in mo_kind mo_type mo_long1 mo_letters mo_fields mo_kept mo_now mo_many mo_itemKind mo_itemField mo_itemPlace mo_by mo_stepKind mo_stepField mo_stepOperator mo_stepOther mo_stepMany mo_literalType mo_literalFrom mo_literalSize mo_bytes mo_said mo_number mo_pile mo_pilePlace mo_top mo_open hi6 (by omega) (by rw [ex4, ex3]; exact nI_add i 6) hI2 _ _ _ hw (lv_sub hl [1, 2, 3, 0] rfl)
    by_cases k_6 : sw = (6 : Int32)
    · refine lv_tab (off := 277) (tgt := 310) hx hb dL_law_33 (by rw [k_6]; rfl) (by decide) ?_
      obtain ⟨r, hC, b_mo_code, hM, hI2⟩ := S_step (xs (x3 + 1).toNatClampNeg) (xs (x3 + 2).toNatClampNeg) tp_bytes tp_size sh_names sh_nameLengths sh_groups sh_types sh_flat sh_size pl_items pl_behindBy pl_steps pl_literalTypes pl_numbers pl_textStarts pl_textLengths pl_textBytes pl_itemCount pl_byCount pl_stepCount pl_literalCount pl_textEnd mo_code mo_tape mo_taped mo_in mo_kind mo_type mo_long1 mo_letters mo_fields mo_kept mo_many mo_itemKind mo_itemField mo_by mo_stepKind mo_stepField mo_stepOperator mo_stepOther mo_stepMany mo_literalType mo_literalFrom mo_literalSize mo_bytes mo_number hI
      refine lv_aload_n hx hb dL_law_310 rfl (lv_at hl 1 rfl) ?_
      refine lv_aload_n hx hb dL_law_311 rfl (lv_at hl 0 rfl) ?_
      refine lv_iload_n hx hb dL_law_312 rfl (lv_at hl 3 rfl) ?_
      refine lv_iconst (v := 1) hx hb dL_law_313 (by decide) ?_
      refine lv_iadd hx hb dL_law_314 ?_
      refine va_sld hx hb hX hbl hbA hw.2.2 g1 dL_law_315 ?_
      refine lv_aload_n hx hb dL_law_316 rfl (lv_at hl 0 rfl) ?_
      refine lv_iload_n hx hb dL_law_317 rfl (lv_at hl 3 rfl) ?_
      refine lv_iconst (v := 2) hx hb dL_law_318 (by decide) ?_
      refine lv_iadd hx hb dL_law_319 ?_
      refine va_sld hx hb hX hbl hbA hw.2.2 g2 dL_law_320 ?_
      refine cI_V C hw (c_X5_step l E a_qt a_tp a_sh a_pa a_sc a_dr a_pl tp_bytes tp_size sh_names sh_nameLengths sh_groups sh_types sh_flat sh_size pa_itemPlaces pa_waitingSigns pa_waitingPlaces pa_waiting pa_nested pa_fault sc_token sc_start sc_end sc_numberRead sc_escaped sc_bytesBehind dr_items dr_behindBy dr_steps dr_literalTypes dr_numbers dr_textStarts dr_textLengths dr_textBytes dr_itemCount dr_byCount dr_stepCount dr_literalCount dr_textEnd pl_items pl_behindBy pl_steps pl_literalTypes pl_numbers pl_textStarts pl_textLengths pl_textBytes pl_itemCount pl_byCount pl_stepCount pl_literalCount pl_textEnd (xs (x3 + 1).toNatClampNeg) (xs (x3 + 2).toNatClampNeg) r hC) cs_L_41 ⟨Nat.le_of_ble_eq_true rfl, Nat.le_of_ble_eq_true rfl⟩ ⟨rfl, rfl⟩ (ci := 5) (cn := (RX5, TX5, 4)) rfl (q0 := 0) rfl (wn := w_qt_tp_sh_pa_sc_dr_pl E a_qt a_tp a_sh a_pa a_sc a_dr a_pl tp_bytes tp_size sh_names sh_nameLengths sh_groups sh_types sh_flat sh_size pa_itemPlaces pa_waitingSigns pa_waitingPlaces pa_waiting pa_nested pa_fault sc_token sc_start sc_end sc_numberRead sc_escaped sc_bytesBehind dr_items dr_behindBy dr_steps dr_literalTypes dr_numbers dr_textStarts dr_textLengths dr_textBytes dr_itemCount dr_byCount dr_stepCount dr_literalCount dr_textEnd pl_items pl_behindBy pl_steps pl_literalTypes pl_numbers pl_textStarts pl_textLengths pl_textBytes pl_itemCount pl_byCount pl_stepCount pl_literalCount pl_textEnd ++ w_mo E a_mo mo_code mo_tape mo_text mo_taped mo_size mo_at mo_ill mo_in mo_kind mo_type mo_long1 mo_letters mo_fields mo_kept mo_now mo_many mo_itemKind mo_itemField mo_itemPlace mo_by mo_stepKind mo_stepField mo_stepOperator mo_stepOther mo_stepMany mo_literalType mo_literalFrom mo_literalSize mo_bytes mo_said mo_number mo_pile mo_pilePlace mo_top mo_open) (Jn.left _ _ _) rfl hl.1 rfl (Nat.le_of_ble_eq_true rfl) dL_law_321 ⟨Nat.le_of_ble_eq_true rfl, Nat.le_of_ble_eq_true rfl⟩ (fun H locs hw => ?_)
      refine lv_aload_n hx hb dL_law_324 rfl (lv_at hl 2 rfl) ?_
      refine lv_aload_n hx hb dL_law_325 rfl (lv_at hl 0 rfl) ?_
      refine lv_iload_n hx hb dL_law_326 rfl (lv_at hl 3 rfl) ?_
      refine lv_iconst (v := 1) hx hb dL_law_327 (by decide) ?_
      refine lv_iadd hx hb dL_law_328 ?_
      refine va_sld hx hb hX hbl hbA hw.2.2 g1 dL_law_329 ?_
      refine lv_aload_n hx hb dL_law_330 rfl (lv_at hl 0 rfl) ?_
      refine lv_iload_n hx hb dL_law_331 rfl (lv_at hl 3 rfl) ?_
      refine lv_iconst (v := 2) hx hb dL_law_332 (by decide) ?_
      refine lv_iadd hx hb dL_law_333 ?_
      refine va_sld hx hb hX hbl hbA hw.2.2 g2 dL_law_334 ?_
      refine cI_V C hw (c_X6_step l E a_mo mo_code mo_tape mo_text mo_taped mo_size mo_at mo_ill mo_in mo_kind mo_type mo_long1 mo_letters mo_fields mo_kept mo_now mo_many mo_itemKind mo_itemField mo_itemPlace mo_by mo_stepKind mo_stepField mo_stepOperator mo_stepOther mo_stepMany mo_literalType mo_literalFrom mo_literalSize mo_bytes mo_said mo_number mo_pile mo_pilePlace mo_top mo_open (xs (x3 + 1).toNatClampNeg) (xs (x3 + 2).toNatClampNeg) r b_mo_code hM) cs_L_44 ⟨Nat.le_of_ble_eq_true rfl, Nat.le_of_ble_eq_true rfl⟩ ⟨rfl, rfl⟩ (ci := 6) (cn := (RX6, TX6, 35)) rfl (q0 := 32) rfl (wn := w_qt_tp_sh_pa_sc_dr_pl E a_qt a_tp a_sh a_pa a_sc a_dr a_pl tp_bytes tp_size sh_names sh_nameLengths sh_groups sh_types sh_flat sh_size pa_itemPlaces pa_waitingSigns pa_waitingPlaces pa_waiting pa_nested pa_fault sc_token sc_start sc_end sc_numberRead sc_escaped sc_bytesBehind dr_items dr_behindBy dr_steps dr_literalTypes dr_numbers dr_textStarts dr_textLengths dr_textBytes dr_itemCount dr_byCount dr_stepCount dr_literalCount dr_textEnd pl_items pl_behindBy pl_steps pl_literalTypes pl_numbers pl_textStarts pl_textLengths pl_textBytes pl_itemCount pl_byCount pl_stepCount pl_literalCount pl_textEnd ++ w_mo E a_mo b_mo_code mo_tape mo_text mo_taped mo_size mo_at mo_ill mo_in mo_kind mo_type mo_long1 mo_letters mo_fields mo_kept mo_now mo_many mo_itemKind mo_itemField mo_itemPlace mo_by mo_stepKind mo_stepField mo_stepOperator mo_stepOther mo_stepMany mo_literalType mo_literalFrom mo_literalSize mo_bytes mo_said mo_number mo_pile mo_pilePlace mo_top mo_open) (Jn.right _ _ _) rfl hl.1 rfl (Nat.le_of_ble_eq_true rfl) dL_law_335 ⟨Nat.le_of_ble_eq_true rfl, Nat.le_of_ble_eq_true rfl⟩ (fun H locs hw => ?_)
      refine lv_icmp_eq (tgt := 446) hx hb dL_law_338 (by decide) (fun _ => ?_) (fun z => absurd rfl z)
      obtain ⟨x4, ex4⟩ : ∃ y : Int32, y = x3 + 6 := ⟨_, rfl⟩
      refine lv_iinc (v := x4) (lv' := [(3, .int x4), (0, .ref b), (1, .ref (a_qt 0)), (2, .ref (a_mo 0))]) hx hb dL_law_446 hl (k := 3) rfl (by rw [ex4]; rfl) (by decide) rfl (fun ls hl => ?_)
      refine lv_goto (tgt := 18) hx hb dL_law_449 (by decide) ?_
      exact ih (i + 6) x4 tp_bytes tp_size sh_names sh_nameLengths sh_groups sh_types sh_flat sh_size pa_itemPlaces pa_waitingSigns pa_waitingPlaces pa_waiting pa_nested pa_fault sc_token sc_start sc_end sc_numberRead sc_escaped sc_bytesBehind dr_items dr_behindBy dr_steps dr_literalTypes dr_numbers dr_textStarts dr_textLengths dr_textBytes dr_itemCount dr_byCount dr_stepCount dr_literalCount dr_textEnd pl_items pl_behindBy pl_steps pl_literalTypes pl_numbers pl_textStarts pl_textLengths pl_textBytes pl_itemCount pl_byCount pl_stepCount pl_literalCount pl_textEnd b_mo_code mo_tape mo_text mo_taped mo_size mo_at mo_ill mo_in mo_kind mo_type mo_long1 mo_letters mo_fields mo_kept mo_now mo_many mo_itemKind mo_itemField mo_itemPlace mo_by mo_stepKind mo_stepField mo_stepOperator mo_stepOther mo_stepMany mo_literalType mo_literalFrom mo_literalSize mo_bytes mo_said mo_number mo_pile mo_pilePlace mo_top mo_open hi6 (by omega) (by rw [ex4, ex3]; exact nI_add i 6) hI2 _ _ _ hw (lv_sub hl [1, 2, 3, 0] rfl)
    by_cases k_7 : sw = (7 : Int32)
    · refine lv_tab (off := 310) (tgt := 343) hx hb dL_law_33 (by rw [k_7]; rfl) (by decide) ?_
      obtain ⟨r, hC, b_mo_code, hM, hI2⟩ := S_literal (xs (x3 + 1).toNatClampNeg) tp_bytes tp_size sh_names sh_nameLengths sh_groups sh_types sh_flat sh_size pl_items pl_behindBy pl_steps pl_literalTypes pl_numbers pl_textStarts pl_textLengths pl_textBytes pl_itemCount pl_byCount pl_stepCount pl_literalCount pl_textEnd mo_code mo_tape mo_taped mo_in mo_kind mo_type mo_long1 mo_letters mo_fields mo_kept mo_many mo_itemKind mo_itemField mo_by mo_stepKind mo_stepField mo_stepOperator mo_stepOther mo_stepMany mo_literalType mo_literalFrom mo_literalSize mo_bytes mo_number hI
      refine lv_aload_n hx hb dL_law_343 rfl (lv_at hl 1 rfl) ?_
      refine lv_aload_n hx hb dL_law_344 rfl (lv_at hl 0 rfl) ?_
      refine lv_iload_n hx hb dL_law_345 rfl (lv_at hl 3 rfl) ?_
      refine lv_iconst (v := 1) hx hb dL_law_346 (by decide) ?_
      refine lv_iadd hx hb dL_law_347 ?_
      refine va_sld hx hb hX hbl hbA hw.2.2 g1 dL_law_348 ?_
      refine cI_V C hw (c_X5_literal l E a_qt a_tp a_sh a_pa a_sc a_dr a_pl tp_bytes tp_size sh_names sh_nameLengths sh_groups sh_types sh_flat sh_size pa_itemPlaces pa_waitingSigns pa_waitingPlaces pa_waiting pa_nested pa_fault sc_token sc_start sc_end sc_numberRead sc_escaped sc_bytesBehind dr_items dr_behindBy dr_steps dr_literalTypes dr_numbers dr_textStarts dr_textLengths dr_textBytes dr_itemCount dr_byCount dr_stepCount dr_literalCount dr_textEnd pl_items pl_behindBy pl_steps pl_literalTypes pl_numbers pl_textStarts pl_textLengths pl_textBytes pl_itemCount pl_byCount pl_stepCount pl_literalCount pl_textEnd (xs (x3 + 1).toNatClampNeg) r hC) cs_L_45 ⟨Nat.le_of_ble_eq_true rfl, Nat.le_of_ble_eq_true rfl⟩ ⟨rfl, rfl⟩ (ci := 5) (cn := (RX5, TX5, 4)) rfl (q0 := 0) rfl (wn := w_qt_tp_sh_pa_sc_dr_pl E a_qt a_tp a_sh a_pa a_sc a_dr a_pl tp_bytes tp_size sh_names sh_nameLengths sh_groups sh_types sh_flat sh_size pa_itemPlaces pa_waitingSigns pa_waitingPlaces pa_waiting pa_nested pa_fault sc_token sc_start sc_end sc_numberRead sc_escaped sc_bytesBehind dr_items dr_behindBy dr_steps dr_literalTypes dr_numbers dr_textStarts dr_textLengths dr_textBytes dr_itemCount dr_byCount dr_stepCount dr_literalCount dr_textEnd pl_items pl_behindBy pl_steps pl_literalTypes pl_numbers pl_textStarts pl_textLengths pl_textBytes pl_itemCount pl_byCount pl_stepCount pl_literalCount pl_textEnd ++ w_mo E a_mo mo_code mo_tape mo_text mo_taped mo_size mo_at mo_ill mo_in mo_kind mo_type mo_long1 mo_letters mo_fields mo_kept mo_now mo_many mo_itemKind mo_itemField mo_itemPlace mo_by mo_stepKind mo_stepField mo_stepOperator mo_stepOther mo_stepMany mo_literalType mo_literalFrom mo_literalSize mo_bytes mo_said mo_number mo_pile mo_pilePlace mo_top mo_open) (Jn.left _ _ _) rfl hl.1 rfl (Nat.le_of_ble_eq_true rfl) dL_law_349 ⟨Nat.le_of_ble_eq_true rfl, Nat.le_of_ble_eq_true rfl⟩ (fun H locs hw => ?_)
      refine lv_aload_n hx hb dL_law_352 rfl (lv_at hl 2 rfl) ?_
      refine lv_aload_n hx hb dL_law_353 rfl (lv_at hl 0 rfl) ?_
      refine lv_iload_n hx hb dL_law_354 rfl (lv_at hl 3 rfl) ?_
      refine lv_iconst (v := 1) hx hb dL_law_355 (by decide) ?_
      refine lv_iadd hx hb dL_law_356 ?_
      refine va_sld hx hb hX hbl hbA hw.2.2 g1 dL_law_357 ?_
      refine cI_V C hw (c_X6_literal l E a_mo mo_code mo_tape mo_text mo_taped mo_size mo_at mo_ill mo_in mo_kind mo_type mo_long1 mo_letters mo_fields mo_kept mo_now mo_many mo_itemKind mo_itemField mo_itemPlace mo_by mo_stepKind mo_stepField mo_stepOperator mo_stepOther mo_stepMany mo_literalType mo_literalFrom mo_literalSize mo_bytes mo_said mo_number mo_pile mo_pilePlace mo_top mo_open (xs (x3 + 1).toNatClampNeg) r b_mo_code hM) cs_L_48 ⟨Nat.le_of_ble_eq_true rfl, Nat.le_of_ble_eq_true rfl⟩ ⟨rfl, rfl⟩ (ci := 6) (cn := (RX6, TX6, 35)) rfl (q0 := 32) rfl (wn := w_qt_tp_sh_pa_sc_dr_pl E a_qt a_tp a_sh a_pa a_sc a_dr a_pl tp_bytes tp_size sh_names sh_nameLengths sh_groups sh_types sh_flat sh_size pa_itemPlaces pa_waitingSigns pa_waitingPlaces pa_waiting pa_nested pa_fault sc_token sc_start sc_end sc_numberRead sc_escaped sc_bytesBehind dr_items dr_behindBy dr_steps dr_literalTypes dr_numbers dr_textStarts dr_textLengths dr_textBytes dr_itemCount dr_byCount dr_stepCount dr_literalCount dr_textEnd pl_items pl_behindBy pl_steps pl_literalTypes pl_numbers pl_textStarts pl_textLengths pl_textBytes pl_itemCount pl_byCount pl_stepCount pl_literalCount pl_textEnd ++ w_mo E a_mo b_mo_code mo_tape mo_text mo_taped mo_size mo_at mo_ill mo_in mo_kind mo_type mo_long1 mo_letters mo_fields mo_kept mo_now mo_many mo_itemKind mo_itemField mo_itemPlace mo_by mo_stepKind mo_stepField mo_stepOperator mo_stepOther mo_stepMany mo_literalType mo_literalFrom mo_literalSize mo_bytes mo_said mo_number mo_pile mo_pilePlace mo_top mo_open) (Jn.right _ _ _) rfl hl.1 rfl (Nat.le_of_ble_eq_true rfl) dL_law_358 ⟨Nat.le_of_ble_eq_true rfl, Nat.le_of_ble_eq_true rfl⟩ (fun H locs hw => ?_)
      refine lv_icmp_eq (tgt := 446) hx hb dL_law_361 (by decide) (fun _ => ?_) (fun z => absurd rfl z)
      obtain ⟨x4, ex4⟩ : ∃ y : Int32, y = x3 + 6 := ⟨_, rfl⟩
      refine lv_iinc (v := x4) (lv' := [(3, .int x4), (0, .ref b), (1, .ref (a_qt 0)), (2, .ref (a_mo 0))]) hx hb dL_law_446 hl (k := 3) rfl (by rw [ex4]; rfl) (by decide) rfl (fun ls hl => ?_)
      refine lv_goto (tgt := 18) hx hb dL_law_449 (by decide) ?_
      exact ih (i + 6) x4 tp_bytes tp_size sh_names sh_nameLengths sh_groups sh_types sh_flat sh_size pa_itemPlaces pa_waitingSigns pa_waitingPlaces pa_waiting pa_nested pa_fault sc_token sc_start sc_end sc_numberRead sc_escaped sc_bytesBehind dr_items dr_behindBy dr_steps dr_literalTypes dr_numbers dr_textStarts dr_textLengths dr_textBytes dr_itemCount dr_byCount dr_stepCount dr_literalCount dr_textEnd pl_items pl_behindBy pl_steps pl_literalTypes pl_numbers pl_textStarts pl_textLengths pl_textBytes pl_itemCount pl_byCount pl_stepCount pl_literalCount pl_textEnd b_mo_code mo_tape mo_text mo_taped mo_size mo_at mo_ill mo_in mo_kind mo_type mo_long1 mo_letters mo_fields mo_kept mo_now mo_many mo_itemKind mo_itemField mo_itemPlace mo_by mo_stepKind mo_stepField mo_stepOperator mo_stepOther mo_stepMany mo_literalType mo_literalFrom mo_literalSize mo_bytes mo_said mo_number mo_pile mo_pilePlace mo_top mo_open hi6 (by omega) (by rw [ex4, ex3]; exact nI_add i 6) hI2 _ _ _ hw (lv_sub hl [1, 2, 3, 0] rfl)
    by_cases k_8 : sw = (8 : Int32)
    · refine lv_tab (off := 333) (tgt := 366) hx hb dL_law_33 (by rw [k_8]; rfl) (by decide) ?_
      obtain ⟨r, hC, b_mo_code, hM, hI2⟩ := S_number (xs (x3 + 1).toNatClampNeg) tp_bytes tp_size sh_names sh_nameLengths sh_groups sh_types sh_flat sh_size pl_items pl_behindBy pl_steps pl_literalTypes pl_numbers pl_textStarts pl_textLengths pl_textBytes pl_itemCount pl_byCount pl_stepCount pl_literalCount pl_textEnd mo_code mo_tape mo_taped mo_in mo_kind mo_type mo_long1 mo_letters mo_fields mo_kept mo_many mo_itemKind mo_itemField mo_by mo_stepKind mo_stepField mo_stepOperator mo_stepOther mo_stepMany mo_literalType mo_literalFrom mo_literalSize mo_bytes mo_number hI
      refine lv_aload_n hx hb dL_law_366 rfl (lv_at hl 1 rfl) ?_
      refine lv_aload_n hx hb dL_law_367 rfl (lv_at hl 0 rfl) ?_
      refine lv_iload_n hx hb dL_law_368 rfl (lv_at hl 3 rfl) ?_
      refine lv_iconst (v := 1) hx hb dL_law_369 (by decide) ?_
      refine lv_iadd hx hb dL_law_370 ?_
      refine va_sld hx hb hX hbl hbA hw.2.2 g1 dL_law_371 ?_
      refine cL_V C hw (c_X5_number l E a_qt a_tp a_sh a_pa a_sc a_dr a_pl tp_bytes tp_size sh_names sh_nameLengths sh_groups sh_types sh_flat sh_size pa_itemPlaces pa_waitingSigns pa_waitingPlaces pa_waiting pa_nested pa_fault sc_token sc_start sc_end sc_numberRead sc_escaped sc_bytesBehind dr_items dr_behindBy dr_steps dr_literalTypes dr_numbers dr_textStarts dr_textLengths dr_textBytes dr_itemCount dr_byCount dr_stepCount dr_literalCount dr_textEnd pl_items pl_behindBy pl_steps pl_literalTypes pl_numbers pl_textStarts pl_textLengths pl_textBytes pl_itemCount pl_byCount pl_stepCount pl_literalCount pl_textEnd (xs (x3 + 1).toNatClampNeg) r hC) cs_L_49 ⟨Nat.le_of_ble_eq_true rfl, Nat.le_of_ble_eq_true rfl⟩ ⟨rfl, rfl⟩ (ci := 5) (cn := (RX5, TX5, 4)) rfl (q0 := 0) rfl (wn := w_qt_tp_sh_pa_sc_dr_pl E a_qt a_tp a_sh a_pa a_sc a_dr a_pl tp_bytes tp_size sh_names sh_nameLengths sh_groups sh_types sh_flat sh_size pa_itemPlaces pa_waitingSigns pa_waitingPlaces pa_waiting pa_nested pa_fault sc_token sc_start sc_end sc_numberRead sc_escaped sc_bytesBehind dr_items dr_behindBy dr_steps dr_literalTypes dr_numbers dr_textStarts dr_textLengths dr_textBytes dr_itemCount dr_byCount dr_stepCount dr_literalCount dr_textEnd pl_items pl_behindBy pl_steps pl_literalTypes pl_numbers pl_textStarts pl_textLengths pl_textBytes pl_itemCount pl_byCount pl_stepCount pl_literalCount pl_textEnd ++ w_mo E a_mo mo_code mo_tape mo_text mo_taped mo_size mo_at mo_ill mo_in mo_kind mo_type mo_long1 mo_letters mo_fields mo_kept mo_now mo_many mo_itemKind mo_itemField mo_itemPlace mo_by mo_stepKind mo_stepField mo_stepOperator mo_stepOther mo_stepMany mo_literalType mo_literalFrom mo_literalSize mo_bytes mo_said mo_number mo_pile mo_pilePlace mo_top mo_open) (Jn.left _ _ _) rfl hl.1 rfl (Nat.le_of_ble_eq_true rfl) dL_law_372 ⟨Nat.le_of_ble_eq_true rfl, Nat.le_of_ble_eq_true rfl⟩ (fun H locs hw => ?_)
      refine lv_aload_n hx hb dL_law_375 rfl (lv_at hl 2 rfl) ?_
      refine lv_aload_n hx hb dL_law_376 rfl (lv_at hl 0 rfl) ?_
      refine lv_iload_n hx hb dL_law_377 rfl (lv_at hl 3 rfl) ?_
      refine lv_iconst (v := 1) hx hb dL_law_378 (by decide) ?_
      refine lv_iadd hx hb dL_law_379 ?_
      refine va_sld hx hb hX hbl hbA hw.2.2 g1 dL_law_380 ?_
      refine cL_V C hw (c_X6_number l E a_mo mo_code mo_tape mo_text mo_taped mo_size mo_at mo_ill mo_in mo_kind mo_type mo_long1 mo_letters mo_fields mo_kept mo_now mo_many mo_itemKind mo_itemField mo_itemPlace mo_by mo_stepKind mo_stepField mo_stepOperator mo_stepOther mo_stepMany mo_literalType mo_literalFrom mo_literalSize mo_bytes mo_said mo_number mo_pile mo_pilePlace mo_top mo_open (xs (x3 + 1).toNatClampNeg) r b_mo_code hM) cs_L_53 ⟨Nat.le_of_ble_eq_true rfl, Nat.le_of_ble_eq_true rfl⟩ ⟨rfl, rfl⟩ (ci := 6) (cn := (RX6, TX6, 35)) rfl (q0 := 32) rfl (wn := w_qt_tp_sh_pa_sc_dr_pl E a_qt a_tp a_sh a_pa a_sc a_dr a_pl tp_bytes tp_size sh_names sh_nameLengths sh_groups sh_types sh_flat sh_size pa_itemPlaces pa_waitingSigns pa_waitingPlaces pa_waiting pa_nested pa_fault sc_token sc_start sc_end sc_numberRead sc_escaped sc_bytesBehind dr_items dr_behindBy dr_steps dr_literalTypes dr_numbers dr_textStarts dr_textLengths dr_textBytes dr_itemCount dr_byCount dr_stepCount dr_literalCount dr_textEnd pl_items pl_behindBy pl_steps pl_literalTypes pl_numbers pl_textStarts pl_textLengths pl_textBytes pl_itemCount pl_byCount pl_stepCount pl_literalCount pl_textEnd ++ w_mo E a_mo b_mo_code mo_tape mo_text mo_taped mo_size mo_at mo_ill mo_in mo_kind mo_type mo_long1 mo_letters mo_fields mo_kept mo_now mo_many mo_itemKind mo_itemField mo_itemPlace mo_by mo_stepKind mo_stepField mo_stepOperator mo_stepOther mo_stepMany mo_literalType mo_literalFrom mo_literalSize mo_bytes mo_said mo_number mo_pile mo_pilePlace mo_top mo_open) (Jn.right _ _ _) rfl hl.1 rfl (Nat.le_of_ble_eq_true rfl) dL_law_381 ⟨Nat.le_of_ble_eq_true rfl, Nat.le_of_ble_eq_true rfl⟩ (fun H locs hw => ?_)
      refine W.lcmp hx hb dL_law_384 ?_
      refine lv_if_eq (tgt := 446) hx hb dL_law_385 (by decide) (fun _ => ?_) (fun z => absurd (lg_cmp_self r) z)
      obtain ⟨x4, ex4⟩ : ∃ y : Int32, y = x3 + 6 := ⟨_, rfl⟩
      refine lv_iinc (v := x4) (lv' := [(3, .int x4), (0, .ref b), (1, .ref (a_qt 0)), (2, .ref (a_mo 0))]) hx hb dL_law_446 hl (k := 3) rfl (by rw [ex4]; rfl) (by decide) rfl (fun ls hl => ?_)
      refine lv_goto (tgt := 18) hx hb dL_law_449 (by decide) ?_
      exact ih (i + 6) x4 tp_bytes tp_size sh_names sh_nameLengths sh_groups sh_types sh_flat sh_size pa_itemPlaces pa_waitingSigns pa_waitingPlaces pa_waiting pa_nested pa_fault sc_token sc_start sc_end sc_numberRead sc_escaped sc_bytesBehind dr_items dr_behindBy dr_steps dr_literalTypes dr_numbers dr_textStarts dr_textLengths dr_textBytes dr_itemCount dr_byCount dr_stepCount dr_literalCount dr_textEnd pl_items pl_behindBy pl_steps pl_literalTypes pl_numbers pl_textStarts pl_textLengths pl_textBytes pl_itemCount pl_byCount pl_stepCount pl_literalCount pl_textEnd b_mo_code mo_tape mo_text mo_taped mo_size mo_at mo_ill mo_in mo_kind mo_type mo_long1 mo_letters mo_fields mo_kept mo_now mo_many mo_itemKind mo_itemField mo_itemPlace mo_by mo_stepKind mo_stepField mo_stepOperator mo_stepOther mo_stepMany mo_literalType mo_literalFrom mo_literalSize mo_bytes mo_said mo_number mo_pile mo_pilePlace mo_top mo_open hi6 (by omega) (by rw [ex4, ex3]; exact nI_add i 6) hI2 _ _ _ hw (lv_sub hl [1, 2, 3, 0] rfl)
    by_cases k_9 : sw = (9 : Int32)
    · refine lv_tab (off := 357) (tgt := 390) hx hb dL_law_33 (by rw [k_9]; rfl) (by decide) ?_
      obtain ⟨r, hC, b_mo_code, hM, hI2⟩ := S_length (xs (x3 + 1).toNatClampNeg) tp_bytes tp_size sh_names sh_nameLengths sh_groups sh_types sh_flat sh_size pl_items pl_behindBy pl_steps pl_literalTypes pl_numbers pl_textStarts pl_textLengths pl_textBytes pl_itemCount pl_byCount pl_stepCount pl_literalCount pl_textEnd mo_code mo_tape mo_taped mo_in mo_kind mo_type mo_long1 mo_letters mo_fields mo_kept mo_many mo_itemKind mo_itemField mo_by mo_stepKind mo_stepField mo_stepOperator mo_stepOther mo_stepMany mo_literalType mo_literalFrom mo_literalSize mo_bytes mo_number hI
      refine lv_aload_n hx hb dL_law_390 rfl (lv_at hl 1 rfl) ?_
      refine lv_aload_n hx hb dL_law_391 rfl (lv_at hl 0 rfl) ?_
      refine lv_iload_n hx hb dL_law_392 rfl (lv_at hl 3 rfl) ?_
      refine lv_iconst (v := 1) hx hb dL_law_393 (by decide) ?_
      refine lv_iadd hx hb dL_law_394 ?_
      refine va_sld hx hb hX hbl hbA hw.2.2 g1 dL_law_395 ?_
      refine cI_V C hw (c_X5_length l E a_qt a_tp a_sh a_pa a_sc a_dr a_pl tp_bytes tp_size sh_names sh_nameLengths sh_groups sh_types sh_flat sh_size pa_itemPlaces pa_waitingSigns pa_waitingPlaces pa_waiting pa_nested pa_fault sc_token sc_start sc_end sc_numberRead sc_escaped sc_bytesBehind dr_items dr_behindBy dr_steps dr_literalTypes dr_numbers dr_textStarts dr_textLengths dr_textBytes dr_itemCount dr_byCount dr_stepCount dr_literalCount dr_textEnd pl_items pl_behindBy pl_steps pl_literalTypes pl_numbers pl_textStarts pl_textLengths pl_textBytes pl_itemCount pl_byCount pl_stepCount pl_literalCount pl_textEnd (xs (x3 + 1).toNatClampNeg) r hC) cs_L_54 ⟨Nat.le_of_ble_eq_true rfl, Nat.le_of_ble_eq_true rfl⟩ ⟨rfl, rfl⟩ (ci := 5) (cn := (RX5, TX5, 4)) rfl (q0 := 0) rfl (wn := w_qt_tp_sh_pa_sc_dr_pl E a_qt a_tp a_sh a_pa a_sc a_dr a_pl tp_bytes tp_size sh_names sh_nameLengths sh_groups sh_types sh_flat sh_size pa_itemPlaces pa_waitingSigns pa_waitingPlaces pa_waiting pa_nested pa_fault sc_token sc_start sc_end sc_numberRead sc_escaped sc_bytesBehind dr_items dr_behindBy dr_steps dr_literalTypes dr_numbers dr_textStarts dr_textLengths dr_textBytes dr_itemCount dr_byCount dr_stepCount dr_literalCount dr_textEnd pl_items pl_behindBy pl_steps pl_literalTypes pl_numbers pl_textStarts pl_textLengths pl_textBytes pl_itemCount pl_byCount pl_stepCount pl_literalCount pl_textEnd ++ w_mo E a_mo mo_code mo_tape mo_text mo_taped mo_size mo_at mo_ill mo_in mo_kind mo_type mo_long1 mo_letters mo_fields mo_kept mo_now mo_many mo_itemKind mo_itemField mo_itemPlace mo_by mo_stepKind mo_stepField mo_stepOperator mo_stepOther mo_stepMany mo_literalType mo_literalFrom mo_literalSize mo_bytes mo_said mo_number mo_pile mo_pilePlace mo_top mo_open) (Jn.left _ _ _) rfl hl.1 rfl (Nat.le_of_ble_eq_true rfl) dL_law_396 ⟨Nat.le_of_ble_eq_true rfl, Nat.le_of_ble_eq_true rfl⟩ (fun H locs hw => ?_)
      refine lv_aload_n hx hb dL_law_399 rfl (lv_at hl 2 rfl) ?_
      refine lv_aload_n hx hb dL_law_400 rfl (lv_at hl 0 rfl) ?_
      refine lv_iload_n hx hb dL_law_401 rfl (lv_at hl 3 rfl) ?_
      refine lv_iconst (v := 1) hx hb dL_law_402 (by decide) ?_
      refine lv_iadd hx hb dL_law_403 ?_
      refine va_sld hx hb hX hbl hbA hw.2.2 g1 dL_law_404 ?_
      refine cI_V C hw (c_X6_length l E a_mo mo_code mo_tape mo_text mo_taped mo_size mo_at mo_ill mo_in mo_kind mo_type mo_long1 mo_letters mo_fields mo_kept mo_now mo_many mo_itemKind mo_itemField mo_itemPlace mo_by mo_stepKind mo_stepField mo_stepOperator mo_stepOther mo_stepMany mo_literalType mo_literalFrom mo_literalSize mo_bytes mo_said mo_number mo_pile mo_pilePlace mo_top mo_open (xs (x3 + 1).toNatClampNeg) r b_mo_code hM) cs_L_57 ⟨Nat.le_of_ble_eq_true rfl, Nat.le_of_ble_eq_true rfl⟩ ⟨rfl, rfl⟩ (ci := 6) (cn := (RX6, TX6, 35)) rfl (q0 := 32) rfl (wn := w_qt_tp_sh_pa_sc_dr_pl E a_qt a_tp a_sh a_pa a_sc a_dr a_pl tp_bytes tp_size sh_names sh_nameLengths sh_groups sh_types sh_flat sh_size pa_itemPlaces pa_waitingSigns pa_waitingPlaces pa_waiting pa_nested pa_fault sc_token sc_start sc_end sc_numberRead sc_escaped sc_bytesBehind dr_items dr_behindBy dr_steps dr_literalTypes dr_numbers dr_textStarts dr_textLengths dr_textBytes dr_itemCount dr_byCount dr_stepCount dr_literalCount dr_textEnd pl_items pl_behindBy pl_steps pl_literalTypes pl_numbers pl_textStarts pl_textLengths pl_textBytes pl_itemCount pl_byCount pl_stepCount pl_literalCount pl_textEnd ++ w_mo E a_mo b_mo_code mo_tape mo_text mo_taped mo_size mo_at mo_ill mo_in mo_kind mo_type mo_long1 mo_letters mo_fields mo_kept mo_now mo_many mo_itemKind mo_itemField mo_itemPlace mo_by mo_stepKind mo_stepField mo_stepOperator mo_stepOther mo_stepMany mo_literalType mo_literalFrom mo_literalSize mo_bytes mo_said mo_number mo_pile mo_pilePlace mo_top mo_open) (Jn.right _ _ _) rfl hl.1 rfl (Nat.le_of_ble_eq_true rfl) dL_law_405 ⟨Nat.le_of_ble_eq_true rfl, Nat.le_of_ble_eq_true rfl⟩ (fun H locs hw => ?_)
      refine lv_icmp_eq (tgt := 446) hx hb dL_law_408 (by decide) (fun _ => ?_) (fun z => absurd rfl z)
      obtain ⟨x4, ex4⟩ : ∃ y : Int32, y = x3 + 6 := ⟨_, rfl⟩
      refine lv_iinc (v := x4) (lv' := [(3, .int x4), (0, .ref b), (1, .ref (a_qt 0)), (2, .ref (a_mo 0))]) hx hb dL_law_446 hl (k := 3) rfl (by rw [ex4]; rfl) (by decide) rfl (fun ls hl => ?_)
      refine lv_goto (tgt := 18) hx hb dL_law_449 (by decide) ?_
      exact ih (i + 6) x4 tp_bytes tp_size sh_names sh_nameLengths sh_groups sh_types sh_flat sh_size pa_itemPlaces pa_waitingSigns pa_waitingPlaces pa_waiting pa_nested pa_fault sc_token sc_start sc_end sc_numberRead sc_escaped sc_bytesBehind dr_items dr_behindBy dr_steps dr_literalTypes dr_numbers dr_textStarts dr_textLengths dr_textBytes dr_itemCount dr_byCount dr_stepCount dr_literalCount dr_textEnd pl_items pl_behindBy pl_steps pl_literalTypes pl_numbers pl_textStarts pl_textLengths pl_textBytes pl_itemCount pl_byCount pl_stepCount pl_literalCount pl_textEnd b_mo_code mo_tape mo_text mo_taped mo_size mo_at mo_ill mo_in mo_kind mo_type mo_long1 mo_letters mo_fields mo_kept mo_now mo_many mo_itemKind mo_itemField mo_itemPlace mo_by mo_stepKind mo_stepField mo_stepOperator mo_stepOther mo_stepMany mo_literalType mo_literalFrom mo_literalSize mo_bytes mo_said mo_number mo_pile mo_pilePlace mo_top mo_open hi6 (by omega) (by rw [ex4, ex3]; exact nI_add i 6) hI2 _ _ _ hw (lv_sub hl [1, 2, 3, 0] rfl)
    by_cases k_10 : sw = (10 : Int32)
    · refine lv_tab (off := 380) (tgt := 413) hx hb dL_law_33 (by rw [k_10]; rfl) (by decide) ?_
      obtain ⟨r, hC, b_mo_code, hM, hI2⟩ := S_byteOf (xs (x3 + 1).toNatClampNeg) (xs (x3 + 2).toNatClampNeg) tp_bytes tp_size sh_names sh_nameLengths sh_groups sh_types sh_flat sh_size pl_items pl_behindBy pl_steps pl_literalTypes pl_numbers pl_textStarts pl_textLengths pl_textBytes pl_itemCount pl_byCount pl_stepCount pl_literalCount pl_textEnd mo_code mo_tape mo_taped mo_in mo_kind mo_type mo_long1 mo_letters mo_fields mo_kept mo_many mo_itemKind mo_itemField mo_by mo_stepKind mo_stepField mo_stepOperator mo_stepOther mo_stepMany mo_literalType mo_literalFrom mo_literalSize mo_bytes mo_number hI
      refine lv_aload_n hx hb dL_law_413 rfl (lv_at hl 1 rfl) ?_
      refine lv_aload_n hx hb dL_law_414 rfl (lv_at hl 0 rfl) ?_
      refine lv_iload_n hx hb dL_law_415 rfl (lv_at hl 3 rfl) ?_
      refine lv_iconst (v := 1) hx hb dL_law_416 (by decide) ?_
      refine lv_iadd hx hb dL_law_417 ?_
      refine va_sld hx hb hX hbl hbA hw.2.2 g1 dL_law_418 ?_
      refine lv_aload_n hx hb dL_law_419 rfl (lv_at hl 0 rfl) ?_
      refine lv_iload_n hx hb dL_law_420 rfl (lv_at hl 3 rfl) ?_
      refine lv_iconst (v := 2) hx hb dL_law_421 (by decide) ?_
      refine lv_iadd hx hb dL_law_422 ?_
      refine va_sld hx hb hX hbl hbA hw.2.2 g2 dL_law_423 ?_
      refine cI_V C hw (c_X5_byteOf l E a_qt a_tp a_sh a_pa a_sc a_dr a_pl tp_bytes tp_size sh_names sh_nameLengths sh_groups sh_types sh_flat sh_size pa_itemPlaces pa_waitingSigns pa_waitingPlaces pa_waiting pa_nested pa_fault sc_token sc_start sc_end sc_numberRead sc_escaped sc_bytesBehind dr_items dr_behindBy dr_steps dr_literalTypes dr_numbers dr_textStarts dr_textLengths dr_textBytes dr_itemCount dr_byCount dr_stepCount dr_literalCount dr_textEnd pl_items pl_behindBy pl_steps pl_literalTypes pl_numbers pl_textStarts pl_textLengths pl_textBytes pl_itemCount pl_byCount pl_stepCount pl_literalCount pl_textEnd (xs (x3 + 1).toNatClampNeg) (xs (x3 + 2).toNatClampNeg) r hC) cs_L_58 ⟨Nat.le_of_ble_eq_true rfl, Nat.le_of_ble_eq_true rfl⟩ ⟨rfl, rfl⟩ (ci := 5) (cn := (RX5, TX5, 4)) rfl (q0 := 0) rfl (wn := w_qt_tp_sh_pa_sc_dr_pl E a_qt a_tp a_sh a_pa a_sc a_dr a_pl tp_bytes tp_size sh_names sh_nameLengths sh_groups sh_types sh_flat sh_size pa_itemPlaces pa_waitingSigns pa_waitingPlaces pa_waiting pa_nested pa_fault sc_token sc_start sc_end sc_numberRead sc_escaped sc_bytesBehind dr_items dr_behindBy dr_steps dr_literalTypes dr_numbers dr_textStarts dr_textLengths dr_textBytes dr_itemCount dr_byCount dr_stepCount dr_literalCount dr_textEnd pl_items pl_behindBy pl_steps pl_literalTypes pl_numbers pl_textStarts pl_textLengths pl_textBytes pl_itemCount pl_byCount pl_stepCount pl_literalCount pl_textEnd ++ w_mo E a_mo mo_code mo_tape mo_text mo_taped mo_size mo_at mo_ill mo_in mo_kind mo_type mo_long1 mo_letters mo_fields mo_kept mo_now mo_many mo_itemKind mo_itemField mo_itemPlace mo_by mo_stepKind mo_stepField mo_stepOperator mo_stepOther mo_stepMany mo_literalType mo_literalFrom mo_literalSize mo_bytes mo_said mo_number mo_pile mo_pilePlace mo_top mo_open) (Jn.left _ _ _) rfl hl.1 rfl (Nat.le_of_ble_eq_true rfl) dL_law_424 ⟨Nat.le_of_ble_eq_true rfl, Nat.le_of_ble_eq_true rfl⟩ (fun H locs hw => ?_)
      refine lv_aload_n hx hb dL_law_427 rfl (lv_at hl 2 rfl) ?_
      refine lv_aload_n hx hb dL_law_428 rfl (lv_at hl 0 rfl) ?_
      refine lv_iload_n hx hb dL_law_429 rfl (lv_at hl 3 rfl) ?_
      refine lv_iconst (v := 1) hx hb dL_law_430 (by decide) ?_
      refine lv_iadd hx hb dL_law_431 ?_
      refine va_sld hx hb hX hbl hbA hw.2.2 g1 dL_law_432 ?_
      refine lv_aload_n hx hb dL_law_433 rfl (lv_at hl 0 rfl) ?_
      refine lv_iload_n hx hb dL_law_434 rfl (lv_at hl 3 rfl) ?_
      refine lv_iconst (v := 2) hx hb dL_law_435 (by decide) ?_
      refine lv_iadd hx hb dL_law_436 ?_
      refine va_sld hx hb hX hbl hbA hw.2.2 g2 dL_law_437 ?_
      refine cI_V C hw (c_X6_byteOf l E a_mo mo_code mo_tape mo_text mo_taped mo_size mo_at mo_ill mo_in mo_kind mo_type mo_long1 mo_letters mo_fields mo_kept mo_now mo_many mo_itemKind mo_itemField mo_itemPlace mo_by mo_stepKind mo_stepField mo_stepOperator mo_stepOther mo_stepMany mo_literalType mo_literalFrom mo_literalSize mo_bytes mo_said mo_number mo_pile mo_pilePlace mo_top mo_open (xs (x3 + 1).toNatClampNeg) (xs (x3 + 2).toNatClampNeg) r b_mo_code hM) cs_L_61 ⟨Nat.le_of_ble_eq_true rfl, Nat.le_of_ble_eq_true rfl⟩ ⟨rfl, rfl⟩ (ci := 6) (cn := (RX6, TX6, 35)) rfl (q0 := 32) rfl (wn := w_qt_tp_sh_pa_sc_dr_pl E a_qt a_tp a_sh a_pa a_sc a_dr a_pl tp_bytes tp_size sh_names sh_nameLengths sh_groups sh_types sh_flat sh_size pa_itemPlaces pa_waitingSigns pa_waitingPlaces pa_waiting pa_nested pa_fault sc_token sc_start sc_end sc_numberRead sc_escaped sc_bytesBehind dr_items dr_behindBy dr_steps dr_literalTypes dr_numbers dr_textStarts dr_textLengths dr_textBytes dr_itemCount dr_byCount dr_stepCount dr_literalCount dr_textEnd pl_items pl_behindBy pl_steps pl_literalTypes pl_numbers pl_textStarts pl_textLengths pl_textBytes pl_itemCount pl_byCount pl_stepCount pl_literalCount pl_textEnd ++ w_mo E a_mo b_mo_code mo_tape mo_text mo_taped mo_size mo_at mo_ill mo_in mo_kind mo_type mo_long1 mo_letters mo_fields mo_kept mo_now mo_many mo_itemKind mo_itemField mo_itemPlace mo_by mo_stepKind mo_stepField mo_stepOperator mo_stepOther mo_stepMany mo_literalType mo_literalFrom mo_literalSize mo_bytes mo_said mo_number mo_pile mo_pilePlace mo_top mo_open) (Jn.right _ _ _) rfl hl.1 rfl (Nat.le_of_ble_eq_true rfl) dL_law_438 ⟨Nat.le_of_ble_eq_true rfl, Nat.le_of_ble_eq_true rfl⟩ (fun H locs hw => ?_)
      refine lv_icmp_eq (tgt := 446) hx hb dL_law_441 (by decide) (fun _ => ?_) (fun z => absurd rfl z)
      obtain ⟨x4, ex4⟩ : ∃ y : Int32, y = x3 + 6 := ⟨_, rfl⟩
      refine lv_iinc (v := x4) (lv' := [(3, .int x4), (0, .ref b), (1, .ref (a_qt 0)), (2, .ref (a_mo 0))]) hx hb dL_law_446 hl (k := 3) rfl (by rw [ex4]; rfl) (by decide) rfl (fun ls hl => ?_)
      refine lv_goto (tgt := 18) hx hb dL_law_449 (by decide) ?_
      exact ih (i + 6) x4 tp_bytes tp_size sh_names sh_nameLengths sh_groups sh_types sh_flat sh_size pa_itemPlaces pa_waitingSigns pa_waitingPlaces pa_waiting pa_nested pa_fault sc_token sc_start sc_end sc_numberRead sc_escaped sc_bytesBehind dr_items dr_behindBy dr_steps dr_literalTypes dr_numbers dr_textStarts dr_textLengths dr_textBytes dr_itemCount dr_byCount dr_stepCount dr_literalCount dr_textEnd pl_items pl_behindBy pl_steps pl_literalTypes pl_numbers pl_textStarts pl_textLengths pl_textBytes pl_itemCount pl_byCount pl_stepCount pl_literalCount pl_textEnd b_mo_code mo_tape mo_text mo_taped mo_size mo_at mo_ill mo_in mo_kind mo_type mo_long1 mo_letters mo_fields mo_kept mo_now mo_many mo_itemKind mo_itemField mo_itemPlace mo_by mo_stepKind mo_stepField mo_stepOperator mo_stepOther mo_stepMany mo_literalType mo_literalFrom mo_literalSize mo_bytes mo_said mo_number mo_pile mo_pilePlace mo_top mo_open hi6 (by omega) (by rw [ex4, ex3]; exact nI_add i 6) hI2 _ _ _ hw (lv_sub hl [1, 2, 3, 0] rfl)
    have n0 := lv_neT k_0 (a := 0) rfl
    have n1 := lv_neT k_1 (a := 1) rfl
    have n2 := lv_neT k_2 (a := 2) rfl
    have n3 := lv_neT k_3 (a := 3) rfl
    have n4 := lv_neT k_4 (a := 4) rfl
    have n5 := lv_neT k_5 (a := 5) rfl
    have n6 := lv_neT k_6 (a := 6) rfl
    have n7 := lv_neT k_7 (a := 7) rfl
    have n8 := lv_neT k_8 (a := 8) rfl
    have n9 := lv_neT k_9 (a := 9) rfl
    have n10 := lv_neT k_10 (a := 10) rfl
    have hq : (if sw.toInt < 0 ∨ 10 < sw.toInt then some (413 : Int) else (#[59, 122, 175, 198, 221, 254, 277, 310, 333, 357, 380] : Array Int)[(sw.toInt - 0).toNat]?) = some (413) := by
      rw [if_pos (by omega)]
    refine lv_tab (off := 413) (tgt := 446) hx hb dL_law_33 hq (by decide) ?_
    obtain ⟨x4, ex4⟩ : ∃ y : Int32, y = x3 + 6 := ⟨_, rfl⟩
    refine lv_iinc (v := x4) (lv' := [(3, .int x4), (0, .ref b), (1, .ref (a_qt 0)), (2, .ref (a_mo 0))]) hx hb dL_law_446 hl (k := 3) rfl (by rw [ex4]; rfl) (by decide) rfl (fun ls hl => ?_)
    refine lv_goto (tgt := 18) hx hb dL_law_449 (by decide) ?_
    exact ih (i + 6) x4 tp_bytes tp_size sh_names sh_nameLengths sh_groups sh_types sh_flat sh_size pa_itemPlaces pa_waitingSigns pa_waitingPlaces pa_waiting pa_nested pa_fault sc_token sc_start sc_end sc_numberRead sc_escaped sc_bytesBehind dr_items dr_behindBy dr_steps dr_literalTypes dr_numbers dr_textStarts dr_textLengths dr_textBytes dr_itemCount dr_byCount dr_stepCount dr_literalCount dr_textEnd pl_items pl_behindBy pl_steps pl_literalTypes pl_numbers pl_textStarts pl_textLengths pl_textBytes pl_itemCount pl_byCount pl_stepCount pl_literalCount pl_textEnd mo_code mo_tape mo_text mo_taped mo_size mo_at mo_ill mo_in mo_kind mo_type mo_long1 mo_letters mo_fields mo_kept mo_now mo_many mo_itemKind mo_itemField mo_itemPlace mo_by mo_stepKind mo_stepField mo_stepOperator mo_stepOther mo_stepMany mo_literalType mo_literalFrom mo_literalSize mo_bytes mo_said mo_number mo_pile mo_pilePlace mo_top mo_open hi6 (by omega) (by rw [ex4, ex3]; exact nI_add i 6) hI _ _ _ hw (lv_sub hl [1, 2, 3, 0] rfl)
