/-! the rows below are this claim's own layer over the kit: one list of words for all methods, one form of contract, one row a kind of step -/
def GW : List Cond := lw_tbl.filter goodWord
theorem gw_of {w : Cond} (h : w ∈ lw_tbl) (g : goodWord w = true) : w ∈ GW := List.mem_filter.mpr ⟨h, g⟩
theorem gw_good {w : Cond} (h : w ∈ GW) : w ∈ GW ∧ ((w.onTables && w.keeps) = true ∨ ∃ ty, w = .arrayClass ty) := ⟨h, good_of_word (List.mem_filter.mp h).2⟩
theorem gw_in {ws : List Cond} (h : ∀ w ∈ ws, w ∈ GW) : GoodIn GW ws := fun w hw => gw_good (h w hw)
theorem gw_cons {w : Cond} (h : w ∈ GW) : ∀ x ∈ w :: GW, x ∈ GW := fun x hx => (List.mem_cons.mp hx).elim (fun e => e ▸ h) id
/-- what a run of calls keeps: tables of classes (dC, dI), the array types, the lowest address of its own cells, the text's two addresses -/
abbrev EnvT : Type := va_G × (ClassId × ClassId × ClassId) × Nat × Nat × Nat
abbrev eG (E : EnvT) : va_G := E.1
abbrev eI (E : EnvT) : ClassId := E.2.1.1
abbrev eL (E : EnvT) : ClassId := E.2.1.2.1
abbrev eZ (E : EnvT) : ClassId := E.2.1.2.2
abbrev eLo (E : EnvT) : Nat := E.2.2.1
abbrev tyE (E : EnvT) : List (ClassId × FieldType) := [(E.2.1.1, .int), (E.2.1.2.1, .long), (E.2.1.2.2, .boolean)]
def sT : String := "select where group by and or not is null in true false count sum min max "
def sB : List Int32 := [115, 101, 108, 101, 99, 116, 32, 119, 104, 101, 114, 101, 32, 103, 114, 111, 117, 112, 32, 98, 121, 32, 97, 110, 100, 32, 111, 114, 32, 110, 111, 116, 32, 105, 115, 32, 110, 117, 108, 108, 32, 105, 110, 32, 116, 114, 117, 101, 32, 102, 97, 108, 115, 101, 32, 99, 111, 117, 110, 116, 32, 115, 117, 109, 32, 109, 105, 110, 32, 109, 97, 120, 32]
def isNest : Cond → Bool
  | .fieldLinkNest .. => true
  | .methodLinkNest .. => true
  | _ => false
def nestWs : List Cond := lw_tbl.filter isNest
theorem nest_of {w : Cond} (h : w ∈ lw_tbl) (g : isNest w = true) : w ∈ nestWs := List.mem_filter.mpr ⟨h, g⟩
/-- what holds outside the cells: links to nest mates' members, the text of the words, two statics -/
def EN (E : EnvT) (U : State) : Prop := (∀ w ∈ nestWs, va_Nw w U) ∧ vk_R RX2 54 sT E.2.2.2.1 U ∧ vk_S 1 [73] [sB] (fun _ => E.2.2.2.1) (fun _ => E.2.2.2.2) (fun q => E.2.2.1 ≤ q) U U.heap ∧ va_Z "java/lang/String" "COMPACT_STRINGS" "Z" (.int 1) (fun q => E.2.2.1 ≤ q) U U.heap ∧ va_Zq "jdk/internal/util/Preconditions" "SIOOBE_FORMATTER" "Ljava/util/function/BiFunction;" (fun q => E.2.2.1 ≤ q) U U.heap
theorem nest_cases {w : Cond} (h : isNest w = true) : (∃ a i b n d g, w = .fieldLinkNest a i b n d g) ∨ ∃ a i x g, w = .methodLinkNest a i x g := by
  cases w <;> first | exact Or.inl ⟨_, _, _, _, _, _, rfl⟩ | exact Or.inr ⟨_, _, _, _, rfl⟩ | (simp [isNest] at h; done)
theorem nest_warm {w : Cond} (h : isNest w = true) {s U : State} (hW : s.WarmedH U.vm) (hZ : va_Nw w s) : va_Nw w U := by
  rcases nest_cases h with ⟨a, i, b, n, d, g, rfl⟩ | ⟨a, i, x, g, rfl⟩
  · exact va_Nw.warmF hW hZ
  · exact va_Nw.warmM hW hZ
theorem nest_same {w : Cond} (h : isNest w = true) {s U : State} (hv : s.vm = U.vm) (hZ : va_Nw w s) : va_Nw w U := by
  rcases nest_cases h with ⟨a, i, b, n, d, g, rfl⟩ | ⟨a, i, x, g, rfl⟩
  · exact va_Nw.same rfl hv hZ
  · exact va_Nw.same rfl hv hZ
theorem nest_use {w : Cond} (h : isNest w = true) {A : Array Value} {U : State} (hZ : va_Nw w U) : w.before A U = true := by
  rcases nest_cases h with ⟨a, i, b, n, d, g, rfl⟩ | ⟨a, i, x, g, rfl⟩
  · exact va_Nw.use rfl hZ
  · exact va_Nw.use rfl hZ
theorem EN.call {E : EnvT} {U : State} {g : JFrame} {mk : MethodId} {a : Array Value} (h : EN E U) : EN E (U.calling g mk a) := by
  obtain ⟨h1, h2, h3, h4, h5⟩ := h
  exact ⟨fun w hw => nest_same (List.mem_filter.mp hw).2 (U := U.calling g mk a) rfl (h1 w hw), vk_R.same (u := U) (U := U.calling g mk a) rfl h2, vk_S.moved (u := U) (U := U.calling g mk a) (Vm.Alike.refl U.vm) h3, va_Z.moved (u := U) (U := U.calling g mk a) (Vm.Alike.refl U.vm) h4, va_Zq.moved (u := U) (U := U.calling g mk a) (Vm.Alike.refl U.vm) h5⟩
theorem EN.move {E : EnvT} {s U : State} (h : EN E s) (hW : s.WarmedH U.vm) (hq : ∀ a : Nat, a < s.heap.size → ¬ E.2.2.1 ≤ a → U.heap[a]? = s.heap[a]?) : EN E U := by
  obtain ⟨h1, h2, h3, h4, h5⟩ := h
  exact ⟨fun w hw => nest_warm (List.mem_filter.mp hw).2 hW (h1 w hw), vk_R.warm hW h2, vk_S.kept (vk_S.moved hW.alike h3) hq, va_Z.kept (va_Z.moved hW.alike h4) hq, va_Zq.kept (va_Zq.moved hW.alike h5) hq⟩
/-- a method's start: the cells ws alone, all of them the run's own -/
def PreW (E : EnvT) (ws : va_W) (sz : Nat) (U : State) : Prop := U.heap.size = sz ∧ va_P E.1 vwCl ws U.heap ∧ va_K E.1 vwCl (tyE E) U ∧ va_D (fun q => E.2.2.1 ≤ q) ws ∧ E.2.2.1 ≤ sz ∧ EN E U
def PostW (E : EnvT) (A : Nat → Prop) (ws : va_W) (t : State) : Prop := va_P E.1 vwCl ws t.heap ∧ va_D A ws
abbrev QcI (E : EnvT) (A : Nat → Prop) (w1 : va_W) (r : Int32) : Array Value → State → Outcome → State → Prop := va_Qi (fun (r' : Int32) (_ : Unit) => r' = r) (fun _ t => PostW E A w1 t) A
abbrev QcL (E : EnvT) (A : Nat → Prop) (w1 : va_W) (r : Int64) : Array Value → State → Outcome → State → Prop := va_Ql (fun (r' : Int64) (_ : Unit) => r' = r) (fun _ t => PostW E A w1 t) A
abbrev QcV (E : EnvT) (A : Nat → Prop) (w1 : va_W) : Array Value → State → Outcome → State → Prop := va_Qv (fun (_ : Unit) => True) (fun _ t => PostW E A w1 t) A
/-- contracts: from the cells w0 the method returns (r), and they are w1 -/
def CI (l : Launch) (y : MethodName) (cw : Cond) (rm : Room) (E : EnvT) (av : List Value) (w0 : va_W) (r : Int32) (w1 : va_W) : Prop := ∀ sz : Nat, Met l y (cw :: GW) rm (va_Pc av (PreW E w0 sz)) (QcI E (va_A w0 sz) w1 r) 0 0 (va_A w0 sz)
def CL (l : Launch) (y : MethodName) (cw : Cond) (rm : Room) (E : EnvT) (av : List Value) (w0 : va_W) (r : Int64) (w1 : va_W) : Prop := ∀ sz : Nat, Met l y (cw :: GW) rm (va_Pc av (PreW E w0 sz)) (QcL E (va_A w0 sz) w1 r) 0 0 (va_A w0 sz)
def CV (l : Launch) (y : MethodName) (cw : Cond) (rm : Room) (E : EnvT) (av : List Value) (w0 : va_W) (w1 : va_W) : Prop := ∀ sz : Nat, Met l y (cw :: GW) rm (va_Pc av (PreW E w0 sz)) (QcV E (va_A w0 sz) w1) 0 0 (va_A w0 sz)
/-- within a method -/
def MC (p : Program) (s : State) (m : MethodId) (args : Array Value) (meth : Method) (c : Code) (E : EnvT) (A : Nat → Prop) (cc : ByteArray) (nL : Nat) (own : String) (ret : Option FieldType) : Prop :=
  p.tables.exec = Jvm.exec ∧ c.code = cc ∧ c.maxLocals = nL ∧ s.vm.findClass own = some m.cls ∧ (∀ w ∈ GW, w.before args s = true) ∧ meth.sig.returnType = ret ∧ meth.locks = false ∧ EN E s ∧ va_K E.1 vwCl (tyE E) s ∧ (∀ q, s.heap.size ≤ q → A q) ∧ (∀ q, A q → E.2.2.1 ≤ q)
def WS (E : EnvT) (A : Nat → Prop) (s : State) (ws : va_W) (H : Heap) (locs : List Loc) : Prop := va_P E.1 vwCl ws H ∧ va_D A ws ∧ va_S A s.heap H locs
theorem met_start {l : Launch} {y : MethodName} {cc : ByteArray} {nL : Nat} {ret : Option FieldType} {rm : Room} {E : EnvT} {av : List Value} {w0 : va_W} {sz mc ms : Nat} {Qc : Array Value → State → Outcome → State → Prop} {free : Nat → Prop} (lv : List (Nat × Value)) (hy : plainName y.cls = true) (hlv : lv_args 0 av = lv) (hn : (lg_sl av).length ≤ nL) (hf : free = va_A w0 sz)
    (body : ∀ (p : Program) (e : Env) (s : State) (m : MethodId) (below : List Frame) (meth : Method) (c : Code) (ls : Array Slot), MC p s m av.toArray meth c E free cc nL y.cls ret → s.methodNamed? y = some m → s.vm.method? m = some meth → WS E free s w0 s.heap [] → lv_has ls nL lv → W p l e rm s m av.toArray below meth c s.heap [] 0 0 (MQ below Qc av.toArray s mc ms free) (F0 m 0 ls [])) :
    Met l y (Cond.code y cc nL ret :: GW) rm (va_Pc av (PreW E w0 sz)) Qc mc ms free := by
  refine Met.ofW (cc := cc) (maxL := nL) (ret := ret) hy rfl ?_
  intro p e s m args below meth c s₁ B hml hv
  obtain ⟨rfl, hsz, hP, hK, hD0, hlo, hE⟩ := hv
  have hts := atoms_spec (ws := Cond.code y cc nL ret :: GW) B.pre
  subst hsz
  subst hf
  have hl := lv_entry av (n := nL) hn
  rw [lg_entry_eq]
  generalize (lg_sl av ++ List.replicate (nL - (lg_sl av).length) Slot.unset).toArray = ls at hl ⊢
  rw [hlv] at hl
  refine body p e s m below meth c ls ⟨B.exec, B.bytes, hml, findClass_of_methodNamed B.named, fun w h => hts w (List.mem_cons_of_mem _ h), B.returns, B.notSynchronized, hE, hK, fun q h => Or.inr h, ?_⟩ B.named B.method ⟨hP, hD0.self, va_S.rf⟩ hl
  intro q h
  rcases h with ⟨k, e, h⟩ | h
  · exact hD0.2 k (q, e) h
  · exact Nat.le_trans hlo h
section ROWS
variable {p : Program} {l : Launch} {e : Env} {R : Room} {s : State} {m : MethodId} {args : Array Value} {below : List Frame} {meth : Method} {c : Code} {H : Heap} {locs : List Loc} {cells slots : Nat} {Q : State → Prop}
variable {cc : ByteArray} {pc : Nat} {ls : Array Slot} {rest : List Value} {E : EnvT} {A : Nat → Prop} {a nL : Nat} {own : String} {ret : Option FieldType} {ws : va_W}
theorem rg (C : MC p s m args meth c E A cc nL own ret) (hw : WS E A s ws H locs) {Cn : String} {T : u_T} {N ci index : Nat} (hin : ∀ w ∈ u_ws Cn T N, w ∈ GW) (q0 : Nat) {fs : List Value} (he : ws[q0]? = some (a, .inr (ci, fs))) (hc : vwCl[ci]? = some (Cn, T, N)) (k : Nat) (hk : k < N) (hlink : Cond.fieldLink own index (T k).1 (T k).2.1 (T k).2.2.1 ∈ GW) {v : Value} (hv : fs[k]? = some v) (hdg : decode cc pc = .ok (.getfield index, 3))
    (kk : W p l e R s m args below meth c H locs cells slots Q (F0 m (pc + 3) ls (v :: rest))) : W p l e R s m args below meth c H locs cells slots Q (F0 m pc ls (.ref a :: rest)) := by
  obtain ⟨hx, hb, hml, hown, hts, hr, hlk, hE, hK, hA, hlo⟩ := C
  exact va_get (D := E.1) hx hb hts hin hown hK hw.1 q0 he hc k hk (hts _ hlink) (fun _ h9 => h9) hv hdg kk
theorem rgN (C : MC p s m args meth c E A cc nL own ret) (hw : WS E A s ws H locs) {Cn host : String} {T : u_T} {N ci index : Nat} (hin : ∀ w ∈ u_ws Cn T N, w ∈ GW) (q0 : Nat) {fs : List Value} (he : ws[q0]? = some (a, .inr (ci, fs))) (hc : vwCl[ci]? = some (Cn, T, N)) (k : Nat) (hk : k < N) (hlink : Cond.fieldLinkNest own index (T k).1 (T k).2.1 (T k).2.2.1 host ∈ nestWs) {v : Value} (hv : fs[k]? = some v) (hdg : decode cc pc = .ok (.getfield index, 3))
    (kk : W p l e R s m args below meth c H locs cells slots Q (F0 m (pc + 3) ls (v :: rest))) : W p l e R s m args below meth c H locs cells slots Q (F0 m pc ls (.ref a :: rest)) := by
  obtain ⟨hx, hb, hml, hown, hts, hr, hlk, hE, hK, hA, hlo⟩ := C
  exact va_getN (D := E.1) hx hb hts hin hown hK hw.1 q0 he hc k hk (nest_use rfl (hE.1 _ hlink)) (fun _ h9 => h9) hv hdg kk
theorem rp (C : MC p s m args meth c E A cc nL own ret) (hw : WS E A s ws H locs) {Cn : String} {T : u_T} {N ci index : Nat} (hin : ∀ w ∈ u_ws Cn T N, w ∈ GW) (ty0 : Nat → FieldType) (hty : ∀ k, k < N → parseFieldDescriptor (T k).2.2.1 = some (ty0 k)) (hnm : ∀ a, a < N → ∀ b, b < N → a ≠ b → (T a).2.1 ≠ (T b).2.1) (q0 : Nat) {fs : List Value} (he : ws[q0]? = some (a, .inr (ci, fs))) (hc : vwCl[ci]? = some (Cn, T, N)) (k : Nat) (hk : k < N) (hlink : Cond.fieldLink own index (T k).1 (T k).2.1 (T k).2.2.1 ∈ GW) (hfin : (T k).2.2.2 = false) {ty : FieldType} {v : Value} (hd : parseFieldDescriptor (T k).2.2.1 = some ty) (hn : narrow ty v = v) (hfit : fits ty v = true) (hl : k < fs.length) {ws' : va_W} (hset : ws.set q0 (a, .inr (ci, fs.set k v)) = ws') (hdg : decode cc pc = .ok (.putfield index, 3))
    (kk : ∀ (H1 : Heap) (locs1 : List Loc), WS E A s ws' H1 locs1 → W p l e R s m args below meth c H1 locs1 cells slots Q (F0 m (pc + 3) ls rest)) : W p l e R s m args below meth c H locs cells slots Q (F0 m pc ls (v :: .ref a :: rest)) := by
  obtain ⟨hx, hb, hml, hown, hts, hr, hlk, hE, hK, hA, hlo⟩ := C
  subst hset
  exact va_put (D := E.1) hx hb hts hin ty0 hty hnm hown hK hw.1 hw.2.1 hw.2.2 q0 he hc k hk (hts _ hlink) (fun _ h9 => h9) hfin hd hn hfit hl hdg (fun H1 l1 h1 h2 h3 => kk H1 l1 ⟨h1, h2, h3⟩)
theorem ra_i (C : MC p s m args meth c E A cc nL own ret) (hw : WS E A s ws H locs) (q0 : Nat) {n : Nat} {f : Nat → Int32} (he : ws[q0]? = some (a, .inl (E.2.1.1, n, .inl f))) {i : Int32} (hin : vp_in i n) (hdg : decode cc pc = .ok (.iaload, 1))
    (kk : W p l e R s m args below meth c H locs cells slots Q (F0 m (pc + 1) ls (.int (f i.toNatClampNeg) :: rest))) : W p l e R s m args below meth c H locs cells slots Q (F0 m pc ls (.int i :: .ref a :: rest)) := by
  obtain ⟨hx, hb, hml, hown, hts, hr, hlk, hE, hK, hA, hlo⟩ := C
  exact va_iald hx hb hK hw.1 q0 0 he rfl hin hdg kk
theorem ra_l (C : MC p s m args meth c E A cc nL own ret) (hw : WS E A s ws H locs) (q0 : Nat) {n : Nat} {f : Nat → Int64} (he : ws[q0]? = some (a, .inl (E.2.1.2.1, n, .inr (.inl f)))) {i : Int32} (hin : vp_in i n) (hdg : decode cc pc = .ok (.laload, 1))
    (kk : W p l e R s m args below meth c H locs cells slots Q (F0 m (pc + 1) ls (.long (f i.toNatClampNeg) :: rest))) : W p l e R s m args below meth c H locs cells slots Q (F0 m pc ls (.int i :: .ref a :: rest)) := by
  obtain ⟨hx, hb, hml, hown, hts, hr, hlk, hE, hK, hA, hlo⟩ := C
  exact va_lald hx hb hK hw.1 q0 1 he rfl hin hdg kk
theorem ra_z (C : MC p s m args meth c E A cc nL own ret) (hw : WS E A s ws H locs) (q0 : Nat) {n : Nat} {f : Nat → Int32} (he : ws[q0]? = some (a, .inl (E.2.1.2.2, n, .inl f))) {i : Int32} (hin : vp_in i n) (hdg : decode cc pc = .ok (.baload, 1))
    (kk : W p l e R s m args below meth c H locs cells slots Q (F0 m (pc + 1) ls (.int (f i.toNatClampNeg) :: rest))) : W p l e R s m args below meth c H locs cells slots Q (F0 m pc ls (.int i :: .ref a :: rest)) := by
  obtain ⟨hx, hb, hml, hown, hts, hr, hlk, hE, hK, hA, hlo⟩ := C
  exact va_zald hx hb hK hw.1 q0 2 he rfl hin hdg kk
theorem rs_i (C : MC p s m args meth c E A cc nL own ret) (hw : WS E A s ws H locs) (q0 : Nat) {n : Nat} {f : Nat → Int32} (he : ws[q0]? = some (a, .inl (E.2.1.1, n, .inl f))) {i x : Int32} (hin : vp_in i n) {ws' : va_W} (hset : ws.set q0 (a, .inl (E.2.1.1, n, .inl (upd f i.toNatClampNeg x))) = ws') (hdg : decode cc pc = .ok (.iastore, 1))
    (kk : ∀ (H1 : Heap) (locs1 : List Loc), WS E A s ws' H1 locs1 → W p l e R s m args below meth c H1 locs1 cells slots Q (F0 m (pc + 1) ls rest)) : W p l e R s m args below meth c H locs cells slots Q (F0 m pc ls (.int x :: .int i :: .ref a :: rest)) := by
  obtain ⟨hx, hb, hml, hown, hts, hr, hlk, hE, hK, hA, hlo⟩ := C
  subst hset
  exact va_iast hx hb hK hw.1 hw.2.1 hw.2.2 q0 0 he rfl hin hdg (fun H1 l1 h1 h2 h3 => kk H1 l1 ⟨h1, h2, h3⟩)
theorem rs_l (C : MC p s m args meth c E A cc nL own ret) (hw : WS E A s ws H locs) (q0 : Nat) {n : Nat} {f : Nat → Int64} (he : ws[q0]? = some (a, .inl (E.2.1.2.1, n, .inr (.inl f)))) {i : Int32} {x : Int64} (hin : vp_in i n) {ws' : va_W} (hset : ws.set q0 (a, .inl (E.2.1.2.1, n, .inr (.inl (vp_updL f i.toNatClampNeg x)))) = ws') (hdg : decode cc pc = .ok (.lastore, 1))
    (kk : ∀ (H1 : Heap) (locs1 : List Loc), WS E A s ws' H1 locs1 → W p l e R s m args below meth c H1 locs1 cells slots Q (F0 m (pc + 1) ls rest)) : W p l e R s m args below meth c H locs cells slots Q (F0 m pc ls (.long x :: .int i :: .ref a :: rest)) := by
  obtain ⟨hx, hb, hml, hown, hts, hr, hlk, hE, hK, hA, hlo⟩ := C
  subst hset
  exact va_last hx hb hK hw.1 hw.2.1 hw.2.2 q0 1 he rfl hin hdg (fun H1 l1 h1 h2 h3 => kk H1 l1 ⟨h1, h2, h3⟩)
theorem rs_z (C : MC p s m args meth c E A cc nL own ret) (hw : WS E A s ws H locs) (q0 : Nat) {n : Nat} {f : Nat → Int32} (he : ws[q0]? = some (a, .inl (E.2.1.2.2, n, .inl f))) {i x : Int32} (hin : vp_in i n) {ws' : va_W} (hset : ws.set q0 (a, .inl (E.2.1.2.2, n, .inl (upd f i.toNatClampNeg (vp_nar .boolean x)))) = ws') (hdg : decode cc pc = .ok (.bastore, 1))
    (kk : ∀ (H1 : Heap) (locs1 : List Loc), WS E A s ws' H1 locs1 → W p l e R s m args below meth c H1 locs1 cells slots Q (F0 m (pc + 1) ls rest)) : W p l e R s m args below meth c H locs cells slots Q (F0 m pc ls (.int x :: .int i :: .ref a :: rest)) := by
  obtain ⟨hx, hb, hml, hown, hts, hr, hlk, hE, hK, hA, hlo⟩ := C
  subst hset
  exact va_zast hx hb hK hw.1 hw.2.1 hw.2.2 q0 2 he rfl hin hdg (fun H1 l1 h1 h2 h3 => kk H1 l1 ⟨h1, h2, h3⟩)
theorem rc2 (C : MC p s m args meth c E A cc nL own ret) {index : Nat} {v : Int64} (hl : Cond.constantLong own index v ∈ GW) (hdg : decode cc pc = .ok (.ldc2_w index, 3)) (k : W p l e R s m args below meth c H locs cells slots Q (F0 m (pc + 3) ls (.long v :: rest))) : W p l e R s m args below meth c H locs cells slots Q (F0 m pc ls rest) := by
  obtain ⟨hx, hb, hml, hown, hts, hr, hlk, hE, hK, hA, hlo⟩ := C
  exact lv_ldc2 hx hb hown (hts _ hl) hdg k
/-- returns -/
theorem rt_i (C : MC p s m args meth c E A cc nL own (some .int)) (hw : WS E A s ws H locs) {r : Int32} (hdg : decode cc pc = .ok (.ireturn, 1)) : W p l e R s m args below meth c H locs cells slots (MQ below (QcI E A ws r) args s cells slots A) (F0 m pc ls [.int r]) := by
  obtain ⟨hx, hb, hml, hown, hts, hr, hlk, hE, hK, hA, hlo⟩ := C
  exact W.iret (v := r) hx hb hr (fun t ht hW => ⟨⟨r, (), rfl, rfl, by rw [ht]; exact hw.1, hw.2.1⟩, hw.2.2.F ht⟩) hw.2.2.2.2 hdg hlk
theorem nar_b {v : Int32} (h : v = 0 ∨ v = 1) : narrow .boolean (.int v) = .int v := by
  rcases h with rfl | rfl <;> rfl
theorem rt_z (C : MC p s m args meth c E A cc nL own (some .boolean)) (hw : WS E A s ws H locs) {r : Int32} (hz : r = 0 ∨ r = 1) (hdg : decode cc pc = .ok (.ireturn, 1)) : W p l e R s m args below meth c H locs cells slots (MQ below (QcI E A ws r) args s cells slots A) (F0 m pc ls [.int r]) := by
  obtain ⟨hx, hb, hml, hown, hts, hr, hlk, hE, hK, hA, hlo⟩ := C
  exact W.zret (v := r) hx hb hr (nar_b hz) (fun t ht hW => ⟨⟨r, (), rfl, rfl, by rw [ht]; exact hw.1, hw.2.1⟩, hw.2.2.F ht⟩) hw.2.2.2.2 hdg hlk
theorem rt_l (C : MC p s m args meth c E A cc nL own (some .long)) (hw : WS E A s ws H locs) {r : Int64} (hdg : decode cc pc = .ok (.lreturn, 1)) : W p l e R s m args below meth c H locs cells slots (MQ below (QcL E A ws r) args s cells slots A) (F0 m pc ls [.long r]) := by
  obtain ⟨hx, hb, hml, hown, hts, hr, hlk, hE, hK, hA, hlo⟩ := C
  exact W.lret (v := r) hx hb hr (fun t ht hW => ⟨⟨r, (), rfl, rfl, by rw [ht]; exact hw.1, hw.2.1⟩, hw.2.2.F ht⟩) hw.2.2.2.2 hdg hlk
theorem rt_v (C : MC p s m args meth c E A cc nL own none) (hw : WS E A s ws H locs) (hdg : decode cc pc = .ok (.return_, 1)) : W p l e R s m args below meth c H locs cells slots (MQ below (QcV E A ws) args s cells slots A) (F0 m pc ls []) := by
  obtain ⟨hx, hb, hml, hown, hts, hr, hlk, hE, hK, hA, hlo⟩ := C
  exact W.vret hx hb hr (fun t ht hW => ⟨⟨(), rfl, trivial, by rw [ht]; exact hw.1, hw.2.1⟩, hw.2.2.F ht⟩) hw.2.2.2.2 hdg hlk
/-- a call's cells among the caller's: the callee's wc, which become w1; all together wn behind it -/
def Jn (ws wc w1 wn : va_W) : Prop := ∃ isC isR is : List Nat, isC.map (fun i => ws[i]?) = wc.map some ∧ va_nd isC = true ∧ isR.map (fun i => ws[i]?) = (isR.filterMap (fun i => ws[i]?)).map some ∧ va_nd isR = true ∧ (∀ i ∈ isR, i ∉ isC) ∧ is.map (fun i => (isR.filterMap (fun i => ws[i]?) ++ w1)[i]?) = wn.map some ∧ va_nd is = true
theorem fm_of {α β : Type} {f : α → Option β} {is : List α} {w : List β} (h : is.map f = w.map some) : is.filterMap f = w := by
  induction is generalizing w with
  | nil =>
    cases w with
    | nil => rfl
    | cons b w => cases h
  | cons a is ih =>
    cases w with
    | nil => cases h
    | cons b w =>
      simp only [List.map_cons, List.cons.injEq] at h
      rw [List.filterMap_cons, h.1, ih h.2]
theorem nd_range' : ∀ (n k : Nat), va_nd (List.range' k n) = true := by
  intro n
  induction n with
  | zero => intro k; rfl
  | succ n ih =>
    intro k
    rw [List.range'_succ, va_nd, ih (k + 1), Bool.and_true, decide_eq_true_eq]
    intro h
    rw [List.mem_range'_1] at h
    omega
theorem nd_range (n : Nat) : va_nd (List.range n) = true := by rw [List.range_eq_range']; exact nd_range' n 0
theorem map_range {α : Type} (w : List α) : (List.range w.length).map (fun i => w[i]?) = w.map some := by
  apply List.ext_getElem
  · simp
  · intro i h1 h2
    simp at h1 h2
    simp [h1]
theorem Jn.all (ws w1 : va_W) : Jn ws ws w1 w1 := ⟨List.range ws.length, [], List.range w1.length, map_range ws, nd_range _, rfl, rfl, fun _ h => by cases h, map_range w1, nd_range _⟩
theorem Jn.none (ws : va_W) : Jn ws [] [] ws := by
  refine ⟨[], List.range ws.length, List.range ws.length, rfl, rfl, ?_, nd_range _, fun _ _ h => by cases h, ?_, nd_range _⟩
  · rw [fm_of (map_range ws)]; exact map_range ws
  · rw [fm_of (map_range ws), List.append_nil]; exact map_range ws
theorem ws_join (C : MC p s m args meth c E A cc nL own ret) (hw : WS E A s ws H locs) {wc w1 wn : va_W} (J : Jn ws wc w1 wn) {H1 : Heap} {locs1 : List Loc} (hk : ∀ q : Nat, q < H.size → ¬ va_A wc H.size q → H1[q]? = H[q]?) (hP1 : va_P E.1 vwCl w1 H1) (hD1 : va_D (va_A wc H.size) w1) (hS1 : va_S A s.heap H1 locs1) : WS E A s wn H1 locs1 := by
  obtain ⟨hx, hb, hml, hown, hts, hr, hlk, hE, hK, hA, hlo⟩ := C
  obtain ⟨isC, isR, is, j1, j2, j3, j4, j5, j6, j7⟩ := J
  obtain ⟨hP, hD⟩ := va_join hw.1 hw.2.1 isC isR j1 j3 j4 j5 hk (va_free hw.2.1 hw.2.2 hA isC j1) hP1 hD1
  exact ⟨hP.sub is (fm_of j6), hD.sub is j7 j6, hS1⟩
theorem jn_free (C : MC p s m args meth c E A cc nL own ret) (hw : WS E A s ws H locs) {wc w1 wn : va_W} (J : Jn ws wc w1 wn) : ∀ q, va_A wc H.size q → A q := by
  obtain ⟨hx, hb, hml, hown, hts, hr, hlk, hE, hK, hA, hlo⟩ := C
  obtain ⟨isC, isR, is, j1, j2, j3, j4, j5, j6, j7⟩ := J
  exact va_free hw.2.1 hw.2.2 hA isC j1
theorem pre_call (C : MC p s m args meth c E A cc nL own ret) (hw : WS E A s ws H locs) {wc w1 wn : va_W} (J : Jn ws wc w1 wn) (av : List Value) : ∀ U : State, U.heap = H → s.WarmedH U.vm → va_Pc av (PreW E wc H.size) av.toArray U := by
  obtain ⟨hx, hb, hml, hown, hts, hr, hlk, hE, hK, hA, hlo⟩ := C
  obtain ⟨isC, isR, is, j1, j2, j3, j4, j5, j6, j7⟩ := J
  intro U hU hW
  refine ⟨rfl, by rw [hU], by rw [hU]; exact hw.1.sub isC (fm_of j1), va_K.moved hW.alike hK, (hw.2.1.sub isC j2 j1).weaken (fun _ q _ h => hlo q.1 h), Nat.le_trans (hlo _ (hA _ (Nat.le_refl _))) hw.2.2.1, hE.move hW (fun a ha h => ?_)⟩
  rw [hU]
  exact hw.2.2.2.1 a ha (fun z => h (hlo a z))
theorem pre_blind {wc : va_W} {sz : Nat} {av : List Value} : FrameBlind (va_Pc av (PreW E wc sz)) := by
  intro a U g mk q
  obtain ⟨q0, q1, qP, qK, qD, ql, qE⟩ := q
  exact ⟨q0, q1, qP, va_K.moved (u := U) (U := U.calling g mk a) (Vm.Alike.refl U.vm) qK, qD, ql, qE.call⟩
/-- a call's words: own index: the link in the caller's pool; Cn: the receiver's -/
def CWV (own : String) (index : Nat) (Cn : String) (y : MethodName) (bytes : ByteArray) (maxL : Nat) (rt : Option FieldType) (n : Nat) : Prop := (∀ w ∈ wsV own index Cn y (Cond.code y bytes maxL rt :: GW), w ∈ GW) ∧ (y.cls ≠ "java/lang/invoke/MethodHandle" ∧ y.cls ≠ "java/lang/invoke/VarHandle" ∧ (parseMethodDescriptor y.desc).map (fun d => d.parameters.length) = some n)
theorem cwv {Cn : String} {y : MethodName} {bytes : ByteArray} {maxL index n : Nat} {rt : Option FieldType} (h1 : Cond.methodLink own index y ∈ GW) (h2 : Cond.instanceMethod y ∈ GW) (h3 : Cond.selects Cn y y ∈ GW) (h4 : Cond.initialized Cn ∈ GW) (h5 : Cond.code y bytes maxL rt ∈ GW) (hd : y.cls ≠ "java/lang/invoke/MethodHandle" ∧ y.cls ≠ "java/lang/invoke/VarHandle" ∧ (parseMethodDescriptor y.desc).map (fun d => d.parameters.length) = some n) : CWV own index Cn y bytes maxL rt n := by
  refine ⟨fun w hw => ?_, hd⟩
  rcases List.mem_append.mp hw with hw | hw
  · simp only [List.mem_cons, List.not_mem_nil, or_false] at hw
    rcases hw with rfl | rfl | rfl | rfl <;> assumption
  · exact gw_cons h5 w hw
def CWS (own : String) (index : Nat) (y : MethodName) (bytes : ByteArray) (maxL : Nat) (rt : Option FieldType) (n : Nat) : Prop := (∀ w ∈ wsS own index y (Cond.code y bytes maxL rt :: GW), w ∈ GW) ∧ (y.cls ≠ "java/lang/invoke/MethodHandle" ∧ y.cls ≠ "java/lang/invoke/VarHandle" ∧ (parseMethodDescriptor y.desc).map (fun d => d.parameters.length) = some n)
theorem cws {y : MethodName} {bytes : ByteArray} {maxL index n : Nat} {rt : Option FieldType} (h1 : Cond.methodLink own index y ∈ GW) (h2 : Cond.static y ∈ GW) (h4 : Cond.initialized own ∈ GW) (h5 : Cond.code y bytes maxL rt ∈ GW) (hd : y.cls ≠ "java/lang/invoke/MethodHandle" ∧ y.cls ≠ "java/lang/invoke/VarHandle" ∧ (parseMethodDescriptor y.desc).map (fun d => d.parameters.length) = some n) : CWS own index y bytes maxL rt n := by
  refine ⟨fun w hw => ?_, hd⟩
  rcases List.mem_append.mp hw with hw | hw
  · simp only [List.mem_cons, List.not_mem_nil, or_false] at hw
    rcases hw with rfl | rfl | rfl <;> assumption
  · exact gw_cons h5 w hw
def CWN (own : String) (index : Nat) (y : MethodName) (host : String) (bytes : ByteArray) (maxL : Nat) (rt : Option FieldType) (n : Nat) : Prop := Cond.methodLinkNest own index y host ∈ nestWs ∧ Cond.static y ∈ GW ∧ Cond.initialized y.cls ∈ GW ∧ Cond.code y bytes maxL rt ∈ GW ∧ (y.cls ≠ "java/lang/invoke/MethodHandle" ∧ y.cls ≠ "java/lang/invoke/VarHandle" ∧ (parseMethodDescriptor y.desc).map (fun d => d.parameters.length) = some n)
variable {y : MethodName} {bytes : ByteArray} {maxL index n b ci q0 : Nat} {rt : Option FieldType} {rm : Room} {Cn : String} {As st : List Value} {wc w1 wn : va_W} {fs : List Value} {cn : vw_C}
theorem cI_V (C : MC p s m args meth c E A cc nL own ret) (hw : WS E A s ws H locs) {r : Int32} (hM : CI l y (Cond.code y bytes maxL rt) rm E (.ref b :: As) wc r w1) (cw : CWV own index cn.1 y bytes maxL rt n) (hR : rm.frames + 1 ≤ R.frames ∧ 8 + (maxL + 11) + rm.locals ≤ R.locals) (hz : rm.cells = 0 ∧ rm.slots = 0) (hci : vwCl[ci]? = some cn) (hbb : ws[q0]? = some (b, .inr (ci, fs))) (J : Jn ws wc w1 wn) (hn : As.length = n) (hls : ls.size = nL) (hst : st = As.reverse ++ .ref b :: rest) (hrm : (rest.map fun v => v.category).sum ≤ 8) (hdg : decode cc pc = .ok (.invokevirtual index, 3)) (hc : cells ≤ R.cells ∧ slots ≤ R.slots)
    (kk : ∀ (H1 : Heap) (locs1 : List Loc), WS E A s wn H1 locs1 → W p l e R s m args below meth c H1 locs1 cells slots Q (F0 m (pc + 3) ls (.int r :: rest))) : W p l e R s m args below meth c H locs cells slots Q (F0 m pc ls st) := by
  have C' := C
  obtain ⟨hx, hb, hml, hown, hts, hr, hlk, hE, hK, hA, hlo⟩ := C
  have hF := jn_free C' hw J
  refine va_calli (va_runV (As := As) (rest := rest) ⟨hx, hb, hml, hown, hts⟩ (hM H.size) (cwV n hts (gw_in cw.1) rfl hz.1 hz.2 cw.2 hR) ⟨pre_blind, va_recv hK hw.1 hci hbb, pre_call C' hw J _⟩ rfl hn hls hst (lv_room hrm) hdg hc) hw.2.2 (fun q _ h => hF q h) hF (fun r1 u t H1 locs1 ht hvm hp hB hz1 hk1 hS => ?_)
  subst hp
  obtain ⟨hP1, hD1⟩ := hB
  rw [ht] at hP1
  exact kk H1 locs1 (ws_join C' hw J hk1 hP1 hD1 hS)
theorem cL_V (C : MC p s m args meth c E A cc nL own ret) (hw : WS E A s ws H locs) {r : Int64} (hM : CL l y (Cond.code y bytes maxL rt) rm E (.ref b :: As) wc r w1) (cw : CWV own index cn.1 y bytes maxL rt n) (hR : rm.frames + 1 ≤ R.frames ∧ 8 + (maxL + 11) + rm.locals ≤ R.locals) (hz : rm.cells = 0 ∧ rm.slots = 0) (hci : vwCl[ci]? = some cn) (hbb : ws[q0]? = some (b, .inr (ci, fs))) (J : Jn ws wc w1 wn) (hn : As.length = n) (hls : ls.size = nL) (hst : st = As.reverse ++ .ref b :: rest) (hrm : (rest.map fun v => v.category).sum ≤ 8) (hdg : decode cc pc = .ok (.invokevirtual index, 3)) (hc : cells ≤ R.cells ∧ slots ≤ R.slots)
    (kk : ∀ (H1 : Heap) (locs1 : List Loc), WS E A s wn H1 locs1 → W p l e R s m args below meth c H1 locs1 cells slots Q (F0 m (pc + 3) ls (.long r :: rest))) : W p l e R s m args below meth c H locs cells slots Q (F0 m pc ls st) := by
  have C' := C
  obtain ⟨hx, hb, hml, hown, hts, hr, hlk, hE, hK, hA, hlo⟩ := C
  have hF := jn_free C' hw J
  refine va_calll (va_runV (As := As) (rest := rest) ⟨hx, hb, hml, hown, hts⟩ (hM H.size) (cwV n hts (gw_in cw.1) rfl hz.1 hz.2 cw.2 hR) ⟨pre_blind, va_recv hK hw.1 hci hbb, pre_call C' hw J _⟩ rfl hn hls hst (lv_room hrm) hdg hc) hw.2.2 (fun q _ h => hF q h) hF (fun r1 u t H1 locs1 ht hvm hp hB hz1 hk1 hS => ?_)
  subst hp
  obtain ⟨hP1, hD1⟩ := hB
  rw [ht] at hP1
  exact kk H1 locs1 (ws_join C' hw J hk1 hP1 hD1 hS)
theorem cV_V (C : MC p s m args meth c E A cc nL own ret) (hw : WS E A s ws H locs) (hM : CV l y (Cond.code y bytes maxL rt) rm E (.ref b :: As) wc w1) (cw : CWV own index cn.1 y bytes maxL rt n) (hR : rm.frames + 1 ≤ R.frames ∧ 8 + (maxL + 11) + rm.locals ≤ R.locals) (hz : rm.cells = 0 ∧ rm.slots = 0) (hci : vwCl[ci]? = some cn) (hbb : ws[q0]? = some (b, .inr (ci, fs))) (J : Jn ws wc w1 wn) (hn : As.length = n) (hls : ls.size = nL) (hst : st = As.reverse ++ .ref b :: rest) (hrm : (rest.map fun v => v.category).sum ≤ 8) (hdg : decode cc pc = .ok (.invokevirtual index, 3)) (hc : cells ≤ R.cells ∧ slots ≤ R.slots)
    (kk : ∀ (H1 : Heap) (locs1 : List Loc), WS E A s wn H1 locs1 → W p l e R s m args below meth c H1 locs1 cells slots Q (F0 m (pc + 3) ls rest)) : W p l e R s m args below meth c H locs cells slots Q (F0 m pc ls st) := by
  have C' := C
  obtain ⟨hx, hb, hml, hown, hts, hr, hlk, hE, hK, hA, hlo⟩ := C
  have hF := jn_free C' hw J
  refine va_callv (va_runV (As := As) (rest := rest) ⟨hx, hb, hml, hown, hts⟩ (hM H.size) (cwV n hts (gw_in cw.1) rfl hz.1 hz.2 cw.2 hR) ⟨pre_blind, va_recv hK hw.1 hci hbb, pre_call C' hw J _⟩ rfl hn hls hst (lv_room hrm) hdg hc) hw.2.2 (fun q _ h => hF q h) hF (fun u t H1 locs1 ht hvm hp hB hz1 hk1 hS => ?_)
  obtain ⟨hP1, hD1⟩ := hB
  rw [ht] at hP1
  exact kk H1 locs1 (ws_join C' hw J hk1 hP1 hD1 hS)
theorem cI_S (C : MC p s m args meth c E A cc nL own ret) (hw : WS E A s ws H locs) {r : Int32} (hM : CI l y (Cond.code y bytes maxL rt) rm E As wc r w1) (cw : CWS own index y bytes maxL rt n) (hR : rm.frames + 1 ≤ R.frames ∧ 8 + (maxL + 11) + rm.locals ≤ R.locals) (hz : rm.cells = 0 ∧ rm.slots = 0) (hyc : y.cls = own) (J : Jn ws wc w1 wn) (hn : As.length = n) (hls : ls.size = nL) (hst : st = As.reverse ++ rest) (hrm : (rest.map fun v => v.category).sum ≤ 8) (hdg : decode cc pc = .ok (.invokestatic index, 3)) (hc : cells ≤ R.cells ∧ slots ≤ R.slots)
    (kk : ∀ (H1 : Heap) (locs1 : List Loc), WS E A s wn H1 locs1 → W p l e R s m args below meth c H1 locs1 cells slots Q (F0 m (pc + 3) ls (.int r :: rest))) : W p l e R s m args below meth c H locs cells slots Q (F0 m pc ls st) := by
  have C' := C
  obtain ⟨hx, hb, hml, hown, hts, hr, hlk, hE, hK, hA, hlo⟩ := C
  have hF := jn_free C' hw J
  refine va_calli (va_runS (As := As) (rest := rest) ⟨hx, hb, hml, hown, hts⟩ (hM H.size) (cwS n hts (gw_in cw.1) rfl hz.1 hz.2 hyc cw.2 hR) ⟨pre_blind, pre_call C' hw J _⟩ rfl hn hls hst (lv_room hrm) hdg hc) hw.2.2 (fun q _ h => hF q h) hF (fun r1 u t H1 locs1 ht hvm hp hB hz1 hk1 hS => ?_)
  subst hp
  obtain ⟨hP1, hD1⟩ := hB
  rw [ht] at hP1
  exact kk H1 locs1 (ws_join C' hw J hk1 hP1 hD1 hS)
theorem cI_N (C : MC p s m args meth c E A cc nL own ret) (hw : WS E A s ws H locs) {r : Int32} {host : String} (hM : CI l y (Cond.code y bytes maxL rt) rm E As wc r w1) (cw : CWN own index y host bytes maxL rt n) (hR : rm.frames + 1 ≤ R.frames ∧ 8 + (maxL + 11) + rm.locals ≤ R.locals) (hz : rm.cells = 0 ∧ rm.slots = 0) (J : Jn ws wc w1 wn) (hn : As.length = n) (hls : ls.size = nL) (hst : st = As.reverse ++ rest) (hrm : (rest.map fun v => v.category).sum ≤ 8) (hdg : decode cc pc = .ok (.invokestatic index, 3)) (hc : cells ≤ R.cells ∧ slots ≤ R.slots)
    (kk : ∀ (H1 : Heap) (locs1 : List Loc), WS E A s wn H1 locs1 → W p l e R s m args below meth c H1 locs1 cells slots Q (F0 m (pc + 3) ls (.int r :: rest))) : W p l e R s m args below meth c H locs cells slots Q (F0 m pc ls st) := by
  have C' := C
  obtain ⟨hx, hb, hml, hown, hts, hr, hlk, hE, hK, hA, hlo⟩ := C
  have hF := jn_free C' hw J
  obtain ⟨k1, k2, k3, k4, k5⟩ := cw
  refine va_calli (va_runSN (As := As) (rest := rest) ⟨hx, hb, hml, hown, hts⟩ (hM H.size) ⟨va_cnB n hts (gw_in (gw_cons k4)) rfl hz.1 hz.2 (hE.1 _ k1) (hts _ k3) k5 hR, hts _ k2, trivial⟩ ⟨pre_blind, pre_call C' hw J _⟩ rfl hn hls hst (lv_room hrm) hdg hc) hw.2.2 (fun q _ h => hF q h) hF (fun r1 u t H1 locs1 ht hvm hp hB hz1 hk1 hS => ?_)
  subst hp
  obtain ⟨hP1, hD1⟩ := hB
  rw [ht] at hP1
  exact kk H1 locs1 (ws_join C' hw J hk1 hP1 hD1 hS)
end ROWS
