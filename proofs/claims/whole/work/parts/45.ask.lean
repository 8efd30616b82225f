/-! pure rows: tests, both sides at once -/
def DR (h c2 c3 e : Nat) (st lt : Nat → Int32) (nb : Nat → Int64) (ts tl tb many sK sF sO sX sM Lt Lf Ls By sd : Nat → Int32) (Nu : Nat → Int64) : Prop := many (4 * h + 2) = nI c2 ∧ many (4 * h + 3) = nI c3 ∧ sd h = nI e ∧ c2 ≤ 64 ∧ c3 ≤ 64 ∧ SR h c2 st sK sF sO sX sM ∧ LR h c3 e lt nb ts tl tb Lt Lf Ls By Nu
def FD (h : Nat) (many sK sF sO sX sM Lt Lf Ls By sd : Nat → Int32) (Nu : Nat → Int64) (many' sK' sF' sO' sX' sM' Lt' Lf' Ls' By' sd' : Nat → Int32) (Nu' : Nat → Int64) : Prop := FL h many Lt Lf Ls By sd Nu many' Lt' Lf' Ls' By' sd' Nu' ∧ FS h sK sF sO sX sM sK' sF' sO' sX' sM'
theorem FD_rf (h : Nat) (many sK sF sO sX sM Lt Lf Ls By sd : Nat → Int32) (Nu : Nat → Int64) : FD h many sK sF sO sX sM Lt Lf Ls By sd Nu many sK sF sO sX sM Lt Lf Ls By sd Nu := ⟨FL_rf _ _ _ _ _ _ _ _, FS_rf _ _ _ _ _ _⟩
theorem FD_tr {h : Nat} {a1 a2 a3 a4 a5 a6 a7 a8 a9 a10 a11 b1 b2 b3 b4 b5 b6 b7 b8 b9 b10 b11 c1 c2 c3 c4 c5 c6 c7 c8 c9 c10 c11 : Nat → Int32} {a12 b12 c12 : Nat → Int64} (x : FD h a1 a2 a3 a4 a5 a6 a7 a8 a9 a10 a11 a12 b1 b2 b3 b4 b5 b6 b7 b8 b9 b10 b11 b12) (y : FD h b1 b2 b3 b4 b5 b6 b7 b8 b9 b10 b11 b12 c1 c2 c3 c4 c5 c6 c7 c8 c9 c10 c11 c12) : FD h a1 a2 a3 a4 a5 a6 a7 a8 a9 a10 a11 a12 c1 c2 c3 c4 c5 c6 c7 c8 c9 c10 c11 c12 := ⟨FL_tr x.1 y.1, FS_tr x.2 y.2⟩
def MK (h : Nat) (many many' : Nat → Int32) : Prop := ∀ j, ¬ j = 4 * h + 2 → ¬ j = 4 * h + 3 → many' j = many j
theorem MK_tr {h : Nat} {a b c : Nat → Int32} (x : MK h a b) (y : MK h b c) : MK h a c := fun j h1 h2 => (y j h1 h2).trans (x j h1 h2)
theorem MK_rf (h : Nat) (a : Nat → Int32) : MK h a a := fun _ _ _ => rfl
/-- both sides tell the same place -/
def TErr (n h : Nat) (many sK sF sO sX sM Lt Lf Ls By sd : Nat → Int32) (Nu : Nat → Int64) (C : Option (Int32 × Int32 × Int32 × Int32 × Int32 × Int64 × Int32 × Int32 × (Nat → Int32) × (Nat → Int32) × (Nat → Int64) × (Nat → Int32) × (Nat → Int32) × (Nat → Int32) × Int32 × Int32 × Int32)) (M : Option (Int32 × Int32 × (Nat → Int32) × (Nat → Int32) × (Nat → Int32) × (Nat → Int32) × (Nat → Int32) × (Nat → Int32) × (Nat → Int32) × (Nat → Int32) × (Nat → Int32) × (Nat → Int32) × (Nat → Int32) × (Nat → Int64))) : Prop :=
  ∃ x, x ≤ n ∧ (∃ u1 u2 u3 u4 u5 u6 u7 u8 u9 u10 u11 u12 u13 u14 u15, C = some (0, nI x, u1, u2, u3, u4, u5, u6, u7, u8, u9, u10, u11, u12, u13, u14, u15)) ∧ ∃ a many' sK' sF' sO' sX' sM' Lt' Lf' Ls' By' sd' Nu', a < 5000 ∧ M = some (nI a, nI x, many', sK', sF', sO', sX', sM', Lt', Lf', Ls', By', sd', Nu') ∧ FD h many sK sF sO sX sM Lt Lf Ls By sd Nu many' sK' sF' sO' sX' sM' Lt' Lf' Ls' By' sd' Nu'
/-- both sides have read one test more -/
def TOk (t : Nat → Int32) (n h p c2 : Nat) (many sK sF sO sX sM Lt Lf Ls By sd : Nat → Int32) (Nu : Nat → Int64) (C : Option (Int32 × Int32 × Int32 × Int32 × Int32 × Int64 × Int32 × Int32 × (Nat → Int32) × (Nat → Int32) × (Nat → Int64) × (Nat → Int32) × (Nat → Int32) × (Nat → Int32) × Int32 × Int32 × Int32)) (M : Option (Int32 × Int32 × (Nat → Int32) × (Nat → Int32) × (Nat → Int32) × (Nat → Int32) × (Nat → Int32) × (Nat → Int32) × (Nat → Int32) × (Nat → Int32) × (Nat → Int32) × (Nat → Int32) × (Nat → Int32) × (Nat → Int64))) : Prop :=
  ∃ a c3 e nr es bb st lt nb ts tl tb many' sK' sF' sO' sX' sM' Lt' Lf' Ls' By' sd' Nu', p < a ∧ a ≤ n ∧ e ≤ a ∧ C = some (1, -1, tkT (Lk t n) n (sk (Lk t n) n a), nI (sk (Lk t n) n a), nI (tkE (Lk t n) n (sk (Lk t n) n a)), nr, es, bb, st, lt, nb, ts, tl, tb, nI (c2 + 1), nI c3, nI e) ∧ M = some (nI a, -1, many', sK', sF', sO', sX', sM', Lt', Lf', Ls', By', sd', Nu') ∧ DR h (c2 + 1) c3 e st lt nb ts tl tb many' sK' sF' sO' sX' sM' Lt' Lf' Ls' By' sd' Nu' ∧ FD h many sK sF sO sX sM Lt Lf Ls By sd Nu many' sK' sF' sO' sX' sM' Lt' Lf' Ls' By' sd' Nu' ∧ MK h many many'
theorem R_fin {t : Nat → Int32} {n h p s a c2 c3 e : Nat} {k f o x m es bb : Int32} {nr : Int64} {st lt ts tl tb many sK sF sO sX sM Lt Lf Ls By sd many1 Lt1 Lf1 Ls1 By1 sd1 : Nat → Int32} {nb Nu Nu1 : Nat → Int64} (hn : n ≤ 2000) (hh : h ≤ 1) (hs : s ≤ n) (hpa : p < a) (ha : a ≤ n) (hea : e ≤ a) (D : DR h c2 c3 e st lt nb ts tl tb many1 sK sF sO sX sM Lt1 Lf1 Ls1 By1 sd1 Nu1) (F : FL h many Lt Lf Ls By sd Nu many1 Lt1 Lf1 Ls1 By1 sd1 Nu1) (hk : MK h many many1) :
    TErr n h many sK sF sO sX sM Lt Lf Ls By sd Nu (ob3 (f_X1_addStep k f o x m st (nI c2)) (fun x7 x8 x9 => if x7 = 0 then (ob2 (f_X0_refuse (nI s) (-1)) (fun x10 x11 => if x10 = 0 then some (0, x11, tkT (Lk t n) n (sk (Lk t n) n a), nI (sk (Lk t n) n a), nI (tkE (Lk t n) n (sk (Lk t n) n a)), nr, es, bb, x8, lt, nb, ts, tl, tb, x9, nI c3, nI e) else some (1, x11, tkT (Lk t n) n (sk (Lk t n) n a), nI (sk (Lk t n) n a), nI (tkE (Lk t n) n (sk (Lk t n) n a)), nr, es, bb, x8, lt, nb, ts, tl, tb, x9, nI c3, nI e))) else some (1, -1, tkT (Lk t n) n (sk (Lk t n) n a), nI (sk (Lk t n) n a), nI (tkE (Lk t n) n (sk (Lk t n) n a)), nr, es, bb, x8, lt, nb, ts, tl, tb, x9, nI c3, nI e))) (ob7 (f_X6_addStep (nI s) k f o x m (-1) (nI h) many1 sK sF sO sX sM) (fun x11 x12 x13 x14 x15 x16 x17 => some (nI a, x11, x12, x13, x14, x15, x16, x17, Lt1, Lf1, Ls1, By1, sd1, Nu1))) ∨
    TOk t n h p c2 many sK sF sO sX sM Lt Lf Ls By sd Nu (ob3 (f_X1_addStep k f o x m st (nI c2)) (fun x7 x8 x9 => if x7 = 0 then (ob2 (f_X0_refuse (nI s) (-1)) (fun x10 x11 => if x10 = 0 then some (0, x11, tkT (Lk t n) n (sk (Lk t n) n a), nI (sk (Lk t n) n a), nI (tkE (Lk t n) n (sk (Lk t n) n a)), nr, es, bb, x8, lt, nb, ts, tl, tb, x9, nI c3, nI e) else some (1, x11, tkT (Lk t n) n (sk (Lk t n) n a), nI (sk (Lk t n) n a), nI (tkE (Lk t n) n (sk (Lk t n) n a)), nr, es, bb, x8, lt, nb, ts, tl, tb, x9, nI c3, nI e))) else some (1, -1, tkT (Lk t n) n (sk (Lk t n) n a), nI (sk (Lk t n) n a), nI (tkE (Lk t n) n (sk (Lk t n) n a)), nr, es, bb, x8, lt, nb, ts, tl, tb, x9, nI c3, nI e))) (ob7 (f_X6_addStep (nI s) k f o x m (-1) (nI h) many1 sK sF sO sX sM) (fun x11 x12 x13 x14 x15 x16 x17 => some (nI a, x11, x12, x13, x14, x15, x16, x17, Lt1, Lf1, Ls1, By1, sd1, Nu1))) := by
  obtain ⟨d1, d2, d3, d4, d5, d6, d7⟩ := D
  rcases R_step (k := k) (f := f) (o := o) (x := x) (m := m) (pl := nI s) hh d4 d1 d6 (nI_ne s (by omega)) with ⟨r1, r2⟩ | ⟨st', sK', sF', sO', sX', sM', r0, r1, r2, r3, r4⟩
  · rw [r1, r2, ob3_s, ob7_s, if_pos rfl, C_refuse, ob2_s, if_pos rfl]
    exact Or.inl ⟨s, hs, ⟨_, _, _, _, _, _, _, _, _, _, _, _, _, _, _, rfl⟩, a, _, _, _, _, _, _, _, _, _, _, _, _, by omega, rfl, F, FS_rf _ _ _ _ _ _⟩
  · rw [r1, r2, ob3_s, ob7_s, if_neg (show ¬ (1 : Int32) = 0 by decide)]
    have u : FL h many1 Lt1 Lf1 Ls1 By1 sd1 Nu1 (upd many1 (4 * h + 2) (nI (c2 + 1))) Lt1 Lf1 Ls1 By1 sd1 Nu1 := ⟨frm_up (by omega) (by omega), frm_rf _ _ _, frm_rf _ _ _, frm_rf _ _ _, frm_rf _ _ _, frm_rf _ _ _, frm_rf _ _ _⟩
    exact Or.inr ⟨a, c3, e, _, _, _, _, _, _, _, _, _, _, _, _, _, _, _, _, _, _, _, _, _, hpa, ha, hea, rfl, rfl, ⟨pk_us, by rw [pk_un (by omega)]; exact d2, d3, by omega, d5, r3, d7⟩, ⟨FL_tr F u, r4⟩, fun j h1 h2 => by rw [pk_un h1]; exact hk j h1 h2⟩
theorem sk_5 {t : Nat → Int32} {n a : Nat} (hn : n ≤ 2000) (ha : a < 5000) : sk (Lk t n) n a < 5000 := by
  rcases Nat.lt_or_ge a n with h | h
  · have := sk_le t n a (by omega); omega
  · rw [sk_gt t n a h]; exact ha
section CXt
variable {b t gr ln nm kd ty fla gr' ln' nm' ty' : Nat → Int32} {n z h : Nat} {V : Nat → Bool}
theorem M_117I {f a k : Nat} {ill : Int32} {many Lt Lf Ls By sd : Nat → Int32} {Nu : Nat → Int64} (hn : n ≤ 2000) (ha : a < 5000) (hi : ¬ ill = -1) : f_X6_readAsked_117 (k + 1) (nI f) t (nI n) (nI a) ill ty' (nI h) many Lt Lf Ls By sd Nu = some (nI (sk (Lk t n) n a), ill, many, Lt, Lf, Ls, By, sd, Nu) := by
  rw [f_X6_readAsked_117, M_takesSignI hn (by omega) _ hi, ob2_s, if_pos rfl]
theorem R_inLoop (K : CX b t gr ln nm kd ty fla gr' ln' nm' ty' n z h V) {f s c0 : Nat} (hf : f < z) {st : Nat → Int32} {SC : Int32} : ∀ (d c p e k k2 : Nat) (nr : Int64) (es bb : Int32) (lt ts tl tb many Lt Lf Ls By sd : Nat → Int32) (nb Nu : Nat → Int64), c + d = 64 → p ≤ n → d < k → d + 1 < k2 → c0 ≤ c → e ≤ p → many (4 * h + 3) = nI c → sd h = nI e → LR h c e lt nb ts tl tb Lt Lf Ls By Nu →
    (∃ x, x ≤ n ∧ (∃ u1 u2 u3 u4 u5 u6 u7 u8 u9 u10 u11 u12 u13 u14 u15, f_X0_readIn_29 k (nI f) (nI s) (nI c0) (nI (c - c0)) (-1) (tkT (Lk t n) n (sk (Lk t n) n p)) (nI (sk (Lk t n) n p)) (nI (tkE (Lk t n) n (sk (Lk t n) n p))) nr es bb ty (nI z) st lt nb ts tl tb SC (nI c) (nI e) b (nI n) = some (0, nI x, u1, u2, u3, u4, u5, u6, u7, u8, u9, u10, u11, u12, u13, u14, u15)) ∧ ∃ a many' Lt' Lf' Ls' By' sd' Nu', a < 5000 ∧ ob9 (f_X6_readLiteral (ty' f) t (nI n) (nI p) (-1) (nI h) many Lt Lf Ls By sd Nu) (fun x70 x71 x72 x73 x74 x75 x76 x77 x78 => f_X6_readAsked_117 k2 (nI f) t (nI n) x70 x71 ty' (nI h) x72 x73 x74 x75 x76 x77 x78) = some (nI a, nI x, many', Lt', Lf', Ls', By', sd', Nu') ∧ FL h many Lt Lf Ls By sd Nu many' Lt' Lf' Ls' By' sd' Nu') ∨
    (∃ a c' e' nr' es' bb' lt' nb' ts' tl' tb' many' Lt' Lf' Ls' By' sd' Nu', p < a ∧ a ≤ n ∧ e' ≤ a ∧ c ≤ c' ∧ c' ≤ 64 ∧ f_X0_readIn_29 k (nI f) (nI s) (nI c0) (nI (c - c0)) (-1) (tkT (Lk t n) n (sk (Lk t n) n p)) (nI (sk (Lk t n) n p)) (nI (tkE (Lk t n) n (sk (Lk t n) n p))) nr es bb ty (nI z) st lt nb ts tl tb SC (nI c) (nI e) b (nI n) = f_X0_readIn_74 (nI f) (nI s) (nI c0) (-1) (tkT (Lk t n) n (sk (Lk t n) n a)) (nI (sk (Lk t n) n a)) (nI (tkE (Lk t n) n (sk (Lk t n) n a))) nr' es' bb' st lt' nb' ts' tl' tb' SC (nI c') (nI e') b (nI n) ∧ ob9 (f_X6_readLiteral (ty' f) t (nI n) (nI p) (-1) (nI h) many Lt Lf Ls By sd Nu) (fun x70 x71 x72 x73 x74 x75 x76 x77 x78 => f_X6_readAsked_117 k2 (nI f) t (nI n) x70 x71 ty' (nI h) x72 x73 x74 x75 x76 x77 x78) = some (nI (sk (Lk t n) n a), -1, many', Lt', Lf', Ls', By', sd', Nu') ∧ many' (4 * h + 3) = nI c' ∧ (∀ j, ¬ j = 4 * h + 3 → many' j = many j) ∧ sd' h = nI e' ∧ LR h c' e' lt' nb' ts' tl' tb' Lt' Lf' Ls' By' Nu' ∧ FL h many Lt Lf Ls By sd Nu many' Lt' Lf' Ls' By' sd' Nu') := by
  obtain ⟨hVc, hVm, hB, hBt, hL, hF, hty, hn, hz, hz', hg, hh⟩ := K
  intro d
  induction d with
  | zero =>
    intro c p e k k2 nr es bb lt ts tl tb many Lt Lf Ls By sd nb Nu hc hp hk hk2 hc0 he hm hsd hr
    obtain ⟨k, rfl⟩ : ∃ j, k = j + 1 := ⟨k - 1, by omega⟩
    obtain ⟨k2, rfl⟩ : ∃ j, k2 = j + 1 := ⟨k2 - 1, by omega⟩
    rw [f_X0_readIn_29, if_neg (show ¬ (64 : Int32) < nI (c - c0) from nI_nlt (a := 64) (b := c - c0) (by omega) (by decide))]
    rcases R_literal (nr := nr) (es := es) (bb := bb) hB hBt hL hn hh hz.1 hf (hty f hf) hp (show c ≤ 64 by omega) he hm hsd hr with ⟨x, x1, ⟨u1, u2, u3, u4, u5, u6, u7, u8, u9, u10, u11, u12, u13, x2⟩, a, many', Lt', Lf', Ls', By', sd', Nu', x3, x4, x5⟩ | ⟨q, e', nr', es', bb', lt', nb', ts', tl', tb', Lt', Lf', Ls', By', sd', Nu', y1, y2, y3, y4⟩
    · rw [x2, ob15_s, if_pos rfl, x4, ob9_s, M_117I hn x3 (nI_ne x (by omega))]
      exact Or.inl ⟨x, x1, ⟨_, _, _, _, _, _, _, _, _, _, _, _, _, _, _, rfl⟩, _, _, _, _, _, _, _, _, sk_5 hn x3, rfl, x5⟩
    · omega
  | succ d ih =>
    intro c p e k k2 nr es bb lt ts tl tb many Lt Lf Ls By sd nb Nu hc hp hk hk2 hc0 he hm hsd hr
    obtain ⟨k, rfl⟩ : ∃ j, k = j + 1 := ⟨k - 1, by omega⟩
    obtain ⟨k2, rfl⟩ : ∃ j, k2 = j + 1 := ⟨k2 - 1, by omega⟩
    rw [f_X0_readIn_29, if_neg (show ¬ (64 : Int32) < nI (c - c0) from nI_nlt (a := 64) (b := c - c0) (by omega) (by decide))]
    rcases R_literal (nr := nr) (es := es) (bb := bb) hB hBt hL hn hh hz.1 hf (hty f hf) hp (show c ≤ 64 by omega) he hm hsd hr with ⟨x, x1, ⟨u1, u2, u3, u4, u5, u6, u7, u8, u9, u10, u11, u12, u13, x2⟩, a, many', Lt', Lf', Ls', By', sd', Nu', x3, x4, x5⟩ | ⟨q, e', nr', es', bb', lt', nb', ts', tl', tb', Lt', Lf', Ls', By', sd', Nu', y1, y2, y3, y4, y5, y6, y7, y8, y9⟩
    · rw [x2, ob15_s, if_pos rfl, x4, ob9_s, M_117I hn x3 (nI_ne x (by omega))]
      exact Or.inl ⟨x, x1, ⟨_, _, _, _, _, _, _, _, _, _, _, _, _, _, _, rfl⟩, _, _, _, _, _, _, _, _, sk_5 hn x3, rfl, x5⟩
    · have hsq := sk_le t n q y2
      have hgq := sk_ge t n q
      rw [y5, ob15_s, if_neg (show ¬ (1 : Int32) = 0 by decide), y6, ob9_s, f_X6_readAsked_117, M_takesSign hn y2]
      by_cases h44 : Lk t n (sk (Lk t n) n q) = 44
      · have hlt := Lk_lt h44 (by decide)
        have e44 : tkE (Lk t n) n (sk (Lk t n) n q) = sk (Lk t n) n q + 1 := tkE_sign h44 (Or.inr (Or.inr rfl))
        rw [if_pos h44, if_pos (tk_comma.mpr h44), e44, A_adv hB hL hn (by omega), ob3_s, on_eq, ob2_s, if_neg (show ¬ (1 : Int32) = 0 by decide), rd_in (show f < 64 by have := hz.1; omega) (by decide), nI_1, show c - c0 + 1 = c + 1 - c0 by omega]
        rcases ih (c + 1) (sk (Lk t n) n q + 1) e' k k2 nr' es' bb' lt' ts' tl' tb' (upd many (4 * h + 3) (nI (c + 1))) Lt' Lf' Ls' By' sd' nb' Nu' (by omega) (by omega) (by omega) (by omega) (by omega) (by omega) pk_us y7 y8 with ⟨x, x1, x2, a, many2, Lt2, Lf2, Ls2, By2, sd2, Nu2, x3, x4, x5⟩ | ⟨a, c', e2, nr2, es2, bb2, lt2, nb2, ts2, tl2, tb2, many2, Lt2, Lf2, Ls2, By2, sd2, Nu2, w1, w2, w3, w4, w5, w6, w7, w8, w9, w10, w11, w12⟩
        · exact Or.inl ⟨x, x1, x2, a, many2, Lt2, Lf2, Ls2, By2, sd2, Nu2, x3, x4, FL_tr y9 x5⟩
        · exact Or.inr ⟨a, c', e2, nr2, es2, bb2, lt2, nb2, ts2, tl2, tb2, many2, Lt2, Lf2, Ls2, By2, sd2, Nu2, by omega, w2, w3, by omega, w5, w6, w7, w8, fun j hj => by rw [w9 j hj, pk_un hj], w10, w11, FL_tr y9 w12⟩
      · rw [if_neg h44, if_neg (fun z => h44 (tk_comma.mp z)), ob2_s, if_pos rfl]
        exact Or.inr ⟨q, c + 1, e', nr', es', bb', lt', nb', ts', tl', tb', _, Lt', Lf', Ls', By', sd', Nu', y1, y2, y4, by omega, by omega, rfl, rfl, pk_us, fun j hj => pk_un hj, y7, y8, y9⟩
end CXt
