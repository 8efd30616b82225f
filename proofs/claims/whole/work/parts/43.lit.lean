/-! pure rows: literals, both sides at once -/
theorem frm_uL {w h k : Nat} {f : Nat → Int64} {x : Int64} (h1 : w * h ≤ k) (h2 : k < w * h + w) : frm w h f (vp_updL f k x) := fun j hj => pk_uLn (by omega)
theorem nI_sub' {a b : Nat} (h : b ≤ a) : nI a - nI b = nI (a - b) := by
  have e : nI a = nI (a - b) + nI b := by rw [nI_add]; congr 1; omega
  rw [e, Int32.add_sub_cancel]
theorem A_adv {b t : Nat → Int32} {n e : Nat} (hB : BY b n) (hL : Lk b n = Lk t n) (hn : n ≤ 2000) (he : e ≤ n) (x y : Int32) : f_X2_advance x y (nI e) b (nI n) = some (tkT (Lk t n) n (sk (Lk t n) n e), nI (sk (Lk t n) n e), nI (tkE (Lk t n) n (sk (Lk t n) n e))) := by
  rw [C_advance hB hn he, hL]
theorem A_take {b t : Nat → Int32} {n s : Nat} (hB : BY b n) (hL : Lk b n = Lk t n) (hn : n ≤ 2000) (hs : s ≤ n) (c : Int32) : f_X0_take c (-1) (tkT (Lk t n) n s) (nI s) (nI (tkE (Lk t n) n s)) b (nI n) = if tkT (Lk t n) n s = c then some (1, -1, tkT (Lk t n) n (sk (Lk t n) n (tkE (Lk t n) n s)), nI (sk (Lk t n) n (tkE (Lk t n) n s)), nI (tkE (Lk t n) n (sk (Lk t n) n (tkE (Lk t n) n s)))) else some (0, nI s, tkT (Lk t n) n s, nI s, nI (tkE (Lk t n) n s)) := by
  have h := C_take hB hn hs c
  rw [hL] at h
  exact h
theorem tk_text {t : Nat → Int32} {n s : Nat} : tkT (Lk t n) n s = 18 ↔ Lk t n s = 39 := by
  unfold tkT
  by_cases h1 : Lk t n s = -1
  · rw [if_pos h1, h1]; decide
  · rw [if_neg h1]
    by_cases h2 : isL (Lk t n s) = true
    · rw [if_pos h2]
      exact ⟨fun z => absurd z (wd_nI (by decide)), fun z => by rw [z, isL_no (by decide)] at h2; cases h2⟩
    · rw [if_neg h2]
      unfold sgT
      by_cases h : Lk t n s = 39
      · rw [h]; exact ⟨fun _ => rfl, fun _ => rfl⟩
      · refine ⟨fun z => ?_, fun z => absurd z h⟩
        revert z
        repeat' split
        all_goals first | (intro z; exact absurd z (by decide)) | (intro _; contradiction)
theorem isD_no {c : Int32} (h : c.toInt < 48) : isD c = false := by
  unfold isD
  rw [decide_eq_false_iff_not]
  omega
theorem isD_lt {c : Int32} (h : isD c = true) : 48 ≤ c.toInt ∧ c.toInt ≤ 57 := by
  unfold isD at h
  rw [decide_eq_true_eq] at h
  exact h
theorem tk_num {t : Nat → Int32} {n s : Nat} : tkT (Lk t n) n s = 17 ↔ (Lk t n s = 45 ∨ isD (Lk t n s) = true) := by
  unfold tkT
  by_cases h1 : Lk t n s = -1
  · rw [if_pos h1, h1]; decide
  · rw [if_neg h1]
    by_cases h2 : isL (Lk t n s) = true
    · rw [if_pos h2]
      refine ⟨fun z => absurd z (wd_nI (by decide)), fun z => ?_⟩
      exfalso
      rcases z with z | z
      · rw [z, isL_no (by decide)] at h2; cases h2
      · have := isD_lt z
        rw [isL_no (by omega)] at h2; cases h2
    · rw [if_neg h2]
      unfold sgT
      by_cases h : Lk t n s = 45
      · rw [h]; exact ⟨fun _ => Or.inl rfl, fun _ => rfl⟩
      · by_cases hd : isD (Lk t n s) = true
        · have hr := isD_lt hd
          have ne : ∀ c : Int32, (c.toInt < 48 ∨ 57 < c.toInt) → ¬ Lk t n s = c := fun c hc z => by rw [z] at hr; omega
          rw [if_neg (ne 39 (by decide)), if_neg (ne 40 (by decide)), if_neg (ne 41 (by decide)), if_neg (ne 44 (by decide)), if_neg h, if_neg (ne 60 (by decide)), if_neg (ne 61 (by decide)), if_neg (ne 62 (by decide)), if_pos hd]
          exact ⟨fun _ => Or.inr hd, fun _ => rfl⟩
        · refine ⟨fun z => ?_, fun z => z.elim (fun z => absurd z h) (fun z => absurd z hd)⟩
          revert z
          repeat' split
          all_goals first | (intro z; exact absurd z (by decide)) | (intro _; contradiction)
/-- the literals so far are alike on both sides -/
def LR (h c e : Nat) (lt : Nat → Int32) (nb : Nat → Int64) (ts tl tb Lt Lf Ls By : Nat → Int32) (Nu : Nat → Int64) : Prop := (∀ i, i < c → lt i = Lt (64 * h + i) ∧ nb i = Nu (64 * h + i) ∧ ts i = Lf (64 * h + i) ∧ tl i = Ls (64 * h + i) ∧ ∃ a l, ts i = nI a ∧ tl i = nI l ∧ a + l ≤ e) ∧ ∀ j, j < e → tb j = By (2000 * h + j)
def FL (h : Nat) (many Lt Lf Ls By sd : Nat → Int32) (Nu : Nat → Int64) (many' Lt' Lf' Ls' By' sd' : Nat → Int32) (Nu' : Nat → Int64) : Prop := frm 4 h many many' ∧ frm 64 h Lt Lt' ∧ frm 64 h Lf Lf' ∧ frm 64 h Ls Ls' ∧ frm 2000 h By By' ∧ frm 1 h sd sd' ∧ frm 64 h Nu Nu'
theorem FL_rf (h : Nat) (many Lt Lf Ls By sd : Nat → Int32) (Nu : Nat → Int64) : FL h many Lt Lf Ls By sd Nu many Lt Lf Ls By sd Nu := ⟨frm_rf _ _ _, frm_rf _ _ _, frm_rf _ _ _, frm_rf _ _ _, frm_rf _ _ _, frm_rf _ _ _, frm_rf _ _ _⟩
theorem FL_tr {h : Nat} {many Lt Lf Ls By sd : Nat → Int32} {Nu : Nat → Int64} {many' Lt' Lf' Ls' By' sd' : Nat → Int32} {Nu' : Nat → Int64} {many2 Lt2 Lf2 Ls2 By2 sd2 : Nat → Int32} {Nu2 : Nat → Int64} (a : FL h many Lt Lf Ls By sd Nu many' Lt' Lf' Ls' By' sd' Nu') (b : FL h many' Lt' Lf' Ls' By' sd' Nu' many2 Lt2 Lf2 Ls2 By2 sd2 Nu2) : FL h many Lt Lf Ls By sd Nu many2 Lt2 Lf2 Ls2 By2 sd2 Nu2 :=
  ⟨frm_tr a.1 b.1, frm_tr a.2.1 b.2.1, frm_tr a.2.2.1 b.2.2.1, frm_tr a.2.2.2.1 b.2.2.2.1, frm_tr a.2.2.2.2.1 b.2.2.2.2.1, frm_tr a.2.2.2.2.2.1 b.2.2.2.2.2.1, frm_tr a.2.2.2.2.2.2 b.2.2.2.2.2.2⟩
theorem M_4h {h k : Nat} (i : Int32) (hi : i = nI k) : (4 : Int32) * nI h + i = nI (4 * h + k) := by rw [hi, show (4 : Int32) = nI 4 from rfl, nI_mul', nI_add]
theorem M_64h {h k : Nat} : (64 : Int32) * nI h + nI k = nI (64 * h + k) := by rw [show (64 : Int32) = nI 64 from rfl, nI_mul', nI_add]
theorem C_canCompare (x y : Int32) : f_X0_canCompare x y = some (bI (decide (x = y ∨ ((x = 1 ∨ x = 2) ∧ (y = 1 ∨ y = 2))))) := by
  rw [f_X0_canCompare, C_isOfNumbers, ob1_s, C_isOfNumbers, ob1_s]
  by_cases h : x = y
  · rw [if_pos h, decide_eq_true (Or.inl h)]; rfl
  · rw [if_neg h]
    by_cases h1 : x = 1 ∨ x = 2
    · rw [decide_eq_true h1, if_neg bI_n]
      by_cases h2 : y = 1 ∨ y = 2
      · rw [decide_eq_true h2, if_neg bI_n, decide_eq_true (Or.inr ⟨h1, h2⟩)]; rfl
      · rw [decide_eq_false h2, if_pos bI_f, decide_eq_false (fun z => z.elim h (fun z => h2 z.2))]; rfl
    · rw [decide_eq_false h1, if_pos bI_f, decide_eq_false (fun z => z.elim h (fun z => h1 z.1))]; rfl
theorem R_lit139 {b t ty : Nat → Int32} {n h z f s q c e e' : Nat} {T l : Int32} {v nr : Int64} {es bb tok : Int32} {lt ts tl tb many Lt Lf Ls By sd : Nat → Int32} {nb Nu : Nat → Int64} (hB : BY b n) (hL : Lk b n = Lk t n) (hn : n ≤ 2000) (hh : h ≤ 1) (hz : z ≤ 64) (hf : f < z) (hT : ty f = T) (hl : l = 0 ∨ l = 2 ∨ l = 3) (hs : s ≤ n) (hq : q ≤ n) (hc : c ≤ 64) (hee : e ≤ e') (he : e' ≤ 2000) (hm : many (4 * h + 3) = nI c) (hsd : sd h = nI e') (hr : ∀ i, i < c → lt i = Lt (64 * h + i) ∧ nb i = Nu (64 * h + i) ∧ ts i = Lf (64 * h + i) ∧ tl i = Ls (64 * h + i) ∧ ∃ a l, ts i = nI a ∧ tl i = nI l ∧ a + l ≤ e) (hb : ∀ j, j < e' → tb j = By (2000 * h + j)) :
    ((∃ u1 u2 u3 u4 u5 u6 u7 u8 u9 u10 u11 u12 u13, f_X0_readLiteral_139 (nI f) (nI s) (nI e) l v (-1) (-1) tok (nI s) (nI q) nr es bb ty (nI z) lt nb ts tl tb (nI c) (nI e') b (nI n) = some (0, nI s, u1, u2, u3, u4, u5, u6, u7, u8, u9, u10, u11, u12, u13)) ∧ f_X6_readLiteral_108 T (nI s) (nI (64 * h + c)) l v (nI e) (nI q) (-1) (nI h) many Lt Lf Ls By sd Nu = some (nI q, nI s, many, Lt, Lf, Ls, By, sd, Nu)) ∨
    (∃ lt' nb' ts' tl' Lt' Lf' Ls' Nu', c < 64 ∧ f_X0_readLiteral_139 (nI f) (nI s) (nI e) l v (-1) (-1) tok (nI s) (nI q) nr es bb ty (nI z) lt nb ts tl tb (nI c) (nI e') b (nI n) = some (1, -1, tkT (Lk t n) n (sk (Lk t n) n q), nI (sk (Lk t n) n q), nI (tkE (Lk t n) n (sk (Lk t n) n q)), nr, es, bb, lt', nb', ts', tl', tb, nI (c + 1), nI e') ∧ f_X6_readLiteral_108 T (nI s) (nI (64 * h + c)) l v (nI e) (nI q) (-1) (nI h) many Lt Lf Ls By sd Nu = some (nI q, -1, upd many (4 * h + 3) (nI (c + 1)), Lt', Lf', Ls', By, sd, Nu') ∧ LR h (c + 1) e' lt' nb' ts' tl' tb Lt' Lf' Ls' By Nu' ∧ FL h many Lt Lf Ls By sd Nu (upd many (4 * h + 3) (nI (c + 1))) Lt' Lf' Ls' By sd Nu') := by
  rw [f_X0_readLiteral_139, if_pos rfl, A_adv hB hL hn hq, ob3_s, C_typeOf hz hf, ob1_s, hT, C_canCompare, ob1_s, C_refuse, ob2_s, if_pos rfl, f_X6_readLiteral_108, if_pos rfl, M_fail, ob1_s]
  have key : (T = l ∨ ((T = 1 ∨ T = 2) ∧ (l = 1 ∨ l = 2))) ↔ (l = T ∨ (l = 2 ∧ T = 1)) := by
    rcases hl with rfl | rfl | rfl
    · refine ⟨fun z => z.elim (fun z => Or.inl z.symm) (fun z => absurd z.2 (by decide)), fun z => z.elim (fun z => Or.inl z.symm) (fun z => absurd z.1 (by decide))⟩
    · refine ⟨fun z => z.elim (fun z => Or.inl z.symm) (fun z => z.1.elim (fun z => Or.inr ⟨rfl, z⟩) (fun z => Or.inl z.symm)), fun z => z.elim (fun z => Or.inl z.symm) (fun z => Or.inr ⟨Or.inl z.2, Or.inr rfl⟩)⟩
    · refine ⟨fun z => z.elim (fun z => Or.inl z.symm) (fun z => absurd z.2 (by decide)), fun z => z.elim (fun z => Or.inl z.symm) (fun z => absurd z.1 (by decide))⟩
  have m134 : (l = T ∨ (l = 2 ∧ T = 1)) → ∀ X Y Z : Option (Int32 × Int32 × (Nat → Int32) × (Nat → Int32) × (Nat → Int32) × (Nat → Int32) × (Nat → Int32) × (Nat → Int32) × (Nat → Int64)), (if l = T then X else if l = 2 then (if T = 1 then X else Y) else Z) = X := by
    intro w X Y Z
    rcases w with w | w
    · rw [if_pos w]
    · rw [if_pos w.1, if_pos w.2, ite_self]
  have m134' : ¬ (l = T ∨ (l = 2 ∧ T = 1)) → ∀ X Y : Option (Int32 × Int32 × (Nat → Int32) × (Nat → Int32) × (Nat → Int32) × (Nat → Int32) × (Nat → Int32) × (Nat → Int32) × (Nat → Int64)), (if l = T then X else if l = 2 then (if T = 1 then X else Y) else Y) = Y := by
    intro w X Y
    rw [if_neg (fun z => w (Or.inl z))]
    by_cases w1 : l = 2
    · rw [if_pos w1, if_neg (fun z => w (Or.inr ⟨w1, z⟩))]
    · rw [if_neg w1]
  by_cases g : l = T ∨ (l = 2 ∧ T = 1)
  · rw [m134 g, decide_eq_true (key.mpr g), if_neg bI_n, f_X6_readLiteral_134, M_4h 3 (k := 3) rfl, rd_in (show 4 * h + 3 < 8 by omega) (by decide), hm, f_X1_addLiteral]
    by_cases g64 : c = 64
    · subst g64
      rw [if_neg (show ¬ nI 64 < 64 by decide), if_pos (show nI 64 = 64 from rfl), ob6_s, M_fail, ob1_s, if_pos rfl, ob2_s, if_pos rfl]
      exact Or.inl ⟨⟨_, _, _, _, _, _, _, _, _, _, _, _, _, rfl⟩, rfl⟩
    · rw [if_pos (show nI c < 64 from nI_lt (b := 64) (by omega) (by decide)), if_neg (show ¬ nI c = 64 from fun z => by rw [show (64 : Int32) = nI 64 from rfl, nI_eq (by omega) (by decide)] at z; omega)]
      rw [wr_in (show c < 64 by omega) (by decide), wrL_in (show c < 64 by omega) (by decide), wr_in (show c < 64 by omega) (by decide), on_eq, wr_in (show c < 64 by omega) (by decide), on_eq, ob6_s, if_neg (show ¬ (1 : Int32) = 0 by decide)]
      rw [wr_in (show 64 * h + c < 128 by omega) (by decide), wrL_in (show 64 * h + c < 128 by omega) (by decide), wr_in (show 64 * h + c < 128 by omega) (by decide), rd_in (show h < 2 by omega) (by decide), hsd, on_eq, wr_in (show 64 * h + c < 128 by omega) (by decide), on_eq, rd_in (show 4 * h + 3 < 8 by omega) (by decide), hm, on_eq, nI_1, wr_in (show 4 * h + 3 < 8 by omega) (by decide), nI_sub' hee]
      refine Or.inr ⟨_, _, _, _, _, _, _, _, by omega, rfl, rfl, ⟨?_, hb⟩, frm_up (by omega) (by omega), frm_up (by omega) (by omega), frm_up (by omega) (by omega), frm_up (by omega) (by omega), frm_rf _ _ _, frm_rf _ _ _, frm_uL (by omega) (by omega)⟩
      intro i hi
      rcases Nat.lt_or_ge i c with w | w
      · obtain ⟨r1, r2, r3, r4, a, ll, r5, r6, r7⟩ := hr i w
        rw [pk_un (by omega), pk_un (by omega), pk_uLn (by omega), pk_uLn (by omega), pk_un (by omega), pk_un (by omega), pk_un (by omega), pk_un (by omega)]
        exact ⟨r1, r2, r3, r4, a, ll, r5, r6, by omega⟩
      · obtain rfl : i = c := by omega
        rw [pk_us, pk_us, pk_uLs, pk_uLs, pk_us, pk_us, pk_us, pk_us]
        exact ⟨rfl, rfl, rfl, rfl, e, e' - e, rfl, rfl, by omega⟩
  · rw [m134' g, decide_eq_false (fun z => g (key.mp z)), if_pos bI_f]
    exact Or.inl ⟨⟨_, _, _, _, _, _, _, _, _, _, _, _, _, rfl⟩, rfl⟩
theorem tkE_gt {t : Nat → Int32} {n s : Nat} (h : wd (Lk t n) n s < 16) : s < tkE (Lk t n) n s := by
  have h1 := wd_letter h
  have h2 := wl_pos t n s h1
  rw [tkE_word h1]
  omega
theorem R_literal {b t ty : Nat → Int32} {n h z f p c e : Nat} {T : Int32} {nr : Int64} {es bb : Int32} {lt ts tl tb many Lt Lf Ls By sd : Nat → Int32} {nb Nu : Nat → Int64} (hB : BY b n) (hBt : BY t n) (hL : Lk b n = Lk t n) (hn : n ≤ 2000) (hh : h ≤ 1) (hz : z ≤ 64) (hf : f < z) (hT : ty f = T) (hp : p ≤ n) (hc : c ≤ 64) (he : e ≤ p) (hm : many (4 * h + 3) = nI c) (hsd : sd h = nI e) (hr : LR h c e lt nb ts tl tb Lt Lf Ls By Nu) :
    (∃ x, x ≤ n ∧ (∃ u1 u2 u3 u4 u5 u6 u7 u8 u9 u10 u11 u12 u13, f_X0_readLiteral (nI f) (-1) (tkT (Lk t n) n (sk (Lk t n) n p)) (nI (sk (Lk t n) n p)) (nI (tkE (Lk t n) n (sk (Lk t n) n p))) nr es bb ty (nI z) lt nb ts tl tb (nI c) (nI e) b (nI n) = some (0, nI x, u1, u2, u3, u4, u5, u6, u7, u8, u9, u10, u11, u12, u13)) ∧ ∃ a many' Lt' Lf' Ls' By' sd' Nu', a < 5000 ∧ f_X6_readLiteral T t (nI n) (nI p) (-1) (nI h) many Lt Lf Ls By sd Nu = some (nI a, nI x, many', Lt', Lf', Ls', By', sd', Nu') ∧ FL h many Lt Lf Ls By sd Nu many' Lt' Lf' Ls' By' sd' Nu') ∨
    (∃ q e' nr' es' bb' lt' nb' ts' tl' tb' Lt' Lf' Ls' By' sd' Nu', p < q ∧ q ≤ n ∧ c < 64 ∧ e' ≤ q ∧ f_X0_readLiteral (nI f) (-1) (tkT (Lk t n) n (sk (Lk t n) n p)) (nI (sk (Lk t n) n p)) (nI (tkE (Lk t n) n (sk (Lk t n) n p))) nr es bb ty (nI z) lt nb ts tl tb (nI c) (nI e) b (nI n) = some (1, -1, tkT (Lk t n) n (sk (Lk t n) n q), nI (sk (Lk t n) n q), nI (tkE (Lk t n) n (sk (Lk t n) n q)), nr', es', bb', lt', nb', ts', tl', tb', nI (c + 1), nI e') ∧ f_X6_readLiteral T t (nI n) (nI p) (-1) (nI h) many Lt Lf Ls By sd Nu = some (nI q, -1, upd many (4 * h + 3) (nI (c + 1)), Lt', Lf', Ls', By', sd', Nu') ∧ sd' h = nI e' ∧ LR h (c + 1) e' lt' nb' ts' tl' tb' Lt' Lf' Ls' By' Nu' ∧ FL h many Lt Lf Ls By sd Nu (upd many (4 * h + 3) (nI (c + 1))) Lt' Lf' Ls' By' sd' Nu') := by
  have hs := sk_le t n p hp
  have hg := sk_ge t n p
  have hss := sk_sk t n p
  rw [f_X6_readLiteral, M_blanks hn (by omega), ob1_s, M_4h 3 (k := 3) rfl, rd_in (show 4 * h + 3 < 8 by omega) (by decide), hm, on_eq, M_64h, rd_in (show h < 2 by omega) (by decide), hsd]
  generalize sk (Lk t n) n p = s at hs hg hss ⊢
  rw [M_takes_10 hn hs, hss, f_X0_readLiteral]
  have k10 : tkT (Lk t n) n s = 10 ↔ wd (Lk t n) n s = 10 := tk_word (k := 10) (by decide)
  have k11 : tkT (Lk t n) n s = 11 ↔ wd (Lk t n) n s = 11 := tk_word (k := 11) (by decide)
  have k17 := tk_num (t := t) (n := n) (s := s)
  have k18 := tk_text (t := t) (n := n) (s := s)
  have hE := tkE_le hBt hs
  by_cases w10 : wd (Lk t n) n s = 10
  · have hlt := tkE_gt (t := t) (n := n) (s := s) (by omega)
    rw [if_pos w10, ob2_s, if_neg (show ¬ (1 : Int32) = 0 by decide), if_pos (k10.mpr w10)]
    rcases R_lit139 (b := b) (t := t) (ty := ty) (l := 0) (v := 1) (nr := nr) (es := es) (bb := bb) (tok := tkT (Lk t n) n s) (tb := tb) (sd := sd) (By := By) hB hL hn hh hz hf hT (Or.inl rfl) hs hE hc (Nat.le_refl e) (by omega) hm hsd hr.1 hr.2 with ⟨r1, r2⟩ | ⟨lt', nb', ts', tl', Lt', Lf', Ls', Nu', r1, r2, r3, r4, r5⟩
    · exact Or.inl ⟨s, hs, r1, _, _, _, _, _, _, _, _, by omega, r2, FL_rf _ _ _ _ _ _ _ _⟩
    · exact Or.inr ⟨_, e, nr, es, bb, _, _, _, _, tb, _, _, _, By, sd, _, by omega, hE, r1, by omega, r2, r3, hsd, r4, r5⟩
  rw [if_neg w10, ob2_s, if_pos rfl, M_takes_11 hn hs, hss, if_neg (fun z => w10 (k10.mp z))]
  by_cases w11 : wd (Lk t n) n s = 11
  · have hlt := tkE_gt (t := t) (n := n) (s := s) (by omega)
    rw [if_pos w11, ob2_s, if_neg (show ¬ (1 : Int32) = 0 by decide), if_pos (k11.mpr w11)]
    rcases R_lit139 (b := b) (t := t) (ty := ty) (l := 0) (v := 0) (nr := nr) (es := es) (bb := bb) (tok := tkT (Lk t n) n s) (tb := tb) (sd := sd) (By := By) hB hL hn hh hz hf hT (Or.inl rfl) hs hE hc (Nat.le_refl e) (by omega) hm hsd hr.1 hr.2 with ⟨r1, r2⟩ | ⟨lt', nb', ts', tl', Lt', Lf', Ls', Nu', r1, r2, r3, r4, r5⟩
    · exact Or.inl ⟨s, hs, r1, _, _, _, _, _, _, _, _, by omega, r2, FL_rf _ _ _ _ _ _ _ _⟩
    · exact Or.inr ⟨_, e, nr, es, bb, _, _, _, _, tb, _, _, _, By, sd, _, by omega, hE, r1, by omega, r2, r3, hsd, r4, r5⟩
  rw [if_neg w11, ob2_s, if_pos rfl, if_neg (fun z => w11 (k11.mp z)), M_look hn (by omega), ob1_s]
  by_cases h39 : Lk t n s = 39
  · have hlt := Lk_lt h39 (by decide)
    rw [if_pos h39, if_neg (fun z => (by rw [h39] at k17; exact absurd (k17.mp z) (by decide))), if_pos (k18.mpr h39)]
    rcases R_text hBt hL hn hh hlt (show e ≤ s by omega) (nI (tkE (Lk t n) n s)) es bb hsd hr.2 with ⟨x, x1, ⟨u1, u2, u3, u4, u5, x2⟩, a, By', sd', x3, x4, x5, x6⟩ | ⟨q, e', es', bb', tb', By', sd', y1, y2, y3, y4, y5, y6, y7, y8, y9, y10⟩
    · rw [x2, ob6_s, x4, ob4_s, f_X0_readLiteral_139, if_neg (nI_ne x (by omega)), C_refuse, ob2_s, gz_0, f_X6_readLiteral_108, if_neg (nI_ne x (by omega))]
      exact Or.inl ⟨x, x1, ⟨_, _, _, _, _, _, _, _, _, _, _, _, _, rfl⟩, _, _, _, _, _, _, _, _, x3, rfl, frm_rf _ _ _, frm_rf _ _ _, frm_rf _ _ _, frm_rf _ _ _, x5, x6, frm_rf _ _ _⟩
    · rw [y5, ob6_s, y6, ob4_s]
      have fr : FL h many Lt Lf Ls By sd Nu many Lt Lf Ls By' sd' Nu := ⟨frm_rf _ _ _, frm_rf _ _ _, frm_rf _ _ _, frm_rf _ _ _, y9, y10, frm_rf _ _ _⟩
      rcases R_lit139 (b := b) (t := t) (ty := ty) (l := 3) (v := 0) (nr := nr) (es := es') (bb := bb') (tok := tkT (Lk t n) n s) (tb := tb') (sd := sd') (By := By') hB hL hn hh hz hf hT (Or.inr (Or.inr rfl)) hs y2 hc y3 (by omega) hm y7 hr.1 y8 with ⟨r1, r2⟩ | ⟨lt', nb', ts', tl', Lt', Lf', Ls', Nu', r1, r2, r3, r4, r5⟩
      · exact Or.inl ⟨s, hs, r1, _, _, _, _, _, _, _, _, by omega, r2, fr⟩
      · exact Or.inr ⟨q, e', nr, es', bb', _, _, _, _, tb', _, _, _, By', sd', _, by omega, y2, r1, y4, r2, r3, y7, r4, FL_tr fr r5⟩
  rw [if_neg h39, if_neg (fun z => h39 (k18.mp z))]
  by_cases hd : Lk t n s = 45 ∨ isD (Lk t n s) = true
  · have hlt : s < n := by
      rcases Nat.lt_or_ge s n with w | w
      · exact w
      · rw [Lk_out w] at hd; exact absurd hd (by decide)
    rw [if_pos (k17.mpr hd)]
    rcases R_number hL hn s hlt (nI (tkE (Lk t n) n s)) nr with ⟨x, x1, ⟨u, w, x2⟩, v, a, x3, x4⟩ | ⟨v, q, y1, y2, y3, y4⟩
    · rw [x2, ob3_s, x4, ob3_s, f_X0_readLiteral_139, if_neg (nI_ne x (by omega)), C_refuse, ob2_s, gz_0, f_X6_readLiteral_108, if_neg (nI_ne x (by omega))]
      exact Or.inl ⟨x, x1, ⟨_, _, _, _, _, _, _, _, _, _, _, _, _, rfl⟩, _, _, _, _, _, _, _, _, by omega, rfl, FL_rf _ _ _ _ _ _ _ _⟩
    · rw [y3, ob3_s, y4, ob3_s]
      rcases R_lit139 (b := b) (t := t) (ty := ty) (l := 2) (v := v) (nr := v) (es := es) (bb := bb) (tok := tkT (Lk t n) n s) (tb := tb) (sd := sd) (By := By) hB hL hn hh hz hf hT (Or.inr (Or.inl rfl)) hs y2 hc (Nat.le_refl e) (by omega) hm hsd hr.1 hr.2 with ⟨r1, r2⟩ | ⟨lt', nb', ts', tl', Lt', Lf', Ls', Nu', r1, r2, r3, r4, r5⟩
      · exact Or.inl ⟨s, hs, r1, _, _, _, _, _, _, _, _, by omega, r2, FL_rf _ _ _ _ _ _ _ _⟩
      · exact Or.inr ⟨q, e, v, es, bb, _, _, _, _, tb, _, _, _, By, sd, _, by omega, y2, r1, by omega, r2, r3, hsd, r4, r5⟩
  · rw [if_neg (fun z => hd (k17.mp z)), M_number_no hn hs (fun z => hd (Or.inl z)) (by cases q : isD (Lk t n s) with | false => rfl | true => exact absurd (Or.inr q) hd), ob3_s, f_X0_readLiteral_139, if_neg (nI_ne s (by omega)), C_refuse, ob2_s, gz_0, f_X6_readLiteral_108, if_neg (nI_ne s (by omega))]
    exact Or.inl ⟨s, hs, ⟨_, _, _, _, _, _, _, _, _, _, _, _, _, rfl⟩, _, _, _, _, _, _, _, _, by omega, rfl, FL_rf _ _ _ _ _ _ _ _⟩
