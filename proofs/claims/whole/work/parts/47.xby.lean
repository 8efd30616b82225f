/-! pure rows: what is behind by, both sides at once -/
def aB (f : Nat → Int32) (x : Int32) : Nat → Nat → Bool
  | 0, _ => false
  | d + 1, i => decide (f i = x) || aB f x d (i + 1)
theorem aB_congr {f g : Nat → Int32} {x : Int32} : ∀ d i, (∀ j, i ≤ j → j < i + d → f j = g j) → aB f x d i = aB g x d i := by
  intro d
  induction d with
  | zero => intro i _; rfl
  | succ d ih =>
    intro i h
    show (decide (f i = x) || aB f x d (i + 1)) = (decide (g i = x) || aB g x d (i + 1))
    rw [h i (Nat.le_refl _) (by omega), ih (i + 1) (fun j h1 h2 => h j (by omega) (by omega))]
theorem C_isBeh2 {by_ : Nat → Int32} {x : Int32} {c : Nat} (hc : c ≤ 8) : ∀ d i k, i + d = c → d < k → f_X1_isBehindBy_2 k x (nI i) by_ (nI c) = some (bI (aB by_ x d i)) := by
  intro d
  induction d with
  | zero =>
    intro i k hi hk
    obtain ⟨k, rfl⟩ : ∃ j, k = j + 1 := ⟨k - 1, by omega⟩
    rw [f_X1_isBehindBy_2, if_pos (nI_le (by omega) (by omega))]
    rfl
  | succ d ih =>
    intro i k hi hk
    obtain ⟨k, rfl⟩ : ∃ j, k = j + 1 := ⟨k - 1, by omega⟩
    rw [f_X1_isBehindBy_2, if_neg (nI_ge (by omega) (by omega)), rd_in (show i < 8 by omega) (by decide), on_eq, nI_1, ih (i + 1) k (by omega) (by omega)]
    show _ = some (bI (decide (by_ i = x) || aB by_ x d (i + 1)))
    by_cases h : by_ i = x
    · rw [if_pos h, decide_eq_true h]; rfl
    · rw [if_neg h, decide_eq_false h]; rfl
theorem C_isBeh {by_ : Nat → Int32} {x : Int32} {c : Nat} (hc : c ≤ 8) : f_X1_isBehindBy x by_ (nI c) = some (bI (aB by_ x c 0)) := by
  rw [f_X1_isBehindBy]
  exact C_isBeh2 hc c 0 FU (by omega) (by show c < 4096; omega)
theorem M_8h {h k : Nat} : (8 : Int32) * nI h + nI k = nI (8 * h + k) := by rw [show (8 : Int32) = nI 8 from rfl, nI_mul', nI_add]
theorem M_isBy4 {many rb : Nat → Int32} {x : Int32} {h c : Nat} (hh : h ≤ 1) (hc : c ≤ 8) (hm : many (4 * h + 1) = nI c) : ∀ d i k f, i + d = c → d < k → f_X6_isBy_4 k x (bI f) (nI i) (nI h) many rb = some (bI (f || aB (fun j => rb (8 * h + j)) x d i)) := by
  intro d
  induction d with
  | zero =>
    intro i k f hi hk
    obtain ⟨k, rfl⟩ : ∃ j, k = j + 1 := ⟨k - 1, by omega⟩
    rw [f_X6_isBy_4, M_4h 1 (k := 1) rfl, rd_in (show 4 * h + 1 < 8 by omega) (by decide), hm, if_pos (nI_le (by omega) (by omega))]
    show _ = some (bI (f || false))
    rw [Bool.or_false]
  | succ d ih =>
    intro i k f hi hk
    obtain ⟨k, rfl⟩ : ∃ j, k = j + 1 := ⟨k - 1, by omega⟩
    rw [f_X6_isBy_4, M_4h 1 (k := 1) rfl, rd_in (show 4 * h + 1 < 8 by omega) (by decide), hm, if_neg (nI_ge (by omega) (by omega)), M_8h, rd_in (show 8 * h + i < 16 by omega) (by decide)]
    simp only [on_eq, nI_1]
    have i0 : f_X6_isBy_4 k x 0 (nI (i + 1)) (nI h) many rb = some (bI (false || aB (fun j => rb (8 * h + j)) x d (i + 1))) := ih (i + 1) k false (by omega) (by omega)
    have i1 : f_X6_isBy_4 k x 1 (nI (i + 1)) (nI h) many rb = some (bI (true || aB (fun j => rb (8 * h + j)) x d (i + 1))) := ih (i + 1) k true (by omega) (by omega)
    rw [i0, i1]
    show _ = some (bI (f || (decide (rb (8 * h + i) = x) || aB (fun j => rb (8 * h + j)) x d (i + 1))))
    cases f with
    | true => rw [if_neg bI_n, Bool.true_or, Bool.true_or]
    | false =>
      rw [if_pos bI_f]
      by_cases g : rb (8 * h + i) = x
      · rw [if_pos g, decide_eq_true g]; rfl
      · rw [if_neg g, decide_eq_false g]; rfl
theorem M_isBy {many rb : Nat → Int32} {x : Int32} {h c : Nat} (hh : h ≤ 1) (hc : c ≤ 8) (hm : many (4 * h + 1) = nI c) : f_X6_isBy x (nI h) many rb = some (bI (aB (fun j => rb (8 * h + j)) x c 0)) := by
  have r : f_X6_isBy_4 FU x 0 0 (nI h) many rb = some (bI (false || aB (fun j => rb (8 * h + j)) x c 0)) := M_isBy4 hh hc hm c 0 FU false (by omega) (by show c < 4096; omega)
  rw [f_X6_isBy, r, ob1_s, Bool.false_or, gz_b]
def BR (h c : Nat) (by_ rb : Nat → Int32) : Prop := ∀ i, i < c → by_ i = rb (8 * h + i)
theorem BR_aB {h c : Nat} {by_ rb : Nat → Int32} {x : Int32} (hb : BR h c by_ rb) : aB (fun j => rb (8 * h + j)) x c 0 = aB by_ x c 0 := aB_congr c 0 (fun j _ h2 => (hb j (by omega)).symm)
section CXb
variable {b t gr ln nm kd ty fla gr' ln' nm' ty' : Nat → Int32} {n z h : Nat} {V : Nat → Bool}
theorem M_169I {a k : Nat} {ill : Int32} {many rb : Nat → Int32} (hn : n ≤ 2000) (ha : a < 5000) (hi : ¬ ill = -1) : f_X6_query_169 (k + 1) t (nI n) (nI a) ill gr' kd ty' ln' nm' (nI z) (nI h) many rb = some (nI (sk (Lk t n) n a), ill, many, rb) := by
  rw [f_X6_query_169, M_takesSignI hn (by omega) _ hi, ob2_s, if_pos rfl]
theorem M_by58I {x a ill : Int32} {many rb : Nat → Int32} (hi : ¬ ill = -1) : f_X6_readBy_58 x a ill (nI h) many rb = some (a, ill, many, rb) := by
  rw [f_X6_readBy_58, if_neg hi]
theorem R_byLoop (K : CX b t gr ln nm kd ty fla gr' ln' nm' ty' n z h V) : ∀ (d c p k k2 : Nat) (by_ many rb : Nat → Int32), c + d = 8 → p ≤ n → d < k → d + 1 < k2 → many (4 * h + 1) = nI c → BR h c by_ rb →
    (∃ x, x ≤ n ∧ (∃ u1 u2 u3 u4 u5, f_X0_readBehindBy_2 k (nI c) (-1) (tkT (Lk t n) n (sk (Lk t n) n p)) (nI (sk (Lk t n) n p)) (nI (tkE (Lk t n) n (sk (Lk t n) n p))) nm ln gr ty fla (nI z) by_ (nI c) b (nI n) = some (0, nI x, u1, u2, u3, u4, u5)) ∧ ∃ a many' rb', a < 5000 ∧ ob4 (f_X6_readBy t (nI n) (nI p) (-1) gr' kd ty' ln' nm' (nI z) (nI h) many rb) (fun x5 x6 x7 x8 => f_X6_query_169 k2 t (nI n) x5 x6 gr' kd ty' ln' nm' (nI z) (nI h) x7 x8) = some (nI a, nI x, many', rb') ∧ frm 4 h many many' ∧ frm 8 h rb rb') ∨
    (∃ s c' by' many' rb', s ≤ n ∧ sk (Lk t n) n s = s ∧ 1 ≤ c' ∧ c' ≤ 8 ∧ f_X0_readBehindBy_2 k (nI c) (-1) (tkT (Lk t n) n (sk (Lk t n) n p)) (nI (sk (Lk t n) n p)) (nI (tkE (Lk t n) n (sk (Lk t n) n p))) nm ln gr ty fla (nI z) by_ (nI c) b (nI n) = some (1, -1, tkT (Lk t n) n s, nI s, nI (tkE (Lk t n) n s), by', nI c') ∧ ob4 (f_X6_readBy t (nI n) (nI p) (-1) gr' kd ty' ln' nm' (nI z) (nI h) many rb) (fun x5 x6 x7 x8 => f_X6_query_169 k2 t (nI n) x5 x6 gr' kd ty' ln' nm' (nI z) (nI h) x7 x8) = some (nI s, -1, many', rb') ∧ many' (4 * h + 1) = nI c' ∧ (∀ j, ¬ j = 4 * h + 1 → many' j = many j) ∧ BR h c' by' rb' ∧ frm 8 h rb rb') := by
  have K' := K
  obtain ⟨hVc, hVm, hB, hBt, hL, hF, hty, hn, hz, hz', hg, hh⟩ := K
  have hz64 := hz.1
  have n10 : ¬ (1 : Int32) = 0 := by decide
  intro d
  induction d with
  | zero =>
    intro c p k k2 by_ many rb hc hp hk hk2 hm hb
    obtain ⟨k, rfl⟩ : ∃ j, k = j + 1 := ⟨k - 1, by omega⟩
    obtain ⟨k2, rfl⟩ : ∃ j, k2 = j + 1 := ⟨k2 - 1, by omega⟩
    obtain rfl : c = 8 := by omega
    have hs := sk_le t n p hp
    have ni := nI_ne (sk (Lk t n) n p) (by omega)
    rw [f_X0_readBehindBy_2, if_pos (show (8 : Int32) ≤ nI 8 by decide), C_refuse, ob2_s, gz_0, f_X6_readBy, M_blanks hn (by omega), ob1_s, M_4h 1 (k := 1) rfl, rd_in (show 4 * h + 1 < 8 by omega) (by decide), hm, if_pos (show nI 8 = 8 from rfl), M_fail, ob1_s, f_X6_readBy_32, M_columnI hn (by omega) ni, ob3_s, if_neg ni, M_by58I ni, ob4_s, sk_sk, M_169I hn (by omega) ni]
    exact Or.inl ⟨_, hs, ⟨_, _, _, _, _, rfl⟩, _, _, _, sk_5 hn (by omega), rfl, frm_rf _ _ _, frm_rf _ _ _⟩
  | succ d ih =>
    intro c p k k2 by_ many rb hc hp hk hk2 hm hb
    obtain ⟨k, rfl⟩ : ∃ j, k = j + 1 := ⟨k - 1, by omega⟩
    obtain ⟨k2, rfl⟩ : ∃ j, k2 = j + 1 := ⟨k2 - 1, by omega⟩
    have hs := sk_le t n p hp
    have hss := sk_sk t n p
    rw [f_X0_readBehindBy_2, if_neg (show ¬ (8 : Int32) ≤ nI c from nI_ge (b := 8) (by omega) (by decide)), f_X6_readBy, M_blanks hn (by omega), ob1_s, M_4h 1 (k := 1) rfl, rd_in (show 4 * h + 1 < 8 by omega) (by decide), hm, if_neg (show ¬ nI c = 8 from fun z => by have := (nI_eq (b := 8) (by omega) (by decide)).mp z; omega), f_X6_readBy_32]
    generalize sk (Lk t n) n p = s at hs hss ⊢
    rcases R_column K' hs hss with ⟨x, q1, ⟨u, v, w, q2⟩, g, a, q3, q4⟩ | ⟨f, u, v, w, q1, q2, q3, g, a, q4, q5⟩ | ⟨f, e1, q1, q2, q3, q4, q5, q6⟩
    · have ni := nI_ne x (by omega)
      rw [q2, ob5_s, if_pos rfl, q4, ob3_s, if_neg ni, M_by58I ni, ob4_s, M_169I hn (by omega) ni]
      exact Or.inl ⟨x, q1, ⟨_, _, _, _, _, rfl⟩, _, _, _, sk_5 hn (by omega), rfl, frm_rf _ _ _, frm_rf _ _ _⟩
    · have ni := nI_ne s (by omega)
      rw [q3, ob5_s, if_neg (nI_ne f (by omega)), C_flatValue hVc hz64 q1, q2, ob1_s, if_pos bI_f, C_refuse, ob2_s, gz_0, q5, ob3_s, if_neg ni, M_by58I ni, ob4_s, M_169I hn (by omega) ni]
      exact Or.inl ⟨s, hs, ⟨_, _, _, _, _, rfl⟩, _, _, _, sk_5 hn (by omega), rfl, frm_rf _ _ _, frm_rf _ _ _⟩
    · rw [q5, ob5_s, if_neg (nI_ne f (by omega)), C_flatValue hVc hz64 q1, q2, ob1_s, if_neg bI_n, f_X1_addBehindBy, if_neg (show ¬ (8 : Int32) ≤ nI c from nI_ge (b := 8) (by omega) (by decide)), C_isBeh (by omega), ob1_s, q6, ob3_s, if_pos rfl, M_isBy hh (show c ≤ 8 by omega) hm, ob1_s, BR_aB hb]
      cases hd : aB by_ (nI f) c 0 with
      | true =>
        have ni := nI_ne s (by omega)
        rw [if_neg bI_n, if_neg bI_n, ob3_s, if_pos rfl, C_refuse, ob2_s, gz_0, M_fail, ob1_s, M_by58I ni, ob4_s, M_169I hn (by omega) ni]
        exact Or.inl ⟨s, hs, ⟨_, _, _, _, _, rfl⟩, _, _, _, sk_5 hn (by omega), rfl, frm_rf _ _ _, frm_rf _ _ _⟩
      | false =>
        have hs1 := sk_le t n e1 q4
        rw [if_pos bI_f, if_pos bI_f, wr_in (show c < 8 by omega) (by decide), on_eq, nI_1, ob3_s, if_neg n10, f_X6_readBy_58, if_pos rfl, M_4h 1 (k := 1) rfl, rd_in (show 4 * h + 1 < 8 by omega) (by decide), hm, M_8h, wr_in (show 8 * h + c < 16 by omega) (by decide), on_eq, rd_in (show 4 * h + 1 < 8 by omega) (by decide), hm, on_eq, nI_1, wr_in (show 4 * h + 1 < 8 by omega) (by decide), ob4_s, f_X6_query_169, M_takesSign hn q4]
        have hb' : BR h (c + 1) (upd by_ c (nI f)) (upd rb (8 * h + c) (nI f)) := by
          intro i hi
          rcases Nat.lt_or_ge i c with q | q
          · rw [pk_un (by omega), pk_un (by omega)]; exact hb i q
          · obtain rfl : i = c := by omega
            rw [pk_us, pk_us]
        have f1 : frm 4 h many (upd many (4 * h + 1) (nI (c + 1))) := frm_up (by omega) (by omega)
        have f2 : frm 8 h rb (upd rb (8 * h + c) (nI f)) := frm_up (by omega) (by omega)
        by_cases h44 : Lk t n (sk (Lk t n) n e1) = 44
        · have hlt := Lk_lt h44 (by decide)
          rw [if_pos h44, if_pos (tk_comma.mpr h44), tkE_sign h44 (Or.inr (Or.inr rfl)), A_adv hB hL hn (by omega), ob3_s, on_eq, ob2_s, if_neg n10]
          rcases ih (c + 1) (sk (Lk t n) n e1 + 1) k k2 (upd by_ c (nI f)) (upd many (4 * h + 1) (nI (c + 1))) (upd rb (8 * h + c) (nI f)) (by omega) (by omega) (by omega) (by omega) pk_us hb' with ⟨x, x1, x2, a, many2, rb2, x3, x4, x5, x6⟩ | ⟨s2, c2, by2, many2, rb2, y1, y2, y3, y4, y5, y6, y7, y8, y9, y10⟩
          · exact Or.inl ⟨x, x1, x2, a, many2, rb2, x3, x4, frm_tr f1 x5, frm_tr f2 x6⟩
          · exact Or.inr ⟨s2, c2, by2, many2, rb2, y1, y2, y3, y4, y5, y6, y7, fun j hj => by rw [y8 j hj, pk_un hj], y9, frm_tr f2 y10⟩
        · rw [if_neg h44, if_neg (fun z => h44 (tk_comma.mp z)), ob2_s, if_pos rfl]
          exact Or.inr ⟨_, c + 1, _, _, _, hs1, sk_sk t n e1, by omega, by omega, rfl, rfl, pk_us, fun j hj => pk_un hj, hb', f2⟩
end CXb
/-- the items are checked at the end -/
def kB (f : Nat → Int32) : Nat → Nat → Bool
  | 0, _ => false
  | d + 1, i => (!decide (f i = 0)) || kB f d (i + 1)
theorem kB_congr {f g : Nat → Int32} : ∀ d i, (∀ j, i ≤ j → j < i + d → f j = g j) → kB f d i = kB g d i := by
  intro d
  induction d with
  | zero => intro i _; rfl
  | succ d ih =>
    intro i h
    show ((!decide (f i = 0)) || kB f d (i + 1)) = ((!decide (g i = 0)) || kB g d (i + 1))
    rw [h i (Nat.le_refl _) (by omega), ih (i + 1) (fun j h1 h2 => h j (by omega) (by omega))]
theorem C_coll15 {it : Nat → Int32} {c : Nat} (hc : c ≤ 16) : ∀ d i k f, i + d = c → d < k → f_X1_collects_15 k (bI f) (nI i) it (nI c) = some (bI (f || kB (fun j => it (2 * j)) d i)) := by
  intro d
  induction d with
  | zero =>
    intro i k f hi hk
    obtain ⟨k, rfl⟩ : ∃ j, k = j + 1 := ⟨k - 1, by omega⟩
    rw [f_X1_collects_15, if_pos (nI_le (by omega) (by omega))]
    show _ = some (bI (f || false))
    rw [Bool.or_false]
  | succ d ih =>
    intro i k f hi hk
    obtain ⟨k, rfl⟩ : ∃ j, k = j + 1 := ⟨k - 1, by omega⟩
    have e2 : nI i * 2 = nI (2 * i) := by rw [show (2 : Int32) = nI 2 from rfl, nI_mul', Nat.mul_comm]
    rw [f_X1_collects_15, if_neg (nI_ge (by omega) (by omega)), e2, rd_in (show 2 * i < 32 by omega) (by decide)]
    simp only [on_eq, nI_1]
    have i0 : f_X1_collects_15 k 0 (nI (i + 1)) it (nI c) = some (bI (false || kB (fun j => it (2 * j)) d (i + 1))) := ih (i + 1) k false (by omega) (by omega)
    have i1 : f_X1_collects_15 k 1 (nI (i + 1)) it (nI c) = some (bI (true || kB (fun j => it (2 * j)) d (i + 1))) := ih (i + 1) k true (by omega) (by omega)
    rw [i0, i1]
    show _ = some (bI (f || ((!decide (it (2 * i) = 0)) || kB (fun j => it (2 * j)) d (i + 1))))
    cases f with
    | true => rw [if_neg bI_n, Bool.true_or, Bool.true_or]
    | false =>
      rw [if_pos bI_f]
      by_cases g : it (2 * i) = 0
      · rw [if_pos g, decide_eq_true g]; rfl
      · rw [if_neg g, decide_eq_false g]; rfl
theorem C_collects {it : Nat → Int32} {c c1 : Nat} (hc : c ≤ 16) (h1 : c1 ≤ 8) : f_X1_collects it (nI c) (nI c1) = some (bI (decide (0 < c1) || kB (fun j => it (2 * j)) c 0)) := by
  have r0 : f_X1_collects_15 FU 0 0 it (nI c) = some (bI (false || kB (fun j => it (2 * j)) c 0)) := C_coll15 hc c 0 FU false (by omega) (by show c < 4096; omega)
  have r1 : f_X1_collects_15 FU 1 0 it (nI c) = some (bI (true || kB (fun j => it (2 * j)) c 0)) := C_coll15 hc c 0 FU true (by omega) (by show c < 4096; omega)
  rw [f_X1_collects, f_X1_collects_12, f_X1_collects_12, r0, r1, ob1_s, ob1_s, gz_b, gz_b]
  by_cases g : c1 = 0
  · subst g; rw [if_pos (show nI 0 ≤ 0 by decide)]; rfl
  · rw [if_neg (nI_nle (by omega) (by omega)), decide_eq_true (show 0 < c1 by omega)]
theorem M_16h {h k : Nat} : (16 : Int32) * nI h + nI k = nI (16 * h + k) := by rw [show (16 : Int32) = nI 16 from rfl, nI_mul', nI_add]
theorem M_4h0 {h : Nat} : (4 : Int32) * nI h = nI (4 * h) := by rw [show (4 : Int32) = nI 4 from rfl, nI_mul']
theorem M_coll21 {many ik : Nat → Int32} {h c : Nat} (hh : h ≤ 1) (hc : c ≤ 16) (hm : many (4 * h) = nI c) (hk0 : ∀ i, i < c → ∃ k, k < 6 ∧ ik (16 * h + i) = nI k) : ∀ d i k f, i + d = c → d < k → f_X6_collects_21 k (nI h) (bI f) (nI i) many ik = some (bI (f || kB (fun j => ik (16 * h + j)) d i)) := by
  intro d
  induction d with
  | zero =>
    intro i k f hi hk
    obtain ⟨k, rfl⟩ : ∃ j, k = j + 1 := ⟨k - 1, by omega⟩
    rw [f_X6_collects_21, M_4h0, rd_in (show 4 * h < 8 by omega) (by decide), hm, if_pos (nI_le (by omega) (by omega))]
    show _ = some (bI (f || false))
    rw [Bool.or_false]
  | succ d ih =>
    intro i k f hi hk
    obtain ⟨k, rfl⟩ : ∃ j, k = j + 1 := ⟨k - 1, by omega⟩
    rw [f_X6_collects_21, M_4h0, rd_in (show 4 * h < 8 by omega) (by decide), hm, if_neg (nI_ge (by omega) (by omega)), M_16h, rd_in (show 16 * h + i < 32 by omega) (by decide)]
    simp only [on_eq, nI_1]
    have i0 : f_X6_collects_21 k (nI h) 0 (nI (i + 1)) many ik = some (bI (false || kB (fun j => ik (16 * h + j)) d (i + 1))) := ih (i + 1) k false (by omega) (by omega)
    have i1 : f_X6_collects_21 k (nI h) 1 (nI (i + 1)) many ik = some (bI (true || kB (fun j => ik (16 * h + j)) d (i + 1))) := ih (i + 1) k true (by omega) (by omega)
    rw [i0, i1]
    show _ = some (bI (f || ((!decide (ik (16 * h + i) = 0)) || kB (fun j => ik (16 * h + j)) d (i + 1))))
    cases f with
    | true => rw [if_neg bI_n, Bool.true_or, Bool.true_or]
    | false =>
      rw [if_pos bI_f]
      obtain ⟨q, hq, e⟩ := hk0 i (by omega)
      rw [e]
      by_cases g : q = 0
      · subst g; rw [if_pos (show nI 0 ≤ 0 by decide)]; rfl
      · rw [if_neg (nI_nle (by omega) (by omega)), decide_eq_false (nI_ne0 (by omega) (by omega))]; rfl
theorem M_collects {many ik : Nat → Int32} {h c c1 : Nat} (hh : h ≤ 1) (hc : c ≤ 16) (h1 : c1 ≤ 8) (hm : many (4 * h) = nI c) (hm1 : many (4 * h + 1) = nI c1) (hk0 : ∀ i, i < c → ∃ k, k < 6 ∧ ik (16 * h + i) = nI k) : f_X6_collects (nI h) many ik = some (bI (decide (0 < c1) || kB (fun j => ik (16 * h + j)) c 0)) := by
  have r0 : f_X6_collects_21 FU (nI h) 0 0 many ik = some (bI (false || kB (fun j => ik (16 * h + j)) c 0)) := M_coll21 hh hc hm hk0 c 0 FU false (by omega) (by show c < 4096; omega)
  have r1 : f_X6_collects_21 FU (nI h) 1 0 many ik = some (bI (true || kB (fun j => ik (16 * h + j)) c 0)) := M_coll21 hh hc hm hk0 c 0 FU true (by omega) (by show c < 4096; omega)
  rw [f_X6_collects, M_4h 1 (k := 1) rfl, rd_in (show 4 * h + 1 < 8 by omega) (by decide), hm1, f_X6_collects_18, f_X6_collects_18, r0, r1, ob1_s, ob1_s, gz_b, gz_b]
  by_cases g : c1 = 0
  · subst g; rw [if_pos (show nI 0 ≤ 0 by decide)]; rfl
  · rw [if_neg (nI_nle (by omega) (by omega)), decide_eq_true (show 0 < c1 by omega)]
theorem R_check {n h c c1 : Nat} {it pl by_ many ik jf ip rb : Nat → Int32} (hh : h ≤ 1) (hc : c ≤ 16) (h1 : c1 ≤ 8) (hm : many (4 * h) = nI c) (hm1 : many (4 * h + 1) = nI c1) (hI : IR h c it pl ik jf ip) (hb : BR h c1 by_ rb) : ∀ d i k k2 (F : Int32), i + d = c → d < k → d < k2 → ∃ r, f_X0_checkItems_13 k (nI i) pl F it by_ (nI c) (nI c1) = some r ∧ f_X6_query_243 k2 1 (nI i) F (nI h) many ik jf ip rb = some r ∧ (F = -1 → r = -1 ∨ ∃ j, j < c ∧ r = pl j) ∧ (¬ F = -1 → r = F) := by
  intro d
  induction d with
  | zero =>
    intro i k k2 F hi hk hk2
    obtain ⟨k, rfl⟩ : ∃ j, k = j + 1 := ⟨k - 1, by omega⟩
    obtain ⟨k2, rfl⟩ : ∃ j, k2 = j + 1 := ⟨k2 - 1, by omega⟩
    rw [f_X0_checkItems_13, if_pos (nI_le (by omega) (by omega)), f_X6_query_243, M_4h0, rd_in (show 4 * h < 8 by omega) (by decide), hm, if_pos (nI_le (by omega) (by omega))]
    exact ⟨F, rfl, rfl, fun z => Or.inl z, fun _ => rfl⟩
  | succ d ih =>
    intro i k k2 F hi hk hk2
    obtain ⟨k, rfl⟩ : ∃ j, k = j + 1 := ⟨k - 1, by omega⟩
    obtain ⟨k2, rfl⟩ : ∃ j, k2 = j + 1 := ⟨k2 - 1, by omega⟩
    obtain ⟨i1, i2, i3, _⟩ := hI i (by omega)
    have e2 : nI i * 2 = nI (2 * i) := by rw [show (2 : Int32) = nI 2 from rfl, nI_mul', Nat.mul_comm]
    have n10 : ¬ (1 : Int32) = 0 := by decide
    have cr : ∀ x F : Int32, f_X0_refuse x F = some (0, if F = -1 then x else F) := fun x F => by rw [f_X0_refuse]; split <;> rfl
    have mf : ∀ x F : Int32, f_X6_fail x F = some (if F = -1 then x else F) := fun x F => by
      by_cases g : F = -1
      · subst g; rw [M_fail]; rfl
      · rw [M_failI _ g, if_neg g]
    rw [f_X0_checkItems_13, if_neg (nI_ge (by omega) (by omega)), e2, rd_in (show 2 * i < 32 by omega) (by decide), if_neg n10, nI_1, rd_in (show 2 * i + 1 < 32 by omega) (by decide), if_pos rfl, C_isBeh h1, ob1_s, rd_in (show i < 16 by omega) (by decide), cr, ob2_s]
    rw [f_X6_query_243, M_4h0, rd_in (show 4 * h < 8 by omega) (by decide), hm, if_neg (nI_ge (by omega) (by omega)), if_neg n10, M_16h, rd_in (show 16 * h + i < 32 by omega) (by decide), rd_in (show 16 * h + i < 32 by omega) (by decide), M_isBy hh h1 hm1, ob1_s, rd_in (show 16 * h + i < 32 by omega) (by decide), mf, ob1_s, ← i1, ← i2, ← i3, BR_aB hb]
    simp only [on_eq, nI_1]
    by_cases g : it (2 * i) = 0
    · rw [if_pos g, if_pos g]
      cases hd : aB by_ (it (2 * i + 1)) c1 0 with
      | true =>
        rw [if_neg bI_n, if_neg bI_n]
        exact ih (i + 1) k k2 F (by omega) (by omega) (by omega)
      | false =>
        rw [if_pos bI_f, if_pos bI_f]
        obtain ⟨r, r1, r2, r3, r4⟩ := ih (i + 1) k k2 (if F = -1 then pl i else F) (by omega) (by omega) (by omega)
        refine ⟨r, r1, r2, fun z => ?_, fun z => ?_⟩
        · rw [if_pos z] at r3 r4
          by_cases y : pl i = -1
          · exact r3 y
          · exact Or.inr ⟨i, by omega, r4 y⟩
        · rw [if_neg z] at r4
          exact r4 z
    · rw [if_neg g, if_neg g]
      exact ih (i + 1) k k2 F (by omega) (by omega) (by omega)
