/-! pure rows: numbers in the text, both sides at once -/
theorem lg_lt (x y : Int64) : lg_cmp x y < 0 ↔ x.toInt < y.toInt := by
  unfold lg_cmp
  by_cases h1 : x > y
  · rw [if_pos h1]
    have h1 : y.toInt < x.toInt := Int64.lt_iff_toInt_lt.mp h1
    exact ⟨fun z => absurd z (by decide), fun z => by omega⟩
  · rw [if_neg h1]
    have h1 : ¬ y.toInt < x.toInt := fun z => h1 (Int64.lt_iff_toInt_lt.mpr z)
    by_cases h2 : x = y
    · rw [if_pos h2]; subst h2; exact ⟨fun z => absurd z (by decide), fun z => by omega⟩
    · rw [if_neg h2]
      have h2 : ¬ x.toInt = y.toInt := fun z => h2 (Int64.toInt_inj.mp z)
      exact ⟨fun z => by omega, fun z => by decide⟩
theorem lg_ge (x y : Int64) : 0 ≤ lg_cmp x y ↔ y.toInt ≤ x.toInt := by
  have h := lg_lt x y
  rw [← Int32.not_lt, h]
  omega
theorem dg_or {c : Int32} (h : isD c = true) : ∃ i : Int, 0 ≤ i ∧ i ≤ 9 ∧ (Int32.toInt64 (c - 48)).toInt = i ∧ ((-9223372036854775808 : Int64) + Int32.toInt64 (c - 48)).toInt = -9223372036854775808 + i ∧ (((-9223372036854775808 : Int64) + Int32.toInt64 (c - 48)) / 10).toInt = (if i = 9 then -922337203685477579 else -922337203685477580) := by
  unfold isD at h
  rw [decide_eq_true_eq] at h
  have h2 : c.toInt = 48 ∨ c.toInt = 49 ∨ c.toInt = 50 ∨ c.toInt = 51 ∨ c.toInt = 52 ∨ c.toInt = 53 ∨ c.toInt = 54 ∨ c.toInt = 55 ∨ c.toInt = 56 ∨ c.toInt = 57 := by omega
  rcases h2 with h2 | h2 | h2 | h2 | h2 | h2 | h2 | h2 | h2 | h2
  · obtain rfl : c = 48 := i_eq.mpr h2; exact ⟨0, by decide, by decide, by decide, by decide, by decide⟩
  · obtain rfl : c = 49 := i_eq.mpr h2; exact ⟨1, by decide, by decide, by decide, by decide, by decide⟩
  · obtain rfl : c = 50 := i_eq.mpr h2; exact ⟨2, by decide, by decide, by decide, by decide, by decide⟩
  · obtain rfl : c = 51 := i_eq.mpr h2; exact ⟨3, by decide, by decide, by decide, by decide, by decide⟩
  · obtain rfl : c = 52 := i_eq.mpr h2; exact ⟨4, by decide, by decide, by decide, by decide, by decide⟩
  · obtain rfl : c = 53 := i_eq.mpr h2; exact ⟨5, by decide, by decide, by decide, by decide, by decide⟩
  · obtain rfl : c = 54 := i_eq.mpr h2; exact ⟨6, by decide, by decide, by decide, by decide, by decide⟩
  · obtain rfl : c = 55 := i_eq.mpr h2; exact ⟨7, by decide, by decide, by decide, by decide, by decide⟩
  · obtain rfl : c = 56 := i_eq.mpr h2; exact ⟨8, by decide, by decide, by decide, by decide, by decide⟩
  · obtain rfl : c = 57 := i_eq.mpr h2; exact ⟨9, by decide, by decide, by decide, by decide, by decide⟩
theorem dg_ok {c : Int32} {v : Int64} (h : isD c = true) (hv : v.toInt ≤ 0) : ((0 ≤ lg_cmp v (((-9223372036854775808 : Int64) + Int32.toInt64 (c - 48)) / 10)) ↔ (¬ lg_cmp v (-922337203685477580 : Int64) < 0 ∧ ¬ lg_cmp (v * 10) ((-9223372036854775808 : Int64) + Int32.toInt64 (c - 48)) < 0)) ∧ ((0 ≤ lg_cmp v (((-9223372036854775808 : Int64) + Int32.toInt64 (c - 48)) / 10)) → (v * 10 - Int32.toInt64 (c - 48)).toInt ≤ 0) := by
  obtain ⟨i, h0, h9, e1, e2, e3⟩ := dg_or h
  rw [lg_ge, lg_lt, lg_lt, e2, e3, Int64.toInt_sub, Int64.toInt_mul, e1]
  have c1 : (-922337203685477580 : Int64).toInt = -922337203685477580 := by decide
  have c2 : (10 : Int64).toInt = 10 := by decide
  rw [c1, c2]
  by_cases hb : v.toInt < -922337203685477580
  · refine ⟨⟨fun z => ?_, fun z => absurd hb z.1⟩, fun z => ?_⟩
    · split at z <;> omega
    · split at z <;> omega
  · have m1 : (v.toInt * 10).bmod (2 ^ 64) = v.toInt * 10 := Int.bmod_eq_of_le (by omega) (by omega)
    rw [m1]
    refine ⟨⟨fun z => ⟨hb, ?_⟩, fun z => ?_⟩, fun z => ?_⟩
    · split at z <;> omega
    · split <;> omega
    · have m2 : (v.toInt * 10 - i).bmod (2 ^ 64) = v.toInt * 10 - i := Int.bmod_eq_of_le (by split at z <;> omega) (by omega)
      rw [m2]
      omega
theorem R_digits {b t : Nat → Int32} {n : Nat} (hL : Lk b n = Lk t n) (hn : n ≤ 2000) : ∀ (d p k k2 : Nat) (v : Int64) (f : Bool), n - p ≤ d → d < k → d < k2 → p ≤ n → (f = false → v.toInt ≤ 0) → ∃ v' f' e, p ≤ e ∧ e ≤ n ∧ (e = p ↔ isD (Lk t n p) = false) ∧ f_X2_readNumber_67 k v (bI (!f)) (nI p) b (nI n) = some (v', bI (!f'), nI e) ∧ f_X6_readNumber_96 k2 v (bI f) t (nI n) (nI p) = some (v', bI f', nI e) := by
  intro d
  induction d with
  | zero =>
    intro p k k2 v f hd hk hk2 hp hv
    obtain ⟨k, rfl⟩ : ∃ j, k = j + 1 := ⟨k - 1, by omega⟩
    obtain ⟨k2, rfl⟩ : ∃ j, k2 = j + 1 := ⟨k2 - 1, by omega⟩
    obtain rfl : p = n := by omega
    refine ⟨v, f, p, Nat.le_refl _, Nat.le_refl _, ?_, ?_, ?_⟩
    · rw [Lk_out (Nat.le_refl _)]; exact ⟨fun _ => by decide, fun _ => rfl⟩
    · rw [f_X2_readNumber_67, if_pos (nI_le (Nat.le_refl _) (by omega))]
    · rw [f_X6_readNumber_96, M_look hn (by omega), ob1_s, Lk_out (Nat.le_refl _), M_isDigit, ob1_s, if_pos (by decide)]
  | succ d ih =>
    intro p k k2 v f hd hk hk2 hp hv
    obtain ⟨k, rfl⟩ : ∃ j, k = j + 1 := ⟨k - 1, by omega⟩
    obtain ⟨k2, rfl⟩ : ∃ j, k2 = j + 1 := ⟨k2 - 1, by omega⟩
    cases hc : isD (Lk t n p) with
    | false =>
      refine ⟨v, f, p, Nat.le_refl _, hp, ⟨fun _ => rfl, fun _ => rfl⟩, ?_, ?_⟩
      · rw [f_X2_readNumber_67]
        by_cases q : n ≤ p
        · rw [if_pos (nI_le q (by omega))]
        · rw [if_neg (nI_ge (by omega) (by omega)), C_at hn (by omega), ob1_s, hL, C_isDigit, ob1_s, hc, if_pos bI_f]
      · rw [f_X6_readNumber_96, M_look hn (by omega), ob1_s, M_isDigit, ob1_s, hc, if_pos bI_f]
    | true =>
      have q : p < n := by
        rcases Nat.lt_or_ge p n with q | q
        · exact q
        · rw [Lk_out q] at hc; exact absurd hc (by decide)
      rw [f_X2_readNumber_67, if_neg (nI_ge q (by omega)), C_at hn (by omega), ob1_s, hL, C_isDigit, ob1_s, hc, if_neg bI_n, ob1_s]
      rw [f_X6_readNumber_96, M_look hn (by omega), ob1_s, M_isDigit, ob1_s, hc, if_neg bI_n, ob1_s, Int64.mul_comm 10 v]
      simp only [on_eq, nI_1]
      have fin : ∀ (v1 : Int64) (f1 : Bool), (f1 = false → v1.toInt ≤ 0) → ∃ v' f' e, p ≤ e ∧ e ≤ n ∧ (e = p ↔ true = false) ∧ f_X2_readNumber_67 k v1 (bI (!f1)) (nI (p + 1)) b (nI n) = some (v', bI (!f'), nI e) ∧ f_X6_readNumber_96 k2 v1 (bI f1) t (nI n) (nI (p + 1)) = some (v', bI f', nI e) := by
        intro v1 f1 h1
        obtain ⟨v', f', e, a1, a2, a3, a4, a5⟩ := ih (p + 1) k k2 v1 f1 (by omega) (by omega) (by omega) (by omega) h1
        exact ⟨v', f', e, by omega, a2, ⟨fun z => by omega, fun z => (by cases z)⟩, a4, a5⟩
      cases f with
      | true =>
        rw [if_pos (show bI (!true) = 0 from rfl), if_neg bI_n]
        exact fin _ true (fun z => (by cases z))
      | false =>
        have hv := hv rfl
        obtain ⟨o1, o2⟩ := dg_ok (c := Lk t n p) (v := v) hc hv
        rw [if_neg (show ¬ bI (!false) = 0 from by decide), if_pos (show bI false = 0 from rfl)]
        by_cases g : 0 ≤ lg_cmp v (((-9223372036854775808 : Int64) + Int32.toInt64 (Lk t n p - 48)) / 10)
        · rw [if_pos g, if_neg (o1.mp g).1, if_neg (o1.mp g).2]
          exact fin _ false (fun _ => o2 g)
        · rw [if_neg g]
          by_cases g1 : lg_cmp v (-922337203685477580 : Int64) < 0
          · rw [if_pos g1]
            exact fin _ true (fun z => (by cases z))
          · rw [if_neg g1]
            have g2 : lg_cmp (v * 10) ((-9223372036854775808 : Int64) + Int32.toInt64 (Lk t n p - 48)) < 0 := Classical.byContradiction fun z => g (o1.mpr ⟨g1, z⟩)
            rw [if_pos g2]
            exact fin _ true (fun z => (by cases z))
theorem R_num2 {b t : Nat → Int32} {n : Nat} (hL : Lk b n = Lk t n) (hn : n ≤ 2000) (m : Bool) (s q : Nat) (hs : s ≤ q) (hq : q ≤ n) (en : Int32) (nr : Int64) :
    (∃ x, x ≤ n ∧ (∃ u w, f_X2_readNumber_39 (bI m) (nI q) (nI s) en nr b (nI n) = some (nI x, u, w)) ∧ ∃ v a, a ≤ n ∧ f_X6_readNumber_34 (nI s) (bI m) t (nI n) (nI q) (-1) = some (v, nI a, nI x)) ∨ (∃ v e, q < e ∧ e ≤ n ∧ f_X2_readNumber_39 (bI m) (nI q) (nI s) en nr b (nI n) = some (-1, nI e, v) ∧ f_X6_readNumber_34 (nI s) (bI m) t (nI n) (nI q) (-1) = some (v, nI e, -1)) := by
  rw [f_X6_readNumber_34, M_look hn (by omega), ob1_s, M_isDigit, ob1_s, f_X2_readNumber_39]
  obtain ⟨v, f, e, h1, h2, h3, h4, h5⟩ := R_digits hL hn (n - q) q FU FU 0 false (Nat.le_refl _) (by show n - q < 4096; omega) (by show n - q < 4096; omega) hq (fun _ => by decide)
  have h4 : f_X2_readNumber_67 FU 0 1 (nI q) b (nI n) = some (v, bI (!f), nI e) := h4
  have h5 : f_X6_readNumber_96 FU 0 0 t (nI n) (nI q) = some (v, bI f, nI e) := h5
  cases hc : isD (Lk t n q) with
  | false =>
    refine Or.inl ?_
    have he := h3.mpr hc
    subst he
    rw [if_pos bI_f, M_fail, ob1_s, M_fail, ob1_s]
    by_cases g : e = n
    · rw [if_pos (show nI e = nI n by rw [g]), if_neg (show ¬ nI e < nI n from nI_nlt (by omega) (by omega))]
      exact ⟨n, Nat.le_refl _, ⟨_, _, rfl⟩, _, _, hq, rfl⟩
    · rw [if_neg (show ¬ nI e = nI n by rw [nI_eq (by omega) (by omega)]; exact g), if_pos (show nI e < nI n from nI_lt (by omega) (by omega)), h4, ob3_s]
      refine ⟨s, by omega, ?_, _, _, hq, rfl⟩
      have k190 : ∀ x y w, f_X2_readNumber_190 (bI m) (nI e) x y (nI e) w (nI s) en nr = some (nI s, en, nr) := fun x y w => by rw [f_X2_readNumber_190, if_pos rfl]
      rw [f_X2_readNumber_160, C_at hn (by omega), ob1_s, f_X2_readNumber_189, f_X2_readNumber_185, k190, k190]
      repeat' split
      all_goals exact ⟨_, _, rfl⟩
  | true =>
    have hqe : q < e := by
      rcases Nat.lt_or_ge q e with z | z
      · exact z
      · have := h3.mp (by omega); rw [hc] at this; cases this
    rw [if_neg bI_n, if_pos (nI_lt (by omega) (by omega)), h4, ob3_s, f_X6_readNumber_83, f_X6_readNumber_83, h5, ob3_s, ob3_s, ob1_s]
    rw [f_X2_readNumber_160, C_at hn (by omega), hL, ob1_s, f_X2_readNumber_189, f_X2_readNumber_185, f_X2_readNumber_190, f_X2_readNumber_190, f_X2_readNumber_225, f_X6_readNumber_193]
    have ne : ¬ nI e = nI q := by rw [nI_eq (by omega) (by omega)]; omega
    have le : (nI e ≤ nI q + 1) ↔ e ≤ q + 1 := by rw [nI_1, nI_leI (by omega) (by omega)]
    have lt : (nI q + 1 < nI e) ↔ q + 1 < e := by rw [nI_1, nI_ltI (by omega) (by omega)]
    have n1 : ¬ (1 : Int32) = 0 := by decide
    simp only [M_fail, ob1_s, on_eq, lg_eq0, if_neg ne, le, lt, if_neg n1, if_true]
    cases m <;> cases f <;> simp only [bI_t, bI_f, Bool.not_true, Bool.not_false, if_neg n1, if_true]
    · by_cases z0 : Lk t n q = 48
      · simp only [if_pos z0]
        by_cases z1 : e ≤ q + 1
        · simp only [if_pos z1, if_neg (show ¬ q + 1 < e by omega)]
          by_cases z2 : v = -9223372036854775808
          · simp only [if_pos z2]
            exact Or.inl ⟨s, by omega, ⟨_, _, rfl⟩, _, _, h2, rfl⟩
          · simp only [if_neg z2]
            exact Or.inr ⟨_, e, hqe, h2, rfl, rfl⟩
        · simp only [if_neg z1, if_pos (show q + 1 < e by omega)]
          exact Or.inl ⟨s, by omega, ⟨_, _, rfl⟩, _, _, h2, rfl⟩
      · simp only [if_neg z0]
        by_cases z2 : v = -9223372036854775808
        · simp only [if_pos z2]
          exact Or.inl ⟨s, by omega, ⟨_, _, rfl⟩, _, _, h2, rfl⟩
        · simp only [if_neg z2]
          exact Or.inr ⟨_, e, hqe, h2, rfl, rfl⟩
    · refine Or.inl ⟨s, by omega, ?_, -v, e, h2, ?_⟩
      · repeat' split
        all_goals exact ⟨_, _, rfl⟩
      · repeat' split
        all_goals rfl
    · by_cases z0 : Lk t n q = 48
      · simp only [if_pos z0]
        exact Or.inl ⟨s, by omega, ⟨_, _, rfl⟩, _, _, h2, rfl⟩
      · simp only [if_neg z0]
        exact Or.inr ⟨_, e, hqe, h2, rfl, rfl⟩
    · refine Or.inl ⟨s, by omega, ?_, v, e, h2, ?_⟩
      · repeat' split
        all_goals exact ⟨_, _, rfl⟩
      · repeat' split
        all_goals rfl
theorem R_number {b t : Nat → Int32} {n : Nat} (hL : Lk b n = Lk t n) (hn : n ≤ 2000) (s : Nat) (hs : s < n) (en : Int32) (nr : Int64) :
    (∃ x, x ≤ n ∧ (∃ u w, f_X2_readNumber (nI s) en nr b (nI n) = some (nI x, u, w)) ∧ ∃ v a, a ≤ n ∧ f_X6_readNumber t (nI n) (nI s) (-1) = some (v, nI a, nI x)) ∨ (∃ v e, s < e ∧ e ≤ n ∧ f_X2_readNumber (nI s) en nr b (nI n) = some (-1, nI e, v) ∧ f_X6_readNumber t (nI n) (nI s) (-1) = some (v, nI e, -1)) := by
  rw [f_X2_readNumber, C_at hn (by omega), hL, ob1_s, f_X6_readNumber, M_look hn (by omega), ob1_s, f_X2_readNumber_21, f_X2_readNumber_21, f_X6_readNumber_19, f_X6_readNumber_19]
  by_cases h45 : Lk t n s = 45
  · rw [if_pos h45, if_pos h45, if_neg (show ¬ (1 : Int32) = 0 by decide), if_neg (show ¬ (1 : Int32) = 0 by decide), on_eq, nI_1]
    rcases R_num2 hL hn true s (s + 1) (by omega) (by omega) en nr with h | ⟨v, e, h1, h2, h3, h4⟩
    · exact Or.inl h
    · exact Or.inr ⟨v, e, by omega, h2, h3, h4⟩
  · rw [if_neg h45, if_neg h45, if_pos rfl, if_pos rfl]
    exact R_num2 hL hn false s s (Nat.le_refl _) (by omega) en nr
theorem M_number_no {t : Nat → Int32} {n s : Nat} (hn : n ≤ 2000) (hs : s ≤ n) (h1 : ¬ Lk t n s = 45) (h2 : isD (Lk t n s) = false) : f_X6_readNumber t (nI n) (nI s) (-1) = some (0, nI s, nI s) := by
  rw [f_X6_readNumber, M_look hn (by omega), ob1_s, if_neg h1, f_X6_readNumber_19, if_pos rfl, f_X6_readNumber_34, M_look hn (by omega), ob1_s, M_isDigit, h2, ob1_s, if_pos bI_f, M_fail, M_fail, ob1_s, ob1_s]
  by_cases g : s = n
  · subst g; rw [if_pos rfl]
  · rw [if_neg (by rw [nI_eq (by omega) (by omega)]; exact g)]
