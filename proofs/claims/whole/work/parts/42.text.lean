/-! pure rows: texts, both sides at once -/
def hx (c : Int32) : Int32 := if isD c = true then c - 48 else if 97 ≤ c.toInt ∧ c.toInt ≤ 102 then c - 97 + 10 else -1
theorem C_hexValue (c : Int32) : f_X5_hexValue c = some (hx c) := by
  unfold f_X5_hexValue f_X5_hexValue_17 hx isD
  simp only [Int32.lt_iff_toInt_lt, Int32.le_iff_toInt_le, i_eq, Int32.reduceToInt, decide_eq_true_eq]
  repeat' split
  all_goals first | rfl | (exfalso; omega)
theorem hx_d {c : Int32} (h : isD c = true) : ¬ c - 48 = -1 := by
  intro z
  have z : c = 47 := by
    have : c - 48 + 48 = -1 + 48 := by rw [z]
    rw [Int32.sub_add_cancel] at this
    exact this
  subst z
  exact absurd h (by decide)
theorem hx_l {c : Int32} (h : 97 ≤ c.toInt) : ¬ c - 97 + 10 = -1 := by
  intro z
  have z : c = 86 := by
    have : c - 97 + 10 - 10 + 97 = -1 - 10 + 97 := by rw [z]
    rw [Int32.add_sub_cancel, Int32.sub_add_cancel] at this
    exact this
  subst z
  exact absurd h (by decide)
theorem M_b59 {t : Nat → Int32} {n a k : Nat} {p1 l3 l4 : Int32} (hn : n ≤ 2000) (ha : a < 2 ^ 30) (hl : ¬ (2 : Int32) ≤ l4) : f_X6_behind_59 (k + 1) p1 l3 l4 t (nI n) (nI a) (-1) = f_X6_behind_59 k p1 (16 * l3 + hx (Lk t n a)) (l4 + 1) t (nI n) (nI (a + 1)) (if hx (Lk t n a) = -1 then (if Lk t n a = -1 then nI n else p1) else -1) := by
  rw [f_X6_behind_59, if_neg hl, if_pos rfl, M_look hn (by omega), ob1_s, M_isDigit, ob1_s]
  simp only [M_fail, ob1_s, on_eq, nI_1, if_true]
  unfold hx
  cases hd : isD (Lk t n a) with
  | true =>
    simp only [if_neg bI_n, if_neg (hx_d hd), if_true]
  | false =>
    simp only [if_pos bI_f, Bool.false_eq_true, if_false]
    by_cases h1 : Lk t n a < 97
    · have g : ¬ (97 ≤ (Lk t n a).toInt ∧ (Lk t n a).toInt ≤ 102) := by
        rw [Int32.lt_iff_toInt_lt] at h1
        have : (97 : Int32).toInt = 97 := by decide
        omega
      rw [if_pos h1, if_neg g, if_pos rfl]
      split <;> rfl
    · rw [if_neg h1]
      have h1' : 97 ≤ (Lk t n a).toInt := by
        rw [Int32.lt_iff_toInt_lt] at h1
        have : (97 : Int32).toInt = 97 := by decide
        omega
      by_cases h2 : 102 < Lk t n a
      · have g : ¬ (97 ≤ (Lk t n a).toInt ∧ (Lk t n a).toInt ≤ 102) := by
          rw [Int32.lt_iff_toInt_lt] at h2
          have : (102 : Int32).toInt = 102 := by decide
          omega
        rw [if_pos h2, if_neg g, if_pos rfl]
        split <;> rfl
      · have g : 97 ≤ (Lk t n a).toInt ∧ (Lk t n a).toInt ≤ 102 := by
          rw [Int32.lt_iff_toInt_lt] at h2
          have : (102 : Int32).toInt = 102 := by decide
          omega
        rw [if_neg h2, if_neg (hx_l h1'), if_pos g, if_neg (hx_l h1')]
theorem M_b59I {t : Nat → Int32} {k : Nat} {p1 l3 l4 n a ill : Int32} (hi : ¬ ill = -1) : f_X6_behind_59 (k + 1) p1 l3 l4 t n a ill = some (l3, a, ill) := by
  rw [f_X6_behind_59]
  split
  · rfl
  · first | rfl | rw [if_neg hi]
theorem M_b59E {t : Nat → Int32} {k : Nat} {p1 l3 n a ill : Int32} : f_X6_behind_59 (k + 1) p1 l3 2 t n a ill = some (l3, a, ill) := by
  rw [f_X6_behind_59, if_pos (by decide)]
theorem R_escape {b t : Nat → Int32} {n p : Nat} (hB : BY t n) (hL : Lk b n = Lk t n) (hn : n ≤ 2000) (hp : p < n) (es bb : Int32) :
    (∃ x, x ≤ n ∧ (∃ u w, f_X2_readEscape (nI p) es bb b (nI n) = some (nI x, u, w)) ∧ ∃ v a, a < 3000 ∧ f_X6_behind (nI p) t (nI n) (nI (p + 1)) (-1) = some (v, nI a, nI x)) ∨ (∃ w d, p + d + 1 ≤ n ∧ f_X2_readEscape (nI p) es bb b (nI n) = some (-1, w, nI d) ∧ f_X6_behind (nI p) t (nI n) (nI (p + 1)) (-1) = some (w, nI (p + d + 1), -1)) := by
  have e2 : nI p + 2 = nI (p + 2) := nI_add p 2
  have e3 : nI p + 3 = nI (p + 3) := nI_add p 3
  rw [f_X2_readEscape, nI_1, e2, e3, C_at hn (by omega), ob1_s, C_at hn (by omega), ob1_s, C_at hn (by omega), C_hexValue, ob1_s, ob1_s, C_hexValue, ob1_s, hL, f_X6_behind, M_look hn (by omega), ob1_s, on_eq, on_eq, nI_1]
  by_cases h39 : Lk t n (p + 1) = 39
  · rw [if_pos h39, if_pos h39]
    have := Lk_lt h39 (by decide)
    exact Or.inr ⟨_, 1, by omega, rfl, rfl⟩
  rw [if_neg h39, if_neg h39]
  by_cases h92 : Lk t n (p + 1) = 92
  · rw [if_pos h92, if_pos h92]
    have := Lk_lt h92 (by decide)
    exact Or.inr ⟨_, 1, by omega, rfl, rfl⟩
  rw [if_neg h92, if_neg h92]
  by_cases h120 : Lk t n (p + 1) = 120
  · have hlt := Lk_lt h120 (by decide)
    rw [if_pos h120, if_pos h120]
    have e0 : (16 * (0 : Int32) + hx (Lk t n (p + 2))) = hx (Lk t n (p + 2)) := by rw [Int32.mul_zero, Int32.zero_add]
    rw [show FU = 4093 + 1 + 1 + 1 from rfl, M_b59 hn (by omega) (by decide), e0]
    by_cases x1 : hx (Lk t n (p + 2)) = -1
    · rw [if_pos x1, if_pos x1]
      refine Or.inl ?_
      by_cases y1 : n ≤ p + 2
      · rw [if_pos (show nI n ≤ nI (p + 2) from nI_le y1 (by omega)), if_pos ((Lk_end hB).mpr y1), M_b59I (nI_ne _ (by omega)), ob3_s]
        exact ⟨n, Nat.le_refl _, ⟨_, _, rfl⟩, _, _, by omega, rfl⟩
      · rw [if_neg (show ¬ nI n ≤ nI (p + 2) from nI_ge (by omega) (by omega)), if_neg (fun z => y1 ((Lk_end hB).mp z)), M_b59I (nI_ne _ (by omega)), ob3_s]
        exact ⟨p, by omega, ⟨_, _, rfl⟩, _, _, by omega, rfl⟩
    · have hl2 : p + 2 < n := by
        rcases Nat.lt_or_ge (p + 2) n with q | q
        · exact q
        · exfalso; apply x1; rw [Lk_out q]; decide
      rw [if_neg x1, if_neg x1, show ((0 : Int32) + 1) = 1 from rfl, M_b59 hn (by omega) (by decide), show ((1 : Int32) + 1) = 2 from rfl, M_b59E, ob3_s]
      by_cases x2 : hx (Lk t n (p + 3)) = -1
      · rw [if_pos x2, if_pos x2]
        refine Or.inl ?_
        by_cases y1 : n ≤ p + 3
        · rw [if_pos (show nI n ≤ nI (p + 3) from nI_le y1 (by omega)), if_pos ((Lk_end hB).mpr y1)]
          exact ⟨n, Nat.le_refl _, ⟨_, _, rfl⟩, _, _, by omega, rfl⟩
        · rw [if_neg (show ¬ nI n ≤ nI (p + 3) from nI_ge (by omega) (by omega)), if_neg (fun z => y1 ((Lk_end hB).mp z))]
          exact ⟨p, by omega, ⟨_, _, rfl⟩, _, _, by omega, rfl⟩
      · have hl3 : p + 3 < n := by
          rcases Nat.lt_or_ge (p + 3) n with q | q
          · exact q
          · exfalso; apply x2; rw [Lk_out q]; decide
        rw [if_neg x2, if_neg x2, Int32.mul_comm]
        exact Or.inr ⟨_, 3, by omega, rfl, rfl⟩
  rw [if_neg h120, if_neg h120]
  by_cases hm : Lk t n (p + 1) = -1
  · rw [if_pos hm, if_pos hm, M_fail, ob1_s]
    exact Or.inl ⟨n, Nat.le_refl _, ⟨_, _, rfl⟩, _, _, by omega, rfl⟩
  · rw [if_neg hm, if_neg hm, M_fail, ob1_s]
    exact Or.inl ⟨p, by omega, ⟨_, _, rfl⟩, _, _, by omega, rfl⟩
theorem nI_mul' (a b : Nat) : nI a * nI b = nI (a * b) := (Int32.ofNat_mul a b).symm
theorem C_addByte {tb : Nat → Int32} {e : Nat} (he : e < 2000) (x : Int32) : f_X1_addTextByte x tb (nI e) = some (upd tb e x, nI (e + 1)) := by
  rw [f_X1_addTextByte, if_neg (show ¬ (2000 : Int32) ≤ nI e from nI_ge (b := 2000) he (by decide)), wr_in he (by decide), on_eq, nI_1]
theorem M_say {By sd : Nat → Int32} {h e : Nat} (hh : h ≤ 1) (he : e < 2000) (hs : sd h = nI e) (x : Int32) : f_X6_say x (nI h) By sd = some (upd By (2000 * h + e) x, upd sd h (nI (e + 1))) := by
  have e1 : (2000 : Int32) * nI h + nI e = nI (2000 * h + e) := by rw [show (2000 : Int32) = nI 2000 from rfl, nI_mul', nI_add]
  rw [f_X6_say, rd_in (show h < 2 by omega) (by decide), hs, e1, wr_in (show 2000 * h + e < 4000 by omega) (by decide), rd_in (show h < 2 by omega) (by decide), hs, on_eq, nI_1, wr_in (show h < 2 by omega) (by decide)]
theorem R_text12 {b t : Nat → Int32} {n h : Nat} (hB : BY t n) (hL : Lk b n = Lk t n) (hn : n ≤ 2000) (hh : h ≤ 1) : ∀ (d p c e k k2 : Nat) (en es bb : Int32) (tb By sd : Nat → Int32), n - p ≤ d → d < k → d + 1 < k2 → p ≤ n → c ≤ 255 → e < p → sd h = nI e → (∀ j, j < e → tb j = By (2000 * h + j)) →
    (∃ x, x ≤ n ∧ (∃ u1 u2 u3 u4 u5, f_X2_readText_9 k (nI c) (nI p) en es bb b (nI n) tb (nI e) = some (nI x, u1, u2, u3, u4, u5)) ∧ ∃ a By' sd', a < 5000 ∧ f_X6_readText_12 k2 (nI c) t (nI n) (nI p) (-1) (nI h) By sd = some (nI a, nI x, By', sd') ∧ frm 2000 h By By' ∧ frm 1 h sd sd') ∨
    (∃ q e' es' bb' tb' By' sd', p < q ∧ q ≤ n ∧ e ≤ e' ∧ e' < q ∧ f_X2_readText_9 k (nI c) (nI p) en es bb b (nI n) tb (nI e) = some (-1, nI q, es', bb', tb', nI e') ∧ f_X6_readText_12 k2 (nI c) t (nI n) (nI p) (-1) (nI h) By sd = some (nI q, -1, By', sd') ∧ sd' h = nI e' ∧ (∀ j, j < e' → tb' j = By' (2000 * h + j)) ∧ frm 2000 h By By' ∧ frm 1 h sd sd') := by
  intro d
  induction d with
  | zero =>
    intro p c e k k2 en es bb tb By sd hd hk hk2 hp hc he hs ht
    obtain ⟨k, rfl⟩ : ∃ j, k = j + 1 := ⟨k - 1, by omega⟩
    obtain ⟨k2, rfl⟩ : ∃ j, k2 = j + 1 := ⟨k2 - 1, by omega⟩
    obtain rfl : p = n := by omega
    refine Or.inl ⟨p, Nat.le_refl _, ?_, ?_⟩
    · rw [f_X2_readText_9, if_pos (nI_le (Nat.le_refl _) (by omega))]
      exact ⟨_, _, _, _, _, rfl⟩
    · rw [f_X6_readText_12, if_pos rfl, M_look hn (by omega), ob1_s, ob1_s, Lk_out (Nat.le_refl _), if_neg (by decide), if_pos (by decide), M_fail, ob1_s]
      exact ⟨p, By, sd, by omega, rfl, frm_rf _ _ _, frm_rf _ _ _⟩
  | succ d ih =>
    intro p c e k k2 en es bb tb By sd hd hk hk2 hp hc he hs ht
    obtain ⟨k, rfl⟩ : ∃ j, k = j + 1 := ⟨k - 1, by omega⟩
    obtain ⟨k2, rfl⟩ : ∃ j, k2 = j + 1 := ⟨k2 - 1, by omega⟩
    rcases Nat.lt_or_ge p n with hpn | hpn
    case inr =>
      obtain rfl : p = n := by omega
      refine Or.inl ⟨p, Nat.le_refl _, ?_, ?_⟩
      · rw [f_X2_readText_9, if_pos (nI_le (Nat.le_refl _) (by omega))]
        exact ⟨_, _, _, _, _, rfl⟩
      · rw [f_X6_readText_12, if_pos rfl, M_look hn (by omega), ob1_s, ob1_s, Lk_out (Nat.le_refl _), if_neg (by decide), if_pos (by decide), M_fail, ob1_s]
        exact ⟨p, By, sd, by omega, rfl, frm_rf _ _ _, frm_rf _ _ _⟩
    rw [f_X2_readText_9, if_neg (nI_ge hpn (by omega)), C_at hn (by omega), ob1_s, hL, f_X6_readText_12, if_pos rfl, M_look hn (by omega), ob1_s, ob1_s]
    by_cases h39 : Lk t n p = 39
    · rw [if_pos h39, if_pos h39, on_eq, on_eq, nI_1]
      exact Or.inr ⟨p + 1, e, es, bb, tb, By, sd, by omega, by omega, Nat.le_refl _, by omega, rfl, rfl, hs, ht, frm_rf _ _ _, frm_rf _ _ _⟩
    rw [if_neg h39, if_neg h39, M_fail, ob1_s]
    by_cases hb : 255 ≤ c ∨ Lk t n p < 32 ∨ ¬ Lk t n p ≤ 126
    · refine Or.inl ⟨p, hp, ?_, ?_⟩
      · rcases hb with hb | hb | hb
        · rw [if_pos (show (255 : Int32) ≤ nI c from nI_le (a := 255) hb (by omega))]
          exact ⟨_, _, _, _, _, rfl⟩
        · rw [if_pos hb, ite_self]
          exact ⟨_, _, _, _, _, rfl⟩
        · rw [if_neg hb, ite_self, ite_self]
          exact ⟨_, _, _, _, _, rfl⟩
      · have fin : ∀ r : Option (Int32 × Int32 × (Nat → Int32) × (Nat → Int32)), r = some (nI p, nI p, By, sd) → ∃ a By' sd', a < 5000 ∧ r = some (nI a, nI p, By', sd') ∧ frm 2000 h By By' ∧ frm 1 h sd sd' := fun r hr => ⟨p, By, sd, by omega, hr, frm_rf _ _ _, frm_rf _ _ _⟩
        apply fin
        by_cases g1 : Lk t n p < 32
        · rw [if_pos g1]
        · rw [if_neg g1]
          by_cases g2 : 126 < Lk t n p
          · rw [if_pos g2]
          · rw [if_neg g2]
            have g2' : Lk t n p ≤ 126 := Int32.not_lt.mp g2
            have hc' : c = 255 := by
              rcases hb with hb | hb | hb
              · omega
              · exact absurd hb g1
              · exact absurd g2' hb
            rw [if_pos (show nI c = 255 by rw [hc']; rfl)]
    · have hb1 : ¬ 255 ≤ c := fun z => hb (Or.inl z)
      have hb2 : ¬ Lk t n p < 32 := fun z => hb (Or.inr (Or.inl z))
      have hb3 : Lk t n p ≤ 126 := Classical.byContradiction fun z => hb (Or.inr (Or.inr z))
      have hb4 : ¬ (126 : Int32) < Lk t n p := Int32.not_lt.mpr hb3
      rw [if_neg (show ¬ (255 : Int32) ≤ nI c from nI_ge (b := 255) (by omega) (by decide)), if_neg hb2, if_pos hb3, if_neg hb2, if_neg hb4, if_neg (show ¬ nI c = 255 by rw [show (255 : Int32) = nI 255 from rfl, nI_eq (by omega) (by decide)]; omega), on_eq, nI_1 c, nI_1 p]
      have fin : ∀ (w es1 bb1 : Int32) (q : Nat), p < q → q ≤ n → (∃ x, x ≤ n ∧ (∃ u1 u2 u3 u4 u5, f_X2_readText_9 k (nI (c + 1)) (nI q) en es1 bb1 b (nI n) (upd tb e w) (nI (e + 1)) = some (nI x, u1, u2, u3, u4, u5)) ∧ ∃ a By' sd', a < 5000 ∧ f_X6_readText_12 k2 (nI (c + 1)) t (nI n) (nI q) (-1) (nI h) (upd By (2000 * h + e) w) (upd sd h (nI (e + 1))) = some (nI a, nI x, By', sd') ∧ frm 2000 h By By' ∧ frm 1 h sd sd') ∨
          (∃ q2 e' es' bb' tb' By' sd', p < q2 ∧ q2 ≤ n ∧ e ≤ e' ∧ e' < q2 ∧ f_X2_readText_9 k (nI (c + 1)) (nI q) en es1 bb1 b (nI n) (upd tb e w) (nI (e + 1)) = some (-1, nI q2, es', bb', tb', nI e') ∧ f_X6_readText_12 k2 (nI (c + 1)) t (nI n) (nI q) (-1) (nI h) (upd By (2000 * h + e) w) (upd sd h (nI (e + 1))) = some (nI q2, -1, By', sd') ∧ sd' h = nI e' ∧ (∀ j, j < e' → tb' j = By' (2000 * h + j)) ∧ frm 2000 h By By' ∧ frm 1 h sd sd') := by
        intro w es1 bb1 q hq1 hq2
        have f1 : frm 2000 h By (upd By (2000 * h + e) w) := frm_up (by omega) (by omega)
        have f2 : frm 1 h sd (upd sd h (nI (e + 1))) := frm_up (by omega) (by omega)
        have ht' : ∀ j, j < e + 1 → upd tb e w j = upd By (2000 * h + e) w (2000 * h + j) := by
          intro j hj
          rcases Nat.lt_or_ge j e with z | z
          · rw [pk_un (by omega), pk_un (by omega)]; exact ht j z
          · obtain rfl : j = e := by omega
            rw [pk_us, pk_us]
        rcases ih q (c + 1) (e + 1) k k2 en es1 bb1 (upd tb e w) (upd By (2000 * h + e) w) (upd sd h (nI (e + 1))) (by omega) (by omega) (by omega) hq2 (by omega) (by omega) pk_us ht' with ⟨x, a1, a2, a, By', sd', a3, a4, a5, a6⟩ | ⟨q2, e', es', bb', tb', By', sd', a1, a2, a3, a4, a5, a6, a7, a8, a9, a10⟩
        · exact Or.inl ⟨x, a1, a2, a, By', sd', a3, a4, frm_tr f1 a5, frm_tr f2 a6⟩
        · exact Or.inr ⟨q2, e', es', bb', tb', By', sd', by omega, a2, by omega, a4, a5, a6, a7, a8, frm_tr f1 a9, frm_tr f2 a10⟩
      by_cases hs92 : Lk t n p = 92
      · rw [if_pos hs92, if_pos hs92]
        rcases R_escape hB hL hn hpn es bb with ⟨x, x1, ⟨u, w, x2⟩, v, a, x3, x4⟩ | ⟨w, dd, y1, y2, y3⟩
        · rw [x2, ob3_s, x4, ob3_s, if_neg (nI_ne x (by omega)), M_say hh (by omega) hs, ob2_s, on_eq]
          obtain ⟨k2, rfl⟩ : ∃ j, k2 = j + 1 := ⟨k2 - 1, by omega⟩
          refine Or.inl ⟨x, x1, ⟨_, _, _, _, _, rfl⟩, ?_⟩
          rw [f_X6_readText_12, if_neg (nI_ne x (by omega)), on_eq, nI_1]
          exact ⟨a + 1, _, _, by omega, rfl, frm_up (by omega) (by omega), frm_up (by omega) (by omega)⟩
        · rw [y2, ob3_s, y3, ob3_s, if_pos rfl, C_addByte (by omega), M_say hh (by omega) hs]
          simp only [ob2_s, on_eq, nI_add, nI_1]
          exact fin w w (nI dd) (p + dd + 1) (by omega) y1
      · rw [if_neg hs92, if_neg hs92, C_addByte (by omega), M_say hh (by omega) hs]
        simp only [ob2_s, on_eq, nI_1]
        exact fin _ es bb (p + 1) (by omega) (by omega)
theorem R_text {b t : Nat → Int32} {n h s e : Nat} (hB : BY t n) (hL : Lk b n = Lk t n) (hn : n ≤ 2000) (hh : h ≤ 1) (hs : s < n) (he : e ≤ s) (en es bb : Int32) {tb By sd : Nat → Int32} (hsd : sd h = nI e) (ht : ∀ j, j < e → tb j = By (2000 * h + j)) :
    (∃ x, x ≤ n ∧ (∃ u1 u2 u3 u4 u5, f_X2_readText (nI s) en es bb b (nI n) tb (nI e) = some (nI x, u1, u2, u3, u4, u5)) ∧ ∃ a By' sd', a < 5000 ∧ f_X6_readText t (nI n) (nI s) (-1) (nI h) By sd = some (nI a, nI x, By', sd') ∧ frm 2000 h By By' ∧ frm 1 h sd sd') ∨
    (∃ q e' es' bb' tb' By' sd', s < q ∧ q ≤ n ∧ e ≤ e' ∧ e' ≤ q ∧ f_X2_readText (nI s) en es bb b (nI n) tb (nI e) = some (-1, nI q, es', bb', tb', nI e') ∧ f_X6_readText t (nI n) (nI s) (-1) (nI h) By sd = some (nI q, -1, By', sd') ∧ sd' h = nI e' ∧ (∀ j, j < e' → tb' j = By' (2000 * h + j)) ∧ frm 2000 h By By' ∧ frm 1 h sd sd') := by
  rw [f_X2_readText, f_X6_readText, on_eq, on_eq, nI_1]
  rcases R_text12 hB hL hn hh (n - (s + 1)) (s + 1) 0 e FU FU en es bb tb By sd (Nat.le_refl _) (by show n - (s + 1) < 4096; omega) (by show n - (s + 1) + 1 < 4096; omega) (by omega) (by omega) (by omega) hsd ht with h1 | ⟨q, e', es', bb', tb', By', sd', a1, a2, a3, a4, a5⟩
  · exact Or.inl h1
  · exact Or.inr ⟨q, e', es', bb', tb', By', sd', by omega, a2, a3, by omega, a5⟩
