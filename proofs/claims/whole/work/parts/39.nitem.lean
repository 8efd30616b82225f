/-! pure rows: the reference's items, whole -/
theorem tkT_word {t : Nat → Int32} {n s : Nat} (h : wd (Lk t n) n s < 16) : tkT (Lk t n) n s = nI (wd (Lk t n) n s) := (tk_word h).mpr rfl
section MI
variable {t gr ln nm kd ty : Nat → Int32} {n z h c : Nat} {V : Nat → Bool} {many ik jf ip : Nat → Int32}
theorem M_ri89_0 {p s0 : Nat} (hB : BY t n) (hn : n ≤ 2000) (hz : LN ln z) (hp : p ≤ n) (hs0 : s0 ≤ n) (hh : h ≤ 1) (hc : c < 16) (hm : many (4 * h) = nI c) : (∀ x, pthS (Lk t n) n (fd gr ln nm (Lk t n) z) (sk (Lk t n) n p) = .error x → x ≤ n ∧ ∃ a, a ≤ n ∧ f_X6_readItem_89 (nI s0) (nI c) 0 t (nI n) (nI p) (-1) gr kd ty ln nm (nI z) (nI h) many ik jf ip = some (nI a, nI x, many, ik, jf, ip)) ∧ (∀ g e, pthS (Lk t n) n (fd gr ln nm (Lk t n) z) (sk (Lk t n) n p) = .ok (g, e) → e ≤ n ∧ (g = -1 → f_X6_readItem_89 (nI s0) (nI c) 0 t (nI n) (nI p) (-1) gr kd ty ln nm (nI z) (nI h) many ik jf ip = some (nI e, nI s0, many, ik, jf, ip)) ∧ (¬ g = -1 → f_X6_readItem_89 (nI s0) (nI c) 0 t (nI n) (nI p) (-1) gr kd ty ln nm (nI z) (nI h) many ik jf ip = some (nI e, -1, upd many (4 * h) (nI (c + 1)), upd ik (16 * h + c) 0, upd jf (16 * h + c) g, upd ip (16 * h + c) (nI s0)))) := by
  have hs1 := sk_le t n p hp
  have hm1 := M_path (p := sk (Lk t n) n p) (gr := gr) (nm := nm) hB hn hz hs1
  rw [sk_sk] at hm1
  unfold f_X6_readItem_89
  rw [M_blanks hn (by omega), ob1_s, if_pos rfl]
  refine ⟨fun x hx => ?_, fun g e he => ?_⟩
  · obtain ⟨a, ha, ea⟩ := hm1.1 x hx
    have hb := ((pathS_b hB (n + 1) _ (-1) true hs1).2 _ hx).2
    rw [ea, ob3_s, if_neg (nI_ne x (by omega)), M_ri214I (nI_ne x (by omega))]
    exact ⟨hb, a, ha, rfl⟩
  · have hb := ((pathS_b hB (n + 1) _ (-1) true hs1).1 _ _ he).2
    refine ⟨hb, fun hg => ?_, fun hg => ?_⟩
    · rw [hm1.2 g e he, ob3_s, if_pos rfl, if_pos hg, M_fail, ob1_s, M_ri214I (nI_ne s0 (by omega))]
    · rw [hm1.2 g e he, ob3_s, if_pos rfl, if_neg hg, M_ri214 hh hc hm]
theorem M_ri143 {x1 x2 : Int32} {p : Int32} {k : Nat} (hk : 2 ≤ k) (hk2 : k < 100) : f_X6_readItem_143 x1 x2 (nI k) t (nI n) p (-1) gr kd ty ln nm (nI z) (nI h) many ik jf ip = f_X6_readItem_153 x1 x2 (nI k) t (nI n) p (-1) gr kd ty ln nm (nI z) (nI h) many ik jf ip := by
  unfold f_X6_readItem_143
  rw [if_neg (show ¬ nI k = (1 : Int32) from fun q => by have := (nI_eq (b := 1) (by omega) (by decide)).mp q; omega)]
theorem M_ri89_k {p s0 k : Nat} (hk : 2 ≤ k) (hk2 : k < 100) (hn : n ≤ 2000) (hp : p ≤ n) : f_X6_readItem_89 (nI s0) (nI c) (nI k) t (nI n) (nI p) (-1) gr kd ty ln nm (nI z) (nI h) many ik jf ip = f_X6_readItem_153 (nI s0) (nI c) (nI k) t (nI n) (nI (sk (Lk t n) n p)) (-1) gr kd ty ln nm (nI z) (nI h) many ik jf ip := by
  unfold f_X6_readItem_89
  rw [M_blanks hn (by omega), ob1_s, if_neg (nI_ne0 (by omega) (by omega)), if_pos (show (1 : Int32) < nI k from nI_lt (a := 1) (by omega) (by omega)), M_ri143 hk hk2]
theorem M_ri89_1 {p s0 : Nat} (hn : n ≤ 2000) (hp : p ≤ n) (hh : h ≤ 1) (hc : c < 16) (hm : many (4 * h) = nI c) : (Lk t n (sk (Lk t n) n p) = 40 → f_X6_readItem_89 (nI s0) (nI c) 1 t (nI n) (nI p) (-1) gr kd ty ln nm (nI z) (nI h) many ik jf ip = f_X6_readItem_153 (nI s0) (nI c) (nI 2) t (nI n) (nI (sk (Lk t n) n p)) (-1) gr kd ty ln nm (nI z) (nI h) many ik jf ip) ∧ (¬ Lk t n (sk (Lk t n) n p) = 40 → f_X6_readItem_89 (nI s0) (nI c) 1 t (nI n) (nI p) (-1) gr kd ty ln nm (nI z) (nI h) many ik jf ip = some (nI (sk (Lk t n) n p), -1, upd many (4 * h) (nI (c + 1)), upd ik (16 * h + c) 1, upd jf (16 * h + c) (-1), upd ip (16 * h + c) (nI s0))) := by
  have hs1 := sk_le t n p hp
  unfold f_X6_readItem_89
  rw [M_blanks hn (by omega), ob1_s, if_neg (show ¬ (1 : Int32) = 0 by decide), if_neg (show ¬ (1 : Int32) < 1 by decide), M_look hn (by omega), ob1_s]
  refine ⟨fun h1 => ?_, fun h1 => ?_⟩
  · rw [if_pos h1]
    unfold f_X6_readItem_143
    rw [if_pos rfl]
    rfl
  · rw [if_neg h1, M_ri214 hh hc hm]
theorem M_ri32 {s : Nat} (hV : ∀ j, j < z → V j = vl ty gr kd j) (hB : BY t n) (hn : n ≤ 2000) (hz : LN ln z) (hg : GRP gr z) (hs : s ≤ n) (hss : sk (Lk t n) n s = s) (hh : h ≤ 1) (hc : c < 16) (hm : many (4 * h) = nI c) : (∀ x, itmS (Lk t n) n (fd gr ln nm (Lk t n) z) V ty s = .error x → x ≤ n ∧ ∃ a, a ≤ n ∧ f_X6_readItem_32 (nI s) (nI c) t (nI n) (nI s) (-1) gr kd ty ln nm (nI z) (nI h) many ik jf ip = some (nI a, nI x, many, ik, jf, ip)) ∧ (∀ kk g e, itmS (Lk t n) n (fd gr ln nm (Lk t n) z) V ty s = .ok (kk, g, e) → ∃ a, a ≤ n ∧ e ≤ n ∧ sk (Lk t n) n a = sk (Lk t n) n e ∧ f_X6_readItem_32 (nI s) (nI c) t (nI n) (nI s) (-1) gr kd ty ln nm (nI z) (nI h) many ik jf ip = some (nI a, -1, upd many (4 * h) (nI (c + 1)), upd ik (16 * h + c) kk, upd jf (16 * h + c) g, upd ip (16 * h + c) (nI s))) := by
  have he := tkE_le hB hs
  have hs1 := sk_le t n _ he
  have h153 : ∀ k, k < 100 → (∀ x, itm2 (Lk t n) n (fd gr ln nm (Lk t n) z) V ty k (sk (Lk t n) n (tkE (Lk t n) n s)) = .error x → x ≤ n ∧ ∃ a, a ≤ n ∧ f_X6_readItem_153 (nI s) (nI c) (nI k) t (nI n) (nI (sk (Lk t n) n (tkE (Lk t n) n s))) (-1) gr kd ty ln nm (nI z) (nI h) many ik jf ip = some (nI a, nI x, many, ik, jf, ip)) ∧ (∀ kk g e, itm2 (Lk t n) n (fd gr ln nm (Lk t n) z) V ty k (sk (Lk t n) n (tkE (Lk t n) n s)) = .ok (kk, g, e) → ∃ a, a ≤ n ∧ e ≤ n ∧ sk (Lk t n) n a = sk (Lk t n) n e ∧ f_X6_readItem_153 (nI s) (nI c) (nI k) t (nI n) (nI (sk (Lk t n) n (tkE (Lk t n) n s))) (-1) gr kd ty ln nm (nI z) (nI h) many ik jf ip = some (nI a, -1, upd many (4 * h) (nI (c + 1)), upd ik (16 * h + c) kk, upd jf (16 * h + c) g, upd ip (16 * h + c) (nI s))) := by
    intro k hk
    have q := M_ri153 (p := sk (Lk t n) n (tkE (Lk t n) n s)) (nm := nm) (s0 := s) (ik := ik) (jf := jf) (ip := ip) hV hB hn hz hg hs1 hh hc hm hk
    rw [sk_sk] at q
    exact ⟨q.1, fun kk g e hq => ⟨e, (q.2 kk g e hq).1, (q.2 kk g e hq).1, rfl, (q.2 kk g e hq).2⟩⟩
  unfold f_X6_readItem_32 itmS
  rw [M_takes_12 hn hs, hss]
  by_cases w12 : wd (Lk t n) n s = 12
  · simp only [if_pos w12, if_pos (show 12 ≤ wd (Lk t n) n s ∧ wd (Lk t n) n s ≤ 15 by omega)]
    rw [ob2_s, if_neg (show ¬ (1 : Int32) = 0 by decide)]
    have q1 := M_ri89_1 (t := t) (gr := gr) (ln := ln) (nm := nm) (kd := kd) (ty := ty) (z := z) (ik := ik) (jf := jf) (ip := ip) (s0 := s) hn he hh hc hm
    by_cases h40 : Lk t n (sk (Lk t n) n (tkE (Lk t n) n s)) = 40
    · rw [q1.1 h40]
      simp only [if_neg (show ¬ (wd (Lk t n) n s = 12 ∧ ¬ Lk t n (sk (Lk t n) n (tkE (Lk t n) n s)) = 40) from fun z => z.2 h40)]
      rw [show wd (Lk t n) n s - 10 = 2 by omega]
      exact h153 2 (by decide)
    · rw [q1.2 h40]
      simp only [if_pos (show wd (Lk t n) n s = 12 ∧ ¬ Lk t n (sk (Lk t n) n (tkE (Lk t n) n s)) = 40 from ⟨w12, h40⟩)]
      exact ⟨fun x h => (by cases h), fun kk g e h => (by cases h; exact ⟨_, hs1, he, sk_sk t n _, rfl⟩)⟩
  · rw [if_neg w12, ob2_s, if_pos rfl, M_takes_13 hn hs, hss]
    by_cases w13 : wd (Lk t n) n s = 13
    · simp only [if_pos w13, if_pos (show 12 ≤ wd (Lk t n) n s ∧ wd (Lk t n) n s ≤ 15 by omega), if_neg (show ¬ (wd (Lk t n) n s = 12 ∧ ¬ Lk t n (sk (Lk t n) n (tkE (Lk t n) n s)) = 40) from fun z => w12 z.1)]
      rw [ob2_s, if_neg (show ¬ (1 : Int32) = 0 by decide), show (3 : Int32) = nI 3 from rfl, M_ri89_k (by decide) (by decide) hn he, show wd (Lk t n) n s - 10 = 3 by omega]
      exact h153 3 (by decide)
    · rw [if_neg w13, ob2_s, if_pos rfl, M_takes_14 hn hs, hss]
      by_cases w14 : wd (Lk t n) n s = 14
      · simp only [if_pos w14, if_pos (show 12 ≤ wd (Lk t n) n s ∧ wd (Lk t n) n s ≤ 15 by omega), if_neg (show ¬ (wd (Lk t n) n s = 12 ∧ ¬ Lk t n (sk (Lk t n) n (tkE (Lk t n) n s)) = 40) from fun z => w12 z.1)]
        rw [ob2_s, if_neg (show ¬ (1 : Int32) = 0 by decide), show (4 : Int32) = nI 4 from rfl, M_ri89_k (by decide) (by decide) hn he, show wd (Lk t n) n s - 10 = 4 by omega]
        exact h153 4 (by decide)
      · rw [if_neg w14, ob2_s, if_pos rfl, M_takes_15 hn hs, hss]
        by_cases w15 : wd (Lk t n) n s = 15
        · simp only [if_pos w15, if_pos (show 12 ≤ wd (Lk t n) n s ∧ wd (Lk t n) n s ≤ 15 by omega), if_neg (show ¬ (wd (Lk t n) n s = 12 ∧ ¬ Lk t n (sk (Lk t n) n (tkE (Lk t n) n s)) = 40) from fun z => w12 z.1)]
          rw [ob2_s, if_neg (show ¬ (1 : Int32) = 0 by decide), show (5 : Int32) = nI 5 from rfl, M_ri89_k (by decide) (by decide) hn he, show wd (Lk t n) n s - 10 = 5 by omega]
          exact h153 5 (by decide)
        · rw [if_neg w15, ob2_s, if_pos rfl]
          simp only [if_neg (show ¬ (12 ≤ wd (Lk t n) n s ∧ wd (Lk t n) n s ≤ 15) by omega)]
          have q := M_ri89_0 (t := t) (gr := gr) (nm := nm) (kd := kd) (ty := ty) (ik := ik) (jf := jf) (ip := ip) (s0 := s) hB hn hz hs hs hh hc hm
          rw [hss] at q
          cases hq : pthS (Lk t n) n (fd gr ln nm (Lk t n) z) s with
          | error y => exact ⟨fun x h => (by cases h; exact q.1 y hq), fun kk g e h => (by cases h)⟩
          | ok w =>
            obtain ⟨g, e⟩ := w
            have q2 := q.2 g e hq
            by_cases h2 : g = -1
            · simp only [if_pos h2]
              exact ⟨fun x h => (by cases h; exact ⟨hs, e, q2.1, q2.2.1 h2⟩), fun kk g e h => (by cases h)⟩
            · simp only [if_neg h2]
              exact ⟨fun x h => (by cases h), fun kk g e h => (by cases h; exact ⟨_, q2.1, q2.1, rfl, q2.2.2 h2⟩)⟩
theorem M_ri32I {s : Nat} {x y ill zz hw : Int32} (hn : n ≤ 2000) (hs : s ≤ n) (hi : ¬ ill = -1) : ∃ a, a ≤ n ∧ f_X6_readItem_32 x y t (nI n) (nI s) ill gr kd ty ln nm zz hw many ik jf ip = some (nI a, ill, many, ik, jf, ip) := by
  have h1 := sk_le t n s hs
  unfold f_X6_readItem_32 f_X6_readItem_89
  rw [M_takesWordI hn (by omega) _ hi, ob2_s, if_pos rfl, M_takesWordI hn (by omega) _ hi, ob2_s, if_pos rfl, M_takesWordI hn (sk_lt30 t hn (by omega)) _ hi, ob2_s, if_pos rfl, M_takesWordI hn (sk_lt30 t hn (sk_lt30 t hn (by omega))) _ hi, ob2_s, if_pos rfl]
  simp only [sk_sk]
  rw [M_blanks hn (by omega), ob1_s, if_pos trivial, M_pathI hn (sk_lt30 t hn (by omega)) hi, ob3_s, if_neg hi, M_ri214I hi]
  simp only [sk_sk]
  exact ⟨_, h1, rfl⟩
/-- readItem, with room for the item -/
theorem M_readItem {p : Nat} (hV : ∀ j, j < z → V j = vl ty gr kd j) (hB : BY t n) (hn : n ≤ 2000) (hz : LN ln z) (hg : GRP gr z) (hp : p ≤ n) (hh : h ≤ 1) (hc : c < 16) (hm : many (4 * h) = nI c) : (∀ x, itmS (Lk t n) n (fd gr ln nm (Lk t n) z) V ty (sk (Lk t n) n p) = .error x → x ≤ n ∧ ∃ a, a ≤ n ∧ f_X6_readItem t (nI n) (nI p) (-1) gr kd ty ln nm (nI z) (nI h) many ik jf ip = some (nI a, nI x, many, ik, jf, ip)) ∧ (∀ kk g e, itmS (Lk t n) n (fd gr ln nm (Lk t n) z) V ty (sk (Lk t n) n p) = .ok (kk, g, e) → ∃ a, a ≤ n ∧ e ≤ n ∧ sk (Lk t n) n a = sk (Lk t n) n e ∧ f_X6_readItem t (nI n) (nI p) (-1) gr kd ty ln nm (nI z) (nI h) many ik jf ip = some (nI a, -1, upd many (4 * h) (nI (c + 1)), upd ik (16 * h + c) kk, upd jf (16 * h + c) g, upd ip (16 * h + c) (nI (sk (Lk t n) n p)))) := by
  have h1 := sk_le t n p hp
  have e4 : (4 : Int32) * nI h = nI (4 * h) := by rw [show (4 : Int32) * nI h = nI 4 * nI h from rfl, pk_mul]
  unfold f_X6_readItem
  rw [M_blanks hn (by omega), ob1_s, e4, rd_in (by omega) (by decide), hm, if_neg (show ¬ nI c = (16 : Int32) from fun q => by have := (nI_eq (b := 16) (by omega) (by decide)).mp q; omega)]
  exact M_ri32 hV hB hn hz hg h1 (sk_sk t n p) hh hc hm
/-- readItem, one item too many -/
theorem M_readItem16 {p : Nat} {zz : Int32} (hn : n ≤ 2000) (hp : p ≤ n) (hh : h ≤ 1) (hm : many (4 * h) = nI 16) : ∃ a, a ≤ n ∧ f_X6_readItem t (nI n) (nI p) (-1) gr kd ty ln nm zz (nI h) many ik jf ip = some (nI a, nI (sk (Lk t n) n p), many, ik, jf, ip) := by
  have h1 := sk_le t n p hp
  have e4 : (4 : Int32) * nI h = nI (4 * h) := by rw [show (4 : Int32) * nI h = nI 4 * nI h from rfl, pk_mul]
  unfold f_X6_readItem
  rw [M_blanks hn (by omega), ob1_s, e4, rd_in (by omega) (by decide), hm, if_pos (show nI 16 = (16 : Int32) from rfl), M_fail, ob1_s]
  exact M_ri32I hn h1 (nI_ne _ (by omega))
end MI
