/-! pure rows: the reference's items -/
theorem M_ri214 {h c a s0 : Nat} {many ik jf ip : Nat → Int32} (hh : h ≤ 1) (hc : c < 16) (hm : many (4 * h) = nI c) (k g : Int32) : f_X6_readItem_214 (nI s0) (nI c) k g (nI a) (-1) (nI h) many ik jf ip = some (nI a, -1, upd many (4 * h) (nI (c + 1)), upd ik (16 * h + c) k, upd jf (16 * h + c) g, upd ip (16 * h + c) (nI s0)) := by
  unfold f_X6_readItem_214
  have e : (16 : Int32) * nI h + nI c = nI (16 * h + c) := by rw [show (16 : Int32) * nI h = nI 16 * nI h from rfl, pk_mul, nI_add]
  have e4 : (4 : Int32) * nI h = nI (4 * h) := by rw [show (4 : Int32) * nI h = nI 4 * nI h from rfl, pk_mul]
  rw [if_pos rfl, e, wr_in (by omega) (by decide), wr_in (by omega) (by decide), wr_in (by omega) (by decide), on_eq, e4, rd_in (by omega) (by decide), on_eq, wr_in (by omega) (by decide), hm, nI_1]
theorem M_ri214I {x y k g a nw : Int32} {ill : Int32} {many ik jf ip : Nat → Int32} (hi : ¬ ill = -1) : f_X6_readItem_214 x y k g a ill nw many ik jf ip = some (a, ill, many, ik, jf, ip) := by
  unfold f_X6_readItem_214
  rw [if_neg hi]
theorem sk_lt30 (t : Nat → Int32) {n p : Nat} (hn : n ≤ 2000) (hp : p < 2 ^ 30) : sk (Lk t n) n p < 2 ^ 30 := by
  rcases Nat.lt_or_ge p n with q | q
  · have := sk_le t n p (by omega); omega
  · rw [sk_gt t n p q]; exact hp
theorem M_ri208I {t : Nat → Int32} {n p : Nat} (hn : n ≤ 2000) (hp : p < 2 ^ 30) {x y k g nw ill : Int32} {many ik jf ip : Nat → Int32} (hi : ¬ ill = -1) : f_X6_readItem_208 x y k g t (nI n) (nI p) ill nw many ik jf ip = some (nI (sk (Lk t n) n p), ill, many, ik, jf, ip) := by
  unfold f_X6_readItem_208
  rw [M_wantSignI hn hp _ hi, ob2_s, M_ri214I hi]
theorem M_ri208 {t : Nat → Int32} {n p h c s0 : Nat} {many ik jf ip : Nat → Int32} (hn : n ≤ 2000) (hp : p ≤ n) (hh : h ≤ 1) (hc : c < 16) (hm : many (4 * h) = nI c) (k g : Int32) : (Lk t n (sk (Lk t n) n p) = 41 → f_X6_readItem_208 (nI s0) (nI c) k g t (nI n) (nI p) (-1) (nI h) many ik jf ip = some (nI (sk (Lk t n) n p + 1), -1, upd many (4 * h) (nI (c + 1)), upd ik (16 * h + c) k, upd jf (16 * h + c) g, upd ip (16 * h + c) (nI s0))) ∧ (¬ Lk t n (sk (Lk t n) n p) = 41 → f_X6_readItem_208 (nI s0) (nI c) k g t (nI n) (nI p) (-1) (nI h) many ik jf ip = some (nI (sk (Lk t n) n p), nI (sk (Lk t n) n p), many, ik, jf, ip)) := by
  have := sk_le t n p hp
  unfold f_X6_readItem_208
  rw [M_wantSign hn hp]
  refine ⟨fun h1 => ?_, fun h1 => ?_⟩
  · rw [if_pos h1, ob2_s, M_ri214 hh hc hm]
  · rw [if_neg h1, ob2_s, M_ri214I (nI_ne _ (by omega))]
theorem M_ri153 {t gr ln nm kd ty : Nat → Int32} {n z p h c s0 k : Nat} {V : Nat → Bool} {many ik jf ip : Nat → Int32} (hV : ∀ j, j < z → V j = vl ty gr kd j) (hB : BY t n) (hn : n ≤ 2000) (hz : LN ln z) (hg : GRP gr z) (hp : p ≤ n) (hh : h ≤ 1) (hc : c < 16) (hm : many (4 * h) = nI c) (hk : k < 100) : (∀ x, itm2 (Lk t n) n (fd gr ln nm (Lk t n) z) V ty k (sk (Lk t n) n p) = .error x → x ≤ n ∧ ∃ a, a ≤ n ∧ f_X6_readItem_153 (nI s0) (nI c) (nI k) t (nI n) (nI p) (-1) gr kd ty ln nm (nI z) (nI h) many ik jf ip = some (nI a, nI x, many, ik, jf, ip)) ∧ (∀ kk g e, itm2 (Lk t n) n (fd gr ln nm (Lk t n) z) V ty k (sk (Lk t n) n p) = .ok (kk, g, e) → e ≤ n ∧ f_X6_readItem_153 (nI s0) (nI c) (nI k) t (nI n) (nI p) (-1) gr kd ty ln nm (nI z) (nI h) many ik jf ip = some (nI e, -1, upd many (4 * h) (nI (c + 1)), upd ik (16 * h + c) kk, upd jf (16 * h + c) g, upd ip (16 * h + c) (nI s0))) := by
  have hz64 := hz.1
  have hs1 := sk_le t n p hp
  unfold f_X6_readItem_153 itm2
  rw [M_wantSign hn hp]
  by_cases h1 : Lk t n (sk (Lk t n) n p) = 40
  · have hlt := Lk_lt h1 (by decide)
    simp only [if_pos h1, if_neg (show ¬ ¬ Lk t n (sk (Lk t n) n p) = 40 from fun z => z h1)]
    rw [ob2_s, M_blanks hn (by omega), ob1_s]
    have hs2 := sk_le t n (sk (Lk t n) n p + 1) hlt
    have hcol := M_column (p := sk (Lk t n) n (sk (Lk t n) n p + 1)) (nm := nm) hV hB hn hz hg hs2
    rw [sk_sk] at hcol
    rcases colS_cases (gr := gr) (ln := ln) (nm := nm) (V := V) hB hz64 hs2 with ⟨y, hy, q1, q2⟩ | ⟨e, he, q1, q2⟩ | ⟨f, e, hf, hv, he, q1, q2⟩ | ⟨f, e, hf, hv, he, hse, q1, q2⟩
    · obtain ⟨a, g, ha, ea⟩ := hcol.1 y q2
      rw [q2, ea, ob3_s, if_neg (nI_ne y (by omega)), M_ri208I hn (by omega) (nI_ne y (by omega))]
      exact ⟨fun x h => (by cases h; exact ⟨hy, _, sk_le t n a ha, rfl⟩), fun kk g e h => (by cases h)⟩
    · obtain ⟨a, g, ha, ea⟩ := hcol.1 _ q2
      rw [q2, ea, ob3_s, if_neg (nI_ne _ (by omega)), M_ri208I hn (by omega) (nI_ne _ (by omega))]
      exact ⟨fun x h => (by cases h; exact ⟨hs2, _, sk_le t n a ha, rfl⟩), fun kk g e h => (by cases h)⟩
    · obtain ⟨a, g, ha, ea⟩ := hcol.1 _ q2
      rw [q2, ea, ob3_s, if_neg (nI_ne _ (by omega)), M_ri208I hn (by omega) (nI_ne _ (by omega))]
      exact ⟨fun x h => (by cases h; exact ⟨hs2, _, sk_le t n a ha, rfl⟩), fun kk g e h => (by cases h)⟩
    · rw [q2, hcol.2 f e q2, ob3_s, if_pos rfl, rd_in (by omega) (by decide), M_isWhole, ob1_s, M_fail, ob1_s]
      simp only []
      have h208 := M_ri208 (t := t) (s0 := s0) (ik := ik) (jf := jf) (ip := ip) hn he hh hc hm (nI k) (nI f)
      have hse2 := sk_le t n e he
      have fin : (∀ x, (if Lk t n (sk (Lk t n) n e) = 41 then (Except.ok (nI k, nI f, sk (Lk t n) n e + 1) : Except Nat (Int32 × Int32 × Nat)) else Except.error (sk (Lk t n) n e)) = Except.error x → x ≤ n ∧ ∃ a, a ≤ n ∧ f_X6_readItem_208 (nI s0) (nI c) (nI k) (nI f) t (nI n) (nI e) (-1) (nI h) many ik jf ip = some (nI a, nI x, many, ik, jf, ip)) ∧ (∀ kk g e', (if Lk t n (sk (Lk t n) n e) = 41 then (Except.ok (nI k, nI f, sk (Lk t n) n e + 1) : Except Nat (Int32 × Int32 × Nat)) else Except.error (sk (Lk t n) n e)) = Except.ok (kk, g, e') → e' ≤ n ∧ f_X6_readItem_208 (nI s0) (nI c) (nI k) (nI f) t (nI n) (nI e) (-1) (nI h) many ik jf ip = some (nI e', -1, upd many (4 * h) (nI (c + 1)), upd ik (16 * h + c) kk, upd jf (16 * h + c) g, upd ip (16 * h + c) (nI s0))) := by
        by_cases h6 : Lk t n (sk (Lk t n) n e) = 41
        · have := Lk_lt h6 (by decide)
          simp only [if_pos h6]
          exact ⟨fun x h => (by cases h), fun kk g e' h => (by cases h; exact ⟨this, h208.1 h6⟩)⟩
        · simp only [if_neg h6]
          exact ⟨fun x h => (by cases h; exact ⟨hse2, _, hse2, h208.2 h6⟩), fun kk g e' h => (by cases h)⟩
      by_cases h4 : k = 3
      · rw [if_pos (show nI k = (3 : Int32) by rw [h4]; rfl)]
        by_cases h5 : ty f = 1 ∨ ty f = 2
        · rw [decide_eq_true h5, if_neg bI_n]
          simp only [if_neg (show ¬ (k = 3 ∧ ¬ (ty f = 1 ∨ ty f = 2)) from fun z => z.2 h5)]
          exact fin
        · rw [decide_eq_false h5, if_pos bI_f, M_ri208I hn (by omega) (nI_ne _ (by omega))]
          simp only [if_pos (show k = 3 ∧ ¬ (ty f = 1 ∨ ty f = 2) from ⟨h4, h5⟩)]
          exact ⟨fun x h => (by cases h; exact ⟨hs2, _, hse2, rfl⟩), fun kk g e h => (by cases h)⟩
      · rw [if_neg (show ¬ nI k = (3 : Int32) from fun z => h4 ((nI_eq (b := 3) (by omega) (by decide)).mp z))]
        simp only [if_neg (show ¬ (k = 3 ∧ ¬ (ty f = 1 ∨ ty f = 2)) from fun z => h4 z.1)]
        exact fin
  · simp only [if_neg h1, if_pos h1]
    have hi : ¬ nI (sk (Lk t n) n p) = -1 := nI_ne _ (by omega)
    rw [ob2_s, M_blanks hn (by omega), ob1_s, M_columnI hn (sk_lt30 t hn (by omega)) hi, ob3_s, if_neg hi, M_ri208I hn (sk_lt30 t hn (sk_lt30 t hn (by omega))) hi]
    exact ⟨fun x h => (by cases h; exact ⟨hs1, _, by rw [sk_sk, sk_sk, sk_sk]; exact hs1, rfl⟩), fun kk g e h => (by cases h)⟩
