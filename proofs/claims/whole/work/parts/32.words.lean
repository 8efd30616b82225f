/-! pure rows: words of the text -/
def weF (L : Nat → Int32) : Nat → Nat → Nat
  | 0, p => p
  | k + 1, p => if isW (L p) = true then weF L k (p + 1) else p
/-- the end of the word's bytes from p on -/
def we (L : Nat → Int32) (n p : Nat) : Nat := weF L (n - p) p
theorem isW_out : isW (-1) = false := by decide
theorem isL_out : isL (-1) = false := by decide
theorem we_step {t : Nat → Int32} {n p : Nat} (h : isW (Lk t n p) = true) : we (Lk t n) n p = we (Lk t n) n (p + 1) := by
  have hp : p < n := by
    rcases Nat.lt_or_ge p n with q | q
    · exact q
    · rw [Lk_out q, isW_out] at h; cases h
  unfold we
  rw [show n - p = (n - (p + 1)) + 1 by omega, weF, if_pos h]
theorem we_stop {t : Nat → Int32} {n p : Nat} (h : isW (Lk t n p) = false) : we (Lk t n) n p = p := by
  unfold we
  cases hk : n - p with
  | zero => rfl
  | succ k => rw [weF, if_neg (by rw [h]; decide)]
theorem we_ind {t : Nat → Int32} {n : Nat} (P : Nat → Prop) (h1 : ∀ p, isW (Lk t n p) = false → P p) (h2 : ∀ p, p < n → isW (Lk t n p) = true → P (p + 1) → P p) : ∀ p, P p := by
  have key : ∀ k p, n - p ≤ k → P p := by
    intro k
    induction k with
    | zero =>
      intro p hp
      exact h1 p (by rw [Lk_out (by omega), isW_out])
    | succ k ih =>
      intro p hp
      cases hb : isW (Lk t n p) with
      | false => exact h1 p hb
      | true =>
        have hp : p < n := by
          rcases Nat.lt_or_ge p n with q | q
          · exact q
          · rw [Lk_out q, isW_out] at hb; cases hb
        exact h2 p hp hb (ih (p + 1) (by omega))
  exact fun p => key (n - p) p (Nat.le_refl _)
theorem we_ge (t : Nat → Int32) (n : Nat) : ∀ p, p ≤ we (Lk t n) n p := by
  refine we_ind (t := t) (n := n) _ (fun p h => ?_) (fun p hp h ih => ?_)
  · rw [we_stop h]; exact Nat.le_refl p
  · rw [we_step h]; omega
theorem we_le (t : Nat → Int32) (n : Nat) : ∀ p, p ≤ n → we (Lk t n) n p ≤ n := by
  refine we_ind (t := t) (n := n) _ (fun p h hn => ?_) (fun p hp h ih hn => ?_)
  · rw [we_stop h]; exact hn
  · rw [we_step h]; exact ih hp
theorem we_nw (t : Nat → Int32) (n : Nat) : ∀ p, isW (Lk t n (we (Lk t n) n p)) = false := by
  refine we_ind (t := t) (n := n) _ (fun p h => ?_) (fun p hp h ih => ?_)
  · rw [we_stop h]; exact h
  · rw [we_step h]; exact ih
theorem we_all (t : Nat → Int32) (n : Nat) : ∀ p, ∀ i, p ≤ i → i < we (Lk t n) n p → isW (Lk t n i) = true := by
  refine we_ind (t := t) (n := n) _ (fun p h i h1 h2 => ?_) (fun p hp h ih i h1 h2 => ?_)
  · rw [we_stop h] at h2; omega
  · rw [we_step h] at h2
    rcases Nat.lt_or_ge p i with q | q
    · exact ih i q h2
    · obtain rfl : i = p := by omega
      exact h
/-- a word's length at s: 0 if there is none -/
def wl (L : Nat → Int32) (n s : Nat) : Nat := if isL (L s) = true then we L n (s + 1) - s else 0
theorem C_wend {b : Nat → Int32} {n : Nat} (hn : n ≤ 2000) : ∀ p, ∀ k, p ≤ n → n - p < k → f_X2_advance_111 k (nI p) b (nI n) = some (nI (we (Lk b n) n p)) := by
  refine we_ind (t := b) (n := n) _ (fun p h k hp hk => ?_) (fun p hp h ih k hp' hk => ?_)
  · obtain ⟨k, rfl⟩ : ∃ j, k = j + 1 := ⟨k - 1, by omega⟩
    unfold f_X2_advance_111
    rw [we_stop h]
    by_cases q : n ≤ p
    · rw [if_pos (nI_le q (by omega))]
    · rw [if_neg (nI_ge (by omega) (by omega)), C_at hn (by omega)]
      show ob1 (f_X5_isWordByte _) _ = _
      rw [C_isWordByte, h]
      rfl
  · obtain ⟨k, rfl⟩ : ∃ j, k = j + 1 := ⟨k - 1, by omega⟩
    unfold f_X2_advance_111
    rw [we_step h, if_neg (nI_ge hp (by omega)), C_at hn (by omega)]
    show ob1 (f_X5_isWordByte _) _ = _
    rw [C_isWordByte, h]
    show f_X2_advance_111 k (nI p + 1) b (nI n) = _
    rw [nI_1]
    exact ih k hp (by omega)
theorem isW_split (c : Int32) : isW c = (isL c || (isD c || decide (c.toInt = 95))) := by unfold isW; rw [Bool.or_assoc]
theorem M_wordAt2 {t : Nat → Int32} {n s : Nat} (hn : n ≤ 2000) : ∀ p, ∀ k, s < p → p ≤ n → n - p < k → f_X6_wordAt_2 k (nI s) (nI p) t (nI n) = some (nI (we (Lk t n) n p)) := by
  refine we_ind (t := t) (n := n) _ (fun p h k hs hp hk => ?_) (fun p hp h ih k hs hp' hk => ?_)
  · obtain ⟨k, rfl⟩ : ∃ j, k = j + 1 := ⟨k - 1, by omega⟩
    unfold f_X6_wordAt_2
    rw [we_stop h]
    by_cases q : n ≤ p
    · rw [if_pos (nI_le q (by omega))]
    · rw [Lk_in (by omega), isW_split, Bool.or_eq_false_iff, Bool.or_eq_false_iff] at h
      have h3 : ¬ t p = 95 := fun z => by have := of_decide_eq_false h.2.2; rw [z] at this; exact this rfl
      rw [if_neg (nI_ge (by omega) (by omega)), rd_in (by omega) (by decide), M_isLetter, h.1]
      show (if nI p ≤ nI s then _ else rd t 2000 (nI p) _) = _
      rw [if_neg (nI_ge hs (by omega)), rd_in (by omega) (by decide), M_isDigit, h.2.1]
      rw [ob1_s, if_pos bI_f, rd_in (by omega) (by decide), if_neg h3]
  · obtain ⟨k, rfl⟩ : ∃ j, k = j + 1 := ⟨k - 1, by omega⟩
    have ih' := ih k (by omega) hp (by omega)
    unfold f_X6_wordAt_2
    rw [we_step h, if_neg (nI_ge hp (by omega)), rd_in (by omega) (by decide), M_isLetter]
    rw [Lk_in hp, isW_split] at h
    cases hl : isL (t p) with
    | true =>
      show f_X6_wordAt_2 k (nI s) (nI p + 1) t (nI n) = _
      rw [nI_1]; exact ih'
    | false =>
      rw [hl, Bool.false_or] at h
      show (if nI p ≤ nI s then _ else rd t 2000 (nI p) _) = _
      rw [if_neg (nI_ge hs (by omega)), rd_in (by omega) (by decide), M_isDigit]
      cases hd : isD (t p) with
      | true =>
        show f_X6_wordAt_2 k (nI s) (nI p + 1) t (nI n) = _
        rw [nI_1]; exact ih'
      | false =>
        rw [hd, Bool.false_or, decide_eq_true_eq] at h
        rw [ob1_s, if_pos bI_f, rd_in (by omega) (by decide), if_pos (i_eq.mpr h)]
        show f_X6_wordAt_2 k (nI s) (nI p + 1) t (nI n) = _
        rw [nI_1]; exact ih'
theorem M_wordAt {t : Nat → Int32} {n s : Nat} (hn : n ≤ 2000) (hs : s < 2 ^ 30) : f_X6_wordAt (nI s) t (nI n) = some (nI (wl (Lk t n) n s)) := by
  unfold f_X6_wordAt wl
  show ob1 (f_X6_wordAt_2 (4095 + 1) (nI s) (nI s) t (nI n)) _ = _
  unfold f_X6_wordAt_2
  by_cases q : n ≤ s
  · rw [if_pos (nI_le q (by omega)), Lk_out q, isL_out]
    show some (nI s - nI s) = some (nI 0)
    rw [pk_sub (Nat.le_refl s), Nat.sub_self]
  · rw [if_neg (nI_ge (by omega) (by omega)), rd_in (by omega) (by decide), M_isLetter, Lk_in (by omega)]
    cases hl : isL (t s) with
    | false =>
      show ob1 (if nI s ≤ nI s then some (nI s) else _) _ = _
      rw [if_pos (nI_le (Nat.le_refl s) (by omega))]
      show some (nI s - nI s) = some (nI 0)
      rw [pk_sub (Nat.le_refl s), Nat.sub_self]
    | true =>
      show ob1 (f_X6_wordAt_2 4095 (nI s) (nI s + 1) t (nI n)) _ = _
      rw [nI_1, M_wordAt2 hn (s + 1) 4095 (by omega) (by omega) (by omega)]
      show some (nI (we (Lk t n) n (s + 1)) - nI s) = _
      rw [pk_sub (by have := we_ge t n (s + 1); omega), if_pos rfl]
/-! packed words -/
theorem u_tn {n : Nat} (h : n < 2 ^ 64) : (UInt64.ofNat n).toNat = n := Nat.mod_eq_of_lt h
theorem g_or {k p a b : Nat} (hp : 2 ^ k = p) (ha : a < p) (h : b * p + a < 2 ^ 64) : lN (b * p) ||| lN a = lN (b * p + a) := by
  subst hp
  have h1 : b * 2 ^ k ||| a = b * 2 ^ k + a := by rw [← Nat.shiftLeft_eq, Nat.shiftLeft_add_eq_or_of_lt ha]
  have h3 : UInt64.ofNat (b * 2 ^ k) ||| UInt64.ofNat a = UInt64.ofNat (b * 2 ^ k + a) := UInt64.toNat_inj.mp (by rw [UInt64.toNat_or, u_tn (by omega), u_tn (by omega), u_tn h, h1])
  have h2 := congrArg UInt64.toInt64 h3
  exact h2
theorem g_shl {a k p : Nat} {y : Int64} (hy : y.toBitVec.smod 64 = BitVec.ofNat 64 k) (hk : k < 64) (hp : 2 ^ k = p) (ha : a < 2 ^ 64) : lN a <<< y = lN (a * p) := by
  subst hp
  apply Int64.toBitVec_inj.mp
  rw [Int64.toBitVec_shiftLeft, hy]
  apply BitVec.eq_of_toNat_eq
  have hb : (lN a).toBitVec.toNat = a := Nat.mod_eq_of_lt ha
  have hk' : (BitVec.ofNat 64 k).toNat = k := Nat.mod_eq_of_lt (by omega)
  have h : ((lN a).toBitVec <<< BitVec.ofNat 64 k).toNat = (a * 2 ^ k) % 2 ^ 64 := by simp only [BitVec.shiftLeft_eq', BitVec.toNat_shiftLeft, hb, hk', Nat.shiftLeft_eq]
  exact h
theorem lN_inj {a b : Nat} (ha : a < 2 ^ 64) (hb : b < 2 ^ 64) (h : lN a = lN b) : a = b := by
  have h1 : (lN a).toBitVec.toNat = a := Nat.mod_eq_of_lt ha
  have h2 : (lN b).toBitVec.toNat = b := Nat.mod_eq_of_lt hb
  rw [← h1, ← h2, h]
/-- the first m bytes from s on, packed -/
def pk64 (v : Int64) (c : Int32) : Int64 := (v <<< (Int32.toInt64 8 &&& 63)) ||| Int32.toInt64 c
def pkw (L : Nat → Int32) (s : Nat) : Nat → Int64
  | 0 => 0
  | m + 1 => pk64 (pkw L s m) (L (s + m))
def pkn (L : Nat → Int32) (s : Nat) : Nat → Nat
  | 0 => 0
  | m + 1 => pkn L s m * 256 + (L (s + m)).toInt.toNat
/-- a byte of a word: from 1 to 255 -/
def isY (c : Int32) : Prop := 1 ≤ c.toInt ∧ c.toInt ≤ 255
theorem pkn_lt (L : Nat → Int32) (s : Nat) : ∀ m, (∀ i, i < m → isY (L (s + i))) → pkn L s m < 256 ^ m := by
  intro m
  induction m with
  | zero => intro _; show 0 < 1; decide
  | succ m ih =>
    intro h
    have h1 := ih (fun i hi => h i (by omega))
    have h2 := h m (by omega)
    unfold isY at h2
    rw [pkn, Nat.pow_succ]
    omega
theorem pkw_eq (L : Nat → Int32) (s : Nat) : ∀ m, m ≤ 8 → (∀ i, i < m → isY (L (s + i))) → pkw L s m = lN (pkn L s m) := by
  intro m
  induction m with
  | zero => intro _ _; rfl
  | succ m ih =>
    intro hm h
    have h1 := pkn_lt L s m (fun i hi => h i (by omega))
    have h2 := pkn_lt L s (m + 1) h
    have hy := h m (by omega)
    unfold isY at hy
    have e7 : (256 : Nat) ^ m ≤ 256 ^ 7 := Nat.pow_le_pow_right (by decide) (by omega)
    have e8 : (256 : Nat) ^ (m + 1) ≤ 256 ^ 8 := Nat.pow_le_pow_right (by decide) (by omega)
    have e9 : (256 : Nat) ^ 7 < 2 ^ 64 := by decide
    have e10 : (256 : Nat) ^ 8 = 2 ^ 64 := by decide
    obtain ⟨j, hj⟩ : ∃ j : Nat, L (s + m) = nI j ∧ j < 256 := by
      refine ⟨(L (s + m)).toInt.toNat, ?_, by omega⟩
      apply Int32.toInt_inj.mp
      rw [nI_toInt (by omega)]
      omega
    rw [pkw, ih (by omega) (fun i hi => h i (by omega)), pkn, pk64, hj.1, nI_l (by omega)]
    rw [g_shl (k := 8) (p := 256) (by decide) (by decide) (by decide) (by omega)]
    rw [pkn, hj.1, nI_toInt (by omega)] at h2
    rw [g_or (k := 8) (by decide) hj.2 (by have : ((j : Int)).toNat = j := by omega
                                           rw [this] at h2; omega)]
    rw [nI_toInt (by omega)]
    congr 2
theorem pkn_inj (L L' : Nat → Int32) (s s' : Nat) : ∀ m m', (∀ i, i < m → isY (L (s + i))) → (∀ i, i < m' → isY (L' (s' + i))) → pkn L s m = pkn L' s' m' → m = m' ∧ ∀ i, i < m → L (s + i) = L' (s' + i) := by
  intro m
  induction m with
  | zero =>
    intro m' _ h' e
    cases m' with
    | zero => exact ⟨rfl, fun i hi => by omega⟩
    | succ k =>
      have := h' k (by omega)
      unfold isY at this
      rw [pkn, pkn] at e
      omega
  | succ m ih =>
    intro m' h h' e
    cases m' with
    | zero =>
      have := h m (by omega)
      unfold isY at this
      rw [pkn, pkn] at e
      omega
    | succ k =>
      have a1 := h m (by omega)
      have a2 := h' k (by omega)
      unfold isY at a1 a2
      rw [pkn, pkn] at e
      obtain ⟨r1, r2⟩ := ih k (fun i hi => h i (by omega)) (fun i hi => h' i (by omega)) (by omega)
      subst r1
      refine ⟨rfl, fun i hi => ?_⟩
      rcases Nat.lt_or_ge i m with q | q
      · exact r2 i q
      · obtain rfl : i = m := by omega
        apply Int32.toInt_inj.mp
        omega
