/-! pure rows: tokens, the scanner -/
/-- the bytes of a text -/
def BY (t : Nat → Int32) (n : Nat) : Prop := ∀ p, p < n → 0 ≤ (t p).toInt ∧ (t p).toInt ≤ 255
theorem Lk_end {t : Nat → Int32} {n p : Nat} (hB : BY t n) : Lk t n p = -1 ↔ n ≤ p := by
  constructor
  · intro h
    rcases Nat.lt_or_ge p n with q | q
    · rw [Lk_in q] at h
      have := hB p q
      rw [h] at this
      exact absurd this.1 (by decide)
    · exact q
  · exact Lk_out
def sgT (c d : Int32) : Int32 := if c = 39 then 18 else if c = 40 then 20 else if c = 41 then 21 else if c = 44 then 19 else if c = 45 then 17 else if c = 60 then (if d = 61 then 25 else if d = 62 then 23 else 24) else if c = 61 then 22 else if c = 62 then (if d = 61 then 27 else 26) else if isD c = true then 17 else 28
def sgX (c d : Int32) : Nat := if c = 60 ∧ (d = 61 ∨ d = 62) ∨ c = 62 ∧ d = 61 then 1 else 0
theorem C_orderL (d : Int32) (e : Nat) : f_X2_orderToken 1 d (nI e) = some (if d = 61 then (25 : Int32) else if d = 62 then 23 else 24, nI (e + (if d = 61 ∨ d = 62 then 1 else 0))) := by
  unfold f_X2_orderToken
  by_cases h1 : d = 61
  · rw [if_pos h1, on_eq, if_neg (by decide), if_pos h1, if_pos (Or.inl h1), nI_1]
  · rw [if_neg h1, if_neg (by decide)]
    by_cases h2 : d = 62
    · rw [if_pos h2, on_eq, if_neg h1, if_pos h2, if_pos (Or.inr h2), nI_1]
    · rw [if_neg h2, if_neg (by decide), if_neg h1, if_neg h2, if_neg (fun z => z.elim h1 h2), Nat.add_zero]
theorem C_orderG (d : Int32) (e : Nat) : f_X2_orderToken 0 d (nI e) = some (if d = 61 then (27 : Int32) else 26, nI (e + (if d = 61 then 1 else 0))) := by
  unfold f_X2_orderToken
  by_cases h1 : d = 61
  · rw [if_pos h1, on_eq, if_pos rfl, if_pos h1, if_pos h1, nI_1]
  · rw [if_neg h1, if_pos rfl, if_pos rfl, if_neg h1, if_neg h1, Nat.add_zero]
theorem C_sign {b : Nat → Int32} {n e : Nat} (hn : n ≤ 2000) (he : e < 2 ^ 30) (c : Int32) : f_X2_signToken c (nI e) b (nI n) = some (sgT c (Lk b n e), nI (e + sgX c (Lk b n e))) := by
  unfold f_X2_signToken sgT sgX
  rw [C_at hn (by omega)]
  simp only [ob1_s]
  rw [C_orderL, C_orderG]
  simp only [ob2_s]
  generalize Lk b n e = d
  by_cases h1 : c = 39
  · subst h1; rfl
  rw [if_neg h1, if_neg h1]
  by_cases h2 : c = 40
  · subst h2; rfl
  rw [if_neg h2, if_neg h2]
  by_cases h3 : c = 41
  · subst h3; rfl
  rw [if_neg h3, if_neg h3]
  by_cases h4 : c = 44
  · subst h4; rfl
  rw [if_neg h4, if_neg h4]
  by_cases h5 : c = 45
  · subst h5; rfl
  rw [if_neg h5, if_neg h5]
  by_cases h6 : c = 60
  · subst h6
    rw [if_pos rfl, if_pos rfl, if_pos rfl]
    by_cases d1 : d = 61 <;> by_cases d2 : d = 62 <;> simp [d1, d2]
  simp only [if_neg h6]
  by_cases h7 : c = 61
  · subst h7; rfl
  rw [if_neg h7, if_neg h7]
  by_cases h8 : c = 62
  · subst h8
    by_cases d1 : d = 61 <;> simp [d1]
  rw [if_neg h8, if_neg h8, if_neg (show ¬ (c = 60 ∧ (d = 61 ∨ d = 62) ∨ c = 62 ∧ d = 61) from fun z => z.elim (fun q => h6 q.1) (fun q => h8 q.1)), Nat.add_zero]
  by_cases hd : isD c = true
  · rw [if_pos hd]
    unfold isD at hd
    rw [decide_eq_true_eq] at hd
    rw [if_neg (fun z => by have := Int32.lt_iff_toInt_lt.mp z; simp only [Int32.reduceToInt] at this; omega), if_neg (fun z => by have := Int32.lt_iff_toInt_lt.mp z; simp only [Int32.reduceToInt] at this; omega)]
  · rw [if_neg hd]
    unfold isD at hd
    rw [decide_eq_true_eq] at hd
    by_cases q : c < 48
    · rw [if_pos q]
    · rw [if_neg q, if_pos]
      apply Int32.lt_iff_toInt_lt.mpr
      have : ¬ c.toInt < 48 := fun z => q (Int32.lt_iff_toInt_lt.mpr (by simp only [Int32.reduceToInt]; exact z))
      simp only [Int32.reduceToInt]
      omega
/-- the token that begins at s, and where it ends -/
def tkT (L : Nat → Int32) (n s : Nat) : Int32 := if L s = -1 then 29 else if isL (L s) = true then nI (wd L n s) else sgT (L s) (L (s + 1))
def tkE (L : Nat → Int32) (n s : Nat) : Nat := if L s = -1 then s else if isL (L s) = true then we L n (s + 1) else s + 1 + sgX (L s) (L (s + 1))
theorem tkE_le {t : Nat → Int32} {n s : Nat} (hB : BY t n) (hs : s ≤ n) : tkE (Lk t n) n s ≤ n := by
  unfold tkE
  by_cases h1 : Lk t n s = -1
  · rw [if_pos h1]; exact hs
  · rw [if_neg h1]
    have hp : s < n := by
      rcases Nat.lt_or_ge s n with q | q
      · exact q
      · exact absurd (Lk_out q) h1
    by_cases h2 : isL (Lk t n s) = true
    · rw [if_pos h2]; exact we_le t n (s + 1) hp
    · rw [if_neg h2]
      unfold sgX
      by_cases h3 : Lk t n s = 60 ∧ (Lk t n (s + 1) = 61 ∨ Lk t n (s + 1) = 62) ∨ Lk t n s = 62 ∧ Lk t n (s + 1) = 61
      · rw [if_pos h3]
        have : ¬ n ≤ s + 1 := by
          intro q
          rw [Lk_out q] at h3
          rcases h3 with ⟨-, z | z⟩ | ⟨-, z⟩
          · exact absurd z (by decide)
          · exact absurd z (by decide)
          · exact absurd z (by decide)
        omega
      · rw [if_neg h3]; omega
theorem tkE_ge (t : Nat → Int32) (n s : Nat) : s ≤ tkE (Lk t n) n s := by
  unfold tkE
  by_cases h1 : Lk t n s = -1
  · rw [if_pos h1]; exact Nat.le_refl _
  · rw [if_neg h1]
    by_cases h2 : isL (Lk t n s) = true
    · rw [if_pos h2]; have := we_ge t n (s + 1); omega
    · rw [if_neg h2]; omega
theorem tkE_word {t : Nat → Int32} {n s : Nat} (h : isL (Lk t n s) = true) : tkE (Lk t n) n s = s + wl (Lk t n) n s := by
  have h1 : ¬ Lk t n s = -1 := fun z => by rw [z, isL_out] at h; cases h
  unfold tkE wl
  rw [if_neg h1, if_pos h, if_pos h]
  have := we_ge t n (s + 1)
  omega
theorem C_adv52 {b : Nat → Int32} {n s : Nat} (hB : BY b n) (hn : n ≤ 2000) (hs : s ≤ n) : f_X2_advance_52 (nI s) b (nI n) = some (tkT (Lk b n) n s, nI s, nI (tkE (Lk b n) n s)) := by
  unfold f_X2_advance_52 tkT tkE
  rw [C_at hn (by omega), ob1_s]
  by_cases h1 : Lk b n s = -1
  · rw [if_pos h1, if_pos h1, if_pos h1]
  · have hp : s < n := by
      rcases Nat.lt_or_ge s n with q | q
      · exact q
      · exact absurd (Lk_out q) h1
    rw [if_neg h1, if_neg h1, if_neg h1, on_eq, nI_1, C_isLetter, ob1_s]
    cases h2 : isL (Lk b n s) with
    | false =>
      rw [if_pos bI_f, C_sign hn (by omega), ob2_s]
      rfl
    | true =>
      have h3 := we_ge b n (s + 1)
      have h4 := we_le b n (s + 1) hp
      have h5 : wl (Lk b n) n s = we (Lk b n) n (s + 1) - s := by unfold wl; rw [if_pos h2]
      rw [if_neg bI_n, C_wend hn (s + 1) FU (by omega) (by show _ < 4096; omega), ob1_s]
      have h6 := C_wordToken (b := b) (n := n) (s := s) (m := wl (Lk b n) n s) hn (by omega) (by omega)
      rw [show s + wl (Lk b n) n s = we (Lk b n) n (s + 1) by omega] at h6
      rw [h6, ob1_s]
      rfl
theorem C_advance {b : Nat → Int32} {n e : Nat} (hB : BY b n) (hn : n ≤ 2000) (he : e ≤ n) (x y : Int32) : f_X2_advance x y (nI e) b (nI n) = some (tkT (Lk b n) n (sk (Lk b n) n e), nI (sk (Lk b n) n e), nI (tkE (Lk b n) n (sk (Lk b n) n e))) := by
  unfold f_X2_advance
  rw [C_skip hn e FU he (by show _ < 4096; omega), ob1_s]
  exact C_adv52 hB hn (sk_le b n e he)
