/-! pure rows: what is asked of a plan, both sides at once -/
theorem ix3 (x : Int32) (c : Nat) : x < 0 ∨ (∃ i, c ≤ i ∧ i < 2 ^ 31 ∧ x = nI i) ∨ (∃ i, i < c ∧ i < 2 ^ 31 ∧ x = nI i) := by
  by_cases g : x < 0
  · exact Or.inl g
  · obtain ⟨i, hi, rfl⟩ := nI_of g
    rcases Nat.lt_or_ge i c with q | q
    · exact Or.inr (Or.inr ⟨i, q, hi, rfl⟩)
    · exact Or.inr (Or.inl ⟨i, q, hi, rfl⟩)
theorem neg_ne {x : Int32} (h : x < 0) (c : Int32) (hc : 0 ≤ c) : ¬ x = c := fun z => by
  rw [z, Int32.lt_iff_toInt_lt] at h
  rw [Int32.le_iff_toInt_le] at hc
  omega
theorem M_hasN {x c : Int32} {many : Nat → Int32} : f_X6_has x c (-1) many = some 0 := by rw [f_X6_has, if_pos rfl]
theorem M_has1 {x c : Int32} {h : Nat} {many : Nat → Int32} (hh : h ≤ 1) (hx : x < 0) : f_X6_has x c (nI h) many = some 0 := by rw [f_X6_has, if_neg (nI_ne h (by omega)), if_pos hx]
theorem M_has2 {c : Int32} {h k i m : Nat} {many : Nat → Int32} (hh : h ≤ 1) (hc : c = nI k) (hk : k < 4) (hm : many (4 * h + k) = nI m) (hi : i < 2 ^ 31) (h2 : m ≤ i) : f_X6_has (nI i) c (nI h) many = some 0 := by
  rw [f_X6_has, if_neg (nI_ne h (by omega)), if_neg (nI_pos hi), M_4h c hc, rd_in (show 4 * h + k < 8 by omega) (by decide), hm, if_pos (nI_le h2 hi)]
theorem M_has3 {c : Int32} {h k i m : Nat} {many : Nat → Int32} (hh : h ≤ 1) (hc : c = nI k) (hk : k < 4) (hm : many (4 * h + k) = nI m) (hm2 : m < 2 ^ 31) (h2 : i < m) : f_X6_has (nI i) c (nI h) many = some 1 := by
  rw [f_X6_has, if_neg (nI_ne h (by omega)), if_neg (nI_pos (by omega)), M_4h c hc, rd_in (show 4 * h + k < 8 by omega) (by decide), hm, if_neg (nI_ge h2 hm2)]
section ACC
variable {it : Nat → Int32} {by_ : Nat → Int32} {st : Nat → Int32} {lt : Nat → Int32} {nb : Nat → Int64} {ts : Nat → Int32} {tl : Nat → Int32} {tb : Nat → Int32} {ic : Int32} {bc : Int32} {sc : Int32} {lc : Int32} {te : Int32} {kept code p1 p2 : Int32} {many : Nat → Int32} {ik : Nat → Int32} {jf : Nat → Int32} {rb : Nat → Int32} {sK : Nat → Int32} {sF : Nat → Int32} {sO : Nat → Int32} {sX : Nat → Int32} {sM : Nat → Int32} {Lt : Nat → Int32} {Lf : Nat → Int32} {Ls : Nat → Int32} {By : Nat → Int32} {Nu : Nat → Int64}
theorem R_count (hP : PLN it by_ st lt nb ts tl tb ic bc sc lc te kept many ik jf rb sK sF sO sX sM Lt Lf Ls By Nu) : ∃ r, f_X5_count p1 it ic bc sc lc = some r ∧ ∃ c, f_X6_count p1 code kept many ik = some (r, c) := by
  have five : ∀ i : Nat, i < 5 → i = 0 ∨ i = 1 ∨ i = 2 ∨ i = 3 ∨ i = 4 := fun i hi => by omega
  have out : ∀ X Y Z U V : Option Int32, (p1 < 0 ∨ ∃ i, 5 ≤ i ∧ i < 2 ^ 31 ∧ p1 = nI i) → (if p1 = 0 then X else if p1 = 1 then Y else if p1 = 2 then Z else if p1 = 3 then U else if p1 = 4 then V else some (-1)) = some (-1) := by
    intro X Y Z U V hp
    have ne : ∀ k : Nat, k < 5 → ¬ p1 = nI k := by
      intro k hk z
      rcases hp with q | ⟨i, i1, i2, i3⟩
      · exact neg_ne q _ (nI_pos' (by omega)) z
      · rw [i3, nI_eq i2 (by omega)] at z; omega
    rw [if_neg (show ¬ p1 = 0 from ne 0 (by decide)), if_neg (show ¬ p1 = 1 from ne 1 (by decide)), if_neg (show ¬ p1 = 2 from ne 2 (by decide)), if_neg (show ¬ p1 = 3 from ne 3 (by decide)), if_neg (show ¬ p1 = 4 from ne 4 (by decide))]
  rw [f_X5_count, f_X6_count]
  rcases ix3 p1 5 with g | ⟨i, i1, i2, i3⟩ | ⟨i, i1, i2, rfl⟩
  · rw [out _ _ _ _ _ (Or.inl g), if_pos g]; exact ⟨_, rfl, _, rfl⟩
  · rw [out _ _ _ _ _ (Or.inr ⟨i, i1, i2, i3⟩), i3, if_neg (nI_pos i2), if_neg (show ¬ nI i ≤ 4 from nI_ge (a := 4) (by omega) i2)]; exact ⟨_, rfl, _, rfl⟩
  · rw [if_neg (nI_pos i2), if_pos (show nI i ≤ 4 from nI_le (b := 4) (by omega) (by decide))]
    rcases hP with ⟨rfl, rfl, rfl, rfl, rfl⟩ | ⟨h, c0, c1, c2, c3, e, h1, rfl, h3, h4, h5, h6, h7, rfl, rfl, rfl, rfl, h12, h13, h14, h15, h16, h17, h18, h19⟩
    · rw [if_pos rfl]
      have cc : f_X1_collects it 0 0 = some (bI (decide (0 < 0) || kB (fun j => it (2 * j)) 0 0)) := C_collects (c := 0) (c1 := 0) (by omega) (by omega)
      rw [cc, ob1_s]
      rcases five i i1 with rfl | rfl | rfl | rfl | rfl <;> exact ⟨_, rfl, _, rfl⟩
    · rw [if_neg (nI_ne h (by omega)), C_collects h3 h4, ob1_s, M_collects h1 h3 h4 h12 h13 (fun i hi => (h16 i hi).2.2), ob1_s, kB_congr c0 0 (f := fun j => ik (16 * h + j)) (g := fun j => it (2 * j)) (fun j _ hj => (h16 j (by omega)).1.symm)]
      rcases five i i1 with rfl | rfl | rfl | rfl | rfl
      · rw [if_pos (show nI 0 = 0 from rfl), if_neg (show ¬ (4 : Int32) ≤ nI 0 by decide), M_4h (nI 0) (k := 0) rfl, rd_in (show 4 * h + 0 < 8 by omega) (by decide)]
        exact ⟨_, rfl, 0, by rw [Nat.add_zero, h12]⟩
      · rw [if_neg (show ¬ nI 1 = 0 by decide), if_pos (show nI 1 = 1 from rfl), if_neg (show ¬ (4 : Int32) ≤ nI 1 by decide), M_4h (nI 1) (k := 1) rfl, rd_in (show 4 * h + 1 < 8 by omega) (by decide), h13]
        exact ⟨_, rfl, _, rfl⟩
      · rw [if_neg (show ¬ nI 2 = 0 by decide), if_neg (show ¬ nI 2 = 1 by decide), if_pos (show nI 2 = 2 from rfl), if_neg (show ¬ (4 : Int32) ≤ nI 2 by decide), M_4h (nI 2) (k := 2) rfl, rd_in (show 4 * h + 2 < 8 by omega) (by decide), h14]
        exact ⟨_, rfl, _, rfl⟩
      · rw [if_neg (show ¬ nI 3 = 0 by decide), if_neg (show ¬ nI 3 = 1 by decide), if_neg (show ¬ nI 3 = 2 by decide), if_pos (show nI 3 = 3 from rfl), if_neg (show ¬ (4 : Int32) ≤ nI 3 by decide), M_4h (nI 3) (k := 3) rfl, rd_in (show 4 * h + 3 < 8 by omega) (by decide), h15]
        exact ⟨_, rfl, _, rfl⟩
      · rw [if_neg (show ¬ nI 4 = 0 by decide), if_neg (show ¬ nI 4 = 1 by decide), if_neg (show ¬ nI 4 = 2 by decide), if_neg (show ¬ nI 4 = 3 by decide), if_pos (show nI 4 = 4 from rfl), if_pos (show (4 : Int32) ≤ nI 4 by decide)]
        cases (decide (0 < c1) || kB (fun j => it (2 * j)) c0 0) <;> exact ⟨_, rfl, _, rfl⟩
theorem none_ge (h : ¬ p1 < 0) : (0 : Int32) ≤ p1 := Int32.not_lt.mp h
theorem R_item (hP : PLN it by_ st lt nb ts tl tb ic bc sc lc te kept many ik jf rb sK sF sO sX sM Lt Lf Ls By Nu) : ∃ r, f_X5_item p1 p2 it ic = some r ∧ ∃ c, f_X6_item p1 p2 code kept many ik jf = some (r, c) := by
  rw [f_X5_item, f_X6_item]
  rcases hP with ⟨rfl, rfl, rfl, rfl, rfl⟩ | ⟨h, c0, c1, c2, c3, e, h1, rfl, h3, h4, h5, h6, h7, rfl, rfl, rfl, rfl, h12, h13, h14, h15, h16, h17, h18, h19⟩
  · rw [M_hasN, ob1_s, if_pos rfl]
    by_cases g : p1 < 0
    · rw [if_pos g]; exact ⟨_, rfl, _, rfl⟩
    · rw [if_neg g, if_pos (none_ge g)]; exact ⟨_, rfl, _, rfl⟩
  · rcases ix3 p1 c0 with g | ⟨i, i1, i2, rfl⟩ | ⟨i, i1, i2, rfl⟩
    · rw [if_pos g, M_has1 h1 g, ob1_s, if_pos rfl]; exact ⟨_, rfl, _, rfl⟩
    · rw [if_neg (nI_pos i2), if_pos (nI_le i1 i2), M_has2 h1 (show (0 : Int32) = nI 0 from rfl) (by decide) h12 i2 i1, ob1_s, if_pos rfl]; exact ⟨_, rfl, _, rfl⟩
    · rw [if_neg (nI_pos i2), if_neg (nI_ge i1 (by omega)), M_has3 h1 (show (0 : Int32) = nI 0 from rfl) (by decide) h12 (by omega) i1, ob1_s, if_neg (show ¬ (1 : Int32) = 0 by decide), M_16h, rd_in (show 16 * h + i < 32 by omega) (by decide), rd_in (show 16 * h + i < 32 by omega) (by decide)]
      obtain ⟨y1, y2, _⟩ := h16 i i1
      rw [← y1, ← y2]
      rcases ix3 p2 2 with g | ⟨k, k1, k2, rfl⟩ | ⟨k, k1, k2, rfl⟩
      · rw [if_pos g, if_neg (neg_ne g 0 (by decide)), if_neg (neg_ne g 1 (by decide))]; exact ⟨_, rfl, _, rfl⟩
      · rw [if_neg (nI_pos k2), if_neg (show ¬ nI k < 2 from nI_nlt (b := 2) k1 k2), if_neg (nI_ne0 (by omega) k2), if_neg (show ¬ nI k = 1 from fun z => by have := (nI_eq (b := 1) k2 (by decide)).mp z; omega)]; exact ⟨_, rfl, _, rfl⟩
      · have e2 : nI i * 2 + nI k = nI (2 * i + k) := by rw [show (2 : Int32) = nI 2 from rfl, nI_mul', nI_add, Nat.mul_comm]
        rw [if_neg (nI_pos k2), if_pos (show nI k < 2 from nI_lt (b := 2) k1 (by decide)), e2, rd_in (show 2 * i + k < 32 by omega) (by decide)]
        have kk : k = 0 ∨ k = 1 := by omega
        rcases kk with rfl | rfl
        · rw [if_pos (show nI 0 = 0 from rfl)]; exact ⟨_, rfl, _, rfl⟩
        · rw [if_neg (show ¬ nI 1 = 0 by decide), if_pos (show nI 1 = 1 from rfl)]; exact ⟨_, rfl, _, rfl⟩
theorem R_by (hP : PLN it by_ st lt nb ts tl tb ic bc sc lc te kept many ik jf rb sK sF sO sX sM Lt Lf Ls By Nu) : ∃ r, f_X5_by p1 by_ bc = some r ∧ ∃ c, f_X6_by p1 code kept many rb = some (r, c) := by
  rw [f_X5_by, f_X6_by]
  rcases hP with ⟨rfl, rfl, rfl, rfl, rfl⟩ | ⟨h, c0, c1, c2, c3, e, h1, rfl, h3, h4, h5, h6, h7, rfl, rfl, rfl, rfl, h12, h13, h14, h15, h16, h17, h18, h19⟩
  · rw [M_hasN, ob1_s, if_pos rfl]
    by_cases g : p1 < 0
    · rw [if_pos g]; exact ⟨_, rfl, _, rfl⟩
    · rw [if_neg g, if_pos (none_ge g)]; exact ⟨_, rfl, _, rfl⟩
  · rcases ix3 p1 c1 with g | ⟨i, i1, i2, rfl⟩ | ⟨i, i1, i2, rfl⟩
    · rw [if_pos g, M_has1 h1 g, ob1_s, if_pos rfl]; exact ⟨_, rfl, _, rfl⟩
    · rw [if_neg (nI_pos i2), if_pos (nI_le i1 i2), M_has2 h1 (show (1 : Int32) = nI 1 from rfl) (by decide) h13 i2 i1, ob1_s, if_pos rfl]; exact ⟨_, rfl, _, rfl⟩
    · rw [if_neg (nI_pos i2), if_neg (nI_ge i1 (by omega)), rd_in (show i < 8 by omega) (by decide), M_has3 h1 (show (1 : Int32) = nI 1 from rfl) (by decide) h13 (by omega) i1, ob1_s, if_neg (show ¬ (1 : Int32) = 0 by decide), M_8h, rd_in (show 8 * h + i < 16 by omega) (by decide), h17 i i1]
      exact ⟨_, rfl, _, rfl⟩
theorem R_stepA (hP : PLN it by_ st lt nb ts tl tb ic bc sc lc te kept many ik jf rb sK sF sO sX sM Lt Lf Ls By Nu) : ∃ r, f_X5_step p1 p2 st sc = some r ∧ ∃ c, f_X6_step p1 p2 code kept many sK sF sO sX sM = some (r, c) := by
  rw [f_X5_step, f_X6_step]
  rcases hP with ⟨rfl, rfl, rfl, rfl, rfl⟩ | ⟨h, c0, c1, c2, c3, e, h1, rfl, h3, h4, h5, h6, h7, rfl, rfl, rfl, rfl, h12, h13, h14, h15, h16, h17, h18, h19⟩
  · rw [M_hasN, ob1_s, if_pos rfl]
    by_cases g : p1 < 0
    · rw [if_pos g]; exact ⟨_, rfl, _, rfl⟩
    · rw [if_neg g, if_pos (none_ge g)]; exact ⟨_, rfl, _, rfl⟩
  · rcases ix3 p1 c2 with g | ⟨i, i1, i2, rfl⟩ | ⟨i, i1, i2, rfl⟩
    · rw [if_pos g, M_has1 h1 g, ob1_s, if_pos rfl]; exact ⟨_, rfl, _, rfl⟩
    · rw [if_neg (nI_pos i2), if_pos (nI_le i1 i2), M_has2 h1 (show (2 : Int32) = nI 2 from rfl) (by decide) h14 i2 i1, ob1_s, if_pos rfl]; exact ⟨_, rfl, _, rfl⟩
    · rw [if_neg (nI_pos i2), if_neg (nI_ge i1 (by omega)), M_has3 h1 (show (2 : Int32) = nI 2 from rfl) (by decide) h14 (by omega) i1, ob1_s, if_neg (show ¬ (1 : Int32) = 0 by decide), on_eq, M_64h, rd_in (show 64 * h + i < 128 by omega) (by decide), rd_in (show 64 * h + i < 128 by omega) (by decide), rd_in (show 64 * h + i < 128 by omega) (by decide), rd_in (show 64 * h + i < 128 by omega) (by decide), rd_in (show 64 * h + i < 128 by omega) (by decide)]
      obtain ⟨y1, y2, y3, y4, y5⟩ := h18 i i1
      rw [← y1, ← y2, ← y3, ← y4, ← y5]
      rcases ix3 p2 5 with g | ⟨k, k1, k2, rfl⟩ | ⟨k, k1, k2, rfl⟩
      · rw [if_pos g, if_neg (neg_ne g 0 (by decide)), if_neg (neg_ne g 1 (by decide)), if_neg (neg_ne g 2 (by decide)), if_neg (neg_ne g 3 (by decide)), if_neg (neg_ne g 4 (by decide))]; exact ⟨_, rfl, _, rfl⟩
      · have ne : ∀ m : Nat, m < 5 → ¬ nI k = nI m := fun m hm z => by have := (nI_eq k2 (by omega)).mp z; omega
        rw [if_neg (nI_pos k2), if_neg (show ¬ nI k < 5 from nI_nlt (b := 5) k1 k2), if_neg (show ¬ nI k = 0 from ne 0 (by decide)), if_neg (show ¬ nI k = 1 from ne 1 (by decide)), if_neg (show ¬ nI k = 2 from ne 2 (by decide)), if_neg (show ¬ nI k = 3 from ne 3 (by decide)), if_neg (show ¬ nI k = 4 from ne 4 (by decide))]; exact ⟨_, rfl, _, rfl⟩
      · have e2 : nI i * 5 + nI k = nI (5 * i + k) := by rw [show (5 : Int32) = nI 5 from rfl, nI_mul', nI_add, Nat.mul_comm]
        rw [if_neg (nI_pos k2), if_pos (show nI k < 5 from nI_lt (b := 5) k1 (by decide)), e2, rd_in (show 5 * i + k < 320 by omega) (by decide)]
        have kk : k = 0 ∨ k = 1 ∨ k = 2 ∨ k = 3 ∨ k = 4 := by omega
        rcases kk with rfl | rfl | rfl | rfl | rfl <;> exact ⟨_, rfl, _, rfl⟩
theorem C_hasL {i c : Nat} (hi : i < 2 ^ 31) (hc : c < 2 ^ 31) : f_X1_hasLiteral (nI i) (nI c) = some (bI (decide (i < c))) := by
  rw [f_X1_hasLiteral, if_neg (nI_pos hi)]
  by_cases g : i < c
  · rw [if_neg (nI_ge g hc), decide_eq_true g]; rfl
  · rw [if_pos (nI_le (by omega) hi), decide_eq_false g]; rfl
theorem C_hasN {c : Int32} (h : p1 < 0) : f_X1_hasLiteral p1 c = some 0 := by rw [f_X1_hasLiteral, if_pos h]
theorem C_has0 : f_X1_hasLiteral p1 0 = some 0 := by
  rw [f_X1_hasLiteral]
  by_cases g : p1 < 0
  · rw [if_pos g]
  · rw [if_neg g, if_pos (none_ge g)]
theorem R_literalA (hP : PLN it by_ st lt nb ts tl tb ic bc sc lc te kept many ik jf rb sK sF sO sX sM Lt Lf Ls By Nu) : ∃ r, f_X5_literal p1 lt lc = some r ∧ ∃ c, f_X6_literal p1 code kept many Lt = some (r, c) := by
  rw [f_X5_literal, f_X6_literal]
  rcases hP with ⟨rfl, rfl, rfl, rfl, rfl⟩ | ⟨h, c0, c1, c2, c3, e, h1, rfl, h3, h4, h5, h6, h7, rfl, rfl, rfl, rfl, h12, h13, h14, h15, h16, h17, h18, h19⟩
  · rw [M_hasN, ob1_s, if_pos rfl, C_has0, ob1_s, if_pos rfl]; exact ⟨_, rfl, _, rfl⟩
  · rcases ix3 p1 c3 with g | ⟨i, i1, i2, rfl⟩ | ⟨i, i1, i2, rfl⟩
    · rw [C_hasN g, M_has1 h1 g, ob1_s, if_pos rfl, ob1_s, if_pos rfl]; exact ⟨_, rfl, _, rfl⟩
    · rw [C_hasL i2 (by omega), decide_eq_false (by omega), M_has2 h1 (show (3 : Int32) = nI 3 from rfl) (by decide) h15 i2 i1, ob1_s, if_pos bI_f, ob1_s, if_pos rfl]; exact ⟨_, rfl, _, rfl⟩
    · rw [C_hasL i2 (by omega), decide_eq_true i1, M_has3 h1 (show (3 : Int32) = nI 3 from rfl) (by decide) h15 (by omega) i1, ob1_s, if_neg bI_n, rd_in (show i < 64 by omega) (by decide), ob1_s, if_neg (show ¬ (1 : Int32) = 0 by decide), M_64h, rd_in (show 64 * h + i < 128 by omega) (by decide), (h19.1 i i1).1]
      exact ⟨_, rfl, _, rfl⟩
theorem R_numberA (hP : PLN it by_ st lt nb ts tl tb ic bc sc lc te kept many ik jf rb sK sF sO sX sM Lt Lf Ls By Nu) : ∃ r, f_X5_number p1 nb lc = some r ∧ ∃ c, f_X6_number p1 code kept many Nu = some (r, c) := by
  rw [f_X5_number, f_X6_number]
  rcases hP with ⟨rfl, rfl, rfl, rfl, rfl⟩ | ⟨h, c0, c1, c2, c3, e, h1, rfl, h3, h4, h5, h6, h7, rfl, rfl, rfl, rfl, h12, h13, h14, h15, h16, h17, h18, h19⟩
  · rw [M_hasN, ob1_s, if_pos rfl, C_has0, ob1_s, if_pos rfl]; exact ⟨_, rfl, _, rfl⟩
  · rcases ix3 p1 c3 with g | ⟨i, i1, i2, rfl⟩ | ⟨i, i1, i2, rfl⟩
    · rw [C_hasN g, M_has1 h1 g, ob1_s, if_pos rfl, ob1_s, if_pos rfl]; exact ⟨_, rfl, _, rfl⟩
    · rw [C_hasL i2 (by omega), decide_eq_false (by omega), M_has2 h1 (show (3 : Int32) = nI 3 from rfl) (by decide) h15 i2 i1, ob1_s, if_pos bI_f, ob1_s, if_pos rfl]; exact ⟨_, rfl, _, rfl⟩
    · rw [C_hasL i2 (by omega), decide_eq_true i1, M_has3 h1 (show (3 : Int32) = nI 3 from rfl) (by decide) h15 (by omega) i1, ob1_s, if_neg bI_n, rd_in (show i < 64 by omega) (by decide), ob1_s, if_neg (show ¬ (1 : Int32) = 0 by decide), M_64h, rd_in (show 64 * h + i < 128 by omega) (by decide), (h19.1 i i1).2.1]
      exact ⟨_, rfl, _, rfl⟩
theorem C_hasTN {c : Int32} (h : p1 < 0) : f_X1_hasText p1 lt c = some 0 := by rw [f_X1_hasText, if_pos h]
theorem C_hasT0 : f_X1_hasText p1 lt 0 = some 0 := by
  rw [f_X1_hasText]
  by_cases g : p1 < 0
  · rw [if_pos g]
  · rw [if_neg g, if_pos (none_ge g)]
theorem C_hasT2 {i c : Nat} (hi : i < 2 ^ 31) (h : c ≤ i) : f_X1_hasText (nI i) lt (nI c) = some 0 := by rw [f_X1_hasText, if_neg (nI_pos hi), if_pos (nI_le h hi)]
theorem C_hasT3 {i c : Nat} (hc : c ≤ 64) (h : i < c) : f_X1_hasText (nI i) lt (nI c) = some (bI (decide (lt i = 3))) := by
  rw [f_X1_hasText, if_neg (nI_pos (by omega)), if_neg (nI_ge h (by omega)), rd_in (show i < 64 by omega) (by decide)]
  by_cases g : lt i = 3
  · rw [if_pos g, decide_eq_true g]; rfl
  · rw [if_neg g, decide_eq_false g]; rfl
/-- the length, or -1 -/
theorem R_size (hP : PLN it by_ st lt nb ts tl tb ic bc sc lc te kept many ik jf rb sK sF sO sX sM Lt Lf Ls By Nu) : (f_X1_hasText p1 lt lc = some 0 ∧ f_X6_sizeOf p1 kept many Lt Ls = some (-1)) ∨ (∃ h i a l e, h ≤ 1 ∧ kept = nI h ∧ i < 64 ∧ p1 = nI i ∧ e ≤ 2000 ∧ a + l ≤ e ∧ f_X1_hasText p1 lt lc = some 1 ∧ f_X6_sizeOf p1 kept many Lt Ls = some (nI l) ∧ tl i = nI l ∧ ts i = nI a ∧ Lf (64 * h + i) = nI a ∧ ∀ j, j < e → tb j = By (2000 * h + j)) := by
  rw [f_X6_sizeOf]
  rcases hP with ⟨rfl, rfl, rfl, rfl, rfl⟩ | ⟨h, c0, c1, c2, c3, e, h1, rfl, h3, h4, h5, h6, h7, rfl, rfl, rfl, rfl, h12, h13, h14, h15, h16, h17, h18, h19⟩
  · rw [M_hasN, ob1_s, if_pos rfl, C_hasT0]; exact Or.inl ⟨rfl, rfl⟩
  · rcases ix3 p1 c3 with g | ⟨i, i1, i2, rfl⟩ | ⟨i, i1, i2, rfl⟩
    · rw [C_hasTN g, M_has1 h1 g, ob1_s, if_pos rfl]; exact Or.inl ⟨rfl, rfl⟩
    · rw [C_hasT2 i2 i1, M_has2 h1 (show (3 : Int32) = nI 3 from rfl) (by decide) h15 i2 i1, ob1_s, if_pos rfl]; exact Or.inl ⟨rfl, rfl⟩
    · rw [C_hasT3 h6 i1, M_has3 h1 (show (3 : Int32) = nI 3 from rfl) (by decide) h15 (by omega) i1, ob1_s, if_neg (show ¬ (1 : Int32) = 0 by decide), M_64h, rd_in (show 64 * h + i < 128 by omega) (by decide), rd_in (show 64 * h + i < 128 by omega) (by decide)]
      obtain ⟨y1, y2, y3, y4, a, l, y5, y6, y7⟩ := h19.1 i i1
      rw [← y1, ← y4]
      by_cases g : lt i = 3
      · rw [decide_eq_true g, if_pos g]
        exact Or.inr ⟨h, i, a, l, e, h1, rfl, by omega, rfl, h7, y7, rfl, by rw [y6], y6, y5, by rw [← y3]; exact y5, h19.2⟩
      · rw [decide_eq_false g, if_neg g]; exact Or.inl ⟨rfl, rfl⟩
theorem R_lengthA (hP : PLN it by_ st lt nb ts tl tb ic bc sc lc te kept many ik jf rb sK sF sO sX sM Lt Lf Ls By Nu) : ∃ r, f_X5_length p1 lt tl lc = some r ∧ ∃ c, f_X6_length p1 code kept many Lt Ls = some (r, c) := by
  rw [f_X5_length, f_X6_length]
  rcases R_size (p1 := p1) hP with ⟨y1, y2⟩ | ⟨h, i, a, l, e, x1, x2, x3, rfl, x5, x6, x7, x8, x9, x10, x11, x12⟩
  · rw [y1, ob1_s, if_pos rfl, y2, ob1_s]; exact ⟨_, rfl, _, rfl⟩
  · rw [x7, ob1_s, if_neg (show ¬ (1 : Int32) = 0 by decide), rd_in x3 (by decide), x8, ob1_s, x9]; exact ⟨_, rfl, _, rfl⟩
theorem R_byteOf (hP : PLN it by_ st lt nb ts tl tb ic bc sc lc te kept many ik jf rb sK sF sO sX sM Lt Lf Ls By Nu) : ∃ r, f_X5_byteOf p1 p2 lt ts tl tb lc = some r ∧ ∃ c, f_X6_byteOf p1 p2 code kept many Lt Lf Ls By = some (r, c) := by
  rw [f_X5_byteOf, f_X6_byteOf]
  rcases R_size (p1 := p1) hP with ⟨y1, y2⟩ | ⟨h, i, a, l, e, x1, rfl, x3, rfl, x5, x6, x7, x8, x9, x10, x11, x12⟩
  · rw [y1, ob1_s, if_pos rfl, y2, ob1_s]
    by_cases g : p2 < 0
    · rw [if_pos g]; exact ⟨_, rfl, _, rfl⟩
    · have : ¬ p2 < -1 := fun z => g (by
        rw [Int32.lt_iff_toInt_lt] at z ⊢
        have e1 : (-1 : Int32).toInt = -1 := by decide
        have e2 : (0 : Int32).toInt = 0 := by decide
        omega)
      rw [if_neg g, if_neg this]; exact ⟨_, rfl, _, rfl⟩
  · rw [x7, ob1_s, if_neg (show ¬ (1 : Int32) = 0 by decide), x8, ob1_s, rd_in x3 (by decide), x9, rd_in x3 (by decide), x10, M_64h, rd_in (show 64 * h + i < 128 by omega) (by decide), x11]
    rcases ix3 p2 l with g | ⟨k, k1, k2, rfl⟩ | ⟨k, k1, k2, rfl⟩
    · rw [if_pos g, if_pos g]; exact ⟨_, rfl, _, rfl⟩
    · rw [if_neg (nI_pos k2), if_neg (nI_pos k2), if_neg (nI_nlt k1 k2), if_neg (nI_nlt k1 k2)]; exact ⟨_, rfl, _, rfl⟩
    · have e3 : (2000 : Int32) * nI h + nI a + nI k = nI (2000 * h + (a + k)) := by rw [show (2000 : Int32) = nI 2000 from rfl, nI_mul', nI_add, nI_add, Nat.add_assoc]
      rw [if_neg (nI_pos k2), if_neg (nI_pos k2), if_pos (nI_lt k1 (by omega)), if_pos (nI_lt k1 (by omega)), nI_add, rd_in (show a + k < 2000 by omega) (by decide), e3, rd_in (show 2000 * h + (a + k) < 4000 by omega) (by decide), x12 (a + k) (by omega)]
      exact ⟨_, rfl, _, rfl⟩
end ACC
