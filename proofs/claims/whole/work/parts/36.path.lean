/-! pure rows: the reference's small steps; paths -/
theorem lg_eq0 (x y : Int64) : lg_cmp x y = 0 ↔ x = y := by
  unfold lg_cmp
  by_cases h1 : x > y
  · rw [if_pos h1]
    refine ⟨fun z => absurd z (by decide), fun z => ?_⟩
    subst z
    exact absurd h1 (Int64.lt_irrefl)
  · rw [if_neg h1]
    by_cases h2 : x = y
    · rw [if_pos h2]; exact ⟨fun _ => h2, fun _ => rfl⟩
    · rw [if_neg h2]
      exact ⟨fun z => absurd z (by decide), fun z => absurd z h2⟩
theorem wd_le (t : Nat → Int32) (n s : Nat) : wd (Lk t n) n s ≤ 16 := by
  have := (wdi_ge (Lk t n) s (wl (Lk t n) n s) RT 0).2
  exact this
theorem wd_letter {t : Nat → Int32} {n s : Nat} (h : wd (Lk t n) n s < 16) : isL (Lk t n s) = true := by
  cases hl : isL (Lk t n s) with
  | true => rfl
  | false =>
    obtain ⟨q, hq⟩ : ∃ q, RT[wd (Lk t n) n s]? = some q := ⟨_, List.getElem?_eq_getElem (show wd (Lk t n) n s < RT.length from h)⟩
    have h1 := (wd_iff (t := t) (n := n) (s := s) hq).mp rfl
    have h2 : wl (Lk t n) n s = 0 := by unfold wl; rw [hl]; rfl
    unfold wv at h1
    rw [h2, if_neg (by decide)] at h1
    have h3 := RT_ok q (List.mem_of_getElem? hq)
    have := lN_inj (a := 0) (by decide) (by omega) h1
    omega
theorem wq_0 {t : Nat → Int32} {n s : Nat} : (wv (Lk t n) n s = (126879447475060 : Int64)) ↔ wd (Lk t n) n s = 0 := (wd_iff (j := 0) (q := RT.getD 0 (0, 0, 0)) rfl).symm
theorem wq_1 {t : Nat → Int32} {n s : Nat} : (wv (Lk t n) n s = (512852587109 : Int64)) ↔ wd (Lk t n) n s = 1 := (wd_iff (j := 1) (q := RT.getD 1 (0, 0, 0)) rfl).symm
theorem wq_2 {t : Nat → Int32} {n s : Nat} : (wv (Lk t n) n s = (444301538672 : Int64)) ↔ wd (Lk t n) n s = 2 := (wd_iff (j := 2) (q := RT.getD 2 (0, 0, 0)) rfl).symm
theorem wq_3 {t : Nat → Int32} {n s : Nat} : (wv (Lk t n) n s = (25209 : Int64)) ↔ wd (Lk t n) n s = 3 := (wd_iff (j := 3) (q := RT.getD 3 (0, 0, 0)) rfl).symm
theorem wq_4 {t : Nat → Int32} {n s : Nat} : (wv (Lk t n) n s = (6385252 : Int64)) ↔ wd (Lk t n) n s = 4 := (wd_iff (j := 4) (q := RT.getD 4 (0, 0, 0)) rfl).symm
theorem wq_5 {t : Nat → Int32} {n s : Nat} : (wv (Lk t n) n s = (28530 : Int64)) ↔ wd (Lk t n) n s = 5 := (wd_iff (j := 5) (q := RT.getD 5 (0, 0, 0)) rfl).symm
theorem wq_6 {t : Nat → Int32} {n s : Nat} : (wv (Lk t n) n s = (7237492 : Int64)) ↔ wd (Lk t n) n s = 6 := (wd_iff (j := 6) (q := RT.getD 6 (0, 0, 0)) rfl).symm
theorem wq_7 {t : Nat → Int32} {n s : Nat} : (wv (Lk t n) n s = (26995 : Int64)) ↔ wd (Lk t n) n s = 7 := (wd_iff (j := 7) (q := RT.getD 7 (0, 0, 0)) rfl).symm
theorem wq_8 {t : Nat → Int32} {n s : Nat} : (wv (Lk t n) n s = (1853189228 : Int64)) ↔ wd (Lk t n) n s = 8 := (wd_iff (j := 8) (q := RT.getD 8 (0, 0, 0)) rfl).symm
theorem wq_9 {t : Nat → Int32} {n s : Nat} : (wv (Lk t n) n s = (26990 : Int64)) ↔ wd (Lk t n) n s = 9 := (wd_iff (j := 9) (q := RT.getD 9 (0, 0, 0)) rfl).symm
theorem wq_10 {t : Nat → Int32} {n s : Nat} : (wv (Lk t n) n s = (1953658213 : Int64)) ↔ wd (Lk t n) n s = 10 := (wd_iff (j := 10) (q := RT.getD 10 (0, 0, 0)) rfl).symm
theorem wq_11 {t : Nat → Int32} {n s : Nat} : (wv (Lk t n) n s = (439721161573 : Int64)) ↔ wd (Lk t n) n s = 11 := (wd_iff (j := 11) (q := RT.getD 11 (0, 0, 0)) rfl).symm
theorem wq_12 {t : Nat → Int32} {n s : Nat} : (wv (Lk t n) n s = (427071729268 : Int64)) ↔ wd (Lk t n) n s = 12 := (wd_iff (j := 12) (q := RT.getD 12 (0, 0, 0)) rfl).symm
theorem wq_13 {t : Nat → Int32} {n s : Nat} : (wv (Lk t n) n s = (7566701 : Int64)) ↔ wd (Lk t n) n s = 13 := (wd_iff (j := 13) (q := RT.getD 13 (0, 0, 0)) rfl).symm
theorem wq_14 {t : Nat → Int32} {n s : Nat} : (wv (Lk t n) n s = (7170414 : Int64)) ↔ wd (Lk t n) n s = 14 := (wd_iff (j := 14) (q := RT.getD 14 (0, 0, 0)) rfl).symm
theorem wq_15 {t : Nat → Int32} {n s : Nat} : (wv (Lk t n) n s = (7168376 : Int64)) ↔ wd (Lk t n) n s = 15 := (wd_iff (j := 15) (q := RT.getD 15 (0, 0, 0)) rfl).symm
theorem M_isKept {t : Nat → Int32} {n s : Nat} : f_X6_isKept (wv (Lk t n) n s) = some (bI (decide (wd (Lk t n) n s < 16))) := by
  unfold f_X6_isKept
  simp only [lg_eq0, wq_0, wq_1, wq_2, wq_3, wq_4, wq_5, wq_6, wq_7, wq_8, wq_9, wq_10, wq_11, wq_12, wq_13, wq_14, wq_15]
  have := wd_le t n s
  generalize wd (Lk t n) n s = w at *
  rcases (show w = 0 ∨ w = 1 ∨ w = 2 ∨ w = 3 ∨ w = 4 ∨ w = 5 ∨ w = 6 ∨ w = 7 ∨ w = 8 ∨ w = 9 ∨ w = 10 ∨ w = 11 ∨ w = 12 ∨ w = 13 ∨ w = 14 ∨ w = 15 ∨ w = 16 by omega) with rfl | rfl | rfl | rfl | rfl | rfl | rfl | rfl | rfl | rfl | rfl | rfl | rfl | rfl | rfl | rfl | rfl <;> rfl
theorem sk_b (t : Nat → Int32) (n p : Nat) (hp : p ≤ n) : sk (Lk t n) n p < 2 ^ 30 ∨ 2000 < n := by
  have := sk_le t n p hp
  omega
theorem M_seesI {t : Nat → Int32} {n p : Nat} (hn : n ≤ 2000) (hp : p < 2 ^ 30) (w : Int64) {ill : Int32} (hi : ¬ ill = -1) : f_X6_sees w t (nI n) (nI p) ill = some (0, nI (sk (Lk t n) n p)) := by
  unfold f_X6_sees
  rw [M_blanks hn hp, ob1_s, if_neg hi]
theorem M_takesWordI {t : Nat → Int32} {n p : Nat} (hn : n ≤ 2000) (hp : p < 2 ^ 30) (w : Int64) {ill : Int32} (hi : ¬ ill = -1) : f_X6_takesWord w t (nI n) (nI p) ill = some (0, nI (sk (Lk t n) n p)) := by
  unfold f_X6_takesWord
  rw [M_seesI hn hp w hi, ob2_s, if_pos rfl]
theorem M_takesSignI {t : Nat → Int32} {n p : Nat} (hn : n ≤ 2000) (hp : p < 2 ^ 30) (c : Int32) {ill : Int32} (hi : ¬ ill = -1) : f_X6_takesSign c t (nI n) (nI p) ill = some (0, nI (sk (Lk t n) n p)) := by
  unfold f_X6_takesSign
  rw [M_blanks hn hp, ob1_s, if_neg hi]
theorem M_failI (x : Int32) {ill : Int32} (hi : ¬ ill = -1) : f_X6_fail x ill = some ill := by
  unfold f_X6_fail
  rw [if_neg hi]
theorem M_fail (x : Int32) : f_X6_fail x (-1) = some x := by
  unfold f_X6_fail
  rw [if_pos rfl]
theorem M_wantSignI {t : Nat → Int32} {n p : Nat} (hn : n ≤ 2000) (hp : p < 2 ^ 30) (c : Int32) {ill : Int32} (hi : ¬ ill = -1) : f_X6_wantSign c t (nI n) (nI p) ill = some (nI (sk (Lk t n) n p), ill) := by
  unfold f_X6_wantSign
  rw [M_takesSignI hn hp c hi, ob2_s, if_pos rfl, M_failI _ hi, ob1_s]
theorem M_takesSign {t : Nat → Int32} {n p : Nat} (hn : n ≤ 2000) (hp : p ≤ n) (c : Int32) : f_X6_takesSign c t (nI n) (nI p) (-1) = if Lk t n (sk (Lk t n) n p) = c then some (1, nI (sk (Lk t n) n p + 1)) else some (0, nI (sk (Lk t n) n p)) := by
  have := sk_le t n p hp
  unfold f_X6_takesSign
  rw [M_blanks hn (by omega), ob1_s, if_pos rfl, M_look hn (by omega), ob1_s]
  by_cases h : Lk t n (sk (Lk t n) n p) = c
  · rw [if_pos h, if_pos h, on_eq, nI_1]
  · rw [if_neg h, if_neg h]
theorem M_wantSign {t : Nat → Int32} {n p : Nat} (hn : n ≤ 2000) (hp : p ≤ n) (c : Int32) : f_X6_wantSign c t (nI n) (nI p) (-1) = if Lk t n (sk (Lk t n) n p) = c then some (nI (sk (Lk t n) n p + 1), -1) else some (nI (sk (Lk t n) n p), nI (sk (Lk t n) n p)) := by
  unfold f_X6_wantSign
  rw [M_takesSign hn hp]
  by_cases h : Lk t n (sk (Lk t n) n p) = c
  · rw [if_pos h, if_pos h, ob2_s, if_neg (by decide)]
  · rw [if_neg h, if_neg h, ob2_s, if_pos rfl, M_fail, ob1_s]
theorem M_sees_0 {t : Nat → Int32} {n p : Nat} (hn : n ≤ 2000) (hp : p ≤ n) : f_X6_sees (126879447475060 : Int64) t (nI n) (nI p) (-1) = if wd (Lk t n) n (sk (Lk t n) n p) = 0 then some (1, nI (sk (Lk t n) n p)) else some (0, nI (sk (Lk t n) n p)) := by
  have := sk_le t n p hp
  unfold f_X6_sees
  rw [M_blanks hn (by omega), ob1_s, if_pos rfl, M_wordOf hn this, ob1_s]
  simp only [lg_eq0, wq_0]
theorem M_takes_0 {t : Nat → Int32} {n p : Nat} (hn : n ≤ 2000) (hp : p ≤ n) : f_X6_takesWord (126879447475060 : Int64) t (nI n) (nI p) (-1) = if wd (Lk t n) n (sk (Lk t n) n p) = 0 then some (1, nI (tkE (Lk t n) n (sk (Lk t n) n p))) else some (0, nI (sk (Lk t n) n p)) := by
  have := sk_le t n p hp
  unfold f_X6_takesWord
  rw [M_sees_0 hn hp]
  by_cases h : wd (Lk t n) n (sk (Lk t n) n p) = 0
  · rw [if_pos h, if_pos h, ob2_s, if_neg (by decide), M_wordAt hn (by omega), ob1_s, on_eq, nI_add, tkE_word (wd_letter (by omega))]
  · rw [if_neg h, if_neg h, ob2_s, if_pos rfl]
theorem M_sees_1 {t : Nat → Int32} {n p : Nat} (hn : n ≤ 2000) (hp : p ≤ n) : f_X6_sees (512852587109 : Int64) t (nI n) (nI p) (-1) = if wd (Lk t n) n (sk (Lk t n) n p) = 1 then some (1, nI (sk (Lk t n) n p)) else some (0, nI (sk (Lk t n) n p)) := by
  have := sk_le t n p hp
  unfold f_X6_sees
  rw [M_blanks hn (by omega), ob1_s, if_pos rfl, M_wordOf hn this, ob1_s]
  simp only [lg_eq0, wq_1]
theorem M_takes_1 {t : Nat → Int32} {n p : Nat} (hn : n ≤ 2000) (hp : p ≤ n) : f_X6_takesWord (512852587109 : Int64) t (nI n) (nI p) (-1) = if wd (Lk t n) n (sk (Lk t n) n p) = 1 then some (1, nI (tkE (Lk t n) n (sk (Lk t n) n p))) else some (0, nI (sk (Lk t n) n p)) := by
  have := sk_le t n p hp
  unfold f_X6_takesWord
  rw [M_sees_1 hn hp]
  by_cases h : wd (Lk t n) n (sk (Lk t n) n p) = 1
  · rw [if_pos h, if_pos h, ob2_s, if_neg (by decide), M_wordAt hn (by omega), ob1_s, on_eq, nI_add, tkE_word (wd_letter (by omega))]
  · rw [if_neg h, if_neg h, ob2_s, if_pos rfl]
theorem M_sees_2 {t : Nat → Int32} {n p : Nat} (hn : n ≤ 2000) (hp : p ≤ n) : f_X6_sees (444301538672 : Int64) t (nI n) (nI p) (-1) = if wd (Lk t n) n (sk (Lk t n) n p) = 2 then some (1, nI (sk (Lk t n) n p)) else some (0, nI (sk (Lk t n) n p)) := by
  have := sk_le t n p hp
  unfold f_X6_sees
  rw [M_blanks hn (by omega), ob1_s, if_pos rfl, M_wordOf hn this, ob1_s]
  simp only [lg_eq0, wq_2]
theorem M_takes_2 {t : Nat → Int32} {n p : Nat} (hn : n ≤ 2000) (hp : p ≤ n) : f_X6_takesWord (444301538672 : Int64) t (nI n) (nI p) (-1) = if wd (Lk t n) n (sk (Lk t n) n p) = 2 then some (1, nI (tkE (Lk t n) n (sk (Lk t n) n p))) else some (0, nI (sk (Lk t n) n p)) := by
  have := sk_le t n p hp
  unfold f_X6_takesWord
  rw [M_sees_2 hn hp]
  by_cases h : wd (Lk t n) n (sk (Lk t n) n p) = 2
  · rw [if_pos h, if_pos h, ob2_s, if_neg (by decide), M_wordAt hn (by omega), ob1_s, on_eq, nI_add, tkE_word (wd_letter (by omega))]
  · rw [if_neg h, if_neg h, ob2_s, if_pos rfl]
theorem M_sees_3 {t : Nat → Int32} {n p : Nat} (hn : n ≤ 2000) (hp : p ≤ n) : f_X6_sees (25209 : Int64) t (nI n) (nI p) (-1) = if wd (Lk t n) n (sk (Lk t n) n p) = 3 then some (1, nI (sk (Lk t n) n p)) else some (0, nI (sk (Lk t n) n p)) := by
  have := sk_le t n p hp
  unfold f_X6_sees
  rw [M_blanks hn (by omega), ob1_s, if_pos rfl, M_wordOf hn this, ob1_s]
  simp only [lg_eq0, wq_3]
theorem M_takes_3 {t : Nat → Int32} {n p : Nat} (hn : n ≤ 2000) (hp : p ≤ n) : f_X6_takesWord (25209 : Int64) t (nI n) (nI p) (-1) = if wd (Lk t n) n (sk (Lk t n) n p) = 3 then some (1, nI (tkE (Lk t n) n (sk (Lk t n) n p))) else some (0, nI (sk (Lk t n) n p)) := by
  have := sk_le t n p hp
  unfold f_X6_takesWord
  rw [M_sees_3 hn hp]
  by_cases h : wd (Lk t n) n (sk (Lk t n) n p) = 3
  · rw [if_pos h, if_pos h, ob2_s, if_neg (by decide), M_wordAt hn (by omega), ob1_s, on_eq, nI_add, tkE_word (wd_letter (by omega))]
  · rw [if_neg h, if_neg h, ob2_s, if_pos rfl]
theorem M_sees_4 {t : Nat → Int32} {n p : Nat} (hn : n ≤ 2000) (hp : p ≤ n) : f_X6_sees (6385252 : Int64) t (nI n) (nI p) (-1) = if wd (Lk t n) n (sk (Lk t n) n p) = 4 then some (1, nI (sk (Lk t n) n p)) else some (0, nI (sk (Lk t n) n p)) := by
  have := sk_le t n p hp
  unfold f_X6_sees
  rw [M_blanks hn (by omega), ob1_s, if_pos rfl, M_wordOf hn this, ob1_s]
  simp only [lg_eq0, wq_4]
theorem M_takes_4 {t : Nat → Int32} {n p : Nat} (hn : n ≤ 2000) (hp : p ≤ n) : f_X6_takesWord (6385252 : Int64) t (nI n) (nI p) (-1) = if wd (Lk t n) n (sk (Lk t n) n p) = 4 then some (1, nI (tkE (Lk t n) n (sk (Lk t n) n p))) else some (0, nI (sk (Lk t n) n p)) := by
  have := sk_le t n p hp
  unfold f_X6_takesWord
  rw [M_sees_4 hn hp]
  by_cases h : wd (Lk t n) n (sk (Lk t n) n p) = 4
  · rw [if_pos h, if_pos h, ob2_s, if_neg (by decide), M_wordAt hn (by omega), ob1_s, on_eq, nI_add, tkE_word (wd_letter (by omega))]
  · rw [if_neg h, if_neg h, ob2_s, if_pos rfl]
theorem M_sees_5 {t : Nat → Int32} {n p : Nat} (hn : n ≤ 2000) (hp : p ≤ n) : f_X6_sees (28530 : Int64) t (nI n) (nI p) (-1) = if wd (Lk t n) n (sk (Lk t n) n p) = 5 then some (1, nI (sk (Lk t n) n p)) else some (0, nI (sk (Lk t n) n p)) := by
  have := sk_le t n p hp
  unfold f_X6_sees
  rw [M_blanks hn (by omega), ob1_s, if_pos rfl, M_wordOf hn this, ob1_s]
  simp only [lg_eq0, wq_5]
theorem M_takes_5 {t : Nat → Int32} {n p : Nat} (hn : n ≤ 2000) (hp : p ≤ n) : f_X6_takesWord (28530 : Int64) t (nI n) (nI p) (-1) = if wd (Lk t n) n (sk (Lk t n) n p) = 5 then some (1, nI (tkE (Lk t n) n (sk (Lk t n) n p))) else some (0, nI (sk (Lk t n) n p)) := by
  have := sk_le t n p hp
  unfold f_X6_takesWord
  rw [M_sees_5 hn hp]
  by_cases h : wd (Lk t n) n (sk (Lk t n) n p) = 5
  · rw [if_pos h, if_pos h, ob2_s, if_neg (by decide), M_wordAt hn (by omega), ob1_s, on_eq, nI_add, tkE_word (wd_letter (by omega))]
  · rw [if_neg h, if_neg h, ob2_s, if_pos rfl]
theorem M_sees_6 {t : Nat → Int32} {n p : Nat} (hn : n ≤ 2000) (hp : p ≤ n) : f_X6_sees (7237492 : Int64) t (nI n) (nI p) (-1) = if wd (Lk t n) n (sk (Lk t n) n p) = 6 then some (1, nI (sk (Lk t n) n p)) else some (0, nI (sk (Lk t n) n p)) := by
  have := sk_le t n p hp
  unfold f_X6_sees
  rw [M_blanks hn (by omega), ob1_s, if_pos rfl, M_wordOf hn this, ob1_s]
  simp only [lg_eq0, wq_6]
theorem M_takes_6 {t : Nat → Int32} {n p : Nat} (hn : n ≤ 2000) (hp : p ≤ n) : f_X6_takesWord (7237492 : Int64) t (nI n) (nI p) (-1) = if wd (Lk t n) n (sk (Lk t n) n p) = 6 then some (1, nI (tkE (Lk t n) n (sk (Lk t n) n p))) else some (0, nI (sk (Lk t n) n p)) := by
  have := sk_le t n p hp
  unfold f_X6_takesWord
  rw [M_sees_6 hn hp]
  by_cases h : wd (Lk t n) n (sk (Lk t n) n p) = 6
  · rw [if_pos h, if_pos h, ob2_s, if_neg (by decide), M_wordAt hn (by omega), ob1_s, on_eq, nI_add, tkE_word (wd_letter (by omega))]
  · rw [if_neg h, if_neg h, ob2_s, if_pos rfl]
theorem M_sees_7 {t : Nat → Int32} {n p : Nat} (hn : n ≤ 2000) (hp : p ≤ n) : f_X6_sees (26995 : Int64) t (nI n) (nI p) (-1) = if wd (Lk t n) n (sk (Lk t n) n p) = 7 then some (1, nI (sk (Lk t n) n p)) else some (0, nI (sk (Lk t n) n p)) := by
  have := sk_le t n p hp
  unfold f_X6_sees
  rw [M_blanks hn (by omega), ob1_s, if_pos rfl, M_wordOf hn this, ob1_s]
  simp only [lg_eq0, wq_7]
theorem M_takes_7 {t : Nat → Int32} {n p : Nat} (hn : n ≤ 2000) (hp : p ≤ n) : f_X6_takesWord (26995 : Int64) t (nI n) (nI p) (-1) = if wd (Lk t n) n (sk (Lk t n) n p) = 7 then some (1, nI (tkE (Lk t n) n (sk (Lk t n) n p))) else some (0, nI (sk (Lk t n) n p)) := by
  have := sk_le t n p hp
  unfold f_X6_takesWord
  rw [M_sees_7 hn hp]
  by_cases h : wd (Lk t n) n (sk (Lk t n) n p) = 7
  · rw [if_pos h, if_pos h, ob2_s, if_neg (by decide), M_wordAt hn (by omega), ob1_s, on_eq, nI_add, tkE_word (wd_letter (by omega))]
  · rw [if_neg h, if_neg h, ob2_s, if_pos rfl]
theorem M_sees_8 {t : Nat → Int32} {n p : Nat} (hn : n ≤ 2000) (hp : p ≤ n) : f_X6_sees (1853189228 : Int64) t (nI n) (nI p) (-1) = if wd (Lk t n) n (sk (Lk t n) n p) = 8 then some (1, nI (sk (Lk t n) n p)) else some (0, nI (sk (Lk t n) n p)) := by
  have := sk_le t n p hp
  unfold f_X6_sees
  rw [M_blanks hn (by omega), ob1_s, if_pos rfl, M_wordOf hn this, ob1_s]
  simp only [lg_eq0, wq_8]
theorem M_takes_8 {t : Nat → Int32} {n p : Nat} (hn : n ≤ 2000) (hp : p ≤ n) : f_X6_takesWord (1853189228 : Int64) t (nI n) (nI p) (-1) = if wd (Lk t n) n (sk (Lk t n) n p) = 8 then some (1, nI (tkE (Lk t n) n (sk (Lk t n) n p))) else some (0, nI (sk (Lk t n) n p)) := by
  have := sk_le t n p hp
  unfold f_X6_takesWord
  rw [M_sees_8 hn hp]
  by_cases h : wd (Lk t n) n (sk (Lk t n) n p) = 8
  · rw [if_pos h, if_pos h, ob2_s, if_neg (by decide), M_wordAt hn (by omega), ob1_s, on_eq, nI_add, tkE_word (wd_letter (by omega))]
  · rw [if_neg h, if_neg h, ob2_s, if_pos rfl]
theorem M_sees_9 {t : Nat → Int32} {n p : Nat} (hn : n ≤ 2000) (hp : p ≤ n) : f_X6_sees (26990 : Int64) t (nI n) (nI p) (-1) = if wd (Lk t n) n (sk (Lk t n) n p) = 9 then some (1, nI (sk (Lk t n) n p)) else some (0, nI (sk (Lk t n) n p)) := by
  have := sk_le t n p hp
  unfold f_X6_sees
  rw [M_blanks hn (by omega), ob1_s, if_pos rfl, M_wordOf hn this, ob1_s]
  simp only [lg_eq0, wq_9]
theorem M_takes_9 {t : Nat → Int32} {n p : Nat} (hn : n ≤ 2000) (hp : p ≤ n) : f_X6_takesWord (26990 : Int64) t (nI n) (nI p) (-1) = if wd (Lk t n) n (sk (Lk t n) n p) = 9 then some (1, nI (tkE (Lk t n) n (sk (Lk t n) n p))) else some (0, nI (sk (Lk t n) n p)) := by
  have := sk_le t n p hp
  unfold f_X6_takesWord
  rw [M_sees_9 hn hp]
  by_cases h : wd (Lk t n) n (sk (Lk t n) n p) = 9
  · rw [if_pos h, if_pos h, ob2_s, if_neg (by decide), M_wordAt hn (by omega), ob1_s, on_eq, nI_add, tkE_word (wd_letter (by omega))]
  · rw [if_neg h, if_neg h, ob2_s, if_pos rfl]
theorem M_sees_10 {t : Nat → Int32} {n p : Nat} (hn : n ≤ 2000) (hp : p ≤ n) : f_X6_sees (1953658213 : Int64) t (nI n) (nI p) (-1) = if wd (Lk t n) n (sk (Lk t n) n p) = 10 then some (1, nI (sk (Lk t n) n p)) else some (0, nI (sk (Lk t n) n p)) := by
  have := sk_le t n p hp
  unfold f_X6_sees
  rw [M_blanks hn (by omega), ob1_s, if_pos rfl, M_wordOf hn this, ob1_s]
  simp only [lg_eq0, wq_10]
theorem M_takes_10 {t : Nat → Int32} {n p : Nat} (hn : n ≤ 2000) (hp : p ≤ n) : f_X6_takesWord (1953658213 : Int64) t (nI n) (nI p) (-1) = if wd (Lk t n) n (sk (Lk t n) n p) = 10 then some (1, nI (tkE (Lk t n) n (sk (Lk t n) n p))) else some (0, nI (sk (Lk t n) n p)) := by
  have := sk_le t n p hp
  unfold f_X6_takesWord
  rw [M_sees_10 hn hp]
  by_cases h : wd (Lk t n) n (sk (Lk t n) n p) = 10
  · rw [if_pos h, if_pos h, ob2_s, if_neg (by decide), M_wordAt hn (by omega), ob1_s, on_eq, nI_add, tkE_word (wd_letter (by omega))]
  · rw [if_neg h, if_neg h, ob2_s, if_pos rfl]
theorem M_sees_11 {t : Nat → Int32} {n p : Nat} (hn : n ≤ 2000) (hp : p ≤ n) : f_X6_sees (439721161573 : Int64) t (nI n) (nI p) (-1) = if wd (Lk t n) n (sk (Lk t n) n p) = 11 then some (1, nI (sk (Lk t n) n p)) else some (0, nI (sk (Lk t n) n p)) := by
  have := sk_le t n p hp
  unfold f_X6_sees
  rw [M_blanks hn (by omega), ob1_s, if_pos rfl, M_wordOf hn this, ob1_s]
  simp only [lg_eq0, wq_11]
theorem M_takes_11 {t : Nat → Int32} {n p : Nat} (hn : n ≤ 2000) (hp : p ≤ n) : f_X6_takesWord (439721161573 : Int64) t (nI n) (nI p) (-1) = if wd (Lk t n) n (sk (Lk t n) n p) = 11 then some (1, nI (tkE (Lk t n) n (sk (Lk t n) n p))) else some (0, nI (sk (Lk t n) n p)) := by
  have := sk_le t n p hp
  unfold f_X6_takesWord
  rw [M_sees_11 hn hp]
  by_cases h : wd (Lk t n) n (sk (Lk t n) n p) = 11
  · rw [if_pos h, if_pos h, ob2_s, if_neg (by decide), M_wordAt hn (by omega), ob1_s, on_eq, nI_add, tkE_word (wd_letter (by omega))]
  · rw [if_neg h, if_neg h, ob2_s, if_pos rfl]
theorem M_sees_12 {t : Nat → Int32} {n p : Nat} (hn : n ≤ 2000) (hp : p ≤ n) : f_X6_sees (427071729268 : Int64) t (nI n) (nI p) (-1) = if wd (Lk t n) n (sk (Lk t n) n p) = 12 then some (1, nI (sk (Lk t n) n p)) else some (0, nI (sk (Lk t n) n p)) := by
  have := sk_le t n p hp
  unfold f_X6_sees
  rw [M_blanks hn (by omega), ob1_s, if_pos rfl, M_wordOf hn this, ob1_s]
  simp only [lg_eq0, wq_12]
theorem M_takes_12 {t : Nat → Int32} {n p : Nat} (hn : n ≤ 2000) (hp : p ≤ n) : f_X6_takesWord (427071729268 : Int64) t (nI n) (nI p) (-1) = if wd (Lk t n) n (sk (Lk t n) n p) = 12 then some (1, nI (tkE (Lk t n) n (sk (Lk t n) n p))) else some (0, nI (sk (Lk t n) n p)) := by
  have := sk_le t n p hp
  unfold f_X6_takesWord
  rw [M_sees_12 hn hp]
  by_cases h : wd (Lk t n) n (sk (Lk t n) n p) = 12
  · rw [if_pos h, if_pos h, ob2_s, if_neg (by decide), M_wordAt hn (by omega), ob1_s, on_eq, nI_add, tkE_word (wd_letter (by omega))]
  · rw [if_neg h, if_neg h, ob2_s, if_pos rfl]
theorem M_sees_13 {t : Nat → Int32} {n p : Nat} (hn : n ≤ 2000) (hp : p ≤ n) : f_X6_sees (7566701 : Int64) t (nI n) (nI p) (-1) = if wd (Lk t n) n (sk (Lk t n) n p) = 13 then some (1, nI (sk (Lk t n) n p)) else some (0, nI (sk (Lk t n) n p)) := by
  have := sk_le t n p hp
  unfold f_X6_sees
  rw [M_blanks hn (by omega), ob1_s, if_pos rfl, M_wordOf hn this, ob1_s]
  simp only [lg_eq0, wq_13]
theorem M_takes_13 {t : Nat → Int32} {n p : Nat} (hn : n ≤ 2000) (hp : p ≤ n) : f_X6_takesWord (7566701 : Int64) t (nI n) (nI p) (-1) = if wd (Lk t n) n (sk (Lk t n) n p) = 13 then some (1, nI (tkE (Lk t n) n (sk (Lk t n) n p))) else some (0, nI (sk (Lk t n) n p)) := by
  have := sk_le t n p hp
  unfold f_X6_takesWord
  rw [M_sees_13 hn hp]
  by_cases h : wd (Lk t n) n (sk (Lk t n) n p) = 13
  · rw [if_pos h, if_pos h, ob2_s, if_neg (by decide), M_wordAt hn (by omega), ob1_s, on_eq, nI_add, tkE_word (wd_letter (by omega))]
  · rw [if_neg h, if_neg h, ob2_s, if_pos rfl]
theorem M_sees_14 {t : Nat → Int32} {n p : Nat} (hn : n ≤ 2000) (hp : p ≤ n) : f_X6_sees (7170414 : Int64) t (nI n) (nI p) (-1) = if wd (Lk t n) n (sk (Lk t n) n p) = 14 then some (1, nI (sk (Lk t n) n p)) else some (0, nI (sk (Lk t n) n p)) := by
  have := sk_le t n p hp
  unfold f_X6_sees
  rw [M_blanks hn (by omega), ob1_s, if_pos rfl, M_wordOf hn this, ob1_s]
  simp only [lg_eq0, wq_14]
theorem M_takes_14 {t : Nat → Int32} {n p : Nat} (hn : n ≤ 2000) (hp : p ≤ n) : f_X6_takesWord (7170414 : Int64) t (nI n) (nI p) (-1) = if wd (Lk t n) n (sk (Lk t n) n p) = 14 then some (1, nI (tkE (Lk t n) n (sk (Lk t n) n p))) else some (0, nI (sk (Lk t n) n p)) := by
  have := sk_le t n p hp
  unfold f_X6_takesWord
  rw [M_sees_14 hn hp]
  by_cases h : wd (Lk t n) n (sk (Lk t n) n p) = 14
  · rw [if_pos h, if_pos h, ob2_s, if_neg (by decide), M_wordAt hn (by omega), ob1_s, on_eq, nI_add, tkE_word (wd_letter (by omega))]
  · rw [if_neg h, if_neg h, ob2_s, if_pos rfl]
theorem M_sees_15 {t : Nat → Int32} {n p : Nat} (hn : n ≤ 2000) (hp : p ≤ n) : f_X6_sees (7168376 : Int64) t (nI n) (nI p) (-1) = if wd (Lk t n) n (sk (Lk t n) n p) = 15 then some (1, nI (sk (Lk t n) n p)) else some (0, nI (sk (Lk t n) n p)) := by
  have := sk_le t n p hp
  unfold f_X6_sees
  rw [M_blanks hn (by omega), ob1_s, if_pos rfl, M_wordOf hn this, ob1_s]
  simp only [lg_eq0, wq_15]
theorem M_takes_15 {t : Nat → Int32} {n p : Nat} (hn : n ≤ 2000) (hp : p ≤ n) : f_X6_takesWord (7168376 : Int64) t (nI n) (nI p) (-1) = if wd (Lk t n) n (sk (Lk t n) n p) = 15 then some (1, nI (tkE (Lk t n) n (sk (Lk t n) n p))) else some (0, nI (sk (Lk t n) n p)) := by
  have := sk_le t n p hp
  unfold f_X6_takesWord
  rw [M_sees_15 hn hp]
  by_cases h : wd (Lk t n) n (sk (Lk t n) n p) = 15
  · rw [if_pos h, if_pos h, ob2_s, if_neg (by decide), M_wordAt hn (by omega), ob1_s, on_eq, nI_add, tkE_word (wd_letter (by omega))]
  · rw [if_neg h, if_neg h, ob2_s, if_pos rfl]
/-! PATH: the field (or -1) and where it ends, or the place of what can't stand -/
def pathS (L : Nat → Int32) (n : Nat) (F : Int32 → Nat → Nat → Int32) : Nat → Nat → Int32 → Bool → Except Nat (Int32 × Nat)
  | 0, s, _, _ => .error s
  | k + 1, s, f, first => if isL (L s) = true ∧ wd L n s = 16 then
      (if L (s + wl L n s) = 46 then pathS L n F k (s + wl L n s + 1) (if first = true ∨ ¬ f = -1 then F f s (wl L n s) else -1) false else .ok (if first = true ∨ ¬ f = -1 then F f s (wl L n s) else -1, s + wl L n s))
    else .error s
theorem pathS_b {t : Nat → Int32} {n : Nat} {F : Int32 → Nat → Nat → Int32} (hB : BY t n) : ∀ (k s : Nat) (f : Int32) (first : Bool), s ≤ n → (∀ g e, pathS (Lk t n) n F k s f first = .ok (g, e) → s < e ∧ e ≤ n) ∧ (∀ x, pathS (Lk t n) n F k s f first = .error x → s ≤ x ∧ x ≤ n) := by
  intro k
  induction k with
  | zero =>
    intro s f first hs
    exact ⟨fun g e h => (by cases h), fun x h => (by cases h; exact ⟨Nat.le_refl _, hs⟩)⟩
  | succ k ih =>
    intro s f first hs
    rw [pathS]
    by_cases h1 : isL (Lk t n s) = true ∧ wd (Lk t n) n s = 16
    · rw [if_pos h1]
      have h2 := wl_le t n s hs
      have h3 := wl_pos t n s h1.1
      by_cases h4 : Lk t n (s + wl (Lk t n) n s) = 46
      · rw [if_pos h4]
        have h5 : s + wl (Lk t n) n s < n := by
          rcases Nat.lt_or_ge (s + wl (Lk t n) n s) n with q | q
          · exact q
          · rw [Lk_out q] at h4; exact absurd h4 (by decide)
        have h6 := ih (s + wl (Lk t n) n s + 1) (if first = true ∨ ¬ f = -1 then F f s (wl (Lk t n) n s) else -1) false (by omega)
        exact ⟨fun g e h => by have := h6.1 g e h; omega, fun x h => by have := h6.2 x h; omega⟩
      · rw [if_neg h4]
        exact ⟨fun g e h => (by cases h; omega), fun x h => (by cases h)⟩
    · rw [if_neg h1]
      exact ⟨fun g e h => (by cases h), fun x h => (by cases h; exact ⟨Nat.le_refl _, hs⟩)⟩
theorem M_path8 {t gr ln nm : Nat → Int32} {n z : Nat} (hB : BY t n) (hn : n ≤ 2000) (hz : LN ln z) : ∀ (k s k2 : Nat) (f : Int32) (first lost : Bool), s ≤ n → n + 1 ≤ s + k → k ≤ k2 → (lost = true ↔ ¬ (first = true ∨ ¬ f = -1)) → (∀ x, pathS (Lk t n) n (fd gr ln nm (Lk t n) z) k s f first = .error x → ∃ a, a ≤ n ∧ f_X6_path_8 k2 f (bI lost) t (nI n) (nI s) (-1) gr ln nm (nI z) = some (-1, nI a, nI x)) ∧ (∀ g e, pathS (Lk t n) n (fd gr ln nm (Lk t n) z) k s f first = .ok (g, e) → f_X6_path_8 k2 f (bI lost) t (nI n) (nI s) (-1) gr ln nm (nI z) = some (g, nI e, -1)) := by
  intro k
  induction k with
  | zero => intro s k2 f first lost hs hk; omega
  | succ k ih =>
    intro s k2 f first lost hs hk hk2 hlost
    obtain ⟨k2, rfl⟩ : ∃ j, k2 = j + 1 := ⟨k2 - 1, by omega⟩
    rw [f_X6_path_8, if_pos rfl, M_wordAt hn (by omega), ob1_s, pathS]
    by_cases hl : isL (Lk t n s) = true
    · have h2 := wl_le t n s hs
      have h3 := wl_pos t n s hl
      rw [if_neg (nI_ne0 h3 (by omega)), M_wordOf hn hs, ob1_s, M_isKept, ob1_s]
      by_cases hw : wd (Lk t n) n s = 16
      · rw [if_pos (⟨hl, hw⟩ : isL (Lk t n s) = true ∧ wd (Lk t n) n s = 16), hw, show bI (decide (16 < 16)) = 0 from rfl, if_pos rfl]
        have hfin : ∀ (g : Int32) (lo : Bool), (lo = true ↔ g = -1) → (∀ x, (if Lk t n (s + wl (Lk t n) n s) = 46 then pathS (Lk t n) n (fd gr ln nm (Lk t n) z) k (s + wl (Lk t n) n s + 1) g false else .ok (g, s + wl (Lk t n) n s)) = .error x → ∃ a, a ≤ n ∧ (on (nI s + nI (wl (Lk t n) n s)) (fun x12 => ob1 (f_X6_look t (nI n) x12) (fun x13 => if x13 = (46 : Int32) then (on (x12 + (1 : Int32)) (fun x14 => f_X6_path_8 k2 g (bI lo) t (nI n) x14 (-1) gr ln nm (nI z))) else some (g, x12, (-1 : Int32))))) = some ((-1 : Int32), nI a, nI x)) ∧ (∀ g' e, (if Lk t n (s + wl (Lk t n) n s) = 46 then pathS (Lk t n) n (fd gr ln nm (Lk t n) z) k (s + wl (Lk t n) n s + 1) g false else .ok (g, s + wl (Lk t n) n s)) = .ok (g', e) → (on (nI s + nI (wl (Lk t n) n s)) (fun x12 => ob1 (f_X6_look t (nI n) x12) (fun x13 => if x13 = (46 : Int32) then (on (x12 + (1 : Int32)) (fun x14 => f_X6_path_8 k2 g (bI lo) t (nI n) x14 (-1) gr ln nm (nI z))) else some (g, x12, (-1 : Int32))))) = some (g', nI e, (-1 : Int32))) := by
          intro g lo hlo
          rw [on_eq, nI_add, M_look hn (by omega), ob1_s]
          by_cases h4 : Lk t n (s + wl (Lk t n) n s) = 46
          · have h5 : s + wl (Lk t n) n s < n := by
              rcases Nat.lt_or_ge (s + wl (Lk t n) n s) n with q | q
              · exact q
              · rw [Lk_out q] at h4; exact absurd h4 (by decide)
            simp only [if_pos h4]
            rw [on_eq, nI_1]
            exact ih (s + wl (Lk t n) n s + 1) k2 g false lo (by omega) (by omega) (by omega) (by rw [hlo]; simp)
          · simp only [if_neg h4]
            exact ⟨fun x h => (by cases h), fun g' e h => (by cases h; rfl)⟩
        cases lost with
        | false =>
          have hff : first = true ∨ ¬ f = -1 := by
            rcases Classical.em (first = true ∨ ¬ f = -1) with q | q
            · exact q
            · exact absurd (hlost.mpr q) (by decide)
          rw [bI_f, if_pos rfl, M_find hn h2 hz, ob1_s, if_pos rfl]
          simp only [if_pos hff]
          by_cases hg : fd gr ln nm (Lk t n) z f s (wl (Lk t n) n s) = -1
          · rw [if_pos hg]
            exact hfin _ true (by simp [hg])
          · rw [if_neg hg]
            exact hfin _ false (by simp [hg])
        | true =>
          have hff := hlost.mp rfl
          rw [bI_t, if_neg (show ¬ (1 : Int32) = 0 by decide), if_neg (show ¬ (1 : Int32) = 0 by decide)]
          simp only [if_neg hff]
          exact hfin (-1) true (by simp)
      · have hw2 : wd (Lk t n) n s < 16 := by have := wd_le t n s; omega
        rw [if_neg (fun z => hw z.2), decide_eq_true hw2, if_neg bI_n, M_fail, ob1_s]
        exact ⟨fun x h => (by cases h; exact ⟨s, hs, rfl⟩), fun g e h => (by cases h)⟩
    · have h0 : wl (Lk t n) n s = 0 := by unfold wl; rw [if_neg hl]
      rw [h0, show nI 0 = (0 : Int32) from rfl, if_pos rfl, M_fail, ob1_s, if_neg (fun z => hl z.1)]
      exact ⟨fun x h => (by cases h; exact ⟨s, hs, rfl⟩), fun g e h => (by cases h)⟩
/-- a path from s: spec -/
def pthS (L : Nat → Int32) (n : Nat) (F : Int32 → Nat → Nat → Int32) (s : Nat) : Except Nat (Int32 × Nat) := pathS L n F (n + 1) s (-1) true
theorem M_path {t gr ln nm : Nat → Int32} {n z p : Nat} (hB : BY t n) (hn : n ≤ 2000) (hz : LN ln z) (hp : p ≤ n) : (∀ x, pthS (Lk t n) n (fd gr ln nm (Lk t n) z) (sk (Lk t n) n p) = .error x → ∃ a, a ≤ n ∧ f_X6_path t (nI n) (nI p) (-1) gr ln nm (nI z) = some (-1, nI a, nI x)) ∧ (∀ g e, pthS (Lk t n) n (fd gr ln nm (Lk t n) z) (sk (Lk t n) n p) = .ok (g, e) → f_X6_path t (nI n) (nI p) (-1) gr ln nm (nI z) = some (g, nI e, -1)) := by
  have := sk_le t n p hp
  unfold f_X6_path
  rw [M_blanks hn (by omega), ob1_s]
  exact M_path8 hB hn hz (n + 1) (sk (Lk t n) n p) FU (-1) true false this (by omega) (by show _ ≤ 4096; omega) (by simp)
theorem M_pathI {t gr ln nm : Nat → Int32} {n p : Nat} (hn : n ≤ 2000) (hp : p < 2 ^ 30) {ill z : Int32} (hi : ¬ ill = -1) : f_X6_path t (nI n) (nI p) ill gr ln nm z = some (-1, nI (sk (Lk t n) n p), ill) := by
  unfold f_X6_path
  rw [M_blanks hn hp, ob1_s]
  show f_X6_path_8 (4095 + 1) _ _ _ _ _ _ _ _ _ _ = _
  rw [f_X6_path_8, if_neg hi]
/-- the scanner behind a token that ends at e -/
def nx (L : Nat → Int32) (n e : Nat) : Nat := sk L n e
theorem C_refuse (x : Int32) : f_X0_refuse x (-1) = some (0, x) := by
  unfold f_X0_refuse
  rw [if_pos rfl]
theorem C_passDot {b : Nat → Int32} {n e : Nat} (hn : n ≤ 2000) (he : e < 2 ^ 30) : f_X2_passDot (nI e) b (nI n) = if Lk b n e = 46 then some (1, nI (e + 1)) else some (0, nI e) := by
  unfold f_X2_passDot
  rw [C_at hn (by omega), ob1_s]
  by_cases h : Lk b n e = 46
  · rw [if_pos h, if_pos h, on_eq, nI_1]
  · rw [if_neg h, if_neg h]
theorem C_letterBehind {b : Nat → Int32} {n e : Nat} (hn : n ≤ 2000) (he : e < 2 ^ 30) : f_X2_isLetterBehind (nI e) b (nI n) = some (bI (isL (Lk b n e))) := by
  unfold f_X2_isLetterBehind
  rw [C_at hn (by omega), ob1_s, C_isLetter, ob1_s, gz_b]
theorem tkT_16 {t : Nat → Int32} {n s : Nat} : tkT (Lk t n) n s = 16 ↔ isL (Lk t n s) = true ∧ wd (Lk t n) n s = 16 := by
  unfold tkT
  by_cases h1 : Lk t n s = -1
  · rw [if_pos h1]
    refine ⟨fun z => absurd z (by decide), fun z => ?_⟩
    rw [h1, isL_out] at z
    exact absurd z.1 (by decide)
  · rw [if_neg h1]
    by_cases h2 : isL (Lk t n s) = true
    · rw [if_pos h2]
      have := wd_le t n s
      rw [show (16 : Int32) = nI 16 from rfl, nI_eq (by omega) (by decide)]
      exact ⟨fun z => ⟨h2, z⟩, fun z => z.2⟩
    · rw [if_neg h2]
      refine ⟨fun z => ?_, fun z => absurd z.1 h2⟩
      exfalso
      unfold sgT at z
      revert z
      repeat' split
      all_goals decide
theorem sk_letter {t : Nat → Int32} {n s : Nat} (h : isL (Lk t n s) = true) : sk (Lk t n) n s = s := by
  apply sk_stop
  unfold isL at h
  unfold isB
  rw [decide_eq_true_eq] at h
  rw [decide_eq_false_iff_not]
  omega
theorem C_path127 {b : Nat → Int32} {n e : Nat} (hB : BY b n) (hn : n ≤ 2000) (he : e ≤ n) (x y g : Int32) (s : Nat) : f_X0_readPath_127 (nI s) g (-1) x y (nI e) b (nI n) = if g = -1 then some (-1, nI s, tkT (Lk b n) n (sk (Lk b n) n e), nI (sk (Lk b n) n e), nI (tkE (Lk b n) n (sk (Lk b n) n e))) else some (g, -1, tkT (Lk b n) n (sk (Lk b n) n e), nI (sk (Lk b n) n e), nI (tkE (Lk b n) n (sk (Lk b n) n e))) := by
  unfold f_X0_readPath_127
  rw [C_advance hB hn he, ob3_s]
  by_cases h : g = -1
  · rw [if_pos h, if_pos h, C_refuse, ob2_s, h]
  · rw [if_neg h, if_neg h]
theorem C_path12 {b gr ln nm : Nat → Int32} {n z s0 : Nat} (hB : BY b n) (hn : n ≤ 2000) (hz : LN ln z) : ∀ (k s k2 i : Nat) (f : Int32) (first : Bool), s ≤ n → n + 1 ≤ s + k → k ≤ k2 → i ≤ s → (first = true ↔ i = 0) → (∀ x, pathS (Lk b n) n (fd gr ln nm (Lk b n) z) k s f first = .error x → ∃ u v w, f_X0_readPath_12 k2 (nI s0) f (nI i) (-1) (tkT (Lk b n) n s) (nI s) (nI (tkE (Lk b n) n s)) nm ln gr (nI z) b (nI n) = some (-1, nI x, u, v, w)) ∧ (∀ g e, pathS (Lk b n) n (fd gr ln nm (Lk b n) z) k s f first = .ok (g, e) → f_X0_readPath_12 k2 (nI s0) f (nI i) (-1) (tkT (Lk b n) n s) (nI s) (nI (tkE (Lk b n) n s)) nm ln gr (nI z) b (nI n) = if g = -1 then some (-1, nI s0, tkT (Lk b n) n (sk (Lk b n) n e), nI (sk (Lk b n) n e), nI (tkE (Lk b n) n (sk (Lk b n) n e))) else some (g, -1, tkT (Lk b n) n (sk (Lk b n) n e), nI (sk (Lk b n) n e), nI (tkE (Lk b n) n (sk (Lk b n) n e)))) := by
  intro k
  induction k with
  | zero => intro s k2 i f first hs hk; omega
  | succ k ih =>
    intro s k2 i f first hs hk hk2 hi hfi
    obtain ⟨k2, rfl⟩ : ∃ j, k2 = j + 1 := ⟨k2 - 1, by omega⟩
    rw [f_X0_readPath_12, if_neg (show ¬ (2000 : Int32) < nI i from nI_nlt (b := 2000) (a := 2000) (by omega) (by decide) |> fun _ => fun q => by
      have := (nI_ltI (a := 2000) (b := i) (by decide) (by omega)).mp q
      omega), pathS]
    by_cases hl : isL (Lk b n s) = true ∧ wd (Lk b n) n s = 16
    · have h2 := wl_le b n s hs
      have h3 := wl_pos b n s hl.1
      rw [if_pos (tkT_16.mpr hl), tkE_word hl.1]
      simp only [if_pos hl]
      have hfin : ∀ (g : Int32) , (∀ x, (if Lk b n (s + wl (Lk b n) n s) = 46 then pathS (Lk b n) n (fd gr ln nm (Lk b n) z) k (s + wl (Lk b n) n s + 1) g false else .ok (g, s + wl (Lk b n) n s)) = .error x → ∃ u v w, (ob2 (f_X2_passDot (nI (s + wl (Lk b n) n s)) b (nI n)) (fun x2 x3 => if x2 = (0 : Int32) then (f_X0_readPath_127 (nI s0) g (-1) (tkT (Lk b n) n s) (nI s) x3 b (nI n)) else (ob1 (f_X2_isLetterBehind x3 b (nI n)) (fun x4 => if x4 = (0 : Int32) then (ob2 (f_X0_refuse x3 (-1)) (fun _ x10 => some ((-1 : Int32), x10, tkT (Lk b n) n s, nI s, x3))) else (ob3 (f_X2_advance (tkT (Lk b n) n s) (nI s) x3 b (nI n)) (fun x5 x6 x7 => on (nI i + (1 : Int32)) (fun x8 => f_X0_readPath_12 k2 (nI s0) g x8 (-1) x5 x6 x7 nm ln gr (nI z) b (nI n)))))))) = some (-1, nI x, u, v, w)) ∧ (∀ g' e, (if Lk b n (s + wl (Lk b n) n s) = 46 then pathS (Lk b n) n (fd gr ln nm (Lk b n) z) k (s + wl (Lk b n) n s + 1) g false else .ok (g, s + wl (Lk b n) n s)) = .ok (g', e) → (ob2 (f_X2_passDot (nI (s + wl (Lk b n) n s)) b (nI n)) (fun x2 x3 => if x2 = (0 : Int32) then (f_X0_readPath_127 (nI s0) g (-1) (tkT (Lk b n) n s) (nI s) x3 b (nI n)) else (ob1 (f_X2_isLetterBehind x3 b (nI n)) (fun x4 => if x4 = (0 : Int32) then (ob2 (f_X0_refuse x3 (-1)) (fun _ x10 => some ((-1 : Int32), x10, tkT (Lk b n) n s, nI s, x3))) else (ob3 (f_X2_advance (tkT (Lk b n) n s) (nI s) x3 b (nI n)) (fun x5 x6 x7 => on (nI i + (1 : Int32)) (fun x8 => f_X0_readPath_12 k2 (nI s0) g x8 (-1) x5 x6 x7 nm ln gr (nI z) b (nI n)))))))) = if g' = -1 then some (-1, nI s0, tkT (Lk b n) n (sk (Lk b n) n e), nI (sk (Lk b n) n e), nI (tkE (Lk b n) n (sk (Lk b n) n e))) else some (g', -1, tkT (Lk b n) n (sk (Lk b n) n e), nI (sk (Lk b n) n e), nI (tkE (Lk b n) n (sk (Lk b n) n e)))) := by
        intro g
        rw [C_passDot hn (by omega)]
        by_cases h4 : Lk b n (s + wl (Lk b n) n s) = 46
        · have h5 : s + wl (Lk b n) n s < n := by
            rcases Nat.lt_or_ge (s + wl (Lk b n) n s) n with q | q
            · exact q
            · rw [Lk_out q] at h4; exact absurd h4 (by decide)
          simp only [if_pos h4]
          rw [ob2_s, if_neg (show ¬ (1 : Int32) = 0 by decide), C_letterBehind hn (by omega), ob1_s]
          cases h6 : isL (Lk b n (s + wl (Lk b n) n s + 1)) with
          | true =>
            rw [if_neg bI_n, C_advance hB hn (by omega), ob3_s, on_eq, nI_1, sk_letter h6]
            exact ih (s + wl (Lk b n) n s + 1) k2 (i + 1) g false (by omega) (by omega) (by omega) (by omega) (by simp)
          | false =>
            rw [if_pos bI_f, C_refuse, ob2_s]
            obtain ⟨k, rfl⟩ : ∃ j, k = j + 1 := ⟨k - 1, by omega⟩
            rw [pathS, if_neg (show ¬ (isL (Lk b n (s + wl (Lk b n) n s + 1)) = true ∧ wd (Lk b n) n (s + wl (Lk b n) n s + 1) = 16) from fun z => by rw [h6] at z; exact absurd z.1 (by decide))]
            exact ⟨fun x h => (by cases h; exact ⟨_, _, _, rfl⟩), fun g' e h => (by cases h)⟩
        · simp only [if_neg h4]
          rw [ob2_s, if_pos rfl, C_path127 hB hn (by omega)]
          exact ⟨fun x h => (by cases h), fun g' e h => (by cases h; rfl)⟩
      by_cases hi0 : i = 0
      · have hff : first = true := hfi.mpr hi0
        subst hi0
        rw [show nI 0 = (0 : Int32) from rfl, if_pos rfl, C_find hn (by omega) hz, ob1_s]
        simp only [if_pos (Or.inl hff : first = true ∨ ¬ f = -1)]
        exact hfin _
      · rw [if_neg (nI_ne0 (by omega) (by omega))]
        have hff : ¬ first = true := fun q => hi0 (hfi.mp q)
        by_cases hf : f = -1
        · rw [if_pos hf]
          simp only [if_neg (fun q : first = true ∨ ¬ f = -1 => q.elim hff (fun w => w hf))]
          rw [hf]
          exact hfin (-1)
        · rw [if_neg hf, C_find hn (by omega) hz, ob1_s]
          simp only [if_pos (Or.inr hf : first = true ∨ ¬ f = -1)]
          exact hfin _
    · rw [if_neg (fun z => hl (tkT_16.mp z)), C_refuse, ob2_s]
      simp only [if_neg hl]
      exact ⟨fun x h => (by cases h; exact ⟨_, _, _, rfl⟩), fun g e h => (by cases h)⟩
