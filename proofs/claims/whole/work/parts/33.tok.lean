/-! pure rows: the words that are no names; tokens -/
/-- where each stands in the class's text, its length, its number in the reference -/
def RT : List (Nat × Nat × Nat) := [(0, 6, 126879447475060), (7, 5, 512852587109), (13, 5, 444301538672), (19, 2, 25209), (22, 3, 6385252), (26, 2, 28530), (29, 3, 7237492), (33, 2, 26995), (36, 4, 1853189228), (41, 2, 26990), (44, 4, 1953658213), (49, 5, 439721161573), (55, 5, 427071729268), (61, 3, 7566701), (65, 3, 7170414), (69, 3, 7168376)]
/-- the word of m bytes at s is the one at st of length len -/
def mt (L : Nat → Int32) (s m st len : Nat) : Bool := decide (m = len) && (List.range len).all (fun j => decide (L (s + j) = sF (st + j)))
theorem mt_iff {L : Nat → Int32} {s m st len : Nat} : mt L s m st len = true ↔ m = len ∧ ∀ j, j < len → L (s + j) = sF (st + j) := by
  unfold mt
  rw [Bool.and_eq_true, decide_eq_true_eq, List.all_eq_true]
  constructor
  · rintro ⟨h1, h2⟩
    exact ⟨h1, fun j hj => of_decide_eq_true (h2 j (List.mem_range.mpr hj))⟩
  · rintro ⟨h1, h2⟩
    exact ⟨h1, fun j hj => decide_eq_true (h2 j (List.mem_range.mp hj))⟩
/-- which of the words it is: 16 if none -/
def wdi (L : Nat → Int32) (s m : Nat) : List (Nat × Nat × Nat) → Nat → Nat
  | [], k => k
  | q :: r, k => if mt L s m q.1 q.2.1 = true then k else wdi L s m r (k + 1)
def vtab : Nat → List (Nat × Nat × Nat) → Bool
  | st, [] => decide (st = 73)
  | st, q :: r => decide (q.1 = st) && (List.range q.2.1).all (fun o => !decide (sF (st + o) = 32)) && decide (sF (st + q.2.1) = 32) && decide (st + q.2.1 < 73) && vtab (st + q.2.1 + 1) r
theorem vtab_RT : vtab 0 RT = true := by decide +kernel
/-- how far the word is alike, after o bytes of the one at st -/
def alk (L : Nat → Int32) (s m st o : Nat) : Int32 := if o ≤ m ∧ (List.range o).all (fun j => decide (L (s + j) = sF (st + j))) = true then nI o else -1
theorem alk_all {L : Nat → Int32} {s st o : Nat} : (List.range o).all (fun j => decide (L (s + j) = sF (st + j))) = true ↔ ∀ j, j < o → L (s + j) = sF (st + j) := by
  rw [List.all_eq_true]
  exact ⟨fun h j hj => of_decide_eq_true (h j (List.mem_range.mpr hj)), fun h j hj => decide_eq_true (h j (List.mem_range.mp hj))⟩
theorem C_wt_char {b : Nat → Int32} {n s m st len : Nat} (hn : n ≤ 2000) (hs : s + m ≤ n) (hl : st + len < 73) (hc : ∀ o, o < len → ¬ sF (st + o) = 32) (w : Int32) (f : Nat) : ∀ (d o : Nat), o + d = len → f_X2_wordToken_6 (f + d) w (alk (Lk b n) s m st o) (nI (st + o)) (nI s) (nI (s + m)) b (nI n) = f_X2_wordToken_6 f w (alk (Lk b n) s m st len) (nI (st + len)) (nI s) (nI (s + m)) b (nI n) := by
  intro d
  induction d with
  | zero => intro o ho; obtain rfl : o = len := by omega
            rfl
  | succ d ih =>
    intro o ho
    have ih' := ih (o + 1) (by omega)
    rw [show f + (d + 1) = (f + d) + 1 by omega]
    rw [f_X2_wordToken_6]
    rw [if_neg (show ¬ (73 : Int32) ≤ nI (st + o) from nI_ge (b := 73) (by omega) (by decide)), rd_in (by omega) (by decide), if_neg (hc o (by omega))]
    by_cases ha : o ≤ m ∧ (List.range o).all (fun j => decide (Lk b n (s + j) = sF (st + j))) = true
    · rw [alk, if_pos ha, if_neg (nI_ne o (by omega)), nI_add]
      by_cases hm : m ≤ o
      · rw [if_pos (nI_le (by omega) (by omega)), on_eq, nI_1]
        rw [alk, if_neg (by omega)] at ih'
        rw [← ih']
        rfl
      · rw [if_neg (nI_ge (by omega) (by omega)), C_at hn (by omega), ob1_s]
        by_cases hq : Lk b n (s + o) = sF (st + o)
        · rw [if_pos hq, on_eq, on_eq, nI_1, nI_1]
          have e : alk (Lk b n) s m st (o + 1) = nI (o + 1) := by
            rw [alk, if_pos]
            refine ⟨by omega, alk_all.mpr (fun j hj => ?_)⟩
            rcases Nat.lt_or_ge j o with q | q
            · exact alk_all.mp ha.2 j q
            · obtain rfl : j = o := by omega
              exact hq
          rw [e] at ih'
          rw [← ih']
          rfl
        · rw [if_neg hq, on_eq, nI_1]
          have e : alk (Lk b n) s m st (o + 1) = -1 := by
            rw [alk, if_neg]
            rintro ⟨-, z⟩
            exact hq (alk_all.mp z o (by omega))
          rw [e] at ih'
          rw [← ih']
          rfl
    · rw [alk, if_neg ha, if_pos rfl, on_eq, nI_1]
      have e : alk (Lk b n) s m st (o + 1) = -1 := by
        rw [alk, if_neg]
        rintro ⟨z1, z2⟩
        exact ha ⟨by omega, alk_all.mpr (fun j hj => alk_all.mp z2 j (by omega))⟩
      rw [e] at ih'
      rw [← ih']
      rfl
theorem C_wt_word {b : Nat → Int32} {n s m st len : Nat} (hn : n ≤ 2000) (hs : s + m ≤ n) (hm : 0 < m) (hl : st + len < 73) (hc : ∀ o, o < len → ¬ sF (st + o) = 32) (hb : sF (st + len) = 32) (w : Int32) (f : Nat) : f_X2_wordToken_6 (f + 1 + len) w 0 (nI st) (nI s) (nI (s + m)) b (nI n) = if mt (Lk b n) s m st len = true then some w else f_X2_wordToken_6 f (w + 1) 0 (nI (st + len + 1)) (nI s) (nI (s + m)) b (nI n) := by
  have h0 : alk (Lk b n) s m st 0 = 0 := by
    rw [alk, if_pos ⟨Nat.zero_le _, rfl⟩]; rfl
  have h1 := C_wt_char (b := b) hn hs hl hc w (f + 1) len 0 (by omega)
  rw [h0, show st + 0 = st from rfl] at h1
  rw [h1]
  rw [f_X2_wordToken_6]
  rw [if_neg (show ¬ (73 : Int32) ≤ nI (st + len) from nI_ge (b := 73) (by omega) (by decide)), rd_in (by omega) (by decide), if_pos hb, pk_sub (by omega), show s + m - s = m by omega]
  by_cases hq : mt (Lk b n) s m st len = true
  · obtain ⟨q1, q2⟩ := mt_iff.mp hq
    have e : alk (Lk b n) s m st len = nI m := by
      rw [alk, if_pos ⟨by omega, alk_all.mpr q2⟩, q1]
    rw [if_pos hq, e, if_pos rfl]
  · rw [if_neg hq, if_neg, on_eq, on_eq, nI_1]
    intro z
    unfold alk at z
    by_cases ha : len ≤ m ∧ (List.range len).all (fun j => decide (Lk b n (s + j) = sF (st + j))) = true
    · rw [if_pos ha, nI_eq (by omega) (by omega)] at z
      exact hq (mt_iff.mpr ⟨z.symm, alk_all.mp ha.2⟩)
    · rw [if_neg ha] at z
      exact nI_ne m (by omega) z.symm
theorem C_wt_tab {b : Nat → Int32} {n s m : Nat} (hn : n ≤ 2000) (hs : s + m ≤ n) (hm : 0 < m) : ∀ (r : List (Nat × Nat × Nat)) (st k f : Nat), vtab st r = true → 73 - st < f → k + r.length = 16 → f_X2_wordToken_6 f (nI k) 0 (nI st) (nI s) (nI (s + m)) b (nI n) = some (nI (wdi (Lk b n) s m r k)) := by
  intro r
  induction r with
  | nil =>
    intro st k f hv hf hk
    have e : st = 73 := of_decide_eq_true hv
    subst e
    obtain ⟨f, rfl⟩ : ∃ j, f = j + 1 := ⟨f - 1, by omega⟩
    have e2 : k = 16 := hk
    subst e2
    rw [f_X2_wordToken_6]
    rw [if_pos (show (73 : Int32) ≤ nI 73 from nI_le (a := 73) (Nat.le_refl _) (by decide))]
    rfl
  | cons q r ih =>
    intro st k f hv hf hk
    simp only [vtab, Bool.and_eq_true, decide_eq_true_eq] at hv
    obtain ⟨⟨⟨⟨v1, v2⟩, v3⟩, v4⟩, v5⟩ := hv
    have hc : ∀ o, o < q.2.1 → ¬ sF (st + o) = 32 := by
      intro o ho z
      have := List.all_eq_true.mp v2 o (List.mem_range.mpr ho)
      rw [z] at this
      exact absurd this (by decide)
    obtain ⟨f', rfl⟩ : ∃ j, f = j + 1 + q.2.1 := ⟨f - 1 - q.2.1, by omega⟩
    rw [C_wt_word hn hs hm v4 hc v3, wdi, v1]
    by_cases hq : mt (Lk b n) s m st q.2.1 = true
    · rw [if_pos hq, if_pos hq]
    · rw [if_neg hq, if_neg hq, nI_1]
      exact ih (st + q.2.1 + 1) (k + 1) f' v5 (by omega) (by simp only [List.length_cons] at hk; omega)
/-- the word's own number: 0 .. 15, or 16: a name -/
def wd (L : Nat → Int32) (n s : Nat) : Nat := wdi L s (wl L n s) RT 0
theorem C_wordToken {b : Nat → Int32} {n s m : Nat} (hn : n ≤ 2000) (hs : s + m ≤ n) (hm : 0 < m) : f_X2_wordToken (nI s) (nI (s + m)) b (nI n) = some (nI (wdi (Lk b n) s m RT 0)) := by
  unfold f_X2_wordToken
  exact C_wt_tab hn hs hm RT 0 0 FU vtab_RT (by show 73 - 0 < 4096; decide) rfl
/-! the reference's side of words -/
theorem isW_Y {c : Int32} (h : isW c = true) : isY c := by
  unfold isW isL isD at h
  simp only [Bool.or_eq_true, decide_eq_true_eq] at h
  unfold isY
  omega
theorem isL_W {c : Int32} (h : isL c = true) : isW c = true := by
  unfold isW
  rw [h]
  rfl
theorem wl_le (t : Nat → Int32) (n s : Nat) (hs : s ≤ n) : s + wl (Lk t n) n s ≤ n := by
  unfold wl
  by_cases h : isL (Lk t n s) = true
  · rw [if_pos h]
    have hp : s < n := by
      rcases Nat.lt_or_ge s n with q | q
      · exact q
      · rw [Lk_out q, isL_out] at h; cases h
    have h1 := we_le t n (s + 1) hp
    have h2 := we_ge t n (s + 1)
    omega
  · rw [if_neg h]; exact hs
theorem wl_W (t : Nat → Int32) (n s i : Nat) (hi : i < wl (Lk t n) n s) : isW (Lk t n (s + i)) = true := by
  unfold wl at hi
  by_cases h : isL (Lk t n s) = true
  · rw [if_pos h] at hi
    cases i with
    | zero => exact isL_W h
    | succ i => exact we_all t n (s + 1) (s + (i + 1)) (by omega) (by omega)
  · rw [if_neg h] at hi; omega
theorem wl_pos (t : Nat → Int32) (n s : Nat) (h : isL (Lk t n s) = true) : 0 < wl (Lk t n) n s := by
  unfold wl
  rw [if_pos h]
  have := we_ge t n (s + 1)
  omega
theorem pkw_congr {L L' : Nat → Int32} {s : Nat} : ∀ m, (∀ i, i < m → L (s + i) = L' (s + i)) → pkw L s m = pkw L' s m := by
  intro m
  induction m with
  | zero => intro _; rfl
  | succ m ih =>
    intro h
    rw [pkw, pkw, ih (fun i hi => h i (by omega)), h m (by omega)]
theorem M_wordOf11 {t : Nat → Int32} {n s m : Nat} (hn : n ≤ 2000) (hs : s + m ≤ n) : ∀ (d i k : Nat), i + d = m → d < k → f_X6_wordOf_11 k (nI s) (nI m) (pkw (Lk t n) s i) (nI i) t = some (pkw (Lk t n) s m) := by
  intro d
  induction d with
  | zero =>
    intro i k hi hk
    obtain ⟨k, rfl⟩ : ∃ j, k = j + 1 := ⟨k - 1, by omega⟩
    obtain rfl : i = m := by omega
    rw [f_X6_wordOf_11, if_pos (nI_le (Nat.le_refl _) (by omega))]
  | succ d ih =>
    intro i k hi hk
    obtain ⟨k, rfl⟩ : ∃ j, k = j + 1 := ⟨k - 1, by omega⟩
    rw [f_X6_wordOf_11, if_neg (nI_ge (by omega) (by omega)), nI_add, rd_in (by omega) (by decide), on_eq, on_eq, nI_1, ← ih (i + 1) k (by omega) (by omega)]
    congr 1
    rw [pkw, pk64, Lk_in (by omega)]
/-- the reference's number of a word -/
def wv (L : Nat → Int32) (n s : Nat) : Int64 := if 8 < wl L n s then 0 else pkw L s (wl L n s)
theorem M_wordOf {t : Nat → Int32} {n s : Nat} (hn : n ≤ 2000) (hs : s ≤ n) : f_X6_wordOf (nI s) t (nI n) = some (wv (Lk t n) n s) := by
  have h1 := wl_le t n s hs
  unfold f_X6_wordOf wv
  rw [M_wordAt hn (by omega), ob1_s]
  have h2 := M_wordOf11 (t := t) hn h1 (wl (Lk t n) n s) 0 FU (by omega) (by show _ < 4096; omega)
  have e0 : pkw (Lk t n) s 0 = 0 := rfl
  rw [e0] at h2
  have e1 : nI 0 = (0 : Int32) := rfl
  rw [e1] at h2
  rw [h2, ob1_s]
  by_cases h : 8 < wl (Lk t n) n s
  · rw [if_pos h, if_neg (show ¬ nI (wl (Lk t n) n s) ≤ (8 : Int32) from nI_ge (a := 8) h (by omega))]
  · rw [if_neg h, if_pos (show nI (wl (Lk t n) n s) ≤ (8 : Int32) from nI_le (b := 8) (by omega) (by decide))]
theorem RT_ok : ∀ q ∈ RT, q.2.1 ≤ 8 ∧ 0 < q.2.2 ∧ q.2.2 < 2 ^ 63 ∧ pkn sF q.1 q.2.1 = q.2.2 ∧ ∀ i, i < q.2.1 → 1 ≤ (sF (q.1 + i)).toInt ∧ (sF (q.1 + i)).toInt ≤ 255 := by decide +kernel
/-- the reference's number is that of a word of the table just if the word is that one -/
theorem wv_iff {t : Nat → Int32} {n s : Nat} {q : Nat × Nat × Nat} (hq : q ∈ RT) : wv (Lk t n) n s = lN q.2.2 ↔ mt (Lk t n) s (wl (Lk t n) n s) q.1 q.2.1 = true := by
  obtain ⟨h1, h2, h3, h4, h5⟩ := RT_ok q hq
  have hY : ∀ i, i < wl (Lk t n) n s → isY (Lk t n (s + i)) := fun i hi => isW_Y (wl_W t n s i hi)
  rw [mt_iff]
  unfold wv
  by_cases h : 8 < wl (Lk t n) n s
  · rw [if_pos h]
    constructor
    · intro z
      have := lN_inj (a := 0) (by decide) (by omega) z
      omega
    · rintro ⟨z, -⟩
      omega
  · rw [if_neg h, pkw_eq _ _ _ (by omega) hY]
    have hlt := pkn_lt (Lk t n) s _ hY
    have e8 : (256 : Nat) ^ (wl (Lk t n) n s) ≤ 256 ^ 8 := Nat.pow_le_pow_right (by decide) (by omega)
    have e10 : (256 : Nat) ^ 8 = 2 ^ 64 := by decide
    constructor
    · intro z
      have z2 := lN_inj (by omega) (by omega) z
      rw [← h4] at z2
      obtain ⟨g1, g2⟩ := pkn_inj _ _ _ _ _ _ hY (fun i hi => h5 i hi) z2
      exact ⟨g1, fun j hj => g2 j (by omega)⟩
    · rintro ⟨z1, z2⟩
      have : pkn (Lk t n) s (wl (Lk t n) n s) = pkn sF q.1 q.2.1 := by
        rw [z1]
        have key : ∀ m, m ≤ q.2.1 → pkn (Lk t n) s m = pkn sF q.1 m := by
          intro m
          induction m with
          | zero => intro _; rfl
          | succ m ih =>
            intro hm
            rw [pkn, pkn, ih (by omega), z2 m (by omega)]
        exact key _ (Nat.le_refl _)
      rw [this, h4]
theorem wdi_ge (L : Nat → Int32) (s m : Nat) : ∀ (r : List (Nat × Nat × Nat)) (k : Nat), k ≤ wdi L s m r k ∧ wdi L s m r k ≤ k + r.length := by
  intro r
  induction r with
  | nil => intro k; exact ⟨Nat.le_refl _, Nat.le_refl _⟩
  | cons q r ih =>
    intro k
    rw [wdi]
    by_cases h : mt L s m q.1 q.2.1 = true
    · rw [if_pos h]; exact ⟨Nat.le_refl _, by omega⟩
    · rw [if_neg h]
      have := ih (k + 1)
      simp only [List.length_cons]
      omega
theorem wdi_at (L : Nat → Int32) (s m : Nat) : ∀ (r : List (Nat × Nat × Nat)) (k j : Nat) (q : Nat × Nat × Nat), r[j]? = some q → (∀ (i : Nat) (p : Nat × Nat × Nat), r[i]? = some p → mt L s m p.1 p.2.1 = true → mt L s m q.1 q.2.1 = true → i = j) → (wdi L s m r k = k + j ↔ mt L s m q.1 q.2.1 = true) := by
  intro r
  induction r with
  | nil => intro k j q h; simp at h
  | cons p r ih =>
    intro k j q hj hu
    rw [wdi]
    cases j with
    | zero =>
      rw [List.getElem?_cons_zero] at hj
      cases hj
      by_cases h : mt L s m p.1 p.2.1 = true
      · rw [if_pos h]
        exact ⟨fun _ => h, fun _ => rfl⟩
      · rw [if_neg h]
        have := (wdi_ge L s m r (k + 1)).1
        exact ⟨fun z => by omega, fun z => absurd z h⟩
    | succ j =>
      rw [List.getElem?_cons_succ] at hj
      by_cases h : mt L s m p.1 p.2.1 = true
      · rw [if_pos h]
        refine ⟨fun z => by omega, fun z => ?_⟩
        have := hu 0 p rfl h z
        omega
      · rw [if_neg h]
        have := ih (k + 1) j q hj (fun i x hi h1 h2 => by have := hu (i + 1) x (by rw [List.getElem?_cons_succ]; exact hi) h1 h2; omega)
        rw [show k + (j + 1) = k + 1 + j by omega]
        exact this
theorem RT_apart : ∀ i, i < 16 → ∀ j, j < 16 → (RT.getD i (0, 0, 0)).2.2 = (RT.getD j (0, 0, 0)).2.2 → i = j := by decide +kernel
/-- a word is number j of the table just if the reference's number is that of the table -/
theorem wd_iff {t : Nat → Int32} {n s j : Nat} {q : Nat × Nat × Nat} (hq : RT[j]? = some q) : wd (Lk t n) n s = j ↔ wv (Lk t n) n s = lN q.2.2 := by
  have hm := List.mem_of_getElem? hq
  rw [wv_iff hm]
  unfold wd
  have := wdi_at (Lk t n) s (wl (Lk t n) n s) RT 0 j q hq (fun i p hi h1 h2 => ?_)
  · rw [Nat.zero_add] at this; exact this
  · have hp := List.mem_of_getElem? hi
    have e1 := (wv_iff (t := t) (n := n) (s := s) hp).mpr h1
    have e2 := (wv_iff (t := t) (n := n) (s := s) hm).mpr h2
    have e3 := lN_inj (by have := (RT_ok p hp).2.2.1; omega) (by have := (RT_ok q hm).2.2.1; omega) (e1.symm.trans e2)
    have l1 : i < 16 := (List.getElem?_eq_some_iff.mp hi).1
    have l2 : j < 16 := (List.getElem?_eq_some_iff.mp hq).1
    refine RT_apart i l1 j l2 ?_
    rw [List.getD_eq_getElem?_getD, List.getD_eq_getElem?_getD, hi, hq]
    exact e3
