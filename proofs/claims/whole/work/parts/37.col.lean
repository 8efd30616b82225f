/-! pure rows: columns; signs -/
theorem C_path {b gr ln nm : Nat → Int32} {n z s : Nat} (hB : BY b n) (hn : n ≤ 2000) (hz : LN ln z) (hs : s ≤ n) : (∀ x, pthS (Lk b n) n (fd gr ln nm (Lk b n) z) s = .error x → ∃ u v w, f_X0_readPath (-1) (tkT (Lk b n) n s) (nI s) (nI (tkE (Lk b n) n s)) nm ln gr (nI z) b (nI n) = some (-1, nI x, u, v, w)) ∧ (∀ g e, pthS (Lk b n) n (fd gr ln nm (Lk b n) z) s = .ok (g, e) → f_X0_readPath (-1) (tkT (Lk b n) n s) (nI s) (nI (tkE (Lk b n) n s)) nm ln gr (nI z) b (nI n) = if g = -1 then some (-1, nI s, tkT (Lk b n) n (sk (Lk b n) n e), nI (sk (Lk b n) n e), nI (tkE (Lk b n) n (sk (Lk b n) n e))) else some (g, -1, tkT (Lk b n) n (sk (Lk b n) n e), nI (sk (Lk b n) n e), nI (tkE (Lk b n) n (sk (Lk b n) n e)))) := by
  unfold f_X0_readPath
  exact C_path12 (s0 := s) hB hn hz (n + 1) s FU 0 (-1) true hs (by omega) (by show _ ≤ 4096; omega) (by omega) (by simp)
/-- FLAT: fuel, then the field -/
def flE (gr kd : Nat → Int32) : Nat → Nat → Bool
  | 0, _ => true
  | k + 1, f => decide ((kd f).toInt < 2) && (if gr f = -1 then true else flE gr kd k (gr f).toNatClampNeg)
/-- a group lies before its fields -/
def GRP (gr : Nat → Int32) (z : Nat) : Prop := ∀ f, f < z → gr f = -1 ∨ ∃ g, g < f ∧ gr f = nI g
theorem flE_eq {gr kd : Nat → Int32} {z : Nat} (hg : GRP gr z) (hz : z ≤ 64) : ∀ (f k k2 : Nat), f < z → f < k → f < k2 → flE gr kd k f = flE gr kd k2 f := by
  intro f
  induction f using Nat.strongRecOn with
  | ind f ih =>
    intro k k2 hf h1 h2
    obtain ⟨k, rfl⟩ : ∃ j, k = j + 1 := ⟨k - 1, by omega⟩
    obtain ⟨k2, rfl⟩ : ∃ j, k2 = j + 1 := ⟨k2 - 1, by omega⟩
    rw [flE, flE]
    rcases hg f hf with q | ⟨g, q1, q2⟩
    · rw [if_pos q, if_pos q]
    · rw [q2, if_neg (nI_ne g (by omega)), if_neg (nI_ne g (by omega)), nI_clamp (by omega), ih g q1 k k2 (by omega) (by omega) (by omega)]
def fl (gr kd : Nat → Int32) (f : Nat) : Bool := flE gr kd (f + 1) f
theorem fl_eq {gr kd : Nat → Int32} {z f : Nat} (hg : GRP gr z) (hz : z ≤ 64) (hf : f < z) : fl gr kd f = (decide ((kd f).toInt < 2) && (if gr f = -1 then true else fl gr kd (gr f).toNatClampNeg)) := by
  unfold fl
  rw [flE]
  rcases hg f hf with q | ⟨g, q1, q2⟩
  · rw [if_pos q, if_pos q]
  · rw [q2, if_neg (nI_ne g (by omega)), if_neg (nI_ne g (by omega)), nI_clamp (by omega), flE_eq hg hz g f (g + 1) (by omega) (by omega) (by omega)]
theorem M_isFlat4 {gr kd : Nat → Int32} {z : Nat} (hg : GRP gr z) (hz : z ≤ 64) : ∀ (f k : Nat) (b : Bool), f < z → f + 1 < k → f_X6_isFlat_4 k (bI b) (nI f) gr kd = some (bI (b && fl gr kd f)) := by
  intro f
  induction f using Nat.strongRecOn with
  | ind f ih =>
    intro k b hf hk
    obtain ⟨k, rfl⟩ : ∃ j, k = j + 1 := ⟨k - 1, by omega⟩
    rw [f_X6_isFlat_4, if_neg (nI_ne f (by omega))]
    have key : ∀ b2 : Bool, f_X6_isFlat_4 k (bI b2) (gr f) gr kd = some (bI (b2 && (if gr f = -1 then true else fl gr kd (gr f).toNatClampNeg))) := by
      intro b2
      rcases hg f hf with q | ⟨g, q1, q2⟩
      · obtain ⟨k, rfl⟩ : ∃ j, k = j + 1 := ⟨k - 1, by omega⟩
        rw [q, f_X6_isFlat_4, if_pos rfl, if_pos rfl, Bool.and_true]
      · rw [q2, if_neg (nI_ne g (by omega)), nI_clamp (by omega)]
        exact ih g q1 k b2 (by omega) (by omega)
    rw [fl_eq hg hz hf]
    cases b with
    | false =>
      rw [if_pos bI_f, rd_in (by omega) (by decide), Bool.false_and]
      have := key false
      rw [Bool.false_and] at this
      exact this
    | true =>
      rw [if_neg bI_n, rd_in (by omega) (by decide), Bool.true_and]
      by_cases h : (kd f).toInt < 2
      · rw [if_neg (fun q => by have := Int32.le_iff_toInt_le.mp q; simp only [Int32.reduceToInt] at this; omega), rd_in (by omega) (by decide), decide_eq_true h, Bool.true_and]
        have := key true
        rw [Bool.true_and] at this
        exact this
      · rw [if_pos (Int32.le_iff_toInt_le.mpr (by simp only [Int32.reduceToInt]; omega)), rd_in (by omega) (by decide), decide_eq_false h, Bool.false_and]
        have := key false
        rw [Bool.false_and] at this
        exact this
theorem M_isFlat {gr kd : Nat → Int32} {z f : Nat} (hg : GRP gr z) (hz : z ≤ 64) (hf : f < z) : f_X6_isFlat (nI f) gr kd = some (bI (fl gr kd f)) := by
  unfold f_X6_isFlat
  have := M_isFlat4 (kd := kd) hg hz f FU true hf (by show f + 1 < 4096; omega)
  rw [bI_t] at this
  rw [this, ob1_s, gz_b, Bool.true_and]
/-- a field that may be asked: FLAT and no group -/
def vl (ty gr kd : Nat → Int32) (f : Nat) : Bool := (!decide (ty f = 4)) && fl gr kd f
/-- a column from s -/
def colS (L : Nat → Int32) (n : Nat) (F : Int32 → Nat → Nat → Int32) (V : Nat → Bool) (s : Nat) : Except Nat (Nat × Nat) := match pthS L n F s with
  | .error x => .error x
  | .ok (g, e) => if g = -1 then .error s else if V g.toNatClampNeg = true then .ok (g.toNatClampNeg, e) else .error s
theorem fd_or (gr ln nm L : Nat → Int32) (z : Nat) (g : Int32) (s m : Nat) : fd gr ln nm L z g s m = -1 ∨ ∃ j, j < z ∧ fd gr ln nm L z g s m = nI j := by
  rcases fdF_or gr ln nm L g s m z 0 with q | ⟨j, h1, h2, h3⟩
  · exact Or.inl q
  · exact Or.inr ⟨j, by omega, h3⟩
theorem pathS_or {t gr ln nm : Nat → Int32} {n z : Nat} : ∀ (k s : Nat) (f : Int32) (first : Bool) (g : Int32) (e : Nat), pathS (Lk t n) n (fd gr ln nm (Lk t n) z) k s f first = .ok (g, e) → g = -1 ∨ ∃ j, j < z ∧ g = nI j := by
  intro k
  induction k with
  | zero => intro s f first g e h; cases h
  | succ k ih =>
    intro s f first g e h
    rw [pathS] at h
    by_cases h1 : isL (Lk t n s) = true ∧ wd (Lk t n) n s = 16
    · rw [if_pos h1] at h
      by_cases h2 : Lk t n (s + wl (Lk t n) n s) = 46
      · rw [if_pos h2] at h
        exact ih _ _ _ _ _ h
      · rw [if_neg h2] at h
        cases h
        by_cases h3 : first = true ∨ ¬ f = -1
        · rw [if_pos h3]; exact fd_or gr ln nm (Lk t n) z f s _
        · rw [if_neg h3]; exact Or.inl rfl
    · rw [if_neg h1] at h
      cases h
theorem colS_ok {t gr ln nm : Nat → Int32} {n z s f e : Nat} {V : Nat → Bool} (hB : BY t n) (hz : z ≤ 64) (hs : s ≤ n) (h : colS (Lk t n) n (fd gr ln nm (Lk t n) z) V s = .ok (f, e)) : pthS (Lk t n) n (fd gr ln nm (Lk t n) z) s = .ok (nI f, e) ∧ f < z ∧ V f = true ∧ s < e ∧ e ≤ n := by
  unfold colS at h
  cases hp : pthS (Lk t n) n (fd gr ln nm (Lk t n) z) s with
  | error x => rw [hp] at h; cases h
  | ok q =>
    obtain ⟨g, e'⟩ := q
    rw [hp] at h
    have hb := (pathS_b hB (n + 1) s (-1) true hs).1 g e' hp
    have h : (if g = -1 then Except.error s else if V g.toNatClampNeg = true then Except.ok (g.toNatClampNeg, e') else Except.error s) = Except.ok (f, e) := h
    by_cases h1 : g = -1
    · rw [if_pos h1] at h; cases h
    · rw [if_neg h1] at h
      by_cases h2 : V g.toNatClampNeg = true
      · rw [if_pos h2] at h
        cases h
        rcases pathS_or _ _ _ _ _ _ hp with q | ⟨j, hj, rfl⟩
        · exact absurd q h1
        · rw [nI_clamp (by omega)] at h2 ⊢
          exact ⟨rfl, hj, h2, hb⟩
      · rw [if_neg h2] at h; cases h
theorem colS_err {t gr ln nm : Nat → Int32} {n z s x : Nat} {V : Nat → Bool} (hB : BY t n) (hs : s ≤ n) (h : colS (Lk t n) n (fd gr ln nm (Lk t n) z) V s = .error x) : x ≤ n := by
  unfold colS at h
  cases hp : pthS (Lk t n) n (fd gr ln nm (Lk t n) z) s with
  | error y =>
    rw [hp] at h
    cases h
    exact ((pathS_b hB (n + 1) s (-1) true hs).2 _ hp).2
  | ok q =>
    obtain ⟨g, e'⟩ := q
    rw [hp] at h
    have h : (if g = -1 then Except.error s else if V g.toNatClampNeg = true then Except.ok (g.toNatClampNeg, e') else Except.error s) = Except.error x := h
    by_cases h1 : g = -1
    · rw [if_pos h1] at h; cases h; exact hs
    · rw [if_neg h1] at h
      by_cases h2 : V g.toNatClampNeg = true
      · rw [if_pos h2] at h; cases h
      · rw [if_neg h2] at h; cases h; exact hs
theorem M_column {t gr ln nm kd ty : Nat → Int32} {n z p : Nat} {V : Nat → Bool} (hV : ∀ j, j < z → V j = vl ty gr kd j) (hB : BY t n) (hn : n ≤ 2000) (hz : LN ln z) (hg : GRP gr z) (hp : p ≤ n) : (∀ x, colS (Lk t n) n (fd gr ln nm (Lk t n) z) V (sk (Lk t n) n p) = .error x → ∃ a g, a ≤ n ∧ f_X6_column t (nI n) (nI p) (-1) gr kd ty ln nm (nI z) = some (g, nI a, nI x)) ∧ (∀ f e, colS (Lk t n) n (fd gr ln nm (Lk t n) z) V (sk (Lk t n) n p) = .ok (f, e) → f_X6_column t (nI n) (nI p) (-1) gr kd ty ln nm (nI z) = some (nI f, nI e, -1)) := by
  have h1 := sk_le t n p hp
  have hm := M_path (p := sk (Lk t n) n p) (gr := gr) (nm := nm) hB hn hz h1
  rw [sk_sk] at hm
  unfold f_X6_column colS
  rw [M_blanks hn (by omega), ob1_s]
  cases hq : pthS (Lk t n) n (fd gr ln nm (Lk t n) z) (sk (Lk t n) n p) with
  | error y =>
    have hb := ((pathS_b hB (n + 1) (sk (Lk t n) n p) (-1) true h1).2 _ hq).2
    obtain ⟨a, ha, e⟩ := hm.1 y hq
    rw [e, ob3_s, if_neg (nI_ne y (by omega))]
    exact ⟨fun x h => (by cases h; exact ⟨a, -1, ha, rfl⟩), fun f e h => (by cases h)⟩
  | ok q =>
    obtain ⟨g, e'⟩ := q
    have hb := (pathS_b hB (n + 1) (sk (Lk t n) n p) (-1) true h1).1 g e' hq
    rw [hm.2 g e' hq, ob3_s, if_pos rfl]
    show (∀ x, (if g = -1 then Except.error (sk (Lk t n) n p) else if V g.toNatClampNeg = true then Except.ok (g.toNatClampNeg, e') else Except.error (sk (Lk t n) n p)) = Except.error x → _) ∧ (∀ f e, (if g = -1 then Except.error (sk (Lk t n) n p) else if V g.toNatClampNeg = true then Except.ok (g.toNatClampNeg, e') else Except.error (sk (Lk t n) n p)) = Except.ok (f, e) → _)
    by_cases h2 : g = -1
    · simp only [if_pos h2]
      rw [M_fail, ob1_s]
      exact ⟨fun x h => (by cases h; exact ⟨e', g, hb.2, rfl⟩), fun f e h => (by cases h)⟩
    · simp only [if_neg h2]
      rcases pathS_or _ _ _ _ _ _ hq with w | ⟨j, hj, rfl⟩
      · exact absurd w h2
      have hz64 := hz.1
      rw [nI_clamp (by omega), rd_in (by omega) (by decide), M_fail, M_isFlat hg hz64 hj, hV j hj]
      unfold vl
      by_cases h3 : ty j = 4
      · simp only [if_pos h3, decide_eq_true h3, Bool.not_true, Bool.false_and, ob1_s]
        exact ⟨fun x h => (by cases h; exact ⟨e', nI j, hb.2, rfl⟩), fun f e h => (by cases h)⟩
      · simp only [if_neg h3, decide_eq_false h3, Bool.not_false, Bool.true_and, ob1_s]
        cases h4 : fl gr kd j with
        | false =>
          rw [if_pos bI_f]
          exact ⟨fun x h => (by cases h; exact ⟨e', nI j, hb.2, rfl⟩), fun f e h => (by cases h)⟩
        | true =>
          rw [if_neg bI_n]
          exact ⟨fun x h => (by cases h), fun f e h => (by cases h; rfl)⟩
theorem M_columnI {t gr ln nm kd ty : Nat → Int32} {n p : Nat} (hn : n ≤ 2000) (hp : p < 2 ^ 30) {ill z : Int32} (hi : ¬ ill = -1) : f_X6_column t (nI n) (nI p) ill gr kd ty ln nm z = some (-1, nI (sk (Lk t n) n p), ill) := by
  unfold f_X6_column
  have h1 : sk (Lk t n) n p < 2 ^ 30 := by
    rcases Nat.lt_or_ge p n with q | q
    · have := sk_le t n p (by omega); omega
    · rw [sk_gt t n p q]; exact hp
  rw [M_blanks hn hp, ob1_s, M_pathI hn h1 hi, ob3_s, if_neg hi, sk_sk]
