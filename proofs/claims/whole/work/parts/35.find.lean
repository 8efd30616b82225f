/-! pure rows: the schema -/
/-- field f bears the name of m bytes at s -/
def nmE (nm L : Nat → Int32) (s m f : Nat) : Bool := (List.range m).all (fun j => decide (nm (16 * f + j) = L (s + j)))
theorem nmE_iff {nm L : Nat → Int32} {s m f : Nat} : nmE nm L s m f = true ↔ ∀ j, j < m → nm (16 * f + j) = L (s + j) := by
  unfold nmE
  rw [List.all_eq_true]
  exact ⟨fun h j hj => of_decide_eq_true (h j (List.mem_range.mpr hj)), fun h j hj => decide_eq_true (h j (List.mem_range.mp hj))⟩
def fmE (gr ln nm L : Nat → Int32) (g : Int32) (s m f : Nat) : Bool := decide (gr f = g) && decide (ln f = nI m) && nmE nm L s m f
/-- the lowest field from f on (d of them) of that group and name -/
def fdF (gr ln nm L : Nat → Int32) (g : Int32) (s m : Nat) : Nat → Nat → Int32
  | 0, _ => -1
  | d + 1, f => if fmE gr ln nm L g s m f = true then nI f else fdF gr ln nm L g s m d (f + 1)
def fd (gr ln nm L : Nat → Int32) (z : Nat) (g : Int32) (s m : Nat) : Int32 := fdF gr ln nm L g s m z 0
theorem fdF_congr {gr ln nm gr' ln' nm' L : Nat → Int32} {g : Int32} {s m z : Nat} (hm : ∀ f, f < z → gr f = gr' f ∧ ln f = ln' f ∧ (ln f = nI m → ∀ j, j < m → nm (16 * f + j) = nm' (16 * f + j))) : ∀ d f, f + d ≤ z → fdF gr ln nm L g s m d f = fdF gr' ln' nm' L g s m d f := by
  intro d
  induction d with
  | zero => intro f _; rfl
  | succ d ih =>
    intro f hf
    obtain ⟨h1, h2, h3⟩ := hm f (by omega)
    have e : fmE gr ln nm L g s m f = fmE gr' ln' nm' L g s m f := by
      unfold fmE
      rw [h1, h2]
      by_cases q : ln' f = nI m
      · have : nmE nm L s m f = nmE nm' L s m f := by
          rw [Bool.eq_iff_iff, nmE_iff, nmE_iff]
          rw [h2] at h3
          exact ⟨fun g j hj => by rw [← h3 q j hj]; exact g j hj, fun g j hj => by rw [h3 q j hj]; exact g j hj⟩
        rw [this]
      · rw [decide_eq_false q, Bool.and_false, Bool.false_and, Bool.false_and]
    rw [fdF, fdF, e, ih (f + 1) (by omega)]
theorem fdF_or (gr ln nm L : Nat → Int32) (g : Int32) (s m : Nat) : ∀ d f, fdF gr ln nm L g s m d f = -1 ∨ ∃ j, f ≤ j ∧ j < f + d ∧ fdF gr ln nm L g s m d f = nI j := by
  intro d
  induction d with
  | zero => intro f; exact Or.inl rfl
  | succ d ih =>
    intro f
    rw [fdF]
    by_cases h : fmE gr ln nm L g s m f = true
    · rw [if_pos h]; exact Or.inr ⟨f, by omega, by omega, rfl⟩
    · rw [if_neg h]
      rcases ih (f + 1) with q | ⟨j, h1, h2, h3⟩
      · exact Or.inl q
      · exact Or.inr ⟨j, by omega, by omega, h3⟩
theorem C_bears2 {b nm ln : Nat → Int32} {n s f m : Nat} (hn : n ≤ 2000) (hs : s + m < 2 ^ 30) (hf : f < 64) (hm : m ≤ 16) (hl : ln f = nI m) : ∀ (d i k : Nat), i + d = m → d < k → (∀ j, j < i → nm (16 * f + j) = Lk b n (s + j)) → f_X3_bearsName_2 k (nI f) (nI s) (nI i) nm ln b (nI n) = some (bI (nmE nm (Lk b n) s m f)) := by
  intro d
  induction d with
  | zero =>
    intro i k hi hk hj
    obtain ⟨k, rfl⟩ : ∃ j, k = j + 1 := ⟨k - 1, by omega⟩
    obtain rfl : i = m := by omega
    rw [f_X3_bearsName_2, rd_in hf (by decide), hl, if_pos (nI_le (Nat.le_refl _) (by omega)), nmE_iff.mpr hj]
    rfl
  | succ d ih =>
    intro i k hi hk hj
    obtain ⟨k, rfl⟩ : ∃ j, k = j + 1 := ⟨k - 1, by omega⟩
    rw [f_X3_bearsName_2, rd_in hf (by decide), hl, if_neg (nI_ge (by omega) (by omega))]
    have e : nI f * 16 + nI i = nI (16 * f + i) := by
      rw [show nI f * 16 = nI f * nI 16 from rfl, pk_mul, nI_add, Nat.mul_comm]
    rw [e, rd_in (by omega) (by decide), nI_add, C_at hn (by omega), ob1_s]
    by_cases q : nm (16 * f + i) = Lk b n (s + i)
    · rw [if_pos q, on_eq, nI_1]
      refine ih (i + 1) k (by omega) (by omega) (fun j hj' => ?_)
      rcases Nat.lt_or_ge j i with w | w
      · exact hj j w
      · obtain rfl : j = i := by omega
        exact q
    · rw [if_neg q]
      have : nmE nm (Lk b n) s m f = false := by
        rw [Bool.eq_false_iff]
        intro z
        exact q (nmE_iff.mp z i (by omega))
      rw [this]
      rfl
/-- lengths of names -/
def LN (ln : Nat → Int32) (z : Nat) : Prop := z ≤ 64 ∧ ∀ f, f < z → ∃ m, 1 ≤ m ∧ m ≤ 16 ∧ ln f = nI m
theorem C_find3 {b nm ln gr : Nat → Int32} {n s m z : Nat} (hn : n ≤ 2000) (hs : s + m < 2 ^ 30) (hz : LN ln z) (g : Int32) : ∀ (d f k : Nat), f + d = z → d < k → f_X3_find_3 k g (nI s) (nI (s + m)) (nI f) nm ln gr (nI z) b (nI n) = some (fdF gr ln nm (Lk b n) g s m d f) := by
  obtain ⟨hz64, hz⟩ := hz
  intro d
  induction d with
  | zero =>
    intro f k hf hk
    obtain ⟨k, rfl⟩ : ∃ j, k = j + 1 := ⟨k - 1, by omega⟩
    obtain rfl : f = z := by omega
    rw [f_X3_find_3, if_pos (nI_le (Nat.le_refl _) (by omega))]
    rfl
  | succ d ih =>
    intro f k hf hk
    obtain ⟨k, rfl⟩ : ∃ j, k = j + 1 := ⟨k - 1, by omega⟩
    have ih' := ih (f + 1) k (by omega) (by omega)
    rw [f_X3_find_3, if_neg (nI_ge (by omega) (by omega)), rd_in (by omega) (by decide)]
    rw [fdF]
    unfold fmE
    by_cases h1 : gr f = g
    · rw [if_pos h1, rd_in (by omega) (by decide), pk_sub (by omega), show s + m - s = m by omega]
      by_cases h2 : ln f = nI m
      · obtain ⟨m', hm1, hm2, hm3⟩ := hz f (by omega)
        have hm' : m ≤ 16 := by
          rw [hm3] at h2
          have := (nI_eq (by omega) (by omega)).mp h2
          omega
        rw [if_pos h2]
        unfold f_X3_bearsName
        have hbn := C_bears2 (b := b) (nm := nm) (n := n) (s := s) hn hs (show f < 64 by omega) hm' h2 m 0 FU (by omega) (by show m < 4096; omega) (fun j hj => by omega)
        rw [show nI 0 = (0 : Int32) from rfl] at hbn
        rw [hbn, ob1_s]
        cases hq : nmE nm (Lk b n) s m f with
        | true =>
          rw [if_neg bI_n, if_pos]
          rw [decide_eq_true h1, decide_eq_true h2]; rfl
        | false =>
          rw [if_pos bI_f, on_eq, nI_1, ih', if_neg]
          rw [Bool.and_false]; decide
      · rw [if_neg h2, on_eq, nI_1, ih', if_neg]
        rw [decide_eq_false h2, Bool.and_false, Bool.false_and]; decide
    · rw [if_neg h1, on_eq, nI_1, ih', if_neg]
      rw [decide_eq_false h1, Bool.false_and, Bool.false_and]; decide
theorem C_find {b nm ln gr : Nat → Int32} {n s m z : Nat} (hn : n ≤ 2000) (hs : s + m < 2 ^ 30) (hz : LN ln z) (g : Int32) : f_X3_find g (nI s) (nI (s + m)) nm ln gr (nI z) b (nI n) = some (fd gr ln nm (Lk b n) z g s m) := by
  unfold f_X3_find fd
  exact C_find3 hn hs hz g z 0 FU (by omega) (by show z < 4096; have := hz.1; omega)
theorem M_find48_0 (x y w v : Int32) (t lt : Nat → Int32) : f_X6_find_48 FU x y w 0 v t lt = some 0 := by
  show f_X6_find_48 (4095 + 1) x y w 0 v t lt = some 0
  rw [f_X6_find_48, if_pos rfl]
theorem M_find48 {t nm : Nat → Int32} {n s f m : Nat} (hn : n ≤ 2000) (hs : s + m ≤ n) (hf : f < 64) (hm : m ≤ 16) : ∀ (d i k : Nat), i + d = m → d + 1 < k → (∀ j, j < i → nm (16 * f + j) = Lk t n (s + j)) → f_X6_find_48 k (nI s) (nI m) (nI f) 1 (nI i) t nm = some (bI (nmE nm (Lk t n) s m f)) := by
  intro d
  induction d with
  | zero =>
    intro i k hi hk hj
    obtain ⟨k, rfl⟩ : ∃ j, k = j + 1 := ⟨k - 1, by omega⟩
    obtain rfl : i = m := by omega
    rw [f_X6_find_48, if_neg (by decide), if_pos (nI_le (Nat.le_refl _) (by omega)), nmE_iff.mpr hj]
    rfl
  | succ d ih =>
    intro i k hi hk hj
    obtain ⟨k, rfl⟩ : ∃ j, k = j + 1 := ⟨k - 1, by omega⟩
    rw [f_X6_find_48, if_neg (by decide), if_neg (nI_ge (by omega) (by omega))]
    have e : 16 * nI f + nI i = nI (16 * f + i) := by
      rw [show 16 * nI f = nI 16 * nI f from rfl, pk_mul, nI_add]
    rw [e, rd_in (by omega) (by decide), nI_add, rd_in (by omega) (by decide)]
    by_cases q : nm (16 * f + i) = t (s + i)
    · rw [if_pos q, on_eq, nI_1]
      refine ih (i + 1) k (by omega) (by omega) (fun j hj' => ?_)
      rcases Nat.lt_or_ge j i with w | w
      · exact hj j w
      · obtain rfl : j = i := by omega
        rw [Lk_in (by omega)]; exact q
    · rw [if_neg q, on_eq]
      have : nmE nm (Lk t n) s m f = false := by
        rw [Bool.eq_false_iff]
        intro z
        have := nmE_iff.mp z i (by omega)
        rw [Lk_in (by omega)] at this
        exact q this
      rw [this]
      obtain ⟨k, rfl⟩ : ∃ j, k = j + 1 := ⟨k - 1, by omega⟩
      rw [f_X6_find_48, if_pos rfl]
      rfl
theorem fdF_step (gr ln nm L : Nat → Int32) (g : Int32) (s m d f : Nat) : fdF gr ln nm L g s m (d + 1) f = if fmE gr ln nm L g s m f = true then nI f else fdF gr ln nm L g s m d (f + 1) := rfl
theorem M_find11 {t nm ln gr : Nat → Int32} {n s m z : Nat} (hn : n ≤ 2000) (hs : s + m ≤ n) (hz : LN ln z) (g : Int32) : ∀ (f d k : Nat), f + d = z → f < k → f_X6_find_11 k g (nI s) (nI m) (fdF gr ln nm (Lk t n) g s m d f) (nI f - 1) t gr ln nm = some (fdF gr ln nm (Lk t n) g s m z 0) := by
  obtain ⟨hz64, hz⟩ := hz
  intro f
  induction f with
  | zero =>
    intro d k hf hk
    obtain ⟨k, rfl⟩ : ∃ j, k = j + 1 := ⟨k - 1, by omega⟩
    obtain rfl : d = z := by omega
    rw [f_X6_find_11, if_pos (by decide)]
  | succ f ih =>
    intro d k hf hk
    obtain ⟨k, rfl⟩ : ∃ j, k = j + 1 := ⟨k - 1, by omega⟩
    have ih' := ih (d + 1) k (by omega) (by omega)
    rw [fdF_step] at ih'
    rw [nI_pred, f_X6_find_11, if_neg (nI_pos (by omega)), rd_in (by omega) (by decide)]
    have e1 : nI f + -1 = nI f - 1 := (Int32.sub_eq_add_neg (nI f) 1).symm
    unfold fmE at ih'
    by_cases h1 : gr f = g
    · rw [if_pos h1, rd_in (by omega) (by decide)]
      by_cases h2 : ln f = nI m
      · obtain ⟨m', hm1, hm2, hm3⟩ := hz f (by omega)
        have hm' : m ≤ 16 := by
          rw [hm3] at h2
          have := (nI_eq (by omega) (by omega)).mp h2
          omega
        rw [if_pos h2]
        have hbn := M_find48 (t := t) (nm := nm) (n := n) (s := s) hn hs (show f < 64 by omega) hm' m 0 FU (by omega) (by show m + 1 < 4096; omega) (fun j hj => by omega)
        rw [show nI 0 = (0 : Int32) from rfl] at hbn
        rw [hbn, ob1_s]
        cases hq : nmE nm (Lk t n) s m f with
        | true =>
          rw [hq, decide_eq_true h1, decide_eq_true h2, if_pos (by decide)] at ih'
          rw [if_neg bI_n, on_eq, e1]
          exact ih'
        | false =>
          rw [hq, Bool.and_false, if_neg (by decide)] at ih'
          rw [if_pos bI_f, on_eq, e1]
          exact ih'
      · rw [if_neg h2, M_find48_0, ob1_s, if_pos rfl, on_eq, e1]
        rw [decide_eq_false h2, Bool.and_false, Bool.false_and, if_neg (by decide)] at ih'
        exact ih'
    · rw [if_neg h1, M_find48_0, ob1_s, if_pos rfl, on_eq, e1]
      rw [decide_eq_false h1, Bool.false_and, Bool.false_and, if_neg (by decide)] at ih'
      exact ih'
theorem M_find {t nm ln gr : Nat → Int32} {n s m z : Nat} (hn : n ≤ 2000) (hs : s + m ≤ n) (hz : LN ln z) (g : Int32) : f_X6_find g (nI s) (nI m) t gr ln nm (nI z) = some (fd gr ln nm (Lk t n) z g s m) := by
  unfold f_X6_find fd
  rw [on_eq]
  have h := M_find11 (t := t) (nm := nm) (gr := gr) hn hs hz g z 0 FU (by omega) (by show z < 4096; have := hz.1; omega)
  have e : fdF gr ln nm (Lk t n) g s m 0 z = -1 := rfl
  rw [e] at h
  rw [h, ob1_s]
