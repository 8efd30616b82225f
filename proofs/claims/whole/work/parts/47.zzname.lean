/-! pure rows: a field, both sides at once -/
theorem C_isName30 {b : Nat → Int32} {n : Nat} (hn : n ≤ 2000) : ∀ p, ∀ k, p ≤ n → n - p < k → f_X3_isName_30 k (nI p) b (nI n) = some (bI (decide (we (Lk b n) n p = n))) := by
  refine we_ind (t := b) (n := n) _ (fun p h k hp hk => ?_) (fun p hp h ih k hp' hk => ?_)
  · obtain ⟨k, rfl⟩ : ∃ j, k = j + 1 := ⟨k - 1, by omega⟩
    rw [f_X3_isName_30, we_stop h]
    by_cases q : n ≤ p
    · rw [if_pos (nI_le q (by omega)), decide_eq_true (by omega)]; rfl
    · rw [if_neg (nI_ge (by omega) (by omega)), C_at hn (by omega), ob1_s, C_isWordByte, h, ob1_s, if_pos bI_f, decide_eq_false (by omega)]; rfl
  · obtain ⟨k, rfl⟩ : ∃ j, k = j + 1 := ⟨k - 1, by omega⟩
    rw [f_X3_isName_30, we_step h, if_neg (nI_ge hp (by omega)), C_at hn (by omega), ob1_s, C_isWordByte, h, ob1_s, if_neg bI_n, on_eq, nI_1]
    exact ih k hp (by omega)
theorem C_isName {b : Nat → Int32} {n : Nat} (hn : n ≤ 2000) : f_X3_isName b (nI n) = some (bI (decide (0 < n ∧ n ≤ 16 ∧ wl (Lk b n) n 0 = n))) := by
  rw [f_X3_isName]
  by_cases g : n ≤ 16
  · have c0 : f_X4_at 0 b (nI n) = some (Lk b n 0) := C_at (p := 0) hn (by decide)
    rw [if_neg (show ¬ (16 : Int32) < nI n from nI_nlt (a := 16) g (by decide)), c0, ob1_s, C_isLetter, ob1_s]
    cases hl : isL (Lk b n 0) with
    | false =>
      rw [if_pos bI_f, decide_eq_false (fun z => ?_)]
      · rfl
      · have : wl (Lk b n) n 0 = 0 := if_neg (by rw [hl]; decide)
        omega
    | true =>
      have hp : 0 < n := by
        rcases Nat.lt_or_ge 0 n with q | q
        · exact q
        · rw [Lk_out q] at hl; exact absurd hl (by decide)
      have r : f_X3_isName_30 FU 1 b (nI n) = some (bI (decide (we (Lk b n) n 1 = n))) := C_isName30 hn 1 FU hp (by show n - 1 < 4096; omega)
      have w : wl (Lk b n) n 0 = we (Lk b n) n 1 := (if_pos hl).trans (Nat.sub_zero _)
      rw [if_neg bI_n, r, w]
      by_cases y : we (Lk b n) n 1 = n
      · rw [decide_eq_true y, decide_eq_true ⟨hp, g, y⟩]
      · rw [decide_eq_false y, decide_eq_false (fun z => y z.2.2)]
  · rw [if_pos (show (16 : Int32) < nI n from nI_lt (a := 16) (by omega) (by omega)), decide_eq_false (fun z => g z.2.1)]; rfl
theorem C_add74 {b : Nat → Int32} {n z : Nat} (hn : n ≤ 16) (hz : z < 64) : ∀ (d i k : Nat) (nm : Nat → Int32), i + d = n → d < k → ∃ nm2, f_X3_add_74 k (nI i) nm (nI z) b (nI n) = some nm2 ∧ (∀ j, (j < 16 * z + i ∨ 16 * z + n ≤ j) → nm2 j = nm j) ∧ ∀ l, i ≤ l → l < n → nm2 (16 * z + l) = Lk b n l := by
  intro d
  induction d with
  | zero =>
    intro i k nm hi hk
    obtain ⟨k, rfl⟩ : ∃ j, k = j + 1 := ⟨k - 1, by omega⟩
    rw [f_X3_add_74, if_pos (nI_le (by omega) (by omega))]
    exact ⟨nm, rfl, fun _ _ => rfl, fun l h1 h2 => by omega⟩
  | succ d ih =>
    intro i k nm hi hk
    obtain ⟨k, rfl⟩ : ∃ j, k = j + 1 := ⟨k - 1, by omega⟩
    have e16 : nI z * 16 + nI i = nI (16 * z + i) := by rw [show (16 : Int32) = nI 16 from rfl, nI_mul', nI_add, Nat.mul_comm]
    rw [f_X3_add_74, if_neg (nI_ge (by omega) (by omega)), if_neg (show ¬ (16 : Int32) ≤ nI i from nI_ge (b := 16) (by omega) (by decide)), C_at (by omega) (by omega), ob1_s, e16, wr_in (show 16 * z + i < 1024 by omega) (by decide), on_eq, nI_1]
    obtain ⟨nm2, r1, r2, r3⟩ := ih (i + 1) k (upd nm (16 * z + i) (Lk b n i)) (by omega) (by omega)
    refine ⟨nm2, r1, fun j hj => by rw [r2 j (by omega), pk_un (by omega)], fun l h1 h2 => ?_⟩
    rcases Nat.lt_or_ge i l with q | q
    · exact r3 l (by omega) h2
    · obtain rfl : l = i := by omega
      rw [r2 _ (by omega), pk_us]
theorem M_f169 {t : Nat → Int32} {n z : Nat} (hn : n ≤ 16) (hz : z < 64) : ∀ (d i k : Nat) (nm : Nat → Int32), i + d = n → d < k → ∃ nm2, f_X6_field_169 k (nI n) (nI i) t nm (nI z) = some nm2 ∧ (∀ j, (j < 16 * z + i ∨ 16 * z + n ≤ j) → nm2 j = nm j) ∧ ∀ l, i ≤ l → l < n → nm2 (16 * z + l) = t l := by
  intro d
  induction d with
  | zero =>
    intro i k nm hi hk
    obtain ⟨k, rfl⟩ : ∃ j, k = j + 1 := ⟨k - 1, by omega⟩
    rw [f_X6_field_169, if_pos (nI_le (by omega) (by omega))]
    exact ⟨nm, rfl, fun _ _ => rfl, fun l h1 h2 => by omega⟩
  | succ d ih =>
    intro i k nm hi hk
    obtain ⟨k, rfl⟩ : ∃ j, k = j + 1 := ⟨k - 1, by omega⟩
    rw [f_X6_field_169, if_neg (nI_ge (by omega) (by omega)), rd_in (show i < 2000 by omega) (by decide), M_16h, wr_in (show 16 * z + i < 1024 by omega) (by decide), on_eq, nI_1]
    obtain ⟨nm2, r1, r2, r3⟩ := ih (i + 1) k (upd nm (16 * z + i) (t i)) (by omega) (by omega)
    refine ⟨nm2, r1, fun j hj => by rw [r2 j (by omega), pk_un (by omega)], fun l h1 h2 => ?_⟩
    rcases Nat.lt_or_ge i l with q | q
    · exact r3 l (by omega) h2
    · obtain rfl : l = i := by omega
      rw [r2 _ (by omega), pk_us]
/-- the schema is alike on both sides -/
def SH (nm ln gr ty fla : Nat → Int32) (z_ : Int32) (gr' kd ty' ln' nm' : Nat → Int32) (f_ : Int32) : Prop := ∃ z, z_ = nI z ∧ f_ = nI z ∧ LN ln z ∧ GRP gr' z ∧ (∀ j, nm j = nm' j) ∧ ∀ j, j < z → gr j = gr' j ∧ ty j = ty' j ∧ ln j = ln' j ∧ fla j = bI (fl gr' kd j)
theorem SH_LN {ln ln' : Nat → Int32} {z : Nat} (h : LN ln z) (he : ∀ j, j < z → ln j = ln' j) : LN ln' z := ⟨h.1, fun f hf => by rw [← he f hf]; exact h.2 f hf⟩
theorem SH_fd {gr ln nm gr' ln' nm' L : Nat → Int32} {z : Nat} (hn : ∀ j, nm j = nm' j) (h : ∀ j, j < z → gr j = gr' j ∧ ln j = ln' j) : fd gr ln nm L z = fd gr' ln' nm' L z := by
  funext g s m
  unfold fd
  exact fdF_congr (z := z) (fun f hf => ⟨(h f hf).1, (h f hf).2, fun _ j _ => hn _⟩) z 0 (by omega)
theorem fl_congr {gr kd gr2 kd2 : Nat → Int32} {z : Nat} (hz : z ≤ 64) (hg : GRP gr z) (h1 : ∀ j, j < z → gr2 j = gr j ∧ kd2 j = kd j) : ∀ f, f < z → fl gr2 kd2 f = fl gr kd f := by
  have hg2 : GRP gr2 z := fun f hf => by rw [(h1 f hf).1]; exact hg f hf
  intro f
  induction f using Nat.strongRecOn with
  | _ f ih =>
  intro hf
  rw [fl_eq hg2 hz hf, fl_eq hg hz hf, (h1 f hf).1, (h1 f hf).2]
  rcases hg f hf with q | ⟨g, q1, q2⟩
  · rw [if_pos q, if_pos q]
  · rw [q2, if_neg (nI_ne g (by omega)), if_neg (nI_ne g (by omega)), nI_clamp (by omega), ih g q1 (by omega)]
section FLD
variable {b t nm ln gr ty fla gr' kd ty' ln' nm' : Nat → Int32} {n z : Nat} {p1 p2 p3 : Int32}
def GD (p1 p2 p3 : Int32) (ty : Nat → Int32) (n z : Nat) (w : Nat) : Prop := z < 64 ∧ (p1 = -1 ∨ ∃ g, g < z ∧ p1 = nI g ∧ ty g = 4) ∧ ¬ p2 < 0 ∧ ¬ 2 < p2 ∧ ¬ p3 < 0 ∧ p3 ≤ 4 ∧ 0 < n ∧ n ≤ 16 ∧ w = n
theorem C_addF (hn : n ≤ 2000) (hz : z ≤ 64) (hb : ¬ GD p1 p2 p3 ty n z (wl (Lk b n) n 0)) : f_X3_add p1 p2 p3 nm ln gr ty fla (nI z) b (nI n) = some (-1, nm, ln, gr, ty, fla, nI z) := by
  rw [f_X3_add]
  by_cases a1 : 64 ≤ z
  · rw [if_pos (show (64 : Int32) ≤ nI z from nI_le (a := 64) a1 (by omega))]
  rw [if_neg (show ¬ (64 : Int32) ≤ nI z from nI_ge (b := 64) (by omega) (by decide))]
  by_cases a2 : p2 < 0
  · rw [if_pos a2]
  rw [if_neg a2]
  by_cases a3 : 2 < p2
  · rw [if_pos a3]
  rw [if_neg a3]
  by_cases a4 : p3 < 0
  · rw [if_pos a4]
  rw [if_neg a4]
  by_cases a5 : p3 ≤ 4
  case neg => rw [if_neg a5]
  rw [if_pos a5]
  have nope : (p1 = -1 ∨ ∃ g, g < z ∧ p1 = nI g ∧ ty g = 4) → f_X3_add_45 p1 p2 p3 nm ln gr ty fla (nI z) b (nI n) = some (-1, nm, ln, gr, ty, fla, nI z) := by
    intro hp
    rw [f_X3_add_45, C_isName hn, ob1_s, decide_eq_false (fun q => hb ⟨by omega, hp, a2, a3, a4, a5, q.1, q.2.1, q.2.2⟩), if_pos bI_f]
  by_cases a6 : p1 = -1
  · rw [if_pos a6, nope (Or.inl a6)]
  · rw [if_neg a6, f_X3_typeOf]
    by_cases a7 : p1 < 0
    · rw [if_pos a7, ob1_s, if_neg (by decide)]
    · rw [if_neg a7]
      obtain ⟨g, hg, rfl⟩ := nI_of a7
      by_cases a8 : z ≤ g
      · rw [if_pos (nI_le a8 hg), ob1_s, if_neg (by decide)]
      · rw [if_neg (nI_ge (by omega) (by omega)), rd_in (show g < 64 by omega) (by decide), ob1_s]
        by_cases a9 : ty g = 4
        · rw [if_pos a9, nope (Or.inr ⟨g, by omega, rfl, a9⟩)]
        · rw [if_neg a9]
theorem C_addG (hn : n ≤ 2000) (hg : GD p1 p2 p3 ty n z (wl (Lk b n) n 0)) : f_X3_add p1 p2 p3 nm ln gr ty fla (nI z) b (nI n) = ob1 (f_X3_find p1 0 (nI n) nm ln gr (nI z) b (nI n)) (fun x2 => if x2 = -1 then (ob1 (f_X3_add_74 FU 0 nm (nI z) b (nI n)) (fun x3 => f_X3_add_123 p1 p2 p3 x3 ln gr ty fla (nI z) (nI n))) else (some (-1, nm, ln, gr, ty, fla, nI z))) := by
  obtain ⟨a1, a6, a2, a3, a4, a5, a7, a8, a9⟩ := hg
  have e : f_X3_add_45 p1 p2 p3 nm ln gr ty fla (nI z) b (nI n) = ob1 (f_X3_find p1 0 (nI n) nm ln gr (nI z) b (nI n)) (fun x2 => if x2 = -1 then (ob1 (f_X3_add_74 FU 0 nm (nI z) b (nI n)) (fun x3 => f_X3_add_123 p1 p2 p3 x3 ln gr ty fla (nI z) (nI n))) else (some (-1, nm, ln, gr, ty, fla, nI z))) := by
    rw [f_X3_add_45, C_isName hn, ob1_s, decide_eq_true ⟨a7, a8, a9⟩, if_neg bI_n]
  rw [f_X3_add, if_neg (show ¬ (64 : Int32) ≤ nI z from nI_ge (b := 64) a1 (by decide)), if_neg a2, if_neg a3, if_neg a4, if_pos a5, e]
  rcases a6 with a6 | ⟨g, g1, g2, g3⟩
  · rw [if_pos a6]
  · have : ¬ p1 = -1 := by rw [g2]; exact nI_ne g (by omega)
    rw [if_neg this, g2, C_typeOf (by omega) g1, ob1_s, if_pos g3]
theorem M_field88 {l1 l2 l3 l4 : Int32} {f_ : Int32} : f_X6_field_88 l1 l2 l3 l4 0 t 0 (nI n) 0 (-1) gr' kd ty' ln' nm' f_ (-1) = some (-1, 0, t, 0, nI n, 0, -1, gr', kd, ty', ln', nm', f_, -1) := by
  rw [f_X6_field_88, f_X6_field_89, if_pos rfl]
/-- what the reference does behind its tape -/
def mF (t gr' kd ty' ln' nm' : Nat → Int32) (n z : Nat) (p1 p2 p3 : Int32) : Option (Int32 × Int32 × (Nat → Int32) × Int32 × Int32 × Int32 × Int32 × (Nat → Int32) × (Nat → Int32) × (Nat → Int32) × (Nat → Int32) × (Nat → Int32) × Int32 × Int32) :=
  if (64 : Int32) ≤ nI z then (f_X6_field_88 p1 p2 p3 (nI n) 0 t 0 (nI n) 0 (-1) gr' kd ty' ln' nm' (nI z) (-1))
  else (if p1 < -1 then (f_X6_field_88 p1 p2 p3 (nI n) 0 t 0 (nI n) 0 (-1) gr' kd ty' ln' nm' (nI z) (-1))
  else (if nI z ≤ p1 then (f_X6_field_88 p1 p2 p3 (nI n) 0 t 0 (nI n) 0 (-1) gr' kd ty' ln' nm' (nI z) (-1))
  else (if p2 < 0 then (f_X6_field_88 p1 p2 p3 (nI n) 0 t 0 (nI n) 0 (-1) gr' kd ty' ln' nm' (nI z) (-1))
  else (if 2 < p2 then (f_X6_field_88 p1 p2 p3 (nI n) 0 t 0 (nI n) 0 (-1) gr' kd ty' ln' nm' (nI z) (-1))
  else (if p3 < 0 then (f_X6_field_88 p1 p2 p3 (nI n) 0 t 0 (nI n) 0 (-1) gr' kd ty' ln' nm' (nI z) (-1))
  else (if 4 < p3 then (f_X6_field_88 p1 p2 p3 (nI n) 0 t 0 (nI n) 0 (-1) gr' kd ty' ln' nm' (nI z) (-1))
  else (if nI n ≤ 0 then (f_X6_field_88 p1 p2 p3 (nI n) 0 t 0 (nI n) 0 (-1) gr' kd ty' ln' nm' (nI z) (-1))
  else (if 16 < nI n then (f_X6_field_88 p1 p2 p3 (nI n) 0 t 0 (nI n) 0 (-1) gr' kd ty' ln' nm' (nI z) (-1))
  else (ob1 (f_X6_wordAt 0 t (nI n)) (fun x7 =>
  if x7 = nI n then (f_X6_field_89 p1 p2 p3 (nI n) 1 0 t 0 (nI n) 0 (-1) gr' kd ty' ln' nm' (nI z) (-1))
  else (f_X6_field_88 p1 p2 p3 (nI n) 0 t 0 (nI n) 0 (-1) gr' kd ty' ln' nm' (nI z) (-1))))))))))))
theorem M_fieldF (hn : n ≤ 2000) (hz : z ≤ 64) (hb : ¬ GD p1 p2 p3 ty' n z (wl (Lk t n) n 0)) : mF t gr' kd ty' ln' nm' n z p1 p2 p3 = some (-1, 0, t, 0, nI n, 0, -1, gr', kd, ty', ln', nm', nI z, -1) := by
  rw [mF, M_field88]
  by_cases a1 : 64 ≤ z
  · rw [if_pos (show (64 : Int32) ≤ nI z from nI_le (a := 64) a1 (by omega))]
  rw [if_neg (show ¬ (64 : Int32) ≤ nI z from nI_ge (b := 64) (by omega) (by decide))]
  by_cases b1 : p1 < -1
  · rw [if_pos b1]
  rw [if_neg b1]
  by_cases b2 : nI z ≤ p1
  · rw [if_pos b2]
  rw [if_neg b2]
  by_cases a2 : p2 < 0
  · rw [if_pos a2]
  rw [if_neg a2]
  by_cases a3 : 2 < p2
  · rw [if_pos a3]
  rw [if_neg a3]
  by_cases a4 : p3 < 0
  · rw [if_pos a4]
  rw [if_neg a4]
  by_cases a5 : 4 < p3
  · rw [if_pos a5]
  rw [if_neg a5]
  have a5 : p3 ≤ 4 := Int32.not_lt.mp a5
  by_cases a7 : n = 0
  · subst a7; rw [if_pos (show nI 0 ≤ 0 by decide)]
  rw [if_neg (nI_nle (by omega) (by omega))]
  by_cases a8 : 16 < n
  · rw [if_pos (show (16 : Int32) < nI n from nI_lt (a := 16) a8 (by omega))]
  have w0 : f_X6_wordAt 0 t (nI n) = some (nI (wl (Lk t n) n 0)) := M_wordAt (s := 0) hn (by decide)
  have wle := wl_le t n 0 (Nat.zero_le _)
  rw [if_neg (show ¬ (16 : Int32) < nI n from nI_nlt (a := 16) (by omega) (by decide)), w0, ob1_s]
  by_cases a9 : wl (Lk t n) n 0 = n
  · rw [if_pos (by rw [a9]), f_X6_field_89, if_neg (by decide)]
    have p1n : ¬ p1 = -1 := fun z1 => hb ⟨by omega, Or.inl z1, a2, a3, a4, a5, by omega, by omega, a9⟩
    rw [if_neg p1n]
    have p10 : ¬ p1 < 0 := by
      intro z1
      rw [Int32.lt_iff_toInt_lt] at z1 b1
      apply p1n
      rw [i_eq]
      have e1 : (-1 : Int32).toInt = -1 := by decide
      have e2 : (0 : Int32).toInt = 0 := by decide
      omega
    obtain ⟨g, hg, rfl⟩ := nI_of p10
    have gz : g < z := by
      rcases Nat.lt_or_ge g z with q | q
      · exact q
      · exact absurd (nI_le q hg) b2
    rw [rd_in (show g < 64 by omega) (by decide), if_neg (fun z1 => hb ⟨by omega, Or.inr ⟨g, gz, rfl, z1⟩, a2, a3, a4, a5, by omega, by omega, a9⟩)]
  · rw [if_neg (fun z1 => a9 ((nI_eq (by omega) (by omega)).mp z1))]
theorem M_fieldG (hn : n ≤ 2000) (hg : GD p1 p2 p3 ty' n z (wl (Lk t n) n 0)) : mF t gr' kd ty' ln' nm' n z p1 p2 p3 = f_X6_field_111 p1 p2 p3 (nI n) 0 t 0 (nI n) 0 (-1) gr' kd ty' ln' nm' (nI z) (-1) := by
  obtain ⟨a1, a6, a2, a3, a4, a5, a7, a8, a9⟩ := hg
  have w0 : f_X6_wordAt 0 t (nI n) = some (nI (wl (Lk t n) n 0)) := M_wordAt (s := 0) hn (by decide)
  have lo : ¬ p1 < -1 ∧ ¬ nI z ≤ p1 := by
    rcases a6 with rfl | ⟨g, g1, rfl, g3⟩
    · refine ⟨by decide, fun q => ?_⟩
      rw [Int32.le_iff_toInt_le, nI_toInt (by omega)] at q
      have e1 : (-1 : Int32).toInt = -1 := by decide
      omega
    · refine ⟨fun q => ?_, nI_ge g1 (by omega)⟩
      rw [Int32.lt_iff_toInt_lt, nI_toInt (by omega)] at q
      have e1 : (-1 : Int32).toInt = -1 := by decide
      omega
  rw [mF, if_neg (show ¬ (64 : Int32) ≤ nI z from nI_ge (b := 64) a1 (by decide)), if_neg lo.1, if_neg lo.2, if_neg a2, if_neg a3, if_neg a4, if_neg (Int32.not_lt.mpr a5), if_neg (nI_nle a7 (by omega)), if_neg (show ¬ (16 : Int32) < nI n from nI_nlt (a := 16) a8 (by decide)), w0, ob1_s, if_pos (by rw [a9]), f_X6_field_89, if_neg (by decide)]
  rcases a6 with a6 | ⟨g, g1, g2, g3⟩
  · rw [if_pos a6]
  · have : ¬ p1 = -1 := by rw [g2]; exact nI_ne g (by omega)
    rw [if_neg this]
    have r : ∀ (X Y : Option (Int32 × Int32 × (Nat → Int32) × Int32 × Int32 × Int32 × Int32 × (Nat → Int32) × (Nat → Int32) × (Nat → Int32) × (Nat → Int32) × (Nat → Int32) × Int32 × Int32)), rd ty' 64 p1 (fun x1 => if x1 = 4 then X else Y) = X := fun X Y => by rw [g2, rd_in (show g < 64 by omega) (by decide), if_pos g3]
    rw [r]
end FLD
theorem R_field {b t nm ln gr ty fla gr' kd ty' ln' nm' : Nat → Int32} {n : Nat} {z_ f_ p1 p2 p3 : Int32} (hn : n ≤ 2000) (hbt : ∀ j, j < n → b j = t j) (hS : SH nm ln gr ty fla z_ gr' kd ty' ln' nm' f_) : ∃ z, z_ = nI z ∧ f_ = nI z ∧ ∃ r nm2 ln2 gr2 ty2 fla2 z2 gr3 kd3 ty3 ln3 nm3 f3, f_X3_add p1 p2 p3 nm ln gr ty fla (nI z) b (nI n) = some (r, nm2, ln2, gr2, ty2, fla2, z2) ∧ mF t gr' kd ty' ln' nm' n z p1 p2 p3 = some (r, 0, t, 0, nI n, 0, -1, gr3, kd3, ty3, ln3, nm3, f3, -1) ∧ SH nm2 ln2 gr2 ty2 fla2 z2 gr3 kd3 ty3 ln3 nm3 f3 := by
  have hS' := hS
  obtain ⟨z, rfl, rfl, hz, hg, hnm, hr⟩ := hS
  have hL : Lk b n = Lk t n := by
    funext j
    unfold Lk
    by_cases q : j < n
    · rw [if_pos q, if_pos q, hbt j q]
    · rw [if_neg q, if_neg q]
  have hz' : LN ln' z := SH_LN hz (fun j hj => (hr j hj).2.2.1)
  refine ⟨z, rfl, rfl, ?_⟩
  have gd : GD p1 p2 p3 ty n z (wl (Lk b n) n 0) ↔ GD p1 p2 p3 ty' n z (wl (Lk t n) n 0) := by
    unfold GD
    rw [hL]
    have : (∃ g, g < z ∧ p1 = nI g ∧ ty g = 4) ↔ (∃ g, g < z ∧ p1 = nI g ∧ ty' g = 4) := ⟨fun ⟨g, g1, g2, g3⟩ => ⟨g, g1, g2, by rw [← (hr g g1).2.1]; exact g3⟩, fun ⟨g, g1, g2, g3⟩ => ⟨g, g1, g2, by rw [(hr g g1).2.1]; exact g3⟩⟩
    rw [this]
  by_cases G : GD p1 p2 p3 ty n z (wl (Lk b n) n 0)
  case neg =>
    exact ⟨_, _, _, _, _, _, _, _, _, _, _, _, _, C_addF hn hz.1 G, M_fieldF hn hz.1 (fun q => G (gd.mpr q)), hS'⟩
  rw [C_addG hn G, M_fieldG hn (gd.mp G)]
  obtain ⟨a1, a6, a2, a3, a4, a5, a7, a8, a9⟩ := G
  have cf := C_find (b := b) (nm := nm) (gr := gr) (s := 0) (m := n) hn (by omega) hz p1
  rw [Nat.zero_add] at cf
  have cf : f_X3_find p1 0 (nI n) nm ln gr (nI z) b (nI n) = _ := cf
  have mf := M_find (t := t) (nm := nm') (gr := gr') (s := 0) (m := n) hn (by omega) hz' p1
  have mf : f_X6_find p1 0 (nI n) t gr' ln' nm' (nI z) = _ := mf
  rw [cf, ob1_s, f_X6_field_111, mf, ob1_s, hL, SH_fd (L := Lk t n) hnm (fun j hj => ⟨(hr j hj).1, (hr j hj).2.2.1⟩)]
  by_cases hf : fd gr' ln' nm' (Lk t n) z p1 0 n = -1
  case neg =>
    rw [if_neg hf, if_neg hf]
    exact ⟨_, _, _, _, _, _, _, _, _, _, _, _, _, rfl, rfl, hS'⟩
  obtain ⟨nm2, n1, n2, n3⟩ := C_add74 (b := b) a8 a1 n 0 FU nm (by omega) (by show n < 4096; omega)
  have n1 : f_X3_add_74 FU 0 nm (nI z) b (nI n) = some nm2 := n1
  obtain ⟨nm3, m1, m2, m3⟩ := M_f169 (t := t) a8 a1 n 0 FU nm' (by omega) (by show n < 4096; omega)
  have m1 : f_X6_field_169 FU (nI n) 0 t nm' (nI z) = some nm3 := m1
  have nn : ∀ j, nm2 j = nm3 j := by
    intro j
    by_cases q : j < 16 * z + 0 ∨ 16 * z + n ≤ j
    · rw [n2 j q, m2 j q, hnm]
    · obtain ⟨l, rfl⟩ : ∃ l, j = 16 * z + l := ⟨j - 16 * z, by omega⟩
      rw [n3 l (by omega) (by omega), m3 l (by omega) (by omega), Lk_in (by omega), hbt l (by omega)]
  rw [if_pos hf, if_pos hf, n1, ob1_s, f_X3_add_123, wr_in a1 (by decide), wr_in a1 (by decide), wr_in a1 (by decide), wr_in a1 (by decide), wr_in a1 (by decide), wr_in a1 (by decide), wr_in a1 (by decide), m1, ob1_s, on_eq, nI_1, nI_pred]
  have grp : GRP (upd gr' z p1) (z + 1) := by
    intro f hf
    rcases Nat.lt_or_ge f z with q | q
    · rw [pk_un (by omega)]; exact hg f q
    · obtain rfl : f = z := by omega
      rw [pk_us]
      rcases a6 with a6 | ⟨g, g1, g2, g3⟩
      · exact Or.inl a6
      · exact Or.inr ⟨g, g1, g2⟩
  have lnn : LN (upd ln z (nI n)) (z + 1) := by
    refine ⟨by omega, fun f hf => ?_⟩
    rcases Nat.lt_or_ge f z with q | q
    · rw [pk_un (by omega)]; exact hz.2 f q
    · obtain rfl : f = z := by omega
      rw [pk_us]; exact ⟨n, by omega, a8, rfl⟩
  have flc := fl_congr (gr2 := upd gr' z p1) (kd2 := upd kd z p2) hz.1 hg (fun j hj => ⟨pk_un (by omega), pk_un (by omega)⟩)
  have kd2 : ((upd kd z p2 z).toInt < 2) ↔ ¬ p2 = 2 := by
    rw [pk_us, i_eq]
    rw [Int32.lt_iff_toInt_lt] at a3
    have e1 : (2 : Int32).toInt = 2 := by decide
    omega
  have flz : fl (upd gr' z p1) (upd kd z p2) z = (decide (¬ p2 = 2) && (if p1 = -1 then true else fl gr' kd p1.toNatClampNeg)) := by
    rw [fl_eq grp (by omega) (by omega)]
    have e : (upd gr' z p1) z = p1 := pk_us
    rw [e, decide_eq_decide.mpr kd2]
    rcases a6 with a6 | ⟨g, g1, g2, g3⟩
    · rw [if_pos a6, if_pos a6]
    · rw [g2, if_neg (nI_ne g (by omega)), if_neg (nI_ne g (by omega)), nI_clamp (by omega)]
      congr 1
      have := flc g g1
      rw [g2] at this
      exact this
  have fin : ∀ s2 : Bool, s2 = fl (upd gr' z p1) (upd kd z p2) z → ∃ r nm2_1 ln2 gr2 ty2 fla2 z2 gr3 kd3 ty3 ln3 nm3_1 f3, f_X3_add_191 (nI z) (bI s2) nm2 (upd ln z (nI n)) (upd gr z p1) (upd ty z p3) fla (nI z) = some (r, nm2_1, ln2, gr2, ty2, fla2, z2) ∧ some (nI z, (0 : Int32), t, (0 : Int32), nI n, (0 : Int32), (-1 : Int32), upd gr' z p1, upd kd z p2, upd ty' z p3, upd ln' z (nI n), nm3, nI (z + 1), (-1 : Int32)) = some (r, 0, t, 0, nI n, 0, -1, gr3, kd3, ty3, ln3, nm3_1, f3, -1) ∧ SH nm2_1 ln2 gr2 ty2 fla2 z2 gr3 kd3 ty3 ln3 nm3_1 f3 := by
    intro s2 hs2
    rw [f_X3_add_191, wrZ_in a1 (by decide), on_eq, nI_1, nI_pred]
    refine ⟨_, _, _, _, _, _, _, _, _, _, _, _, _, rfl, rfl, z + 1, rfl, rfl, lnn, grp, nn, fun j hj => ?_⟩
    rcases Nat.lt_or_ge j z with q | q
    · rw [pk_un (by omega), pk_un (by omega), pk_un (by omega), pk_un (by omega), pk_un (by omega), pk_un (by omega), pk_un (by omega), flc j q]
      exact hr j q
    · obtain rfl : j = z := by omega
      rw [pk_us, pk_us, pk_us, pk_us, pk_us, pk_us, pk_us]
      refine ⟨rfl, rfl, rfl, ?_⟩
      rw [hs2]
      cases fl (upd gr' j p1) (upd kd j p2) j <;> rfl
  have f0 := fin false
  have f1 := fin true
  by_cases k2 : p2 = 2
  · rw [if_pos k2, f_X3_add_190]
    exact f0 (by rw [flz, decide_eq_false (fun q => q k2)]; rfl)
  · rw [if_neg k2]
    rcases a6 with a6 | ⟨g, g1, g2, g3⟩
    · rw [if_pos a6, f_X3_add_186]
      exact f1 (by rw [flz, decide_eq_true k2, if_pos a6]; rfl)
    · have pn : ¬ p1 = -1 := by rw [g2]; exact nI_ne g (by omega)
      have e : (if p1 = -1 then true else fl gr' kd p1.toNatClampNeg) = fl gr' kd g := by rw [if_neg pn, g2, nI_clamp (by omega)]
      have rg : ∀ (X Y : Option (Int32 × (Nat → Int32) × (Nat → Int32) × (Nat → Int32) × (Nat → Int32) × (Nat → Int32) × Int32)), rd fla 64 p1 (fun x4 => if x4 = 0 then X else Y) = if bI (fl gr' kd g) = 0 then X else Y := fun X Y => by rw [g2, rd_in (show g < 64 by omega) (by decide), (hr g g1).2.2.2]
      rw [if_neg pn, rg, f_X3_add_190, f_X3_add_186]
      cases hq : fl gr' kd g with
      | false =>
        rw [if_pos bI_f]
        exact f0 (by rw [flz, e, hq, Bool.and_false])
      | true =>
        rw [if_neg bI_n]
        exact f1 (by rw [flz, e, hq, decide_eq_true k2]; rfl)
