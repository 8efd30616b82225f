/-! pure rows: items, both sides -/
/-- what stands behind count, sum, min, max ( -/
def itm2 (L : Nat → Int32) (n : Nat) (F : Int32 → Nat → Nat → Int32) (V : Nat → Bool) (ty : Nat → Int32) (k s1 : Nat) : Except Nat (Int32 × Int32 × Nat) :=
  if ¬ L s1 = 40 then .error s1
  else match colS L n F V (sk L n (s1 + 1)) with
    | .error x => .error x
    | .ok (f, e) => if k = 3 ∧ ¬ (ty f = 1 ∨ ty f = 2) then .error (sk L n (s1 + 1))
      else if L (sk L n e) = 41 then .ok (nI k, nI f, sk L n e + 1) else .error (sk L n e)
/-- an item from s: what it is, its field, where it ends -/
def itmS (L : Nat → Int32) (n : Nat) (F : Int32 → Nat → Nat → Int32) (V : Nat → Bool) (ty : Nat → Int32) (s : Nat) : Except Nat (Int32 × Int32 × Nat) :=
  if 12 ≤ wd L n s ∧ wd L n s ≤ 15 then (if wd L n s = 12 ∧ ¬ L (sk L n (tkE L n s)) = 40 then .ok (1, -1, tkE L n s) else itm2 L n F V ty (wd L n s - 10) (sk L n (tkE L n s)))
  else match pthS L n F s with
    | .error x => .error x
    | .ok (g, e) => if g = -1 then .error s else .ok (0, g, e)
theorem colS_cases {t gr ln nm : Nat → Int32} {n z s : Nat} {V : Nat → Bool} (hB : BY t n) (hz : z ≤ 64) (hs : s ≤ n) : (∃ x, x ≤ n ∧ pthS (Lk t n) n (fd gr ln nm (Lk t n) z) s = .error x ∧ colS (Lk t n) n (fd gr ln nm (Lk t n) z) V s = .error x) ∨ (∃ e, e ≤ n ∧ pthS (Lk t n) n (fd gr ln nm (Lk t n) z) s = .ok (-1, e) ∧ colS (Lk t n) n (fd gr ln nm (Lk t n) z) V s = .error s) ∨ (∃ f e, f < z ∧ V f = false ∧ e ≤ n ∧ pthS (Lk t n) n (fd gr ln nm (Lk t n) z) s = .ok (nI f, e) ∧ colS (Lk t n) n (fd gr ln nm (Lk t n) z) V s = .error s) ∨ (∃ f e, f < z ∧ V f = true ∧ e ≤ n ∧ s < e ∧ pthS (Lk t n) n (fd gr ln nm (Lk t n) z) s = .ok (nI f, e) ∧ colS (Lk t n) n (fd gr ln nm (Lk t n) z) V s = .ok (f, e)) := by
  cases hp : pthS (Lk t n) n (fd gr ln nm (Lk t n) z) s with
  | error x =>
    refine Or.inl ⟨x, ((pathS_b hB (n + 1) s (-1) true hs).2 _ hp).2, rfl, ?_⟩
    unfold colS
    rw [hp]
  | ok q =>
    obtain ⟨g, e⟩ := q
    have hb := (pathS_b hB (n + 1) s (-1) true hs).1 g e hp
    have hc : colS (Lk t n) n (fd gr ln nm (Lk t n) z) V s = if g = -1 then Except.error s else if V g.toNatClampNeg = true then Except.ok (g.toNatClampNeg, e) else Except.error s := by
      unfold colS
      rw [hp]
    rcases pathS_or _ _ _ _ _ _ hp with rfl | ⟨f, hf, rfl⟩
    · rw [if_pos rfl] at hc
      exact Or.inr (Or.inl ⟨e, hb.2, rfl, hc⟩)
    · rw [if_neg (nI_ne f (by omega)), nI_clamp (by omega)] at hc
      cases hV : V f with
      | false =>
        rw [hV, if_neg (by decide)] at hc
        exact Or.inr (Or.inr (Or.inl ⟨f, e, hf, hV, hb.2, rfl, hc⟩))
      | true =>
        rw [hV, if_pos rfl] at hc
        exact Or.inr (Or.inr (Or.inr ⟨f, e, hf, hV, hb.2, hb.1, rfl, hc⟩))
theorem C_readItem115 {b gr ln nm ty fla it : Nat → Int32} {n z s1 s0 c k : Nat} {V : Nat → Bool} (hV : ∀ j, j < z → V j = ((!decide (ty j = 4)) && !decide (fla j = 0))) (hB : BY b n) (hn : n ≤ 2000) (hz : LN ln z) (hs : s1 ≤ n) (hc : c < 16) (hk : k < 100) : (∀ x, itm2 (Lk b n) n (fd gr ln nm (Lk b n) z) V ty k s1 = .error x → ∃ u v w i j, f_X0_readItem_115 (nI (k + 10)) (nI s0) (-1) (tkT (Lk b n) n s1) (nI s1) (nI (tkE (Lk b n) n s1)) nm ln gr ty fla (nI z) it (nI c) b (nI n) = some (0, nI x, u, v, w, i, j)) ∧ (∀ kk g e, itm2 (Lk b n) n (fd gr ln nm (Lk b n) z) V ty k s1 = .ok (kk, g, e) → f_X0_readItem_115 (nI (k + 10)) (nI s0) (-1) (tkT (Lk b n) n s1) (nI s1) (nI (tkE (Lk b n) n s1)) nm ln gr ty fla (nI z) it (nI c) b (nI n) = some (1, -1, tkT (Lk b n) n (sk (Lk b n) n e), nI (sk (Lk b n) n e), nI (tkE (Lk b n) n (sk (Lk b n) n e)), upd (upd it (2 * c) kk) (2 * c + 1) g, nI (c + 1))) := by
  have hz64 := hz.1
  unfold f_X0_readItem_115 itm2
  rw [C_take hB hn hs]
  by_cases h1 : Lk b n s1 = 40
  · have hlt := Lk_lt h1 (by decide)
    rw [if_pos (tk_open.mpr h1), ob5_s, if_neg (show ¬ (1 : Int32) = 0 by decide), tkE_sign h1 (by decide)]
    simp only [if_neg (show ¬ ¬ Lk b n s1 = 40 from fun z => z h1)]
    have hs2 := sk_le b n (s1 + 1) hlt
    have hp := C_path (gr := gr) (nm := nm) hB hn hz hs2
    rcases colS_cases (gr := gr) (ln := ln) (nm := nm) (V := V) hB hz64 hs2 with ⟨y, hy, q1, q2⟩ | ⟨e, he, q1, q2⟩ | ⟨f, e, hf, hv, he, q1, q2⟩ | ⟨f, e, hf, hv, he, hse, q1, q2⟩
    · rw [q2]
      obtain ⟨u, v, w, e⟩ := hp.1 y q1
      rw [e, ob5_s, if_pos rfl]
      exact ⟨fun x h => (by cases h; exact ⟨_, _, _, _, _, rfl⟩), fun kk g e h => (by cases h)⟩
    · rw [q2, hp.2 _ e q1, if_pos rfl, ob5_s, if_pos rfl]
      exact ⟨fun x h => (by cases h; exact ⟨_, _, _, _, _, rfl⟩), fun kk g e h => (by cases h)⟩
    · rw [q2, hp.2 _ e q1, if_neg (nI_ne f (by omega)), ob5_s, if_neg (nI_ne f (by omega)), C_flatValue hV hz64 hf, ob1_s, hv, if_pos bI_f, C_refuse, ob2_s, gz_0]
      exact ⟨fun x h => (by cases h; exact ⟨_, _, _, _, _, rfl⟩), fun kk g e h => (by cases h)⟩
    · rw [q2, hp.2 _ e q1, if_neg (nI_ne f (by omega)), ob5_s, if_neg (nI_ne f (by omega)), C_flatValue hV hz64 hf, ob1_s, hv, if_neg bI_n, C_typeOf hz64 hf]
      simp only [ob1_s, C_isOfNumbers, C_refuse, ob2_s, gz_0]
      have h188 := C_readItem188 (it := it) (s0 := s0) hB hn (sk_le b n e he) hc k (nI f)
      have fin : (∀ x, (if Lk b n (sk (Lk b n) n e) = 41 then (Except.ok (nI k, nI f, sk (Lk b n) n e + 1) : Except Nat (Int32 × Int32 × Nat)) else Except.error (sk (Lk b n) n e)) = Except.error x → ∃ u v w i j, f_X0_readItem_188 (nI (k + 10)) (nI s0) (nI f) (-1) (tkT (Lk b n) n (sk (Lk b n) n e)) (nI (sk (Lk b n) n e)) (nI (tkE (Lk b n) n (sk (Lk b n) n e))) it (nI c) b (nI n) = some (0, nI x, u, v, w, i, j)) ∧ (∀ kk g e', (if Lk b n (sk (Lk b n) n e) = 41 then (Except.ok (nI k, nI f, sk (Lk b n) n e + 1) : Except Nat (Int32 × Int32 × Nat)) else Except.error (sk (Lk b n) n e)) = Except.ok (kk, g, e') → f_X0_readItem_188 (nI (k + 10)) (nI s0) (nI f) (-1) (tkT (Lk b n) n (sk (Lk b n) n e)) (nI (sk (Lk b n) n e)) (nI (tkE (Lk b n) n (sk (Lk b n) n e))) it (nI c) b (nI n) = some (1, -1, tkT (Lk b n) n (sk (Lk b n) n e'), nI (sk (Lk b n) n e'), nI (tkE (Lk b n) n (sk (Lk b n) n e')), upd (upd it (2 * c) kk) (2 * c + 1) g, nI (c + 1))) := by
        by_cases h6 : Lk b n (sk (Lk b n) n e) = 41
        · simp only [if_pos h6]
          exact ⟨fun x h => (by cases h), fun kk g e' h => (by cases h; exact h188.1 h6)⟩
        · simp only [if_neg h6]
          exact ⟨fun x h => (by cases h; exact h188.2 h6), fun kk g e' h => (by cases h)⟩
      by_cases h4 : k = 3
      · skip
        rw [if_pos (show nI (k + 10) = (13 : Int32) by rw [h4]; rfl)]
        by_cases h5 : ty f = 1 ∨ ty f = 2
        · rw [decide_eq_true h5, if_neg bI_n]
          simp only [if_neg (show ¬ (k = 3 ∧ ¬ (ty f = 1 ∨ ty f = 2)) from fun z => z.2 h5)]
          exact fin
        · rw [decide_eq_false h5, if_pos bI_f]
          simp only [if_pos (show k = 3 ∧ ¬ (ty f = 1 ∨ ty f = 2) from ⟨h4, h5⟩)]
          exact ⟨fun x h => (by cases h; exact ⟨_, _, _, _, _, rfl⟩), fun kk g e h => (by cases h)⟩
      · rw [if_neg (show ¬ nI (k + 10) = (13 : Int32) from fun z => by have := (nI_eq (a := k + 10) (b := 13) (by omega) (by decide)).mp z; omega)]
        simp only [if_neg (show ¬ (k = 3 ∧ ¬ (ty f = 1 ∨ ty f = 2)) from fun z => h4 z.1)]
        exact fin
  · rw [if_neg (fun z => h1 (tk_open.mp z)), ob5_s, if_pos rfl]
    simp only [if_pos h1]
    exact ⟨fun x h => (by cases h; exact ⟨_, _, _, _, _, rfl⟩), fun kk g e h => (by cases h)⟩
theorem C_readItem {b gr ln nm ty fla it : Nat → Int32} {n z s c : Nat} {V : Nat → Bool} (hV : ∀ j, j < z → V j = ((!decide (ty j = 4)) && !decide (fla j = 0))) (hB : BY b n) (hn : n ≤ 2000) (hz : LN ln z) (hs : s ≤ n) (hc : c < 16) : (∀ x, itmS (Lk b n) n (fd gr ln nm (Lk b n) z) V ty s = .error x → ∃ u v w i j, f_X0_readItem (-1) (tkT (Lk b n) n s) (nI s) (nI (tkE (Lk b n) n s)) nm ln gr ty fla (nI z) it (nI c) b (nI n) = some (0, nI x, u, v, w, i, j)) ∧ (∀ kk g e, itmS (Lk b n) n (fd gr ln nm (Lk b n) z) V ty s = .ok (kk, g, e) → f_X0_readItem (-1) (tkT (Lk b n) n s) (nI s) (nI (tkE (Lk b n) n s)) nm ln gr ty fla (nI z) it (nI c) b (nI n) = some (1, -1, tkT (Lk b n) n (sk (Lk b n) n e), nI (sk (Lk b n) n e), nI (tkE (Lk b n) n (sk (Lk b n) n e)), upd (upd it (2 * c) kk) (2 * c + 1) g, nI (c + 1))) := by
  unfold f_X0_readItem itmS
  have h28 := C_readItem28 (gr := gr) (nm := nm) (it := it) hB hn hz hs hc
  by_cases h1 : 12 ≤ wd (Lk b n) n s ∧ wd (Lk b n) n s ≤ 15
  · have ht : tkT (Lk b n) n s = nI (wd (Lk b n) n s) := (tk_word (by omega)).mpr rfl
    have he := tkE_le hB hs
    have hs1 := sk_le b n _ he
    have h115 := C_readItem115 (gr := gr) (nm := nm) (it := it) (s0 := s) (k := wd (Lk b n) n s - 10) hV hB hn hz hs1 hc (by omega)
    rw [show wd (Lk b n) n s - 10 + 10 = wd (Lk b n) n s by omega, ← ht] at h115
    simp only [if_pos h1]
    rw [if_neg (show ¬ tkT (Lk b n) n s < (12 : Int32) from fun z => by rw [ht] at z; have := (nI_ltI (b := 12) (by omega) (by decide)).mp z; omega), if_pos (show tkT (Lk b n) n s ≤ (15 : Int32) by rw [ht]; exact nI_le (b := 15) h1.2 (by decide)), C_advance hB hn he, ob3_s]
    by_cases h2 : wd (Lk b n) n s = 12
    · rw [if_pos (show tkT (Lk b n) n s = (12 : Int32) by rw [ht, h2]; rfl)]
      by_cases h3 : Lk b n (sk (Lk b n) n (tkE (Lk b n) n s)) = 40
      · rw [if_pos (tk_open.mpr h3)]
        simp only [if_neg (show ¬ (wd (Lk b n) n s = 12 ∧ ¬ Lk b n (sk (Lk b n) n (tkE (Lk b n) n s)) = 40) from fun z => z.2 h3)]
        exact h115
      · rw [if_neg (fun z => h3 (tk_open.mp z)), C_addItem hc, ob3_s, if_neg (show ¬ (1 : Int32) = 0 by decide)]
        simp only [if_pos (show wd (Lk b n) n s = 12 ∧ ¬ Lk b n (sk (Lk b n) n (tkE (Lk b n) n s)) = 40 from ⟨h2, h3⟩)]
        exact ⟨fun x h => (by cases h), fun kk g e h => (by cases h; rfl)⟩
    · rw [if_neg (show ¬ tkT (Lk b n) n s = (12 : Int32) from fun z => by rw [ht] at z; exact h2 ((nI_eq (b := 12) (by omega) (by decide)).mp z))]
      simp only [if_neg (show ¬ (wd (Lk b n) n s = 12 ∧ ¬ Lk b n (sk (Lk b n) n (tkE (Lk b n) n s)) = 40) from fun z => h2 z.1)]
      exact h115
  · simp only [if_neg h1]
    have key : (∀ x, (match pthS (Lk b n) n (fd gr ln nm (Lk b n) z) s with | .error x => (.error x : Except Nat (Int32 × Int32 × Nat)) | .ok (g, e) => if g = -1 then .error s else .ok (0, g, e)) = .error x → ∃ u v w i j, f_X0_readItem_28 (nI s) (-1) (tkT (Lk b n) n s) (nI s) (nI (tkE (Lk b n) n s)) nm ln gr (nI z) it (nI c) b (nI n) = some (0, nI x, u, v, w, i, j)) ∧ (∀ kk g e, (match pthS (Lk b n) n (fd gr ln nm (Lk b n) z) s with | .error x => (.error x : Except Nat (Int32 × Int32 × Nat)) | .ok (g, e) => if g = -1 then .error s else .ok (0, g, e)) = .ok (kk, g, e) → f_X0_readItem_28 (nI s) (-1) (tkT (Lk b n) n s) (nI s) (nI (tkE (Lk b n) n s)) nm ln gr (nI z) it (nI c) b (nI n) = some (1, -1, tkT (Lk b n) n (sk (Lk b n) n e), nI (sk (Lk b n) n e), nI (tkE (Lk b n) n (sk (Lk b n) n e)), upd (upd it (2 * c) kk) (2 * c + 1) g, nI (c + 1))) := by
      cases hq : pthS (Lk b n) n (fd gr ln nm (Lk b n) z) s with
      | error y => exact ⟨fun x h => (by cases h; exact h28.1 y hq), fun kk g e h => (by cases h)⟩
      | ok q =>
        obtain ⟨g, e⟩ := q
        by_cases h2 : g = -1
        · simp only [if_pos h2]
          exact ⟨fun x h => (by cases h; exact (h28.2 g e hq).1 h2), fun kk g e h => (by cases h)⟩
        · simp only [if_neg h2]
          exact ⟨fun x h => (by cases h), fun kk g e h => (by cases h; exact (h28.2 g e hq).2 h2)⟩
    by_cases h2 : tkT (Lk b n) n s < (12 : Int32)
    · rw [if_pos h2]; exact key
    · rw [if_neg h2, if_neg]
      · exact key
      · intro z
        apply h1
        have hw : ∃ j, j < 30 ∧ tkT (Lk b n) n s = nI j ∧ (j < 16 → wd (Lk b n) n s = j) := by
          unfold tkT
          have := wd_le b n s
          by_cases q1 : Lk b n s = -1
          · rw [if_pos q1]; exact ⟨29, by decide, rfl, fun q => absurd q (by decide)⟩
          · rw [if_neg q1]
            by_cases q2 : isL (Lk b n s) = true
            · rw [if_pos q2]; exact ⟨_, by omega, rfl, fun _ => rfl⟩
            · rw [if_neg q2]
              unfold sgT
              repeat' split
              · exact ⟨18, by decide, rfl, fun q => absurd q (by decide)⟩
              · exact ⟨20, by decide, rfl, fun q => absurd q (by decide)⟩
              · exact ⟨21, by decide, rfl, fun q => absurd q (by decide)⟩
              · exact ⟨19, by decide, rfl, fun q => absurd q (by decide)⟩
              · exact ⟨17, by decide, rfl, fun q => absurd q (by decide)⟩
              · exact ⟨25, by decide, rfl, fun q => absurd q (by decide)⟩
              · exact ⟨23, by decide, rfl, fun q => absurd q (by decide)⟩
              · exact ⟨24, by decide, rfl, fun q => absurd q (by decide)⟩
              · exact ⟨22, by decide, rfl, fun q => absurd q (by decide)⟩
              · exact ⟨27, by decide, rfl, fun q => absurd q (by decide)⟩
              · exact ⟨26, by decide, rfl, fun q => absurd q (by decide)⟩
              · exact ⟨17, by decide, rfl, fun q => absurd q (by decide)⟩
              · exact ⟨28, by decide, rfl, fun q => absurd q (by decide)⟩
        obtain ⟨j, j1, j2, j3⟩ := hw
        rw [j2] at z h2
        have z1 := (nI_leI (b := 15) (by omega) (by decide)).mp z
        have z2 : ¬ j < 12 := fun q => h2 (nI_lt (b := 12) q (by decide))
        have := j3 (by omega)
        omega
