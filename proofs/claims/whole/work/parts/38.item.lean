/-! pure rows: tokens by their numbers; items -/
theorem tk_word {t : Nat → Int32} {n s k : Nat} (hk : k < 16) : tkT (Lk t n) n s = nI k ↔ wd (Lk t n) n s = k := by
  unfold tkT
  by_cases h1 : Lk t n s = -1
  · rw [if_pos h1, show (29 : Int32) = nI 29 from rfl, nI_eq (by decide) (by omega)]
    refine ⟨fun z => by omega, fun z => ?_⟩
    have := wd_letter (t := t) (n := n) (s := s) (by omega)
    rw [h1, isL_out] at this
    cases this
  · rw [if_neg h1]
    by_cases h2 : isL (Lk t n s) = true
    · have := wd_le t n s
      rw [if_pos h2, nI_eq (by omega) (by omega)]
    · rw [if_neg h2]
      refine ⟨fun z => ?_, fun z => absurd (wd_letter (by omega)) h2⟩
      exfalso
      have key : ∃ j, 17 ≤ j ∧ j < 30 ∧ sgT (Lk t n s) (Lk t n (s + 1)) = nI j := by
        unfold sgT
        repeat' split
        · exact ⟨18, by decide, by decide, rfl⟩
        · exact ⟨20, by decide, by decide, rfl⟩
        · exact ⟨21, by decide, by decide, rfl⟩
        · exact ⟨19, by decide, by decide, rfl⟩
        · exact ⟨17, by decide, by decide, rfl⟩
        · exact ⟨25, by decide, by decide, rfl⟩
        · exact ⟨23, by decide, by decide, rfl⟩
        · exact ⟨24, by decide, by decide, rfl⟩
        · exact ⟨22, by decide, by decide, rfl⟩
        · exact ⟨27, by decide, by decide, rfl⟩
        · exact ⟨26, by decide, by decide, rfl⟩
        · exact ⟨17, by decide, by decide, rfl⟩
        · exact ⟨28, by decide, by decide, rfl⟩
      obtain ⟨j, h3, h4, h5⟩ := key
      rw [h5, nI_eq (by omega) (by omega)] at z
      omega
theorem isL_no {c : Int32} (h : c.toInt < 65) : isL c = false := by
  unfold isL
  rw [decide_eq_false_iff_not]
  omega
theorem wd_nI {t : Nat → Int32} {n s : Nat} {c : Int32} (hc : 16 < c.toInt) : ¬ nI (wd (Lk t n) n s) = c := by
  intro z
  have := wd_le t n s
  rw [← z, nI_toInt (by omega)] at hc
  omega
/-- ( -/
theorem tk_open {t : Nat → Int32} {n s : Nat} : tkT (Lk t n) n s = 20 ↔ Lk t n s = 40 := by
  unfold tkT
  by_cases h1 : Lk t n s = -1
  · rw [if_pos h1, h1]; decide
  · rw [if_neg h1]
    by_cases h2 : isL (Lk t n s) = true
    · rw [if_pos h2]
      exact ⟨fun z => absurd z (wd_nI (by decide)), fun z => by rw [z, isL_no (by decide)] at h2; cases h2⟩
    · rw [if_neg h2]
      unfold sgT
      by_cases h : Lk t n s = 40
      · rw [h]; exact ⟨fun _ => rfl, fun _ => rfl⟩
      · refine ⟨fun z => ?_, fun z => absurd z h⟩
        revert z
        repeat' split
        all_goals first | (intro z; exact absurd z (by decide)) | (intro _; contradiction)
/-- ) -/
theorem tk_close {t : Nat → Int32} {n s : Nat} : tkT (Lk t n) n s = 21 ↔ Lk t n s = 41 := by
  unfold tkT
  by_cases h1 : Lk t n s = -1
  · rw [if_pos h1, h1]; decide
  · rw [if_neg h1]
    by_cases h2 : isL (Lk t n s) = true
    · rw [if_pos h2]
      exact ⟨fun z => absurd z (wd_nI (by decide)), fun z => by rw [z, isL_no (by decide)] at h2; cases h2⟩
    · rw [if_neg h2]
      unfold sgT
      by_cases h : Lk t n s = 41
      · rw [h]; exact ⟨fun _ => rfl, fun _ => rfl⟩
      · refine ⟨fun z => ?_, fun z => absurd z h⟩
        revert z
        repeat' split
        all_goals first | (intro z; exact absurd z (by decide)) | (intro _; contradiction)
/-- , -/
theorem tk_comma {t : Nat → Int32} {n s : Nat} : tkT (Lk t n) n s = 19 ↔ Lk t n s = 44 := by
  unfold tkT
  by_cases h1 : Lk t n s = -1
  · rw [if_pos h1, h1]; decide
  · rw [if_neg h1]
    by_cases h2 : isL (Lk t n s) = true
    · rw [if_pos h2]
      exact ⟨fun z => absurd z (wd_nI (by decide)), fun z => by rw [z, isL_no (by decide)] at h2; cases h2⟩
    · rw [if_neg h2]
      unfold sgT
      by_cases h : Lk t n s = 44
      · rw [h]; exact ⟨fun _ => rfl, fun _ => rfl⟩
      · refine ⟨fun z => ?_, fun z => absurd z h⟩
        revert z
        repeat' split
        all_goals first | (intro z; exact absurd z (by decide)) | (intro _; contradiction)
theorem tkE_sign {t : Nat → Int32} {n s : Nat} {c : Int32} (h : Lk t n s = c) (hc : c = 40 ∨ c = 41 ∨ c = 44) : tkE (Lk t n) n s = s + 1 := by
  unfold tkE sgX
  rw [h]
  rcases hc with rfl | rfl | rfl
  · rw [if_neg (by decide), if_neg (by decide), if_neg (fun z => z.elim (fun q => absurd q.1 (by decide)) (fun q => absurd q.1 (by decide)))]
  · rw [if_neg (by decide), if_neg (by decide), if_neg (fun z => z.elim (fun q => absurd q.1 (by decide)) (fun q => absurd q.1 (by decide)))]
  · rw [if_neg (by decide), if_neg (by decide), if_neg (fun z => z.elim (fun q => absurd q.1 (by decide)) (fun q => absurd q.1 (by decide)))]
theorem Lk_lt {t : Nat → Int32} {n s : Nat} {c : Int32} (h : Lk t n s = c) (hc : ¬ c = -1) : s < n := by
  rcases Nat.lt_or_ge s n with q | q
  · exact q
  · rw [Lk_out q] at h; exact absurd h.symm hc
theorem C_take {b : Nat → Int32} {n s : Nat} (hB : BY b n) (hn : n ≤ 2000) (hs : s ≤ n) (c : Int32) : f_X0_take c (-1) (tkT (Lk b n) n s) (nI s) (nI (tkE (Lk b n) n s)) b (nI n) = if tkT (Lk b n) n s = c then some (1, -1, tkT (Lk b n) n (sk (Lk b n) n (tkE (Lk b n) n s)), nI (sk (Lk b n) n (tkE (Lk b n) n s)), nI (tkE (Lk b n) n (sk (Lk b n) n (tkE (Lk b n) n s)))) else some (0, nI s, tkT (Lk b n) n s, nI s, nI (tkE (Lk b n) n s)) := by
  unfold f_X0_take
  rw [C_advance hB hn (tkE_le hB hs), ob3_s, C_refuse, ob2_s, gz_0]
theorem C_isOfNumbers (x : Int32) : f_X0_isOfNumbers x = some (bI (decide (x = 1 ∨ x = 2))) := by
  unfold f_X0_isOfNumbers
  by_cases h1 : x = 1
  · rw [if_pos h1, decide_eq_true (Or.inl h1)]; rfl
  · rw [if_neg h1]
    by_cases h2 : x = 2
    · rw [if_pos h2, decide_eq_true (Or.inr h2)]; rfl
    · rw [if_neg h2, decide_eq_false (fun z => z.elim h1 h2)]; rfl
theorem M_isWhole (x : Int32) : f_X6_isWhole x = some (bI (decide (x = 1 ∨ x = 2))) := by
  unfold f_X6_isWhole
  by_cases h1 : x = 1
  · rw [if_pos h1, decide_eq_true (Or.inl h1)]; rfl
  · rw [if_neg h1]
    by_cases h2 : x = 2
    · rw [if_pos h2, decide_eq_true (Or.inr h2)]; rfl
    · rw [if_neg h2, decide_eq_false (fun z => z.elim h1 h2)]; rfl
theorem C_typeOf {ty : Nat → Int32} {z f : Nat} (hz : z ≤ 64) (hf : f < z) : f_X3_typeOf (nI f) ty (nI z) = some (ty f) := by
  unfold f_X3_typeOf
  rw [if_neg (nI_pos (by omega)), if_neg (nI_ge hf (by omega)), rd_in (by omega) (by decide)]
theorem C_flatValue {ty fla : Nat → Int32} {z f : Nat} {V : Nat → Bool} (hV : ∀ j, j < z → V j = ((!decide (ty j = 4)) && !decide (fla j = 0))) (hz : z ≤ 64) (hf : f < z) : f_X3_isFlatValue (nI f) ty fla (nI z) = some (bI (V f)) := by
  unfold f_X3_isFlatValue
  rw [if_neg (nI_pos (by omega)), if_neg (nI_ge hf (by omega)), rd_in (by omega) (by decide), rd_in (by omega) (by decide), hV f hf]
  by_cases h1 : fla f = 0
  · rw [if_pos h1, decide_eq_true h1, Bool.not_true, Bool.and_false]; rfl
  · rw [if_neg h1, decide_eq_false h1]
    by_cases h2 : ty f = 4
    · rw [if_pos h2, decide_eq_true h2]; rfl
    · rw [if_neg h2, decide_eq_false h2]; rfl
theorem C_addItem {it : Nat → Int32} {c : Nat} (hc : c < 16) (k f : Int32) : f_X1_addItem k f it (nI c) = some (1, upd (upd it (2 * c) k) (2 * c + 1) f, nI (c + 1)) := by
  unfold f_X1_addItem
  have e : nI c * 2 = nI (2 * c) := by rw [show nI c * 2 = nI c * nI 2 from rfl, pk_mul, Nat.mul_comm]
  rw [e, show nI (2 * c) + 1 = nI (2 * c + 1) from nI_1 _]
  first
    | rw [if_neg (show ¬ (16 : Int32) ≤ nI c from nI_ge (b := 16) hc (by decide))]
    | rw [if_pos (show nI c < (16 : Int32) from nI_lt (b := 16) hc (by decide))]
  rw [wr_in (by omega) (by decide), wr_in (by omega) (by decide), on_eq, nI_1]
theorem C_readItem28 {b gr ln nm it : Nat → Int32} {n z s c : Nat} (hB : BY b n) (hn : n ≤ 2000) (hz : LN ln z) (hs : s ≤ n) (hc : c < 16) : (∀ x, pthS (Lk b n) n (fd gr ln nm (Lk b n) z) s = .error x → ∃ u v w i j, f_X0_readItem_28 (nI s) (-1) (tkT (Lk b n) n s) (nI s) (nI (tkE (Lk b n) n s)) nm ln gr (nI z) it (nI c) b (nI n) = some (0, nI x, u, v, w, i, j)) ∧ (∀ g e, pthS (Lk b n) n (fd gr ln nm (Lk b n) z) s = .ok (g, e) → (g = -1 → ∃ u v w i j, f_X0_readItem_28 (nI s) (-1) (tkT (Lk b n) n s) (nI s) (nI (tkE (Lk b n) n s)) nm ln gr (nI z) it (nI c) b (nI n) = some (0, nI s, u, v, w, i, j)) ∧ (¬ g = -1 → f_X0_readItem_28 (nI s) (-1) (tkT (Lk b n) n s) (nI s) (nI (tkE (Lk b n) n s)) nm ln gr (nI z) it (nI c) b (nI n) = some (1, -1, tkT (Lk b n) n (sk (Lk b n) n e), nI (sk (Lk b n) n e), nI (tkE (Lk b n) n (sk (Lk b n) n e)), upd (upd it (2 * c) 0) (2 * c + 1) g, nI (c + 1)))) := by
  have hp := C_path (gr := gr) (nm := nm) hB hn hz hs
  unfold f_X0_readItem_28
  refine ⟨fun x h => ?_, fun g e h => ⟨fun hg => ?_, fun hg => ?_⟩⟩
  · obtain ⟨u, v, w, e⟩ := hp.1 x h
    rw [e, ob5_s, if_pos rfl]
    exact ⟨_, _, _, _, _, rfl⟩
  · rw [hp.2 g e h, if_pos hg, ob5_s, if_pos rfl]
    exact ⟨_, _, _, _, _, rfl⟩
  · rw [hp.2 g e h, if_neg hg, ob5_s, if_neg hg, C_addItem hc, ob3_s, if_neg (show ¬ (1 : Int32) = 0 by decide)]
theorem C_readItem188 {b it : Nat → Int32} {n s c s0 : Nat} (hB : BY b n) (hn : n ≤ 2000) (hs : s ≤ n) (hc : c < 16) (k : Nat) (g : Int32) : (Lk b n s = 41 → f_X0_readItem_188 (nI (k + 10)) (nI s0) g (-1) (tkT (Lk b n) n s) (nI s) (nI (tkE (Lk b n) n s)) it (nI c) b (nI n) = some (1, -1, tkT (Lk b n) n (sk (Lk b n) n (s + 1)), nI (sk (Lk b n) n (s + 1)), nI (tkE (Lk b n) n (sk (Lk b n) n (s + 1))), upd (upd it (2 * c) (nI k)) (2 * c + 1) g, nI (c + 1))) ∧ (¬ Lk b n s = 41 → ∃ u v w i j, f_X0_readItem_188 (nI (k + 10)) (nI s0) g (-1) (tkT (Lk b n) n s) (nI s) (nI (tkE (Lk b n) n s)) it (nI c) b (nI n) = some (0, nI s, u, v, w, i, j)) := by
  have e : (2 : Int32) + nI (k + 10) - 12 = nI k := by
    rw [show (2 : Int32) + nI (k + 10) - 12 = nI 2 + nI (k + 10) - nI 12 from rfl, nI_add, pk_sub (by omega)]
    congr 1
    omega
  unfold f_X0_readItem_188
  rw [C_take hB hn hs, e]
  refine ⟨fun h => ?_, fun h => ?_⟩
  · rw [if_pos (tk_close.mpr h), ob5_s, if_neg (show ¬ (1 : Int32) = 0 by decide), C_addItem hc, ob3_s, if_neg (show ¬ (1 : Int32) = 0 by decide), tkE_sign h (by decide)]
  · rw [if_neg (fun z => h (tk_close.mp z)), ob5_s, if_pos rfl]
    exact ⟨_, _, _, _, _, rfl⟩
