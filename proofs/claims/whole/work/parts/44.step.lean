/-! pure rows: steps, columns, operators, both sides at once -/
def SR (h c : Nat) (st sK sF sO sX sM : Nat → Int32) : Prop := ∀ i, i < c → st (5 * i) = sK (64 * h + i) ∧ st (5 * i + 1) = sF (64 * h + i) ∧ st (5 * i + 2) = sO (64 * h + i) ∧ st (5 * i + 3) = sX (64 * h + i) ∧ st (5 * i + 4) = sM (64 * h + i)
def FS (h : Nat) (sK sF sO sX sM sK' sF' sO' sX' sM' : Nat → Int32) : Prop := frm 64 h sK sK' ∧ frm 64 h sF sF' ∧ frm 64 h sO sO' ∧ frm 64 h sX sX' ∧ frm 64 h sM sM'
theorem FS_rf (h : Nat) (sK sF sO sX sM : Nat → Int32) : FS h sK sF sO sX sM sK sF sO sX sM := ⟨frm_rf _ _ _, frm_rf _ _ _, frm_rf _ _ _, frm_rf _ _ _, frm_rf _ _ _⟩
theorem FS_tr {h : Nat} {a b c d e a' b' c' d' e' a2 b2 c2 d2 e2 : Nat → Int32} (x : FS h a b c d e a' b' c' d' e') (y : FS h a' b' c' d' e' a2 b2 c2 d2 e2) : FS h a b c d e a2 b2 c2 d2 e2 :=
  ⟨frm_tr x.1 y.1, frm_tr x.2.1 y.2.1, frm_tr x.2.2.1 y.2.2.1, frm_tr x.2.2.2.1 y.2.2.2.1, frm_tr x.2.2.2.2 y.2.2.2.2⟩
theorem M_addStepI {h : Nat} {pl k f o x m ill : Int32} {many sK sF sO sX sM : Nat → Int32} (hh : h ≤ 1) (hi : ¬ ill = -1) : f_X6_addStep pl k f o x m ill (nI h) many sK sF sO sX sM = some (ill, many, sK, sF, sO, sX, sM) := by
  rw [f_X6_addStep, M_4h 2 (k := 2) rfl, rd_in (show 4 * h + 2 < 8 by omega) (by decide), M_failI _ hi, ob1_s, f_X6_addStep_23, if_neg hi, ite_self]
theorem R_step {h c : Nat} {pl k f o x m : Int32} {st many sK sF sO sX sM : Nat → Int32} (hh : h ≤ 1) (hc : c ≤ 64) (hm : many (4 * h + 2) = nI c) (hr : SR h c st sK sF sO sX sM) (hpl : ¬ pl = -1) :
    (f_X1_addStep k f o x m st (nI c) = some (0, st, nI c) ∧ f_X6_addStep pl k f o x m (-1) (nI h) many sK sF sO sX sM = some (pl, many, sK, sF, sO, sX, sM)) ∨
    (∃ st' sK' sF' sO' sX' sM', c < 64 ∧ f_X1_addStep k f o x m st (nI c) = some (1, st', nI (c + 1)) ∧ f_X6_addStep pl k f o x m (-1) (nI h) many sK sF sO sX sM = some (-1, upd many (4 * h + 2) (nI (c + 1)), sK', sF', sO', sX', sM') ∧ SR h (c + 1) st' sK' sF' sO' sX' sM' ∧ FS h sK sF sO sX sM sK' sF' sO' sX' sM') := by
  rw [f_X1_addStep, f_X6_addStep, M_4h 2 (k := 2) rfl, rd_in (show 4 * h + 2 < 8 by omega) (by decide), hm, M_fail, ob1_s, f_X6_addStep_23, if_neg hpl]
  by_cases g : c = 64
  · subst g
    rw [if_neg (show ¬ nI 64 < 64 by decide), if_pos (show nI 64 = 64 from rfl)]
    exact Or.inl ⟨rfl, rfl⟩
  · have e5 : nI c * 5 = nI (5 * c) := by rw [show (5 : Int32) = nI 5 from rfl, nI_mul', Nat.mul_comm]
    have e2 : nI (5 * c) + 2 = nI (5 * c + 2) := nI_add _ 2
    have e3 : nI (5 * c) + 3 = nI (5 * c + 3) := nI_add _ 3
    have e4 : nI (5 * c) + 4 = nI (5 * c + 4) := nI_add _ 4
    rw [if_pos (show nI c < 64 from nI_lt (b := 64) (by omega) (by decide)), if_neg (show ¬ nI c = 64 from fun z => by rw [show (64 : Int32) = nI 64 from rfl, nI_eq (by omega) (by decide)] at z; omega), f_X6_addStep_23, if_pos rfl]
    rw [on_eq, e5, wr_in (show 5 * c < 320 by omega) (by decide), nI_1, wr_in (show 5 * c + 1 < 320 by omega) (by decide), e2, wr_in (show 5 * c + 2 < 320 by omega) (by decide), e3, wr_in (show 5 * c + 3 < 320 by omega) (by decide), e4, wr_in (show 5 * c + 4 < 320 by omega) (by decide), on_eq, nI_1]
    rw [M_4h 2 (k := 2) rfl, rd_in (show 4 * h + 2 < 8 by omega) (by decide), hm, on_eq, M_64h, wr_in (show 64 * h + c < 128 by omega) (by decide), wr_in (show 64 * h + c < 128 by omega) (by decide), wr_in (show 64 * h + c < 128 by omega) (by decide), wr_in (show 64 * h + c < 128 by omega) (by decide), wr_in (show 64 * h + c < 128 by omega) (by decide), on_eq, rd_in (show 4 * h + 2 < 8 by omega) (by decide), hm, on_eq, nI_1, wr_in (show 4 * h + 2 < 8 by omega) (by decide)]
    refine Or.inr ⟨_, _, _, _, _, _, by omega, rfl, rfl, ?_, frm_up (by omega) (by omega), frm_up (by omega) (by omega), frm_up (by omega) (by omega), frm_up (by omega) (by omega), frm_up (by omega) (by omega)⟩
    intro i hi
    rcases Nat.lt_or_ge i c with w | w
    · obtain ⟨r1, r2, r3, r4, r5⟩ := hr i w
      rw [pk_un (show 64 * h + i ≠ 64 * h + c by omega), pk_un (show 64 * h + i ≠ 64 * h + c by omega), pk_un (show 64 * h + i ≠ 64 * h + c by omega), pk_un (show 64 * h + i ≠ 64 * h + c by omega), pk_un (show 64 * h + i ≠ 64 * h + c by omega)]
      have u : ∀ j, j < 5 → upd (upd (upd (upd (upd st (5 * c) k) (5 * c + 1) f) (5 * c + 2) o) (5 * c + 3) x) (5 * c + 4) m (5 * i + j) = st (5 * i + j) := fun j hj => by
        rw [pk_un (by omega), pk_un (by omega), pk_un (by omega), pk_un (by omega), pk_un (by omega)]
      exact ⟨(u 0 (by omega)).trans r1, (u 1 (by omega)).trans r2, (u 2 (by omega)).trans r3, (u 3 (by omega)).trans r4, (u 4 (by omega)).trans r5⟩
    · obtain rfl : i = c := by omega
      rw [pk_us, pk_us, pk_us, pk_us, pk_us, pk_us]
      refine ⟨?_, ?_, ?_, ?_, rfl⟩
      · rw [pk_un (by omega), pk_un (by omega), pk_un (by omega), pk_un (by omega), pk_us]
      · rw [pk_un (by omega), pk_un (by omega), pk_un (by omega), pk_us]
      · rw [pk_un (by omega), pk_un (by omega), pk_us]
      · rw [pk_un (by omega), pk_us]
/-- what both sides share while a query is read -/
def CX (b t gr ln nm kd ty fla gr' ln' nm' ty' : Nat → Int32) (n z h : Nat) (V : Nat → Bool) : Prop := (∀ j, j < z → V j = ((!decide (ty j = 4)) && !decide (fla j = 0))) ∧ (∀ j, j < z → V j = vl ty' gr' kd j) ∧ BY b n ∧ BY t n ∧ Lk b n = Lk t n ∧ fd gr ln nm (Lk t n) z = fd gr' ln' nm' (Lk t n) z ∧ (∀ j, j < z → ty j = ty' j) ∧ n ≤ 2000 ∧ LN ln z ∧ LN ln' z ∧ GRP gr' z ∧ h ≤ 1
section CXs
variable {b t gr ln nm kd ty fla gr' ln' nm' ty' : Nat → Int32} {n z h : Nat} {V : Nat → Bool}
theorem R_column (K : CX b t gr ln nm kd ty fla gr' ln' nm' ty' n z h V) {s : Nat} (hs : s ≤ n) (hss : sk (Lk t n) n s = s) :
    (∃ x, x ≤ n ∧ (∃ u v w, f_X0_readPath (-1) (tkT (Lk t n) n s) (nI s) (nI (tkE (Lk t n) n s)) nm ln gr (nI z) b (nI n) = some (-1, nI x, u, v, w)) ∧ ∃ g a, a ≤ n ∧ f_X6_column t (nI n) (nI s) (-1) gr' kd ty' ln' nm' (nI z) = some (g, nI a, nI x)) ∨
    (∃ f u v w, f < z ∧ V f = false ∧ f_X0_readPath (-1) (tkT (Lk t n) n s) (nI s) (nI (tkE (Lk t n) n s)) nm ln gr (nI z) b (nI n) = some (nI f, -1, u, v, w) ∧ ∃ g a, a ≤ n ∧ f_X6_column t (nI n) (nI s) (-1) gr' kd ty' ln' nm' (nI z) = some (g, nI a, nI s)) ∨
    (∃ f e, f < z ∧ V f = true ∧ s < e ∧ e ≤ n ∧ f_X0_readPath (-1) (tkT (Lk t n) n s) (nI s) (nI (tkE (Lk t n) n s)) nm ln gr (nI z) b (nI n) = some (nI f, -1, tkT (Lk t n) n (sk (Lk t n) n e), nI (sk (Lk t n) n e), nI (tkE (Lk t n) n (sk (Lk t n) n e))) ∧ f_X6_column t (nI n) (nI s) (-1) gr' kd ty' ln' nm' (nI z) = some (nI f, nI e, -1)) := by
  obtain ⟨hVc, hVm, hB, hBt, hL, hF, hty, hn, hz, hz', hg, hh⟩ := K
  have hC := C_path (gr := gr) (nm := nm) hB hn hz hs
  have hM := M_column (p := s) (nm := nm') hVm hBt hn hz' hg hs
  rw [hL] at hC
  rw [hss, ← hF] at hM
  rcases colS_cases (gr := gr) (ln := ln) (nm := nm) (V := V) hBt hz.1 hs with ⟨x, q1, q2, q3⟩ | ⟨e, q1, q2, q3⟩ | ⟨f, e, q1, q2, q3, q4, q5⟩ | ⟨f, e, q1, q2, q3, q4, q5, q6⟩
  · obtain ⟨u, v, w, r1⟩ := hC.1 x q2
    obtain ⟨a, g, r2, r3⟩ := hM.1 x q3
    exact Or.inl ⟨x, q1, ⟨u, v, w, r1⟩, g, a, r2, r3⟩
  · have r1 := hC.2 (-1) e q2
    rw [if_pos rfl] at r1
    obtain ⟨a, g, r2, r3⟩ := hM.1 s q3
    exact Or.inl ⟨s, hs, ⟨_, _, _, r1⟩, g, a, r2, r3⟩
  · have r1 := hC.2 (nI f) e q4
    have := hz.1
    rw [if_neg (nI_ne f (by omega))] at r1
    obtain ⟨a, g, r2, r3⟩ := hM.1 s q5
    exact Or.inr (Or.inl ⟨f, _, _, _, q1, q2, r1, g, a, r2, r3⟩)
  · have r1 := hC.2 (nI f) e q5
    have := hz.1
    rw [if_neg (nI_ne f (by omega))] at r1
    exact Or.inr (Or.inr ⟨f, e, q1, q2, q4, q3, r1, hM.2 f e q6⟩)
theorem M_colKept (K : CX b t gr ln nm kd ty fla gr' ln' nm' ty' n z h V) {s : Nat} (hs : s ≤ n) (hss : sk (Lk t n) n s = s) (hw : wd (Lk t n) n s < 16) : ∃ g a, a ≤ n ∧ f_X6_column t (nI n) (nI s) (-1) gr' kd ty' ln' nm' (nI z) = some (g, nI a, nI s) := by
  obtain ⟨hVc, hVm, hB, hBt, hL, hF, hty, hn, hz, hz', hg, hh⟩ := K
  have hM := M_column (p := s) (nm := nm') hVm hBt hn hz' hg hs
  rw [hss] at hM
  have e : colS (Lk t n) n (fd gr' ln' nm' (Lk t n) z) V s = .error s := by
    unfold colS pthS pathS
    rw [if_neg (fun z => by omega)]
  obtain ⟨a, g, r2, r3⟩ := hM.1 s e
  exact ⟨g, a, r2, r3⟩
end CXs
theorem tk_16 {t : Nat → Int32} {n s : Nat} : tkT (Lk t n) n s = 16 ↔ (isL (Lk t n s) = true ∧ wd (Lk t n) n s = 16) := by
  unfold tkT
  by_cases h1 : Lk t n s = -1
  · rw [if_pos h1, h1]; exact ⟨fun z => absurd z (by decide), fun z => absurd z.1 (by decide)⟩
  · rw [if_neg h1]
    by_cases h2 : isL (Lk t n s) = true
    · have := wd_le t n s
      rw [if_pos h2, show (16 : Int32) = nI 16 from rfl, nI_eq (by omega) (by decide)]
      exact ⟨fun z => ⟨h2, z⟩, fun z => z.2⟩
    · rw [if_neg h2]
      refine ⟨fun z => ?_, fun z => absurd z.1 h2⟩
      exfalso
      revert z
      unfold sgT
      repeat' split
      all_goals (intro z; exact absurd z (by decide))
theorem R_operator {t : Nat → Int32} {n s : Nat} (hn : n ≤ 2000) (hs : s ≤ n) (hss : sk (Lk t n) n s = s) : ((tkT (Lk t n) n s < 22 ∨ 27 < tkT (Lk t n) n s) ∧ f_X6_operator t (nI n) (nI s) (-1) = some (-1, nI s, nI s)) ∨ (∃ o, o < 6 ∧ tkT (Lk t n) n s = nI (22 + o) ∧ s < tkE (Lk t n) n s ∧ f_X6_operator t (nI n) (nI s) (-1) = some (nI o, nI (tkE (Lk t n) n s), -1)) := by
  rw [f_X6_operator, M_blanks hn (by omega), hss, ob1_s, M_look hn (by omega), ob1_s, f_X6_operator_35, if_pos rfl, on_eq, nI_1, M_look hn (by omega), ob1_s, M_fail, ob1_s, f_X6_operator_35, if_neg (nI_ne s (by omega))]
  unfold f_X6_operator_69 f_X6_operator_88 f_X6_operator_92 f_X6_operator_93 f_X6_operator_108
  simp only [if_true, if_neg (show ¬ (1 : Int32) = 0 by decide), on_eq]
  have z0 : ∀ x : Int32, x + 0 = x := fun x => by rw [Int32.add_zero]
  rw [z0, nI_1]
  have hno : ∀ c : Int32, c.toInt < 65 → ¬ c = -1 → Lk t n s = c → tkT (Lk t n) n s = sgT c (Lk t n (s + 1)) ∧ tkE (Lk t n) n s = s + 1 + sgX c (Lk t n (s + 1)) := by
    intro c hc hc1 he
    unfold tkT tkE
    rw [he, if_neg hc1, if_neg hc1, if_neg (by rw [isL_no hc]; decide), if_neg (by rw [isL_no hc]; decide)]
    exact ⟨rfl, rfl⟩
  by_cases h61 : Lk t n s = 61
  · obtain ⟨a1, a2⟩ := hno 61 (by decide) (by decide) h61
    refine Or.inr ⟨0, by decide, a1.trans rfl, by rw [a2]; omega, ?_⟩
    rw [a2, show sgX 61 (Lk t n (s + 1)) = 0 from if_neg (fun z => z.elim (fun z => absurd z.1 (by decide)) (fun z => absurd z.1 (by decide))), h61]
    simp only [if_true, if_neg (show ¬ (-1 : Int32) = 61 by decide), if_neg (show ¬ (61 : Int32) = 60 by decide)]
    rfl
  by_cases h60 : Lk t n s = 60
  · obtain ⟨a1, a2⟩ := hno 60 (by decide) (by decide) h60
    rw [h60]
    simp only [if_neg (show ¬ (60 : Int32) = 61 by decide), if_true]
    by_cases d61 : Lk t n (s + 1) = 61
    · refine Or.inr ⟨3, by decide, ?_, by rw [a2]; omega, ?_⟩
      · rw [a1, d61]; rfl
      · rw [a2, d61]; rfl
    · by_cases d62 : Lk t n (s + 1) = 62
      · refine Or.inr ⟨1, by decide, ?_, by rw [a2]; omega, ?_⟩
        · rw [a1, d62]; rfl
        · rw [a2, d62]; rfl
      · refine Or.inr ⟨2, by decide, ?_, by rw [a2]; omega, ?_⟩
        · rw [a1]; unfold sgT
          simp only [if_neg d61, if_neg d62]; rfl
        · have sx : sgX 60 (Lk t n (s + 1)) = 0 := if_neg (fun z => z.elim (fun z => z.2.elim d61 d62) (fun z => absurd z.1 (by decide)))
          rw [a2, sx]
          simp only [if_neg d61, if_neg d62, if_true]; rfl
  by_cases h62 : Lk t n s = 62
  · obtain ⟨a1, a2⟩ := hno 62 (by decide) (by decide) h62
    rw [h62]
    simp only [if_neg (show ¬ (62 : Int32) = 61 by decide), if_neg (show ¬ (62 : Int32) = 60 by decide), if_true]
    by_cases d61 : Lk t n (s + 1) = 61
    · refine Or.inr ⟨5, by decide, ?_, by rw [a2]; omega, ?_⟩
      · rw [a1, d61]; rfl
      · rw [a2, d61]; rfl
    · refine Or.inr ⟨4, by decide, ?_, by rw [a2]; omega, ?_⟩
      · rw [a1]; unfold sgT
        simp only [if_neg d61]; rfl
      · have sx : sgX 62 (Lk t n (s + 1)) = 0 := if_neg (fun z => z.elim (fun z => absurd z.1 (by decide)) (fun z => d61 z.2))
        rw [a2, sx]
        simp only [if_neg d61, if_true]; rfl
  rw [if_neg h61, if_neg h60, if_neg h62]
  refine Or.inl ⟨?_, rfl⟩
  unfold tkT
  by_cases h1 : Lk t n s = -1
  · rw [if_pos h1]; exact Or.inr (by decide)
  · rw [if_neg h1]
    by_cases h2 : isL (Lk t n s) = true
    · rw [if_pos h2]
      have := wd_le t n s
      exact Or.inl (nI_lt (b := 22) (by omega) (by decide))
    · rw [if_neg h2]
      unfold sgT
      rw [if_neg h60, if_neg h61, if_neg h62]
      repeat' split
      all_goals first | exact Or.inl (by decide) | exact Or.inr (by decide)
