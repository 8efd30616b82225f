/-! pure rows: what is complete behind a test, both sides at once -/
theorem ST_pre {n w w' : Nat} {σ : Nat → Nat} {ws wp pile pp : Nat → Int32} (h : ST n w σ ws wp pile pp) (hw : w' ≤ w) : ST n w' σ ws wp pile pp := by
  obtain ⟨d, rfl⟩ : ∃ d, w = w' + d := ⟨w - w', by omega⟩
  exact ⟨fun i hi => h.1 i (by omega), fun i hi => h.2.1 i (by omega), Nat.le_trans (nc_mono d) h.2.2⟩
theorem mk_frm {h : Nat} {many many' : Nat → Int32} (hm : ∀ j, ¬ j = 4 * h + 2 → many' j = many j) : frm 4 h many many' := fun j hj => hm j (by omega)
section CXc
variable {b t gr ln nm kd ty fla gr' ln' nm' ty' : Nat → Int32} {n z h : Nat} {V : Nat → Bool} {Lt Lf Ls By sd : Nat → Int32} {Nu : Nat → Int64} {σ : Nat → Nat} {ws wp pile pp : Nat → Int32}
theorem R_close (K : CX b t gr ln nm kd ty fla gr' ln' nm' ty' n z h V) : ∀ (w i a k k2 c2 : Nat) (st many sK sF sO sX sM : Nat → Int32), w < k → n - a + 1 < k2 → a ≤ n → i + oc σ w ≤ 32 → ST n w σ ws wp pile pp → many (4 * h + 2) = nI c2 → c2 ≤ 64 → SR h c2 st sK sF sO sX sM →
    (∃ x, x ≤ n ∧ (∃ u1 u2 u4 u5 u6 u7 u8, f_X0_closeTests_2 k (nI i) ws wp (nI w) (nI (nc σ w)) (-1) (tkT (Lk t n) n (sk (Lk t n) n a)) (nI (sk (Lk t n) n a)) (nI (tkE (Lk t n) n (sk (Lk t n) n a))) st (nI c2) b (nI n) = some (0, u1, u2, nI x, u4, u5, u6, u7, u8)) ∧ ∃ a' many' sK' sF' sO' sX' sM' v1 v2, a' < 5000 ∧ f_X6_readCondition_14 k2 t (nI n) (nI a) (-1) gr' kd ty' ln' nm' (nI z) (nI h) many sK sF sO sX sM Lt Lf Ls By sd Nu pile pp (nI w) (nI (nc σ w)) = some (nI a', nI x, many', sK', sF', sO', sX', sM', Lt, Lf, Ls, By, sd, Nu, pile, pp, v1, v2) ∧ frm 4 h many many' ∧ FS h sK sF sO sX sM sK' sF' sO' sX' sM') ∨
    (∃ s w' x c2' k2' st' many' sK' sF' sO' sX' sM', a ≤ s ∧ s < tkE (Lk t n) n s ∧ tkE (Lk t n) n s ≤ n ∧ sk (Lk t n) n s = s ∧ w' ≤ w ∧ (x = 2 ∨ x = 3) ∧ (x = 3 → ph σ w' = 0) ∧ (x = 2 → ph σ w' ≤ 1) ∧ (w' = 0 ∨ ¬ σ (w' - 1) = 1) ∧ c2' ≤ 64 ∧ n - tkE (Lk t n) n s + 1 < k2' ∧ tkT (Lk t n) n s = cs x ∧ f_X0_closeTests_2 k (nI i) ws wp (nI w) (nI (nc σ w)) (-1) (tkT (Lk t n) n (sk (Lk t n) n a)) (nI (sk (Lk t n) n a)) (nI (tkE (Lk t n) n (sk (Lk t n) n a))) st (nI c2) b (nI n) = some (1, nI w', nI (nc σ w'), -1, tkT (Lk t n) n s, nI s, nI (tkE (Lk t n) n s), st', nI c2') ∧ f_X6_readCondition_14 k2 t (nI n) (nI a) (-1) gr' kd ty' ln' nm' (nI z) (nI h) many sK sF sO sX sM Lt Lf Ls By sd Nu pile pp (nI w) (nI (nc σ w)) = ob18 (f_X6_readTest t (nI n) (nI (tkE (Lk t n) n s)) (-1) gr' kd ty' ln' nm' (nI z) (nI h) many' sK' sF' sO' sX' sM' Lt Lf Ls By sd Nu (upd pile w' (nI x)) (upd pp w' (nI s)) (nI (w' + 1)) (nI (nc σ w'))) (fun y1 y2 y3 y4 y5 y6 y7 y8 y9 y10 y11 y12 y13 y14 y15 y16 y17 y18 => f_X6_readCondition_14 k2' t (nI n) y1 y2 gr' kd ty' ln' nm' (nI z) (nI h) y3 y4 y5 y6 y7 y8 y9 y10 y11 y12 y13 y14 y15 y16 y17 y18) ∧ many' (4 * h + 2) = nI c2' ∧ (∀ j, ¬ j = 4 * h + 2 → many' j = many j) ∧ SR h c2' st' sK' sF' sO' sX' sM' ∧ FS h sK sF sO sX sM sK' sF' sO' sX' sM') ∨
    (∃ s c2' u1 u2 v1 v2 st' many' sK' sF' sO' sX' sM', a ≤ s ∧ s ≤ n ∧ sk (Lk t n) n s = s ∧ c2' ≤ 64 ∧ ¬ tkT (Lk t n) n s = 4 ∧ ¬ tkT (Lk t n) n s = 5 ∧ f_X0_closeTests_2 k (nI i) ws wp (nI w) (nI (nc σ w)) (-1) (tkT (Lk t n) n (sk (Lk t n) n a)) (nI (sk (Lk t n) n a)) (nI (tkE (Lk t n) n (sk (Lk t n) n a))) st (nI c2) b (nI n) = some (1, u1, u2, -1, tkT (Lk t n) n s, nI s, nI (tkE (Lk t n) n s), st', nI c2') ∧ f_X6_readCondition_14 k2 t (nI n) (nI a) (-1) gr' kd ty' ln' nm' (nI z) (nI h) many sK sF sO sX sM Lt Lf Ls By sd Nu pile pp (nI w) (nI (nc σ w)) = some (nI s, -1, many', sK', sF', sO', sX', sM', Lt, Lf, Ls, By, sd, Nu, pile, pp, v1, v2) ∧ many' (4 * h + 2) = nI c2' ∧ (∀ j, ¬ j = 4 * h + 2 → many' j = many j) ∧ SR h c2' st' sK' sF' sO' sX' sM' ∧ FS h sK sF sO sX sM sK' sF' sO' sX' sM') := by
  obtain ⟨hVc, hVm, hB, hBt, hL, hF, hty, hn, hz, hz', hg, hh⟩ := K
  intro w
  induction w using Nat.strongRecOn with
  | _ w ih =>
  intro i a k k2 c2 st many sK sF sO sX sM hk hk2 ha hi hST hm hc hS
  obtain ⟨k, rfl⟩ : ∃ j, k = j + 1 := ⟨k - 1, by omega⟩
  obtain ⟨k2, rfl⟩ : ∃ j, k2 = j + 1 := ⟨k2 - 1, by omega⟩
  obtain ⟨hw1, hw2, hw3⟩ := ST_w hST
  have hN := hST.2.2
  have hs := sk_le t n a ha
  have hge := sk_ge t n a
  have hss := sk_sk t n a
  have n10 : ¬ (1 : Int32) = 0 := by decide
  rw [f_X0_closeTests_2, if_neg (show ¬ (32 : Int32) < nI i from nI_nlt (a := 32) (by omega) (by decide)), f_X6_readCondition_14, if_pos rfl]
  rcases R_joinF (σ0 := 1) (A := 6) (B := 5) (D := 1) rfl rfl rfl hn hh (by decide) (by decide) (show w ≤ 98 by omega) hST.1 hN hm hc hS with ⟨x, w1, u1, u2, u4, u5, many1, sK1, sF1, sO1, sX1, sM1, v, p1, p2, p3, p4, p5, p6⟩ | ⟨w1, c21, st1, many1, sK1, sF1, sO1, sX1, sM1, p1, p2, p3, p4, p5, p6, p7, p8, p9, p10⟩
  · rw [p3, ob6_s, if_pos rfl, p4, ob9_s, M_joinsF (by omega) (nI_ne x (by omega)), ob9_s, if_neg (nI_ne x (by omega))]
    exact Or.inl ⟨x, p1, ⟨_, _, _, _, _, _, _, rfl⟩, _, _, _, _, _, _, _, _, _, by omega, rfl, p5, p6⟩
  have hST1 := ST_pre hST p1
  rw [p5, ob6_s, if_neg n10, p6, ob9_s]
  rcases R_joinF (σ0 := 2) (A := 4) (B := 6) (D := 2) rfl rfl rfl hn hh (by decide) (by decide) (show w1 ≤ 98 by omega) hST1.1 hST1.2.2 p7 p4 p9 with ⟨x, w2, u1, u2, u4, u5, many2, sK2, sF2, sO2, sX2, sM2, v, q1, q2, q3, q4, q5, q6⟩ | ⟨w2, c22, st2, many2, sK2, sF2, sO2, sX2, sM2, q1, q2, q3, q4, q5, q6, q7, q8, q9, q10⟩
  · rw [q3, ob6_s, if_pos rfl, q4, ob9_s, if_neg (nI_ne x (by omega))]
    exact Or.inl ⟨x, q1, ⟨_, _, _, _, _, _, _, rfl⟩, _, _, _, _, _, _, _, _, _, by omega, rfl, frm_tr (mk_frm p8) q5, FS_tr p10 q6⟩
  have hST2 := ST_pre hST1 q1
  rw [q5, ob6_s, if_neg n10, q6, ob9_s, if_pos rfl, M_sees_4 hn ha]
  have t1 : w2 = 0 ∨ ¬ σ (w2 - 1) = 1 := by
    rcases Nat.lt_or_ge w2 w1 with c | c
    · exact ((hST1.2.1 w2 c).2.2) (by rw [q3 w2 (Nat.le_refl _) c]; decide)
    · obtain rfl : w2 = w1 := by omega
      exact p2
  have ph2 : ph σ w2 ≤ 1 := by
    rcases Nat.eq_zero_or_pos w2 with c | c
    · rw [c]; exact Nat.zero_le _
    · obtain ⟨v, rfl⟩ : ∃ v, w2 = v + 1 := ⟨w2 - 1, by omega⟩
      have e1 := t1.resolve_left (by omega)
      have e2 := q2.resolve_left (by omega)
      rw [Nat.add_sub_cancel] at e1 e2
      show (if σ v = 0 then 0 else if σ v = 1 then ph σ v else if σ v = 2 then 2 else 1) ≤ 1
      rw [if_neg e1, if_neg e2]
      split <;> decide
  have k4 : tkT (Lk t n) n (sk (Lk t n) n a) = 4 ↔ wd (Lk t n) n (sk (Lk t n) n a) = 4 := tk_word (k := 4) (by decide)
  have k5 : tkT (Lk t n) n (sk (Lk t n) n a) = 5 ↔ wd (Lk t n) n (sk (Lk t n) n a) = 5 := tk_word (k := 5) (by decide)
  generalize sk (Lk t n) n a = s at hs hge hss k4 k5 ⊢
  have hE := tkE_le hBt hs
  by_cases w4 : wd (Lk t n) n s = 4
  · have e3 := wl_4 w4
    rw [if_pos (k4.mpr w4), if_pos w4, ob2_s, if_neg n10, M_push (by omega), ob3_s, on_eq, show nI s + 3 = nI (tkE (Lk t n) n s) by rw [e3]; exact nI_add s 3]
    exact Or.inr (Or.inl ⟨s, w2, 2, c22, k2, st2, many2, sK2, sF2, sO2, sX2, sM2, hge, by omega, hE, hss, by omega, Or.inl rfl, fun z => by omega, fun _ => ph2, t1, q4, by omega, k4.mpr w4, rfl, rfl, q7, fun j hj => (q8 j hj).trans (p8 j hj), q9, FS_tr p10 q10⟩)
  rw [if_neg (fun z => w4 (k4.mp z)), if_neg w4, ob2_s, if_pos rfl]
  rcases R_joinF (σ0 := 3) (A := 5) (B := 7) (D := 3) rfl rfl rfl hn hh (by decide) (by decide) (show w2 ≤ 98 by omega) hST2.1 hST2.2.2 q7 q4 q9 with ⟨x, w3, u1, u2, u4, u5, many3, sK3, sF3, sO3, sX3, sM3, v, r1, r2, r3, r4, r5, r6⟩ | ⟨w3, c23, st3, many3, sK3, sF3, sO3, sX3, sM3, r1, r2, r3, r4, r5, r6, r7, r8, r9, r10⟩
  · rw [r3, ob6_s, if_pos rfl, r4, ob9_s, if_neg (nI_ne x (by omega))]
    exact Or.inl ⟨x, r1, ⟨_, _, _, _, _, _, _, rfl⟩, _, _, _, _, _, _, _, _, _, by omega, rfl, frm_tr (frm_tr (mk_frm p8) (mk_frm q8)) r5, FS_tr (FS_tr p10 q10) r6⟩
  rw [r5, ob6_s, if_neg n10, r6, ob9_s, if_pos rfl, M_sees_5 hn hs, hss]
  have mm : ∀ j, ¬ j = 4 * h + 2 → many3 j = many j := fun j hj => ((r8 j hj).trans (q8 j hj)).trans (p8 j hj)
  have ff := FS_tr (FS_tr p10 q10) r10
  have t3 : w3 = 0 ∨ σ (w3 - 1) = 0 := by
    rcases Nat.eq_zero_or_pos w3 with c | c
    · exact Or.inl c
    · refine Or.inr ?_
      have b4 := (hST.1 (w3 - 1) (by omega)).1
      have e3 := r2.resolve_left (by omega)
      rcases Nat.lt_or_ge w3 w2 with c2 | c2
      · have y := hST2.2.1 w3 c2
        have y0 := r3 w3 (Nat.le_refl _) c2
        have y1 := (y.2.2 (by omega)).resolve_left (by omega)
        have y2 := y.1 y0
        have y3 : ¬ σ (w3 - 1) = 2 := by
          intro z
          obtain ⟨v, rfl⟩ : ∃ v, w3 = v + 1 := ⟨w3 - 1, by omega⟩
          rw [Nat.add_sub_cancel] at z
          have y2 : (if σ v = 0 then 0 else if σ v = 1 then ph σ v else if σ v = 2 then 2 else 1) = 0 := y2
          rw [z] at y2
          exact absurd y2 (by simp)
        omega
      · obtain rfl : w3 = w2 := by omega
        have e1 := t1.resolve_left (by omega)
        have e2 := q2.resolve_left (by omega)
        omega
  have ph3 : ph σ w3 = 0 := by
    rcases t3 with c | c
    · rw [c]; rfl
    · rcases Nat.eq_zero_or_pos w3 with c0 | c0
      · rw [c0]; rfl
      · obtain ⟨v, rfl⟩ : ∃ v, w3 = v + 1 := ⟨w3 - 1, by omega⟩
        rw [Nat.add_sub_cancel] at c
        exact if_pos c
  by_cases w5 : wd (Lk t n) n s = 5
  · have e3 := wl_5 w5
    rw [if_pos (k5.mpr w5), if_pos w5, ob2_s, if_neg n10, M_push (by omega), ob3_s, on_eq, show nI s + 2 = nI (tkE (Lk t n) n s) by rw [e3]; exact nI_add s 2]
    exact Or.inr (Or.inl ⟨s, w3, 3, c23, k2, st3, many3, sK3, sF3, sO3, sX3, sM3, hge, by omega, hE, hss, by omega, Or.inr rfl, fun _ => ph3, fun z => by omega, t3.imp id (fun z => by omega), r4, by omega, k5.mpr w5, rfl, rfl, r7, mm, r9, ff⟩)
  rw [if_neg (fun z => w5 (k5.mp z)), if_neg w5, ob2_s, if_pos rfl]
  by_cases g0 : w3 = 0
  · subst g0
    rw [if_pos (show nI 0 = 0 from rfl), if_pos (show nI 0 = 0 from rfl)]
    exact Or.inr (Or.inr ⟨s, c23, _, _, _, _, st3, many3, sK3, sF3, sO3, sX3, sM3, hge, hs, hss, r4, fun z => w4 (k4.mp z), fun z => w5 (k5.mp z), rfl, rfl, r7, mm, r9, ff⟩)
  · have t3 := t3.resolve_left g0
    rw [if_neg (nI_ne0 (by omega) (by omega)), if_neg (nI_ne0 (by omega) (by omega)), A_take hB hL hn hs, M_wantSign hn hs, hss]
    obtain ⟨v, rfl⟩ : ∃ v, w3 = v + 1 := ⟨w3 - 1, by omega⟩
    rw [Nat.add_sub_cancel] at t3
    have nn : nc σ (v + 1) = nc σ v + 1 := by show nc σ v + (if σ v < 2 then 1 else 0) = _; rw [t3]; rfl
    have on1 : oc σ (v + 1) = oc σ v + 1 := by show oc σ v + (if σ v = 0 then 1 else 0) = _; rw [t3]; rfl
    rw [nn, nI_pred, nI_pred]
    by_cases h41 : Lk t n s = 41
    · have hlt := Lk_lt h41 (by decide)
      rw [if_pos (tk_close.mpr h41), if_pos h41, ob5_s, if_neg n10, on_eq, on_eq, on_eq, nI_1, ob2_s, on_eq, on_eq, tkE_sign h41 (Or.inr (Or.inl rfl))]
      obtain ⟨dd, hdd⟩ : ∃ dd, w = v + 1 + dd := ⟨w - (v + 1), by omega⟩
      have om := oc_mono (σ := σ) (w := v + 1) dd
      rw [← hdd, on1] at om
      rcases ih v (by omega) (i + 1) (s + 1) k k2 c23 st3 many3 sK3 sF3 sO3 sX3 sM3 (by omega) (by omega) (by omega) (by omega) (ST_pre hST (by omega)) r7 r4 r9 with ⟨x, x1, x2, a', many', sK', sF', sO', sX', sM', v1, v2, x3, x4, x5, x6⟩ | ⟨s', w', x, c2', k2', st', many', sK', sF', sO', sX', sM', y1, y2, y3, y4, y5, y6, y7, y8, y9, y10, y11, y12, y13, y14, y15, y16, y17, y18⟩ | ⟨s', c2', u1, u2, v1, v2, st', many', sK', sF', sO', sX', sM', y1, y2, y3, y4, y5, y6, y7, y8, y9, y10, y11, y12⟩
      · exact Or.inl ⟨x, x1, x2, a', many', sK', sF', sO', sX', sM', v1, v2, x3, x4, frm_tr (mk_frm mm) x5, FS_tr ff x6⟩
      · exact Or.inr (Or.inl ⟨s', w', x, c2', k2', st', many', sK', sF', sO', sX', sM', by omega, y2, y3, y4, by omega, y6, y7, y8, y9, y10, y11, y12, y13, y14, y15, fun j hj => (y16 j hj).trans (mm j hj), y17, FS_tr ff y18⟩)
      · exact Or.inr (Or.inr ⟨s', c2', u1, u2, v1, v2, st', many', sK', sF', sO', sX', sM', by omega, y2, y3, y4, y5, y6, y7, y8, y9, fun j hj => (y10 j hj).trans (mm j hj), y11, FS_tr ff y12⟩)
    · rw [if_neg (fun z => h41 (tk_close.mp z)), if_neg h41, ob5_s, if_pos rfl, ob2_s, on_eq, on_eq]
      obtain ⟨k2, rfl⟩ : ∃ j, k2 = j + 1 := ⟨k2 - 1, by omega⟩
      rw [f_X6_readCondition_14, if_neg (nI_ne s (by omega))]
      exact Or.inl ⟨s, hs, ⟨_, _, _, _, _, _, _, rfl⟩, _, _, _, _, _, _, _, _, _, by omega, rfl, mk_frm mm, ff⟩
end CXc
