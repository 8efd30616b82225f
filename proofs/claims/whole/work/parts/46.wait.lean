/-! pure rows: what waits, both sides at once -/
def cs (x : Nat) : Int32 := if x = 0 then 20 else if x = 1 then 6 else if x = 2 then 4 else 5
theorem cs_inj {x y : Nat} (hx : x < 4) (hy : y < 4) (h : cs x = cs y) : x = y := by
  have hx : x = 0 ∨ x = 1 ∨ x = 2 ∨ x = 3 := by omega
  have hy : y = 0 ∨ y = 1 ∨ y = 2 ∨ y = 3 := by omega
  rcases hx with rfl | rfl | rfl | rfl <;> rcases hy with rfl | rfl | rfl | rfl <;> first | rfl | (exact absurd h (by decide))
def ph (σ : Nat → Nat) : Nat → Nat
  | 0 => 0
  | i + 1 => if σ i = 0 then 0 else if σ i = 1 then ph σ i else if σ i = 2 then 2 else 1
def nc (σ : Nat → Nat) : Nat → Nat
  | 0 => 0
  | i + 1 => nc σ i + (if σ i < 2 then 1 else 0)
def oc (σ : Nat → Nat) : Nat → Nat
  | 0 => 0
  | i + 1 => oc σ i + (if σ i = 0 then 1 else 0)
def VS (σ : Nat → Nat) (w : Nat) : Prop := ∀ i, i < w → (σ i = 3 → ph σ i = 0) ∧ (σ i = 2 → ph σ i ≤ 1) ∧ (2 ≤ σ i → i = 0 ∨ ¬ σ (i - 1) = 1)
theorem st_congr {σ τ : Nat → Nat} : ∀ w, (∀ i, i < w → σ i = τ i) → ph σ w = ph τ w ∧ nc σ w = nc τ w ∧ oc σ w = oc τ w := by
  intro w
  induction w with
  | zero => intro _; exact ⟨rfl, rfl, rfl⟩
  | succ w ih =>
    intro hw
    obtain ⟨h1, h2, h3⟩ := ih (fun i hi => hw i (by omega))
    have h0 := hw w (by omega)
    refine ⟨?_, ?_, ?_⟩
    · show (if σ w = 0 then 0 else if σ w = 1 then ph σ w else if σ w = 2 then 2 else 1) = (if τ w = 0 then 0 else if τ w = 1 then ph τ w else if τ w = 2 then 2 else 1)
      rw [h0, h1]
    · show nc σ w + (if σ w < 2 then 1 else 0) = nc τ w + (if τ w < 2 then 1 else 0)
      rw [h0, h2]
    · show oc σ w + (if σ w = 0 then 1 else 0) = oc τ w + (if τ w = 0 then 1 else 0)
      rw [h0, h3]
theorem st_b {σ : Nat → Nat} : ∀ w, (∀ i, i < w → σ i < 4) → VS σ w → ph σ w ≤ 2 ∧ oc σ w ≤ nc σ w ∧ w ≤ nc σ w + 2 * oc σ w + ph σ w := by
  intro w
  induction w with
  | zero => intro _ _; exact ⟨Nat.zero_le _, Nat.le_refl _, Nat.zero_le _⟩
  | succ w ih =>
    intro h4 hv
    obtain ⟨h1, h2, h3⟩ := ih (fun i hi => h4 i (by omega)) (fun i hi => hv i (by omega))
    have a := h4 w (by omega)
    obtain ⟨v1, v2, _⟩ := hv w (by omega)
    show (if σ w = 0 then 0 else if σ w = 1 then ph σ w else if σ w = 2 then 2 else 1) ≤ 2 ∧ oc σ w + (if σ w = 0 then 1 else 0) ≤ nc σ w + (if σ w < 2 then 1 else 0) ∧ w + 1 ≤ nc σ w + (if σ w < 2 then 1 else 0) + 2 * (oc σ w + (if σ w = 0 then 1 else 0)) + (if σ w = 0 then 0 else if σ w = 1 then ph σ w else if σ w = 2 then 2 else 1)
    have c : σ w = 0 ∨ σ w = 1 ∨ σ w = 2 ∨ σ w = 3 := by omega
    rcases c with c | c | c | c
    · rw [c]; simp; omega
    · rw [c]; simp; omega
    · have := v2 c; rw [c]; simp; omega
    · have := v1 c; rw [c]; simp; omega
theorem oc_mono {σ : Nat → Nat} {w : Nat} : ∀ d, oc σ w ≤ oc σ (w + d) := by
  intro d
  induction d with
  | zero => exact Nat.le_refl _
  | succ d ih => exact Nat.le_trans ih (Nat.le_add_right _ _)
theorem nc_mono {σ : Nat → Nat} {w : Nat} : ∀ d, nc σ w ≤ nc σ (w + d) := by
  intro d
  induction d with
  | zero => exact Nat.le_refl _
  | succ d ih => exact Nat.le_trans ih (Nat.le_add_right _ _)
/-- what waits is alike on both sides -/
def PR (n w : Nat) (σ : Nat → Nat) (ws wp pile pp : Nat → Int32) : Prop := ∀ i, i < w → σ i < 4 ∧ ws i = cs (σ i) ∧ pile i = nI (σ i) ∧ ∃ x, x ≤ n ∧ wp i = nI x ∧ pp i = nI x
theorem M_joinsI {h w k : Nat} {l1 ill op : Int32} {many sK sF sO sX sM pile pp : Nat → Int32} (hw : w ≤ 98) (hi : ¬ ill = -1) : f_X6_joins_0 (k + 1) l1 ill (nI h) many sK sF sO sX sM pile pp (nI w) op = some (ill, many, sK, sF, sO, sX, sM, nI w, op) := by
  rw [f_X6_joins_0]
  by_cases g : w = 0
  · subst g; rw [if_pos (show nI 0 ≤ 0 by decide)]
  · obtain ⟨v, rfl⟩ : ∃ v, w = v + 1 := ⟨w - 1, by omega⟩
    rw [if_neg (nI_nle (by omega) (by omega)), nI_pred, rd_in (show v < 120 by omega) (by decide), if_neg hi, ite_self]
theorem R_join {n h σ0 : Nat} {σ : Nat → Nat} {ws wp pile pp : Nat → Int32} (hn : n ≤ 2000) (hh : h ≤ 1) (h1 : 1 ≤ σ0) (h3 : σ0 ≤ 3) : ∀ (w k k2 c2 : Nat) (st many sK sF sO sX sM : Nat → Int32), w < k → w < k2 → w ≤ 98 → PR n w σ ws wp pile pp → nc σ w ≤ 32 → many (4 * h + 2) = nI c2 → c2 ≤ 64 → SR h c2 st sK sF sO sX sM →
    (∃ x w' u1 u2 u4 u5 many' sK' sF' sO' sX' sM' v, x ≤ n ∧ w' ≤ w ∧ f_X0_join_0 k (cs σ0) (nI (σ0 + 4)) ws wp (nI w) (nI (nc σ w)) (-1) st (nI c2) = some (0, u1, u2, nI x, u4, u5) ∧ f_X6_joins_0 k2 (nI σ0) (-1) (nI h) many sK sF sO sX sM pile pp (nI w) (nI (nc σ w)) = some (nI x, many', sK', sF', sO', sX', sM', nI w', v) ∧ frm 4 h many many' ∧ FS h sK sF sO sX sM sK' sF' sO' sX' sM') ∨
    (∃ w' c2' st' many' sK' sF' sO' sX' sM', w' ≤ w ∧ (w' = 0 ∨ ¬ σ (w' - 1) = σ0) ∧ (∀ i, w' ≤ i → i < w → σ i = σ0) ∧ c2' ≤ 64 ∧ f_X0_join_0 k (cs σ0) (nI (σ0 + 4)) ws wp (nI w) (nI (nc σ w)) (-1) st (nI c2) = some (1, nI w', nI (nc σ w'), -1, st', nI c2') ∧ f_X6_joins_0 k2 (nI σ0) (-1) (nI h) many sK sF sO sX sM pile pp (nI w) (nI (nc σ w)) = some (-1, many', sK', sF', sO', sX', sM', nI w', nI (nc σ w')) ∧ many' (4 * h + 2) = nI c2' ∧ (∀ j, ¬ j = 4 * h + 2 → many' j = many j) ∧ SR h c2' st' sK' sF' sO' sX' sM' ∧ FS h sK sF sO sX sM sK' sF' sO' sX' sM') := by
  intro w
  induction w with
  | zero =>
    intro k k2 c2 st many sK sF sO sX sM hk hk2 hw hP hN hm hc hS
    obtain ⟨k, rfl⟩ : ∃ j, k = j + 1 := ⟨k - 1, by omega⟩
    obtain ⟨k2, rfl⟩ : ∃ j, k2 = j + 1 := ⟨k2 - 1, by omega⟩
    refine Or.inr ⟨0, c2, st, many, sK, sF, sO, sX, sM, Nat.le_refl _, Or.inl rfl, fun i h1 h2 => by omega, hc, ?_, ?_, hm, fun j _ => rfl, hS, FS_rf _ _ _ _ _ _⟩
    · rw [f_X0_join_0, if_pos (show nI 0 ≤ 0 by decide)]
    · rw [f_X6_joins_0, if_pos (show nI 0 ≤ 0 by decide)]
  | succ w ih =>
    intro k k2 c2 st many sK sF sO sX sM hk hk2 hw hP hN hm hc hS
    obtain ⟨k, rfl⟩ : ∃ j, k = j + 1 := ⟨k - 1, by omega⟩
    obtain ⟨k2, rfl⟩ : ∃ j, k2 = j + 1 := ⟨k2 - 1, by omega⟩
    obtain ⟨p1, p2, p3, x, p4, p5, p6⟩ := hP w (by omega)
    rw [f_X0_join_0, if_neg (nI_nle (by omega) (by omega)), nI_pred, rd_in (show w < 98 by omega) (by decide), p2, f_X6_joins_0, if_neg (nI_nle (by omega) (by omega)), nI_pred, rd_in (show w < 120 by omega) (by decide), p3]
    by_cases g : σ w = σ0
    · rw [g, if_pos rfl, if_pos rfl, if_pos rfl]
      have rA : ∀ {β : Type} (f : Nat → Int32) (k : Int32 → Option β), rd f 120 (nI w) k = k (f w) := fun f k => rd_in (by omega) (by decide)
      have rB : ∀ {β : Type} (f : Nat → Int32) (k : Int32 → Option β), rd f 98 (nI w) k = k (f w) := fun f k => rd_in (by omega) (by decide)
      simp only [on_eq, rA, rB, p5, p6, C_refuse, ob2_s, gz_0, show nI σ0 + 4 = nI (σ0 + 4) from nI_add _ 4]
      have nn : nc σ (w + 1) = nc σ w + (if σ0 < 2 then 1 else 0) := by show nc σ w + (if σ w < 2 then 1 else 0) = _; rw [g]
      have e6 : (if cs σ0 = 6 then nI (nc σ (w + 1)) - 1 else nI (nc σ (w + 1))) = nI (nc σ w) := by
        have c : σ0 = 1 ∨ σ0 = 2 ∨ σ0 = 3 := by omega
        rcases c with rfl | rfl | rfl
        · rw [if_pos (show cs 1 = 6 from rfl), nn, if_pos (by decide), nI_pred]
        · rw [if_neg (by decide), nn, if_neg (by decide)]; rfl
        · rw [if_neg (by decide), nn, if_neg (by decide)]; rfl
      have e1 : (if nI σ0 = 1 then nI (nc σ (w + 1)) - 1 else nI (nc σ (w + 1)) - 0) = nI (nc σ w) := by
        have c : σ0 = 1 ∨ σ0 = 2 ∨ σ0 = 3 := by omega
        rcases c with rfl | rfl | rfl
        · rw [if_pos (show nI 1 = 1 from rfl), nn, if_pos (by decide), nI_pred]
        · rw [if_neg (by decide), nn, if_neg (by decide), Int32.sub_zero]; rfl
        · rw [if_neg (by decide), nn, if_neg (by decide), Int32.sub_zero]; rfl
      have mono : nc σ w ≤ nc σ (w + 1) := nc_mono 1
      rcases R_step (k := nI (σ0 + 4)) (f := -1) (o := -1) (x := -1) (m := 0) (pl := nI x) hh hc hm hS (nI_ne x (by omega)) with ⟨r1, r2⟩ | ⟨st', sK', sF', sO', sX', sM', r0, r1, r2, r3, r4⟩
      · rw [r1, ob3_s, ob3_s, if_pos rfl, if_pos rfl, r2, ob7_s, ob7_s]
        obtain ⟨k2, rfl⟩ : ∃ j, k2 = j + 1 := ⟨k2 - 1, by omega⟩
        rw [M_joinsI (by omega) (nI_ne x (by omega)), M_joinsI (by omega) (nI_ne x (by omega))]
        refine Or.inl ⟨x, w, nI w, nI (nc σ w), st, nI c2, many, sK, sF, sO, sX, sM, nI (nc σ w), p4, by omega, ?_, ?_, frm_rf _ _ _, FS_rf _ _ _ _ _ _⟩
        · rw [← e6]; split <;> rfl
        · rw [← e1]; split <;> rfl
      · rw [r1, ob3_s, ob3_s, if_neg (show ¬ (1 : Int32) = 0 by decide), if_neg (show ¬ (1 : Int32) = 0 by decide), r2, ob7_s, ob7_s]
        have f1 : frm 4 h many (upd many (4 * h + 2) (nI (c2 + 1))) := frm_up (by omega) (by omega)
        have E6 : (if cs σ0 = 6 then f_X0_join_0 k (cs σ0) (nI (σ0 + 4)) ws wp (nI w) (nI (nc σ (w + 1)) - 1) (-1) st' (nI (c2 + 1)) else f_X0_join_0 k (cs σ0) (nI (σ0 + 4)) ws wp (nI w) (nI (nc σ (w + 1))) (-1) st' (nI (c2 + 1))) = f_X0_join_0 k (cs σ0) (nI (σ0 + 4)) ws wp (nI w) (nI (nc σ w)) (-1) st' (nI (c2 + 1)) := by
          rw [← e6]; split <;> rfl
        have E1 : (if nI σ0 = 1 then f_X6_joins_0 k2 (nI σ0) (-1) (nI h) (upd many (4 * h + 2) (nI (c2 + 1))) sK' sF' sO' sX' sM' pile pp (nI w) (nI (nc σ (w + 1)) - 1) else f_X6_joins_0 k2 (nI σ0) (-1) (nI h) (upd many (4 * h + 2) (nI (c2 + 1))) sK' sF' sO' sX' sM' pile pp (nI w) (nI (nc σ (w + 1)) - 0)) = f_X6_joins_0 k2 (nI σ0) (-1) (nI h) (upd many (4 * h + 2) (nI (c2 + 1))) sK' sF' sO' sX' sM' pile pp (nI w) (nI (nc σ w)) := by
          rw [← e1]; split <;> rfl
        rw [E6, E1]
        rcases ih k k2 (c2 + 1) st' (upd many (4 * h + 2) (nI (c2 + 1))) sK' sF' sO' sX' sM' (by omega) (by omega) (by omega) (fun i hi => hP i (by omega)) (by omega) pk_us (by omega) r3 with ⟨y, w', u1, u2, u4, u5, many2, sK2, sF2, sO2, sX2, sM2, v, a1, a2, a3, a4, a5, a6⟩ | ⟨w', c2', st2, many2, sK2, sF2, sO2, sX2, sM2, a1, a2, a3, a4, a5, a6, a7, a8, a9, a10⟩
        · exact Or.inl ⟨y, w', u1, u2, u4, u5, many2, sK2, sF2, sO2, sX2, sM2, v, a1, by omega, a3, a4, frm_tr f1 a5, FS_tr r4 a6⟩
        · refine Or.inr ⟨w', c2', st2, many2, sK2, sF2, sO2, sX2, sM2, by omega, a2, ?_, a4, a5, a6, a7, fun j hj => by rw [a8 j hj, pk_un hj], a9, FS_tr r4 a10⟩
          intro i i1 i2
          rcases Nat.lt_or_ge i w with q | q
          · exact a3 i i1 q
          · obtain rfl : i = w := by omega
            exact g
    · have g1 : ¬ cs (σ w) = cs σ0 := fun z => g (cs_inj p1 (by omega) z)
      have g2 : ¬ nI (σ w) = nI σ0 := fun z => g ((nI_eq (by omega) (by omega)).mp z)
      rw [if_neg g1, if_neg g2]
      exact Or.inr ⟨w + 1, c2, st, many, sK, sF, sO, sX, sM, Nat.le_refl _, Or.inr (by rw [Nat.add_sub_cancel]; exact g), fun i h1 h2 => by omega, hc, rfl, rfl, hm, fun j _ => rfl, hS, FS_rf _ _ _ _ _ _⟩
theorem wl_4 {t : Nat → Int32} {n s : Nat} (h : wd (Lk t n) n s = 4) : tkE (Lk t n) n s = s + 3 := by
  have h1 := (wd_iff (j := 4) (q := RT.getD 4 (0, 0, 0)) rfl).mp h
  have h2 := (mt_iff.mp ((wv_iff (q := RT.getD 4 (0, 0, 0)) (by decide)).mp h1)).1
  rw [tkE_word (wd_letter (by omega)), h2]
  rfl
theorem wl_5 {t : Nat → Int32} {n s : Nat} (h : wd (Lk t n) n s = 5) : tkE (Lk t n) n s = s + 2 := by
  have h1 := (wd_iff (j := 5) (q := RT.getD 5 (0, 0, 0)) rfl).mp h
  have h2 := (mt_iff.mp ((wv_iff (q := RT.getD 5 (0, 0, 0)) (by decide)).mp h1)).1
  rw [tkE_word (wd_letter (by omega)), h2]
  rfl
theorem R_joinF {n h σ0 w c2 : Nat} {A B D : Int32} {σ : Nat → Nat} {ws wp pile pp st many sK sF sO sX sM : Nat → Int32} (hA : cs σ0 = A) (hB : nI (σ0 + 4) = B) (hD : nI σ0 = D) (hn : n ≤ 2000) (hh : h ≤ 1) (h1 : 1 ≤ σ0) (h3 : σ0 ≤ 3) (hw : w ≤ 98) (hP : PR n w σ ws wp pile pp) (hN : nc σ w ≤ 32) (hm : many (4 * h + 2) = nI c2) (hc : c2 ≤ 64) (hS : SR h c2 st sK sF sO sX sM) :
    (∃ x w' u1 u2 u4 u5 many' sK' sF' sO' sX' sM' v, x ≤ n ∧ w' ≤ w ∧ f_X0_join A B ws wp (nI w) (nI (nc σ w)) (-1) st (nI c2) = some (0, u1, u2, nI x, u4, u5) ∧ f_X6_joins D (-1) (nI h) many sK sF sO sX sM pile pp (nI w) (nI (nc σ w)) = some (nI x, many', sK', sF', sO', sX', sM', nI w', v) ∧ frm 4 h many many' ∧ FS h sK sF sO sX sM sK' sF' sO' sX' sM') ∨
    (∃ w' c2' st' many' sK' sF' sO' sX' sM', w' ≤ w ∧ (w' = 0 ∨ ¬ σ (w' - 1) = σ0) ∧ (∀ i, w' ≤ i → i < w → σ i = σ0) ∧ c2' ≤ 64 ∧ f_X0_join A B ws wp (nI w) (nI (nc σ w)) (-1) st (nI c2) = some (1, nI w', nI (nc σ w'), -1, st', nI c2') ∧ f_X6_joins D (-1) (nI h) many sK sF sO sX sM pile pp (nI w) (nI (nc σ w)) = some (-1, many', sK', sF', sO', sX', sM', nI w', nI (nc σ w')) ∧ many' (4 * h + 2) = nI c2' ∧ (∀ j, ¬ j = 4 * h + 2 → many' j = many j) ∧ SR h c2' st' sK' sF' sO' sX' sM' ∧ FS h sK sF sO sX sM sK' sF' sO' sX' sM') := by
  subst hA hB hD
  rw [f_X0_join, f_X6_joins]
  rcases R_join hn hh h1 h3 w FU FU c2 st many sK sF sO sX sM (by show w < 4096; omega) (by show w < 4096; omega) hw hP hN hm hc hS with ⟨x, w', u1, u2, u4, u5, many', sK', sF', sO', sX', sM', v, a1, a2, a3, a4, a5⟩ | ⟨w', c2', st', many', sK', sF', sO', sX', sM', a1, a2, a3, a4, a5, a6, a7⟩
  · rw [a4, ob9_s]
    exact Or.inl ⟨x, w', u1, u2, u4, u5, many', sK', sF', sO', sX', sM', v, a1, a2, a3, rfl, a5⟩
  · rw [a6, ob9_s]
    exact Or.inr ⟨w', c2', st', many', sK', sF', sO', sX', sM', a1, a2, a3, a4, a5, rfl, a7⟩
theorem M_joinsF {h w : Nat} {l1 ill op : Int32} {many sK sF sO sX sM pile pp : Nat → Int32} (hw : w ≤ 98) (hi : ¬ ill = -1) : f_X6_joins l1 ill (nI h) many sK sF sO sX sM pile pp (nI w) op = some (ill, many, sK, sF, sO, sX, sM, nI w, op) := by
  rw [f_X6_joins, show FU = 4095 + 1 from rfl, M_joinsI hw hi, ob9_s]
