/-! pure rows: not and ( in front of a test, both sides at once -/
def ST (n w : Nat) (σ : Nat → Nat) (ws wp pile pp : Nat → Int32) : Prop := PR n w σ ws wp pile pp ∧ VS σ w ∧ nc σ w ≤ 32
def sp (σ : Nat → Nat) (w x : Nat) : Nat → Nat := fun j => if j = w then x else σ j
theorem sp_s (σ : Nat → Nat) (w x : Nat) : sp σ w x w = x := if_pos rfl
theorem sp_n (σ : Nat → Nat) (w x j : Nat) (h : ¬ j = w) : sp σ w x j = σ j := if_neg h
theorem ST_w {n w : Nat} {σ : Nat → Nat} {ws wp pile pp : Nat → Int32} (h : ST n w σ ws wp pile pp) : oc σ w ≤ 32 ∧ w ≤ nc σ w + 2 * nc σ w + ph σ w ∧ ph σ w ≤ 2 := by
  obtain ⟨h1, h2, h3⟩ := h
  have := st_b w (fun i hi => (h1 i hi).1) h2
  omega
theorem ST_push {n w x pos : Nat} {σ : Nat → Nat} {ws wp pile pp : Nat → Int32} (h : ST n w σ ws wp pile pp) (hx : x < 4) (hp : pos ≤ n) (h3 : x = 3 → ph σ w = 0) (h2 : x = 2 → ph σ w ≤ 1) (hb : 2 ≤ x → w = 0 ∨ ¬ σ (w - 1) = 1) (hN : x < 2 → nc σ w < 32) : ST n (w + 1) (sp σ w x) (upd ws w (cs x)) (upd wp w (nI pos)) (upd pile w (nI x)) (upd pp w (nI pos)) ∧ nc (sp σ w x) (w + 1) = nc σ w + (if x < 2 then 1 else 0) := by
  obtain ⟨a1, a2, a3⟩ := h
  have cg : ∀ i, i ≤ w → ph (sp σ w x) i = ph σ i ∧ nc (sp σ w x) i = nc σ i ∧ oc (sp σ w x) i = oc σ i := fun i hi => st_congr i (fun j hj => sp_n _ _ _ _ (by omega))
  have e : nc (sp σ w x) (w + 1) = nc σ w + (if x < 2 then 1 else 0) := by
    show nc (sp σ w x) w + (if sp σ w x w < 2 then 1 else 0) = _
    rw [sp_s, (cg w (Nat.le_refl _)).2.1]
  refine ⟨⟨?_, ?_, ?_⟩, e⟩
  · intro i hi
    rcases Nat.lt_or_ge i w with q | q
    · rw [sp_n _ _ _ _ (by omega), pk_un (by omega), pk_un (by omega), pk_un (by omega), pk_un (by omega)]
      exact a1 i q
    · obtain rfl : i = w := by omega
      rw [sp_s, pk_us, pk_us, pk_us, pk_us]
      exact ⟨hx, rfl, rfl, pos, hp, rfl, rfl⟩
  · intro i hi
    rcases Nat.lt_or_ge i w with q | q
    · rw [sp_n _ _ _ _ (by omega), sp_n _ _ _ (i - 1) (by omega), (cg i (by omega)).1]
      exact a2 i q
    · obtain rfl : i = w := by omega
      rw [sp_s, (cg i (Nat.le_refl _)).1]
      refine ⟨h3, h2, fun z => ?_⟩
      rcases hb z with y | y
      · exact Or.inl y
      · by_cases y0 : i = 0
        · exact Or.inl y0
        · rw [sp_n _ _ _ (i - 1) (by omega)]; exact Or.inr y
  · rw [e]
    by_cases q : x < 2
    · have := hN q; rw [if_pos q]; omega
    · rw [if_neg q]; omega
theorem M_push {w : Nat} {pile pp : Nat → Int32} (hw : w < 120) (x y : Int32) : f_X6_push x y pile pp (nI w) = some (upd pile w x, upd pp w y, nI (w + 1)) := by
  rw [f_X6_push, wr_in hw (by decide), wr_in hw (by decide), on_eq, nI_1]
theorem C_await {b t ws wp : Nat → Int32} {n w s : Nat} (hB : BY b n) (hL : Lk b n = Lk t n) (hn : n ≤ 2000) (hw : w < 98) (hs : tkE (Lk t n) n s ≤ n) (tok : Int32) : f_X0_await ws wp (nI w) (-1) tok (nI s) (nI (tkE (Lk t n) n s)) b (nI n) = some (1, upd ws w tok, upd wp w (nI s), nI (w + 1), -1, tkT (Lk t n) n (sk (Lk t n) n (tkE (Lk t n) n s)), nI (sk (Lk t n) n (tkE (Lk t n) n s)), nI (tkE (Lk t n) n (sk (Lk t n) n (tkE (Lk t n) n s)))) := by
  rw [f_X0_await, if_pos (show nI w < 98 from nI_lt (b := 98) hw (by decide)), wr_in hw (by decide), wr_in hw (by decide), on_eq, nI_1, A_adv hB hL hn hs, ob3_s]
section CXo
variable {b t gr ln nm kd ty fla gr' ln' nm' ty' : Nat → Int32} {n z h : Nat} {V : Nat → Bool} {many sK sF sO sX sM Lt Lf Ls By sd : Nat → Int32} {Nu : Nat → Int64}
theorem M_testI {k : Nat} {p ill v w : Int32} {pile pp : Nat → Int32} (hi : ¬ ill = -1) : f_X6_readTest_0 (k + 1) t (nI n) p ill gr' kd ty' ln' nm' (nI z) (nI h) many sK sF sO sX sM Lt Lf Ls By sd Nu pile pp v w = some (p, ill, many, sK, sF, sO, sX, sM, Lt, Lf, Ls, By, sd, Nu, pile, pp, v, w) := by
  rw [f_X6_readTest_0, if_neg hi]
theorem R_open (K : CX b t gr ln nm kd ty fla gr' ln' nm' ty' n z h V) : ∀ (d p i w k k2 : Nat) (σ : Nat → Nat) (ws wp pile pp : Nat → Int32), n - p ≤ d → d < k → d + 1 < k2 → p ≤ n → i ≤ nc σ w → ST n w σ ws wp pile pp →
    (∃ x, x ≤ n ∧ (∃ u1 u2 u3 u4 u6 u7 u8, f_X0_openTests_2 k (nI i) ws wp (nI w) (nI (nc σ w)) (-1) (tkT (Lk t n) n (sk (Lk t n) n p)) (nI (sk (Lk t n) n p)) (nI (tkE (Lk t n) n (sk (Lk t n) n p))) b (nI n) = some (0, u1, u2, u3, u4, nI x, u6, u7, u8)) ∧ ∃ a pile' pp' v1 v2, a < 5000 ∧ f_X6_readTest_0 k2 t (nI n) (nI p) (-1) gr' kd ty' ln' nm' (nI z) (nI h) many sK sF sO sX sM Lt Lf Ls By sd Nu pile pp (nI w) (nI (nc σ w)) = some (nI a, nI x, many, sK, sF, sO, sX, sM, Lt, Lf, Ls, By, sd, Nu, pile', pp', v1, v2)) ∨
    (∃ s w' σ' ws' wp' pile' pp', p ≤ s ∧ s ≤ n ∧ sk (Lk t n) n s = s ∧ ST n w' σ' ws' wp' pile' pp' ∧ f_X0_openTests_2 k (nI i) ws wp (nI w) (nI (nc σ w)) (-1) (tkT (Lk t n) n (sk (Lk t n) n p)) (nI (sk (Lk t n) n p)) (nI (tkE (Lk t n) n (sk (Lk t n) n p))) b (nI n) = some (1, ws', wp', nI w', nI (nc σ' w'), -1, tkT (Lk t n) n s, nI s, nI (tkE (Lk t n) n s)) ∧ f_X6_readTest_0 k2 t (nI n) (nI p) (-1) gr' kd ty' ln' nm' (nI z) (nI h) many sK sF sO sX sM Lt Lf Ls By sd Nu pile pp (nI w) (nI (nc σ w)) = ob14 (f_X6_readAsked (nI s) t (nI n) (nI s) (-1) gr' kd ty' ln' nm' (nI z) (nI h) many sK sF sO sX sM Lt Lf Ls By sd Nu) (fun x15 x16 x17 x18 x19 x20 x21 x22 x23 x24 x25 x26 x27 x28 => some (x15, x16, x17, x18, x19, x20, x21, x22, x23, x24, x25, x26, x27, x28, pile', pp', nI w', nI (nc σ' w')))) := by
  obtain ⟨hVc, hVm, hB, hBt, hL, hF, hty, hn, hz, hz', hg, hh⟩ := K
  intro d
  induction d with
  | zero =>
    intro p i w k k2 σ ws wp pile pp hd hk hk2 hp hi hS
    obtain ⟨k, rfl⟩ : ∃ j, k = j + 1 := ⟨k - 1, by omega⟩
    obtain ⟨k2, rfl⟩ : ∃ j, k2 = j + 1 := ⟨k2 - 1, by omega⟩
    obtain rfl : p = n := by omega
    have hN := hS.2.2
    have e0 : sk (Lk t p) p p = p := sk_gt t p p (Nat.le_refl _)
    have hw : ¬ wd (Lk t p) p p = 6 := fun z => by have := wd_letter (t := t) (n := p) (s := p) (by omega); rw [Lk_out (Nat.le_refl _)] at this; exact absurd this (by decide)
    have ho : ¬ Lk t p p = 40 := by rw [Lk_out (Nat.le_refl _)]; decide
    refine Or.inr ⟨p, w, σ, ws, wp, pile, pp, Nat.le_refl _, Nat.le_refl _, e0, hS, ?_, ?_⟩
    · rw [e0, f_X0_openTests_2, if_neg (show ¬ (32 : Int32) < nI i from nI_nlt (a := 32) (by omega) (by decide)), if_neg (show ¬ tkT (Lk t p) p p = 6 from fun z => hw ((tk_word (k := 6) (by decide)).mp z)), if_neg (fun z => ho (tk_open.mp z))]
    · rw [f_X6_readTest_0, if_pos rfl, M_blanks hn (by omega), e0, ob1_s, M_takes_6 hn hp, e0, if_neg hw, ob2_s, if_pos rfl, M_takesSign hn hp, e0, if_neg ho, ob2_s, if_pos rfl, if_pos rfl]
  | succ d ih =>
    intro p i w k k2 σ ws wp pile pp hd hk hk2 hp hi hS
    obtain ⟨k, rfl⟩ : ∃ j, k = j + 1 := ⟨k - 1, by omega⟩
    obtain ⟨k2, rfl⟩ : ∃ j, k2 = j + 1 := ⟨k2 - 1, by omega⟩
    have hN := hS.2.2
    obtain ⟨hw1, hw2, hw3⟩ := ST_w hS
    have hs := sk_le t n p hp
    have hge := sk_ge t n p
    have hss := sk_sk t n p
    rw [f_X0_openTests_2, if_neg (show ¬ (32 : Int32) < nI i from nI_nlt (a := 32) (by omega) (by decide)), f_X6_readTest_0, if_pos rfl, M_blanks hn (by omega), ob1_s]
    generalize sk (Lk t n) n p = s at hs hge hss ⊢
    have hE := tkE_le hBt hs
    have k6 : tkT (Lk t n) n s = 6 ↔ wd (Lk t n) n s = 6 := tk_word (k := 6) (by decide)
    have k20 := tk_open (t := t) (n := n) (s := s)
    rw [M_takes_6 hn hs, hss]
    by_cases w6 : wd (Lk t n) n s = 6
    · have hE2 := tkE_gt (t := t) (n := n) (s := s) (by omega)
      rw [if_pos w6, ob2_s, if_neg (show ¬ (1 : Int32) = 0 by decide), if_neg (show ¬ (1 : Int32) = -1 by decide), if_pos (k6.mpr w6)]
      by_cases g : nc σ w = 32
      · rw [g, if_pos (show nI 32 = 32 from rfl), if_neg (show ¬ nI 32 < 32 by decide), M_fail, ob1_s, on_eq, M_push (by omega), ob3_s, C_refuse, ob2_s, gz_0]
        obtain ⟨k2, rfl⟩ : ∃ j, k2 = j + 1 := ⟨k2 - 1, by omega⟩
        rw [M_testI (nI_ne s (by omega))]
        exact Or.inl ⟨s, hs, ⟨_, _, _, _, _, _, _, rfl⟩, _, _, _, _, _, by omega, rfl⟩
      · rw [if_neg (show ¬ nI (nc σ w) = 32 from fun z => g ((nI_eq (b := 32) (by omega) (by decide)).mp z)), if_pos (show nI (nc σ w) < 32 from nI_lt (b := 32) (by omega) (by decide)), on_eq, on_eq, nI_1, M_push (by omega), ob3_s, C_await hB hL hn (by omega) hE, ob8_s, if_neg (show ¬ (1 : Int32) = 0 by decide), on_eq, nI_1, k6.mpr w6]
        obtain ⟨q1, q2⟩ := ST_push (x := 1) (pos := s) hS (by decide) hs (fun z => by omega) (fun z => by omega) (fun z => by omega) (fun _ => by omega)
        have r := ih (tkE (Lk t n) n s) (i + 1) (w + 1) k k2 (sp σ w 1) (upd ws w (cs 1)) (upd wp w (nI s)) (upd pile w (nI 1)) (upd pp w (nI s)) (by omega) (by omega) (by omega) hE (by rw [q2, if_pos (by decide)]; omega) q1
        rw [q2, if_pos (show 1 < 2 by decide)] at r
        rcases r with r | ⟨s', w', σ', ws', wp', pile', pp', a1, a2⟩
        · exact Or.inl r
        · exact Or.inr ⟨s', w', σ', ws', wp', pile', pp', by omega, a2⟩
    rw [if_neg w6, ob2_s, if_pos rfl, M_takesSign hn hs, hss, if_neg (fun z => w6 (k6.mp z))]
    by_cases h40 : Lk t n s = 40
    · have hlt := Lk_lt h40 (by decide)
      have hE1 : tkE (Lk t n) n s = s + 1 := tkE_sign h40 (Or.inl rfl)
      rw [if_pos h40, ob2_s, if_neg (show ¬ (1 : Int32) = 0 by decide), if_neg (show ¬ (0 : Int32) = -1 by decide), if_pos (k20.mpr h40)]
      by_cases g : nc σ w = 32
      · rw [g, if_pos (show nI 32 = 32 from rfl), if_neg (show ¬ nI 32 < 32 by decide), M_fail, ob1_s, on_eq, M_push (by omega), ob3_s, C_refuse, ob2_s, gz_0]
        obtain ⟨k2, rfl⟩ : ∃ j, k2 = j + 1 := ⟨k2 - 1, by omega⟩
        rw [M_testI (nI_ne s (by omega))]
        exact Or.inl ⟨s, hs, ⟨_, _, _, _, _, _, _, rfl⟩, _, _, _, _, _, by omega, rfl⟩
      · rw [if_neg (show ¬ nI (nc σ w) = 32 from fun z => g ((nI_eq (b := 32) (by omega) (by decide)).mp z)), if_pos (show nI (nc σ w) < 32 from nI_lt (b := 32) (by omega) (by decide)), on_eq, on_eq, nI_1, M_push (by omega), ob3_s, C_await hB hL hn (by omega) hE, ob8_s, if_neg (show ¬ (1 : Int32) = 0 by decide), on_eq, nI_1, k20.mpr h40, hE1]
        obtain ⟨q1, q2⟩ := ST_push (x := 0) (pos := s) hS (by decide) hs (fun z => by omega) (fun z => by omega) (fun z => by omega) (fun _ => by omega)
        have r := ih (s + 1) (i + 1) (w + 1) k k2 (sp σ w 0) (upd ws w (cs 0)) (upd wp w (nI s)) (upd pile w (nI 0)) (upd pp w (nI s)) (by omega) (by omega) (by omega) (by omega) (by rw [q2, if_pos (by decide)]; omega) q1
        rw [q2, if_pos (show 0 < 2 by decide)] at r
        rcases r with r | ⟨s', w', σ', ws', wp', pile', pp', a1, a2⟩
        · exact Or.inl r
        · exact Or.inr ⟨s', w', σ', ws', wp', pile', pp', by omega, a2⟩
    · rw [if_neg h40, ob2_s, if_pos rfl, if_pos rfl, if_neg (fun z => h40 (k20.mp z))]
      exact Or.inr ⟨s, w, σ, ws, wp, pile, pp, hge, hs, hss, hS, rfl, rfl⟩
end CXo
