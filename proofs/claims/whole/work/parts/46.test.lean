/-! pure rows: one test, both sides at once -/
theorem R_gz {t : Nat → Int32} {n h p c2 : Nat} {many sK sF sO sX sM Lt Lf Ls By sd : Nat → Int32} {Nu : Nat → Int64} {C : Option (Int32 × Int32 × Int32 × Int32 × Int32 × Int64 × Int32 × Int32 × (Nat → Int32) × (Nat → Int32) × (Nat → Int64) × (Nat → Int32) × (Nat → Int32) × (Nat → Int32) × Int32 × Int32 × Int32)} {M : Option (Int32 × Int32 × (Nat → Int32) × (Nat → Int32) × (Nat → Int32) × (Nat → Int32) × (Nat → Int32) × (Nat → Int32) × (Nat → Int32) × (Nat → Int32) × (Nat → Int32) × (Nat → Int32) × (Nat → Int32) × (Nat → Int64))} (H : TErr n h many sK sF sO sX sM Lt Lf Ls By sd Nu C M ∨ TOk t n h p c2 many sK sF sO sX sM Lt Lf Ls By sd Nu C M) :
    TErr n h many sK sF sO sX sM Lt Lf Ls By sd Nu (ob17 C (fun x28 x29 x30 x31 x32 x33 x34 x35 x36 x37 x38 x39 x40 x41 x42 x43 x44 => gz x28 (some (x28, x29, x30, x31, x32, x33, x34, x35, x36, x37, x38, x39, x40, x41, x42, x43, x44)))) M ∨ TOk t n h p c2 many sK sF sO sX sM Lt Lf Ls By sd Nu (ob17 C (fun x28 x29 x30 x31 x32 x33 x34 x35 x36 x37 x38 x39 x40 x41 x42 x43 x44 => gz x28 (some (x28, x29, x30, x31, x32, x33, x34, x35, x36, x37, x38, x39, x40, x41, x42, x43, x44)))) M := by
  rcases H with ⟨x, x1, ⟨u1, u2, u3, u4, u5, u6, u7, u8, u9, u10, u11, u12, u13, u14, u15, rfl⟩, r⟩ | ⟨a, c3, e, nr, es, bb, st, lt, nb, ts, tl, tb, many', sK', sF', sO', sX', sM', Lt', Lf', Ls', By', sd', Nu', r1, r2, r3, rfl, r⟩
  · rw [ob17_s, gz_0]
    exact Or.inl ⟨x, x1, ⟨_, _, _, _, _, _, _, _, _, _, _, _, _, _, _, rfl⟩, r⟩
  · rw [ob17_s, gz_1]
    exact Or.inr ⟨a, c3, e, nr, es, bb, st, lt, nb, ts, tl, tb, many', sK', sF', sO', sX', sM', Lt', Lf', Ls', By', sd', Nu', r1, r2, r3, rfl, r⟩
theorem R_gz7 {t : Nat → Int32} {n h p c2 : Nat} {many sK sF sO sX sM Lt Lf Ls By sd : Nat → Int32} {Nu : Nat → Int64} {lt ts tl tb : Nat → Int32} {nb : Nat → Int64} {nr : Int64} {es bb c3 e : Int32} {C : Option (Int32 × Int32 × Int32 × Int32 × Int32 × (Nat → Int32) × Int32)} {M : Option (Int32 × Int32 × (Nat → Int32) × (Nat → Int32) × (Nat → Int32) × (Nat → Int32) × (Nat → Int32) × (Nat → Int32) × (Nat → Int32) × (Nat → Int32) × (Nat → Int32) × (Nat → Int32) × (Nat → Int32) × (Nat → Int64))} (H : TErr n h many sK sF sO sX sM Lt Lf Ls By sd Nu (ob7 C (fun x45 x46 x47 x48 x49 x50 x51 => some (x45, x46, x47, x48, x49, nr, es, bb, x50, lt, nb, ts, tl, tb, x51, c3, e))) M ∨ TOk t n h p c2 many sK sF sO sX sM Lt Lf Ls By sd Nu (ob7 C (fun x45 x46 x47 x48 x49 x50 x51 => some (x45, x46, x47, x48, x49, nr, es, bb, x50, lt, nb, ts, tl, tb, x51, c3, e))) M) :
    TErr n h many sK sF sO sX sM Lt Lf Ls By sd Nu (ob7 C (fun x45 x46 x47 x48 x49 x50 x51 => gz x45 (some (x45, x46, x47, x48, x49, nr, es, bb, x50, lt, nb, ts, tl, tb, x51, c3, e)))) M ∨ TOk t n h p c2 many sK sF sO sX sM Lt Lf Ls By sd Nu (ob7 C (fun x45 x46 x47 x48 x49 x50 x51 => gz x45 (some (x45, x46, x47, x48, x49, nr, es, bb, x50, lt, nb, ts, tl, tb, x51, c3, e)))) M := by
  cases C with
  | none => exact H
  | some C =>
    obtain ⟨x45, x46, x47, x48, x49, x50, x51⟩ := C
    rw [ob7_s]
    rw [ob7_s] at H
    have g : x45 = 0 ∨ x45 = 1 := by
      rcases H with ⟨x, x1, ⟨u1, u2, u3, u4, u5, u6, u7, u8, u9, u10, u11, u12, u13, u14, u15, r⟩, _⟩ | ⟨a, c3, e, nr, es, bb, st, lt, nb, ts, tl, tb, many', sK', sF', sO', sX', sM', Lt', Lf', Ls', By', sd', Nu', r1, r2, r3, r, _⟩
      · cases r; exact Or.inl rfl
      · cases r; exact Or.inr rfl
    rcases g with g | g
    · rw [g, gz_0]; rw [g] at H; exact H
    · rw [g, gz_1]; rw [g] at H; exact H
section CXu
variable {b t gr ln nm kd ty fla gr' ln' nm' ty' : Nat → Int32} {n z h : Nat} {V : Nat → Bool} {s f c2 c3 e : Nat} {es bb : Int32} {nr : Int64} {st lt ts tl tb many sK sF sO sX sM Lt Lf Ls By sd : Nat → Int32} {nb Nu : Nat → Int64}
theorem R_null30 (K : CX b t gr ln nm kd ty fla gr' ln' nm' ty' n z h V) {p : Nat} (hs : s ≤ n) (hsp : s < p) (hp : p ≤ n) (hes : e ≤ s) (D : DR h c2 c3 e st lt nb ts tl tb many sK sF sO sX sM Lt Lf Ls By sd Nu) {κ : Int32} (hκ : κ = 0 ∨ κ = 1) :
    TErr n h many sK sF sO sX sM Lt Lf Ls By sd Nu (ob7 (f_X0_readIsNull_30 (nI f) (nI s) κ (-1) (tkT (Lk t n) n (sk (Lk t n) n p)) (nI (sk (Lk t n) n p)) (nI (tkE (Lk t n) n (sk (Lk t n) n p))) st (nI c2) b (nI n)) (fun x45 x46 x47 x48 x49 x50 x51 => some (x45, x46, x47, x48, x49, nr, es, bb, x50, lt, nb, ts, tl, tb, x51, nI c3, nI e))) (ob2 (f_X6_takesWord (1853189228 : Int64) t (nI n) (nI p) (-1)) (fun x100 x101 => if x100 = 0 then (ob1 (f_X6_fail x101 (-1)) (fun x102 => f_X6_readAsked_50 (nI s) (nI f) κ x101 x102 (nI h) many sK sF sO sX sM Lt Lf Ls By sd Nu)) else (f_X6_readAsked_50 (nI s) (nI f) κ x101 (-1) (nI h) many sK sF sO sX sM Lt Lf Ls By sd Nu))) ∨
    TOk t n h s c2 many sK sF sO sX sM Lt Lf Ls By sd Nu (ob7 (f_X0_readIsNull_30 (nI f) (nI s) κ (-1) (tkT (Lk t n) n (sk (Lk t n) n p)) (nI (sk (Lk t n) n p)) (nI (tkE (Lk t n) n (sk (Lk t n) n p))) st (nI c2) b (nI n)) (fun x45 x46 x47 x48 x49 x50 x51 => some (x45, x46, x47, x48, x49, nr, es, bb, x50, lt, nb, ts, tl, tb, x51, nI c3, nI e))) (ob2 (f_X6_takesWord (1853189228 : Int64) t (nI n) (nI p) (-1)) (fun x100 x101 => if x100 = 0 then (ob1 (f_X6_fail x101 (-1)) (fun x102 => f_X6_readAsked_50 (nI s) (nI f) κ x101 x102 (nI h) many sK sF sO sX sM Lt Lf Ls By sd Nu)) else (f_X6_readAsked_50 (nI s) (nI f) κ x101 (-1) (nI h) many sK sF sO sX sM Lt Lf Ls By sd Nu))) := by
  obtain ⟨hVc, hVm, hB, hBt, hL, hF, hty, hn, hz, hz', hg, hh⟩ := K
  have hs' := sk_le t n p hp
  have hg' := sk_ge t n p
  have k8 : tkT (Lk t n) n (sk (Lk t n) n p) = 8 ↔ wd (Lk t n) n (sk (Lk t n) n p) = 8 := tk_word (k := 8) (by decide)
  rw [f_X0_readIsNull_30, A_take hB hL hn hs', M_takes_8 hn hp]
  by_cases w8 : wd (Lk t n) n (sk (Lk t n) n p) = 8
  · have hE := tkE_le hBt hs'
    have hE2 := tkE_gt (t := t) (n := n) (s := sk (Lk t n) n p) (by omega)
    rw [if_pos (k8.mpr w8), if_pos w8, ob5_s, if_neg (show ¬ (1 : Int32) = 0 by decide), ob2_s, if_neg (show ¬ (1 : Int32) = 0 by decide)]
    obtain ⟨d1, d2, d3, d4, d5, d6, d7⟩ := D
    have e50 : f_X6_readAsked_50 (nI s) (nI f) κ (nI (tkE (Lk t n) n (sk (Lk t n) n p))) (-1) (nI h) many sK sF sO sX sM Lt Lf Ls By sd Nu = ob7 (f_X6_addStep (nI s) κ (nI f) (-1) (-1) 0 (-1) (nI h) many sK sF sO sX sM) (fun x1 x2 x3 x4 x5 x6 x7 => some (nI (tkE (Lk t n) n (sk (Lk t n) n p)), x1, x2, x3, x4, x5, x6, x7, Lt, Lf, Ls, By, sd, Nu)) := by
      rw [f_X6_readAsked_50]
      rcases hκ with rfl | rfl
      · rw [if_pos rfl]
      · rw [if_neg (show ¬ (1 : Int32) = 0 by decide)]
    rw [e50]
    rcases R_step (k := κ) (f := nI f) (o := -1) (x := -1) (m := 0) (pl := nI s) hh d4 d1 d6 (nI_ne s (by omega)) with ⟨r1, r2⟩ | ⟨st', sK', sF', sO', sX', sM', r0, r1, r2, r3, r4⟩
    · rw [r1, r2, ob3_s, ob7_s, if_pos rfl, C_refuse, ob2_s, if_pos rfl, ob7_s]
      exact Or.inl ⟨s, hs, ⟨_, _, _, _, _, _, _, _, _, _, _, _, _, _, _, rfl⟩, _, _, _, _, _, _, _, _, _, _, _, _, _, by omega, rfl, FD_rf _ _ _ _ _ _ _ _ _ _ _ _ _⟩
    · rw [r1, r2, ob3_s, ob7_s, if_neg (show ¬ (1 : Int32) = 0 by decide), ob7_s]
      exact Or.inr ⟨tkE (Lk t n) n (sk (Lk t n) n p), c3, e, _, _, _, _, _, _, _, _, _, _, _, _, _, _, _, _, _, _, _, _, _, by omega, hE, by omega, rfl, rfl, ⟨pk_us, by rw [pk_un (by omega)]; exact d2, d3, by omega, d5, r3, d7⟩, ⟨⟨frm_up (by omega) (by omega), frm_rf _ _ _, frm_rf _ _ _, frm_rf _ _ _, frm_rf _ _ _, frm_rf _ _ _, frm_rf _ _ _⟩, r4⟩, fun j h1 h2 => pk_un h1⟩
  · rw [if_neg (fun z => w8 (k8.mp z)), if_neg w8, ob5_s, if_pos rfl, ob7_s, ob2_s, if_pos rfl, M_fail, ob1_s, f_X6_readAsked_50, M_addStepI hh (nI_ne _ (by omega)), ob7_s, M_addStepI hh (nI_ne _ (by omega)), ob7_s, ite_self]
    exact Or.inl ⟨_, hs', ⟨_, _, _, _, _, _, _, _, _, _, _, _, _, _, _, rfl⟩, _, _, _, _, _, _, _, _, _, _, _, _, _, by omega, rfl, FD_rf _ _ _ _ _ _ _ _ _ _ _ _ _⟩
theorem R_asked (K : CX b t gr ln nm kd ty fla gr' ln' nm' ty' n z h V) (hs : s ≤ n) (hss : sk (Lk t n) n s = s) (hes : e ≤ s) (D : DR h c2 c3 e st lt nb ts tl tb many sK sF sO sX sM Lt Lf Ls By sd Nu) :
    TErr n h many sK sF sO sX sM Lt Lf Ls By sd Nu (f_X0_readTest (-1) (tkT (Lk t n) n s) (nI s) (nI (tkE (Lk t n) n s)) nr es bb nm ln gr ty fla (nI z) st lt nb ts tl tb (nI c2) (nI c3) (nI e) b (nI n)) (f_X6_readAsked (nI s) t (nI n) (nI s) (-1) gr' kd ty' ln' nm' (nI z) (nI h) many sK sF sO sX sM Lt Lf Ls By sd Nu) ∨
    TOk t n h s c2 many sK sF sO sX sM Lt Lf Ls By sd Nu (f_X0_readTest (-1) (tkT (Lk t n) n s) (nI s) (nI (tkE (Lk t n) n s)) nr es bb nm ln gr ty fla (nI z) st lt nb ts tl tb (nI c2) (nI c3) (nI e) b (nI n)) (f_X6_readAsked (nI s) t (nI n) (nI s) (-1) gr' kd ty' ln' nm' (nI z) (nI h) many sK sF sO sX sM Lt Lf Ls By sd Nu) := by
  have K' := K
  obtain ⟨hVc, hVm, hB, hBt, hL, hF, hty, hn, hz, hz', hg, hh⟩ := K
  have D' := D
  obtain ⟨d1, d2, d3, d4, d5, d6, d7⟩ := D
  have hz64 := hz.1
  rw [f_X0_readTest, f_X6_readAsked]
  rcases R_column K' hs hss with ⟨x, q1, ⟨u, v, w, q2⟩, g, a, q3, q4⟩ | ⟨f, u, v, w, q1, q2, q3, g, a, q4, q5⟩ | ⟨f, e1, q1, q2, q3, q4, q5, q6⟩
  · rw [q2, ob5_s, if_pos rfl, q4, ob3_s, if_neg (nI_ne x (by omega))]
    exact Or.inl ⟨x, q1, ⟨_, _, _, _, _, _, _, _, _, _, _, _, _, _, _, rfl⟩, a, _, _, _, _, _, _, _, _, _, _, _, _, by omega, rfl, FD_rf _ _ _ _ _ _ _ _ _ _ _ _ _⟩
  · rw [q3, ob5_s, if_neg (nI_ne f (by omega)), C_flatValue hVc hz64 q1, q2, ob1_s, if_pos bI_f, C_refuse, ob2_s, gz_0, q5, ob3_s, if_neg (nI_ne s (by omega))]
    exact Or.inl ⟨s, hs, ⟨_, _, _, _, _, _, _, _, _, _, _, _, _, _, _, rfl⟩, a, _, _, _, _, _, _, _, _, _, _, _, _, by omega, rfl, FD_rf _ _ _ _ _ _ _ _ _ _ _ _ _⟩
  rw [q5, ob5_s, if_neg (nI_ne f (by omega)), C_flatValue hVc hz64 q1, q2, ob1_s, if_neg bI_n, q6, ob3_s, if_pos rfl, M_takes_7 hn q4]
  have hs1 := sk_le t n e1 q4
  have hg1 := sk_ge t n e1
  have hss1 := sk_sk t n e1
  generalize sk (Lk t n) n e1 = s1 at hs1 hg1 hss1 ⊢
  have hE1 := tkE_le hBt hs1
  have k7 : tkT (Lk t n) n s1 = 7 ↔ wd (Lk t n) n s1 = 7 := tk_word (k := 7) (by decide)
  have k9 : tkT (Lk t n) n s1 = 9 ↔ wd (Lk t n) n s1 = 9 := tk_word (k := 9) (by decide)
  by_cases w7 : wd (Lk t n) n s1 = 7
  · have hE2 := tkE_gt (t := t) (n := n) (s := s1) (by omega)
    rw [if_pos (k7.mpr w7), if_pos w7, ob2_s, if_neg (show ¬ (1 : Int32) = 0 by decide)]
    refine R_gz7 ?_
    rw [f_X0_readIsNull, A_adv hB hL hn hE1, ob3_s, M_takes_6 hn hE1]
    have k6 : tkT (Lk t n) n (sk (Lk t n) n (tkE (Lk t n) n s1)) = 6 ↔ wd (Lk t n) n (sk (Lk t n) n (tkE (Lk t n) n s1)) = 6 := tk_word (k := 6) (by decide)
    have hs2 := sk_le t n _ hE1
    have hg2 := sk_ge t n (tkE (Lk t n) n s1)
    by_cases w6 : wd (Lk t n) n (sk (Lk t n) n (tkE (Lk t n) n s1)) = 6
    · have hE3 := tkE_le hBt hs2
      have hE4 := tkE_gt (t := t) (n := n) (s := sk (Lk t n) n (tkE (Lk t n) n s1)) (by omega)
      rw [if_pos (k6.mpr w6), if_pos w6, ob2_s, A_adv hB hL hn hE3, ob3_s]
      exact R_null30 K' hs (by omega) hE3 hes D' (Or.inr rfl)
    · rw [if_neg (fun z => w6 (k6.mp z)), if_neg w6, ob2_s]
      have r := R_null30 (f := f) (nr := nr) (es := es) (bb := bb) K' (p := sk (Lk t n) n (tkE (Lk t n) n s1)) hs (by omega) hs2 hes D' (Or.inl rfl)
      rw [sk_sk] at r
      exact r
  rw [if_neg (fun z => w7 (k7.mp z)), if_neg w7, ob2_s, if_pos rfl, M_4h 3 (k := 3) rfl, rd_in (show 4 * h + 3 < 8 by omega) (by decide), d2, M_takes_9 hn hs1, hss1]
  by_cases w9 : wd (Lk t n) n s1 = 9
  · have hE2 := tkE_gt (t := t) (n := n) (s := s1) (by omega)
    have hs2 := sk_le t n _ hE1
    have hg2 := sk_ge t n (tkE (Lk t n) n s1)
    rw [if_pos (k9.mpr w9), if_pos w9, ob2_s, if_neg (show ¬ (1 : Int32) = 0 by decide)]
    refine R_gz ?_
    rw [f_X0_readIn, A_adv hB hL hn hE1, ob3_s, A_take hB hL hn hs2, M_wantSign hn hE1]
    by_cases h40 : Lk t n (sk (Lk t n) n (tkE (Lk t n) n s1)) = 40
    · have hlt := Lk_lt h40 (by decide)
      rw [if_pos (tk_open.mpr h40), if_pos h40, ob5_s, if_neg (show ¬ (1 : Int32) = 0 by decide), ob2_s, if_pos rfl, tkE_sign h40 (Or.inl rfl), rd_in (show f < 64 by omega) (by decide)]
      generalize hp2 : sk (Lk t n) n (tkE (Lk t n) n s1) + 1 = p2
      have e1 : ∀ (X : Option (Int32 × Int32 × (Nat → Int32) × (Nat → Int32) × (Nat → Int32) × (Nat → Int32) × (Nat → Int32) × (Nat → Int32) × (Nat → Int64))) (G : Int32 → Int32 → (Nat → Int32) → (Nat → Int32) → (Nat → Int32) → (Nat → Int32) → (Nat → Int32) → (Nat → Int32) → (Nat → Int64) → Option (Int32 × Int32 × (Nat → Int32) × (Nat → Int32) × (Nat → Int32) × (Nat → Int32) × (Nat → Int32) × (Nat → Int32) × (Nat → Int64))) (H : Int32 → Int32 → (Nat → Int32) → (Nat → Int32) → (Nat → Int32) → (Nat → Int32) → (Nat → Int32) → (Nat → Int32) → (Nat → Int64) → Option (Int32 × Int32 × (Nat → Int32) × (Nat → Int32) × (Nat → Int32) × (Nat → Int32) × (Nat → Int32) × (Nat → Int32) × (Nat → Int32) × (Nat → Int32) × (Nat → Int32) × (Nat → Int32) × (Nat → Int32) × (Nat → Int64))), ob9 X (fun x70 x71 x72 x73 x74 x75 x76 x77 x78 => ob9 (G x70 x71 x72 x73 x74 x75 x76 x77 x78) H) = ob9 (ob9 X G) H := by
        intro X G H
        cases X with
        | none => rfl
        | some X => obtain ⟨_, _, _, _, _, _, _, _, _⟩ := X; rfl
      rw [e1]
      rcases R_inLoop (s := s) (st := st) (SC := nI c2) K' q1 (64 - c3) c3 p2 e FU FU nr es bb lt ts tl tb many Lt Lf Ls By sd nb Nu (by omega) (by omega) (by show 64 - c3 < 4096; omega) (by show 64 - c3 + 1 < 4096; omega) (Nat.le_refl _) (by omega) d2 d3 d7 with ⟨x, x1, ⟨u1, u2, u3, u4, u5, u6, u7, u8, u9, u10, u11, u12, u13, u14, u15, x2⟩, a, many', Lt', Lf', Ls', By', sd', Nu', x3, x4, x5⟩ | ⟨a, c', e', nr', es', bb', lt', nb', ts', tl', tb', many', Lt', Lf', Ls', By', sd', Nu', w1, w2, w3, w4, w5, w6, w7, w8, w9, w10, w11, w12⟩
      · rw [Nat.sub_self] at x2
        have x2 : f_X0_readIn_29 FU (nI f) (nI s) (nI c3) 0 (-1) (tkT (Lk t n) n (sk (Lk t n) n p2)) (nI (sk (Lk t n) n p2)) (nI (tkE (Lk t n) n (sk (Lk t n) n p2))) nr es bb ty (nI z) st lt nb ts tl tb (nI c2) (nI c3) (nI e) b (nI n) = _ := x2
        rw [x2, x4, ob9_s, M_wantSignI hn (by omega) _ (nI_ne x (by omega)), ob2_s, rd_in (show 4 * h + 3 < 8 by omega) (by decide), M_addStepI hh (nI_ne x (by omega)), ob7_s]
        exact Or.inl ⟨x, x1, ⟨_, _, _, _, _, _, _, _, _, _, _, _, _, _, _, rfl⟩, _, _, _, _, _, _, _, _, _, _, _, _, _, sk_5 hn x3, rfl, x5, FS_rf _ _ _ _ _ _⟩
      · rw [Nat.sub_self] at w6
        have w6 : f_X0_readIn_29 FU (nI f) (nI s) (nI c3) 0 (-1) (tkT (Lk t n) n (sk (Lk t n) n p2)) (nI (sk (Lk t n) n p2)) (nI (tkE (Lk t n) n (sk (Lk t n) n p2))) nr es bb ty (nI z) st lt nb ts tl tb (nI c2) (nI c3) (nI e) b (nI n) = _ := w6
        have hsa := sk_le t n a w2
        have hga := sk_ge t n a
        rw [w6, w7, ob9_s, f_X0_readIn_74, on_eq, A_take hB hL hn hsa, M_wantSign hn hsa, sk_sk]
        by_cases h41 : Lk t n (sk (Lk t n) n a) = 41
        · have hlt2 := Lk_lt h41 (by decide)
          rw [if_pos (tk_close.mpr h41), if_pos h41, ob5_s, if_neg (show ¬ (1 : Int32) = 0 by decide), ob2_s, rd_in (show 4 * h + 3 < 8 by omega) (by decide), w8, tkE_sign h41 (Or.inr (Or.inl rfl))]
          exact R_fin hn hh hs (by omega) (by omega) (by omega) ⟨by rw [w9 _ (by omega)]; exact d1, w8, w10, d4, w5, d6, w11⟩ w12 (fun j h1 h2 => w9 j h2)
        · rw [if_neg (fun z => h41 (tk_close.mp z)), if_neg h41, ob5_s, if_pos rfl, ob2_s, rd_in (show 4 * h + 3 < 8 by omega) (by decide), M_addStepI hh (nI_ne _ (by omega)), ob7_s]
          exact Or.inl ⟨_, hsa, ⟨_, _, _, _, _, _, _, _, _, _, _, _, _, _, _, rfl⟩, _, _, _, _, _, _, _, _, _, _, _, _, _, by omega, rfl, w12, FS_rf _ _ _ _ _ _⟩
    · rw [if_neg (fun z => h40 (tk_open.mp z)), if_neg h40, ob5_s, if_pos rfl, ob2_s, if_neg (nI_ne _ (by omega)), show FU = 4095 + 1 from rfl, M_117I hn (by omega) (nI_ne _ (by omega)), ob9_s, sk_sk, M_wantSignI hn (by omega) _ (nI_ne _ (by omega)), ob2_s, rd_in (show 4 * h + 3 < 8 by omega) (by decide), M_addStepI hh (nI_ne _ (by omega)), ob7_s]
      exact Or.inl ⟨_, hs2, ⟨_, _, _, _, _, _, _, _, _, _, _, _, _, _, _, rfl⟩, _, _, _, _, _, _, _, _, _, _, _, _, _, sk_5 hn (by omega), rfl, FD_rf _ _ _ _ _ _ _ _ _ _ _ _ _⟩
  rw [if_neg (fun z => w9 (k9.mp z)), if_neg w9, ob2_s, if_pos rfl]
  rcases R_operator hn hs1 hss1 with ⟨o1, o2⟩ | ⟨o, o1, o2, o3, o4⟩
  · rw [o2, ob3_s, if_neg (nI_ne s1 (by omega)), C_refuse, ob2_s, gz_0]
    refine Or.inl ⟨s1, hs1, ?_, _, _, _, _, _, _, _, _, _, _, _, _, _, by omega, rfl, FD_rf _ _ _ _ _ _ _ _ _ _ _ _ _⟩
    by_cases o3 : tkT (Lk t n) n s1 < 22
    · rw [if_pos o3]
      exact ⟨_, _, _, _, _, _, _, _, _, _, _, _, _, _, _, rfl⟩
    · rw [if_neg o3, if_pos (o1.resolve_left o3)]
      exact ⟨_, _, _, _, _, _, _, _, _, _, _, _, _, _, _, rfl⟩
  · rw [if_neg (show ¬ tkT (Lk t n) n s1 < 22 by rw [o2]; exact nI_nlt (b := 22) (by omega) (by omega)), if_neg (show ¬ 27 < tkT (Lk t n) n s1 by rw [o2]; exact nI_nlt (a := 27) (by omega) (by omega)), o4, ob3_s, if_pos rfl, M_blanks hn (by omega), ob1_s]
    refine R_gz ?_
    have hs2 := sk_le t n _ hE1
    have hg2 := sk_ge t n (tkE (Lk t n) n s1)
    have hss2 := sk_sk t n (tkE (Lk t n) n s1)
    rw [f_X0_readCompared, on_eq, o2, show nI (22 + o) - 22 = nI o by rw [show (22 : Int32) = nI 22 from rfl, nI_sub' (by omega)]; congr 1; omega, A_adv hB hL hn hE1, ob3_s]
    generalize sk (Lk t n) n (tkE (Lk t n) n s1) = s2 at hs2 hg2 hss2 ⊢
    rw [M_wordAt hn (by omega), ob1_s]
    have lit : ¬ tkT (Lk t n) n s2 = 16 → TErr n h many sK sF sO sX sM Lt Lf Ls By sd Nu (ob15 (f_X0_readLiteral (nI f) (-1) (tkT (Lk t n) n s2) (nI s2) (nI (tkE (Lk t n) n s2)) nr es bb ty (nI z) lt nb ts tl tb (nI c3) (nI e) b (nI n)) (fun x23 x24 x25 x26 x27 x28 x29 x30 x31 x32 x33 x34 x35 x36 x37 => if x23 = 0 then (some (0, x24, x25, x26, x27, x28, x29, x30, st, x31, x32, x33, x34, x35, nI c2, x36, x37)) else (ob3 (f_X1_addStep 3 (nI f) (nI o) (nI c3) 1 st (nI c2)) (fun x38 x39 x40 => if x38 = 0 then (ob2 (f_X0_refuse (nI s) x24) (fun x41 x42 => if x41 = 0 then (some (0, x42, x25, x26, x27, x28, x29, x30, x39, x31, x32, x33, x34, x35, x40, x36, x37)) else (some (1, x42, x25, x26, x27, x28, x29, x30, x39, x31, x32, x33, x34, x35, x40, x36, x37)))) else (some (1, x24, x25, x26, x27, x28, x29, x30, x39, x31, x32, x33, x34, x35, x40, x36, x37)))))) (f_X6_readAsked_302 (nI s) (nI f) (nI c3) (nI o) t (nI n) (nI s2) (-1) ty' (nI h) many sK sF sO sX sM Lt Lf Ls By sd Nu) ∨ TOk t n h s c2 many sK sF sO sX sM Lt Lf Ls By sd Nu (ob15 (f_X0_readLiteral (nI f) (-1) (tkT (Lk t n) n s2) (nI s2) (nI (tkE (Lk t n) n s2)) nr es bb ty (nI z) lt nb ts tl tb (nI c3) (nI e) b (nI n)) (fun x23 x24 x25 x26 x27 x28 x29 x30 x31 x32 x33 x34 x35 x36 x37 => if x23 = 0 then (some (0, x24, x25, x26, x27, x28, x29, x30, st, x31, x32, x33, x34, x35, nI c2, x36, x37)) else (ob3 (f_X1_addStep 3 (nI f) (nI o) (nI c3) 1 st (nI c2)) (fun x38 x39 x40 => if x38 = 0 then (ob2 (f_X0_refuse (nI s) x24) (fun x41 x42 => if x41 = 0 then (some (0, x42, x25, x26, x27, x28, x29, x30, x39, x31, x32, x33, x34, x35, x40, x36, x37)) else (some (1, x42, x25, x26, x27, x28, x29, x30, x39, x31, x32, x33, x34, x35, x40, x36, x37)))) else (some (1, x24, x25, x26, x27, x28, x29, x30, x39, x31, x32, x33, x34, x35, x40, x36, x37)))))) (f_X6_readAsked_302 (nI s) (nI f) (nI c3) (nI o) t (nI n) (nI s2) (-1) ty' (nI h) many sK sF sO sX sM Lt Lf Ls By sd Nu) := by
      intro _
      rw [f_X6_readAsked_302, rd_in (show f < 64 by omega) (by decide)]
      have r := R_literal (nr := nr) (es := es) (bb := bb) (p := s2) hB hBt hL hn hh hz64 q1 (hty f q1) hs2 d5 (show e ≤ s2 by omega) d2 d3 d7
      rw [hss2] at r
      rcases r with ⟨x, x1, ⟨u1, u2, u3, u4, u5, u6, u7, u8, u9, u10, u11, u12, u13, x2⟩, a, many', Lt', Lf', Ls', By', sd', Nu', x3, x4, x5⟩ | ⟨q, e', nr', es', bb', lt', nb', ts', tl', tb', Lt', Lf', Ls', By', sd', Nu', y1, y2, y3, y4, y5, y6, y7, y8, y9⟩
      · rw [x2, ob15_s, if_pos rfl, x4, ob9_s, M_addStepI hh (nI_ne x (by omega)), ob7_s]
        exact Or.inl ⟨x, x1, ⟨_, _, _, _, _, _, _, _, _, _, _, _, _, _, _, rfl⟩, _, _, _, _, _, _, _, _, _, _, _, _, _, x3, rfl, x5, FS_rf _ _ _ _ _ _⟩
      · rw [y5, ob15_s, if_neg (show ¬ (1 : Int32) = 0 by decide), y6, ob9_s]
        exact R_fin hn hh hs (by omega) y2 y4 ⟨by rw [pk_un (by omega)]; exact d1, pk_us, y7, d4, by omega, d6, y8⟩ y9 (fun j h1 h2 => pk_un h2)
    have k10 : wd (Lk t n) n s2 < 16 → ¬ tkT (Lk t n) n s2 = 16 := fun w z => by have := (tk_16.mp z).2; omega
    cases hl : isL (Lk t n s2) with
    | false =>
      have n16 : ¬ tkT (Lk t n) n s2 = 16 := fun z => by have := (tk_16.mp z).1; rw [hl] at this; cases this
      have w0 : wl (Lk t n) n s2 = 0 := if_neg (by rw [hl]; decide)
      rw [w0, if_pos (show nI 0 ≤ 0 by decide), if_neg n16]
      exact lit n16
    | true =>
      have w0 := wl_pos t n s2 hl
      have w1 := wl_le t n s2 hs2
      rw [if_neg (show ¬ nI (wl (Lk t n) n s2) ≤ 0 from nI_nle w0 (by omega)), M_sees_10 hn hs2, hss2]
      by_cases v10 : wd (Lk t n) n s2 = 10
      · rw [if_pos v10, ob2_s, if_neg (show ¬ (1 : Int32) = 0 by decide), if_neg (k10 (by omega))]
        exact lit (k10 (by omega))
      rw [if_neg v10, ob2_s, if_pos rfl, M_sees_11 hn hs2, hss2]
      by_cases v11 : wd (Lk t n) n s2 = 11
      · rw [if_pos v11, ob2_s, if_neg (show ¬ (1 : Int32) = 0 by decide), if_neg (k10 (by omega))]
        exact lit (k10 (by omega))
      rw [if_neg v11, ob2_s, if_pos rfl]
      by_cases v16 : wd (Lk t n) n s2 < 16
      · obtain ⟨g, a, c1, c2'⟩ := M_colKept K' hs2 hss2 v16
        have n17 : ¬ tkT (Lk t n) n s2 = 17 := fun z => by
          have y := tk_num.mp z
          rcases y with y | y
          · rw [y] at hl; exact absurd hl (by decide)
          · have := isD_lt y; rw [isL_no (by omega)] at hl; cases hl
        have n18 : ¬ tkT (Lk t n) n s2 = 18 := fun z => by rw [tk_text.mp z] at hl; exact absurd hl (by decide)
        rw [c2', ob3_s, if_neg (nI_ne s2 (by omega)), M_addStepI hh (nI_ne s2 (by omega)), ob7_s, if_neg (k10 v16), f_X0_readLiteral, if_neg (show ¬ tkT (Lk t n) n s2 = 10 from fun z => v10 ((tk_word (k := 10) (by decide)).mp z)), if_neg (show ¬ tkT (Lk t n) n s2 = 11 from fun z => v11 ((tk_word (k := 11) (by decide)).mp z)), if_neg n17, if_neg n18, f_X0_readLiteral_139, if_neg (nI_ne s2 (by omega)), C_refuse, ob2_s, gz_0, ob15_s, if_pos rfl]
        exact Or.inl ⟨s2, hs2, ⟨_, _, _, _, _, _, _, _, _, _, _, _, _, _, _, rfl⟩, _, _, _, _, _, _, _, _, _, _, _, _, _, by omega, rfl, FD_rf _ _ _ _ _ _ _ _ _ _ _ _ _⟩
      · have e16 : tkT (Lk t n) n s2 = 16 := tk_16.mpr ⟨hl, by have := wd_le t n s2; omega⟩
        rw [if_pos e16]
        rcases R_column K' hs2 hss2 with ⟨x, p1, ⟨u, v, w, p2⟩, g, a, p3, p4⟩ | ⟨f2, u, v, w, p1, p2, p3, g, a, p4, p5⟩ | ⟨f2, e2, p1, p2, p3, p4, p5, p6⟩
        · rw [p2, ob5_s, if_pos rfl, p4, ob3_s, if_neg (nI_ne x (by omega)), M_addStepI hh (nI_ne x (by omega)), ob7_s]
          exact Or.inl ⟨x, p1, ⟨_, _, _, _, _, _, _, _, _, _, _, _, _, _, _, rfl⟩, a, _, _, _, _, _, _, _, _, _, _, _, _, by omega, rfl, FD_rf _ _ _ _ _ _ _ _ _ _ _ _ _⟩
        · rw [p3, ob5_s, if_neg (nI_ne f2 (by omega)), C_flatValue hVc hz64 p1, p2, ob1_s, if_pos bI_f, C_refuse, ob2_s, gz_0, p5, ob3_s, if_neg (nI_ne s2 (by omega)), M_addStepI hh (nI_ne s2 (by omega)), ob7_s]
          exact Or.inl ⟨s2, hs2, ⟨_, _, _, _, _, _, _, _, _, _, _, _, _, _, _, rfl⟩, a, _, _, _, _, _, _, _, _, _, _, _, _, by omega, rfl, FD_rf _ _ _ _ _ _ _ _ _ _ _ _ _⟩
        · rw [p5, ob5_s, if_neg (nI_ne f2 (by omega)), C_flatValue hVc hz64 p1, p2, ob1_s, if_neg bI_n, C_typeOf hz64 q1, ob1_s, C_typeOf hz64 p1, ob1_s, C_canCompare, ob1_s, p6, ob3_s, if_pos rfl, rd_in (show f < 64 by omega) (by decide), rd_in (show f2 < 64 by omega) (by decide), ← hty f q1, ← hty f2 p1, rd_in (show f < 64 by omega) (by decide), rd_in (show f2 < 64 by omega) (by decide), ← hty f q1, ← hty f2 p1, M_isWhole, ob1_s, M_isWhole, ob1_s, f_X6_readAsked_281, M_fail, ob1_s, M_addStepI hh (nI_ne s2 (by omega)), ob7_s]
          have bad : ¬ (ty f = ty f2 ∨ ((ty f = 1 ∨ ty f = 2) ∧ (ty f2 = 1 ∨ ty f2 = 2))) ∨ (ty f = ty f2 ∨ ((ty f = 1 ∨ ty f = 2) ∧ (ty f2 = 1 ∨ ty f2 = 2))) := (Classical.em _).symm
          rcases bad with bad | good
          · rw [decide_eq_false bad, if_pos bI_f, C_refuse, ob2_s, gz_0, if_neg (fun z => bad (Or.inl z))]
            refine Or.inl ⟨s2, hs2, ⟨_, _, _, _, _, _, _, _, _, _, _, _, _, _, _, rfl⟩, e2, many, sK, sF, sO, sX, sM, Lt, Lf, Ls, By, sd, Nu, by omega, ?_, FD_rf _ _ _ _ _ _ _ _ _ _ _ _ _⟩
            by_cases i1 : ty f = 1 ∨ ty f = 2
            · rw [decide_eq_true i1, if_neg bI_n, decide_eq_false (fun z => bad (Or.inr ⟨i1, z⟩)), if_pos bI_f]
            · rw [decide_eq_false i1, if_pos bI_f]
          · rw [decide_eq_true good, if_neg bI_n]
            have em : ∀ X Y : Option (Int32 × Int32 × (Nat → Int32) × (Nat → Int32) × (Nat → Int32) × (Nat → Int32) × (Nat → Int32) × (Nat → Int32) × (Nat → Int32) × (Nat → Int32) × (Nat → Int32) × (Nat → Int32) × (Nat → Int32) × (Nat → Int64)), (if ty f = ty f2 then X else if bI (decide (ty f = 1 ∨ ty f = 2)) = 0 then Y else if bI (decide (ty f2 = 1 ∨ ty f2 = 2)) = 0 then Y else X) = X := by
              intro X Y
              rcases good with i | ⟨i1, i2⟩
              · rw [if_pos i]
              · rw [decide_eq_true i1, decide_eq_true i2, if_neg bI_n, if_neg bI_n, ite_self]
            rw [em]
            exact R_fin hn hh hs (by omega) p4 (by omega) D' (FL_rf _ _ _ _ _ _ _ _) (MK_rf _ _)
end CXu
