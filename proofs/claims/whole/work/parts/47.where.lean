/-! pure rows: the condition, both sides at once -/
section CXw
variable {b t gr ln nm kd ty fla gr' ln' nm' ty' : Nat → Int32} {n z h : Nat} {V : Nat → Bool}
theorem M_condI {k : Nat} {a ill v w : Int32} {many sK sF sO sX sM Lt Lf Ls By sd pile pp : Nat → Int32} {Nu : Nat → Int64} (hi : ¬ ill = -1) : f_X6_readCondition_14 (k + 1) t (nI n) a ill gr' kd ty' ln' nm' (nI z) (nI h) many sK sF sO sX sM Lt Lf Ls By sd Nu pile pp v w = some (a, ill, many, sK, sF, sO, sX, sM, Lt, Lf, Ls, By, sd, Nu, pile, pp, v, w) := by
  rw [f_X6_readCondition_14, if_neg hi]
theorem R_where (K : CX b t gr ln nm kd ty fla gr' ln' nm' ty' n z h V) : ∀ (d p l2 k k2 w c2 c3 e : Nat) (σ : Nat → Nat) (es bb : Int32) (nr : Int64) (ws wp pile pp st lt ts tl tb many sK sF sO sX sM Lt Lf Ls By sd : Nat → Int32) (nb Nu : Nat → Int64), n - p ≤ d → d + 1 < k → n - p + 1 < k2 → p ≤ n → l2 + (n - p) ≤ 2000 → e ≤ p → ST n w σ ws wp pile pp → DR h c2 c3 e st lt nb ts tl tb many sK sF sO sX sM Lt Lf Ls By sd Nu →
    (∃ x, x ≤ n ∧ (∃ u1 u2 u3 u4 u5 u6 u7 u8 u9 u10 u11 u12 u13 u14 u15 u16 u17 u18 u19, f_X0_readWhere_34 k 1 (nI l2) ws wp (nI w) (nI (nc σ w)) (-1) (tkT (Lk t n) n (sk (Lk t n) n p)) (nI (sk (Lk t n) n p)) (nI (tkE (Lk t n) n (sk (Lk t n) n p))) nr es bb nm ln gr ty fla (nI z) st lt nb ts tl tb (nI c2) (nI c3) (nI e) b (nI n) = some (0, u1, u2, u3, u4, nI x, u5, u6, u7, u8, u9, u10, u11, u12, u13, u14, u15, u16, u17, u18, u19)) ∧ ∃ a many' sK' sF' sO' sX' sM' Lt' Lf' Ls' By' sd' Nu' v1 v2 v3 v4, a < 5000 ∧ ob18 (f_X6_readTest t (nI n) (nI p) (-1) gr' kd ty' ln' nm' (nI z) (nI h) many sK sF sO sX sM Lt Lf Ls By sd Nu pile pp (nI w) (nI (nc σ w))) (fun y1 y2 y3 y4 y5 y6 y7 y8 y9 y10 y11 y12 y13 y14 y15 y16 y17 y18 => f_X6_readCondition_14 k2 t (nI n) y1 y2 gr' kd ty' ln' nm' (nI z) (nI h) y3 y4 y5 y6 y7 y8 y9 y10 y11 y12 y13 y14 y15 y16 y17 y18) = some (nI a, nI x, many', sK', sF', sO', sX', sM', Lt', Lf', Ls', By', sd', Nu', v1, v2, v3, v4) ∧ FD h many sK sF sO sX sM Lt Lf Ls By sd Nu many' sK' sF' sO' sX' sM' Lt' Lf' Ls' By' sd' Nu') ∨
    (∃ s c2' c3' e' u1 u2 u3 u4 nr' es' bb' st' lt' nb' ts' tl' tb' many' sK' sF' sO' sX' sM' Lt' Lf' Ls' By' sd' Nu' v1 v2 v3 v4, p ≤ s ∧ s ≤ n ∧ sk (Lk t n) n s = s ∧ e' ≤ s ∧ f_X0_readWhere_34 k 1 (nI l2) ws wp (nI w) (nI (nc σ w)) (-1) (tkT (Lk t n) n (sk (Lk t n) n p)) (nI (sk (Lk t n) n p)) (nI (tkE (Lk t n) n (sk (Lk t n) n p))) nr es bb nm ln gr ty fla (nI z) st lt nb ts tl tb (nI c2) (nI c3) (nI e) b (nI n) = some (1, u1, u2, u3, u4, -1, tkT (Lk t n) n s, nI s, nI (tkE (Lk t n) n s), nr', es', bb', st', lt', nb', ts', tl', tb', nI c2', nI c3', nI e') ∧ ob18 (f_X6_readTest t (nI n) (nI p) (-1) gr' kd ty' ln' nm' (nI z) (nI h) many sK sF sO sX sM Lt Lf Ls By sd Nu pile pp (nI w) (nI (nc σ w))) (fun y1 y2 y3 y4 y5 y6 y7 y8 y9 y10 y11 y12 y13 y14 y15 y16 y17 y18 => f_X6_readCondition_14 k2 t (nI n) y1 y2 gr' kd ty' ln' nm' (nI z) (nI h) y3 y4 y5 y6 y7 y8 y9 y10 y11 y12 y13 y14 y15 y16 y17 y18) = some (nI s, -1, many', sK', sF', sO', sX', sM', Lt', Lf', Ls', By', sd', Nu', v1, v2, v3, v4) ∧ DR h c2' c3' e' st' lt' nb' ts' tl' tb' many' sK' sF' sO' sX' sM' Lt' Lf' Ls' By' sd' Nu' ∧ FD h many sK sF sO sX sM Lt Lf Ls By sd Nu many' sK' sF' sO' sX' sM' Lt' Lf' Ls' By' sd' Nu' ∧ MK h many many') := by
  have K' := K
  obtain ⟨hVc, hVm, hB, hBt, hL, hF, hty, hn, hz, hz', hg, hh⟩ := K
  have n10 : ¬ (1 : Int32) = 0 := by decide
  intro d
  induction d with
  | zero =>
    intro p l2 k k2 w c2 c3 e σ es bb nr ws wp pile pp st lt ts tl tb many sK sF sO sX sM Lt Lf Ls By sd nb Nu hd hk hk2 hp hl he hST hD
    obtain ⟨k, rfl⟩ : ∃ j, k = j + 1 := ⟨k - 1, by omega⟩
    obtain ⟨k2, rfl⟩ : ∃ j, k2 = j + 1 := ⟨k2 - 1, by omega⟩
    rw [f_X0_readWhere_34, if_neg (show ¬ (2000 : Int32) < nI l2 from nI_nlt (a := 2000) (by omega) (by decide)), if_neg n10, f_X0_openTests, f_X6_readTest]
    rcases R_open K' (many := many) (sK := sK) (sF := sF) (sO := sO) (sX := sX) (sM := sM) (Lt := Lt) (Lf := Lf) (Ls := Ls) (By := By) (sd := sd) (Nu := Nu) (n - p) p 0 w FU FU σ ws wp pile pp (Nat.le_refl _) (by show n - p < 4096; omega) (by show n - p + 1 < 4096; omega) hp (Nat.zero_le _) hST with ⟨x, x1, ⟨u1, u2, u3, u4, u6, u7, u8, x2⟩, a, pile', pp', v1, v2, x3, x4⟩ | ⟨s, w', σ', ws', wp', pile', pp', a1, a2, a3, a4, a5, a6⟩
    · have x2 : f_X0_openTests_2 FU 0 ws wp (nI w) (nI (nc σ w)) (-1) (tkT (Lk t n) n (sk (Lk t n) n p)) (nI (sk (Lk t n) n p)) (nI (tkE (Lk t n) n (sk (Lk t n) n p))) b (nI n) = _ := x2
      rw [x2, ob9_s, if_pos rfl, x4, ob18_s, M_condI (nI_ne x (by omega))]
      exact Or.inl ⟨x, x1, ⟨_, _, _, _, _, _, _, _, _, _, _, _, _, _, _, _, _, _, _, rfl⟩, _, _, _, _, _, _, _, _, _, _, _, _, _, _, _, _, _, x3, rfl, FD_rf _ _ _ _ _ _ _ _ _ _ _ _ _⟩
    · have a5 : f_X0_openTests_2 FU 0 ws wp (nI w) (nI (nc σ w)) (-1) (tkT (Lk t n) n (sk (Lk t n) n p)) (nI (sk (Lk t n) n p)) (nI (tkE (Lk t n) n (sk (Lk t n) n p))) b (nI n) = _ := a5
      rw [a5, ob9_s, if_neg n10, a6]
      rcases R_asked (nr := nr) (es := es) (bb := bb) K' a2 a3 (show e ≤ s by omega) hD with ⟨x, x1, ⟨u1, u2, u3, u4, u5, u6, u7, u8, u9, u10, u11, u12, u13, u14, u15, x2⟩, a, many', sK', sF', sO', sX', sM', Lt', Lf', Ls', By', sd', Nu', x3, x4, x5⟩ | ⟨a, c3', e', nr', es', bb', st', lt', nb', ts', tl', tb', many', sK', sF', sO', sX', sM', Lt', Lf', Ls', By', sd', Nu', y1, y2, y3, y4⟩
      · rw [x2, ob17_s, if_pos rfl, x4, ob14_s, ob18_s, M_condI (nI_ne x (by omega))]
        exact Or.inl ⟨x, x1, ⟨_, _, _, _, _, _, _, _, _, _, _, _, _, _, _, _, _, _, _, rfl⟩, _, _, _, _, _, _, _, _, _, _, _, _, _, _, _, _, _, x3, rfl, x5⟩
      · omega
  | succ d ih =>
    intro p l2 k k2 w c2 c3 e σ es bb nr ws wp pile pp st lt ts tl tb many sK sF sO sX sM Lt Lf Ls By sd nb Nu hd hk hk2 hp hl he hST hD
    obtain ⟨k, rfl⟩ : ∃ j, k = j + 1 := ⟨k - 1, by omega⟩
    rw [f_X0_readWhere_34, if_neg (show ¬ (2000 : Int32) < nI l2 from nI_nlt (a := 2000) (by omega) (by decide)), if_neg n10, f_X0_openTests, f_X6_readTest]
    rcases R_open K' (many := many) (sK := sK) (sF := sF) (sO := sO) (sX := sX) (sM := sM) (Lt := Lt) (Lf := Lf) (Ls := Ls) (By := By) (sd := sd) (Nu := Nu) (n - p) p 0 w FU FU σ ws wp pile pp (Nat.le_refl _) (by show n - p < 4096; omega) (by show n - p + 1 < 4096; omega) hp (Nat.zero_le _) hST with ⟨x, x1, ⟨u1, u2, u3, u4, u6, u7, u8, x2⟩, a, pile', pp', v1, v2, x3, x4⟩ | ⟨s, w', σ', ws', wp', pile', pp', a1, a2, a3, a4, a5, a6⟩
    · have x2 : f_X0_openTests_2 FU 0 ws wp (nI w) (nI (nc σ w)) (-1) (tkT (Lk t n) n (sk (Lk t n) n p)) (nI (sk (Lk t n) n p)) (nI (tkE (Lk t n) n (sk (Lk t n) n p))) b (nI n) = _ := x2
      obtain ⟨k2, rfl⟩ : ∃ j, k2 = j + 1 := ⟨k2 - 1, by omega⟩
      rw [x2, ob9_s, if_pos rfl, x4, ob18_s, M_condI (nI_ne x (by omega))]
      exact Or.inl ⟨x, x1, ⟨_, _, _, _, _, _, _, _, _, _, _, _, _, _, _, _, _, _, _, rfl⟩, _, _, _, _, _, _, _, _, _, _, _, _, _, _, _, _, _, x3, rfl, FD_rf _ _ _ _ _ _ _ _ _ _ _ _ _⟩
    have a5 : f_X0_openTests_2 FU 0 ws wp (nI w) (nI (nc σ w)) (-1) (tkT (Lk t n) n (sk (Lk t n) n p)) (nI (sk (Lk t n) n p)) (nI (tkE (Lk t n) n (sk (Lk t n) n p))) b (nI n) = _ := a5
    rw [a5, ob9_s, if_neg n10, a6]
    rcases R_asked (nr := nr) (es := es) (bb := bb) K' a2 a3 (show e ≤ s by omega) hD with ⟨x, x1, ⟨u1, u2, u3, u4, u5, u6, u7, u8, u9, u10, u11, u12, u13, u14, u15, x2⟩, a, many', sK', sF', sO', sX', sM', Lt', Lf', Ls', By', sd', Nu', x3, x4, x5⟩ | ⟨a, c3', e', nr', es', bb', st', lt', nb', ts', tl', tb', many', sK', sF', sO', sX', sM', Lt', Lf', Ls', By', sd', Nu', y1, y2, y3, y4, y5, y6, y7, y8⟩
    · obtain ⟨k2, rfl⟩ : ∃ j, k2 = j + 1 := ⟨k2 - 1, by omega⟩
      rw [x2, ob17_s, if_pos rfl, x4, ob14_s, ob18_s, M_condI (nI_ne x (by omega))]
      exact Or.inl ⟨x, x1, ⟨_, _, _, _, _, _, _, _, _, _, _, _, _, _, _, _, _, _, _, rfl⟩, _, _, _, _, _, _, _, _, _, _, _, _, _, _, _, _, _, x3, rfl, x5⟩
    rw [y4, ob17_s, if_neg n10, y5, ob14_s, ob18_s, f_X0_closeTests]
    obtain ⟨d1, d2, d3, d4, d5, d6, d7⟩ := y6
    obtain ⟨o1, o2, o3⟩ := ST_w a4
    have hN := a4.2.2
    rcases R_close K' (Lt := Lt') (Lf := Lf') (Ls := Ls') (By := By') (sd := sd') (Nu := Nu') w' 0 a FU k2 (c2 + 1) st' many' sK' sF' sO' sX' sM' (by show w' < 4096; omega) (by omega) y2 (by omega) a4 d1 d4 d6 with ⟨x, x1, ⟨u1, u2, u4, u5, u6, u7, u8, x2⟩, a', many2, sK2, sF2, sO2, sX2, sM2, v1, v2, x3, x4, x5, x6⟩ | ⟨s', w2, x, c2', k2', st2, many2, sK2, sF2, sO2, sX2, sM2, g1, g2, g3, g4, g5, g6, g7, g8, g9, g10, g11, g12, g13, g14, g15, g16, g17, g18⟩ | ⟨s', c2', u1, u2, v1, v2, st2, many2, sK2, sF2, sO2, sX2, sM2, g1, g2, g3, g4, g5, g6, g7, g8, g9, g10, g11, g12⟩
    · have x2 : f_X0_closeTests_2 FU 0 ws' wp' (nI w') (nI (nc σ' w')) (-1) (tkT (Lk t n) n (sk (Lk t n) n a)) (nI (sk (Lk t n) n a)) (nI (tkE (Lk t n) n (sk (Lk t n) n a))) st' (nI (c2 + 1)) b (nI n) = _ := x2
      rw [x2, ob9_s, if_pos rfl, x4]
      exact Or.inl ⟨x, x1, ⟨_, _, _, _, _, _, _, _, _, _, _, _, _, _, _, _, _, _, _, rfl⟩, _, _, _, _, _, _, _, _, _, _, _, _, _, _, _, _, _, x3, rfl, FD_tr y7 ⟨⟨x5, frm_rf _ _ _, frm_rf _ _ _, frm_rf _ _ _, frm_rf _ _ _, frm_rf _ _ _, frm_rf _ _ _⟩, x6⟩⟩
    · have g13 : f_X0_closeTests_2 FU 0 ws' wp' (nI w') (nI (nc σ' w')) (-1) (tkT (Lk t n) n (sk (Lk t n) n a)) (nI (sk (Lk t n) n a)) (nI (tkE (Lk t n) n (sk (Lk t n) n a))) st' (nI (c2 + 1)) b (nI n) = _ := g13
      have fd2 : FD h many' sK' sF' sO' sX' sM' Lt' Lf' Ls' By' sd' Nu' many2 sK2 sF2 sO2 sX2 sM2 Lt' Lf' Ls' By' sd' Nu' := ⟨⟨mk_frm g16, frm_rf _ _ _, frm_rf _ _ _, frm_rf _ _ _, frm_rf _ _ _, frm_rf _ _ _, frm_rf _ _ _⟩, g18⟩
      have mk2 : MK h many' many2 := fun j h1 h2 => g16 j h1
      have S2 := ST_pre a4 g5
      obtain ⟨o4, o5, o6⟩ := ST_w S2
      have N2 := S2.2.2
      have hx4 : x < 4 := by omega
      obtain ⟨q1, q2⟩ := ST_push (x := x) (pos := s') S2 hx4 (show s' ≤ n by omega) g7 g8 (fun _ => g9) (fun z => by omega)
      rw [if_neg (show ¬ x < 2 by omega), Nat.add_zero] at q2
      have D2 : DR h c2' c3' e' st2 lt' nb' ts' tl' tb' many2 sK2 sF2 sO2 sX2 sM2 Lt' Lf' Ls' By' sd' Nu' := ⟨g15, by rw [g16 _ (by omega)]; exact d2, d3, g10, d5, g17, d7⟩
      have hw98 : w2 < 98 := by
        rcases g6 with rfl | rfl
        · have := g8 rfl; omega
        · have := g7 rfl; omega
      have r := ih (tkE (Lk t n) n s') (l2 + 1) k k2' (w2 + 1) c2' c3' e' (sp σ' w2 x) es' bb' nr' (upd ws' w2 (cs x)) (upd wp' w2 (nI s')) (upd pile' w2 (nI x)) (upd pp' w2 (nI s')) st2 lt' ts' tl' tb' many2 sK2 sF2 sO2 sX2 sM2 Lt' Lf' Ls' By' sd' nb' Nu' (by omega) (by omega) g11 g3 (by omega) (by omega) q1 D2
      rw [q2] at r
      rw [g13, ob9_s, if_neg n10, g14]
      have e4 : ∀ X Y Z : Option (Int32 × (Nat → Int32) × (Nat → Int32) × Int32 × Int32 × Int32 × Int32 × Int32 × Int32 × Int64 × Int32 × Int32 × (Nat → Int32) × (Nat → Int32) × (Nat → Int64) × (Nat → Int32) × (Nat → Int32) × (Nat → Int32) × Int32 × Int32 × Int32), (if tkT (Lk t n) n s' = 4 then (if (1 : Int32) = 0 then X else Y) else (if tkT (Lk t n) n s' = 5 then (if (1 : Int32) = 0 then X else Y) else Z)) = Y := by
        intro X Y Z
        rw [if_neg n10, g12]
        rcases g6 with rfl | rfl
        · rw [if_pos (show cs 2 = 4 from rfl)]
        · rw [if_neg (show ¬ cs 3 = 4 by decide), if_pos (show cs 3 = 5 from rfl)]
      rw [e4, C_await hB hL hn hw98 g3, ob8_s, if_neg n10, on_eq, nI_1, g12]
      rcases r with ⟨y, z1, z2, a2', many3, sK3, sF3, sO3, sX3, sM3, Lt3, Lf3, Ls3, By3, sd3, Nu3, v1, v2, v3, v4, z3, z4, z5⟩ | ⟨s3, c23, c33, e3, u1, u2, u3, u4, nr3, es3, bb3, st3, lt3, nb3, ts3, tl3, tb3, many3, sK3, sF3, sO3, sX3, sM3, Lt3, Lf3, Ls3, By3, sd3, Nu3, v1, v2, v3, v4, z1, z2, z3, z4, z5, z6, z7, z8, z9⟩
      · exact Or.inl ⟨y, z1, z2, a2', many3, sK3, sF3, sO3, sX3, sM3, Lt3, Lf3, Ls3, By3, sd3, Nu3, v1, v2, v3, v4, z3, z4, FD_tr (FD_tr y7 fd2) z5⟩
      · exact Or.inr ⟨s3, c23, c33, e3, u1, u2, u3, u4, nr3, es3, bb3, st3, lt3, nb3, ts3, tl3, tb3, many3, sK3, sF3, sO3, sX3, sM3, Lt3, Lf3, Ls3, By3, sd3, Nu3, v1, v2, v3, v4, by omega, z2, z3, z4, z5, z6, z7, FD_tr (FD_tr y7 fd2) z8, MK_tr (MK_tr y8 mk2) z9⟩
    · have g7 : f_X0_closeTests_2 FU 0 ws' wp' (nI w') (nI (nc σ' w')) (-1) (tkT (Lk t n) n (sk (Lk t n) n a)) (nI (sk (Lk t n) n a)) (nI (tkE (Lk t n) n (sk (Lk t n) n a))) st' (nI (c2 + 1)) b (nI n) = _ := g7
      have fd2 : FD h many' sK' sF' sO' sX' sM' Lt' Lf' Ls' By' sd' Nu' many2 sK2 sF2 sO2 sX2 sM2 Lt' Lf' Ls' By' sd' Nu' := ⟨⟨mk_frm g10, frm_rf _ _ _, frm_rf _ _ _, frm_rf _ _ _, frm_rf _ _ _, frm_rf _ _ _, frm_rf _ _ _⟩, g12⟩
      have mk2 : MK h many' many2 := fun j h1 h2 => g10 j h1
      have D2 : DR h c2' c3' e' st2 lt' nb' ts' tl' tb' many2 sK2 sF2 sO2 sX2 sM2 Lt' Lf' Ls' By' sd' Nu' := ⟨g9, by rw [g10 _ (by omega)]; exact d2, d3, g4, d5, g11, d7⟩
      obtain ⟨k, rfl⟩ : ∃ j, k = j + 1 := ⟨k - 1, by omega⟩
      rw [g7, ob9_s, if_neg n10, if_neg g5, if_neg g6, if_pos rfl, on_eq, nI_1, g8, f_X0_readWhere_34, if_pos rfl, ite_self]
      exact Or.inr ⟨s', c2', c3', e', _, _, _, _, nr', es', bb', st2, lt', nb', ts', tl', tb', many2, sK2, sF2, sO2, sX2, sM2, Lt', Lf', Ls', By', sd', Nu', _, _, _, _, by omega, g2, g3, by omega, rfl, rfl, D2, FD_tr y7 fd2, MK_tr y8 mk2⟩
end CXw
