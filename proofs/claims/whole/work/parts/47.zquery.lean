/-! pure rows: a query from its first word on, both sides at once -/
theorem itm2_ty {t gr ln nm ty ty' : Nat → Int32} {n z k s1 : Nat} {V : Nat → Bool} (hB : BY t n) (hz : z ≤ 64) (hty : ∀ j, j < z → ty j = ty' j) : itm2 (Lk t n) n (fd gr ln nm (Lk t n) z) V ty k s1 = itm2 (Lk t n) n (fd gr ln nm (Lk t n) z) V ty' k s1 := by
  unfold itm2
  by_cases h : ¬ Lk t n s1 = 40
  · rw [if_pos h, if_pos h]
  · have h40 : Lk t n s1 = 40 := Classical.byContradiction h
    have hlt := Lk_lt h40 (by decide)
    rw [if_neg h, if_neg h]
    cases hq : colS (Lk t n) n (fd gr ln nm (Lk t n) z) V (sk (Lk t n) n (s1 + 1)) with
    | error x => rfl
    | ok q =>
      obtain ⟨f, e⟩ := q
      have := (colS_ok hB hz (sk_le t n _ (by omega)) hq).2.1
      simp only [hty f this]
theorem itmS_ty {t gr ln nm ty ty' : Nat → Int32} {n z s : Nat} {V : Nat → Bool} (hB : BY t n) (hz : z ≤ 64) (hty : ∀ j, j < z → ty j = ty' j) : itmS (Lk t n) n (fd gr ln nm (Lk t n) z) V ty s = itmS (Lk t n) n (fd gr ln nm (Lk t n) z) V ty' s := by
  unfold itmS
  rw [itm2_ty hB hz hty]
section CXz
variable {b t gr ln nm kd ty fla gr' ln' nm' ty' : Nat → Int32} {n z h : Nat} {V : Nat → Bool} {Pit : Nat → Int32} {Pby_ : Nat → Int32} {Pst : Nat → Int32} {Plt : Nat → Int32} {Pnb : Nat → Int64} {Pts : Nat → Int32} {Ptl : Nat → Int32} {Ptb : Nat → Int32} {Pic : Int32} {Pbc : Int32} {Psc : Int32} {Plc : Int32} {Pte : Int32} {kept : Int32} {Omany : Nat → Int32} {Oik : Nat → Int32} {Ojf : Nat → Int32} {Orb : Nat → Int32} {OsK : Nat → Int32} {OsF : Nat → Int32} {OsO : Nat → Int32} {OsX : Nat → Int32} {OsM : Nat → Int32} {OLt : Nat → Int32} {OLf : Nat → Int32} {OLs : Nat → Int32} {OBy : Nat → Int32} {ONu : Nat → Int64}
theorem R_mid (K : CX b t gr ln nm kd ty fla gr' ln' nm' ty' n z h V) {a s c0 : Nat} {sz : Int32} {pl : Nat → Int32} {ws : Nat → Int32} {wp : Nat → Int32} {w : Int32} {N : Int32} {nr : Int64} {es : Int32} {bb : Int32} {it : Nat → Int32} {by_ : Nat → Int32} {st : Nat → Int32} {lt : Nat → Int32} {nb : Nat → Int64} {ts : Nat → Int32} {tl : Nat → Int32} {tb : Nat → Int32} {ik jf ip rb sK sF sO sX sM Lt Lf Ls By sd many pile pp : Nat → Int32} {Nu : Nat → Int64} {top op : Int32} (ha : a ≤ n) (hsa : sk (Lk t n) n a = s) (hIc : c0 ≤ 16) (hm0 : many (4 * h) = nI c0) (hI : IR h c0 it pl ik jf ip) (hm1 : many (4 * h + 1) = nI 0) (hm2 : many (4 * h + 2) = nI 0) (hm3 : many (4 * h + 3) = nI 0) (hsd : sd h = nI 0) (hPo : PLN Pit Pby_ Pst Plt Pnb Pts Ptl Ptb Pic Pbc Psc Plc Pte kept Omany Oik Ojf Orb OsK OsF OsO OsX OsM OLt OLf OLs OBy ONu) (hFo : FQ h Omany Oik Ojf Orb OsK OsF OsO OsX OsM OLt OLf OLs OBy ONu many ik jf rb sK sF sO sX sM Lt Lf Ls By Nu) (hko : ∀ h', h' ≤ 1 → kept = nI h' → ¬ h' = h) : QO h (ob21 (f_X0_readWhere ws wp w N (-1) (tkT (Lk t n) n s) (nI s) (nI (tkE (Lk t n) n s)) nr es bb nm ln gr ty fla (nI z) st lt nb ts tl tb (nI 0) (nI 0) (nI 0) b (nI n)) (fun x20 x21 x22 x23 x24 x25 x26 x27 x28 x29 x30 x31 x32 x33 x34 x35 x36 x37 x38 x39 x40 => if x20 = 0 then (f_X5_query_58 sz pl x21 x22 x23 x24 x25 x26 x27 x28 x29 x30 x31 it by_ x32 x33 x34 x35 x36 x37 (nI c0) (nI 0) x38 x39 x40 Pit Pby_ Pst Plt Pnb Pts Ptl Ptb Pic Pbc Psc Plc Pte) else (ob7 (f_X0_readGroup x25 x26 x27 x28 nm ln gr ty fla (nI z) by_ (nI 0) b (nI n)) (fun x41 x42 x43 x44 x45 x46 x47 => if x41 = 0 then (f_X5_query_58 sz pl x21 x22 x23 x24 x42 x43 x44 x45 x29 x30 x31 it x46 x32 x33 x34 x35 x36 x37 (nI c0) x47 x38 x39 x40 Pit Pby_ Pst Plt Pnb Pts Ptl Ptb Pic Pbc Psc Plc Pte) else (ob1 (f_X0_checkItems pl x42 it x46 (nI c0) x47) (fun x48 => f_X5_query_58 sz pl x21 x22 x23 x24 x48 x43 x44 x45 x29 x30 x31 it x46 x32 x33 x34 x35 x36 x37 (nI c0) x47 x38 x39 x40 Pit Pby_ Pst Plt Pnb Pts Ptl Ptb Pic Pbc Psc Plc Pte)))))) (ob2 (f_X6_takesWord (512852587109 : Int64) t (nI n) (nI a) (-1)) (fun x39 x40 => if x39 = 0 then (f_X6_query_129 0 t 0 (nI n) x40 (-1) gr' kd ty' ln' nm' (nI z) kept (nI h) many ik jf ip rb sK sF sO sX sM Lt Lf Ls By sd Nu pile pp top op) else (ob18 (f_X6_readCondition t (nI n) x40 (-1) gr' kd ty' ln' nm' (nI z) (nI h) many sK sF sO sX sM Lt Lf Ls By sd Nu pile pp top op) (fun x41 x42 x43 x44 x45 x46 x47 x48 x49 x50 x51 x52 x53 x54 x55 x56 x57 x58 => f_X6_query_129 0 t 0 (nI n) x41 x42 gr' kd ty' ln' nm' (nI z) kept (nI h) x43 ik jf ip rb x44 x45 x46 x47 x48 x49 x50 x51 x52 x53 x54 x55 x56 x57 x58)))) := by
  have K' := K
  obtain ⟨hVc, hVm, hB, hBt, hL, hF, hty, hn, hz, hz', hg, hh⟩ := K
  have n10 : ¬ (1 : Int32) = 0 := by decide
  have hs := sk_le t n a ha
  have hss := sk_sk t n a
  rw [hsa] at hs hss
  have hE := tkE_le hBt hs
  have k1 : tkT (Lk t n) n s = 1 ↔ wd (Lk t n) n s = 1 := tk_word (k := 1) (by decide)
  have D : DR h 0 0 0 st lt nb ts tl tb many sK sF sO sX sM Lt Lf Ls By sd Nu := ⟨hm2, hm3, hsd, Nat.zero_le _, Nat.zero_le _, fun i hi => absurd hi (Nat.not_lt_zero _), fun i hi => absurd hi (Nat.not_lt_zero _), fun j hj => absurd hj (Nat.not_lt_zero _)⟩
  rw [M_takes_1 hn ha, hsa, f_X0_readWhere]
  by_cases w1 : wd (Lk t n) n s = 1
  · rw [if_pos w1, if_pos (k1.mpr w1), ob2_s, if_neg n10, A_adv hB hL hn hE, ob3_s, f_X6_readCondition]
    have S0 : ST n 0 (fun _ => 0) ws wp pile pp := ⟨fun i hi => absurd hi (Nat.not_lt_zero _), fun i hi => absurd hi (Nat.not_lt_zero _), Nat.zero_le _⟩
    rcases R_where K' (n - tkE (Lk t n) n s) (tkE (Lk t n) n s) 0 FU FU 0 0 0 0 (fun _ => 0) es bb nr ws wp pile pp st lt ts tl tb many sK sF sO sX sM Lt Lf Ls By sd nb Nu (Nat.le_refl _) (by show n - tkE (Lk t n) n s + 1 < 4096; omega) (by show n - tkE (Lk t n) n s + 1 < 4096; omega) hE (by omega) (Nat.zero_le _) S0 D with ⟨x, x1, ⟨u1, u2, u3, u4, u5, u6, u7, u8, u9, u10, u11, u12, u13, u14, u15, u16, u17, u18, u19, x2⟩, a2, many', sK', sF', sO', sX', sM', Lt', Lf', Ls', By', sd', Nu', v1, v2, v3, v4, x3, x4, r⟩ | ⟨s2, c2, c3, e, u1, u2, u3, u4, nr2, es2, bb2, st2, lt2, nb2, ts2, tl2, tb2, many', sK', sF', sO', sX', sM', Lt', Lf', Ls', By', sd', Nu', v1, v2, v3, v4, z1, z2, z3, z4, z5, z6, z7, r, z9⟩
    · have x2 : f_X0_readWhere_34 FU 1 0 ws wp 0 0 (-1) (tkT (Lk t n) n (sk (Lk t n) n (tkE (Lk t n) n s))) (nI (sk (Lk t n) n (tkE (Lk t n) n s))) (nI (tkE (Lk t n) n (sk (Lk t n) n (tkE (Lk t n) n s)))) nr es bb nm ln gr ty fla (nI z) st lt nb ts tl tb (nI 0) (nI 0) (nI 0) b (nI n) = _ := x2
      have x4 : ob18 (f_X6_readTest t (nI n) (nI (tkE (Lk t n) n s)) (-1) gr' kd ty' ln' nm' (nI z) (nI h) many sK sF sO sX sM Lt Lf Ls By sd Nu pile pp 0 0) (fun y1 y2 y3 y4 y5 y6 y7 y8 y9 y10 y11 y12 y13 y14 y15 y16 y17 y18 => f_X6_readCondition_14 FU t (nI n) y1 y2 gr' kd ty' ln' nm' (nI z) (nI h) y3 y4 y5 y6 y7 y8 y9 y10 y11 y12 y13 y14 y15 y16 y17 y18) = _ := x4
      rw [x2, ob21_s, if_pos rfl, x4, ob18_s, M_129I hn x3 hh (nI_ne x (by omega)), C_58F (nI_ne x (by omega))]
      have f2 : FQ h many ik jf rb sK sF sO sX sM Lt Lf Ls By Nu many' ik jf rb sK' sF' sO' sX' sM' Lt' Lf' Ls' By' Nu' := ⟨r.1.1, frm_rf _ _ _, frm_rf _ _ _, frm_rf _ _ _, r.2.1, r.2.2.1, r.2.2.2.1, r.2.2.2.2.1, r.2.2.2.2.2, r.1.2.1, r.1.2.2.1, r.1.2.2.2.1, r.1.2.2.2.2.1, r.1.2.2.2.2.2.2⟩
      exact QO_F (PLN_frm hPo (FQ_tr hFo f2) hh hko)
    · have z5 : f_X0_readWhere_34 FU 1 0 ws wp 0 0 (-1) (tkT (Lk t n) n (sk (Lk t n) n (tkE (Lk t n) n s))) (nI (sk (Lk t n) n (tkE (Lk t n) n s))) (nI (tkE (Lk t n) n (sk (Lk t n) n (tkE (Lk t n) n s)))) nr es bb nm ln gr ty fla (nI z) st lt nb ts tl tb (nI 0) (nI 0) (nI 0) b (nI n) = _ := z5
      have z6 : ob18 (f_X6_readTest t (nI n) (nI (tkE (Lk t n) n s)) (-1) gr' kd ty' ln' nm' (nI z) (nI h) many sK sF sO sX sM Lt Lf Ls By sd Nu pile pp 0 0) (fun y1 y2 y3 y4 y5 y6 y7 y8 y9 y10 y11 y12 y13 y14 y15 y16 y17 y18 => f_X6_readCondition_14 FU t (nI n) y1 y2 gr' kd ty' ln' nm' (nI z) (nI h) y3 y4 y5 y6 y7 y8 y9 y10 y11 y12 y13 y14 y15 y16 y17 y18) = _ := z6
      have f2 : FQ h many ik jf rb sK sF sO sX sM Lt Lf Ls By Nu many' ik jf rb sK' sF' sO' sX' sM' Lt' Lf' Ls' By' Nu' := ⟨r.1.1, frm_rf _ _ _, frm_rf _ _ _, frm_rf _ _ _, r.2.1, r.2.2.1, r.2.2.2.1, r.2.2.2.2.1, r.2.2.2.2.2, r.1.2.1, r.1.2.2.1, r.1.2.2.2.1, r.1.2.2.2.2.1, r.1.2.2.2.2.2.2⟩
      rw [z5, ob21_s, if_neg n10, z6, ob18_s]
      exact R_group K' z2 z3 hIc (by rw [z9 _ (by omega) (by omega)]; exact hm0) hI (by rw [z9 _ (by omega) (by omega)]; exact hm1) (by omega) z7 hPo (FQ_tr hFo f2) hko
  · rw [if_neg w1, if_neg (fun z => w1 (k1.mp z)), ob2_s, if_pos rfl, ob21_s, if_neg n10]
    exact R_group K' hs hss hIc hm0 hI hm1 (Nat.zero_le _) D hPo hFo hko
theorem C_begin {F tok sta en ic bc sc lc te : Int32} (hB : BY b n) (hL : Lk b n = Lk t n) (hn : n ≤ 2000) : f_X0_begin F tok sta en ic bc sc lc te b (nI n) = some (-1, tkT (Lk t n) n (sk (Lk t n) n 0), nI (sk (Lk t n) n 0), nI (tkE (Lk t n) n (sk (Lk t n) n 0)), 0, 0, 0, 0, 0) := by
  have r : f_X2_begin tok sta en b (nI n) = some (tkT (Lk t n) n (sk (Lk t n) n 0), nI (sk (Lk t n) n 0), nI (tkE (Lk t n) n (sk (Lk t n) n 0))) := by
    rw [f_X2_begin]
    have r := A_adv (t := t) (e := 0) hB hL hn (Nat.zero_le _) tok sta
    have r : f_X2_advance tok sta 0 b (nI n) = _ := r
    rw [r, ob3_s]
  rw [f_X0_begin, f_X1_clear, ob5_s, r, ob3_s]
theorem M_query34 {many : Nat → Int32} (hh : h ≤ 1) : f_X6_query_34 FU 0 (nI h) many = some (upd (upd (upd (upd many (4 * h) (nI 0)) (4 * h + 1) (nI 0)) (4 * h + 2) (nI 0)) (4 * h + 3) (nI 0)) := by
  have e0 : (4 : Int32) * nI h + 0 = nI (4 * h + 0) := M_4h 0 rfl
  have e1 : (4 : Int32) * nI h + 1 = nI (4 * h + 1) := M_4h 1 rfl
  have e2 : (4 : Int32) * nI h + 2 = nI (4 * h + 2) := M_4h 2 rfl
  have e3 : (4 : Int32) * nI h + 3 = nI (4 * h + 3) := M_4h 3 rfl
  rw [show FU = 4091 + 1 + 1 + 1 + 1 + 1 from rfl]
  rw [f_X6_query_34, if_neg (by decide), e0, wr_in (show 4 * h + 0 < 8 by omega) (by decide), on_eq, show (0 : Int32) + 1 = 1 from rfl]
  rw [f_X6_query_34, if_neg (by decide), e1, wr_in (show 4 * h + 1 < 8 by omega) (by decide), on_eq, show (1 : Int32) + 1 = 2 from rfl]
  rw [f_X6_query_34, if_neg (by decide), e2, wr_in (show 4 * h + 2 < 8 by omega) (by decide), on_eq, show (2 : Int32) + 1 = 3 from rfl]
  rw [f_X6_query_34, if_neg (by decide), e3, wr_in (show 4 * h + 3 < 8 by omega) (by decide), on_eq, show (3 : Int32) + 1 = 4 from rfl]
  rw [f_X6_query_34, if_pos (by decide)]
  rfl
theorem R_top (K : CX b t gr ln nm kd ty fla gr' ln' nm' ty' n z h V) {sz F0 tok sta en ic bc sc lc te w N : Int32} {pl ws wp : Nat → Int32} {nr : Int64} {es : Int32} {bb : Int32} {it : Nat → Int32} {by_ : Nat → Int32} {st : Nat → Int32} {lt : Nat → Int32} {nb : Nat → Int64} {ts : Nat → Int32} {tl : Nat → Int32} {tb : Nat → Int32} {ip sd pile pp : Nat → Int32} {top op : Int32} (hPo : PLN Pit Pby_ Pst Plt Pnb Pts Ptl Ptb Pic Pbc Psc Plc Pte kept Omany Oik Ojf Orb OsK OsF OsO OsX OsM OLt OLf OLs OBy ONu) (hko : ∀ h', h' ≤ 1 → kept = nI h' → ¬ h' = h) : QO h (ob9 (f_X0_begin F0 tok sta en ic bc sc lc te b (nI n)) (fun x3 x4 x5 x6 x7 x8 x9 x10 x11 => ob8 (f_X0_readItems pl x3 x4 x5 x6 nm ln gr ty fla (nI z) it x7 b (nI n)) (fun x12 x13 x14 x15 x16 x17 x18 x19 => if x12 = 0 then (f_X5_query_58 sz x13 ws wp w N x14 x15 x16 x17 nr es bb x18 by_ st lt nb ts tl tb x19 x8 x9 x10 x11 Pit Pby_ Pst Plt Pnb Pts Ptl Ptb Pic Pbc Psc Plc Pte) else (ob21 (f_X0_readWhere ws wp w N x14 x15 x16 x17 nr es bb nm ln gr ty fla (nI z) st lt nb ts tl tb x9 x10 x11 b (nI n)) (fun x20 x21 x22 x23 x24 x25 x26 x27 x28 x29 x30 x31 x32 x33 x34 x35 x36 x37 x38 x39 x40 => if x20 = 0 then (f_X5_query_58 sz x13 x21 x22 x23 x24 x25 x26 x27 x28 x29 x30 x31 x18 by_ x32 x33 x34 x35 x36 x37 x19 x8 x38 x39 x40 Pit Pby_ Pst Plt Pnb Pts Ptl Ptb Pic Pbc Psc Plc Pte) else (ob7 (f_X0_readGroup x25 x26 x27 x28 nm ln gr ty fla (nI z) by_ x8 b (nI n)) (fun x41 x42 x43 x44 x45 x46 x47 => if x41 = 0 then (f_X5_query_58 sz x13 x21 x22 x23 x24 x42 x43 x44 x45 x29 x30 x31 x18 x46 x32 x33 x34 x35 x36 x37 x19 x47 x38 x39 x40 Pit Pby_ Pst Plt Pnb Pts Ptl Ptb Pic Pbc Psc Plc Pte) else (ob1 (f_X0_checkItems x13 x42 x18 x46 x19 x47) (fun x48 => f_X5_query_58 sz x13 x21 x22 x23 x24 x48 x43 x44 x45 x29 x30 x31 x18 x46 x32 x33 x34 x35 x36 x37 x19 x47 x38 x39 x40 Pit Pby_ Pst Plt Pnb Pts Ptl Ptb Pic Pbc Psc Plc Pte))))))))) (f_X6_query_29 (nI h) 0 t 0 (nI n) 0 (-1) gr' kd ty' ln' nm' (nI z) kept Omany Oik Ojf ip Orb OsK OsF OsO OsX OsM OLt OLf OLs OBy sd ONu pile pp top op) := by
  have K' := K
  obtain ⟨hVc, hVm, hB, hBt, hL, hF, hty, hn, hz, hz', hg, hh⟩ := K
  have n10 : ¬ (1 : Int32) = 0 := by decide
  have hs := sk_le t n 0 (Nat.zero_le _)
  have hE := tkE_le hBt hs
  have k0 : tkT (Lk t n) n (sk (Lk t n) n 0) = 0 ↔ wd (Lk t n) n (sk (Lk t n) n 0) = 0 := tk_word (k := 0) (by decide)
  have f4 : frm 4 h Omany (upd (upd (upd (upd Omany (4 * h) (nI 0)) (4 * h + 1) (nI 0)) (4 * h + 2) (nI 0)) (4 * h + 3) (nI 0)) := frm_tr (frm_tr (frm_tr (frm_up (by omega) (by omega)) (frm_up (by omega) (by omega))) (frm_up (by omega) (by omega))) (frm_up (by omega) (by omega))
  have hT := M_takes_0 (t := t) (p := 0) hn (Nat.zero_le _)
  have hT : f_X6_takesWord (126879447475060 : Int64) t (nI n) 0 (-1) = _ := hT
  rw [C_begin hB hL hn, ob9_s, f_X0_readItems, A_take hB hL hn hs, f_X6_query_29, M_query34 hh, ob1_s, wr_in (show h < 2 by omega) (by decide), hT]
  by_cases w0 : wd (Lk t n) n (sk (Lk t n) n 0) = 0
  · rw [if_pos (k0.mpr w0), if_pos w0, ob5_s, if_neg n10, ob2_s, if_neg n10, f_X6_query_87, if_pos rfl]
    have asc : ∀ (X : Option (Int32 × Int32 × (Nat → Int32) × (Nat → Int32) × (Nat → Int32) × (Nat → Int32))) (G : Int32 → Int32 → (Nat → Int32) → (Nat → Int32) → (Nat → Int32) → (Nat → Int32) → Option (Int32 × Int32 × (Nat → Int32) × (Nat → Int32) × (Nat → Int32) × (Nat → Int32))) (H : Int32 → Int32 → (Nat → Int32) → (Nat → Int32) → (Nat → Int32) → (Nat → Int32) → Option (Int32 × Int32 × (Nat → Int32) × Int32 × Int32 × Int32 × Int32 × Int32 × Int32 × (Nat → Int32) × (Nat → Int32) × (Nat → Int32) × (Nat → Int32) × (Nat → Int32) × (Nat → Int32) × (Nat → Int32) × (Nat → Int32) × (Nat → Int32) × (Nat → Int32) × (Nat → Int32) × (Nat → Int32) × (Nat → Int32) × (Nat → Int32) × (Nat → Int32) × (Nat → Int64) × (Nat → Int32) × (Nat → Int32) × Int32 × Int32)), ob6 X (fun x5 x6 x7 x8 x9 x10 => ob6 (G x5 x6 x7 x8 x9 x10) H) = ob6 (ob6 X G) H := by
      intro X G H
      cases X with
      | none => rfl
      | some X => obtain ⟨_, _, _, _, _, _⟩ := X; rfl
    rw [asc]
    have hS : ∀ s, s ≤ n → itmS (Lk t n) n (fd gr ln nm (Lk t n) z) V ty s = itmS (Lk t n) n (fd gr ln nm (Lk t n) z) V ty' s := fun s _ => itmS_ty hBt hz.1 hty
    have r := R_items hVc hVm hB hBt hL hF hty hn hz hz' hg hh hS 16 0 (tkE (Lk t n) n (sk (Lk t n) n 0)) FU FU it pl (upd (upd (upd (upd Omany (4 * h) (nI 0)) (4 * h + 1) (nI 0)) (4 * h + 2) (nI 0)) (4 * h + 3) (nI 0)) Oik Ojf ip (by omega) hE (by decide) (by decide) (by rw [pk_un (by omega), pk_un (by omega), pk_un (by omega), pk_us]) (fun i hi => absurd hi (Nat.not_lt_zero _))
    rw [hL] at r
    rcases r with ⟨x, x1, ⟨pl', u1, u2, u3, it', ic', x2⟩, a, many', ik', jf', ip', x3, x4, x5, x6, x7, x8⟩ | ⟨c', e, a, it', pl', many', ik', jf', ip', y1, y2, y3, y4, y5, y6, y7, y8, y9, y10, y11, y12, y13, y14⟩
    · have x2 : f_X0_readItems_12 FU 0 pl (-1) (tkT (Lk t n) n (sk (Lk t n) n (tkE (Lk t n) n (sk (Lk t n) n 0)))) (nI (sk (Lk t n) n (tkE (Lk t n) n (sk (Lk t n) n 0)))) (nI (tkE (Lk t n) n (sk (Lk t n) n (tkE (Lk t n) n (sk (Lk t n) n 0))))) nm ln gr ty fla (nI z) it 0 b (nI n) = _ := x2
      have ni := nI_ne x (by omega)
      rw [x2, ob8_s, if_pos rfl, x4, ob6_s, M_takesWordI hn (by omega) _ ni, ob2_s, if_pos rfl, M_129I hn (sk_5 hn (by omega)) hh ni, C_58F ni]
      have f2 : FQ h Omany Oik Ojf Orb OsK OsF OsO OsX OsM OLt OLf OLs OBy ONu many' ik' jf' Orb OsK OsF OsO OsX OsM OLt OLf OLs OBy ONu := ⟨frm_tr f4 x5, x6, x7, frm_rf _ _ _, frm_rf _ _ _, frm_rf _ _ _, frm_rf _ _ _, frm_rf _ _ _, frm_rf _ _ _, frm_rf _ _ _, frm_rf _ _ _, frm_rf _ _ _, frm_rf _ _ _, frm_rf _ _ _⟩
      exact QO_F (PLN_frm hPo f2 hh hko)
    · have y7 : f_X0_readItems_12 FU 0 pl (-1) (tkT (Lk t n) n (sk (Lk t n) n (tkE (Lk t n) n (sk (Lk t n) n 0)))) (nI (sk (Lk t n) n (tkE (Lk t n) n (sk (Lk t n) n 0)))) (nI (tkE (Lk t n) n (sk (Lk t n) n (tkE (Lk t n) n (sk (Lk t n) n 0))))) nm ln gr ty fla (nI z) it 0 b (nI n) = _ := y7
      rw [y7, ob8_s, if_neg n10, y8, ob6_s]
      have f2 : FQ h Omany Oik Ojf Orb OsK OsF OsO OsX OsM OLt OLf OLs OBy ONu many' ik' jf' Orb OsK OsF OsO OsX OsM OLt OLf OLs OBy ONu := ⟨frm_tr f4 (fun j hj => y10 j (by omega)), y12, y13, frm_rf _ _ _, frm_rf _ _ _, frm_rf _ _ _, frm_rf _ _ _, frm_rf _ _ _, frm_rf _ _ _, frm_rf _ _ _, frm_rf _ _ _, frm_rf _ _ _, frm_rf _ _ _, frm_rf _ _ _⟩
      exact R_mid K' y4 y5 y2 y9 y11 (by rw [y10 _ (by omega), pk_un (by omega), pk_un (by omega), pk_us]) (by rw [y10 _ (by omega), pk_un (by omega), pk_us]) (by rw [y10 _ (by omega), pk_us]) pk_us hPo f2 hko
  · have ni := nI_ne (sk (Lk t n) n 0) (by omega)
    rw [if_neg (fun z => w0 (k0.mp z)), if_neg w0, ob5_s, if_pos rfl, ob8_s, if_pos rfl, ob2_s, if_pos rfl, M_fail, ob1_s, f_X6_query_87, if_neg ni]
    obtain ⟨a, ha, ea⟩ := M_q99I (t := t) (gr := gr') (ln := ln') (nm := nm') (kd := kd) (ty := ty') (many := (upd (upd (upd (upd Omany (4 * h) (nI 0)) (4 * h + 1) (nI 0)) (4 * h + 2) (nI 0)) (4 * h + 3) (nI 0))) (ik := Oik) (jf := Ojf) (ip := ip) (k := 4095) (zz := nI z) (hw := nI h) hn hs ni
    rw [show FU = 4095 + 1 from rfl, ea, ob6_s, M_takesWordI hn (by omega) _ ni, ob2_s, if_pos rfl, M_129I hn (sk_5 hn (by omega)) hh ni, C_58F ni]
    have f2 : FQ h Omany Oik Ojf Orb OsK OsF OsO OsX OsM OLt OLf OLs OBy ONu (upd (upd (upd (upd Omany (4 * h) (nI 0)) (4 * h + 1) (nI 0)) (4 * h + 2) (nI 0)) (4 * h + 3) (nI 0)) Oik Ojf Orb OsK OsF OsO OsX OsM OLt OLf OLs OBy ONu := ⟨f4, frm_rf _ _ _, frm_rf _ _ _, frm_rf _ _ _, frm_rf _ _ _, frm_rf _ _ _, frm_rf _ _ _, frm_rf _ _ _, frm_rf _ _ _, frm_rf _ _ _, frm_rf _ _ _, frm_rf _ _ _, frm_rf _ _ _, frm_rf _ _ _⟩
    exact QO_F (PLN_frm hPo f2 hh hko)
end CXz
