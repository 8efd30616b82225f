/-! pure rows: a query whole, both sides at once -/
theorem cpy_in {α : Type} {f g : Nat → α} {n j : Nat} (h : j < n) : va_cpy f g 0 0 n j = f j := by
  unfold va_cpy
  rw [if_pos ⟨Nat.zero_le _, by omega⟩, Nat.sub_zero, Nat.zero_add]
/-- the plan of the class and the kept half of the reference are alike -/
def PLN (it : Nat → Int32) (by_ : Nat → Int32) (st : Nat → Int32) (lt : Nat → Int32) (nb : Nat → Int64) (ts : Nat → Int32) (tl : Nat → Int32) (tb : Nat → Int32) (ic : Int32) (bc : Int32) (sc : Int32) (lc : Int32) (te : Int32) (kept : Int32) (many : Nat → Int32) (ik : Nat → Int32) (jf : Nat → Int32) (rb : Nat → Int32) (sK : Nat → Int32) (sF : Nat → Int32) (sO : Nat → Int32) (sX : Nat → Int32) (sM : Nat → Int32) (Lt : Nat → Int32) (Lf : Nat → Int32) (Ls : Nat → Int32) (By : Nat → Int32) (Nu : Nat → Int64) : Prop := (kept = -1 ∧ ic = 0 ∧ bc = 0 ∧ sc = 0 ∧ lc = 0) ∨ ∃ h c0 c1 c2 c3 e, h ≤ 1 ∧ kept = nI h ∧ c0 ≤ 16 ∧ c1 ≤ 8 ∧ c2 ≤ 64 ∧ c3 ≤ 64 ∧ e ≤ 2000 ∧ ic = nI c0 ∧ bc = nI c1 ∧ sc = nI c2 ∧ lc = nI c3 ∧ many (4 * h) = nI c0 ∧ many (4 * h + 1) = nI c1 ∧ many (4 * h + 2) = nI c2 ∧ many (4 * h + 3) = nI c3 ∧ (∀ i, i < c0 → it (2 * i) = ik (16 * h + i) ∧ it (2 * i + 1) = jf (16 * h + i) ∧ ∃ k, k < 6 ∧ ik (16 * h + i) = nI k) ∧ BR h c1 by_ rb ∧ SR h c2 st sK sF sO sX sM ∧ LR h c3 e lt nb ts tl tb Lt Lf Ls By Nu
def FQ (h : Nat) (many : Nat → Int32) (ik : Nat → Int32) (jf : Nat → Int32) (rb : Nat → Int32) (sK : Nat → Int32) (sF : Nat → Int32) (sO : Nat → Int32) (sX : Nat → Int32) (sM : Nat → Int32) (Lt : Nat → Int32) (Lf : Nat → Int32) (Ls : Nat → Int32) (By : Nat → Int32) (Nu : Nat → Int64) (many' : Nat → Int32) (ik' : Nat → Int32) (jf' : Nat → Int32) (rb' : Nat → Int32) (sK' : Nat → Int32) (sF' : Nat → Int32) (sO' : Nat → Int32) (sX' : Nat → Int32) (sM' : Nat → Int32) (Lt' : Nat → Int32) (Lf' : Nat → Int32) (Ls' : Nat → Int32) (By' : Nat → Int32) (Nu' : Nat → Int64) : Prop := frm 4 h many many' ∧ frm 16 h ik ik' ∧ frm 16 h jf jf' ∧ frm 8 h rb rb' ∧ frm 64 h sK sK' ∧ frm 64 h sF sF' ∧ frm 64 h sO sO' ∧ frm 64 h sX sX' ∧ frm 64 h sM sM' ∧ frm 64 h Lt Lt' ∧ frm 64 h Lf Lf' ∧ frm 64 h Ls Ls' ∧ frm 2000 h By By' ∧ frm 64 h Nu Nu'
theorem FQ_rf (h : Nat) (many : Nat → Int32) (ik : Nat → Int32) (jf : Nat → Int32) (rb : Nat → Int32) (sK : Nat → Int32) (sF : Nat → Int32) (sO : Nat → Int32) (sX : Nat → Int32) (sM : Nat → Int32) (Lt : Nat → Int32) (Lf : Nat → Int32) (Ls : Nat → Int32) (By : Nat → Int32) (Nu : Nat → Int64) : FQ h many ik jf rb sK sF sO sX sM Lt Lf Ls By Nu many ik jf rb sK sF sO sX sM Lt Lf Ls By Nu := ⟨frm_rf _ _ _, frm_rf _ _ _, frm_rf _ _ _, frm_rf _ _ _, frm_rf _ _ _, frm_rf _ _ _, frm_rf _ _ _, frm_rf _ _ _, frm_rf _ _ _, frm_rf _ _ _, frm_rf _ _ _, frm_rf _ _ _, frm_rf _ _ _, frm_rf _ _ _⟩
theorem FQ_tr {h : Nat} {a0 : Nat → Int32} {a1 : Nat → Int32} {a2 : Nat → Int32} {a3 : Nat → Int32} {a4 : Nat → Int32} {a5 : Nat → Int32} {a6 : Nat → Int32} {a7 : Nat → Int32} {a8 : Nat → Int32} {a9 : Nat → Int32} {a10 : Nat → Int32} {a11 : Nat → Int32} {a12 : Nat → Int32} {a13 : Nat → Int64} {b0 : Nat → Int32} {b1 : Nat → Int32} {b2 : Nat → Int32} {b3 : Nat → Int32} {b4 : Nat → Int32} {b5 : Nat → Int32} {b6 : Nat → Int32} {b7 : Nat → Int32} {b8 : Nat → Int32} {b9 : Nat → Int32} {b10 : Nat → Int32} {b11 : Nat → Int32} {b12 : Nat → Int32} {b13 : Nat → Int64} {c0 : Nat → Int32} {c1 : Nat → Int32} {c2 : Nat → Int32} {c3 : Nat → Int32} {c4 : Nat → Int32} {c5 : Nat → Int32} {c6 : Nat → Int32} {c7 : Nat → Int32} {c8 : Nat → Int32} {c9 : Nat → Int32} {c10 : Nat → Int32} {c11 : Nat → Int32} {c12 : Nat → Int32} {c13 : Nat → Int64} (x : FQ h a0 a1 a2 a3 a4 a5 a6 a7 a8 a9 a10 a11 a12 a13 b0 b1 b2 b3 b4 b5 b6 b7 b8 b9 b10 b11 b12 b13) (y : FQ h b0 b1 b2 b3 b4 b5 b6 b7 b8 b9 b10 b11 b12 b13 c0 c1 c2 c3 c4 c5 c6 c7 c8 c9 c10 c11 c12 c13) : FQ h a0 a1 a2 a3 a4 a5 a6 a7 a8 a9 a10 a11 a12 a13 c0 c1 c2 c3 c4 c5 c6 c7 c8 c9 c10 c11 c12 c13 := ⟨frm_tr x.1 y.1, frm_tr x.2.1 y.2.1, frm_tr x.2.2.1 y.2.2.1, frm_tr x.2.2.2.1 y.2.2.2.1, frm_tr x.2.2.2.2.1 y.2.2.2.2.1, frm_tr x.2.2.2.2.2.1 y.2.2.2.2.2.1, frm_tr x.2.2.2.2.2.2.1 y.2.2.2.2.2.2.1, frm_tr x.2.2.2.2.2.2.2.1 y.2.2.2.2.2.2.2.1, frm_tr x.2.2.2.2.2.2.2.2.1 y.2.2.2.2.2.2.2.2.1, frm_tr x.2.2.2.2.2.2.2.2.2.1 y.2.2.2.2.2.2.2.2.2.1, frm_tr x.2.2.2.2.2.2.2.2.2.2.1 y.2.2.2.2.2.2.2.2.2.2.1, frm_tr x.2.2.2.2.2.2.2.2.2.2.2.1 y.2.2.2.2.2.2.2.2.2.2.2.1, frm_tr x.2.2.2.2.2.2.2.2.2.2.2.2.1 y.2.2.2.2.2.2.2.2.2.2.2.2.1, frm_tr x.2.2.2.2.2.2.2.2.2.2.2.2.2 y.2.2.2.2.2.2.2.2.2.2.2.2.2⟩
theorem PLN_frm {h : Nat} {it : Nat → Int32} {by_ : Nat → Int32} {st : Nat → Int32} {lt : Nat → Int32} {nb : Nat → Int64} {ts : Nat → Int32} {tl : Nat → Int32} {tb : Nat → Int32} {ic : Int32} {bc : Int32} {sc : Int32} {lc : Int32} {te : Int32} {kept : Int32} {many : Nat → Int32} {ik : Nat → Int32} {jf : Nat → Int32} {rb : Nat → Int32} {sK : Nat → Int32} {sF : Nat → Int32} {sO : Nat → Int32} {sX : Nat → Int32} {sM : Nat → Int32} {Lt : Nat → Int32} {Lf : Nat → Int32} {Ls : Nat → Int32} {By : Nat → Int32} {Nu : Nat → Int64} {many' : Nat → Int32} {ik' : Nat → Int32} {jf' : Nat → Int32} {rb' : Nat → Int32} {sK' : Nat → Int32} {sF' : Nat → Int32} {sO' : Nat → Int32} {sX' : Nat → Int32} {sM' : Nat → Int32} {Lt' : Nat → Int32} {Lf' : Nat → Int32} {Ls' : Nat → Int32} {By' : Nat → Int32} {Nu' : Nat → Int64} (hP : PLN it by_ st lt nb ts tl tb ic bc sc lc te kept many ik jf rb sK sF sO sX sM Lt Lf Ls By Nu) (hF : FQ h many ik jf rb sK sF sO sX sM Lt Lf Ls By Nu many' ik' jf' rb' sK' sF' sO' sX' sM' Lt' Lf' Ls' By' Nu') (hh : h ≤ 1) (hk : ∀ h', h' ≤ 1 → kept = nI h' → ¬ h' = h) : PLN it by_ st lt nb ts tl tb ic bc sc lc te kept many' ik' jf' rb' sK' sF' sO' sX' sM' Lt' Lf' Ls' By' Nu' := by
  obtain ⟨fmany, fik, fjf, frb, fsK, fsF, fsO, fsX, fsM, fLt, fLf, fLs, fBy, fNu⟩ := hF
  rcases hP with hP | ⟨g, c0, c1, c2, c3, e, h1, h2, h3, h4, h5, h6, h7, h8, h9, h10, h11, h12, h13, h14, h15, h16, h17, h18, h19, h20⟩
  · exact Or.inl hP
  · have ne := hk g h1 h2
    refine Or.inr ⟨g, c0, c1, c2, c3, e, h1, h2, h3, h4, h5, h6, h7, h8, h9, h10, h11, ?_, ?_, ?_, ?_, ?_, ?_, ?_, ?_, ?_⟩
    · rw [fmany _ (by omega)]; exact h12
    · rw [fmany _ (by omega)]; exact h13
    · rw [fmany _ (by omega)]; exact h14
    · rw [fmany _ (by omega)]; exact h15
    · intro i hi
      rw [fik _ (by omega), fjf _ (by omega)]; exact h16 i hi
    · intro i hi
      rw [frb _ (by omega)]; exact h17 i hi
    · intro i hi
      rw [fsK _ (by omega), fsF _ (by omega), fsO _ (by omega), fsX _ (by omega), fsM _ (by omega)]; exact h18 i hi
    · intro i hi
      rw [fLt _ (by omega), fLf _ (by omega), fLs _ (by omega), fNu _ (by omega)]; exact h19 i hi
    · intro j hj
      rw [fBy _ (by omega)]; exact h20 j hj
/-- both sides have answered the same, and are alike again -/
def QO (h : Nat) (C : Option (Int32 × Int32 × (Nat → Int32) × (Nat → Int32) × (Nat → Int32) × Int32 × Int32 × Int32 × Int32 × Int32 × Int32 × Int64 × Int32 × Int32 × (Nat → Int32) × (Nat → Int32) × (Nat → Int32) × (Nat → Int32) × (Nat → Int64) × (Nat → Int32) × (Nat → Int32) × (Nat → Int32) × Int32 × Int32 × Int32 × Int32 × Int32 × (Nat → Int32) × (Nat → Int32) × (Nat → Int32) × (Nat → Int32) × (Nat → Int64) × (Nat → Int32) × (Nat → Int32) × (Nat → Int32) × Int32 × Int32 × Int32 × Int32 × Int32)) (M : Option (Int32 × Int32 × (Nat → Int32) × Int32 × Int32 × Int32 × Int32 × Int32 × Int32 × (Nat → Int32) × (Nat → Int32) × (Nat → Int32) × (Nat → Int32) × (Nat → Int32) × (Nat → Int32) × (Nat → Int32) × (Nat → Int32) × (Nat → Int32) × (Nat → Int32) × (Nat → Int32) × (Nat → Int32) × (Nat → Int32) × (Nat → Int32) × (Nat → Int32) × (Nat → Int64) × (Nat → Int32) × (Nat → Int32) × Int32 × Int32)) : Prop := ∃ r qpl qws qwp qw qN qF qtok qsta qen qnr qes qbb dit dby_ dst dlt dnb dts dtl dtb dic dbc dsc dlc dte pit pby_ pst plt pnb pts ptl ptb pic pbc psc plc pte, C = some (r, 0, qpl, qws, qwp, qw, qN, qF, qtok, qsta, qen, qnr, qes, qbb, dit, dby_, dst, dlt, dnb, dts, dtl, dtb, dic, dbc, dsc, dlc, dte, pit, pby_, pst, plt, pnb, pts, ptl, ptb, pic, pbc, psc, plc, pte) ∧ ∃ xtext xsize xat xkept xmany xik xjf xip xrb xsK xsF xsO xsX xsM xLt xLf xLs xBy xsd xNu xpile xpp xtop xop, M = some (r, 0, xtext, 0, xsize, xat, r, xkept, nI h, xmany, xik, xjf, xip, xrb, xsK, xsF, xsO, xsX, xsM, xLt, xLf, xLs, xBy, xsd, xNu, xpile, xpp, xtop, xop) ∧ PLN pit pby_ pst plt pnb pts ptl ptb pic pbc psc plc pte xkept xmany xik xjf xrb xsK xsF xsO xsX xsM xLt xLf xLs xBy xNu
theorem C_58F {sz : Int32} {pl : Nat → Int32} {ws : Nat → Int32} {wp : Nat → Int32} {w : Int32} {N : Int32} {tok : Int32} {sta : Int32} {en : Int32} {nr : Int64} {es : Int32} {bb : Int32} {it : Nat → Int32} {by_ : Nat → Int32} {st : Nat → Int32} {lt : Nat → Int32} {nb : Nat → Int64} {ts : Nat → Int32} {tl : Nat → Int32} {tb : Nat → Int32} {ic : Int32} {bc : Int32} {sc : Int32} {lc : Int32} {te : Int32} {Pit : Nat → Int32} {Pby_ : Nat → Int32} {Pst : Nat → Int32} {Plt : Nat → Int32} {Pnb : Nat → Int64} {Pts : Nat → Int32} {Ptl : Nat → Int32} {Ptb : Nat → Int32} {Pic : Int32} {Pbc : Int32} {Psc : Int32} {Plc : Int32} {Pte : Int32} {F : Int32} (hF : ¬ F = -1) : f_X5_query_58 sz pl ws wp w N F tok sta en nr es bb it by_ st lt nb ts tl tb ic bc sc lc te Pit Pby_ Pst Plt Pnb Pts Ptl Ptb Pic Pbc Psc Plc Pte = some (F, 0, pl, ws, wp, w, N, F, tok, sta, en, nr, es, bb, it, by_, st, lt, nb, ts, tl, tb, ic, bc, sc, lc, te, Pit, Pby_, Pst, Plt, Pnb, Pts, Ptl, Ptb, Pic, Pbc, Psc, Plc, Pte) := by
  rw [f_X5_query_58, f_X4_clear, ob1_s, if_neg hF]
theorem C_58O {sz : Int32} {pl : Nat → Int32} {ws : Nat → Int32} {wp : Nat → Int32} {w : Int32} {N : Int32} {tok : Int32} {sta : Int32} {en : Int32} {nr : Int64} {es : Int32} {bb : Int32} {it : Nat → Int32} {by_ : Nat → Int32} {st : Nat → Int32} {lt : Nat → Int32} {nb : Nat → Int64} {ts : Nat → Int32} {tl : Nat → Int32} {tb : Nat → Int32} {ic : Int32} {bc : Int32} {sc : Int32} {lc : Int32} {te : Int32} {Pit : Nat → Int32} {Pby_ : Nat → Int32} {Pst : Nat → Int32} {Plt : Nat → Int32} {Pnb : Nat → Int64} {Pts : Nat → Int32} {Ptl : Nat → Int32} {Ptb : Nat → Int32} {Pic : Int32} {Pbc : Int32} {Psc : Int32} {Plc : Int32} {Pte : Int32} : f_X5_query_58 sz pl ws wp w N (-1) tok sta en nr es bb it by_ st lt nb ts tl tb ic bc sc lc te Pit Pby_ Pst Plt Pnb Pts Ptl Ptb Pic Pbc Psc Plc Pte = some (-1, 0, pl, ws, wp, w, N, -1, tok, sta, en, nr, es, bb, it, by_, st, lt, nb, ts, tl, tb, ic, bc, sc, lc, te, va_cpy it Pit 0 0 32, va_cpy by_ Pby_ 0 0 8, va_cpy st Pst 0 0 320, va_cpy lt Plt 0 0 64, va_cpy nb Pnb 0 0 64, va_cpy ts Pts 0 0 64, va_cpy tl Ptl 0 0 64, va_cpy tb Ptb 0 0 2000, ic, bc, sc, lc, te) := by
  rw [f_X5_query_58, f_X4_clear, ob1_s, if_pos rfl, f_X1_copy]
  rfl
theorem M_324F {t : Nat → Int32} {h : Nat} {size at_ kept ill : Int32} {many : Nat → Int32} {ik : Nat → Int32} {jf : Nat → Int32} {ip : Nat → Int32} {rb : Nat → Int32} {sK : Nat → Int32} {sF : Nat → Int32} {sO : Nat → Int32} {sX : Nat → Int32} {sM : Nat → Int32} {Lt : Nat → Int32} {Lf : Nat → Int32} {Ls : Nat → Int32} {By : Nat → Int32} {sd : Nat → Int32} {Nu : Nat → Int64} {pile : Nat → Int32} {pp : Nat → Int32} {top : Int32} {op : Int32} (hi : ¬ ill = -1) : f_X6_query_324 0 t 0 size at_ ill kept (nI h) many ik jf ip rb sK sF sO sX sM Lt Lf Ls By sd Nu pile pp top op = some (ill, 0, t, 0, size, at_, ill, kept, nI h, many, ik, jf, ip, rb, sK, sF, sO, sX, sM, Lt, Lf, Ls, By, sd, Nu, pile, pp, top, op) := by
  rw [f_X6_query_324, if_neg hi]
theorem M_324O {t : Nat → Int32} {h : Nat} {size at_ kept : Int32} {many : Nat → Int32} {ik : Nat → Int32} {jf : Nat → Int32} {ip : Nat → Int32} {rb : Nat → Int32} {sK : Nat → Int32} {sF : Nat → Int32} {sO : Nat → Int32} {sX : Nat → Int32} {sM : Nat → Int32} {Lt : Nat → Int32} {Lf : Nat → Int32} {Ls : Nat → Int32} {By : Nat → Int32} {sd : Nat → Int32} {Nu : Nat → Int64} {pile : Nat → Int32} {pp : Nat → Int32} {top : Int32} {op : Int32} : f_X6_query_324 0 t 0 size at_ (-1) kept (nI h) many ik jf ip rb sK sF sO sX sM Lt Lf Ls By sd Nu pile pp top op = some (-1, 0, t, 0, size, at_, -1, nI h, nI h, many, ik, jf, ip, rb, sK, sF, sO, sX, sM, Lt, Lf, Ls, By, sd, Nu, pile, pp, top, op) := by
  rw [f_X6_query_324, if_pos rfl]
theorem M_243z {many ik jf ip rb : Nat → Int32} {h : Nat} {ill : Int32} (hh : h ≤ 1) : f_X6_query_243 FU 0 0 ill (nI h) many ik jf ip rb = some ill := by
  rw [show FU = 4095 + 1 from rfl, f_X6_query_243, M_4h0, rd_in (show 4 * h < 8 by omega) (by decide), if_pos rfl, ite_self]
theorem M_216I {t : Nat → Int32} {h : Nat} {size at_ kept ill : Int32} {many : Nat → Int32} {ik : Nat → Int32} {jf : Nat → Int32} {ip : Nat → Int32} {rb : Nat → Int32} {sK : Nat → Int32} {sF : Nat → Int32} {sO : Nat → Int32} {sX : Nat → Int32} {sM : Nat → Int32} {Lt : Nat → Int32} {Lf : Nat → Int32} {Ls : Nat → Int32} {By : Nat → Int32} {sd : Nat → Int32} {Nu : Nat → Int64} {pile : Nat → Int32} {pp : Nat → Int32} {top : Int32} {op : Int32} (hh : h ≤ 1) (hi : ¬ ill = -1) : f_X6_query_216 0 t 0 size at_ ill kept (nI h) many ik jf ip rb sK sF sO sX sM Lt Lf Ls By sd Nu pile pp top op = some (ill, 0, t, 0, size, at_, ill, kept, nI h, many, ik, jf, ip, rb, sK, sF, sO, sX, sM, Lt, Lf, Ls, By, sd, Nu, pile, pp, top, op) := by
  rw [f_X6_query_216, if_neg hi, f_X6_query_239, f_X6_query_240, M_243z hh, ob1_s, M_324F hi]
theorem M_185I {t : Nat → Int32} {n h a : Nat} {kept ill : Int32} {many : Nat → Int32} {ik : Nat → Int32} {jf : Nat → Int32} {ip : Nat → Int32} {rb : Nat → Int32} {sK : Nat → Int32} {sF : Nat → Int32} {sO : Nat → Int32} {sX : Nat → Int32} {sM : Nat → Int32} {Lt : Nat → Int32} {Lf : Nat → Int32} {Ls : Nat → Int32} {By : Nat → Int32} {sd : Nat → Int32} {Nu : Nat → Int64} {pile : Nat → Int32} {pp : Nat → Int32} {top : Int32} {op : Int32} (hn : n ≤ 2000) (ha : a < 5000) (hh : h ≤ 1) (hi : ¬ ill = -1) : f_X6_query_185 0 t 0 (nI n) (nI a) ill kept (nI h) many ik jf ip rb sK sF sO sX sM Lt Lf Ls By sd Nu pile pp top op = some (ill, 0, t, 0, nI n, nI (sk (Lk t n) n a), ill, kept, nI h, many, ik, jf, ip, rb, sK, sF, sO, sX, sM, Lt, Lf, Ls, By, sd, Nu, pile, pp, top, op) := by
  rw [f_X6_query_185, M_blanks hn (by omega), ob1_s, if_neg hi, M_216I hh hi]
theorem M_129I {t gr' kd ty' ln' nm' : Nat → Int32} {n h a z : Nat} {kept ill : Int32} {many : Nat → Int32} {ik : Nat → Int32} {jf : Nat → Int32} {ip : Nat → Int32} {rb : Nat → Int32} {sK : Nat → Int32} {sF : Nat → Int32} {sO : Nat → Int32} {sX : Nat → Int32} {sM : Nat → Int32} {Lt : Nat → Int32} {Lf : Nat → Int32} {Ls : Nat → Int32} {By : Nat → Int32} {sd : Nat → Int32} {Nu : Nat → Int64} {pile : Nat → Int32} {pp : Nat → Int32} {top : Int32} {op : Int32} (hn : n ≤ 2000) (ha : a < 5000) (hh : h ≤ 1) (hi : ¬ ill = -1) : f_X6_query_129 0 t 0 (nI n) (nI a) ill gr' kd ty' ln' nm' (nI z) kept (nI h) many ik jf ip rb sK sF sO sX sM Lt Lf Ls By sd Nu pile pp top op = some (ill, 0, t, 0, nI n, nI (sk (Lk t n) n a), ill, kept, nI h, many, ik, jf, ip, rb, sK, sF, sO, sX, sM, Lt, Lf, Ls, By, sd, Nu, pile, pp, top, op) := by
  rw [f_X6_query_129, M_takesWordI hn (by omega) _ hi, ob2_s, if_pos rfl, M_185I hn (sk_5 hn ha) hh hi, sk_sk]
theorem tk_end {t : Nat → Int32} {n s : Nat} : tkT (Lk t n) n s = 29 ↔ Lk t n s = -1 := by
  unfold tkT
  by_cases h1 : Lk t n s = -1
  · rw [if_pos h1]; exact ⟨fun _ => h1, fun _ => rfl⟩
  · rw [if_neg h1]
    refine ⟨fun z => ?_, fun z => absurd z h1⟩
    exfalso
    by_cases h2 : isL (Lk t n s) = true
    · rw [if_pos h2] at z
      exact wd_nI (by decide) z
    · rw [if_neg h2] at z
      revert z
      unfold sgT
      repeat' split
      all_goals (intro z; exact absurd z (by decide))
theorem QO_F {t : Nat → Int32} {h : Nat} {r size at_ kept : Int32} {pl : Nat → Int32} {ws : Nat → Int32} {wp : Nat → Int32} {w : Int32} {N : Int32} {tok : Int32} {sta : Int32} {en : Int32} {nr : Int64} {es : Int32} {bb : Int32} {it : Nat → Int32} {by_ : Nat → Int32} {st : Nat → Int32} {lt : Nat → Int32} {nb : Nat → Int64} {ts : Nat → Int32} {tl : Nat → Int32} {tb : Nat → Int32} {ic : Int32} {bc : Int32} {sc : Int32} {lc : Int32} {te : Int32} {Pit : Nat → Int32} {Pby_ : Nat → Int32} {Pst : Nat → Int32} {Plt : Nat → Int32} {Pnb : Nat → Int64} {Pts : Nat → Int32} {Ptl : Nat → Int32} {Ptb : Nat → Int32} {Pic : Int32} {Pbc : Int32} {Psc : Int32} {Plc : Int32} {Pte : Int32} {many : Nat → Int32} {ik : Nat → Int32} {jf : Nat → Int32} {ip : Nat → Int32} {rb : Nat → Int32} {sK : Nat → Int32} {sF : Nat → Int32} {sO : Nat → Int32} {sX : Nat → Int32} {sM : Nat → Int32} {Lt : Nat → Int32} {Lf : Nat → Int32} {Ls : Nat → Int32} {By : Nat → Int32} {sd : Nat → Int32} {Nu : Nat → Int64} {pile : Nat → Int32} {pp : Nat → Int32} {top : Int32} {op : Int32} (hP : PLN Pit Pby_ Pst Plt Pnb Pts Ptl Ptb Pic Pbc Psc Plc Pte kept many ik jf rb sK sF sO sX sM Lt Lf Ls By Nu) : QO h (some (r, 0, pl, ws, wp, w, N, r, tok, sta, en, nr, es, bb, it, by_, st, lt, nb, ts, tl, tb, ic, bc, sc, lc, te, Pit, Pby_, Pst, Plt, Pnb, Pts, Ptl, Ptb, Pic, Pbc, Psc, Plc, Pte)) (some (r, 0, t, 0, size, at_, r, kept, nI h, many, ik, jf, ip, rb, sK, sF, sO, sX, sM, Lt, Lf, Ls, By, sd, Nu, pile, pp, top, op)) := ⟨_, _, _, _, _, _, _, _, _, _, _, _, _, _, _, _, _, _, _, _, _, _, _, _, _, _, _, _, _, _, _, _, _, _, _, _, _, _, _, rfl, _, _, _, _, _, _, _, _, _, _, _, _, _, _, _, _, _, _, _, _, _, _, _, _, rfl, hP⟩
section CXq
variable {b t gr ln nm kd ty fla gr' ln' nm' ty' : Nat → Int32} {n z h : Nat} {V : Nat → Bool} {Pit : Nat → Int32} {Pby_ : Nat → Int32} {Pst : Nat → Int32} {Plt : Nat → Int32} {Pnb : Nat → Int64} {Pts : Nat → Int32} {Ptl : Nat → Int32} {Ptb : Nat → Int32} {Pic : Int32} {Pbc : Int32} {Psc : Int32} {Plc : Int32} {Pte : Int32} {kept : Int32} {Omany : Nat → Int32} {Oik : Nat → Int32} {Ojf : Nat → Int32} {Orb : Nat → Int32} {OsK : Nat → Int32} {OsF : Nat → Int32} {OsO : Nat → Int32} {OsX : Nat → Int32} {OsM : Nat → Int32} {OLt : Nat → Int32} {OLf : Nat → Int32} {OLs : Nat → Int32} {OBy : Nat → Int32} {ONu : Nat → Int64}
theorem R_end (K : CX b t gr ln nm kd ty fla gr' ln' nm' ty' n z h V) {s c0 c1 c2 c3 e : Nat} {sz : Int32} {pl : Nat → Int32} {ws : Nat → Int32} {wp : Nat → Int32} {w : Int32} {N : Int32} {nr : Int64} {es : Int32} {bb : Int32} {it : Nat → Int32} {by_ : Nat → Int32} {st : Nat → Int32} {lt : Nat → Int32} {nb : Nat → Int64} {ts : Nat → Int32} {tl : Nat → Int32} {tb : Nat → Int32} {ik jf ip rb sK sF sO sX sM Lt Lf Ls By sd many pile pp : Nat → Int32} {Nu : Nat → Int64} {top op : Int32} (hIc : c0 ≤ 16) (hm0 : many (4 * h) = nI c0) (hI : IR h c0 it pl ik jf ip) (hc1 : c1 ≤ 8) (hm1 : many (4 * h + 1) = nI c1) (hb : BR h c1 by_ rb) (he : e ≤ 2000) (D : DR h c2 c3 e st lt nb ts tl tb many sK sF sO sX sM Lt Lf Ls By sd Nu) (hPo : PLN Pit Pby_ Pst Plt Pnb Pts Ptl Ptb Pic Pbc Psc Plc Pte kept Omany Oik Ojf Orb OsK OsF OsO OsX OsM OLt OLf OLs OBy ONu) (hFo : FQ h Omany Oik Ojf Orb OsK OsF OsO OsX OsM OLt OLf OLs OBy ONu many ik jf rb sK sF sO sX sM Lt Lf Ls By Nu) (hko : ∀ h', h' ≤ 1 → kept = nI h' → ¬ h' = h) {at_ : Int32} : QO h (ob1 (f_X0_checkItems pl (-1) it by_ (nI c0) (nI c1)) (fun x48 => f_X5_query_58 sz pl ws wp w N x48 (tkT (Lk t n) n s) (nI s) (nI (tkE (Lk t n) n s)) nr es bb it by_ st lt nb ts tl tb (nI c0) (nI c1) (nI c2) (nI c3) (nI e) Pit Pby_ Pst Plt Pnb Pts Ptl Ptb Pic Pbc Psc Plc Pte)) (f_X6_query_216 0 t 0 (nI n) at_ (-1) kept (nI h) many ik jf ip rb sK sF sO sX sM Lt Lf Ls By sd Nu pile pp top op) := by
  obtain ⟨hVc, hVm, hB, hBt, hL, hF, hty, hn, hz, hz', hg, hh⟩ := K
  obtain ⟨d1, d2, d3, d4, d5, d6, d7⟩ := D
  have kk : kB (fun j => ik (16 * h + j)) c0 0 = kB (fun j => it (2 * j)) c0 0 := kB_congr c0 0 (fun j _ h2 => (hI j (by omega)).1.symm)
  have good : ∀ at_ : Int32, QO h (f_X5_query_58 sz pl ws wp w N (-1) (tkT (Lk t n) n s) (nI s) (nI (tkE (Lk t n) n s)) nr es bb it by_ st lt nb ts tl tb (nI c0) (nI c1) (nI c2) (nI c3) (nI e) Pit Pby_ Pst Plt Pnb Pts Ptl Ptb Pic Pbc Psc Plc Pte) (f_X6_query_324 0 t 0 (nI n) at_ (-1) kept (nI h) many ik jf ip rb sK sF sO sX sM Lt Lf Ls By sd Nu pile pp top op) := by
    intro at_
    rw [C_58O, M_324O]
    refine QO_F (Or.inr ⟨h, c0, c1, c2, c3, e, hh, rfl, hIc, hc1, d4, d5, he, rfl, rfl, rfl, rfl, hm0, hm1, d1, d2, ?_, ?_, ?_, ?_, ?_⟩)
    · intro i hi
      rw [cpy_in (by omega), cpy_in (by omega)]
      exact ⟨(hI i hi).1, (hI i hi).2.1, (hI i hi).2.2.2⟩
    · intro i hi
      rw [cpy_in (by omega)]; exact hb i hi
    · intro i hi
      rw [cpy_in (by omega), cpy_in (by omega), cpy_in (by omega), cpy_in (by omega), cpy_in (by omega)]; exact d6 i hi
    · intro i hi
      rw [cpy_in (by omega), cpy_in (by omega), cpy_in (by omega), cpy_in (by omega)]; exact d7.1 i hi
    · intro j hj
      rw [cpy_in (by omega)]; exact d7.2 j hj
  rw [f_X0_checkItems, C_collects hIc hc1, ob1_s, f_X6_query_216, if_pos rfl, M_collects hh hIc hc1 hm0 hm1 (fun i hi => (hI i hi).2.2.2), ob1_s, kk]
  cases hcol : (decide (0 < c1) || kB (fun j => it (2 * j)) c0 0) with
  | false =>
    rw [if_pos bI_f, if_pos bI_f, ob1_s, f_X6_query_239, f_X6_query_240, M_243z hh, ob1_s]
    exact good at_
  | true =>
    rw [if_neg bI_n, if_neg bI_n, f_X6_query_240]
    obtain ⟨r, r1, r2, r3, r4⟩ := R_check (n := n) hh hIc hc1 hm0 hm1 hI hb c0 0 FU FU (-1) (by omega) (by show c0 < 4096; omega) (by show c0 < 4096; omega)
    have r1 : f_X0_checkItems_13 FU 0 pl (-1) it by_ (nI c0) (nI c1) = some r := r1
    have r2 : f_X6_query_243 FU 1 0 (-1) (nI h) many ik jf ip rb = some r := r2
    rw [r1, ob1_s, ob1_s, r2, ob1_s]
    by_cases hr : r = -1
    · rw [hr]; exact good at_
    · rw [C_58F hr, M_324F hr]
      exact QO_F (PLN_frm hPo hFo hh hko)
theorem R_group (K : CX b t gr ln nm kd ty fla gr' ln' nm' ty' n z h V) {s c0 c2 c3 e : Nat} {sz : Int32} {pl : Nat → Int32} {ws : Nat → Int32} {wp : Nat → Int32} {w : Int32} {N : Int32} {nr : Int64} {es : Int32} {bb : Int32} {it : Nat → Int32} {by_ : Nat → Int32} {st : Nat → Int32} {lt : Nat → Int32} {nb : Nat → Int64} {ts : Nat → Int32} {tl : Nat → Int32} {tb : Nat → Int32} {ik jf ip rb sK sF sO sX sM Lt Lf Ls By sd many pile pp : Nat → Int32} {Nu : Nat → Int64} {top op : Int32} (hs : s ≤ n) (hss : sk (Lk t n) n s = s) (hIc : c0 ≤ 16) (hm0 : many (4 * h) = nI c0) (hI : IR h c0 it pl ik jf ip) (hm1 : many (4 * h + 1) = nI 0) (he : e ≤ 2000) (D : DR h c2 c3 e st lt nb ts tl tb many sK sF sO sX sM Lt Lf Ls By sd Nu) (hPo : PLN Pit Pby_ Pst Plt Pnb Pts Ptl Ptb Pic Pbc Psc Plc Pte kept Omany Oik Ojf Orb OsK OsF OsO OsX OsM OLt OLf OLs OBy ONu) (hFo : FQ h Omany Oik Ojf Orb OsK OsF OsO OsX OsM OLt OLf OLs OBy ONu many ik jf rb sK sF sO sX sM Lt Lf Ls By Nu) (hko : ∀ h', h' ≤ 1 → kept = nI h' → ¬ h' = h) : QO h (ob7 (f_X0_readGroup (-1) (tkT (Lk t n) n s) (nI s) (nI (tkE (Lk t n) n s)) nm ln gr ty fla (nI z) by_ (nI 0) b (nI n)) (fun x41 x42 x43 x44 x45 x46 x47 => if x41 = 0 then (f_X5_query_58 sz pl ws wp w N x42 x43 x44 x45 nr es bb it x46 st lt nb ts tl tb (nI c0) x47 (nI c2) (nI c3) (nI e) Pit Pby_ Pst Plt Pnb Pts Ptl Ptb Pic Pbc Psc Plc Pte) else (ob1 (f_X0_checkItems pl x42 it x46 (nI c0) x47) (fun x48 => f_X5_query_58 sz pl ws wp w N x48 x43 x44 x45 nr es bb it x46 st lt nb ts tl tb (nI c0) x47 (nI c2) (nI c3) (nI e) Pit Pby_ Pst Plt Pnb Pts Ptl Ptb Pic Pbc Psc Plc Pte)))) (f_X6_query_129 0 t 0 (nI n) (nI s) (-1) gr' kd ty' ln' nm' (nI z) kept (nI h) many ik jf ip rb sK sF sO sX sM Lt Lf Ls By sd Nu pile pp top op) := by
  have K' := K
  obtain ⟨hVc, hVm, hB, hBt, hL, hF, hty, hn, hz, hz', hg, hh⟩ := K
  have n10 : ¬ (1 : Int32) = 0 := by decide
  have hE := tkE_le hBt hs
  have k2 : tkT (Lk t n) n s = 2 ↔ wd (Lk t n) n s = 2 := tk_word (k := 2) (by decide)
  rw [f_X6_query_129, M_takes_2 hn hs, hss, f_X0_readGroup]
  by_cases w2 : wd (Lk t n) n s = 2
  · have hs2 := sk_le t n _ hE
    have k3 : tkT (Lk t n) n (sk (Lk t n) n (tkE (Lk t n) n s)) = 3 ↔ wd (Lk t n) n (sk (Lk t n) n (tkE (Lk t n) n s)) = 3 := tk_word (k := 3) (by decide)
    rw [if_pos w2, if_pos (k2.mpr w2), ob2_s, if_neg n10, A_adv hB hL hn hE, ob3_s, A_take hB hL hn hs2, M_takes_3 hn hE]
    by_cases w3 : wd (Lk t n) n (sk (Lk t n) n (tkE (Lk t n) n s)) = 3
    · have hE2 := tkE_le hBt hs2
      rw [if_pos w3, if_pos (k3.mpr w3), ob2_s, if_neg n10, ob5_s, if_neg n10, f_X0_readBehindBy, f_X6_query_157, if_pos rfl]
      have asc : ∀ (X : Option (Int32 × Int32 × (Nat → Int32) × (Nat → Int32))) (G : Int32 → Int32 → (Nat → Int32) → (Nat → Int32) → Option (Int32 × Int32 × (Nat → Int32) × (Nat → Int32))) (H : Int32 → Int32 → (Nat → Int32) → (Nat → Int32) → Option (Int32 × Int32 × (Nat → Int32) × Int32 × Int32 × Int32 × Int32 × Int32 × Int32 × (Nat → Int32) × (Nat → Int32) × (Nat → Int32) × (Nat → Int32) × (Nat → Int32) × (Nat → Int32) × (Nat → Int32) × (Nat → Int32) × (Nat → Int32) × (Nat → Int32) × (Nat → Int32) × (Nat → Int32) × (Nat → Int32) × (Nat → Int32) × (Nat → Int32) × (Nat → Int64) × (Nat → Int32) × (Nat → Int32) × Int32 × Int32)), ob4 X (fun x5 x6 x7 x8 => ob4 (G x5 x6 x7 x8) H) = ob4 (ob4 X G) H := by
        intro X G H
        cases X with
        | none => rfl
        | some X => obtain ⟨_, _, _, _⟩ := X; rfl
      rw [asc]
      rcases R_byLoop K' 8 0 (tkE (Lk t n) n (sk (Lk t n) n (tkE (Lk t n) n s))) FU FU by_ many rb (by omega) hE2 (by decide) (by decide) hm1 (fun i hi => by omega) with ⟨x, x1, ⟨u1, u2, u3, u4, u5, x2⟩, a, many2, rb2, x3, x4, x5, x6⟩ | ⟨s2, c1, by2, many2, rb2, y1, y2, y3, y4, y5, y6, y7, y8, y9, y10⟩
      · have x2 : f_X0_readBehindBy_2 FU 0 (-1) (tkT (Lk t n) n (sk (Lk t n) n (tkE (Lk t n) n (sk (Lk t n) n (tkE (Lk t n) n s))))) (nI (sk (Lk t n) n (tkE (Lk t n) n (sk (Lk t n) n (tkE (Lk t n) n s))))) (nI (tkE (Lk t n) n (sk (Lk t n) n (tkE (Lk t n) n (sk (Lk t n) n (tkE (Lk t n) n s)))))) nm ln gr ty fla (nI z) by_ (nI 0) b (nI n) = _ := x2
        rw [x2, ob7_s, if_pos rfl, ob7_s, if_pos rfl, x4, ob4_s, M_185I hn x3 hh (nI_ne x (by omega)), C_58F (nI_ne x (by omega))]
        have f2 : FQ h many ik jf rb sK sF sO sX sM Lt Lf Ls By Nu many2 ik jf rb2 sK sF sO sX sM Lt Lf Ls By Nu := ⟨x5, frm_rf _ _ _, frm_rf _ _ _, x6, frm_rf _ _ _, frm_rf _ _ _, frm_rf _ _ _, frm_rf _ _ _, frm_rf _ _ _, frm_rf _ _ _, frm_rf _ _ _, frm_rf _ _ _, frm_rf _ _ _, frm_rf _ _ _⟩
        exact QO_F (PLN_frm hPo (FQ_tr hFo f2) hh hko)
      · have y5 : f_X0_readBehindBy_2 FU 0 (-1) (tkT (Lk t n) n (sk (Lk t n) n (tkE (Lk t n) n (sk (Lk t n) n (tkE (Lk t n) n s))))) (nI (sk (Lk t n) n (tkE (Lk t n) n (sk (Lk t n) n (tkE (Lk t n) n s))))) (nI (tkE (Lk t n) n (sk (Lk t n) n (tkE (Lk t n) n (sk (Lk t n) n (tkE (Lk t n) n s)))))) nm ln gr ty fla (nI z) by_ (nI 0) b (nI n) = _ := y5
        have f2 : FQ h many ik jf rb sK sF sO sX sM Lt Lf Ls By Nu many2 ik jf rb2 sK sF sO sX sM Lt Lf Ls By Nu := ⟨fun j hj => y8 j (by omega), frm_rf _ _ _, frm_rf _ _ _, y10, frm_rf _ _ _, frm_rf _ _ _, frm_rf _ _ _, frm_rf _ _ _, frm_rf _ _ _, frm_rf _ _ _, frm_rf _ _ _, frm_rf _ _ _, frm_rf _ _ _, frm_rf _ _ _⟩
        rw [y5, ob7_s, if_neg n10, y6, ob4_s, f_X0_readGroup_35, f_X6_query_185, M_blanks hn (by omega), y2, ob1_s, if_pos rfl]
        by_cases ht : Lk t n s2 = -1
        · have ht2 := (Lk_end hBt).mp ht
          rw [if_pos (tk_end.mpr ht), if_pos (show nI n ≤ nI s2 from nI_le ht2 (by omega)), ob7_s, if_neg n10]
          obtain ⟨d1, d2, d3, d4, d5, d6, d7⟩ := D
          exact R_end K' hIc (by rw [y8 _ (by omega)]; exact hm0) hI y4 y7 y9 he ⟨by rw [y8 _ (by omega)]; exact d1, by rw [y8 _ (by omega)]; exact d2, d3, d4, d5, d6, d7⟩ hPo (FQ_tr hFo f2) hko
        · have ht2 : ¬ n ≤ s2 := fun z => ht ((Lk_end hBt).mpr z)
          rw [if_neg (fun z => ht (tk_end.mp z)), if_neg (show ¬ nI n ≤ nI s2 from nI_ge (by omega) (by omega)), C_refuse, ob2_s, if_pos rfl, ob7_s, if_pos rfl, M_fail, ob1_s, M_216I hh (nI_ne s2 (by omega)), C_58F (nI_ne s2 (by omega))]
          exact QO_F (PLN_frm hPo (FQ_tr hFo f2) hh hko)
    · have ni := nI_ne (sk (Lk t n) n (tkE (Lk t n) n s)) (by omega)
      rw [if_neg w3, if_neg (fun z => w3 (k3.mp z)), ob2_s, if_pos rfl, M_fail, ob1_s, ob5_s, if_pos rfl, ob7_s, if_pos rfl, f_X6_query_157, if_neg ni, show FU = 4095 + 1 from rfl, M_169I hn (by omega) ni, ob4_s, M_185I hn (sk_5 hn (by omega)) hh ni, C_58F ni]
      exact QO_F (PLN_frm hPo hFo hh hko)
  · rw [if_neg w2, if_neg (fun z => w2 (k2.mp z)), ob2_s, if_pos rfl, f_X0_readGroup_35, f_X6_query_185, M_blanks hn (by omega), hss, ob1_s, if_pos rfl]
    by_cases ht : Lk t n s = -1
    · have ht2 := (Lk_end hBt).mp ht
      rw [if_pos (tk_end.mpr ht), if_pos (show nI n ≤ nI s from nI_le ht2 (by omega)), ob7_s, if_neg n10]
      exact R_end K' hIc hm0 hI (Nat.zero_le _) hm1 (fun i hi => by omega) he D hPo hFo hko
    · have ht2 : ¬ n ≤ s := fun z => ht ((Lk_end hBt).mpr z)
      rw [if_neg (fun z => ht (tk_end.mp z)), if_neg (show ¬ nI n ≤ nI s from nI_ge (by omega) (by omega)), C_refuse, ob2_s, if_pos rfl, ob7_s, if_pos rfl, M_fail, ob1_s, M_216I hh (nI_ne s (by omega)), C_58F (nI_ne s (by omega))]
      exact QO_F (PLN_frm hPo hFo hh hko)
end CXq
