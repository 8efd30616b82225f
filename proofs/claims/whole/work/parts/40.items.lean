/-! pure rows: the row of items, both sides at once -/
/-- nothing has changed outside of half h (w places a half) -/
def frm {α : Type} (w h : Nat) (f g : Nat → α) : Prop := ∀ j, (j < w * h ∨ w * h + w ≤ j) → g j = f j
theorem frm_rf {α : Type} (w h : Nat) (f : Nat → α) : frm w h f f := fun _ _ => rfl
theorem frm_tr {α : Type} {w h : Nat} {f g k : Nat → α} (h1 : frm w h f g) (h2 : frm w h g k) : frm w h f k := fun j hj => (h2 j hj).trans (h1 j hj)
theorem frm_up {w h k : Nat} {f : Nat → Int32} {x : Int32} (h1 : w * h ≤ k) (h2 : k < w * h + w) : frm w h f (upd f k x) := fun j hj => pk_un (by omega)
theorem itm2_k {t gr ln nm ty : Nat → Int32} {n z k s1 : Nat} {V : Nat → Bool} {kk g : Int32} {e : Nat} (h : itm2 (Lk t n) n (fd gr ln nm (Lk t n) z) V ty k s1 = .ok (kk, g, e)) : kk = nI k := by
  unfold itm2 at h
  by_cases h1 : ¬ Lk t n s1 = 40
  · rw [if_pos h1] at h; cases h
  · rw [if_neg h1] at h
    cases hq : colS (Lk t n) n (fd gr ln nm (Lk t n) z) V (sk (Lk t n) n (s1 + 1)) with
    | error x => rw [hq] at h; cases h
    | ok q =>
      obtain ⟨f, e'⟩ := q
      rw [hq] at h
      have h : (if k = 3 ∧ ¬ (ty f = 1 ∨ ty f = 2) then Except.error (sk (Lk t n) n (s1 + 1)) else if Lk t n (sk (Lk t n) n e') = 41 then Except.ok (nI k, nI f, sk (Lk t n) n e' + 1) else Except.error (sk (Lk t n) n e')) = Except.ok (kk, g, e) := h
      by_cases h2 : k = 3 ∧ ¬ (ty f = 1 ∨ ty f = 2)
      · rw [if_pos h2] at h; cases h
      · rw [if_neg h2] at h
        by_cases h3 : Lk t n (sk (Lk t n) n e') = 41
        · rw [if_pos h3] at h; cases h; rfl
        · rw [if_neg h3] at h; cases h
theorem itmS_k {t gr ln nm ty : Nat → Int32} {n z s : Nat} {V : Nat → Bool} {kk g : Int32} {e : Nat} (h : itmS (Lk t n) n (fd gr ln nm (Lk t n) z) V ty s = .ok (kk, g, e)) : ∃ k, k < 6 ∧ kk = nI k := by
  unfold itmS at h
  by_cases h1 : 12 ≤ wd (Lk t n) n s ∧ wd (Lk t n) n s ≤ 15
  · rw [if_pos h1] at h
    by_cases h2 : wd (Lk t n) n s = 12 ∧ ¬ Lk t n (sk (Lk t n) n (tkE (Lk t n) n s)) = 40
    · rw [if_pos h2] at h; cases h; exact ⟨1, by decide, rfl⟩
    · rw [if_neg h2] at h
      exact ⟨_, by omega, itm2_k h⟩
  · rw [if_neg h1] at h
    cases hq : pthS (Lk t n) n (fd gr ln nm (Lk t n) z) s with
    | error x => rw [hq] at h; cases h
    | ok q =>
      obtain ⟨g', e'⟩ := q
      rw [hq] at h
      have h : (if g' = -1 then Except.error s else Except.ok (0, g', e')) = Except.ok (kk, g, e) := h
      by_cases h2 : g' = -1
      · rw [if_pos h2] at h; cases h
      · rw [if_neg h2] at h; cases h; exact ⟨0, by decide, rfl⟩
/-- the items so far are alike on both sides -/
def IR (h c : Nat) (it pl ik jf ip : Nat → Int32) : Prop := ∀ i, i < c → it (2 * i) = ik (16 * h + i) ∧ it (2 * i + 1) = jf (16 * h + i) ∧ pl i = ip (16 * h + i) ∧ ∃ k, k < 6 ∧ ik (16 * h + i) = nI k
theorem IR_add {h c : Nat} {it pl ik jf ip : Nat → Int32} {kk g pp : Int32} (hI : IR h c it pl ik jf ip) (hk : ∃ k, k < 6 ∧ kk = nI k) : IR h (c + 1) (upd (upd it (2 * c) kk) (2 * c + 1) g) (upd pl c pp) (upd ik (16 * h + c) kk) (upd jf (16 * h + c) g) (upd ip (16 * h + c) pp) := by
  intro i hi
  rcases Nat.lt_or_ge i c with q | q
  · obtain ⟨h1, h2, h3, h4⟩ := hI i q
    rw [pk_un (by omega), pk_un (by omega), pk_un (by omega), pk_un (by omega), pk_un (by omega), pk_un (by omega), pk_un (by omega), pk_un (by omega)]
    exact ⟨h1, h2, h3, h4⟩
  · obtain rfl : i = c := by omega
    rw [pk_un (show 2 * i ≠ 2 * i + 1 by omega), pk_us, pk_us, pk_us, pk_us, pk_us, pk_us]
    exact ⟨rfl, rfl, rfl, hk⟩
theorem M_q99I {t gr ln nm kd ty many ik jf ip : Nat → Int32} {n p k : Nat} {ill zz hw : Int32} (hn : n ≤ 2000) (hp : p ≤ n) (hi : ¬ ill = -1) : ∃ a, a ≤ n ∧ f_X6_query_99 (k + 1) t (nI n) (nI p) ill gr kd ty ln nm zz hw many ik jf ip = some (nI a, ill, many, ik, jf, ip) := by
  rw [f_X6_query_99, M_takesSignI hn (by omega) _ hi, ob2_s, if_pos rfl]
  exact ⟨_, sk_le t n p hp, rfl⟩
theorem R_items {b t gr ln nm kd ty fla gr' ln' nm' ty' : Nat → Int32} {n z h : Nat} {V : Nat → Bool} (hVc : ∀ j, j < z → V j = ((!decide (ty j = 4)) && !decide (fla j = 0))) (hVm : ∀ j, j < z → V j = vl ty' gr' kd j) (hBb : BY b n) (hBt : BY t n) (hL : Lk b n = Lk t n) (hF : fd gr ln nm (Lk t n) z = fd gr' ln' nm' (Lk t n) z) (hty : ∀ j, j < z → ty j = ty' j) (hn : n ≤ 2000) (hz : LN ln z) (hz' : LN ln' z) (hg : GRP gr' z) (hh : h ≤ 1) (hS : ∀ s, s ≤ n → itmS (Lk t n) n (fd gr ln nm (Lk t n) z) V ty s = itmS (Lk t n) n (fd gr ln nm (Lk t n) z) V ty' s) :
    ∀ (d c p k k2 : Nat) (it pl many ik jf ip : Nat → Int32), c + d = 16 → p ≤ n → d < k → d < k2 → many (4 * h) = nI c → IR h c it pl ik jf ip →
    (∃ x, x ≤ n ∧ (∃ pl' u v w it' ic', f_X0_readItems_12 k2 (nI c) pl (-1) (tkT (Lk b n) n (sk (Lk b n) n p)) (nI (sk (Lk b n) n p)) (nI (tkE (Lk b n) n (sk (Lk b n) n p))) nm ln gr ty fla (nI z) it (nI c) b (nI n) = some (0, pl', nI x, u, v, w, it', ic')) ∧ ∃ a many' ik' jf' ip', a ≤ n ∧ (ob6 (f_X6_readItem t (nI n) (nI p) (-1) gr' kd ty' ln' nm' (nI z) (nI h) many ik jf ip) (fun x3 x4 x5 x6 x7 x8 => f_X6_query_99 k t (nI n) x3 x4 gr' kd ty' ln' nm' (nI z) (nI h) x5 x6 x7 x8)) = some (nI a, nI x, many', ik', jf', ip') ∧ frm 4 h many many' ∧ frm 16 h ik ik' ∧ frm 16 h jf jf' ∧ frm 16 h ip ip') ∨
    (∃ c' e a it' pl' many' ik' jf' ip', 1 ≤ c' ∧ c' ≤ 16 ∧ e ≤ n ∧ a ≤ n ∧ sk (Lk t n) n a = sk (Lk t n) n e ∧ ¬ Lk t n (sk (Lk t n) n e) = 44 ∧ f_X0_readItems_12 k2 (nI c) pl (-1) (tkT (Lk b n) n (sk (Lk b n) n p)) (nI (sk (Lk b n) n p)) (nI (tkE (Lk b n) n (sk (Lk b n) n p))) nm ln gr ty fla (nI z) it (nI c) b (nI n) = some (1, pl', -1, tkT (Lk b n) n (sk (Lk b n) n e), nI (sk (Lk b n) n e), nI (tkE (Lk b n) n (sk (Lk b n) n e)), it', nI c') ∧ (ob6 (f_X6_readItem t (nI n) (nI p) (-1) gr' kd ty' ln' nm' (nI z) (nI h) many ik jf ip) (fun x3 x4 x5 x6 x7 x8 => f_X6_query_99 k t (nI n) x3 x4 gr' kd ty' ln' nm' (nI z) (nI h) x5 x6 x7 x8)) = some (nI a, -1, many', ik', jf', ip') ∧ many' (4 * h) = nI c' ∧ (∀ j, ¬ j = 4 * h → many' j = many j) ∧ IR h c' it' pl' ik' jf' ip' ∧ frm 16 h ik ik' ∧ frm 16 h jf jf' ∧ frm 16 h ip ip') := by
  intro d
  induction d with
  | zero =>
    intro c p k k2 it pl many ik jf ip hc hp hk hk2 hm hI
    obtain ⟨k, rfl⟩ : ∃ j, k = j + 1 := ⟨k - 1, by omega⟩
    obtain ⟨k2, rfl⟩ : ∃ j, k2 = j + 1 := ⟨k2 - 1, by omega⟩
    obtain rfl : c = 16 := by omega
    have hs := sk_le t n p hp
    refine Or.inl ⟨sk (Lk t n) n p, hs, ?_, ?_⟩
    · rw [f_X0_readItems_12, if_pos (show (16 : Int32) ≤ nI 16 from nI_le (a := 16) (Nat.le_refl _) (by decide)), C_refuse, ob2_s, gz_0, hL]
      exact ⟨_, _, _, _, _, _, rfl⟩
    · obtain ⟨a, ha, ea⟩ := M_readItem16 (t := t) (gr := gr') (ln := ln') (nm := nm') (kd := kd) (ty := ty') (ik := ik) (jf := jf) (ip := ip) (zz := nI z) hn hp hh hm
      rw [ea, ob6_s]
      obtain ⟨a2, ha2, ea2⟩ := M_q99I (t := t) (gr := gr') (ln := ln') (nm := nm') (kd := kd) (ty := ty') (many := many) (ik := ik) (jf := jf) (ip := ip) (k := k) (zz := nI z) (hw := nI h) hn ha (nI_ne _ (by omega) : ¬ nI (sk (Lk t n) n p) = -1)
      rw [ea2]
      exact ⟨a2, many, ik, jf, ip, ha2, rfl, frm_rf _ _ _, frm_rf _ _ _, frm_rf _ _ _, frm_rf _ _ _⟩
  | succ d ih =>
    intro c p k k2 it pl many ik jf ip hc hp hk hk2 hm hI
    obtain ⟨k, rfl⟩ : ∃ j, k = j + 1 := ⟨k - 1, by omega⟩
    obtain ⟨k2, rfl⟩ : ∃ j, k2 = j + 1 := ⟨k2 - 1, by omega⟩
    have hs := sk_le t n p hp
    have hs' := sk_le b n p hp
    have hC := C_readItem (it := it) (gr := gr) (nm := nm) hVc hBb hn hz hs' (show c < 16 by omega)
    have hM := M_readItem (p := p) (nm := nm') (ik := ik) (jf := jf) (ip := ip) (many := many) hVm hBt hn hz' hg hp hh (show c < 16 by omega) hm
    rw [← hF, ← hS _ hs] at hM
    rw [hL] at hC hs' ⊢
    rw [f_X0_readItems_12, if_neg (show ¬ (16 : Int32) ≤ nI c from nI_ge (b := 16) (by omega) (by decide)), wr_in (by omega) (by decide)]
    cases hq : itmS (Lk t n) n (fd gr ln nm (Lk t n) z) V ty (sk (Lk t n) n p) with
    | error x =>
      obtain ⟨u, v, w, i, j, eC⟩ := hC.1 x hq
      obtain ⟨hx, a, ha, eM⟩ := hM.1 x hq
      refine Or.inl ⟨x, hx, ?_, ?_⟩
      · rw [eC, ob7_s, if_pos rfl]
        exact ⟨_, _, _, _, _, _, rfl⟩
      · rw [eM, ob6_s]
        obtain ⟨a2, ha2, ea2⟩ := M_q99I (t := t) (gr := gr') (ln := ln') (nm := nm') (kd := kd) (ty := ty') (many := many) (ik := ik) (jf := jf) (ip := ip) (k := k) (zz := nI z) (hw := nI h) hn ha (nI_ne x (by omega) : ¬ nI x = -1)
        rw [ea2]
        exact ⟨a2, many, ik, jf, ip, ha2, rfl, frm_rf _ _ _, frm_rf _ _ _, frm_rf _ _ _, frm_rf _ _ _⟩
    | ok q =>
      obtain ⟨kk, g, e⟩ := q
      have eC := hC.2 kk g e hq
      obtain ⟨a, ha, he, hae, eM⟩ := hM.2 kk g e hq
      have hkk := itmS_k hq
      have hse := sk_le t n e he
      rw [eC, ob7_s, if_neg (show ¬ (1 : Int32) = 0 by decide), eM, ob6_s]
      have hI' := IR_add (g := g) (pp := nI (sk (Lk t n) n p)) hI hkk
      have f4 : many (4 * h) = nI c := hm
      rw [f_X6_query_99, M_takesSign hn ha, hae]
      by_cases h44 : Lk t n (sk (Lk t n) n e) = 44
      · have hlt := Lk_lt h44 (by decide)
        have et : tkT (Lk b n) n (sk (Lk b n) n e) = 19 := tk_comma.mpr (by rw [hL]; exact h44)
        rw [hL] at et
        rw [if_pos et, if_pos h44, ob2_s, if_neg (show ¬ (1 : Int32) = 0 by decide)]
        have eE : tkE (Lk b n) n (sk (Lk b n) n e) = sk (Lk b n) n e + 1 := tkE_sign (c := 44) (by rw [hL]; exact h44) (by decide)
        rw [hL] at eE
        have ad := C_advance (e := sk (Lk t n) n e + 1) hBb hn (by omega) 19 (nI (sk (Lk t n) n e))
        rw [hL] at ad
        rw [eE, et, ad, ob3_s, on_eq, nI_1]
        have r := ih (c + 1) (sk (Lk t n) n e + 1) k k2 (upd (upd it (2 * c) kk) (2 * c + 1) g) (upd pl c (nI (sk (Lk t n) n p))) (upd many (4 * h) (nI (c + 1))) (upd ik (16 * h + c) kk) (upd jf (16 * h + c) g) (upd ip (16 * h + c) (nI (sk (Lk t n) n p))) (by omega) (by omega) (by omega) (by omega) pk_us hI'
        rw [hL] at r
        have fa : frm 16 h ik (upd ik (16 * h + c) kk) := frm_up (by omega) (by omega)
        have fb : frm 16 h jf (upd jf (16 * h + c) g) := frm_up (by omega) (by omega)
        have fc : frm 16 h ip (upd ip (16 * h + c) (nI (sk (Lk t n) n p))) := frm_up (by omega) (by omega)
        have fd4 : frm 4 h many (upd many (4 * h) (nI (c + 1))) := frm_up (by omega) (by omega)
        rcases r with ⟨x, hx, r1, a', m', i', j', p', ra, rb, rc, rd, re, rf⟩ | ⟨c', e', a', it', pl', m', i', j', p', r1, r2, r3, r4, r5, r6, r7, r8, r9, r10, r11, r12, r13, r14⟩
        · exact Or.inl ⟨x, hx, r1, a', m', i', j', p', ra, rb, frm_tr fd4 rc, frm_tr fa rd, frm_tr fb re, frm_tr fc rf⟩
        · exact Or.inr ⟨c', e', a', it', pl', m', i', j', p', r1, r2, r3, r4, r5, r6, r7, r8, r9, fun j hj => by rw [r10 j hj, pk_un hj], r11, frm_tr fa r12, frm_tr fb r13, frm_tr fc r14⟩
      · have et : ¬ tkT (Lk b n) n (sk (Lk b n) n e) = 19 := fun z => h44 (by have := tk_comma.mp z; rw [hL] at this; exact this)
        rw [hL] at et
        rw [if_neg et, if_neg h44, ob2_s, if_pos rfl]
        exact Or.inr ⟨c + 1, e, sk (Lk t n) n e, _, _, _, _, _, _, by omega, by omega, he, hse, sk_sk t n e, h44, rfl, rfl, pk_us, fun j hj => pk_un hj, hI', frm_up (by omega) (by omega), frm_up (by omega) (by omega), frm_up (by omega) (by omega)⟩
