/-! pure rows: the tape, both sides at once -/
theorem sh_bit (x : BitVec 32) (s : Nat) (hs : s ≤ 24) : (x >>> s) &&& 255#32 = (x.sshiftRight s) &&& 255#32 := by
  apply BitVec.eq_of_getLsbD_eq
  intro i hi
  rw [BitVec.getLsbD_and, BitVec.getLsbD_and, BitVec.getLsbD_ushiftRight, BitVec.getLsbD_sshiftRight]
  by_cases h : i < 8
  · have h1 : decide (32 ≤ i) = false := decide_eq_false (by omega)
    rw [if_pos (show s + i < 32 by omega), h1]
    simp
  · have h2 : (255#32).getLsbD i = false := by
      rw [BitVec.getLsbD_ofNat, Nat.testBit_lt_two_pow (Nat.lt_of_lt_of_le (show 255 < 2 ^ 8 by decide) (Nat.pow_le_pow_right (by decide) (by omega))), Bool.and_false]
    rw [h2, Bool.and_false, Bool.and_false]
def cB (x s : Int32) : Int32 := (UInt32.toInt32 (Int32.toUInt32 x >>> (Int32.toUInt32 s &&& Int32.toUInt32 31))) &&& 255
theorem cB_eq (x s s' : Int32) (k : Nat) (hk : k ≤ 24) (h1 : (Int32.toUInt32 s &&& Int32.toUInt32 31).toBitVec % 32 = BitVec.ofNat 32 k) (h2 : (s' &&& 31).toBitVec.smod 32 = BitVec.ofNat 32 k) : cB x s = (x >>> (s' &&& 31)) &&& 255 := by
  apply Int32.toBitVec_inj.mp
  unfold cB
  rw [Int32.toBitVec_and, Int32.toBitVec_and, Int32.toBitVec_shiftRight]
  have e1 : (UInt32.toInt32 (Int32.toUInt32 x >>> (Int32.toUInt32 s &&& Int32.toUInt32 31))).toBitVec = x.toBitVec >>> k := by
    show (Int32.toUInt32 x >>> (Int32.toUInt32 s &&& Int32.toUInt32 31)).toBitVec = _
    rw [UInt32.toBitVec_shiftRight, h1]
    show x.toBitVec >>> (BitVec.ofNat 32 k) = _
    rw [BitVec.ushiftRight_eq', BitVec.toNat_ofNat, Nat.mod_eq_of_lt (by omega)]
  rw [e1, h2]
  have e2 : x.toBitVec.sshiftRight' (BitVec.ofNat 32 k) = x.toBitVec.sshiftRight k := by
    rw [BitVec.sshiftRight_eq', BitVec.toNat_ofNat, Nat.mod_eq_of_lt (by omega)]
  rw [e2]
  exact sh_bit x.toBitVec k hk
theorem and_255 (v : Int32) : 0 ≤ (v &&& 255).toInt ∧ (v &&& 255).toInt ≤ 255 := by
  have h : (v &&& 255).toBitVec.toNat ≤ 255 := by
    rw [Int32.toBitVec_and, BitVec.toNat_and]
    exact Nat.and_le_right
  have e : (v &&& 255).toInt = ((v &&& 255).toBitVec.toNat : Int) := by
    show (v &&& 255).toBitVec.toInt = _
    rw [BitVec.toInt_eq_toNat_cond, if_pos (by omega)]
  rw [e]
  omega
theorem C_put {x : Int32} {b : Nat → Int32} {m : Nat} (hm : m + 4 ≤ 2000) : ∃ b', f_X4_put x b (nI m) = some (b', nI (m + 4)) ∧ (∀ j, (j < m ∨ m + 4 ≤ j) → b' j = b j) ∧ b' m = cB x 24 ∧ b' (m + 1) = cB x 16 ∧ b' (m + 2) = cB x 8 ∧ b' (m + 3) = cB x 0 := by
  refine ⟨upd (upd (upd (upd b m (cB x 24)) (m + 1) (cB x 16)) (m + 2) (cB x 8)) (m + 3) (cB x 0), ?_, ?_, ?_, ?_, ?_, pk_us⟩
  · rw [f_X4_put, show FU = 4091 + 1 + 1 + 1 + 1 + 1 from rfl]
    rw [f_X4_put_3, if_neg (by decide), if_neg (show ¬ (2000 : Int32) ≤ nI m from nI_ge (b := 2000) (by omega) (by decide)), on_eq, wr_in (show m < 2000 by omega) (by decide), on_eq, nI_1, on_eq, show (24 : Int32) + (-8) = 16 from by decide]
    rw [f_X4_put_3, if_neg (by decide), if_neg (show ¬ (2000 : Int32) ≤ nI (m + 1) from nI_ge (b := 2000) (by omega) (by decide)), on_eq, wr_in (show m + 1 < 2000 by omega) (by decide), on_eq, nI_1, on_eq, show (16 : Int32) + (-8) = 8 from by decide]
    rw [f_X4_put_3, if_neg (by decide), if_neg (show ¬ (2000 : Int32) ≤ nI (m + 1 + 1) from nI_ge (b := 2000) (by omega) (by decide)), on_eq, wr_in (show m + 1 + 1 < 2000 by omega) (by decide), on_eq, nI_1, on_eq, show (8 : Int32) + (-8) = 0 from by decide]
    rw [f_X4_put_3, if_neg (by decide), if_neg (show ¬ (2000 : Int32) ≤ nI (m + 1 + 1 + 1) from nI_ge (b := 2000) (by omega) (by decide)), on_eq, wr_in (show m + 1 + 1 + 1 < 2000 by omega) (by decide), on_eq, nI_1, on_eq, show (0 : Int32) + (-8) = -8 from by decide]
    rw [f_X4_put_3, if_pos (by decide), ob2_s]
    rfl
  · intro j hj
    rw [pk_un (by omega), pk_un (by omega), pk_un (by omega), pk_un (by omega)]
  · rw [pk_un (by omega), pk_un (by omega), pk_un (by omega), pk_us]
  · rw [pk_un (by omega), pk_un (by omega), pk_us]
  · rw [pk_un (by omega), pk_us]
section FE
variable {p1 p2 p3 p4 p5 : Int32}
def fA (p1 p2 p3 p4 p5 : Int32) (l : Nat) : Int32 := if 4 ≤ l then (if 8 ≤ l then (if 12 ≤ l then (if 16 ≤ l then p5 else p4) else p3) else p2) else p1
def fB (p1 p2 p3 p4 p5 : Int32) (l : Nat) : Int32 := (fA p1 p2 p3 p4 p5 l >>> (((24 : Int32) - ((8 : Int32) * (nI l - nI l / (4 : Int32) * (4 : Int32)))) &&& 31)) &&& 255
theorem M_feed23 {m : Nat} (hm : m + 20 ≤ 2000) : ∀ (d i k : Nat) (tape : Nat → Int32), i + d = 20 → d < k → ∃ tape', f_X6_feed_23 k p1 p2 p3 p4 p5 (nI i) tape (nI m) = some tape' ∧ (∀ j, (j < m + i ∨ m + 20 ≤ j) → tape' j = tape j) ∧ ∀ l, i ≤ l → l < 20 → tape' (m + l) = fB p1 p2 p3 p4 p5 l := by
  intro d
  induction d with
  | zero =>
    intro i k tape hi hk
    obtain ⟨k, rfl⟩ : ∃ j, k = j + 1 := ⟨k - 1, by omega⟩
    rw [f_X6_feed_23, if_pos (show (20 : Int32) ≤ nI i from nI_le (a := 20) (by omega) (by omega))]
    exact ⟨tape, rfl, fun j _ => rfl, fun l h1 h2 => by omega⟩
  | succ d ih =>
    intro i k tape hi hk
    obtain ⟨k, rfl⟩ : ∃ j, k = j + 1 := ⟨k - 1, by omega⟩
    have wA : ∀ {β : Type} (f : Nat → Int32) (x : Int32) (k : (Nat → Int32) → Option β), wr f 2000 (nI (m + i)) x k = k (upd f (m + i) x) := fun f x k => wr_in (by omega) (by decide)
    have l4 : ((4 : Int32) ≤ nI i) ↔ 4 ≤ i := nI_leI (a := 4) (by decide) (by omega)
    have l8 : ((8 : Int32) ≤ nI i) ↔ 8 ≤ i := nI_leI (a := 8) (by decide) (by omega)
    have l12 : ((12 : Int32) ≤ nI i) ↔ 12 ≤ i := nI_leI (a := 12) (by decide) (by omega)
    have l16 : ((16 : Int32) ≤ nI i) ↔ 16 ≤ i := nI_leI (a := 16) (by decide) (by omega)
    have e : f_X6_feed_23 (k + 1) p1 p2 p3 p4 p5 (nI i) tape (nI m) = f_X6_feed_23 k p1 p2 p3 p4 p5 (nI (i + 1)) (upd tape (m + i) (fB p1 p2 p3 p4 p5 i)) (nI m) := by
      rw [f_X6_feed_23, if_neg (show ¬ (20 : Int32) ≤ nI i from nI_ge (b := 20) (by omega) (by decide)), nI_add]
      simp only [on_eq, wA, nI_1, l4, l8, l12, l16]
      unfold fB fA
      by_cases g4 : 4 ≤ i
      · simp only [if_pos g4]
        by_cases g8 : 8 ≤ i
        · simp only [if_pos g8]
          by_cases g12 : 12 ≤ i
          · simp only [if_pos g12]
            by_cases g16 : 16 ≤ i
            · simp only [if_pos g16]
            · simp only [if_neg g16]
          · simp only [if_neg g12]
        · simp only [if_neg g8]
      · simp only [if_neg g4]
    rw [e]
    obtain ⟨tape', r1, r2, r3⟩ := ih (i + 1) k (upd tape (m + i) (fB p1 p2 p3 p4 p5 i)) (by omega) (by omega)
    refine ⟨tape', r1, fun j hj => ?_, fun l h1 h2 => ?_⟩
    · rw [r2 j (by omega), pk_un (by omega)]
    · rcases Nat.lt_or_ge i l with q | q
      · exact r3 l (by omega) h2
      · obtain rfl : l = i := by omega
        rw [r2 (m + l) (by omega), pk_us]
end FE
def TP (b : Nat → Int32) (sz : Int32) (tape : Nat → Int32) (taped : Int32) : Prop := ∃ n, n ≤ 2000 ∧ sz = nI n ∧ taped = nI n ∧ ∀ j, j < n → b j = tape j ∧ 0 ≤ (tape j).toInt ∧ (tape j).toInt ≤ 255
theorem R_feed {p1 p2 p3 p4 p5 code : Int32} {b tape : Nat → Int32} {sz taped : Int32} (h : TP b sz tape taped) : ∃ r b' sz', f_X5_feed p1 p2 p3 p4 p5 b sz = some (r, b', sz') ∧ ∃ c tape' taped', f_X6_feed p1 p2 p3 p4 p5 code tape taped = some (r, c, tape', taped') ∧ TP b' sz' tape' taped' := by
  obtain ⟨m, hm, rfl, rfl, hb⟩ := h
  have e20 : nI m + 20 = nI (m + 20) := nI_add m 20
  rw [f_X5_feed, f_X4_hasRoom, f_X6_feed, e20]
  by_cases g : m + 20 ≤ 2000
  · obtain ⟨b1, a1, a2, a3, a4, a5, a6⟩ := C_put (x := p1) (b := b) (m := m) (by omega)
    obtain ⟨b2, c1, c2, c3, c4, c5, c6⟩ := C_put (x := p2) (b := b1) (m := m + 4) (by omega)
    obtain ⟨b3, d1, d2, d3, d4, d5, d6⟩ := C_put (x := p3) (b := b2) (m := m + 4 + 4) (by omega)
    obtain ⟨b4, e1, e2, e3, e4, e5, e6⟩ := C_put (x := p4) (b := b3) (m := m + 4 + 4 + 4) (by omega)
    obtain ⟨b5, f1, f2, f3, f4, f5, f6⟩ := C_put (x := p5) (b := b4) (m := m + 4 + 4 + 4 + 4) (by omega)
    obtain ⟨tape', r1, r2, r3⟩ := M_feed23 (p1 := p1) (p2 := p2) (p3 := p3) (p4 := p4) (p5 := p5) g 20 0 FU tape (by omega) (by decide)
    have r1 : f_X6_feed_23 FU p1 p2 p3 p4 p5 0 tape (nI m) = some tape' := r1
    rw [if_neg (show ¬ (2000 : Int32) < nI (m + 20) from nI_nlt (a := 2000) g (by decide)), ob1_s, if_neg (by decide), a1, ob2_s, c1, ob2_s, d1, ob2_s, e1, ob2_s, f1, ob2_s, if_pos (show nI (m + 20) ≤ 2000 from nI_le (b := 2000) g (by decide)), r1, ob1_s, on_eq]
    refine ⟨_, _, _, rfl, _, _, _, rfl, m + 20, g, rfl, rfl, ?_⟩
    have key : ∀ l, l < 20 → b5 (m + l) = fB p1 p2 p3 p4 p5 l := by
      intro l hl
      have c : l = 0 ∨ l = 1 ∨ l = 2 ∨ l = 3 ∨ l = 4 ∨ l = 5 ∨ l = 6 ∨ l = 7 ∨ l = 8 ∨ l = 9 ∨ l = 10 ∨ l = 11 ∨ l = 12 ∨ l = 13 ∨ l = 14 ∨ l = 15 ∨ l = 16 ∨ l = 17 ∨ l = 18 ∨ l = 19 := by omega
      rcases c with rfl | rfl | rfl | rfl | rfl | rfl | rfl | rfl | rfl | rfl | rfl | rfl | rfl | rfl | rfl | rfl | rfl | rfl | rfl | rfl
      · rw [f2 _ (by omega), e2 _ (by omega), d2 _ (by omega), c2 _ (by omega)]; exact a3.trans (cB_eq _ _ _ 24 (by decide) (by decide) (by decide))
      · rw [f2 _ (by omega), e2 _ (by omega), d2 _ (by omega), c2 _ (by omega)]; exact a4.trans (cB_eq _ _ _ 16 (by decide) (by decide) (by decide))
      · rw [f2 _ (by omega), e2 _ (by omega), d2 _ (by omega), c2 _ (by omega)]; exact a5.trans (cB_eq _ _ _ 8 (by decide) (by decide) (by decide))
      · rw [f2 _ (by omega), e2 _ (by omega), d2 _ (by omega), c2 _ (by omega)]; exact a6.trans (cB_eq _ _ _ 0 (by decide) (by decide) (by decide))
      · rw [f2 _ (by omega), e2 _ (by omega), d2 _ (by omega)]; exact c3.trans (cB_eq _ _ _ 24 (by decide) (by decide) (by decide))
      · rw [f2 _ (by omega), e2 _ (by omega), d2 _ (by omega)]; exact c4.trans (cB_eq _ _ _ 16 (by decide) (by decide) (by decide))
      · rw [f2 _ (by omega), e2 _ (by omega), d2 _ (by omega)]; exact c5.trans (cB_eq _ _ _ 8 (by decide) (by decide) (by decide))
      · rw [f2 _ (by omega), e2 _ (by omega), d2 _ (by omega)]; exact c6.trans (cB_eq _ _ _ 0 (by decide) (by decide) (by decide))
      · rw [f2 _ (by omega), e2 _ (by omega)]; exact d3.trans (cB_eq _ _ _ 24 (by decide) (by decide) (by decide))
      · rw [f2 _ (by omega), e2 _ (by omega)]; exact d4.trans (cB_eq _ _ _ 16 (by decide) (by decide) (by decide))
      · rw [f2 _ (by omega), e2 _ (by omega)]; exact d5.trans (cB_eq _ _ _ 8 (by decide) (by decide) (by decide))
      · rw [f2 _ (by omega), e2 _ (by omega)]; exact d6.trans (cB_eq _ _ _ 0 (by decide) (by decide) (by decide))
      · rw [f2 _ (by omega)]; exact e3.trans (cB_eq _ _ _ 24 (by decide) (by decide) (by decide))
      · rw [f2 _ (by omega)]; exact e4.trans (cB_eq _ _ _ 16 (by decide) (by decide) (by decide))
      · rw [f2 _ (by omega)]; exact e5.trans (cB_eq _ _ _ 8 (by decide) (by decide) (by decide))
      · rw [f2 _ (by omega)]; exact e6.trans (cB_eq _ _ _ 0 (by decide) (by decide) (by decide))
      · exact f3.trans (cB_eq _ _ _ 24 (by decide) (by decide) (by decide))
      · exact f4.trans (cB_eq _ _ _ 16 (by decide) (by decide) (by decide))
      · exact f5.trans (cB_eq _ _ _ 8 (by decide) (by decide) (by decide))
      · exact f6.trans (cB_eq _ _ _ 0 (by decide) (by decide) (by decide))
    intro j hj
    rcases Nat.lt_or_ge j m with q | q
    · rw [f2 _ (by omega), e2 _ (by omega), d2 _ (by omega), c2 _ (by omega), a2 _ (by omega), r2 j (by omega)]
      exact hb j q
    · obtain ⟨l, rfl⟩ : ∃ l, j = m + l := ⟨j - m, by omega⟩
      rw [key l (by omega), r3 l (by omega) (by omega)]
      exact ⟨rfl, and_255 _⟩
  · rw [if_pos (show (2000 : Int32) < nI (m + 20) from nI_lt (a := 2000) (by omega) (by omega)), ob1_s, if_pos rfl, if_neg (show ¬ nI (m + 20) ≤ 2000 from nI_ge (a := 2000) (by omega) (by omega))]
    exact ⟨_, _, _, rfl, _, _, _, rfl, m, hm, rfl, rfl, hb⟩
theorem M_takes16 {tape : Nat → Int32} {n : Nat} (hn : n ≤ 2000) : ∀ (d i k : Nat) (text : Nat → Int32), i + d = n → d < k → ∃ t, f_X6_takes_16 k (nI n) (nI i) tape text = some t ∧ (∀ j, j < i → t j = text j) ∧ ∀ j, i ≤ j → j < n → t j = tape j := by
  intro d
  induction d with
  | zero =>
    intro i k text hi hk
    obtain ⟨k, rfl⟩ : ∃ j, k = j + 1 := ⟨k - 1, by omega⟩
    rw [f_X6_takes_16, if_pos (nI_le (by omega) (by omega))]
    exact ⟨text, rfl, fun _ _ => rfl, fun j h1 h2 => by omega⟩
  | succ d ih =>
    intro i k text hi hk
    obtain ⟨k, rfl⟩ : ∃ j, k = j + 1 := ⟨k - 1, by omega⟩
    rw [f_X6_takes_16, if_neg (nI_ge (by omega) (by omega)), rd_in (show i < 2000 by omega) (by decide), wr_in (show i < 2000 by omega) (by decide), on_eq, nI_1]
    obtain ⟨t, r1, r2, r3⟩ := ih (i + 1) k (upd text i (tape i)) (by omega) (by omega)
    refine ⟨t, r1, fun j hj => by rw [r2 j (by omega), pk_un (by omega)], fun j h1 h2 => ?_⟩
    rcases Nat.lt_or_ge i j with q | q
    · exact r3 j (by omega) h2
    · obtain rfl : j = i := by omega
      rw [r2 j (by omega), pk_us]
theorem R_cut {p size at_ ill : Int32} {m : Nat} {tape text : Nat → Int32} (hm : m ≤ 2000) : (f_X4_cut p (nI m) = some (0, nI m) ∧ f_X6_takes p tape text (nI m) size at_ ill = some (0, text, nI m, size, at_, ill)) ∨ (∃ n t, n ≤ m ∧ p = nI n ∧ f_X4_cut p (nI m) = some (1, nI n) ∧ f_X6_takes p tape text (nI m) size at_ ill = some (1, t, 0, nI n, 0, -1) ∧ ∀ j, j < n → t j = tape j) := by
  rw [f_X4_cut, f_X6_takes]
  by_cases g : p < 0
  · rw [if_pos g, if_pos g]; exact Or.inl ⟨rfl, rfl⟩
  · rw [if_neg g, if_neg g]
    obtain ⟨n, hn, rfl⟩ := nI_of g
    by_cases q : n ≤ m
    · obtain ⟨t, r1, r2, r3⟩ := M_takes16 (tape := tape) (n := n) (by omega) n 0 FU text (by omega) (by show n < 4096; omega)
      have r1 : f_X6_takes_16 FU (nI n) 0 tape text = some t := r1
      rw [if_pos (nI_le q (by omega)), if_pos (nI_le q (by omega)), r1, ob1_s]
      exact Or.inr ⟨n, t, q, rfl, rfl, rfl, fun j hj => r3 j (Nat.zero_le _) hj⟩
    · rw [if_neg (nI_ge (by omega) hn), if_neg (nI_ge (by omega) hn)]
      exact Or.inl ⟨rfl, rfl⟩
