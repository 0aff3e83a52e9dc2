/-! ===== sign, word, men, terms ===== -/
set_option maxRecDepth 100000 in
theorem x01 : ((0 : Int32) = 1) = False := by decide
set_option maxRecDepth 100000 in
theorem c_no {u : Mm} (h : hSh u) : fX8_refuse u 0 (-1) = some (-1, cRe u (-1) 0) := c_refuse h (-1) 0 (by decide)
set_option maxRecDepth 100000 in
theorem m_no {u : Mm} (h : hSh u) : fX9_answer u 45 (-1) = some (-1, mRe u (-1) 1) := m_refuse h (-1) 1 (by decide)
def Psign (x y z w : Int32) : Prop := (0 ≤ x ∧ x ≤ 7) ∧ (0 ≤ y ∧ y ≤ 1) ∧ ((z = 0 ∧ -20 ≤ w ∧ w ≤ 20) ∨ (z = 1 ∧ -1 ≤ w ∧ w ≤ 7))
set_option maxRecDepth 100000 in
theorem in01 {z : Int32} : (0 ≤ z ∧ z ≤ 1) ↔ (z = 0 ∨ z = 1) := by
  constructor
  · intro h
    obtain ⟨j, hj, e⟩ := nIof (n := 1) 1 (by decide) h
    rcases (by omega : j = 0 ∨ j = 1) with q | q
    · left; rw [e, q]; rfl
    · right; rw [e, q]; rfl
  · rintro (rfl | rfl) <;> decide
set_option maxRecDepth 100000 in
theorem c_sign_no {u : Mm} (h : hSh u) {x y z w : Int32} (hP : ¬ Psign x y z w) : fX8_sign u 0 x y z w = some (-1, cRe u (-1) 0) := by
  unfold fX8_sign bX8_sign_10 bX8_sign_37 bX8_sign_67
  unfold Psign at hP
  have k : oR u 0 8 (oB (fX8_refuse u 0 (-1)) fun v5 u6 => some (v5, u6)) = some (-1, cRe u (-1) 0) := by rw [oR_of (sh0 h), c_no h, oB_of]
  by_cases c3 : z = 1
  · subst c3
    rw [if_pos rfl, if_neg (by decide), c_within, oB_of, c_isSign, oB_of]
    by_cases c1 : 0 ≤ x ∧ x ≤ 7
    · rw [if_pos c1, if_neg (by decide), c_isSide, oB_of]
      by_cases c2 : 0 ≤ y ∧ y ≤ 1
      · rw [if_pos c2, if_neg (by decide), c_within, oB_of, if_neg (by decide), if_neg (fun q => hP ⟨c1, c2, Or.inr ⟨rfl, q⟩⟩), if_pos rfl, k]
      · rw [if_neg c2, if_pos rfl, k]
    · rw [if_neg c1, if_pos rfl, k]
  · rw [if_neg c3, if_pos rfl, c_within, oB_of, c_isSign, oB_of]
    by_cases c1 : 0 ≤ x ∧ x ≤ 7
    · rw [if_pos c1, if_neg (by decide), c_isSide, oB_of]
      by_cases c2 : 0 ≤ y ∧ y ≤ 1
      · rw [if_pos c2, if_neg (by decide), c_within, oB_of]
        by_cases c4 : 0 ≤ z ∧ z ≤ 1
        · rw [if_pos c4, if_neg (by decide), if_neg (fun q => hP ⟨c1, c2, Or.inl ⟨(in01.mp c4).resolve_right c3, q⟩⟩), if_pos rfl, k]
        · rw [if_neg c4, if_pos rfl, k]
      · rw [if_neg c2, if_pos rfl, k]
    · rw [if_neg c1, if_pos rfl, k]
set_option maxRecDepth 100000 in
theorem m_sign_no {u : Mm} (h0 : hSh u) {x y z w : Int32} (hP : ¬ Psign x y z w) : fX9_sign u 45 x y z w = some (-1, mRe (mT u) (-1) 1) := by
  have h : hSh (mT u) := h0
  unfold fX9_sign bX9_sign_48 bX9_sign_49 bX9_sign_70
  unfold Psign at hP
  have k : oR (mT u) 45 9 (oB (fX9_answer (mT u) 45 (-1)) fun v4 u5 => some (v4, u5)) = some (-1, mRe (mT u) (-1) 1) := by rw [oR_of (sh45 h), m_no h, oB_of]
  rw [oK_of (sh45 h0), oT]
  by_cases c3 : z = 0
  · subst c3
    rw [if_pos rfl, m_inI _ w (-20) 20 (l := -20) (h := 20) rfl rfl, oB_of, m_isEight, oB_of]
    by_cases c1 : 0 ≤ x ∧ x ≤ 7
    · rw [if_pos c1, if_neg (by decide), m_isSide, oB_of]
      by_cases c2 : 0 ≤ y ∧ y ≤ 1
      · rw [if_pos c2, if_neg (by decide), if_neg (fun q => hP ⟨c1, c2, Or.inl ⟨rfl, q⟩⟩), if_pos rfl, k]
      · rw [if_neg c2, if_pos rfl, k]
    · rw [if_neg c1, if_pos rfl, k]
  · rw [if_neg c3]
    have k2 : (oB (fX9_isEight (mT u) x) fun v2 u3 => if v2 = 0 then oR u3 45 9 (oB (fX9_answer u3 45 (-1)) fun v4 u5 => some (v4, u5)) else oB (fX9_isSide u3 y) fun v6 u7 => if v6 = 0 then oR u7 45 9 (oB (fX9_answer u7 45 (-1)) fun v4 u5 => some (v4, u5)) else if (0 : Int32) = 0 then oR u7 45 9 (oB (fX9_answer u7 45 (-1)) fun v4 u5 => some (v4, u5)) else oK u7 45 9 54 (oNn (mR u7 45 3) fun e8 => if z = 0 then bX9_sign_91 u7 45 x y w 35 e8 else bX9_sign_91 u7 45 x y w 51 e8)) = some (-1, mRe (mT u) (-1) 1) := by
      rw [m_isEight, oB_of]
      by_cases c1 : 0 ≤ x ∧ x ≤ 7
      · rw [if_pos c1, if_neg (by decide), m_isSide, oB_of]
        by_cases c2 : 0 ≤ y ∧ y ≤ 1
        · rw [if_pos c2, if_neg (by decide), if_pos rfl, k]
        · rw [if_neg c2, if_pos rfl, k]
      · rw [if_neg c1, if_pos rfl, k]
    by_cases c4 : z = 1
    · subst c4
      rw [if_pos rfl, m_inI _ w (-1) 7 (l := -1) (h := 7) rfl rfl, oB_of]
      by_cases c5 : -1 ≤ w ∧ w ≤ 7
      · rw [if_pos c5, if_neg (by decide), m_isEight, oB_of]
        by_cases c1 : 0 ≤ x ∧ x ≤ 7
        · rw [if_pos c1, if_neg (by decide), m_isSide, oB_of]
          by_cases c2 : 0 ≤ y ∧ y ≤ 1
          · exact absurd ⟨c1, c2, Or.inr ⟨rfl, c5⟩⟩ hP
          · rw [if_neg c2, if_pos rfl, k]
        · rw [if_neg c1, if_pos rfl, k]
      · rw [if_neg c5, if_pos rfl, k2]
    · rw [if_neg c4, k2]
set_option maxRecDepth 100000 in
theorem ixp {a b m : Nat} : nI m + 2 * nI a + nI b = nI (m + 2 * a + b) := by rw [show (2 : Int32) = nI 2 from rfl, nI_mul, nI_add, nI_add]
set_option maxRecDepth 100000 in
theorem ixq {a b : Nat} : nI a * 2 + nI b = nI (2 * a + b) := by rw [show (2 : Int32) = nI 2 from rfl, nI_mul, nI_add, Nat.mul_comm]
set_option maxRecDepth 100000 in
theorem c_sign_ok {u : Mm} (h : hSh u) {z w : Int32} {a b : Nat} (ha : a < 8) (hb : b < 2) (t k : Nat) (hz : (z = 0 ∧ -20 ≤ w ∧ w ≤ 20) ∧ t = 4 ∨ (z = 1 ∧ -1 ≤ w ∧ w ≤ 7) ∧ t = 5) : fX8_sign u 0 (nI a) (nI b) z w = some (0, wI (wI (wI u t (upd (mI u t) (2 * a + b) w)) 30 (upd (mI u 30) 3 0)) 0 (upd (mI u 0) 18 0)) := by
  have c1 : 0 ≤ nI a ∧ nI a ≤ 7 := ⟨nI_pos' (by omega), nI_le (b := 7) (by omega) (by decide)⟩
  have c2 : 0 ≤ nI b ∧ nI b ≤ 1 := ⟨nI_pos' (by omega), nI_le (b := 1) (by omega) (by decide)⟩
  have l1 : 2 * a + b < 16 := by omega
  unfold fX8_sign bX8_sign_10 bX8_sign_37 bX8_sign_95 fX8_pair
  rcases hz with ⟨⟨rfl, c4⟩, rfl⟩ | ⟨⟨rfl, c4⟩, rfl⟩
  · rw [if_neg (by decide), if_pos rfl, c_within, oB_of, c_isSign, oB_of, if_pos c1, if_neg (by decide), c_isSide, oB_of, if_pos c2, if_neg (by decide), c_within, oB_of, if_neg (by decide), if_pos c4, if_neg (by decide), if_pos rfl]
    simp (config := {implicitDefEqProofs := false}) only [oK, oR, oA_n, oA_l, oNn_of, oI_of, oJ_of, oU_of, oP_of, oB_of, oZ0, oZ1, mK_wI, mK_wL, mR_wI, mR_wL, mI_wI, mI_wL, mL_wI, mL_wL, Nat.reduceEqDiff, Nat.reduceLT, Nat.reduceAdd, Nat.reduceMul, Int32.reduceLE, Int32.reduceLT, Int32.reduceAdd, Int32.reduceSub, Int32.reduceMul, Int32.reduceToNatClampNeg, x10, ↓reduceIte, sh0 h, rf0_0 h, sh1 h, rf1_1 h, rf1_2 h, sh4 h, sh5 h, rf0_5 h, sh30 h, ixq, l1, nI_clamp (show 2 * a + b < 2147483648 by omega), fX3_clear, fX8_accept]
  · rw [if_pos rfl, if_neg (by decide), c_within, oB_of, c_isSign, oB_of, if_pos c1, if_neg (by decide), c_isSide, oB_of, if_pos c2, if_neg (by decide), c_within, oB_of, if_neg (by decide), if_pos c4, if_neg (by decide), if_neg (by decide)]
    simp (config := {implicitDefEqProofs := false}) only [oK, oR, oA_n, oA_l, oNn_of, oI_of, oJ_of, oU_of, oP_of, oB_of, oZ0, oZ1, mK_wI, mK_wL, mR_wI, mR_wL, mI_wI, mI_wL, mL_wI, mL_wL, Nat.reduceEqDiff, Nat.reduceLT, Nat.reduceAdd, Nat.reduceMul, Int32.reduceLE, Int32.reduceLT, Int32.reduceAdd, Int32.reduceSub, Int32.reduceMul, Int32.reduceToNatClampNeg, x10, ↓reduceIte, sh0 h, rf0_0 h, sh1 h, rf1_1 h, rf1_2 h, sh4 h, sh5 h, rf0_5 h, sh30 h, ixq, l1, nI_clamp (show 2 * a + b < 2147483648 by omega), fX3_clear, fX8_accept]
set_option maxRecDepth 100000 in
theorem m_sign_ok {u : Mm} (h0 : hSh u) {z w : Int32} {a b : Nat} (ha : a < 8) (hb : b < 2) (m : Nat) (hz : (z = 0 ∧ -20 ≤ w ∧ w ≤ 20) ∧ m = 35 ∨ (z = 1 ∧ -1 ≤ w ∧ w ≤ 7) ∧ m = 51) : fX9_sign u 45 (nI a) (nI b) z w = some (0, wI (wI (wI (mT u) 47 (upd (mI u 47) (m + 2 * a + b) w)) 45 (upd (mI (mT u) 45) 8 0)) 45 (upd (upd (mI (mT u) 45) 8 0) 1 0)) := by
  have h : hSh (mT u) := h0
  have c1 : 0 ≤ nI a ∧ nI a ≤ 7 := ⟨nI_pos' (by omega), nI_le (b := 7) (by omega) (by decide)⟩
  have c2 : 0 ≤ nI b ∧ nI b ≤ 1 := ⟨nI_pos' (by omega), nI_le (b := 1) (by omega) (by decide)⟩
  unfold fX9_sign bX9_sign_49 bX9_sign_91
  rw [oK_of (sh45 h0), oT]
  rcases hz with ⟨⟨rfl, c4⟩, rfl⟩ | ⟨⟨rfl, c4⟩, rfl⟩
  · rw [if_pos rfl, m_inI _ w (-20) 20 (l := -20) (h := 20) rfl rfl, oB_of, m_isEight, oB_of, if_pos c1, if_neg (by decide), m_isSide, oB_of, if_pos c2, if_neg (by decide), if_pos c4, if_neg (by decide), show (35 : Int32) = nI 35 from rfl]
    simp (config := {implicitDefEqProofs := false}) only [oK, oR, oA_n, oA_l, oNn_of, oI_of, oJ_of, oU_of, oP_of, oB_of, oZ0, oZ1, mK_wI, mK_wL, mR_wI, mR_wL, mI_wI, mI_wL, mL_wI, mL_wL, Nat.reduceEqDiff, Nat.reduceLT, Nat.reduceAdd, Nat.reduceMul, Int32.reduceLE, Int32.reduceLT, Int32.reduceAdd, Int32.reduceSub, Int32.reduceMul, Int32.reduceToNatClampNeg, x10, ↓reduceIte, sh45 h, rf45_3 h, sh47 h, ixp, show 35 + 2 * a + b < 5530 by omega, nI_clamp (show 35 + 2 * a + b < 2147483648 by omega), fX9_settled, bX9_settled_13, fX9_answer, bX9_answer_10, show mI (mT u) 47 = mI u 47 from rfl]
  · rw [if_neg (by decide), if_pos rfl, m_inI _ w (-1) 7 (l := -1) (h := 7) rfl rfl, oB_of, if_pos c4, if_neg (by decide), m_isEight, oB_of, if_pos c1, if_neg (by decide), m_isSide, oB_of, if_pos c2, if_neg (by decide), if_neg (by decide), show (51 : Int32) = nI 51 from rfl]
    simp (config := {implicitDefEqProofs := false}) only [oK, oR, oA_n, oA_l, oNn_of, oI_of, oJ_of, oU_of, oP_of, oB_of, oZ0, oZ1, mK_wI, mK_wL, mR_wI, mR_wL, mI_wI, mI_wL, mL_wI, mL_wL, Nat.reduceEqDiff, Nat.reduceLT, Nat.reduceAdd, Nat.reduceMul, Int32.reduceLE, Int32.reduceLT, Int32.reduceAdd, Int32.reduceSub, Int32.reduceMul, Int32.reduceToNatClampNeg, x10, ↓reduceIte, sh45 h, rf45_3 h, sh47 h, ixp, show 51 + 2 * a + b < 5530 by omega, nI_clamp (show 51 + 2 * a + b < 2147483648 by omega), fX9_settled, bX9_settled_13, fX9_answer, bX9_answer_10, show mI (mT u) 47 = mI u 47 from rfl]
set_option maxRecDepth 100000 in
theorem s3 {LR : Mm → Prop} (hF : LRf LR) : hwS_3 (Rel LR) := by
  intro x y z w u h
  have hS := h.1
  by_cases hP : Psign x y z w
  · obtain ⟨c1, c2, c3⟩ := hP
    obtain ⟨a, ha, rfl⟩ := nIof (n := 7) 7 (by decide) c1
    obtain ⟨b, hb, rfl⟩ := nIof (n := 1) 1 (by decide) c2
    have ha' : a < 8 := by omega
    have hb' : b < 2 := by omega
    rcases c3 with c3 | c3
    · have hc := c_sign_ok hS ha' hb' 4 0 (Or.inl ⟨c3, rfl⟩)
      have hm := m_sign_ok (u := wI (wI (wI u 4 (upd (mI u 4) (2 * a + b) w)) 30 (upd (mI u 30) 3 0)) 0 (upd (mI u 0) 18 0)) hS ha' hb' 35 (Or.inl ⟨c3, rfl⟩)
      refine ⟨_, _, _, hc, hR45_Rel hS, hm, ?_⟩
      have l1 : loc (35 + 2 * a + b) = (3, 2 * a + b) := (by decide +kernel : ∀ a, a < 8 → ∀ b, b < 2 → loc (35 + 2 * a + b) = (3, 2 * a + b)) a ha' b hb'
      have l3 : rlh (35 + 2 * a + b) = (-20, 20) := (by decide +kernel : ∀ a, a < 8 → ∀ b, b < 2 → rlh (35 + 2 * a + b) = (-20, 20)) a ha' b hb'
      refine Rel_clr hF h rfl rfl rfl (fun a h0 h1 h2 h3 h4 => ?_) (Rbk_set 3 (2 * a + b) (p := 35 + 2 * a + b) (v := w) h.2.1 l1 (by rw [l3]; exact rgI rfl rfl c3.2) (by omega) (by omega)) (fun j hj => ?_) rfl (rlu rl0 (by omega) (by omega)) rfl rfl rfl
      · unfold mT; simp only [mI_wI]; repeat rw [if_neg (by omega)]
      · unfold mT bset; simp only [mI_wI]
        rcases (by omega : j = 3 ∨ j ≠ 3) with q | q
        · subst q; rfl
        · repeat rw [if_neg (by omega)]
    · have hc := c_sign_ok hS ha' hb' 5 0 (Or.inr ⟨c3, rfl⟩)
      have hm := m_sign_ok (u := wI (wI (wI u 5 (upd (mI u 5) (2 * a + b) w)) 30 (upd (mI u 30) 3 0)) 0 (upd (mI u 0) 18 0)) hS ha' hb' 51 (Or.inr ⟨c3, rfl⟩)
      refine ⟨_, _, _, hc, hR45_Rel hS, hm, ?_⟩
      have l1 : loc (51 + 2 * a + b) = (4, 2 * a + b) := (by decide +kernel : ∀ a, a < 8 → ∀ b, b < 2 → loc (51 + 2 * a + b) = (4, 2 * a + b)) a ha' b hb'
      have l3 : rlh (51 + 2 * a + b) = (-1, 7) := (by decide +kernel : ∀ a, a < 8 → ∀ b, b < 2 → rlh (51 + 2 * a + b) = (-1, 7)) a ha' b hb'
      refine Rel_clr hF h rfl rfl rfl (fun a h0 h1 h2 h3 h4 => ?_) (Rbk_set 4 (2 * a + b) (p := 51 + 2 * a + b) (v := w) h.2.1 l1 (by rw [l3]; exact rgI rfl rfl c3.2) (by omega) (by omega)) (fun j hj => ?_) rfl (rlu rl0 (by omega) (by omega)) rfl rfl rfl
      · unfold mT; simp only [mI_wI]; repeat rw [if_neg (by omega)]
      · unfold mT bset; simp only [mI_wI]
        rcases (by omega : j = 4 ∨ j ≠ 4) with q | q
        · subst q; rfl
        · repeat rw [if_neg (by omega)]
  · exact ⟨_, _, _, c_sign_no hS hP, hR45_Rel hS, m_sign_no (u := cRe u (-1) 0) hS hP, Rel_re hF h (by decide)⟩
