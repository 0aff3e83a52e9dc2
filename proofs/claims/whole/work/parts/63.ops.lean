/-! ===== calls that ask, and small ones that set ===== -/
theorem rw0 {LR : Mm → Prop} {u : Mm} (h : Rel LR u) : mI u 47 0 = mI u 1 7 := h.2.1.1 0 (by decide)
theorem rw1 {LR : Mm → Prop} {u : Mm} (h : Rel LR u) : mI u 47 1 = mI u 1 10 := h.2.1.1 1 (by decide)
theorem rw2 {LR : Mm → Prop} {u : Mm} (h : Rel LR u) : mI u 47 2 = mI u 1 14 := h.2.1.1 2 (by decide)
theorem rw3 {LR : Mm → Prop} {u : Mm} (h : Rel LR u) : mI u 47 3 = mI u 1 15 := h.2.1.1 3 (by decide)
theorem rw4 {LR : Mm → Prop} {u : Mm} (h : Rel LR u) : mI u 47 4 = mI u 3 28 := h.2.1.1 4 (by decide)
theorem rw5 {LR : Mm → Prop} {u : Mm} (h : Rel LR u) : mI u 47 5 = mI u 1 11 := h.2.1.1 5 (by decide)
theorem rw6 {LR : Mm → Prop} {u : Mm} (h : Rel LR u) : mI u 47 6 = mI u 1 12 := h.2.1.1 6 (by decide)
theorem upd_at (f : Nat → Int32) (k : Nat) (x : Int32) (j : Nat) : upd f k x j = if j = k then x else f j := rfl
theorem c_theDay {u : Mm} {f c : Nat} (h1 : mK u f = (1, 1)) (h2 : mR u f 0 = some c) (h3 : mK u c = (10, 29)) : fX1_theDay u f = some (mI u c 28, u) := by
  unfold fX1_theDay
  rw [oK_of h1, h2, oNn_of, oA_of h3 (by decide) (by decide), oI_of]
  rfl
theorem c_termOf {u : Mm} (h : hSh u) (x : Int32) : fX0_termOf u 1 x = some (if x = 0 then mI u 3 28 else if x = 1 then mI u 1 11 else if x = 2 then mI u 1 12 else -1, u) := by
  unfold fX0_termOf
  by_cases h0 : x = 0
  · rw [if_pos h0, if_pos h0, oK_of (sh1 h), rf1_0 h, oNn_of, oR_of (sh2 h), c_theDay (sh2 h) (rf2_0 h) (sh3 h), oB_of]
  · rw [if_neg h0, if_neg h0]
    by_cases h1 : x = 1
    · rw [if_pos h1, if_pos h1, oK_of (sh1 h), oI_of]
    · rw [if_neg h1, if_neg h1]
      by_cases h2 : x = 2
      · rw [if_pos h2, if_pos h2, oK_of (sh1 h), oI_of]
      · rw [if_neg h2, if_neg h2]
theorem s40 {LR : Mm → Prop} (hF : LRf LR) : hwS_40 (Rel LR) := by
  intro x u h
  have hS := h.1
  have hT : hSh (mT u) := hS
  have hmi := h.2.2.1
  have hpa := h.2.2.2.2.2.1
  obtain ⟨n, s, -, -, -, q1, q2, -⟩ := hpa
  refine ⟨if x = 0 then mI u 1 7 else if x = 1 then mI u 1 10 else if x = 2 then mI u 1 14 else if x = 3 then mI u 30 3 else if x = 4 then mI u 0 12 else if x = 5 then mI u 44 0 else if x = 6 then mI u 44 1 else if x = 7 then mI u 44 2 else if x = 8 then mI u 44 4 else if x = 9 then mI u 44 5 else if x = 10 then mI u 1 15 else if x - 11 = 0 then mI u 3 28 else if x - 11 = 1 then mI u 1 11 else if x - 11 = 2 then mI u 1 12 else -1, u, mT u, ?_, hR45_Rel hS, ?_, Rel_mT hF h⟩
  · show fX8_count u 0 x = _
    unfold fX8_count bX8_count_97 bX8_count_106
    by_cases h0 : x = 0
    · subst h0; simp [oNn_of, oI_of, oJ_of, oU_of, oB_of, mK_wI, mK_wL, mR_wI, mR_wL, oK, oR, if_true, sh0 hS, sh1 hS, rf0_0 hS]
    rw [if_neg h0, if_neg h0]
    by_cases h0 : x = 1
    · subst h0; simp [oNn_of, oI_of, oJ_of, oU_of, oB_of, mK_wI, mK_wL, mR_wI, mR_wL, oK, oR, if_true, sh0 hS, sh1 hS, rf0_0 hS]
    rw [if_neg h0, if_neg h0]
    by_cases h0 : x = 2
    · subst h0; simp [oNn_of, oI_of, oJ_of, oU_of, oB_of, mK_wI, mK_wL, mR_wI, mR_wL, oK, oR, if_true, sh0 hS, sh1 hS, rf0_0 hS]
    rw [if_neg h0, if_neg h0]
    by_cases h0 : x = 3
    · subst h0; simp [oNn_of, oI_of, oJ_of, oU_of, oB_of, mK_wI, mK_wL, mR_wI, mR_wL, oK, oR, if_true, sh0 hS, sh30 hS, rf0_5 hS]
    rw [if_neg h0, if_neg h0]
    by_cases h0 : x = 4
    · subst h0; simp [oNn_of, oI_of, oJ_of, oU_of, oB_of, mK_wI, mK_wL, mR_wI, mR_wL, oK, oR, if_true, sh0 hS]
    rw [if_neg h0, if_neg h0]
    by_cases h0 : x = 5
    · subst h0; simp [oNn_of, oI_of, oJ_of, oU_of, oB_of, mK_wI, mK_wL, mR_wI, mR_wL, oK, oR, if_true, sh0 hS, rf0_17 hS, oA, sh44 hS]
    rw [if_neg h0, if_neg h0]
    by_cases h0 : x = 6
    · subst h0; simp [oNn_of, oI_of, oJ_of, oU_of, oB_of, mK_wI, mK_wL, mR_wI, mR_wL, oK, oR, if_true, sh0 hS, rf0_17 hS, oA, sh44 hS]
    rw [if_neg h0, if_neg h0]
    by_cases h0 : x = 7
    · subst h0; simp [oNn_of, oI_of, oJ_of, oU_of, oB_of, mK_wI, mK_wL, mR_wI, mR_wL, oK, oR, if_true, sh0 hS, rf0_17 hS, oA, sh44 hS]
    rw [if_neg h0, if_neg h0]
    by_cases h0 : x = 8
    · subst h0; simp [oNn_of, oI_of, oJ_of, oU_of, oB_of, mK_wI, mK_wL, mR_wI, mR_wL, oK, oR, if_true, sh0 hS, rf0_17 hS, oA, sh44 hS]
    rw [if_neg h0, if_neg h0]
    by_cases h0 : x = 9
    · subst h0; simp [oNn_of, oI_of, oJ_of, oU_of, oB_of, mK_wI, mK_wL, mR_wI, mR_wL, oK, oR, if_true, sh0 hS, rf0_17 hS, oA, sh44 hS]
    rw [if_neg h0, if_neg h0]
    by_cases h0 : x = 10
    · subst h0; simp [oNn_of, oI_of, oJ_of, oU_of, oB_of, mK_wI, mK_wL, mR_wI, mR_wL, oK, oR, if_true, sh0 hS, sh1 hS, rf0_0 hS]
    rw [if_neg h0, if_neg h0]
    rw [oK_of (sh0 hS), rf0_0 hS, oNn_of, oR_of (sh1 hS), c_termOf hS, oB_of]
  · show fX9_count u 45 x = _
    have e6 := hmi.2.2.2.2.2.1
    unfold fX9_count
    rw [oK_of (sh45 hS), oU_of]
    show _ = some (_, wI u 45 (upd (mI u 45) 0 0))
    by_cases h0 : x = 0
    · subst h0; simp [oNn_of, oI_of, oJ_of, oU_of, oB_of, mK_wI, mK_wL, mR_wI, mR_wL, oK, oR, if_true, sh45 hS, rf45_3 hS, oA, sh47 hS, mI_wI, rw0 h]
    rw [if_neg h0, if_neg h0]
    by_cases h0 : x = 1
    · subst h0; simp [oNn_of, oI_of, oJ_of, oU_of, oB_of, mK_wI, mK_wL, mR_wI, mR_wL, oK, oR, if_true, sh45 hS, rf45_3 hS, oA, sh47 hS, mI_wI, rw1 h]
    rw [if_neg h0, if_neg h0]
    by_cases h0 : x = 2
    · subst h0; simp [oNn_of, oI_of, oJ_of, oU_of, oB_of, mK_wI, mK_wL, mR_wI, mR_wL, oK, oR, if_true, sh45 hS, rf45_3 hS, oA, sh47 hS, mI_wI, rw2 h]
    rw [if_neg h0, if_neg h0]
    by_cases h0 : x = 3
    · subst h0; simp [oNn_of, oI_of, oJ_of, oU_of, oB_of, mK_wI, mK_wL, mR_wI, mR_wL, oK, oR, if_true, sh45 hS, mI_wI, upd_at, q1, q2]
    rw [if_neg h0, if_neg h0]
    by_cases h0 : x = 4
    · subst h0; simp [oNn_of, oI_of, oJ_of, oU_of, oB_of, mK_wI, mK_wL, mR_wI, mR_wL, oK, oR, if_true, sh45 hS, mI_wI, upd_at, hmi.2.2.2.2.1]
    rw [if_neg h0, if_neg h0]
    by_cases h0 : x = 5
    · subst h0; simp [oNn_of, oI_of, oJ_of, oU_of, oB_of, mK_wI, mK_wL, mR_wI, mR_wL, oK, oR, if_true, sh45 hS, rf45_2 hS, oA, sh46 hS, mI_wI, e6 0 (by decide)]
    rw [if_neg h0, if_neg h0]
    by_cases h0 : x = 6
    · subst h0; simp [oNn_of, oI_of, oJ_of, oU_of, oB_of, mK_wI, mK_wL, mR_wI, mR_wL, oK, oR, if_true, sh45 hS, rf45_2 hS, oA, sh46 hS, mI_wI, e6 1 (by decide)]
    rw [if_neg h0, if_neg h0]
    by_cases h0 : x = 7
    · subst h0; simp [oNn_of, oI_of, oJ_of, oU_of, oB_of, mK_wI, mK_wL, mR_wI, mR_wL, oK, oR, if_true, sh45 hS, rf45_2 hS, oA, sh46 hS, mI_wI, e6 2 (by decide)]
    rw [if_neg h0, if_neg h0]
    by_cases h0 : x = 8
    · subst h0; simp [oNn_of, oI_of, oJ_of, oU_of, oB_of, mK_wI, mK_wL, mR_wI, mR_wL, oK, oR, if_true, sh45 hS, rf45_2 hS, oA, sh46 hS, mI_wI, e6 4 (by decide)]
    rw [if_neg h0, if_neg h0]
    by_cases h0 : x = 9
    · subst h0; simp [oNn_of, oI_of, oJ_of, oU_of, oB_of, mK_wI, mK_wL, mR_wI, mR_wL, oK, oR, if_true, sh45 hS, rf45_2 hS, oA, sh46 hS, mI_wI, e6 5 (by decide)]
    rw [if_neg h0, if_neg h0]
    by_cases h0 : x = 10
    · subst h0; simp [oNn_of, oI_of, oJ_of, oU_of, oB_of, mK_wI, mK_wL, mR_wI, mR_wL, oK, oR, if_true, sh45 hS, rf45_3 hS, oA, sh47 hS, mI_wI, rw3 h]
    rw [if_neg h0, if_neg h0]
    rw [m_inI _ x 11 13 (by decide +kernel) (by decide +kernel), oB_of]
    by_cases c : 11 ≤ x ∧ x ≤ 13
    · rw [if_pos c]
      have c3 : x = 11 ∨ x = 12 ∨ x = 13 := by
        have q := (rg_of (lo := 11) (hi := 13) (x := x) (a := 11) (b := 13) (by decide +kernel) (by decide +kernel)).mp c
        unfold rg at q
        rcases (by omega : x.toInt = 11 ∨ x.toInt = 12 ∨ x.toInt = 13) with e | e | e
        · exact Or.inl (Int32.toInt_inj.mp (e.trans (by decide +kernel)))
        · exact Or.inr (Or.inl (Int32.toInt_inj.mp (e.trans (by decide +kernel))))
        · exact Or.inr (Or.inr (Int32.toInt_inj.mp (e.trans (by decide +kernel))))
      rcases c3 with rfl | rfl | rfl
      · simp [bX9_count_167, oNn_of, oI_of, oJ_of, oU_of, oB_of, mK_wI, mK_wL, mR_wI, mR_wL, oK, oR, if_true, sh45 hS, rf45_3 hS, oA, sh47 hS, mI_wI, rw4 h]
      · simp [bX9_count_167, oNn_of, oI_of, oJ_of, oU_of, oB_of, mK_wI, mK_wL, mR_wI, mR_wL, oK, oR, if_true, sh45 hS, rf45_3 hS, oA, sh47 hS, mI_wI, rw5 h]
      · simp [bX9_count_167, oNn_of, oI_of, oJ_of, oU_of, oB_of, mK_wI, mK_wL, mR_wI, mR_wL, oK, oR, if_true, sh45 hS, rf45_3 hS, oA, sh47 hS, mI_wI, rw6 h]
    · rw [if_neg c]
      have n0 : ¬ x - 11 = 0 := fun e => c (by rw [show x = 11 by rw [← Int32.sub_add_cancel x 11, e]; rfl]; decide)
      have n1 : ¬ x - 11 = 1 := fun e => c (by rw [show x = 12 by rw [← Int32.sub_add_cancel x 11, e]; rfl]; decide)
      have n2 : ¬ x - 11 = 2 := fun e => c (by rw [show x = 13 by rw [← Int32.sub_add_cancel x 11, e]; rfl]; decide)
      rw [if_neg n0, if_neg n1, if_neg n2]
      simp [bX9_count_167]
