/-! ===== terms, drawn ===== -/
set_option maxRecDepth 100000 in
theorem rg_ne {x : Int32} {a b : Int} (h : rg x a b) (ha : 0 ≤ a) : ¬ x = -1 := by
  intro q; subst q
  unfold rg at h
  have : (-1 : Int32).toInt = -1 := by decide
  omega
set_option maxRecDepth 100000 in
theorem m_terms_ok {u : Mm} (h0 : hSh u) {y : Int32} (k : Nat) {x : Int32} (hx : x = 0 ∧ (0 ≤ y ∧ y ≤ 999) ∧ k = 4 ∨ x = 1 ∧ (1 ≤ y ∧ y ≤ 40) ∧ k = 5 ∨ x = 2 ∧ (0 ≤ y ∧ y ≤ 9) ∧ k = 6) : fX9_terms u 45 x y = some (mI u 47 k, wI (wI (wI (mT u) 45 (upd (mI (mT u) 45) 8 0)) 47 (upd (mI u 47) k y)) 45 (upd (upd (mI (mT u) 45) 8 0) 1 0)) := by
  have h : hSh (mT u) := h0
  unfold fX9_terms bX9_terms_60
  rw [oK_of (sh45 h0), oT]
  rcases hx with ⟨rfl, c, rfl⟩ | ⟨rfl, c, rfl⟩ | ⟨rfl, c, rfl⟩
  · rw [if_pos rfl, m_inI _ y 0 999 (l := 0) (h := 999) rfl rfl, oB_of, if_pos c, if_neg (by decide), oK_of (sh45 h), oU_of, oR_of (sh45 (hSh_wI h)), show (4 : Int32) + 0 = nI 4 from rfl, m_change (hSh_wI h) _ (by decide), oB_of]
    rfl
  · rw [if_neg (by decide), if_pos rfl, m_inI _ y 1 40 (l := 1) (h := 40) rfl rfl, oB_of, if_pos c, if_neg (by decide), oK_of (sh45 h), oU_of, oR_of (sh45 (hSh_wI h)), show (4 : Int32) + 1 = nI 5 from rfl, m_change (hSh_wI h) _ (by decide), oB_of]
    rfl
  · rw [if_neg (by decide), if_neg (by decide), if_pos rfl, m_inI _ y 0 9 (l := 0) (h := 9) rfl rfl, oB_of, if_pos c, if_neg (by decide), if_neg (by decide), oK_of (sh45 h), oU_of, oR_of (sh45 (hSh_wI h)), show (4 : Int32) + 2 = nI 6 from rfl, m_change (hSh_wI h) _ (by decide), oB_of]
    rfl
def Pterms (x y : Int32) : Prop := x = 0 ∧ (0 ≤ y ∧ y ≤ 999) ∨ x = 1 ∧ (1 ≤ y ∧ y ≤ 40) ∨ x = 2 ∧ (0 ≤ y ∧ y ≤ 9)
set_option maxRecDepth 100000 in
theorem m_terms_no {u : Mm} (h0 : hSh u) {x y : Int32} (hP : ¬ Pterms x y) : fX9_terms u 45 x y = some (-1, mRe (mT u) (-1) 1) := by
  have h : hSh (mT u) := h0
  have k : oR (mT u) 45 9 (oB (fX9_answer (mT u) 45 (-1)) fun v4 u5 => some (v4, u5)) = some (-1, mRe (mT u) (-1) 1) := by rw [oR_of (sh45 h), m_no h, oB_of]
  unfold Pterms at hP
  unfold fX9_terms bX9_terms_59 bX9_terms_60
  rw [oK_of (sh45 h0), oT]
  by_cases e0 : x = 0
  · rw [if_pos e0, m_inI _ y 0 999 (l := 0) (h := 999) rfl rfl, oB_of, if_neg (fun q => hP (Or.inl ⟨e0, q⟩)), if_pos rfl, k]
  · rw [if_neg e0]
    by_cases e1 : x = 1
    · rw [if_pos e1, m_inI _ y 1 40 (l := 1) (h := 40) rfl rfl, oB_of, if_neg (fun q => hP (Or.inr (Or.inl ⟨e1, q⟩))), if_pos rfl, k]
    · rw [if_neg e1]
      by_cases e2 : x = 2
      · rw [if_pos e2, m_inI _ y 0 9 (l := 0) (h := 9) rfl rfl, oB_of, if_neg (fun q => hP (Or.inr (Or.inr ⟨e2, q⟩))), if_pos rfl, if_pos rfl, k]
      · rw [if_neg e2, if_pos rfl, k]
set_option maxRecDepth 100000 in
theorem c_termFits {u : Mm} {x y : Int32} : fX0_termFits u x y = some (if x = 0 then (if 0 ≤ y ∧ y ≤ 999 then 1 else 0) else if x = 1 then (if 1 ≤ y ∧ y ≤ 40 then 1 else 0) else (if 0 ≤ y ∧ y ≤ 9 then 1 else 0), u) := by
  unfold fX0_termFits
  by_cases e0 : x = 0
  · rw [if_pos e0, if_pos e0, c_within, oB_of, ite01]
  · rw [if_neg e0, if_neg e0]
    by_cases e1 : x = 1
    · rw [if_pos e1, if_pos e1, c_within, oB_of, ite01]
    · rw [if_neg e1, if_neg e1, c_within, oB_of, ite01]
set_option maxRecDepth 100000 in
theorem s6 {LR : Mm → Prop} (hF : LRf LR) : hwS_6 (Rel LR) := by
  intro x y u h
  have hS := h.1
  have k : oR u 0 8 (oB (fX8_refuse u 0 (-1)) fun v5 u6 => some (v5, u6)) = some (-1, cRe u (-1) 0) := by rw [oR_of (sh0 hS), c_no hS, oB_of]
  have g4 : ¬ mI u 3 28 = -1 := by rw [← rw4 h]; exact rg_ne (h.2.1.2.1 4 (by decide)) (by decide)
  have g5 : ¬ mI u 1 11 = -1 := by rw [← rw5 h]; exact rg_ne (h.2.1.2.1 5 (by decide)) (by decide)
  have g6 : ¬ mI u 1 12 = -1 := by rw [← rw6 h]; exact rg_ne (h.2.1.2.1 6 (by decide)) (by decide)
  by_cases hP : Pterms x y
  · rcases hP with ⟨rfl, c⟩ | ⟨rfl, c⟩ | ⟨rfl, c⟩
    · have hc : fX8_terms u 0 0 y = some (mI u 3 28, wI (wI (wI u 3 (upd (mI u 3) 28 y)) 30 (upd (mI u 30) 3 0)) 0 (upd (mI u 0) 18 0)) := by
        unfold fX8_terms
        rw [oK_of (sh0 hS), rf0_0 hS, oNn_of, oR_of (sh1 hS), c_termOf hS, oB_of, if_pos rfl, if_neg g4, c_termFits, oB_of, if_pos rfl, if_pos c, if_neg (by decide)]
        simp (config := {implicitDefEqProofs := false}) only [oK, oR, oA_n, oA_l, oNn_of, oI_of, oJ_of, oU_of, oP_of, oB_of, oZ0, oZ1, mK_wI, mK_wL, mR_wI, mR_wL, mI_wI, mI_wL, mL_wI, mL_wL, Nat.reduceEqDiff, Nat.reduceLT, Nat.reduceAdd, Nat.reduceMul, Int32.reduceLE, Int32.reduceLT, Int32.reduceAdd, Int32.reduceSub, Int32.reduceMul, Int32.reduceToNatClampNeg, x10, ↓reduceIte, sh0 hS, rf0_0 hS, sh1 hS, rf1_0 hS, sh2 hS, sh3 hS, rf0_5 hS, sh30 hS, fX0_setTerm, c_setDay, Fr2 hS, Fr_wI, fX3_clear, fX8_accept]
      have hm := m_terms_ok (u := wI (wI (wI u 3 (upd (mI u 3) 28 y)) 30 (upd (mI u 30) 3 0)) 0 (upd (mI u 0) 18 0)) hS 4 (Or.inl ⟨rfl, c, rfl⟩)
      rw [show ∀ f g i : Nat → Int32, mI (wI (wI (wI u 3 f) 30 g) 0 i) 47 = mI u 47 from fun _ _ _ => rfl, rw4 h] at hm
      refine ⟨_, _, _, hc, hR45_Rel hS, hm, ?_⟩
      refine Rel_clr hF h rfl rfl rfl (fun a h0 h1 h2 h3 h4 => ?_) (Rbk_set 2 28 (p := 4) (v := y) h.2.1 rfl (rgI rfl rfl c) (by decide) (by decide)) (fun j hj => ?_) rfl (rlu rl0 (by decide) (by decide)) rfl rfl rfl
      · unfold mT; simp only [mI_wI]; repeat rw [if_neg (by omega)]
      · unfold mT bset; simp only [mI_wI]
        rcases (by omega : j = 2 ∨ j ≠ 2) with q | q
        · subst q; rfl
        · repeat rw [if_neg (by omega)]
    · have hc : fX8_terms u 0 1 y = some (mI u 1 11, wI (wI (wI u 1 (upd (mI u 1) 11 y)) 30 (upd (mI u 30) 3 0)) 0 (upd (mI u 0) 18 0)) := by
        unfold fX8_terms
        rw [oK_of (sh0 hS), rf0_0 hS, oNn_of, oR_of (sh1 hS), show fX0_termOf u 1 1 = some (mI u 1 11, u) from c_termOf hS 1, oB_of, if_neg g5, show fX0_termFits u 1 y = some (if 1 ≤ y ∧ y ≤ 40 then 1 else 0, u) from c_termFits, oB_of, if_pos c, if_neg (by decide)]
        simp (config := {implicitDefEqProofs := false}) only [oK, oR, oA_n, oA_l, oNn_of, oI_of, oJ_of, oU_of, oP_of, oB_of, oZ0, oZ1, mK_wI, mK_wL, mR_wI, mR_wL, mI_wI, mI_wL, mL_wI, mL_wL, Nat.reduceEqDiff, Nat.reduceLT, Nat.reduceAdd, Nat.reduceMul, Int32.reduceLE, Int32.reduceLT, Int32.reduceAdd, Int32.reduceSub, Int32.reduceMul, Int32.reduceToNatClampNeg, x10, ↓reduceIte, sh0 hS, rf0_0 hS, sh1 hS, rf1_0 hS, sh2 hS, sh3 hS, rf0_5 hS, sh30 hS, fX0_setTerm, fX3_clear, fX8_accept]
      have hm := m_terms_ok (u := wI (wI (wI u 1 (upd (mI u 1) 11 y)) 30 (upd (mI u 30) 3 0)) 0 (upd (mI u 0) 18 0)) hS 5 (Or.inr (Or.inl ⟨rfl, c, rfl⟩))
      rw [show ∀ f g i : Nat → Int32, mI (wI (wI (wI u 1 f) 30 g) 0 i) 47 = mI u 47 from fun _ _ _ => rfl, rw5 h] at hm
      refine ⟨_, _, _, hc, hR45_Rel hS, hm, ?_⟩
      refine Rel_clr hF h rfl rfl rfl (fun a h0 h1 h2 h3 h4 => ?_) (Rbk_set 0 11 (p := 5) (v := y) h.2.1 rfl (rgI rfl rfl c) (by decide) (by decide)) (fun j hj => ?_) rfl (rlu rl0 (by decide) (by decide)) rfl rfl rfl
      · unfold mT; simp only [mI_wI]; repeat rw [if_neg (by omega)]
      · unfold mT bset; simp only [mI_wI]
        rcases (by omega : j = 0 ∨ j ≠ 0) with q | q
        · subst q; rfl
        · repeat rw [if_neg (by omega)]
    · have hc : fX8_terms u 0 2 y = some (mI u 1 12, wI (wI (wI u 1 (upd (mI u 1) 12 y)) 30 (upd (mI u 30) 3 0)) 0 (upd (mI u 0) 18 0)) := by
        unfold fX8_terms
        rw [oK_of (sh0 hS), rf0_0 hS, oNn_of, oR_of (sh1 hS), show fX0_termOf u 1 2 = some (mI u 1 12, u) from c_termOf hS 2, oB_of, if_neg g6, show fX0_termFits u 2 y = some (if 0 ≤ y ∧ y ≤ 9 then 1 else 0, u) from c_termFits, oB_of, if_pos c, if_neg (by decide)]
        simp (config := {implicitDefEqProofs := false}) only [oK, oR, oA_n, oA_l, oNn_of, oI_of, oJ_of, oU_of, oP_of, oB_of, oZ0, oZ1, mK_wI, mK_wL, mR_wI, mR_wL, mI_wI, mI_wL, mL_wI, mL_wL, Nat.reduceEqDiff, Nat.reduceLT, Nat.reduceAdd, Nat.reduceMul, Int32.reduceLE, Int32.reduceLT, Int32.reduceAdd, Int32.reduceSub, Int32.reduceMul, Int32.reduceToNatClampNeg, x10, ↓reduceIte, sh0 hS, rf0_0 hS, sh1 hS, rf1_0 hS, sh2 hS, sh3 hS, rf0_5 hS, sh30 hS, fX0_setTerm, fX3_clear, fX8_accept, show ((2 : Int32) = 0) = False by decide, show ((2 : Int32) = 1) = False by decide]
      have hm := m_terms_ok (u := wI (wI (wI u 1 (upd (mI u 1) 12 y)) 30 (upd (mI u 30) 3 0)) 0 (upd (mI u 0) 18 0)) hS 6 (Or.inr (Or.inr ⟨rfl, c, rfl⟩))
      rw [show ∀ f g i : Nat → Int32, mI (wI (wI (wI u 1 f) 30 g) 0 i) 47 = mI u 47 from fun _ _ _ => rfl, rw6 h] at hm
      refine ⟨_, _, _, hc, hR45_Rel hS, hm, ?_⟩
      refine Rel_clr hF h rfl rfl rfl (fun a h0 h1 h2 h3 h4 => ?_) (Rbk_set 0 12 (p := 6) (v := y) h.2.1 rfl (rgI rfl rfl c) (by decide) (by decide)) (fun j hj => ?_) rfl (rlu rl0 (by decide) (by decide)) rfl rfl rfl
      · unfold mT; simp only [mI_wI]; repeat rw [if_neg (by omega)]
      · unfold mT bset; simp only [mI_wI]
        rcases (by omega : j = 0 ∨ j ≠ 0) with q | q
        · subst q; rfl
        · repeat rw [if_neg (by omega)]
  · refine ⟨-1, cRe u (-1) 0, mRe (mT (cRe u (-1) 0)) (-1) 1, ?_, hR45_Rel hS, m_terms_no (u := cRe u (-1) 0) hS hP, Rel_re hF h (by decide)⟩
    show fX8_terms u 0 x y = _
    unfold fX8_terms bX8_terms_22
    unfold Pterms at hP
    rw [oK_of (sh0 hS), rf0_0 hS, oNn_of, oR_of (sh1 hS), c_termOf hS, oB_of]
    by_cases e0 : x = 0
    · rw [if_pos e0, if_neg g4, c_termFits, oB_of, if_pos e0, if_neg (fun q => hP (Or.inl ⟨e0, q⟩)), if_pos rfl, k]
    · rw [if_neg e0]
      by_cases e1 : x = 1
      · rw [if_pos e1, if_neg g5, c_termFits, oB_of, if_neg e0, if_pos e1, if_neg (fun q => hP (Or.inr (Or.inl ⟨e1, q⟩))), if_pos rfl, k]
      · rw [if_neg e1]
        by_cases e2 : x = 2
        · rw [if_pos e2, if_neg g6, c_termFits, oB_of, if_neg e0, if_neg e1, if_neg (fun q => hP (Or.inr (Or.inr ⟨e2, q⟩))), if_pos rfl, k]
        · rw [if_neg e2, if_pos rfl, k]

set_option maxRecDepth 100000 in
theorem m_in4 (u : Mm) (x : Int32) : fX9_in u x.toInt64 0 4 = some (if 0 ≤ x ∧ x ≤ 4 then 1 else 0, u) := m_inI u x 0 4 rfl rfl
set_option maxRecDepth 100000 in
theorem m_in7 (u : Mm) (x : Int32) : fX9_in u x.toInt64 0 7 = some (if 0 ≤ x ∧ x ≤ 7 then 1 else 0, u) := m_inI u x 0 7 rfl rfl
set_option maxRecDepth 100000 in
theorem m_in1 (u : Mm) (x : Int32) : fX9_in u x.toInt64 0 1 = some (if 0 ≤ x ∧ x ≤ 1 then 1 else 0, u) := m_inI u x 0 1 rfl rfl
set_option maxRecDepth 100000 in
theorem m_in2 (u : Mm) (x : Int32) : fX9_in u x.toInt64 0 2 = some (if 0 ≤ x ∧ x ≤ 2 then 1 else 0, u) := m_inI u x 0 2 rfl rfl
set_option maxRecDepth 100000 in
theorem x20 : ((2 : Int32) = 0) = False := by decide
set_option maxRecDepth 100000 in
theorem x21 : ((2 : Int32) = 1) = False := by decide
set_option maxRecDepth 100000 in
theorem x30 : ((3 : Int32) = 0) = False := by decide
set_option maxRecDepth 100000 in
theorem x31 : ((3 : Int32) = 1) = False := by decide
set_option maxRecDepth 100000 in
theorem x32 : ((3 : Int32) = 2) = False := by decide
set_option maxRecDepth 100000 in
theorem x40 : ((4 : Int32) = 0) = False := by decide
set_option maxRecDepth 100000 in
theorem x41 : ((4 : Int32) = 1) = False := by decide
set_option maxRecDepth 100000 in
theorem x42 : ((4 : Int32) = 2) = False := by decide
set_option maxRecDepth 100000 in
theorem x43 : ((4 : Int32) = 3) = False := by decide
set_option maxRecDepth 100000 in
theorem c_menAt0 {u : Mm} {f k : Nat} (h : Fr u f) (hk : k < 8) : fX1_menAt u f 0 (nI k) = some (mI u (f + 1) (8 + k), u) := c_menAt (s := 0) h (by decide) hk
set_option maxRecDepth 100000 in
theorem c_menAt1 {u : Mm} {f k : Nat} (h : Fr u f) (hk : k < 8) : fX1_menAt u f 1 (nI k) = some (mI u (f + 1) (16 + k), u) := c_menAt (s := 1) h (by decide) hk
set_option maxRecDepth 100000 in
theorem s37 {LR : Mm → Prop} (hF : LRf LR) : hwS_37 (Rel LR) := by
  intro k x u h
  have hS := h.1
  have hT : hSh (mT u) := hS
  obtain ⟨-, -, -, -, -, -, -, -, e9, e10⟩ := h.2.2.1
  have hno : fX8_drawn u 0 k x = some (-1000, u) → fX9_drawn u 45 k x = some (-1000, mT u) → ∃ r u1 u2, fX8_drawn u 0 k x = some (r, u1) ∧ (mK u1 45).1 = 9 ∧ fX9_drawn u1 45 k x = some (r, u2) ∧ Rel LR u2 := fun a b => ⟨_, _, _, a, hR45_Rel hS, b, Rel_mT hF h⟩
  have hyes : ∀ r, fX8_drawn u 0 k x = some (r, u) → fX9_drawn u 45 k x = some (r, mT u) → ∃ r u1 u2, fX8_drawn u 0 k x = some (r, u1) ∧ (mK u1 45).1 = 9 ∧ fX9_drawn u1 45 k x = some (r, u2) ∧ Rel LR u2 := fun r a b => ⟨_, _, _, a, hR45_Rel hS, b, Rel_mT hF h⟩
  have e53 : mI (mT u) 45 53 = mI u 0 10 := e9.symm
  have hd := h.2.2.2.2.1
  unfold Rde Rfr at hd
  by_cases q : 0 ≤ x ∧ x ≤ 4
  · obtain ⟨j, hj, rfl⟩ := nIof (n := 4) 4 (by decide) q
    rcases e10 with e10 | e10
    · -- nothing kept
      have hm : fX9_drawn u 45 k (nI j) = some (-1000, mT u) := by
        unfold fX9_drawn
        rw [oK_of (sh45 hS), oT, oK_of (sh45 hT), oI_of, e53, e10, if_pos rfl]
      refine hno ?_ hm
      unfold fX8_drawn bX8_drawn_20 bX8_drawn_21 bX8_drawn_42 bX8_drawn_43
      rw [c_within, oB_of]
      have k1 : ∀ (a b : Int32), (oK u 0 8 19 (oI (mI u 0 10) fun v5 => if v5 = 0 then some (-1000, u) else if a = 0 then if b = 0 then some (-1000, u) else bX8_drawn_65 u 0 k (nI j) else bX8_drawn_65 u 0 k (nI j))) = some (-1000, u) := by
        intro a b; rw [oK_of (sh0 hS), oI_of, e10, if_pos rfl]
      have k2 : ∀ a : Int32, (oB (fX8_within u (nI j) 3 4) fun v3 u4 => if v3 = 0 then oK u4 0 8 19 (oI (mI u4 0 10) fun v5 => if v5 = 0 then some (-1000, u4) else if a = 0 then if (0 : Int32) = 0 then some (-1000, u4) else bX8_drawn_65 u4 0 k (nI j) else bX8_drawn_65 u4 0 k (nI j)) else oB (fX8_isSide u4 k) fun v18 u19 => if v18 = 0 then oK u19 0 8 19 (oI (mI u19 0 10) fun v5 => if v5 = 0 then some (-1000, u19) else if a = 0 then if (0 : Int32) = 0 then some (-1000, u19) else bX8_drawn_65 u19 0 k (nI j) else bX8_drawn_65 u19 0 k (nI j)) else oK u19 0 8 19 (oI (mI u19 0 10) fun v5 => if v5 = 0 then some (-1000, u19) else if a = 0 then if (1 : Int32) = 0 then some (-1000, u19) else bX8_drawn_65 u19 0 k (nI j) else bX8_drawn_65 u19 0 k (nI j))) = some (-1000, u) := by
        intro a
        rw [c_within, oB_of]
        by_cases c : 3 ≤ nI j ∧ nI j ≤ 4
        · rw [if_pos c, if_neg (by decide), c_isSide, oB_of]
          by_cases c2 : 0 ≤ k ∧ k ≤ 1
          · rw [if_pos c2, if_neg (by decide), k1]
          · rw [if_neg c2, if_pos rfl, k1]
        · rw [if_neg c, if_pos rfl, k1]
      by_cases c : 0 ≤ nI j ∧ nI j ≤ 2
      · rw [if_pos c, if_neg (by decide), c_isColumn, oB_of]
        by_cases c2 : 0 ≤ k ∧ k ≤ 7
        · rw [if_pos c2, if_neg (by decide), k2]
        · rw [if_neg c2, if_pos rfl, k2]
      · rw [if_neg c, if_pos rfl, k2]
    · have e10' : ¬ mI u 0 10 = 0 := by rw [e10]; decide
      obtain ⟨d1, d2⟩ := hd e10
      have e53' : ¬ mI (mT u) 45 53 = 0 := by rw [e53]; exact e10'
      rcases (by omega : j = 0 ∨ j = 1 ∨ j = 2 ∨ j = 3 ∨ j = 4) with rfl | rfl | rfl | rfl | rfl
      · show ∃ r u1 u2, fX8_drawn u 0 k 0 = some (r, u1) ∧ (mK u1 45).1 = 9 ∧ fX9_drawn u1 45 k 0 = some (r, u2) ∧ Rel LR u2
        by_cases c2 : 0 ≤ k ∧ k ≤ 7
        · obtain ⟨m, hm, rfl⟩ := nIof (n := 7) 7 (by decide) c2
          have hm' : m < 8 := by omega
          have ei : nI 3 + nI m = nI (3 + m) := nI_add 3 m
          have el : 3 + m < 31 := by omega
          have ev : mI u 41 m = mI u 70 (3 + m) := d1 m (by omega)
          refine ⟨_, _, _, (?_ : _ = some (mI u 41 m, u)), hR45_Rel hS, (?_ : _ = some (mI u 41 m, mT u)), Rel_mT hF h⟩
          · simp (config := {implicitDefEqProofs := false}) only [fX8_drawn, bX8_drawn_21, bX8_drawn_20, bX8_drawn_42, bX8_drawn_43, bX8_drawn_65, oK, oR, oA_n, oA_l, oNn_of, oI_of, oJ_of, oU_of, oP_of, oB_of, oZ0, oZ1, mK_wI, mK_wL, mR_wI, mR_wL, mI_wI, mI_wL, mL_wI, mL_wL, Nat.reduceEqDiff, Nat.reduceLT, Nat.reduceAdd, Nat.reduceMul, Int32.reduceLE, Int32.reduceLT, Int32.reduceAdd, Int32.reduceSub, Int32.reduceMul, Int32.reduceToNatClampNeg, x10, ↓reduceIte, sh0 hS, rf0_9 hS, sh40 hS, sh41 hS, c_within, c_isColumn, c_isSide, m_in4, m_in7, m_in1, and_self, true_and, and_true, false_and, and_false, x20, x21, x30, x31, x32, x40, x41, x42, x43, c2.1, c2.2, e10', bX8_drawn_105, c_lineAt, Fr40 hS, hm']
          · unfold fX9_drawn
            rw [oK_of (sh45 hS), oT]
            simp (config := {implicitDefEqProofs := false}) only [oK, oR, oA_n, oA_l, oNn_of, oI_of, oJ_of, oU_of, oP_of, oB_of, oZ0, oZ1, mK_wI, mK_wL, mR_wI, mR_wL, mI_wI, mI_wL, mL_wI, mL_wL, Nat.reduceEqDiff, Nat.reduceLT, Nat.reduceAdd, Nat.reduceMul, Int32.reduceLE, Int32.reduceLT, Int32.reduceAdd, Int32.reduceSub, Int32.reduceMul, Int32.reduceToNatClampNeg, x10, ↓reduceIte, sh45 hT, rf45_52 hT, sh70 hT, c_within, c_isColumn, c_isSide, m_in4, m_in7, m_in1, and_self, true_and, and_true, false_and, and_false, x20, x21, x30, x31, x32, x40, x41, x42, x43, c2.1, c2.2, e53', bX9_drawn_39, bX9_drawn_90, show ((7 : Int32) - 4) = nI 3 from rfl, ei, el, clm (show 3 + m < 2147483648 by omega)]
            rw [ev]; rfl
        · refine hno ?_ ?_
          · show fX8_drawn u 0 k 0 = _
            simp (config := {implicitDefEqProofs := false}) only [fX8_drawn, bX8_drawn_21, bX8_drawn_20, bX8_drawn_42, bX8_drawn_43, oK, oR, oA_n, oA_l, oNn_of, oI_of, oJ_of, oU_of, oP_of, oB_of, oZ0, oZ1, mK_wI, mK_wL, mR_wI, mR_wL, mI_wI, mI_wL, mL_wI, mL_wL, Nat.reduceEqDiff, Nat.reduceLT, Nat.reduceAdd, Nat.reduceMul, Int32.reduceLE, Int32.reduceLT, Int32.reduceAdd, Int32.reduceSub, Int32.reduceMul, Int32.reduceToNatClampNeg, x10, ↓reduceIte, sh0 hS, c_within, c_isColumn, c_isSide, m_in4, m_in7, m_in1, and_self, true_and, and_true, false_and, and_false, x20, x21, x30, x31, x32, x40, x41, x42, x43, c2, e10']
          · show fX9_drawn u 45 k 0 = _
            unfold fX9_drawn
            rw [oK_of (sh45 hS), oT]
            simp (config := {implicitDefEqProofs := false}) only [oK, oR, oA_n, oA_l, oNn_of, oI_of, oJ_of, oU_of, oP_of, oB_of, oZ0, oZ1, mK_wI, mK_wL, mR_wI, mR_wL, mI_wI, mI_wL, mL_wI, mL_wL, Nat.reduceEqDiff, Nat.reduceLT, Nat.reduceAdd, Nat.reduceMul, Int32.reduceLE, Int32.reduceLT, Int32.reduceAdd, Int32.reduceSub, Int32.reduceMul, Int32.reduceToNatClampNeg, x10, ↓reduceIte, sh45 hT, c_within, c_isColumn, c_isSide, m_in4, m_in7, m_in1, and_self, true_and, and_true, false_and, and_false, x20, x21, x30, x31, x32, x40, x41, x42, x43, c2, e53', bX9_drawn_39]
      · show ∃ r u1 u2, fX8_drawn u 0 k 1 = some (r, u1) ∧ (mK u1 45).1 = 9 ∧ fX9_drawn u1 45 k 1 = some (r, u2) ∧ Rel LR u2
        by_cases c2 : 0 ≤ k ∧ k ≤ 7
        · obtain ⟨m, hm, rfl⟩ := nIof (n := 7) 7 (by decide) c2
          have hm' : m < 8 := by omega
          have ei : nI 11 + nI m = nI (11 + m) := nI_add 11 m
          have el : 11 + m < 31 := by omega
          have ev : mI u 41 (8 + m) = mI u 70 (11 + m) := (d1 (8 + m) (by omega)).trans (by congr 1; omega)
          refine ⟨_, _, _, (?_ : _ = some (mI u 41 (8 + m), u)), hR45_Rel hS, (?_ : _ = some (mI u 41 (8 + m), mT u)), Rel_mT hF h⟩
          · simp (config := {implicitDefEqProofs := false}) only [fX8_drawn, bX8_drawn_21, bX8_drawn_20, bX8_drawn_42, bX8_drawn_43, bX8_drawn_65, oK, oR, oA_n, oA_l, oNn_of, oI_of, oJ_of, oU_of, oP_of, oB_of, oZ0, oZ1, mK_wI, mK_wL, mR_wI, mR_wL, mI_wI, mI_wL, mL_wI, mL_wL, Nat.reduceEqDiff, Nat.reduceLT, Nat.reduceAdd, Nat.reduceMul, Int32.reduceLE, Int32.reduceLT, Int32.reduceAdd, Int32.reduceSub, Int32.reduceMul, Int32.reduceToNatClampNeg, x10, ↓reduceIte, sh0 hS, rf0_9 hS, sh40 hS, sh41 hS, c_within, c_isColumn, c_isSide, m_in4, m_in7, m_in1, and_self, true_and, and_true, false_and, and_false, x20, x21, x30, x31, x32, x40, x41, x42, x43, c2.1, c2.2, e10', bX8_drawn_105, c_menAt, Fr40 hS, hm', c_menAt0 (Fr40 hS) hm', c_menAt1 (Fr40 hS) hm']
          · unfold fX9_drawn
            rw [oK_of (sh45 hS), oT]
            simp (config := {implicitDefEqProofs := false}) only [oK, oR, oA_n, oA_l, oNn_of, oI_of, oJ_of, oU_of, oP_of, oB_of, oZ0, oZ1, mK_wI, mK_wL, mR_wI, mR_wL, mI_wI, mI_wL, mL_wI, mL_wL, Nat.reduceEqDiff, Nat.reduceLT, Nat.reduceAdd, Nat.reduceMul, Int32.reduceLE, Int32.reduceLT, Int32.reduceAdd, Int32.reduceSub, Int32.reduceMul, Int32.reduceToNatClampNeg, x10, ↓reduceIte, sh45 hT, rf45_52 hT, sh70 hT, c_within, c_isColumn, c_isSide, m_in4, m_in7, m_in1, and_self, true_and, and_true, false_and, and_false, x20, x21, x30, x31, x32, x40, x41, x42, x43, c2.1, c2.2, e53', bX9_drawn_39, bX9_drawn_90, show ((15 : Int32) - 4) = nI 11 from rfl, ei, el, clm (show 11 + m < 2147483648 by omega)]
            rw [ev]; rfl
        · refine hno ?_ ?_
          · show fX8_drawn u 0 k 1 = _
            simp (config := {implicitDefEqProofs := false}) only [fX8_drawn, bX8_drawn_21, bX8_drawn_20, bX8_drawn_42, bX8_drawn_43, oK, oR, oA_n, oA_l, oNn_of, oI_of, oJ_of, oU_of, oP_of, oB_of, oZ0, oZ1, mK_wI, mK_wL, mR_wI, mR_wL, mI_wI, mI_wL, mL_wI, mL_wL, Nat.reduceEqDiff, Nat.reduceLT, Nat.reduceAdd, Nat.reduceMul, Int32.reduceLE, Int32.reduceLT, Int32.reduceAdd, Int32.reduceSub, Int32.reduceMul, Int32.reduceToNatClampNeg, x10, ↓reduceIte, sh0 hS, c_within, c_isColumn, c_isSide, m_in4, m_in7, m_in1, and_self, true_and, and_true, false_and, and_false, x20, x21, x30, x31, x32, x40, x41, x42, x43, c2, e10']
          · show fX9_drawn u 45 k 1 = _
            unfold fX9_drawn
            rw [oK_of (sh45 hS), oT]
            simp (config := {implicitDefEqProofs := false}) only [oK, oR, oA_n, oA_l, oNn_of, oI_of, oJ_of, oU_of, oP_of, oB_of, oZ0, oZ1, mK_wI, mK_wL, mR_wI, mR_wL, mI_wI, mI_wL, mL_wI, mL_wL, Nat.reduceEqDiff, Nat.reduceLT, Nat.reduceAdd, Nat.reduceMul, Int32.reduceLE, Int32.reduceLT, Int32.reduceAdd, Int32.reduceSub, Int32.reduceMul, Int32.reduceToNatClampNeg, x10, ↓reduceIte, sh45 hT, c_within, c_isColumn, c_isSide, m_in4, m_in7, m_in1, and_self, true_and, and_true, false_and, and_false, x20, x21, x30, x31, x32, x40, x41, x42, x43, c2, e53', bX9_drawn_39]
      · show ∃ r u1 u2, fX8_drawn u 0 k 2 = some (r, u1) ∧ (mK u1 45).1 = 9 ∧ fX9_drawn u1 45 k 2 = some (r, u2) ∧ Rel LR u2
        by_cases c2 : 0 ≤ k ∧ k ≤ 7
        · obtain ⟨m, hm, rfl⟩ := nIof (n := 7) 7 (by decide) c2
          have hm' : m < 8 := by omega
          have ei : nI 19 + nI m = nI (19 + m) := nI_add 19 m
          have el : 19 + m < 31 := by omega
          have ev : mI u 41 (16 + m) = mI u 70 (19 + m) := (d1 (16 + m) (by omega)).trans (by congr 1; omega)
          refine ⟨_, _, _, (?_ : _ = some (mI u 41 (16 + m), u)), hR45_Rel hS, (?_ : _ = some (mI u 41 (16 + m), mT u)), Rel_mT hF h⟩
          · simp (config := {implicitDefEqProofs := false}) only [fX8_drawn, bX8_drawn_21, bX8_drawn_20, bX8_drawn_42, bX8_drawn_43, bX8_drawn_65, oK, oR, oA_n, oA_l, oNn_of, oI_of, oJ_of, oU_of, oP_of, oB_of, oZ0, oZ1, mK_wI, mK_wL, mR_wI, mR_wL, mI_wI, mI_wL, mL_wI, mL_wL, Nat.reduceEqDiff, Nat.reduceLT, Nat.reduceAdd, Nat.reduceMul, Int32.reduceLE, Int32.reduceLT, Int32.reduceAdd, Int32.reduceSub, Int32.reduceMul, Int32.reduceToNatClampNeg, x10, ↓reduceIte, sh0 hS, rf0_9 hS, sh40 hS, sh41 hS, c_within, c_isColumn, c_isSide, m_in4, m_in7, m_in1, and_self, true_and, and_true, false_and, and_false, x20, x21, x30, x31, x32, x40, x41, x42, x43, c2.1, c2.2, e10', bX8_drawn_105, c_menAt, Fr40 hS, hm', c_menAt0 (Fr40 hS) hm', c_menAt1 (Fr40 hS) hm']
          · unfold fX9_drawn
            rw [oK_of (sh45 hS), oT]
            simp (config := {implicitDefEqProofs := false}) only [oK, oR, oA_n, oA_l, oNn_of, oI_of, oJ_of, oU_of, oP_of, oB_of, oZ0, oZ1, mK_wI, mK_wL, mR_wI, mR_wL, mI_wI, mI_wL, mL_wI, mL_wL, Nat.reduceEqDiff, Nat.reduceLT, Nat.reduceAdd, Nat.reduceMul, Int32.reduceLE, Int32.reduceLT, Int32.reduceAdd, Int32.reduceSub, Int32.reduceMul, Int32.reduceToNatClampNeg, x10, ↓reduceIte, sh45 hT, rf45_52 hT, sh70 hT, c_within, c_isColumn, c_isSide, m_in4, m_in7, m_in1, and_self, true_and, and_true, false_and, and_false, x20, x21, x30, x31, x32, x40, x41, x42, x43, c2.1, c2.2, e53', bX9_drawn_39, bX9_drawn_90, show ((23 : Int32) - 4) = nI 19 from rfl, ei, el, clm (show 19 + m < 2147483648 by omega)]
            rw [ev]; rfl
        · refine hno ?_ ?_
          · show fX8_drawn u 0 k 2 = _
            simp (config := {implicitDefEqProofs := false}) only [fX8_drawn, bX8_drawn_21, bX8_drawn_20, bX8_drawn_42, bX8_drawn_43, oK, oR, oA_n, oA_l, oNn_of, oI_of, oJ_of, oU_of, oP_of, oB_of, oZ0, oZ1, mK_wI, mK_wL, mR_wI, mR_wL, mI_wI, mI_wL, mL_wI, mL_wL, Nat.reduceEqDiff, Nat.reduceLT, Nat.reduceAdd, Nat.reduceMul, Int32.reduceLE, Int32.reduceLT, Int32.reduceAdd, Int32.reduceSub, Int32.reduceMul, Int32.reduceToNatClampNeg, x10, ↓reduceIte, sh0 hS, c_within, c_isColumn, c_isSide, m_in4, m_in7, m_in1, and_self, true_and, and_true, false_and, and_false, x20, x21, x30, x31, x32, x40, x41, x42, x43, c2, e10']
          · show fX9_drawn u 45 k 2 = _
            unfold fX9_drawn
            rw [oK_of (sh45 hS), oT]
            simp (config := {implicitDefEqProofs := false}) only [oK, oR, oA_n, oA_l, oNn_of, oI_of, oJ_of, oU_of, oP_of, oB_of, oZ0, oZ1, mK_wI, mK_wL, mR_wI, mR_wL, mI_wI, mI_wL, mL_wI, mL_wL, Nat.reduceEqDiff, Nat.reduceLT, Nat.reduceAdd, Nat.reduceMul, Int32.reduceLE, Int32.reduceLT, Int32.reduceAdd, Int32.reduceSub, Int32.reduceMul, Int32.reduceToNatClampNeg, x10, ↓reduceIte, sh45 hT, c_within, c_isColumn, c_isSide, m_in4, m_in7, m_in1, and_self, true_and, and_true, false_and, and_false, x20, x21, x30, x31, x32, x40, x41, x42, x43, c2, e53', bX9_drawn_39]
      · show ∃ r u1 u2, fX8_drawn u 0 k 3 = some (r, u1) ∧ (mK u1 45).1 = 9 ∧ fX9_drawn u1 45 k 3 = some (r, u2) ∧ Rel LR u2
        by_cases c2 : 0 ≤ k ∧ k ≤ 1
        · obtain ⟨m, hm, rfl⟩ := nIof (n := 1) 1 (by decide) c2
          have hm' : m < 2 := by omega
          have ei : nI 27 + nI m = nI (27 + m) := nI_add 27 m
          have el : 27 + m < 31 := by omega
          have ev : mI u 41 (24 + m) = mI u 70 (27 + m) := (d1 (24 + m) (by omega)).trans (by congr 1; omega)
          refine ⟨_, _, _, (?_ : _ = some (mI u 41 (24 + m), u)), hR45_Rel hS, (?_ : _ = some (mI u 41 (24 + m), mT u)), Rel_mT hF h⟩
          · simp (config := {implicitDefEqProofs := false}) only [fX8_drawn, bX8_drawn_21, bX8_drawn_20, bX8_drawn_42, bX8_drawn_43, bX8_drawn_65, oK, oR, oA_n, oA_l, oNn_of, oI_of, oJ_of, oU_of, oP_of, oB_of, oZ0, oZ1, mK_wI, mK_wL, mR_wI, mR_wL, mI_wI, mI_wL, mL_wI, mL_wL, Nat.reduceEqDiff, Nat.reduceLT, Nat.reduceAdd, Nat.reduceMul, Int32.reduceLE, Int32.reduceLT, Int32.reduceAdd, Int32.reduceSub, Int32.reduceMul, Int32.reduceToNatClampNeg, x10, ↓reduceIte, sh0 hS, rf0_9 hS, sh40 hS, sh41 hS, c_within, c_isColumn, c_isSide, m_in4, m_in7, m_in1, and_self, true_and, and_true, false_and, and_false, x20, x21, x30, x31, x32, x40, x41, x42, x43, c2.1, c2.2, e10', bX8_drawn_105, c_supplyOf, Fr40 hS, hm']
          · unfold fX9_drawn
            rw [oK_of (sh45 hS), oT]
            simp (config := {implicitDefEqProofs := false}) only [oK, oR, oA_n, oA_l, oNn_of, oI_of, oJ_of, oU_of, oP_of, oB_of, oZ0, oZ1, mK_wI, mK_wL, mR_wI, mR_wL, mI_wI, mI_wL, mL_wI, mL_wL, Nat.reduceEqDiff, Nat.reduceLT, Nat.reduceAdd, Nat.reduceMul, Int32.reduceLE, Int32.reduceLT, Int32.reduceAdd, Int32.reduceSub, Int32.reduceMul, Int32.reduceToNatClampNeg, x10, ↓reduceIte, sh45 hT, rf45_52 hT, sh70 hT, c_within, c_isColumn, c_isSide, m_in4, m_in7, m_in1, and_self, true_and, and_true, false_and, and_false, x20, x21, x30, x31, x32, x40, x41, x42, x43, c2.1, c2.2, e53', bX9_drawn_39, bX9_drawn_90, show ((31 : Int32) - 4) = nI 27 from rfl, ei, el, clm (show 27 + m < 2147483648 by omega)]
            rw [ev]; rfl
        · refine hno ?_ ?_
          · show fX8_drawn u 0 k 3 = _
            simp (config := {implicitDefEqProofs := false}) only [fX8_drawn, bX8_drawn_21, bX8_drawn_20, bX8_drawn_42, bX8_drawn_43, oK, oR, oA_n, oA_l, oNn_of, oI_of, oJ_of, oU_of, oP_of, oB_of, oZ0, oZ1, mK_wI, mK_wL, mR_wI, mR_wL, mI_wI, mI_wL, mL_wI, mL_wL, Nat.reduceEqDiff, Nat.reduceLT, Nat.reduceAdd, Nat.reduceMul, Int32.reduceLE, Int32.reduceLT, Int32.reduceAdd, Int32.reduceSub, Int32.reduceMul, Int32.reduceToNatClampNeg, x10, ↓reduceIte, sh0 hS, c_within, c_isColumn, c_isSide, m_in4, m_in7, m_in1, and_self, true_and, and_true, false_and, and_false, x20, x21, x30, x31, x32, x40, x41, x42, x43, c2, e10']
          · show fX9_drawn u 45 k 3 = _
            unfold fX9_drawn
            rw [oK_of (sh45 hS), oT]
            simp (config := {implicitDefEqProofs := false}) only [oK, oR, oA_n, oA_l, oNn_of, oI_of, oJ_of, oU_of, oP_of, oB_of, oZ0, oZ1, mK_wI, mK_wL, mR_wI, mR_wL, mI_wI, mI_wL, mL_wI, mL_wL, Nat.reduceEqDiff, Nat.reduceLT, Nat.reduceAdd, Nat.reduceMul, Int32.reduceLE, Int32.reduceLT, Int32.reduceAdd, Int32.reduceSub, Int32.reduceMul, Int32.reduceToNatClampNeg, x10, ↓reduceIte, sh45 hT, c_within, c_isColumn, c_isSide, m_in4, m_in7, m_in1, and_self, true_and, and_true, false_and, and_false, x20, x21, x30, x31, x32, x40, x41, x42, x43, c2, e53', bX9_drawn_39]
      · show ∃ r u1 u2, fX8_drawn u 0 k 4 = some (r, u1) ∧ (mK u1 45).1 = 9 ∧ fX9_drawn u1 45 k 4 = some (r, u2) ∧ Rel LR u2
        by_cases c2 : 0 ≤ k ∧ k ≤ 1
        · obtain ⟨m, hm, rfl⟩ := nIof (n := 1) 1 (by decide) c2
          have hm' : m < 2 := by omega
          have ei : nI 29 + nI m = nI (29 + m) := nI_add 29 m
          have el : 29 + m < 31 := by omega
          have ev : mI u 41 (26 + m) = mI u 70 (29 + m) := (d1 (26 + m) (by omega)).trans (by congr 1; omega)
          refine ⟨_, _, _, (?_ : _ = some (mI u 41 (26 + m), u)), hR45_Rel hS, (?_ : _ = some (mI u 41 (26 + m), mT u)), Rel_mT hF h⟩
          · simp (config := {implicitDefEqProofs := false}) only [fX8_drawn, bX8_drawn_21, bX8_drawn_20, bX8_drawn_42, bX8_drawn_43, bX8_drawn_65, oK, oR, oA_n, oA_l, oNn_of, oI_of, oJ_of, oU_of, oP_of, oB_of, oZ0, oZ1, mK_wI, mK_wL, mR_wI, mR_wL, mI_wI, mI_wL, mL_wI, mL_wL, Nat.reduceEqDiff, Nat.reduceLT, Nat.reduceAdd, Nat.reduceMul, Int32.reduceLE, Int32.reduceLT, Int32.reduceAdd, Int32.reduceSub, Int32.reduceMul, Int32.reduceToNatClampNeg, x10, ↓reduceIte, sh0 hS, rf0_9 hS, sh40 hS, sh41 hS, c_within, c_isColumn, c_isSide, m_in4, m_in7, m_in1, and_self, true_and, and_true, false_and, and_false, x20, x21, x30, x31, x32, x40, x41, x42, x43, c2.1, c2.2, e10', bX8_drawn_105, c_temperOf, Fr40 hS, hm']
          · unfold fX9_drawn
            rw [oK_of (sh45 hS), oT]
            simp (config := {implicitDefEqProofs := false}) only [oK, oR, oA_n, oA_l, oNn_of, oI_of, oJ_of, oU_of, oP_of, oB_of, oZ0, oZ1, mK_wI, mK_wL, mR_wI, mR_wL, mI_wI, mI_wL, mL_wI, mL_wL, Nat.reduceEqDiff, Nat.reduceLT, Nat.reduceAdd, Nat.reduceMul, Int32.reduceLE, Int32.reduceLT, Int32.reduceAdd, Int32.reduceSub, Int32.reduceMul, Int32.reduceToNatClampNeg, x10, ↓reduceIte, sh45 hT, rf45_52 hT, sh70 hT, c_within, c_isColumn, c_isSide, m_in4, m_in7, m_in1, and_self, true_and, and_true, false_and, and_false, x20, x21, x30, x31, x32, x40, x41, x42, x43, c2.1, c2.2, e53', bX9_drawn_39, bX9_drawn_90, show ((33 : Int32) - 4) = nI 29 from rfl, ei, el, clm (show 29 + m < 2147483648 by omega)]
            rw [ev]; rfl
        · refine hno ?_ ?_
          · show fX8_drawn u 0 k 4 = _
            simp (config := {implicitDefEqProofs := false}) only [fX8_drawn, bX8_drawn_21, bX8_drawn_20, bX8_drawn_42, bX8_drawn_43, oK, oR, oA_n, oA_l, oNn_of, oI_of, oJ_of, oU_of, oP_of, oB_of, oZ0, oZ1, mK_wI, mK_wL, mR_wI, mR_wL, mI_wI, mI_wL, mL_wI, mL_wL, Nat.reduceEqDiff, Nat.reduceLT, Nat.reduceAdd, Nat.reduceMul, Int32.reduceLE, Int32.reduceLT, Int32.reduceAdd, Int32.reduceSub, Int32.reduceMul, Int32.reduceToNatClampNeg, x10, ↓reduceIte, sh0 hS, c_within, c_isColumn, c_isSide, m_in4, m_in7, m_in1, and_self, true_and, and_true, false_and, and_false, x20, x21, x30, x31, x32, x40, x41, x42, x43, c2, e10']
          · show fX9_drawn u 45 k 4 = _
            unfold fX9_drawn
            rw [oK_of (sh45 hS), oT]
            simp (config := {implicitDefEqProofs := false}) only [oK, oR, oA_n, oA_l, oNn_of, oI_of, oJ_of, oU_of, oP_of, oB_of, oZ0, oZ1, mK_wI, mK_wL, mR_wI, mR_wL, mI_wI, mI_wL, mL_wI, mL_wL, Nat.reduceEqDiff, Nat.reduceLT, Nat.reduceAdd, Nat.reduceMul, Int32.reduceLE, Int32.reduceLT, Int32.reduceAdd, Int32.reduceSub, Int32.reduceMul, Int32.reduceToNatClampNeg, x10, ↓reduceIte, sh45 hT, c_within, c_isColumn, c_isSide, m_in4, m_in7, m_in1, and_self, true_and, and_true, false_and, and_false, x20, x21, x30, x31, x32, x40, x41, x42, x43, c2, e53', bX9_drawn_39]
  · refine hno ?_ ?_
    · have q1 : ¬ (0 ≤ x ∧ x ≤ 2) := fun z => q ⟨z.1, Int32.le_trans z.2 (by decide)⟩
      have q2 : ¬ (3 ≤ x ∧ x ≤ 4) := fun z => q ⟨Int32.le_trans (by decide) z.1, z.2⟩
      unfold fX8_drawn bX8_drawn_20 bX8_drawn_21 bX8_drawn_42 bX8_drawn_43
      rw [c_within, oB_of, if_neg q1, if_pos rfl, c_within, oB_of, if_neg q2, if_pos rfl, oK_of (sh0 hS), oI_of, if_pos rfl, if_pos rfl]
      split <;> rfl
    · unfold fX9_drawn
      rw [oK_of (sh45 hS), oT, oK_of (sh45 hT), oI_of, m_in4, oB_of, if_neg q, if_pos rfl]
      split <;> rfl
