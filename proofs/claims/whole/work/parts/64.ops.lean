/-! ===== joints for the calls that set ===== -/
def rl (row row' : Nat → Int32) : Prop := row' 2 = row 2 ∧ ∀ i, 130 ≤ i → row' i = row i
set_option maxRecDepth 100000 in
theorem rl0 {row : Nat → Int32} : rl row row := ⟨rfl, fun _ _ => rfl⟩
set_option maxRecDepth 100000 in
theorem rlu {row row' : Nat → Int32} {p : Nat} {v : Int32} (h : rl row row') (hp : p < 127) (h2 : p ≠ 2) : rl row (upd row' p v) := ⟨by rw [pk_un (Ne.symm h2)]; exact h.1, fun i hi => by rw [pk_un (by omega)]; exact h.2 i hi⟩
set_option maxRecDepth 100000 in
theorem Rel_put {LR : Mm → Prop} (hF : LRf LR) {u u2 : Mm} (h : Rel LR u) (hN : mQ u2 = mQ u) (hK : mK u2 = mK u) (hR : mR u2 = mR u) (hhi : ∀ a, 71 ≤ a → mI u2 a = mI u a) (hb : Rbk (fun j => mI u2 (1 + j)) (mI u2 47)) (hrow : rl (mI u 47) (mI u2 47)) (h48 : mI u2 48 = mI u 48) (h49 : mI u2 49 = mI u 49)
    (hmi : Rmi (mI u2 0) (mI u2 45) (mI u2 44) (mI u2 46)) (hta : Rta (mI u2 42) (mI u2 54)) (hde : Rde (mI u2 0) (mI u2 41) (mI u2 70)) (hpa : Rpa (mI u2 30) (mI u2 31) (mI u2 32) (mI u2 45) (mI u2 50) (mI u2 51) (mI u2 47)) : Rel LR u2 := by
  refine ⟨?_, hb, hmi, hta, hde, hpa, hF u u2 h.2.2.2.2.2.2 hN hK hR hhi ?_ hrow.1 hrow.2 h48 h49⟩
  · have h1 := h.1
    unfold hSh at h1 ⊢
    rw [hN, hK, hR]
    exact h1
  · have e1 : mI u2 47 2 = mI u2 1 14 := hb.1 2 (by decide)
    have e2 : mI u 47 2 = mI u 1 14 := h.2.1.1 2 (by decide)
    rw [← e1, ← e2, hrow.1]
set_option maxRecDepth 100000 in
/-- both refuse -/
theorem Rel_re {LR : Mm → Prop} (hF : LRf LR) {u : Mm} (h : Rel LR u) {x : Int32} {k : Nat} (hk : k < 6) : Rel LR (mRe (mT (cRe u x k)) x (k + 1)) := by
  refine Rel_put hF h rfl rfl rfl (fun a ha => ?_) (Rbk_eq h.2.1 (fun j hj => ?_) (fun _ _ => rfl)) rl0 rfl rfl (Rmi_re (Rmi_upd h.2.2.1 (by decide)) hk) h.2.2.2.1 h.2.2.2.2.1 (Rpa_upd (Rpa_upd h.2.2.2.2.2.1 (by decide)) (by decide))
  · unfold mRe mT cRe; simp only [mI_wI]; repeat rw [if_neg (by omega)]
  · unfold mRe mT cRe; simp only [mI_wI]; repeat rw [if_neg (by omega)]
set_option maxRecDepth 100000 in
theorem s8 {LR : Mm → Prop} (hF : LRf LR) : hwS_8 (Rel LR) := by
  intro x u h
  have hS := h.1
  have e5 := h.2.2.1.2.2.2.2.1
  by_cases c : 0 ≤ x ∧ x ≤ mI u 0 12
  · refine ⟨x, (wI u 0 (upd (mI u 0) 12 x)), (wI (mT (wI u 0 (upd (mI u 0) 12 x))) 45 (upd (mI (mT (wI u 0 (upd (mI u 0) 12 x))) 45) 13 x)), ?_, (hR45_Rel hS), ?_, ?_⟩
    · show fX8_end u 0 x = _
      unfold fX8_end; rw [oK_of (sh0 hS), oI_of, c_within, oB_of, if_pos c, if_neg (by decide), oK_of (sh0 hS), oU_of]
    · show fX9_end _ 45 x = _
      have c2 := c.2
      rw [e5] at c2
      simp [fX9_end, oNn_of, oI_of, oJ_of, oU_of, oB_of, mK_wI, mK_wL, mR_wI, mR_wL, oK, oR, if_true, sh45 hS, Int32.not_lt.mpr c.1, mI_wI, upd_at, c2, mT]
    · have hr := h.2.2.1.2.2.2.2.2.2.1
      refine Rel_put hF h rfl rfl rfl (fun a ha => ?_) (Rbk_eq h.2.1 (fun j hj => ?_) (fun _ _ => rfl)) rl0 rfl rfl ?_ h.2.2.2.1 h.2.2.2.2.1 (Rpa_upd (Rpa_upd h.2.2.2.2.2.1 (by decide)) (by decide))
      · unfold mT; simp only [mI_wI]; repeat rw [if_neg (by omega)]
      · unfold mT; simp only [mI_wI]; repeat rw [if_neg (by omega)]
      · obtain ⟨h1, h2, h3, h4, h5, h6, h7, h8, h9, h10⟩ := h.2.2.1
        refine ⟨h1, h2, h3, h4, rfl, h6, ?_, h8, h9, h10⟩
        show rg x 0 400
        unfold rg at hr ⊢
        have k1 := Int32.le_iff_toInt_le.mp c.1
        have k2 := Int32.le_iff_toInt_le.mp c.2
        have k3 : (0 : Int32).toInt = 0 := by decide
        omega
  · refine ⟨(-1), u, (mT u), ?_, (hR45_Rel hS), ?_, (Rel_mT hF h)⟩
    · show fX8_end u 0 x = _
      simp [fX8_end, oNn_of, oI_of, oJ_of, oU_of, oB_of, mK_wI, mK_wL, mR_wI, mR_wL, oK, oR, if_true, sh0 hS, c_within, c]
    · show fX9_end _ 45 x = _
      by_cases c1 : x < 0
      · simp [fX9_end, oNn_of, oI_of, oJ_of, oU_of, oB_of, mK_wI, mK_wL, mR_wI, mR_wL, oK, oR, if_true, sh45 hS, mI_wI, mT, c1]
      · have c2 : ¬ x ≤ mI u 45 13 := fun q => c ⟨Int32.not_lt.mp c1, by rw [e5]; exact q⟩
        simp [fX9_end, oNn_of, oI_of, oJ_of, oU_of, oB_of, mK_wI, mK_wL, mR_wI, mR_wL, oK, oR, if_true, sh45 hS, mI_wI, mT, c1, upd_at, c2]

set_option maxRecDepth 100000 in
theorem rl3 {LR : Mm → Prop} {u : Mm} (h : Rel LR u) : rg (mI u 47 3) (-1) 5 ∧ (mI u 47 3).toInt < (mI u 47 2).toInt ∧ rg (mI u 47 2) 0 6 := ⟨h.2.1.2.1 3 (by decide), h.2.1.2.2, h.2.1.2.1 2 (by decide)⟩
set_option maxRecDepth 100000 in
theorem c_hasLaw {u : Mm} (h : hSh u) (x : Int32) : fX0_hasLaw u 1 x = some (if 0 ≤ x ∧ x < mI u 1 14 then 1 else 0, u) := by
  unfold fX0_hasLaw bX0_hasLaw_17
  by_cases c : x < 0
  · rw [if_pos c, oZ0, if_neg (fun q => absurd q.1 (Int32.not_le.mpr c))]
  · rw [if_neg c, oK_of (sh1 h), oI_of]
    by_cases c2 : mI u 1 14 ≤ x
    · rw [if_pos c2, oZ0, if_neg (fun q => absurd q.2 (Int32.not_lt.mpr c2))]
    · rw [if_neg c2, oZ1, if_pos ⟨Int32.not_lt.mp c, Int32.not_le.mp c2⟩]
set_option maxRecDepth 100000 in
theorem m_isLaw {u : Mm} (h : hSh u) (x : Int32) (hr : 0 ≤ (mI u 47 2).toInt) : fX9_isLaw u 45 x = some (if x = -1 ∨ (0 ≤ x ∧ x < mI u 47 2) then 1 else 0, u) := by
  unfold fX9_isLaw bX9_isLaw_28 bX9_isLaw_23 bX9_isLaw_28
  by_cases c : x = -1
  · rw [if_pos c, oZ1, if_pos (Or.inl c)]
  · rw [if_neg c, oK_of (sh45 h), rf45_3 h, oNn_of, oA_of (sh47 h) (by decide) (by decide), oI_of, m_in, oB_of]
    have e : (0 ≤ x.toInt64 ∧ x.toInt64 ≤ (mI u 47 (Int32.toNatClampNeg 2)).toInt64 - 1) ↔ (0 ≤ x ∧ x < mI u 47 2) := by
      have e2 : (Int32.toNatClampNeg 2) = 2 := by decide
      rw [e2]
      simp only [Int64.le_iff_toInt_le, Int32.le_iff_toInt_le, Int32.lt_iff_toInt_lt, Int64.toInt_sub, Int32.toInt_toInt64]
      have k1 : (0 : Int64).toInt = 0 := by decide
      have k2 : (0 : Int32).toInt = 0 := by decide
      have k3 : (1 : Int64).toInt = 1 := by decide
      have k4 := Int32.toInt_lt (mI u 47 2)
      have k5 := Int32.le_toInt (mI u 47 2)
      rw [k1, k2, k3, Int.bmod_def]
      split <;> omega
    by_cases c2 : 0 ≤ x ∧ x < mI u 47 2
    · rw [if_pos (e.mpr c2), if_neg (by decide), oZ1, if_pos (Or.inr c2)]
    · rw [if_neg (fun q => c2 (e.mp q)), if_pos rfl, oZ0, if_neg (fun q => q.elim c c2)]
set_option maxRecDepth 100000 in
theorem m_change {u : Mm} (h : hSh u) (n : Nat) (hn : n < 5530) (v : Int32) : fX9_change u 45 (nI n) v = some (mI u 47 n, wI (wI u 47 (upd (mI u 47) n v)) 45 (upd (mI u 45) 1 0)) := by
  have k0 : 0 ≤ nI n := nI_pos' (by omega)
  have k1 : (nI n).toNatClampNeg = n := nI_clamp (by omega)
  have h1 : hSh (wI u 47 (upd (mI u 47) n v)) := h
  unfold fX9_change
  rw [oK_of (sh45 h), rf45_3 h, oNn_of, oA_of (sh47 h) k0 (by rw [k1]; exact hn), oI_of, oK_of (sh45 h), oNn_of, oA_of (sh47 h) k0 (by rw [k1]; exact hn), oU_of, k1, oK_of (sh45 h1), oU_of]
  rfl
set_option maxRecDepth 100000 in
theorem oT {ρ : Type} {u : Mm} {F : Mm → Option ρ} : oU (wI u 45 (upd (mI u 45) 0 0)) F = F (mT u) := rfl
set_option maxRecDepth 100000 in
theorem m_force_ok {u : Mm} (h : hSh u) (x : Int32) (hr : 0 ≤ (mI u 47 2).toInt) (c : x = -1 ∨ (0 ≤ x ∧ x < mI u 47 2)) : fX9_force u 45 x = some (mI u 47 3, wI (wI (mT u) 47 (upd (mI u 47) 3 x)) 45 (upd (mI (mT u) 45) 1 0)) := by
  have h1 : hSh (mT u) := h
  unfold fX9_force bX9_force_28
  rw [oK_of (sh45 h), oT, oR_of (sh45 h1), m_isLaw h1 x hr, oB_of, if_pos (show x = -1 ∨ (0 ≤ x ∧ x < mI (mT u) 47 2) from c), if_neg (by decide), oR_of (sh45 h1), show (3 : Int32) = nI 3 from rfl, m_change h1 3 (by decide), oB_of]
  rfl
set_option maxRecDepth 100000 in
theorem m_force_no {u : Mm} (h : hSh u) (x : Int32) (hr : 0 ≤ (mI u 47 2).toInt) (c : ¬ (x = -1 ∨ (0 ≤ x ∧ x < mI u 47 2))) : fX9_force u 45 x = some (-2, mRe (mT u) (-2) 2) := by
  have h1 : hSh (mT u) := h
  unfold fX9_force bX9_force_28
  rw [oK_of (sh45 h), oT, oR_of (sh45 h1), m_isLaw h1 x hr, oB_of, if_neg (show ¬ (x = -1 ∨ (0 ≤ x ∧ x < mI (mT u) 47 2)) from c), if_pos rfl, oR_of (sh45 h1), m_refuse h1 (-2) 2 (by decide), oB_of]
set_option maxRecDepth 100000 in
theorem s15 {LR : Mm → Prop} (hF : LRf LR) : hwS_15 (Rel LR) := by
  intro x u h
  have hS := h.1
  obtain ⟨r1, r2, r3⟩ := rl3 h
  by_cases c : x = -1 ∨ (0 ≤ x ∧ x < mI u 47 2)
  · have hc : fX8_force u 0 x = some (mI u 1 15, wI (wI u 1 (upd (mI u 1) 15 x)) 0 (upd (mI u 0) 18 0)) := by
      have h2 : hSh (wI u 1 (upd (mI u 1) 15 x)) := hS
      have e : bX8_force_23 u 0 x = some (mI u 1 15, wI (wI u 1 (upd (mI u 1) 15 x)) 0 (upd (mI u 0) 18 0)) := by
        unfold bX8_force_23
        rw [oK_of (sh0 hS), rf0_0 hS, oNn_of, oK_of (sh1 hS), oI_of, oK_of (sh0 hS), oNn_of, oK_of (sh1 hS), oU_of, oR_of (sh0 h2), c_accept h2, oB_of]
        rfl
      unfold fX8_force
      rcases c with c | c
      · rw [if_pos c, e]
      · have c' := c
        rw [rw2 h] at c
        by_cases q : x = -1
        · rw [if_pos q, e]
        · rw [if_neg q, oK_of (sh0 hS), rf0_0 hS, oNn_of, oR_of (sh1 hS), c_hasLaw hS, oB_of, if_pos c, if_neg (by decide), e]
    have hm := m_force_ok (u := wI (wI u 1 (upd (mI u 1) 15 x)) 0 (upd (mI u 0) 18 0)) hS x r3.1 c
    rw [show mI (wI (wI u 1 (upd (mI u 1) 15 x)) 0 (upd (mI u 0) 18 0)) 47 3 = mI u 1 15 from rw3 h] at hm
    refine ⟨_, _, _, hc, hR45_Rel hS, hm, ?_⟩
    refine Rel_put hF h rfl rfl rfl (fun a ha => ?_) (Rbk_eq (bk := bset (fun j => mI u (1 + j)) 0 15 x) (row := upd (mI u 47) 3 x) ⟨cls_set h.2.1.1 (by decide) rfl, Rrg_set h.2.1.2 ?_ ?_⟩ (fun j hj => ?_) (fun _ _ => rfl)) (rlu rl0 (by decide) (by decide)) rfl rfl (Rmi_ok (Rmi_upd h.2.2.1 (by decide))) h.2.2.2.1 h.2.2.2.2.1 (Rpa_row (Rpa_upd (Rpa_upd h.2.2.2.2.2.1 (by decide)) (by decide)) (by decide))
    · unfold mT; simp only [mI_wI]; repeat rw [if_neg (by omega)]
    · show rg x (-1) 5
      unfold rg at r3 ⊢
      rcases c with c | c
      · subst c; decide
      · have k1 := Int32.le_iff_toInt_le.mp c.1
        have k2 := Int32.lt_iff_toInt_lt.mp c.2
        have k3 : (0 : Int32).toInt = 0 := by decide
        omega
    · show x.toInt < (mI u 47 2).toInt
      unfold rg at r3
      rcases c with c | c
      · subst c
        have k3 : (-1 : Int32).toInt = -1 := by decide
        omega
      · exact Int32.lt_iff_toInt_lt.mp c.2
    · unfold mT bset; simp only [mI_wI]; rcases j with _ | j
      · rfl
      · repeat rw [if_neg (by omega)]
  · have c1 : ¬ x = -1 := fun q => c (Or.inl q)
    have c2 : ¬ (0 ≤ x ∧ x < mI u 47 2) := fun q => c (Or.inr q)
    refine ⟨-2, cRe u (-2) 1, mRe (mT (cRe u (-2) 1)) (-2) 2, ?_, hR45_Rel hS, ?_, Rel_re hF h (by decide)⟩
    · show fX8_force u 0 x = _
      unfold fX8_force
      have c3 := c2
      rw [rw2 h] at c3
      rw [if_neg c1, oK_of (sh0 hS), rf0_0 hS, oNn_of, oR_of (sh1 hS), c_hasLaw hS, oB_of, if_neg c3, if_pos rfl, oR_of (sh0 hS), c_refuse hS (-2) 1 (by decide), oB_of]
    · show fX9_force _ 45 x = _
      exact m_force_no (u := cRe u (-2) 1) hS x r3.1 c
