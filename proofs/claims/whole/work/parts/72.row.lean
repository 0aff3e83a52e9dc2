/-! ===== row ===== -/
abbrev okT (T : Nat → Int32) (n i : Nat) : Prop := i + 2 < n ∧ (0 ≤ T i ∧ T i ≤ 1) ∧ (0 ≤ T (i + 1) ∧ T (i + 1) ≤ 7) ∧ (0 ≤ T (i + 2) ∧ T (i + 2) ≤ 99)
def plT (T : Nat → Int32) (o i : Nat) : Nat := o + 8 * (T i).toNatClampNeg + (T (i + 1)).toNatClampNeg
def rgo (T : Nat → Int32) (n o : Nat) : Nat → Nat → (Nat → Int32) → Int32 → Int32 → (Nat → Int32) × Int32 × Int32
  | 0, _, f, c, d => (f, c, d)
  | r + 1, i, f, c, d => if n ≤ i then (f, c, d) else if okT T n i then rgo T n o r (i + 3) (upd f (plT T o i) (T (i + 2))) (c + 1) d else rgo T n o r (i + 3) f c (d + 1)
set_option maxRecDepth 100000 in
theorem c_tapeAt {u : Mm} (h : hSh u) {i : Nat} (hi : i < 400) {ρ : Type} {F : Int32 → Option ρ} : oK u 0 8 19 (oNn (mR u 0 11) (fun e => oA u e 10 (nI i) (oI (mI u e (Int32.toNatClampNeg (nI i))) F))) = F (mI u 42 i) := by
  rw [oK_of (sh0 h), rf0_11 h, oNn_of, oA_k (sh42 h) hi (by decide), oI_of, clm (by omega)]
set_option maxRecDepth 100000 in
theorem m_tapeAt {u : Mm} (h : hSh u) {i : Nat} (hi : i < 400) {ρ : Type} {F : Int32 → Option ρ} : oK u 45 9 54 (oNn (mR u 45 12) (fun e => oA u e 10 (nI i) (oI (mI u e (Int32.toNatClampNeg (nI i))) F))) = F (mI u 54 i) := by
  rw [oK_of (sh45 h), rf45_12 h, oNn_of, oA_k (sh54 h) hi (by decide), oI_of, clm (by omega)]
set_option maxRecDepth 100000 in
theorem c_tellMen {u : Mm} (h : hSh u) {n i : Nat} (hn : mI u 0 12 = nI n) (hN : n ≤ 400) (hi : i < n) : fX8_tellMen u 0 (nI i) = if okT (mI u 42) n i then some (1, wI u 3 (upd (mI u 3) (plT (mI u 42) 8 i) (mI u 42 (i + 2)))) else some (0, u) := by
  have l0 : i < 400 := by omega
  have e3 : nI i + 3 = nI (i + 3) := by rw [show (3 : Int32) = nI 3 from rfl, nI_add]
  have e2 : nI i + 2 = nI (i + 2) := by rw [show (2 : Int32) = nI 2 from rfl, nI_add]
  unfold fX8_tellMen
  rw [oK_of (sh0 h), oI_of, hn, e3, nI_1, e2]
  by_cases c0 : i + 2 < n
  · rw [if_neg (nI_nlt (by omega) (by omega)), c_tapeAt h l0, c_isSide, oB_of]
    by_cases c1 : 0 ≤ mI u 42 i ∧ mI u 42 i ≤ 1
    · rw [if_pos c1, if_neg (by decide), c_tapeAt h (by omega), c_isColumn, oB_of]
      by_cases c2 : 0 ≤ mI u 42 (i + 1) ∧ mI u 42 (i + 1) ≤ 7
      · rw [if_pos c2, if_neg (by decide), c_tapeAt h (by omega), c_within, oB_of]
        by_cases c3 : 0 ≤ mI u 42 (i + 2) ∧ mI u 42 (i + 2) ≤ 99
        · rw [if_pos c3, if_neg (by decide), oK_of (sh0 h), rf0_0 h, oNn_of, oK_of (sh1 h), rf1_0 h, oNn_of, c_tapeAt h l0, c_tapeAt h (by omega), c_tapeAt h (by omega), oR_of (sh2 h)]
          obtain ⟨s, hs, es⟩ := nIof (n := 1) 1 (by decide) c1
          obtain ⟨k, hk, ek⟩ := nIof (n := 7) 7 (by decide) c2
          rw [if_pos ⟨c0, c1, c2, c3⟩]
          unfold plT
          rw [es, ek, c_setMen (Fr2 h) (by omega) (by omega), oB_of, oZ1, clm (by omega), clm (by omega)]
        · rw [if_neg c3, if_pos rfl, if_neg (fun q => c3 q.2.2.2), oZ0]
      · rw [if_neg c2, if_pos rfl, if_neg (fun q => c2 q.2.2.1), oZ0]
    · rw [if_neg c1, if_pos rfl, if_neg (fun q => c1 q.2.1), oZ0]
  · rw [if_pos (nI_lt (by omega) (by omega)), if_neg (fun q => c0 q.1), oZ0]
set_option maxRecDepth 100000 in
theorem c_rowgo {u : Mm} (h : hSh u) {n : Nat} (hn : mI u 0 12 = nI n) (hN : n ≤ 400) {N : Nat} : ∀ (r i : Nat) (f : Nat → Int32) (c d : Int32), n ≤ i + 3 * r → i ≤ 403 →
    rX8_row_23 (N + r + 1) (wI (wI u 3 f) 0 (upd (mI u 0) 14 d)) 0 c (nI i) = some ((rgo (mI u 42) n 8 r i f c d).2.1, wI (wI (wI u 3 (rgo (mI u 42) n 8 r i f c d).1) 30 (upd (mI u 30) 3 0)) 0 (upd (upd (upd (mI u 0) 14 (rgo (mI u 42) n 8 r i f c d).2.2) 12 0) 18 0)) := by
  have fin : ∀ (M i : Nat) (f : Nat → Int32) (c d : Int32), n ≤ i → i ≤ 403 → rX8_row_23 (M + 1) (wI (wI u 3 f) 0 (upd (mI u 0) 14 d)) 0 c (nI i) = some (c, wI (wI (wI u 3 f) 30 (upd (mI u 30) 3 0)) 0 (upd (upd (upd (mI u 0) 14 d) 12 0) 18 0)) := by
    intro M i f c d hi hi2
    show bX8_row_23 _ _ 0 c (nI i) = _
    unfold bX8_row_23
    have hS : hSh (wI (wI u 3 f) 0 (upd (mI u 0) 14 d)) := h
    have hn' : mI (wI (wI u 3 f) 0 (upd (mI u 0) 14 d)) 0 12 = nI n := hn
    rw [oK_of (sh0 hS), oI_of, hn', if_pos (nI_le hi (by omega))]
    simp (config := {implicitDefEqProofs := false}) only [oK, oR, oA_n, oA_l, oNn_of, oI_of, oJ_of, oU_of, oP_of, oB_of, oZ0, oZ1, mK_wI, mK_wL, mR_wI, mR_wL, mI_wI, mI_wL, mL_wI, mL_wL, Nat.reduceEqDiff, Nat.reduceLT, Nat.reduceAdd, Nat.reduceMul, Int32.reduceLE, Int32.reduceLT, Int32.reduceAdd, Int32.reduceSub, Int32.reduceMul, Int32.reduceToNatClampNeg, x10, ↓reduceIte, sh0 h, rf0_5 h, sh30 h, fX3_clear, fX8_accept]
    rw [wI_s, wI_c (show 0 ≠ 30 by decide), wI_s]
  intro r
  induction r with
  | zero =>
    intro i f c d h1 h2
    exact fin N i f c d (by omega) h2
  | succ r ih =>
    intro i f c d h1 h2
    by_cases q : n ≤ i
    · have e : rgo (mI u 42) n 8 (r + 1) i f c d = (f, c, d) := if_pos q
      rw [e]
      exact fin (N + (r + 1)) i f c d q h2
    · have hS : hSh (wI (wI u 3 f) 0 (upd (mI u 0) 14 d)) := h
      have hn' : mI (wI (wI u 3 f) 0 (upd (mI u 0) 14 d)) 0 12 = nI n := hn
      have e3 : nI i + 3 = nI (i + 3) := by rw [show (3 : Int32) = nI 3 from rfl, nI_add]
      show bX8_row_23 (rX8_row_23 (N + r + 1)) _ 0 c (nI i) = _
      unfold bX8_row_23 bX8_row_55
      rw [oK_of (sh0 hS), oI_of, hn', if_neg (nI_ge (by omega) (by omega)), oR_of (sh0 hS), c_tellMen hS hn' hN (by omega)]
      show (oB (if okT (mI u 42) n i then some (1, wI (wI (wI u 3 f) 0 (upd (mI u 0) 14 d)) 3 (upd f (plT (mI u 42) 8 i) (mI u 42 (i + 2)))) else some (0, wI (wI u 3 f) 0 (upd (mI u 0) 14 d))) _) = _
      by_cases g : okT (mI u 42) n i
      · have e : rgo (mI u 42) n 8 (r + 1) i f c d = rgo (mI u 42) n 8 r (i + 3) (upd f (plT (mI u 42) 8 i) (mI u 42 (i + 2))) (c + 1) d := (if_neg q).trans (if_pos g)
        rw [if_pos g, oB_of, if_neg (by decide), e, e3, wI_c (show 0 ≠ 3 by decide), wI_s]
        exact ih _ _ _ _ (by omega) (by omega)
      · have e : rgo (mI u 42) n 8 (r + 1) i f c d = rgo (mI u 42) n 8 r (i + 3) f c (d + 1) := (if_neg q).trans (if_neg g)
        rw [if_neg g, oB_of, if_pos rfl, oK_of (sh0 hS), oI_of, oK_of (sh0 hS), oU_of, e, e3]
        rw [show wI (wI (wI u 3 f) 0 (upd (mI u 0) 14 d)) 0 (upd (mI (wI (wI u 3 f) 0 (upd (mI u 0) 14 d)) 0) 14 (mI (wI (wI u 3 f) 0 (upd (mI u 0) 14 d)) 0 14 + 1)) = wI (wI u 3 f) 0 (upd (mI u 0) 14 (d + 1)) from by
          rw [wI_s]
          show wI (wI u 3 f) 0 (upd (upd (mI u 0) 14 d) 14 (d + 1)) = _
          rw [upd_s]]
        exact ih _ _ _ _ (by omega) (by omega)
set_option maxRecDepth 100000 in
theorem m_rowgo {u : Mm} (h : hSh u) {n : Nat} (hN : n ≤ 400) {N : Nat} : ∀ (r i : Nat) (f : Nat → Int32) (c : Nat) (d : Int32), n ≤ i + 3 * r → i ≤ 403 → c ≤ i →
    ∃ c', c' ≤ 403 ∧ (rgo (mI u 54) n 15 r i f (nI c) d).2.1 = nI c' ∧ rX9_row_35 (N + r + 1) (wI (wI u 47 f) 45 (upd (mI u 45) 11 d)) 45 (nI n) (nI c) (nI i) = some (nI c', wI (wI u 47 (rgo (mI u 54) n 15 r i f (nI c) d).1) 45 (upd (upd (upd (mI u 45) 11 (rgo (mI u 54) n 15 r i f (nI c) d).2.2) 8 0) 1 0)) := by
  have fin : ∀ (M i c : Nat) (f : Nat → Int32) (d : Int32), n ≤ i → i ≤ 403 → c ≤ i → rX9_row_35 (M + 1) (wI (wI u 47 f) 45 (upd (mI u 45) 11 d)) 45 (nI n) (nI c) (nI i) = some (nI c, wI (wI u 47 f) 45 (upd (upd (upd (mI u 45) 11 d) 8 0) 1 0)) := by
    intro M i c f d hi hi2 hc
    show bX9_row_35 _ _ 45 (nI n) (nI c) (nI i) = _
    unfold bX9_row_35
    rw [if_pos (nI_le hi (by omega))]
    have k : 0 ≤ nI c := nI_pos' (by omega)
    simp (config := {implicitDefEqProofs := false}) only [oK, oR, oA_n, oA_l, oNn_of, oI_of, oJ_of, oU_of, oP_of, oB_of, oZ0, oZ1, mK_wI, mK_wL, mR_wI, mR_wL, mI_wI, mI_wL, mL_wI, mL_wL, Nat.reduceEqDiff, Nat.reduceLT, Nat.reduceAdd, Nat.reduceMul, Int32.reduceLE, Int32.reduceLT, Int32.reduceAdd, Int32.reduceSub, Int32.reduceMul, Int32.reduceToNatClampNeg, x10, ↓reduceIte, sh45 h, fX9_settled, bX9_settled_13, fX9_answer, bX9_answer_10, k]
    rw [wI_s, wI_s]
  intro r
  induction r with
  | zero =>
    intro i f c d h1 h2 h3
    exact ⟨c, by omega, rfl, fin N i c f d (by omega) h2 h3⟩
  | succ r ih =>
    intro i f c d h1 h2 h3
    by_cases q : n ≤ i
    · have e : rgo (mI u 54) n 15 (r + 1) i f (nI c) d = (f, nI c, d) := if_pos q
      rw [e]
      exact ⟨c, by omega, rfl, fin (N + (r + 1)) i c f d q h2 h3⟩
    · have hS : hSh (wI (wI u 47 f) 45 (upd (mI u 45) 11 d)) := h
      have e3 : nI i + 3 = nI (i + 3) := by rw [show (3 : Int32) = nI 3 from rfl, nI_add]
      have e2 : nI i + 2 = nI (i + 2) := by rw [show (2 : Int32) = nI 2 from rfl, nI_add]
      have st : okT (mI u 54) n i → rX9_row_35 (N + (r + 1) + 1) (wI (wI u 47 f) 45 (upd (mI u 45) 11 d)) 45 (nI n) (nI c) (nI i) = rX9_row_35 (N + r + 1) (wI (wI u 47 (upd f (plT (mI u 54) 15 i) (mI u 54 (i + 2)))) 45 (upd (mI u 45) 11 d)) 45 (nI n) (nI (c + 1)) (nI (i + 3)) := by
        intro ⟨c0, c1, c2, c3⟩
        show bX9_row_35 (rX9_row_35 (N + r + 1)) _ 45 (nI n) (nI c) (nI i) = _
        unfold bX9_row_35 bX9_row_142
        have c1' : 0 ≤ mI (wI (wI u 47 f) 45 (upd (mI u 45) 11 d)) 54 i ∧ mI (wI (wI u 47 f) 45 (upd (mI u 45) 11 d)) 54 i ≤ 1 := c1
        have c2' : 0 ≤ mI (wI (wI u 47 f) 45 (upd (mI u 45) 11 d)) 54 (i + 1) ∧ mI (wI (wI u 47 f) 45 (upd (mI u 45) 11 d)) 54 (i + 1) ≤ 7 := c2
        have c3' : 0 ≤ mI (wI (wI u 47 f) 45 (upd (mI u 45) 11 d)) 54 (i + 2) ∧ mI (wI (wI u 47 f) 45 (upd (mI u 45) 11 d)) 54 (i + 2) ≤ 99 := c3
        rw [nI_1, e2, e3, nI_1, if_neg (nI_ge (by omega) (by omega)), if_neg (nI_ge (by omega) (by omega)), m_tapeAt hS (by omega), m_isSide, oB_of, if_pos c1', if_neg (by decide), m_tapeAt hS (by omega), m_isEight, oB_of, if_pos c2', if_neg (by decide), m_tapeAt hS (by omega), m_inI _ _ 0 99 (l := 0) (h := 99) rfl rfl, oB_of, if_pos c3', if_neg (by decide), oK_of (sh45 hS), rf45_3 hS, oNn_of, m_tapeAt hS (by omega), m_tapeAt hS (by omega), m_tapeAt hS (by omega)]
        obtain ⟨s, hs, es⟩ := nIof (n := 1) 1 (by decide) c1'
        obtain ⟨k, hk, ek⟩ := nIof (n := 7) 7 (by decide) c2'
        rw [es, ek, ixM, oA_k (sh47 hS) (by omega) (by decide), oU_of, clm (by omega)]
        have es' : (mI u 54 i).toNatClampNeg = s := by rw [show mI u 54 i = nI s from es, clm (by omega)]
        have ek' : (mI u 54 (i + 1)).toNatClampNeg = k := by rw [show mI u 54 (i + 1) = nI k from ek, clm (by omega)]
        unfold plT
        rw [es', ek']
        show rX9_row_35 _ (wI (wI (wI u 47 f) 45 (upd (mI u 45) 11 d)) 47 (upd f (15 + 8 * s + k) (mI u 54 (i + 2)))) 45 _ _ _ = _
        rw [wI_c (show 45 ≠ 47 by decide), wI_s]
      have sn : ¬ okT (mI u 54) n i → rX9_row_35 (N + (r + 1) + 1) (wI (wI u 47 f) 45 (upd (mI u 45) 11 d)) 45 (nI n) (nI c) (nI i) = rX9_row_35 (N + r + 1) (wI (wI u 47 f) 45 (upd (mI u 45) 11 (d + 1))) 45 (nI n) (nI c) (nI (i + 3)) := by
        intro g
        show bX9_row_35 (rX9_row_35 (N + r + 1)) _ 45 (nI n) (nI c) (nI i) = _
        have fl : bX9_row_132 (rX9_row_35 (N + r + 1)) (wI (wI u 47 f) 45 (upd (mI u 45) 11 d)) 45 (nI n) (nI c) (nI i) = rX9_row_35 (N + r + 1) (wI (wI u 47 f) 45 (upd (mI u 45) 11 (d + 1))) 45 (nI n) (nI c) (nI (i + 3)) := by
          unfold bX9_row_132 bX9_row_142
          rw [oK_of (sh45 hS), oI_of, oK_of (sh45 hS), oU_of, e3, wI_s]
          show rX9_row_35 _ (wI (wI u 47 f) 45 (upd (upd (mI u 45) 11 d) 11 (d + 1))) 45 _ _ _ = _
          rw [upd_s]
        unfold bX9_row_35
        rw [nI_1, e2, if_neg (nI_ge (by omega) (by omega))]
        by_cases c0 : i + 2 < n
        · rw [if_neg (nI_ge (by omega) (by omega)), m_tapeAt hS (by omega), m_isSide, oB_of]
          by_cases c1 : 0 ≤ mI u 54 i ∧ mI u 54 i ≤ 1
          · have c1' : 0 ≤ mI (wI (wI u 47 f) 45 (upd (mI u 45) 11 d)) 54 i ∧ mI (wI (wI u 47 f) 45 (upd (mI u 45) 11 d)) 54 i ≤ 1 := c1
            rw [if_pos c1', if_neg (by decide), m_tapeAt hS (by omega), m_isEight, oB_of]
            by_cases c2 : 0 ≤ mI u 54 (i + 1) ∧ mI u 54 (i + 1) ≤ 7
            · have c2' : 0 ≤ mI (wI (wI u 47 f) 45 (upd (mI u 45) 11 d)) 54 (i + 1) ∧ mI (wI (wI u 47 f) 45 (upd (mI u 45) 11 d)) 54 (i + 1) ≤ 7 := c2
              have c3' : ¬ (0 ≤ mI (wI (wI u 47 f) 45 (upd (mI u 45) 11 d)) 54 (i + 2) ∧ mI (wI (wI u 47 f) 45 (upd (mI u 45) 11 d)) 54 (i + 2) ≤ 99) := fun q2 => g ⟨c0, c1, c2, q2⟩
              rw [if_pos c2', if_neg (by decide), m_tapeAt hS (by omega), m_inI _ _ 0 99 (l := 0) (h := 99) rfl rfl, oB_of, if_neg c3', if_pos rfl, fl]
            · have c2' : ¬ (0 ≤ mI (wI (wI u 47 f) 45 (upd (mI u 45) 11 d)) 54 (i + 1) ∧ mI (wI (wI u 47 f) 45 (upd (mI u 45) 11 d)) 54 (i + 1) ≤ 7) := c2
              rw [if_neg c2', if_pos rfl, fl]
          · have c1' : ¬ (0 ≤ mI (wI (wI u 47 f) 45 (upd (mI u 45) 11 d)) 54 i ∧ mI (wI (wI u 47 f) 45 (upd (mI u 45) 11 d)) 54 i ≤ 1) := c1
            rw [if_neg c1', if_pos rfl, fl]
        · rw [if_pos (nI_le (by omega) (by omega)), fl]
      by_cases g : okT (mI u 54) n i
      · have e : rgo (mI u 54) n 15 (r + 1) i f (nI c) d = rgo (mI u 54) n 15 r (i + 3) (upd f (plT (mI u 54) 15 i) (mI u 54 (i + 2))) (nI (c + 1)) d := (if_neg q).trans ((if_pos g).trans (by rw [nI_1]))
        rw [e, st g]
        exact ih _ _ _ _ (by omega) (by omega) (by omega)
      · have e : rgo (mI u 54) n 15 (r + 1) i f (nI c) d = rgo (mI u 54) n 15 r (i + 3) f (nI c) (d + 1) := (if_neg q).trans (if_neg g)
        rw [e, sn g]
        exact ih _ _ _ _ (by omega) (by omega) (by omega)
set_option maxRecDepth 100000 in
theorem rgo_joint {n : Nat} {bk : Nat → Nat → Int32} {T T' : Nat → Int32} (hT : ∀ j, j < n → T j = T' j) : ∀ (r i : Nat) (f row : Nat → Int32) (c d : Int32), Rbk (fun a => if a = 2 then f else bk a) row →
    (rgo T n 8 r i f c d).2 = (rgo T' n 15 r i row c d).2 ∧ Rbk (fun a => if a = 2 then (rgo T n 8 r i f c d).1 else bk a) (rgo T' n 15 r i row c d).1 ∧ rl row (rgo T' n 15 r i row c d).1 := by
  intro r
  induction r with
  | zero => intro i f row c d h; exact ⟨rfl, h, rl0⟩
  | succ r ih =>
    intro i f row c d h
    by_cases q : n ≤ i
    · have e1 : rgo T n 8 (r + 1) i f c d = (f, c, d) := if_pos q
      have e2 : rgo T' n 15 (r + 1) i row c d = (row, c, d) := if_pos q
      rw [e1, e2]
      exact ⟨rfl, h, rl0⟩
    · by_cases g : okT T n i
      · obtain ⟨c0, c1, c2, c3⟩ := g
        have t0 := hT i (by omega)
        have t1 := hT (i + 1) (by omega)
        have t2 := hT (i + 2) (by omega)
        have g' : okT T' n i := by unfold okT; rw [← t0, ← t1, ← t2]; exact ⟨c0, c1, c2, c3⟩
        have e1 : rgo T n 8 (r + 1) i f c d = rgo T n 8 r (i + 3) (upd f (plT T 8 i) (T (i + 2))) (c + 1) d := (if_neg q).trans (if_pos ⟨c0, c1, c2, c3⟩)
        have e2 : rgo T' n 15 (r + 1) i row c d = rgo T' n 15 r (i + 3) (upd row (plT T' 15 i) (T' (i + 2))) (c + 1) d := (if_neg q).trans (if_pos g')
        obtain ⟨s, hs, es⟩ := nIof (n := 1) 1 (by decide) c1
        obtain ⟨k, hk, ek⟩ := nIof (n := 7) 7 (by decide) c2
        have p1 : plT T 8 i = 8 + 8 * s + k := by unfold plT; rw [es, ek, clm (by omega), clm (by omega)]
        have p2 : plT T' 15 i = 15 + 8 * s + k := by unfold plT; rw [← t0, ← t1, es, ek, clm (by omega), clm (by omega)]
        have l1 : loc (15 + 8 * s + k) = (2, 8 + 8 * s + k) := (by decide +kernel : ∀ s, s < 2 → ∀ k, k < 8 → loc (15 + 8 * s + k) = (2, 8 + 8 * s + k)) s (by omega) k (by omega)
        have l2 : rlh (15 + 8 * s + k) = (0, 99) := (by decide +kernel : ∀ s, s < 2 → ∀ k, k < 8 → rlh (15 + 8 * s + k) = (0, 99)) s (by omega) k (by omega)
        rw [e1, e2, p1, p2, ← t2]
        have hb := Rbk_set 2 (8 + 8 * s + k) (p := 15 + 8 * s + k) (v := T (i + 2)) h l1 (by rw [l2]; exact rgI rfl rfl c3) (by omega) (by omega)
        have hb2 : Rbk (fun a => if a = 2 then upd f (8 + 8 * s + k) (T (i + 2)) else bk a) (upd row (15 + 8 * s + k) (T (i + 2))) := by
          refine Rbk_eq hb (fun j _ => ?_) (fun _ _ => rfl)
          unfold bset
          by_cases z : j = 2
          · subst z; rfl
          · rw [if_neg z, if_neg z]; exact (if_neg z).symm
        obtain ⟨r1, r2, r3⟩ := ih (i + 3) _ _ (c + 1) d hb2
        exact ⟨r1, r2, ⟨by rw [r3.1, pk_un (by omega)], fun j hj => by rw [r3.2 j hj, pk_un (by omega)]⟩⟩
      · have g' : ¬ okT T' n i := by
          intro z
          obtain ⟨c0, c1, c2, c3⟩ := z
          rw [← hT i (by omega)] at c1
          rw [← hT (i + 1) (by omega)] at c2
          rw [← hT (i + 2) (by omega)] at c3
          exact g ⟨c0, c1, c2, c3⟩
        have e1 : rgo T n 8 (r + 1) i f c d = rgo T n 8 r (i + 3) f c (d + 1) := (if_neg q).trans (if_neg g)
        have e2 : rgo T' n 15 (r + 1) i row c d = rgo T' n 15 r (i + 3) row c (d + 1) := (if_neg q).trans (if_neg g')
        rw [e1, e2]
        exact ih (i + 3) f row c (d + 1) h
set_option maxRecDepth 100000 in
theorem c_row {u : Mm} (hS : hSh u) {n : Nat} (e12 : mI u 0 12 = nI n) (hn : n ≤ 400) (h0 : n ≠ 0) : fX8_row u 0 = some ((rgo (mI u 42) n 8 134 0 (mI u 3) 0 0).2.1, wI (wI (wI u 3 (rgo (mI u 42) n 8 134 0 (mI u 3) 0 0).1) 30 (upd (mI u 30) 3 0)) 0 (upd (upd (upd (mI u 0) 14 (rgo (mI u 42) n 8 134 0 (mI u 3) 0 0).2.2) 12 0) 18 0)) := by
  unfold fX8_row
  rw [oK_of (sh0 hS), oI_of, e12, if_neg (nI_ne0 (by omega) (by omega)), oK_of (sh0 hS), oU_of]
  have z := c_rowgo hS e12 hn (N := 999865) 134 0 (mI u 3) 0 0 (by omega) (by omega)
  rw [wI_id] at z
  exact z
set_option maxRecDepth 100000 in
theorem m_row {u : Mm} (hS : hSh u) {n : Nat} (e13 : mI u 45 13 = nI n) (hn : n ≤ 400) (h0 : n ≠ 0) : ∃ c', (rgo (mI u 54) n 15 134 0 (mI u 47) 0 0).2.1 = nI c' ∧ fX9_row u 45 = some (nI c', wI (wI (wI (mT u) 45 (upd (mI (mT u) 45) 13 0)) 47 (rgo (mI u 54) n 15 134 0 (mI u 47) 0 0).1) 45 (upd (upd (upd (upd (mI (mT u) 45) 13 0) 11 (rgo (mI u 54) n 15 134 0 (mI u 47) 0 0).2.2) 8 0) 1 0)) := by
  have hT : hSh (mT u) := hS
  have e13' : mI (mT u) 45 13 = nI n := e13
  obtain ⟨c', -, ec, z⟩ := m_rowgo (u := wI (mT u) 45 (upd (mI (mT u) 45) 13 0)) hS hn (N := 999865) 134 0 (mI u 47) 0 0 (by omega) (by omega) (by omega)
  refine ⟨c', ec, ?_⟩
  unfold fX9_row
  rw [oK_of (sh45 hS), oT, oK_of (sh45 hT), oI_of, oK_of (sh45 hT), oU_of, e13', if_neg (nI_ne0 (by omega) (by omega)), oK_of (sh45 (hSh_wI hT)), oU_of]
  rw [show wI (wI (mT u) 45 (upd (mI (mT u) 45) 13 0)) 47 (mI u 47) = wI (mT u) 45 (upd (mI (mT u) 45) 13 0) from wI_id] at z
  exact z
set_option maxRecDepth 100000 in
theorem s9 {LR : Mm → Prop} (hF : LRf LR) : hwS_9 (Rel LR) := by
  intro u h
  have hS := h.1
  have e5 := h.2.2.1.2.2.2.2.1
  obtain ⟨n, hn, e12⟩ := rg_nI (M := 400) h.2.2.1.2.2.2.2.2.2.1 (by decide)
  have e13 := e12
  rw [e5] at e13
  have hT1 : hSh (mT u) := hS
  by_cases h0 : n = 0
  · subst h0
    refine ⟨-6, cRe u (-6) 5, mRe (wI (mT (cRe u (-6) 5)) 45 (upd (mI (mT (cRe u (-6) 5)) 45) 13 0)) (-6) 6, ?_, hR45_Rel hS, ?_, ?_⟩
    · show fX8_row u 0 = _
      unfold fX8_row
      rw [oK_of (sh0 hS), oI_of, e12, if_pos (by decide), oR_of (sh0 hS), c_refuse hS (-6) 5 (by decide), oB_of]
    · have hv : hSh (mT (cRe u (-6) 5)) := hS
      have ev : mI (mT (cRe u (-6) 5)) 45 13 = nI 0 := e13
      show fX9_row (cRe u (-6) 5) 45 = _
      unfold fX9_row
      rw [oK_of (sh45 (show hSh (cRe u (-6) 5) from hS)), oT, oK_of (sh45 hv), oI_of, oK_of (sh45 hv), oU_of, ev, if_pos (by decide), oR_of (sh45 (hSh_wI hv)), m_refuse (hSh_wI hv) (-6) 6 (by decide), oB_of]
    · refine Rel_put hF h rfl rfl rfl (fun a ha => ?_) (Rbk_eq h.2.1 (fun j hj => ?_) (fun _ _ => rfl)) rl0 rfl rfl ?_ h.2.2.2.1 h.2.2.2.2.1 (Rpa_upd (k := 1) (Rpa_upd (k := 13) (Rpa_upd (k := 0) h.2.2.2.2.2.1 (by decide)) (by decide)) (by decide))
      · unfold mRe mT cRe; simp only [mI_wI]; repeat rw [if_neg (by omega)]
      · unfold mRe mT cRe; simp only [mI_wI]; repeat rw [if_neg (by omega)]
      · have q : upd (upd (mI u 45) 0 0) 13 0 = upd (mI u 45) 0 0 := upd_id (by rw [pk_un (by decide)]; exact e13)
        have g := Rmi_re (k := 5) (x := -6) (Rmi_upd (k := 0) (x := 0) h.2.2.1 (by decide)) (by decide)
        rw [← q] at g
        exact g
  · have c0 : ¬ nI n = 0 := nI_ne0 (by omega) (by omega)
    have hbk : Rbk (fun a => if a = 2 then mI u 3 else mI u (1 + a)) (mI u 47) := Rbk_eq h.2.1 (fun j _ => by
      by_cases z : j = 2
      · subst z; rfl
      · rw [if_neg z]) (fun _ _ => rfl)
    obtain ⟨r1, r2, r3⟩ := rgo_joint (n := n) (bk := fun a => mI u (1 + a)) (T := mI u 42) (T' := mI u 54) (fun j hj => (h.2.2.2.1 j (by omega)).1) 134 0 (mI u 3) (mI u 47) 0 0 hbk
    have hc := c_row hS e12 hn h0
    generalize eA : rgo (mI u 42) n 8 134 0 (mI u 3) 0 0 = A at hc r1 r2
    generalize eB : rgo (mI u 54) n 15 134 0 (mI u 47) 0 0 = B at r1 r2 r3
    obtain ⟨f', c1, d'⟩ := A
    obtain ⟨row', c2, d2⟩ := B
    cases r1
    obtain ⟨c', ec, hm⟩ := m_row (u := wI (wI (wI u 3 f') 30 (upd (mI u 30) 3 0)) 0 (upd (upd (upd (mI u 0) 14 d') 12 0) 18 0)) hS e13 hn h0
    rw [show mI (wI (wI (wI u 3 f') 30 (upd (mI u 30) 3 0)) 0 (upd (upd (upd (mI u 0) 14 d') 12 0) 18 0)) 54 = mI u 54 from rfl, show mI (wI (wI (wI u 3 f') 30 (upd (mI u 30) 3 0)) 0 (upd (upd (upd (mI u 0) 14 d') 12 0) 18 0)) 47 = mI u 47 from rfl, eB] at ec hm
    have ec1 : c1 = nI c' := ec
    subst ec1
    refine ⟨_, _, _, hc, hR45_Rel hS, hm, ?_⟩
    refine Rel_set hF h rfl rfl rfl (fun a h0 h1 h2 h3 h4 => ?_) r2 (fun j hj => ?_) rfl r3 ?_ rfl ?_
    · unfold mT; simp only [mI_wI]; repeat rw [if_neg (by omega)]
    · unfold mT; simp only [mI_wI]
      rcases (by omega : j = 2 ∨ j ≠ 2) with q | q
      · subst q; rfl
      · repeat rw [if_neg (by omega)]
    · show Rmi (upd (upd (upd (mI u 0) 14 d') 12 0) 18 0) (upd (upd (upd (upd (upd (mI u 45) 0 0) 13 0) 11 d') 8 0) 1 0) (mI u 44) (mI u 46)
      obtain ⟨h1, h2, h3, h4, h5, h6, h7, h8, h9, h10⟩ := h.2.2.1
      exact ⟨rfl, h2, h3, rfl, rfl, h6, (show rg 0 0 400 from by unfold rg; decide), h8, h9, h10⟩
    · show Rpa (upd (mI u 30) 3 0) (mI u 31) (mI u 32) (upd (upd (upd (upd (upd (mI u 45) 0 0) 13 0) 11 d') 8 0) 1 0) (mI u 50) (mI u 51) row'
      exact Rpa_upd (k := 1) (Rpa_clear (Rpa_upd (k := 11) (Rpa_upd (k := 13) (Rpa_upd (k := 0) h.2.2.2.2.2.1 (by decide)) (by decide)) (by decide))) (by decide)
