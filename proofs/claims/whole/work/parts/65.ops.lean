/-! ===== forget, hear, tell, terms, men, sign, word ===== -/
set_option maxRecDepth 100000 in
theorem x10 : ((1 : Int32) = 0) = False := by decide
set_option maxRecDepth 100000 in
theorem oA_n {ρ : Type} {X : Option ρ} {u : Mm} {a k n : Nat} (h1 : (mK u a).1 = k) (h2 : n < (mK u a).2) (h3 : (mK u a).2 < 2147483648) : oA u a k (nI n) X = X := by
  unfold oA
  exact if_pos ⟨h1, nI_pos' (by omega), by rw [nI_clamp (by omega)]; exact h2⟩
set_option maxRecDepth 100000 in
theorem oA_l {ρ : Type} {X : Option ρ} {u : Mm} {a k : Nat} {i : Int32} (h1 : (mK u a).1 = k) (h2 : 0 ≤ i) (h3 : i.toNatClampNeg < (mK u a).2) : oA u a k i X = X := by
  unfold oA
  exact if_pos ⟨h1, h2, h3⟩
set_option maxRecDepth 100000 in
theorem nI_mul (a b : Nat) : nI a * nI b = nI (a * b) := (Int32.ofNat_mul a b).symm
set_option maxRecDepth 100000 in
theorem rg_nI {x : Int32} {M : Nat} (h : rg x 0 M) (hM : M < 2147483648) : ∃ n : Nat, n ≤ M ∧ x = nI n := by
  unfold rg at h
  exact nI_of2 (M := nI M) (nI_toInt (by omega)) (by rw [Int32.lt_iff_toInt_lt]; have : (0 : Int32).toInt = 0 := by decide
                                                     omega) (by rw [Int32.le_iff_toInt_le, nI_toInt (by omega)]; omega)
set_option maxRecDepth 100000 in
theorem nI_rg {n M : Nat} (h : n ≤ M) (hM : M < 2147483648) : rg (nI n) 0 M := by
  unfold rg; rw [nI_toInt (by omega)]; omega
set_option maxRecDepth 100000 in
theorem m_ans {u : Mm} {n : Nat} (h : mK u 45 = (9, 54)) (hn : n < 2147483648) : fX9_answer u 45 (nI n) = some (nI n, wI u 45 (upd (mI u 45) 1 0)) := by
  have hx := nI_pos' (n := n) (by omega)
  unfold fX9_answer bX9_answer_10
  rw [if_pos hx, oK_of h, oU_of, if_pos hx]
set_option maxRecDepth 100000 in
/-- what a call leaves that sets numbers of the book -/
theorem Rel_set {LR : Mm → Prop} (hF : LRf LR) {u u2 : Mm} {bk : Nat → Nat → Int32} {row : Nat → Int32} (h : Rel LR u) (hN : mQ u2 = mQ u) (hK : mK u2 = mK u) (hR : mR u2 = mR u) (hs : ∀ a, a ≠ 0 → a ≠ 45 → a ≠ 47 → a ≠ 30 → 10 < a - 1 ∨ a = 0 → mI u2 a = mI u a) (hb : Rbk bk row) (eb : ∀ j, j ≤ 10 → mI u2 (1 + j) = bk j) (er : mI u2 47 = row) (hrl : rl (mI u 47) row)
    (hmi : Rmi (mI u2 0) (mI u2 45) (mI u 44) (mI u 46)) (h10 : mI u2 0 10 = mI u 0 10) (hpa : Rpa (mI u2 30) (mI u 31) (mI u 32) (mI u2 45) (mI u 50) (mI u 51) row) : Rel LR u2 := by
  refine Rel_put hF h hN hK hR (fun a ha => hs a (by omega) (by omega) (by omega) (by omega) (by omega)) ?_ ?_ (hs 48 (by decide) (by decide) (by decide) (by decide) (by decide)) (hs 49 (by decide) (by decide) (by decide) (by decide) (by decide)) ?_ ?_ ?_ ?_
  · rw [er]; exact Rbk_eq hb eb (fun _ _ => rfl)
  · rw [er]; exact hrl
  · rw [hs 44 (by decide) (by decide) (by decide) (by decide) (by decide), hs 46 (by decide) (by decide) (by decide) (by decide) (by decide)]; exact hmi
  · rw [hs 42 (by decide) (by decide) (by decide) (by decide) (by decide), hs 54 (by decide) (by decide) (by decide) (by decide) (by decide)]; exact h.2.2.2.1
  · rw [hs 41 (by decide) (by decide) (by decide) (by decide) (by decide), hs 70 (by decide) (by decide) (by decide) (by decide) (by decide)]
    unfold Rde
    rw [h10]
    exact h.2.2.2.2.1
  · rw [hs 31 (by decide) (by decide) (by decide) (by decide) (by decide), hs 32 (by decide) (by decide) (by decide) (by decide) (by decide), hs 50 (by decide) (by decide) (by decide) (by decide) (by decide), hs 51 (by decide) (by decide) (by decide) (by decide) (by decide), er]; exact hpa
set_option maxRecDepth 100000 in
/-- as told: not refused, and nothing can be undone -/
theorem Rel_clr {LR : Mm → Prop} (hF : LRf LR) {u u2 : Mm} {bk : Nat → Nat → Int32} {row : Nat → Int32} (h : Rel LR u) (hN : mQ u2 = mQ u) (hK : mK u2 = mK u) (hR : mR u2 = mR u) (hs : ∀ a, a ≠ 0 → a ≠ 45 → a ≠ 47 → a ≠ 30 → 10 < a - 1 ∨ a = 0 → mI u2 a = mI u a) (hb : Rbk bk row) (eb : ∀ j, j ≤ 10 → mI u2 (1 + j) = bk j) (er : mI u2 47 = row) (hrl : rl (mI u 47) row)
    (I0 : mI u2 0 = upd (mI u 0) 18 0) (I45 : mI u2 45 = upd (upd (upd (mI u 45) 0 0) 8 0) 1 0) (I30 : mI u2 30 = upd (mI u 30) 3 0) : Rel LR u2 := by
  refine Rel_set hF h hN hK hR hs hb eb er hrl ?_ (by rw [I0, pk_un (by decide)]) ?_
  · rw [I0, I45]; exact Rmi_ok (Rmi_upd (Rmi_upd h.2.2.1 (by decide)) (by decide))
  · rw [I30, I45]; exact Rpa_upd (Rpa_clear (Rpa_upd h.2.2.2.2.2.1 (k := 0) (x := 0) (by decide))) (by decide)
set_option maxRecDepth 100000 in
/-- as told: not refused -/
theorem Rel_ack {LR : Mm → Prop} (hF : LRf LR) {u u2 : Mm} {bk : Nat → Nat → Int32} {row : Nat → Int32} (h : Rel LR u) (hN : mQ u2 = mQ u) (hK : mK u2 = mK u) (hR : mR u2 = mR u) (hs : ∀ a, a ≠ 0 → a ≠ 45 → a ≠ 47 → a ≠ 30 → 10 < a - 1 ∨ a = 0 → mI u2 a = mI u a) (hb : Rbk bk row) (eb : ∀ j, j ≤ 10 → mI u2 (1 + j) = bk j) (er : mI u2 47 = row) (hrl : rl (mI u 47) row)
    (I0 : mI u2 0 = upd (mI u 0) 18 0) (I45 : mI u2 45 = upd (upd (mI u 45) 0 0) 1 0) (I30 : mI u2 30 = mI u 30) (h5 : row 5 = mI u 47 5) (h6 : row 6 = mI u 47 6) : Rel LR u2 := by
  refine Rel_set hF h hN hK hR hs hb eb er hrl ?_ (by rw [I0, pk_un (by decide)]) ?_
  · rw [I0, I45]; exact Rmi_ok (Rmi_upd h.2.2.1 (by decide))
  · rw [I30, I45]
    have q := Rpa_upd (k := 1) (x := 0) (Rpa_upd (k := 0) (x := 0) h.2.2.2.2.2.1 (by decide)) (by decide)
    unfold Rpa at q ⊢
    rw [h5, h6]
    exact q
set_option maxRecDepth 100000 in
theorem s24 {LR : Mm → Prop} (hF : LRf LR) : hwS_24 (Rel LR) := by
  intro u h
  have hS := h.1
  have hc : fX8_forget u 0 = some (mI u 1 7 + mI u 1 10, wI (wI u 1 (upd (mI u 1) 7 0)) 1 (upd (upd (mI u 1) 7 0) 10 0)) := by
    simp (config := {implicitDefEqProofs := false}) only [fX8_forget, oK, oR, oA_n, oA_l, oNn_of, oI_of, oJ_of, oU_of, oP_of, oB_of, oZ0, oZ1, mK_wI, mK_wL, mR_wI, mR_wL, mI_wI, mI_wL, mL_wI, mL_wL, Nat.reduceEqDiff, Nat.reduceLT, Nat.reduceAdd, Nat.reduceMul, Int32.reduceLE, Int32.reduceLT, Int32.reduceAdd, Int32.reduceSub, Int32.reduceMul, Int32.reduceToNatClampNeg, x10, ↓reduceIte, sh0 hS, rf0_0 hS, sh1 hS]
  have hm : ∀ v, hSh v → fX9_forget v 45 = some (mI v 47 0 + mI v 47 1, wI (wI (mT v) 47 (upd (mI v 47) 0 0)) 47 (upd (upd (mI v 47) 0 0) 1 0)) := by
    intro v hv
    have h1 : hSh (mT v) := hv
    unfold fX9_forget
    rw [oK_of (sh45 hv), oT]
    simp (config := {implicitDefEqProofs := false}) only [oK, oR, oA_n, oA_l, oNn_of, oI_of, oJ_of, oU_of, oP_of, oB_of, oZ0, oZ1, mK_wI, mK_wL, mR_wI, mR_wL, mI_wI, mI_wL, mL_wI, mL_wL, Nat.reduceEqDiff, Nat.reduceLT, Nat.reduceAdd, Nat.reduceMul, Int32.reduceLE, Int32.reduceLT, Int32.reduceAdd, Int32.reduceSub, Int32.reduceMul, Int32.reduceToNatClampNeg, x10, ↓reduceIte, sh45 h1, rf45_3 h1, sh47 h1, show Int32.toNatClampNeg 0 = 0 from rfl, show Int32.toNatClampNeg 1 = 1 from rfl]
    rfl
  have hm1 := hm (wI (wI u 1 (upd (mI u 1) 7 0)) 1 (upd (upd (mI u 1) 7 0) 10 0)) hS
  rw [show ∀ f g : Nat → Int32, mI (wI (wI u 1 f) 1 g) 47 = mI u 47 from fun _ _ => rfl, rw0 h, rw1 h] at hm1
  refine ⟨_, _, _, hc, hR45_Rel hS, hm1, ?_⟩
  refine Rel_put hF h rfl rfl rfl (fun a ha => ?_) (Rbk_eq (Rbk_set 0 10 (v := 0) (p := 1) (Rbk_set 0 7 (v := 0) (p := 0) h.2.1 rfl (by unfold rg; decide) (by decide) (by decide)) rfl (by unfold rg; decide) (by decide) (by decide)) (fun j hj => ?_) (fun _ _ => rfl)) (rlu (rlu rl0 (by decide) (by decide)) (by decide) (by decide)) rfl rfl (Rmi_upd h.2.2.1 (by decide)) h.2.2.2.1 h.2.2.2.2.1 (Rpa_row (Rpa_row (Rpa_upd h.2.2.2.2.2.1 (by decide)) (by decide)) (by decide))
  · unfold mT; simp only [mI_wI]; repeat rw [if_neg (by omega)]
  · unfold mT bset; simp only [mI_wI]; rcases j with _ | j
    · rfl
    · repeat rw [if_neg (by omega)]
set_option maxRecDepth 100000 in
theorem c_hear {u : Mm} (h : hSh u) {x y : Int32} {n : Nat} (c1 : 0 ≤ x ∧ x ≤ 7) (c2 : 0 ≤ y ∧ y ≤ 1) (hn : mI u 1 7 = nI n) (hl : n < 8) : fX8_hear u 0 x y = some (nI (n + 1), wI (wI (wI (wI u 8 (upd (mI u 8) n x)) 9 (upd (mI u 9) n y)) 1 (upd (mI u 1) 7 (nI (n + 1)))) 0 (upd (mI u 0) 18 0)) := by
  have k : nI n < 8 := nI_lt (b := 8) hl (by decide)
  unfold fX8_hear
  rw [c_isWord, oB_of, if_pos c1, if_neg (by decide), c_within, oB_of, if_pos c2, if_neg (by decide)]
  simp (config := {implicitDefEqProofs := false}) only [oK, oR, oA_n, oA_l, oNn_of, oI_of, oJ_of, oU_of, oP_of, oB_of, oZ0, oZ1, mK_wI, mK_wL, mR_wI, mR_wL, mI_wI, mI_wL, mL_wI, mL_wL, Nat.reduceEqDiff, Nat.reduceLT, Nat.reduceAdd, Nat.reduceMul, Int32.reduceLE, Int32.reduceLT, Int32.reduceAdd, Int32.reduceSub, Int32.reduceMul, Int32.reduceToNatClampNeg, x10, ↓reduceIte, sh0 h, rf0_0 h, sh1 h, rf1_5 h, rf1_6 h, sh8 h, sh9 h, hn, k, hl, nI_clamp (show n < 2147483648 by omega), nI_1, fX8_accept]
set_option maxRecDepth 100000 in
theorem m_hear {u : Mm} (h : hSh u) {x y : Int32} {n : Nat} (c1 : 0 ≤ x ∧ x ≤ 7) (c2 : 0 ≤ y ∧ y ≤ 1) (hn : mI u 47 0 = nI n) (hl : n < 8) : fX9_hear u 45 x y = some (nI (n + 1), wI (wI (wI (wI (mT u) 47 (upd (mI u 47) (99 + 2 * n) x)) 47 (upd (upd (mI u 47) (99 + 2 * n) x) (100 + 2 * n) y)) 47 (upd (upd (upd (mI u 47) (99 + 2 * n) x) (100 + 2 * n) y) 0 (nI (n + 1)))) 45 (upd (mI (mT u) 45) 1 0)) := by
  have k : ¬ nI n = 8 := fun q => absurd ((nI_eq (b := 8) (by omega) (by decide)).mp q) (by omega)
  have h1 : hSh (mT u) := h
  have hn' : mI (mT u) 47 0 = nI n := hn
  have e1 : (99 : Int32) + 2 * nI n = nI (99 + 2 * n) := by rw [show (99 : Int32) = nI 99 from rfl, show (2 : Int32) = nI 2 from rfl, nI_mul, nI_add]
  have e2 : nI (99 + 2 * n) + 1 = nI (100 + 2 * n) := by rw [nI_1]; congr 1; omega
  have l1 : 99 + 2 * n < 5530 := by omega
  have l2 : 100 + 2 * n < 5530 := by omega
  unfold fX9_hear
  rw [oK_of (sh45 h), oT, m_isEight, oB_of, if_pos c1, if_neg (by decide), m_inI _ y 0 1 (l := 0) (h := 1) rfl rfl, oB_of, if_pos c2, if_neg (by decide)]
  simp (config := {implicitDefEqProofs := false}) only [oK, oR, oA_n, oA_l, oNn_of, oI_of, oJ_of, oU_of, oP_of, oB_of, oZ0, oZ1, mK_wI, mK_wL, mR_wI, mR_wL, mI_wI, mI_wL, mL_wI, mL_wL, Nat.reduceEqDiff, Nat.reduceLT, Nat.reduceAdd, Nat.reduceMul, Int32.reduceLE, Int32.reduceLT, Int32.reduceAdd, Int32.reduceSub, Int32.reduceMul, Int32.reduceToNatClampNeg, x10, ↓reduceIte, sh45 h1, sh47 h1, rf45_3 h1, hn', k, e1, e2, l1, l2, nI_clamp (show 99 + 2 * n < 2147483648 by omega), nI_clamp (show 100 + 2 * n < 2147483648 by omega)]
  rw [pk_un (by omega), pk_un (by omega), hn', nI_1]
  simp (config := {implicitDefEqProofs := false}) only [m_ans, mK_wI, sh45 h1, show n + 1 < 2147483648 by omega, oB_of, show mI (mT u) 47 = mI u 47 from rfl, mI_wI, Nat.reduceEqDiff, ↓reduceIte]
set_option maxRecDepth 100000 in
/-- a number of the row, as natural number -/
theorem rw_n {LR : Mm → Prop} {u : Mm} (h : Rel LR u) (i : Nat) (hi : i < 127) {M : Nat} (hr : rlh i = (0, (M : Int))) (hM : M < 2147483648) : ∃ n : Nat, n ≤ M ∧ mI u 47 i = nI n := by
  have q := h.2.1.2.1 i hi
  rw [hr] at q
  exact rg_nI q hM
set_option maxRecDepth 100000 in
theorem rgI {x lo hi : Int32} {a b : Int} (ha : lo.toInt = a) (hb : hi.toInt = b) (h : lo ≤ x ∧ x ≤ hi) : rg x a b := (rg_of ha hb).mp h
set_option maxRecDepth 100000 in
theorem s22 {LR : Mm → Prop} (hF : LRf LR) : hwS_22 (Rel LR) := by
  intro x y u h
  have hS := h.1
  by_cases c1 : 0 ≤ x ∧ x ≤ 7
  · by_cases c2 : 0 ≤ y ∧ y ≤ 1
    · obtain ⟨n, hn, e⟩ := rw_n h 0 (by decide) (M := 8) rfl (by decide)
      have e' := e
      rw [rw0 h] at e'
      by_cases c3 : n < 8
      · have hc := c_hear hS c1 c2 e' c3
        have hm := m_hear (u := wI (wI (wI (wI u 8 (upd (mI u 8) n x)) 9 (upd (mI u 9) n y)) 1 (upd (mI u 1) 7 (nI (n + 1)))) 0 (upd (mI u 0) 18 0)) hS c1 c2 e c3
        refine ⟨_, _, _, hc, hR45_Rel hS, hm, ?_⟩
        have l1 : loc (99 + 2 * n) = (7, n) := (by decide +kernel : ∀ n, n < 8 → loc (99 + 2 * n) = (7, n)) n c3
        have l2 : loc (100 + 2 * n) = (8, n) := (by decide +kernel : ∀ n, n < 8 → loc (100 + 2 * n) = (8, n)) n c3
        have l3 : rlh (99 + 2 * n) = (0, 7) := (by decide +kernel : ∀ n, n < 8 → rlh (99 + 2 * n) = (0, 7)) n c3
        have l4 : rlh (100 + 2 * n) = (0, 1) := (by decide +kernel : ∀ n, n < 8 → rlh (100 + 2 * n) = (0, 1)) n c3
        refine Rel_ack hF h rfl rfl rfl (fun a h0 h1 h2 h3 h4 => ?_) (Rbk_set 0 7 (p := 0) (v := nI (n + 1)) (Rbk_set 8 n (p := 100 + 2 * n) (v := y) (Rbk_set 7 n (p := 99 + 2 * n) (v := x) h.2.1 l1 (by rw [l3]; exact rgI rfl rfl c1) (by omega) (by omega)) l2 (by rw [l4]; exact rgI rfl rfl c2) (by omega) (by omega)) rfl (nI_rg (M := 8) (by omega) (by decide)) (by decide) (by decide)) (fun j hj => ?_) rfl (rlu (rlu (rlu rl0 (by omega) (by omega)) (by omega) (by omega)) (by decide) (by decide)) rfl rfl rfl ?_ ?_
        · unfold mT; simp only [mI_wI]; repeat rw [if_neg (by omega)]
        · unfold mT bset; simp only [mI_wI]
          rcases (by omega : j = 0 ∨ j = 7 ∨ j = 8 ∨ (j ≠ 0 ∧ j ≠ 7 ∧ j ≠ 8)) with q | q | q | q
          · subst q; rfl
          · subst q; rfl
          · subst q; rfl
          · repeat rw [if_neg (by omega)]
        · rw [pk_un (by omega), pk_un (by omega), pk_un (by omega)]
        · rw [pk_un (by omega), pk_un (by omega), pk_un (by omega)]
      · have e8 : n = 8 := by omega
        subst e8
        refine ⟨-5, cRe u (-5) 4, mRe (mT (cRe u (-5) 4)) (-5) 5, ?_, hR45_Rel hS, ?_, Rel_re hF h (by decide)⟩
        · show fX8_hear u 0 x y = _
          unfold fX8_hear
          rw [c_isWord, oB_of, if_pos c1, if_neg (by decide), c_within, oB_of, if_pos c2, if_neg (by decide), oK_of (sh0 hS), rf0_0 hS, oNn_of, oK_of (sh1 hS), oI_of, e', if_neg (by decide), oR_of (sh0 hS), c_refuse hS (-5) 4 (by decide), oB_of]
        · have hv : hSh (mT (cRe u (-5) 4)) := hS
          have ev : mI (mT (cRe u (-5) 4)) 47 0 = nI 8 := e
          show fX9_hear (cRe u (-5) 4) 45 x y = _
          unfold fX9_hear
          rw [oK_of (sh45 (show hSh (cRe u (-5) 4) from hS)), oT, m_isEight, oB_of, if_pos c1, if_neg (by decide), m_inI _ y 0 1 (l := 0) (h := 1) rfl rfl, oB_of, if_pos c2, if_neg (by decide), oK_of (sh45 hv), rf45_3 hv, oNn_of, oA_of (sh47 hv) (by decide) (by decide), oI_of, show Int32.toNatClampNeg 0 = 0 from rfl, ev, if_pos (by decide), oR_of (sh45 hv), m_refuse hv (-5) 5 (by decide), oB_of]
    · refine ⟨-1, cRe u (-1) 0, mRe (mT (cRe u (-1) 0)) (-1) 1, ?_, hR45_Rel hS, ?_, Rel_re hF h (by decide)⟩
      · show fX8_hear u 0 x y = _
        unfold fX8_hear bX8_hear_16
        rw [c_isWord, oB_of, if_pos c1, if_neg (by decide), c_within, oB_of, if_neg c2, if_pos rfl, oR_of (sh0 hS), c_refuse hS (-1) 0 (by decide), oB_of]
      · have hv : hSh (mT (cRe u (-1) 0)) := hS
        show fX9_hear (cRe u (-1) 0) 45 x y = _
        unfold fX9_hear bX9_hear_22
        rw [oK_of (sh45 (show hSh (cRe u (-1) 0) from hS)), oT, m_isEight, oB_of, if_pos c1, if_neg (by decide), m_inI _ y 0 1 (l := 0) (h := 1) rfl rfl, oB_of, if_neg c2, if_pos rfl, oR_of (sh45 hv), m_refuse hv (-1) 1 (by decide), oB_of]
  · refine ⟨-1, cRe u (-1) 0, mRe (mT (cRe u (-1) 0)) (-1) 1, ?_, hR45_Rel hS, ?_, Rel_re hF h (by decide)⟩
    · show fX8_hear u 0 x y = _
      unfold fX8_hear bX8_hear_16
      rw [c_isWord, oB_of, if_neg c1, if_pos rfl, oR_of (sh0 hS), c_refuse hS (-1) 0 (by decide), oB_of]
    · have hv : hSh (mT (cRe u (-1) 0)) := hS
      show fX9_hear (cRe u (-1) 0) 45 x y = _
      unfold fX9_hear bX9_hear_22
      rw [oK_of (sh45 (show hSh (cRe u (-1) 0) from hS)), oT, m_isEight, oB_of, if_neg c1, if_pos rfl, oR_of (sh45 hv), m_refuse hv (-1) 1 (by decide), oB_of]
