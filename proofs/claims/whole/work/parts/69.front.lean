/-! ===== fronts, the reference's row: what is asked and set ===== -/
def Fr (u : Mm) (f : Nat) : Prop := mK u f = (1, 1) ∧ mR u f 0 = some (f + 1) ∧ mK u (f + 1) = (10, 29)
set_option maxRecDepth 100000 in
theorem Fr_wI {u : Mm} {a f : Nat} {g : Nat → Int32} : Fr (wI u a g) f = Fr u f := rfl
set_option maxRecDepth 100000 in
theorem Fr_wL {u : Mm} {a f : Nat} {g : Nat → Int64} : Fr (wL u a g) f = Fr u f := rfl
set_option maxRecDepth 100000 in
theorem Sh_wI {u : Mm} {a : Nat} {g : Nat → Int32} : hSh (wI u a g) = hSh u := rfl
set_option maxRecDepth 100000 in
theorem Sh_mT {u : Mm} : hSh (mT u) = hSh u := rfl
set_option maxRecDepth 100000 in
theorem Fr2 {u : Mm} (h : hSh u) : Fr u 2 := ⟨sh2 h, rf2_0 h, sh3 h⟩
set_option maxRecDepth 100000 in
theorem Fr36 {u : Mm} (h : hSh u) : Fr u 36 := ⟨sh36 h, rf36_0 h, sh37 h⟩
set_option maxRecDepth 100000 in
theorem Fr38 {u : Mm} (h : hSh u) : Fr u 38 := ⟨sh38 h, rf38_0 h, sh39 h⟩
set_option maxRecDepth 100000 in
theorem Fr40 {u : Mm} (h : hSh u) : Fr u 40 := ⟨sh40 h, rf40_0 h, sh41 h⟩
set_option maxRecDepth 100000 in
theorem oA_k {ρ : Type} {X : Option ρ} {u : Mm} {a k n N : Nat} (h : mK u a = (k, N)) (hn : n < N) (hN : N < 2147483648) : oA u a k (nI n) X = X := oA_of h (nI_pos' (by omega)) (by rw [nI_clamp (by omega)]; exact hn)
set_option maxRecDepth 100000 in
theorem clm {n : Nat} (h : n < 2147483648) : (nI n).toNatClampNeg = n := nI_clamp h
set_option maxRecDepth 100000 in
theorem i1s {s : Nat} (h : s < 2) : (1 : Int32) - nI s = nI (1 - s) := by
  rcases (by omega : s = 0 ∨ s = 1) with q | q <;> subst q <;> rfl
set_option maxRecDepth 100000 in
theorem ixm {s k : Nat} : (8 : Int32) + nI s * 8 + nI k = nI (8 + 8 * s + k) := by rw [show (8 : Int32) = nI 8 from rfl, nI_mul, nI_add, nI_add, Nat.mul_comm s 8]
set_option maxRecDepth 100000 in
theorem ixM {s k : Nat} : (15 : Int32) + 8 * nI s + nI k = nI (15 + 8 * s + k) := by rw [show (8 : Int32) = nI 8 from rfl, show (15 : Int32) = nI 15 from rfl, nI_mul, nI_add, nI_add]
section
variable {u : Mm} {f s k : Nat} (h : Fr u f)
set_option maxRecDepth 100000 in
theorem c_menAt (h : Fr u f) (hs : s < 2) (hk : k < 8) : fX1_menAt u f (nI s) (nI k) = some (mI u (f + 1) (8 + 8 * s + k), u) := by
  unfold fX1_menAt
  rw [oK_of h.1, h.2.1, oNn_of, ixm, oA_k h.2.2 (by omega) (by decide), oI_of, clm (by omega)]
set_option maxRecDepth 100000 in
theorem c_setMen (h : Fr u f) (hs : s < 2) (hk : k < 8) {x : Int32} : fX1_setMen u f (nI s) (nI k) x = some ((), wI u (f + 1) (upd (mI u (f + 1)) (8 + 8 * s + k) x)) := by
  unfold fX1_setMen
  rw [oK_of h.1, h.2.1, oNn_of, ixm, oA_k h.2.2 (by omega) (by decide), oU_of, clm (by omega)]
set_option maxRecDepth 100000 in
theorem c_lineAt (h : Fr u f) (hk : k < 8) : fX1_lineAt u f (nI k) = some (mI u (f + 1) k, u) := by
  unfold fX1_lineAt
  rw [oK_of h.1, h.2.1, oNn_of, show (0 : Int32) + nI k = nI k from Int32.zero_add _, oA_k h.2.2 (by omega) (by decide), oI_of, clm (by omega)]
set_option maxRecDepth 100000 in
theorem c_setLine (h : Fr u f) (hk : k < 8) {x : Int32} : fX1_setLine u f (nI k) x = some ((), wI u (f + 1) (upd (mI u (f + 1)) k x)) := by
  unfold fX1_setLine
  rw [oK_of h.1, h.2.1, oNn_of, show (0 : Int32) + nI k = nI k from Int32.zero_add _, oA_k h.2.2 (by omega) (by decide), oU_of, clm (by omega)]
set_option maxRecDepth 100000 in
theorem c_supplyOf (h : Fr u f) (hs : s < 2) : fX1_supplyOf u f (nI s) = some (mI u (f + 1) (24 + s), u) := by
  unfold fX1_supplyOf
  rw [oK_of h.1, h.2.1, oNn_of, show (24 : Int32) = nI 24 from rfl, nI_add, oA_k h.2.2 (by omega) (by decide), oI_of, clm (by omega)]
set_option maxRecDepth 100000 in
theorem c_temperOf (h : Fr u f) (hs : s < 2) : fX1_temperOf u f (nI s) = some (mI u (f + 1) (26 + s), u) := by
  unfold fX1_temperOf
  rw [oK_of h.1, h.2.1, oNn_of, show (26 : Int32) = nI 26 from rfl, nI_add, oA_k h.2.2 (by omega) (by decide), oI_of, clm (by omega)]
set_option maxRecDepth 100000 in
theorem c_day (h : Fr u f) : fX1_theDay u f = some (mI u (f + 1) 28, u) := c_theDay h.1 h.2.1 h.2.2
set_option maxRecDepth 100000 in
theorem c_setDay (h : Fr u f) {x : Int32} : fX1_setDay u f x = some ((), wI u (f + 1) (upd (mI u (f + 1)) 28 x)) := by
  unfold fX1_setDay
  rw [oK_of h.1, h.2.1, oNn_of, oA_of h.2.2 (by decide) (by decide), oU_of]
  rfl
def imin (x y : Int32) : Int32 := if y < x then y else x
def imax (x y : Int32) : Int32 := if x < y then y else x
set_option maxRecDepth 100000 in
theorem c_min {x y : Int32} : fJ9_min_7cf53 u x y = some (imin x y, u) := by
  unfold fJ9_min_7cf53 bJ9_min_7cf53_10 imin
  by_cases c : y < x
  · rw [if_pos c, if_pos c]
  · rw [if_neg c, if_neg c]
set_option maxRecDepth 100000 in
theorem c_max {x y : Int32} : fJ9_max_7cf53 u x y = some (imax x y, u) := by
  unfold fJ9_max_7cf53 bJ9_max_7cf53_10 imax
  by_cases c : x < y
  · rw [if_pos c, if_pos c]
  · rw [if_neg c, if_neg c]
set_option maxRecDepth 100000 in
theorem c_setSupply (h : Fr u f) (hs : s < 2) {x : Int32} : fX1_setSupply u f (nI s) x = some ((), wI u (f + 1) (upd (mI u (f + 1)) (24 + s) (imin x 999))) := by
  unfold fX1_setSupply
  rw [oK_of h.1, h.2.1, oNn_of, c_min, oB_of, show (24 : Int32) = nI 24 from rfl, nI_add, oA_k h.2.2 (by omega) (by decide), oU_of, clm (by omega)]
set_option maxRecDepth 100000 in
theorem c_setTemper (h : Fr u f) (hs : s < 2) {x : Int32} : fX1_setTemper u f (nI s) x = some ((), wI u (f + 1) (upd (mI u (f + 1)) (26 + s) (imax 0 (imin x 99)))) := by
  unfold fX1_setTemper
  rw [oK_of h.1, h.2.1, oNn_of, c_min, oB_of, c_max, oB_of, show (26 : Int32) = nI 26 from rfl, nI_add, oA_k h.2.2 (by omega) (by decide), oU_of, clm (by omega)]
set_option maxRecDepth 100000 in
theorem c_isStronger (h : Fr u f) (hs : s < 2) (hk : k < 8) : fX1_isStronger u f (nI s) (nI k) = some (if mI u (f + 1) (8 + 8 * (1 - s) + k) < mI u (f + 1) (8 + 8 * s + k) then 1 else 0, u) := by
  unfold fX1_isStronger bX1_isStronger_22
  rw [oR_of h.1, c_menAt h hs hk, oB_of, oR_of h.1, i1s hs, c_menAt h (by omega) hk, oB_of]
  by_cases c : mI u (f + 1) (8 + 8 * (1 - s) + k) < mI u (f + 1) (8 + 8 * s + k)
  · rw [if_neg (Int32.not_le.mpr c), if_pos c, oZ1]
  · rw [if_pos (Int32.not_lt.mp c), if_neg c, oZ0]
set_option maxRecDepth 100000 in
theorem c_canGoOn (h : Fr u f) (hs : s < 2) (hk : k < 8) : fX1_canGoOn u f (nI s) (nI k) = some (if (s = 0 ∧ mI u (f + 1) k < 3) ∨ (s = 1 ∧ -3 < mI u (f + 1) k) then 1 else 0, u) := by
  unfold fX1_canGoOn bX1_canGoOn_36
  rcases (by omega : s = 0 ∨ s = 1) with q | q
  · subst q
    rw [if_pos (show nI 0 = 0 from rfl), oR_of h.1, c_lineAt h hk, oB_of]
    by_cases c : mI u (f + 1) k < 3
    · rw [if_neg (Int32.not_le.mpr c), if_pos (Or.inl ⟨rfl, c⟩), oZ1]
    · rw [if_pos (Int32.not_lt.mp c), if_neg (fun z => z.elim (fun z => c z.2) (fun z => absurd z.1 (by decide))), oZ0]
  · subst q
    rw [if_neg (by decide), oR_of h.1, c_lineAt h hk, oB_of]
    by_cases c : -3 < mI u (f + 1) k
    · rw [if_neg (Int32.not_le.mpr c), if_pos (Or.inr ⟨rfl, c⟩), oZ1]
    · rw [if_pos (Int32.not_lt.mp c), if_neg (fun z => z.elim (fun z => absurd z.1 (by decide)) (fun z => c z.2)), oZ0]
/-- eight numbers, added up -/
def sum8 (g : Nat → Int32) : Int32 := 0 + g 0 + g 1 + g 2 + g 3 + g 4 + g 5 + g 6 + g 7
set_option maxRecDepth 100000 in
theorem menOf_step (h : Fr u f) (hs : s < 2) (hk : k < 8) {n : Nat} {x : Int32} : rX1_menOf_4 (n + 1) u f (nI s) x (nI k) = rX1_menOf_4 n u f (nI s) (x + mI u (f + 1) (8 + 8 * s + k)) (nI (k + 1)) := by
  show bX1_menOf_4 (rX1_menOf_4 n) u f (nI s) x (nI k) = _
  unfold bX1_menOf_4
  rw [if_neg (show ¬ (8 : Int32) ≤ nI k from nI_ge (b := 8) hk (by decide)), oR_of h.1, c_menAt h hs hk, oB_of, oI_of, nI_1]
set_option maxRecDepth 100000 in
theorem c_menOf (h : Fr u f) (hs : s < 2) : fX1_menOf u f (nI s) = some (sum8 (fun k => mI u (f + 1) (8 + 8 * s + k)), u) := by
  show rX1_menOf_4 (999991 + 9) u f (nI s) 0 (nI 0) = _
  rw [menOf_step h hs (by decide), menOf_step h hs (by decide), menOf_step h hs (by decide), menOf_step h hs (by decide), menOf_step h hs (by decide), menOf_step h hs (by decide), menOf_step h hs (by decide), menOf_step h hs (by decide)]
  rfl
end
section
variable {u : Mm} {s k : Nat}
set_option maxRecDepth 100000 in
theorem m_menOf (h : hSh u) (hs : s < 2) (hk : k < 8) : fX9_menOf u 45 (nI s) (nI k) = some (mI u 47 (15 + 8 * s + k), u) := by
  unfold fX9_menOf
  rw [oK_of (sh45 h), rf45_3 h, oNn_of, ixM, oA_k (sh47 h) (by omega) (by decide), oI_of, clm (by omega)]
set_option maxRecDepth 100000 in
theorem allMen_step (h : hSh u) (hs : s < 2) (hk : k < 8) {n : Nat} {x : Int32} : rX9_allMen_4 (n + 1) u 45 (nI s) x (nI k) = rX9_allMen_4 n u 45 (nI s) (x + mI u 47 (15 + 8 * s + k)) (nI (k + 1)) := by
  show bX9_allMen_4 (rX9_allMen_4 n) u 45 (nI s) x (nI k) = _
  unfold bX9_allMen_4
  rw [if_neg (show ¬ (8 : Int32) ≤ nI k from nI_ge (b := 8) hk (by decide)), oR_of (sh45 h), m_menOf h hs hk, oB_of, oI_of, nI_1]
set_option maxRecDepth 100000 in
theorem m_allMen (h : hSh u) (hs : s < 2) : fX9_allMen u 45 (nI s) = some (sum8 (fun k => mI u 47 (15 + 8 * s + k)), u) := by
  show rX9_allMen_4 (999991 + 9) u 45 (nI s) 0 (nI 0) = _
  rw [allMen_step h hs (by decide), allMen_step h hs (by decide), allMen_step h hs (by decide), allMen_step h hs (by decide), allMen_step h hs (by decide), allMen_step h hs (by decide), allMen_step h hs (by decide), allMen_step h hs (by decide)]
  rfl
set_option maxRecDepth 100000 in
theorem m_canGoOn (h : hSh u) (hs : s < 2) (hk : k < 8) : fX9_canGoOn u 45 (nI s) (nI k) = some (if (s = 0 ∧ mI u 47 (7 + k) < 3) ∨ (s = 1 ∧ -3 < mI u 47 (7 + k)) then 1 else 0, u) := by
  unfold fX9_canGoOn bX9_canGoOn_44
  have e : (7 : Int32) + nI k = nI (7 + k) := by rw [show (7 : Int32) = nI 7 from rfl, nI_add]
  rcases (by omega : s = 0 ∨ s = 1) with q | q
  · subst q
    rw [if_pos (show nI 0 = 0 from rfl), oK_of (sh45 h), rf45_3 h, oNn_of, e, oA_k (sh47 h) (by omega) (by decide), oI_of, clm (by omega)]
    by_cases c : mI u 47 (7 + k) < 3
    · rw [if_neg (Int32.not_le.mpr c), if_pos (Or.inl ⟨rfl, c⟩), oZ1]
    · rw [if_pos (Int32.not_lt.mp c), if_neg (fun z => z.elim (fun z => c z.2) (fun z => absurd z.1 (by decide))), oZ0]
  · subst q
    rw [if_neg (by decide), oK_of (sh45 h), rf45_3 h, oNn_of, e, oA_k (sh47 h) (by omega) (by decide), oI_of, clm (by omega)]
    by_cases c : -3 < mI u 47 (7 + k)
    · rw [if_neg (Int32.not_le.mpr c), if_pos (Or.inr ⟨rfl, c⟩), oZ1]
    · rw [if_pos (Int32.not_lt.mp c), if_neg (fun z => z.elim (fun z => absurd z.1 (by decide)) (fun z => c z.2)), oZ0]
set_option maxRecDepth 100000 in
theorem m_rowAt (h : hSh u) {n : Nat} (hn : n < 5530) {ρ : Type} {F : Int32 → Option ρ} : oK u 45 9 54 (oNn (mR u 45 3) (fun e => oA u e 10 (nI n) (oI (mI u e (Int32.toNatClampNeg (nI n))) F))) = F (mI u 47 n) := by
  rw [oK_of (sh45 h), rf45_3 h, oNn_of, oA_k (sh47 h) hn (by decide), oI_of, clm (by omega)]
end
/-! men -/
def Pmen (x y z : Int32) : Prop := (0 ≤ x ∧ x ≤ 1) ∧ (0 ≤ y ∧ y ≤ 7) ∧ (0 ≤ z ∧ z ≤ 99)
set_option maxRecDepth 100000 in
theorem s0 {LR : Mm → Prop} (hF : LRf LR) : hwS_0 (Rel LR) := by
  intro x y z u h
  have hS := h.1
  by_cases hP : Pmen x y z
  · obtain ⟨c1, c2, c3⟩ := hP
    obtain ⟨s, hs, rfl⟩ := nIof (n := 1) 1 (by decide) c1
    obtain ⟨k, hk, rfl⟩ := nIof (n := 7) 7 (by decide) c2
    have hs' : s < 2 := by omega
    have hk' : k < 8 := by omega
    have hc : fX8_men u 0 (nI s) (nI k) z = some (mI u 3 (8 + 8 * s + k), wI (wI (wI u 3 (upd (mI u 3) (8 + 8 * s + k) z)) 30 (upd (mI u 30) 3 0)) 0 (upd (mI u 0) 18 0)) := by
      unfold fX8_men
      rw [c_isSide, oB_of, if_pos c1, if_neg (by decide), c_isColumn, oB_of, if_pos c2, if_neg (by decide), c_within, oB_of, if_pos c3, if_neg (by decide)]
      simp (config := {implicitDefEqProofs := false}) only [oK, oR, oA_n, oA_l, oNn_of, oI_of, oJ_of, oU_of, oP_of, oB_of, oZ0, oZ1, mK_wI, mK_wL, mR_wI, mR_wL, mI_wI, mI_wL, mL_wI, mL_wL, Nat.reduceEqDiff, Nat.reduceLT, Nat.reduceAdd, Nat.reduceMul, Int32.reduceLE, Int32.reduceLT, Int32.reduceAdd, Int32.reduceSub, Int32.reduceMul, Int32.reduceToNatClampNeg, x10, ↓reduceIte, sh0 hS, rf0_0 hS, sh1 hS, rf1_0 hS, sh2 hS, sh3 hS, rf0_5 hS, sh30 hS, c_menAt, c_setMen, Fr2 hS, Fr_wI, hs', hk', fX3_clear, fX8_accept]
    have hm : ∀ v, hSh v → fX9_men v 45 (nI s) (nI k) z = some (mI v 47 (15 + 8 * s + k), wI (wI (wI (mT v) 45 (upd (mI (mT v) 45) 8 0)) 47 (upd (mI v 47) (15 + 8 * s + k) z)) 45 (upd (upd (mI (mT v) 45) 8 0) 1 0)) := by
      intro v hv
      have hv1 : hSh (mT v) := hv
      unfold fX9_men
      rw [oK_of (sh45 hv), oT, m_isSide, oB_of, if_pos c1, if_neg (by decide), m_isEight, oB_of, if_pos c2, if_neg (by decide), m_inI _ z 0 99 (l := 0) (h := 99) rfl rfl, oB_of, if_pos c3, if_neg (by decide), oK_of (sh45 hv1), oU_of, oR_of (sh45 (hSh_wI hv1)), ixM, m_change (hSh_wI hv1) _ (by omega), oB_of]
      rfl
    have hm1 := hm (wI (wI (wI u 3 (upd (mI u 3) (8 + 8 * s + k) z)) 30 (upd (mI u 30) 3 0)) 0 (upd (mI u 0) 18 0)) hS
    have l1 : loc (15 + 8 * s + k) = (2, 8 + 8 * s + k) := (by decide +kernel : ∀ s, s < 2 → ∀ k, k < 8 → loc (15 + 8 * s + k) = (2, 8 + 8 * s + k)) s hs' k hk'
    have l2 : rlh (15 + 8 * s + k) = (0, 99) := (by decide +kernel : ∀ s, s < 2 → ∀ k, k < 8 → rlh (15 + 8 * s + k) = (0, 99)) s hs' k hk'
    have e : mI u 47 (15 + 8 * s + k) = mI u 3 (8 + 8 * s + k) := by
      have q := h.2.1.1 (15 + 8 * s + k) (by omega)
      unfold cls at q
      rw [l1] at q
      exact q
    rw [show ∀ f g i : Nat → Int32, mI (wI (wI (wI u 3 f) 30 g) 0 i) 47 = mI u 47 from fun _ _ _ => rfl, e] at hm1
    refine ⟨_, _, _, hc, hR45_Rel hS, hm1, ?_⟩
    refine Rel_clr hF h rfl rfl rfl (fun a h0 h1 h2 h3 h4 => ?_) (Rbk_set 2 (8 + 8 * s + k) (p := 15 + 8 * s + k) (v := z) h.2.1 l1 (by rw [l2]; exact rgI rfl rfl c3) (by omega) (by omega)) (fun j hj => ?_) rfl (rlu rl0 (by omega) (by omega)) rfl rfl rfl
    · unfold mT; simp only [mI_wI]; repeat rw [if_neg (by omega)]
    · unfold mT bset; simp only [mI_wI]
      rcases (by omega : j = 2 ∨ j ≠ 2) with q | q
      · subst q; rfl
      · repeat rw [if_neg (by omega)]
  · refine ⟨-1, cRe u (-1) 0, mRe (mT (cRe u (-1) 0)) (-1) 1, ?_, hR45_Rel hS, ?_, Rel_re hF h (by decide)⟩
    · show fX8_men u 0 x y z = _
      unfold fX8_men bX8_men_24
      have k : oR u 0 8 (oB (fX8_refuse u 0 (-1)) fun v5 u6 => some (v5, u6)) = some (-1, cRe u (-1) 0) := by rw [oR_of (sh0 hS), c_no hS, oB_of]
      rw [c_isSide, oB_of]
      by_cases c1 : 0 ≤ x ∧ x ≤ 1
      · rw [if_pos c1, if_neg (by decide), c_isColumn, oB_of]
        by_cases c2 : 0 ≤ y ∧ y ≤ 7
        · rw [if_pos c2, if_neg (by decide), c_within, oB_of, if_neg (fun q => hP ⟨c1, c2, q⟩), if_pos rfl, k]
        · rw [if_neg c2, if_pos rfl, k]
      · rw [if_neg c1, if_pos rfl, k]
    · have hv : hSh (mT (cRe u (-1) 0)) := hS
      show fX9_men (cRe u (-1) 0) 45 x y z = _
      unfold fX9_men bX9_men_31
      have k : oR (mT (cRe u (-1) 0)) 45 9 (oB (fX9_answer (mT (cRe u (-1) 0)) 45 (-1)) fun v4 u5 => some (v4, u5)) = some (-1, mRe (mT (cRe u (-1) 0)) (-1) 1) := by rw [oR_of (sh45 hv), m_no hv, oB_of]
      rw [oK_of (sh45 (show hSh (cRe u (-1) 0) from hS)), oT, m_isSide, oB_of]
      by_cases c1 : 0 ≤ x ∧ x ≤ 1
      · rw [if_pos c1, if_neg (by decide), m_isEight, oB_of]
        by_cases c2 : 0 ≤ y ∧ y ≤ 7
        · rw [if_pos c2, if_neg (by decide), m_inI _ z 0 99 (l := 0) (h := 99) rfl rfl, oB_of, if_neg (fun q => hP ⟨c1, c2, q⟩), if_pos rfl, k]
        · rw [if_neg c2, if_pos rfl, k]
      · rw [if_neg c1, if_pos rfl, k]
