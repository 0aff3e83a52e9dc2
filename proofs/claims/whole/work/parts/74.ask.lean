/-! ===== probably, ask ===== -/
def ptA (g : Nat → Int32) (w s : Nat) (p : Int32) : Int64 := if p = 1 then (g (2 * w + s)).toInt64 else 10 - (g (2 * w + s)).toInt64
def prd (g hw hp : Nat → Int32) (s : Nat) : Nat → Nat → Int64 → Int64
  | 0, _, y => y
  | r + 1, k, y => prd g hw hp s r (k + 1) (y * ptA g (hw k).toNatClampNeg s (hp k))
def pfin (a b : Int64) : Int32 := if a + b = 0 then 500000 else ((a * 1000000) / (a + b)).toInt32
set_option maxRecDepth 100000 in
theorem bmod64 {z : Int} (h1 : -9223372036854775808 ≤ z) (h2 : z < 9223372036854775808) : z.bmod (2 ^ 64) = z := by
  rw [Int.bmod_def]
  have : ((2 ^ 64 : Nat) : Int) = 18446744073709551616 := by decide
  rw [this]
  split <;> omega
set_option maxRecDepth 100000 in
theorem bmod32 {z : Int} (h1 : -2147483648 ≤ z) (h2 : z < 2147483648) : z.bmod (2 ^ 32) = z := by
  rw [Int.bmod_def]
  have : ((2 ^ 32 : Nat) : Int) = 4294967296 := by decide
  rw [this]
  split <;> omega
/-- not below 0, at most so much -/
def nb (x : Int64) (M : Int) : Prop := 0 ≤ x.toInt ∧ x.toInt ≤ M
set_option maxRecDepth 100000 in
theorem nb_mul {x y : Int64} {M K : Int} (h : nb x M) (k : nb y K) (hM : M * K < 9223372036854775808) : nb (x * y) (M * K) := by
  unfold nb at *
  have e1 : 0 ≤ x.toInt * y.toInt := Int.mul_nonneg h.1 k.1
  have e2 : x.toInt * y.toInt ≤ M * K := Int.mul_le_mul h.2 k.2 k.1 (by omega)
  rw [Int64.toInt_mul, bmod64 (by omega) (by omega)]
  exact ⟨e1, e2⟩
set_option maxRecDepth 100000 in
theorem ptA_nb {g : Nat → Int32} {w s : Nat} {p : Int32} (h : rg (g (2 * w + s)) 0 10) : nb (ptA g w s p) 10 := by
  unfold ptA nb
  unfold rg at h
  split
  · rw [Int32.toInt_toInt64]; exact h
  · rw [Int64.toInt_sub, Int32.toInt_toInt64, show (10 : Int64).toInt = 10 by decide, bmod64 (by omega) (by omega)]
    omega
set_option maxRecDepth 100000 in
theorem prd_nb {g hw hp : Nat → Int32} {s n : Nat} (hg : ∀ k, k < n → rg (g (2 * (hw k).toNatClampNeg + s)) 0 10) : ∀ (r k : Nat) (y : Int64) (m : Nat), k + r = n → r + m ≤ 8 → nb y (10 ^ m) → nb (prd g hw hp s r k y) (10 ^ (m + r)) := by
  intro r
  induction r with
  | zero => intro k y m _ _ h; exact h
  | succ r ih =>
    intro k y m h1 h2 h3
    have e : (10 : Int) ^ (m + (r + 1)) = 10 ^ ((m + 1) + r) := by congr 1; omega
    rw [e]
    refine ih (k + 1) _ (m + 1) (by omega) (by omega) ?_
    rw [Int.pow_succ]
    have e2 : (10 : Int) ^ m * 10 < 9223372036854775808 := by
      have : m ≤ 7 := by omega
      rcases (by omega : m = 0 ∨ m = 1 ∨ m = 2 ∨ m = 3 ∨ m = 4 ∨ m = 5 ∨ m = 6 ∨ m = 7) with rfl | rfl | rfl | rfl | rfl | rfl | rfl | rfl <;> decide
    exact nb_mul h3 (ptA_nb (hg k (by omega))) e2
set_option maxRecDepth 100000 in
theorem nb_add {x y : Int64} {M K : Int} (h : nb x M) (k : nb y K) (hM : M + K < 9223372036854775808) : (x + y).toInt = x.toInt + y.toInt := by
  unfold nb at *
  rw [Int64.toInt_add, bmod64 (by omega) (by omega)]
set_option maxRecDepth 100000 in
theorem pfin_rg {a b : Int64} (ha : nb a 1000000000) (hb : nb b 1000000000) : rg (pfin a b) 0 1000000 := by
  unfold pfin
  split
  · unfold rg; decide
  · rename_i h
    have e := nb_add ha hb (by decide)
    have hm := nb_mul (K := 1000000) ha (show nb 1000000 1000000 from by unfold nb; decide) (by decide)
    have em : (a * 1000000).toInt = a.toInt * 1000000 := by
      unfold nb at ha
      rw [Int64.toInt_mul, show (1000000 : Int64).toInt = 1000000 by decide, bmod64 (by omega) (by omega)]
    unfold nb at ha hb hm
    have hp : 0 < a.toInt + b.toInt := by
      rcases (by omega : a.toInt + b.toInt = 0 ∨ 0 < a.toInt + b.toInt) with q | q
      · exfalso; apply h
        apply Int64.toInt_inj.mp
        rw [e, q]; decide
      · exact q
    have q1 : ((a * 1000000) / (a + b)).toInt = (a.toInt * 1000000) / (a.toInt + b.toInt) := by
      rw [Int64.toInt_div, em, e, Int.tdiv_eq_ediv_of_nonneg (by omega)]
      apply bmod64
      · have := Int.ediv_nonneg (a := a.toInt * 1000000) (b := a.toInt + b.toInt) (by omega) (by omega)
        omega
      · have := Int.ediv_le_self (a := a.toInt * 1000000) (a.toInt + b.toInt) (by omega)
        omega
    have q2 : 0 ≤ (a.toInt * 1000000) / (a.toInt + b.toInt) := Int.ediv_nonneg (by omega) (by omega)
    have q3 : (a.toInt * 1000000) / (a.toInt + b.toInt) ≤ 1000000 := by
      apply Int.ediv_le_of_le_mul hp
      rw [Int.mul_comm 1000000]
      exact Int.mul_le_mul_of_nonneg_right (by omega) (by decide)
    unfold rg
    rw [Int64.toInt_toInt32, q1, bmod32 (by omega) (by omega)]
    exact ⟨q2, q3⟩
set_option maxRecDepth 100000 in
theorem lg_pos (x : Int64) : 0 < lg_cmp x 0 ↔ 0 < x := lg_gt x 0
set_option maxRecDepth 100000 in
theorem c_pfin {u : Mm} {a b : Int64} (ha : nb a 1000000000) (hb : nb b 1000000000) : bX2_probablyWith_44 u a b = some (pfin a b, u) := by
  have e := nb_add ha hb (by decide)
  unfold nb at ha hb
  unfold bX2_probablyWith_44 bX2_probablyWith_71 pfin
  rw [oJ_of]
  by_cases c : a + b = 0
  · rw [if_pos c, if_neg (by rw [lg_pos, c]; decide)]
  · have hp : 0 < a + b := by
      rw [Int64.lt_iff_toInt_lt, e, show (0 : Int64).toInt = 0 by decide]
      rcases (by omega : a.toInt + b.toInt = 0 ∨ 0 < a.toInt + b.toInt) with q | q
      · exfalso; apply c
        apply Int64.toInt_inj.mp
        rw [e, q]; decide
      · exact q
    rw [if_neg c, if_pos ((lg_pos _).mpr hp), if_pos c]
set_option maxRecDepth 100000 in
theorem lg_eq (x y : Int64) : lg_cmp x y = 0 ↔ x = y := by
  unfold lg_cmp
  by_cases h : x > y
  · rw [if_pos h]
    constructor
    · intro q; exact absurd q (by decide)
    · intro q; subst q; exact absurd h (Int64.lt_irrefl)
  · rw [if_neg h]
    by_cases e : x = y
    · rw [if_pos e]; exact ⟨fun _ => e, fun _ => rfl⟩
    · rw [if_neg e]; exact ⟨fun q => absurd q (by decide), fun q => absurd q e⟩
set_option maxRecDepth 100000 in
theorem m_pfin {u : Mm} {a b c : Int64} : bX9_probablyBy_132 u a b c = some (pfin a (c * b), u) := by
  unfold bX9_probablyBy_132 bX9_probablyBy_161 pfin
  rw [oJ_of]
  by_cases q : a + c * b = 0
  · rw [if_pos q, if_pos ((lg_eq _ _).mpr q)]
  · rw [if_neg q, if_neg (fun z => q ((lg_eq _ _).mp z)), if_pos q]
set_option maxRecDepth 100000 in
theorem c_partAt {u : Mm} (h : hSh u) {w s : Nat} (hw : w < 8) (hs : s < 2) {p : Int32} : fX2_partAt u 17 (nI w) (nI s) p = some (if p = 1 then mI u 7 (2 * w + s) else 10 - mI u 7 (2 * w + s), u) := by
  unfold fX2_partAt bX2_partAt_30 fX8_pair
  rw [oK_of (sh17 h), rf17_0 h, oNn_of, oK_of (sh1 h), rf1_4 h, oNn_of, oB_of, ixq, oA_k (sh7 h) (by omega) (by decide), oI_of, clm (by omega)]
  split <;> rfl
set_option maxRecDepth 100000 in
theorem c_partL {g : Nat → Int32} {w s : Nat} {p : Int32} (h : rg (g (2 * w + s)) 0 10) : (if p = 1 then g (2 * w + s) else 10 - g (2 * w + s)).toInt64 = ptA g w s p := by
  unfold ptA
  split
  · rfl
  · unfold rg at h
    apply Int64.toInt_inj.mp
    rw [Int32.toInt_toInt64, Int64.toInt_sub, Int32.toInt_toInt64, Int32.toInt_sub, show (10 : Int32).toInt = 10 by decide, show (10 : Int64).toInt = 10 by decide, bmod64 (by omega) (by omega), bmod32 (by omega) (by omega)]
set_option maxRecDepth 100000 in
theorem m_pausesOf {u : Mm} (h : hSh u) {w s : Nat} (hw : w < 8) (hs : s < 2) {p : Int32} : fX9_pausesOf u 45 (nI w) (nI s) p = some (if p = 1 then (mI u 47 (83 + 2 * w + s)).toInt64 else 10 - (mI u 47 (83 + 2 * w + s)).toInt64, u) := by
  unfold fX9_pausesOf bX9_pausesOf_33
  rw [show (83 : Int32) = nI 83 from rfl, ixp, m_rowAt h (by omega)]
  split <;> rfl
set_option maxRecDepth 100000 in
theorem c_parts {u : Mm} (h : hSh u) {n s : Nat} (hn : mI u 1 7 = nI n) (hN : n ≤ 8) (hs : s < 2) (hw : ∀ k, k < n → rg (mI u 8 k) 0 7) (hg : ∀ w, w < 8 → rg (mI u 7 (2 * w + s)) 0 10) {N : Nat} : ∀ (r k : Nat) (y : Int64), k + r = n → rX2_partsOf_5 (N + r + 1) u 17 (nI s) y (nI k) = some (prd (mI u 7) (mI u 8) (mI u 9) s r k y, u) := by
  intro r
  induction r with
  | zero =>
    intro k y hk
    show bX2_partsOf_5 _ u 17 (nI s) y (nI k) = _
    unfold bX2_partsOf_5
    rw [oK_of (sh17 h), rf17_0 h, oNn_of, oK_of (sh1 h), oI_of, hn, if_pos (nI_le (by omega) (by omega))]
    rfl
  | succ r ih =>
    intro k y hk
    obtain ⟨w, hw1, hw2⟩ := rg_nI (M := 7) (hw k (by omega)) (by decide)
    show bX2_partsOf_5 (rX2_partsOf_5 (N + r + 1)) u 17 (nI s) y (nI k) = _
    unfold bX2_partsOf_5
    rw [oK_of (sh17 h), rf17_0 h, oNn_of, oK_of (sh1 h), oI_of, hn, if_neg (nI_ge (by omega) (by omega)), if_neg (show ¬ (8 : Int32) ≤ nI k from nI_ge (b := 8) (by omega) (by decide)), oK_of (sh17 h), oNn_of, oK_of (sh1 h), rf1_5 h, oNn_of, oA_k (sh8 h) (by omega) (by decide), oI_of, clm (by omega), oK_of (sh17 h), oNn_of, oK_of (sh1 h), rf1_6 h, oNn_of, oA_k (sh9 h) (by omega) (by decide), oI_of, oR_of (sh17 h), hw2, c_partAt h (by omega) hs, oB_of, oJ_of, c_partL (hg w (by omega)), nI_1, ih (k + 1) _ (by omega)]
    show _ = some (prd (mI u 7) (mI u 8) (mI u 9) s r (k + 1) (y * ptA (mI u 7) (mI u 8 k).toNatClampNeg s (mI u 9 k)), u)
    rw [hw2, clm (by omega)]
set_option maxRecDepth 100000 in
theorem m_parts {u : Mm} (h : hSh u) {n : Nat} {g hw hp : Nat → Int32} (hn : mI u 47 0 = nI n) (hN : n ≤ 8) (hw1 : ∀ k, k < n → mI u 47 (99 + 2 * k) = hw k) (hp1 : ∀ k, k < n → mI u 47 (100 + 2 * k) = hp k) (hg1 : ∀ w s, w < 8 → s < 2 → mI u 47 (83 + 2 * w + s) = g (2 * w + s)) (hwr : ∀ k, k < n → rg (hw k) 0 7) {N : Nat} {x p : Int32} : ∀ (r k : Nat) (y z : Int64), k + r = n → rX9_probablyBy_8 (N + r + 1) u 45 x p y z (nI k) = (if x = -1 then bX9_probablyBy_112 u 45 x p (prd g hw hp 1 r k z) 1 (prd g hw hp 0 r k y) else oR u 45 9 (oB (fX9_pausesOf u 45 x 0 p) (fun w3 u4 => bX9_probablyBy_112 u4 45 x p (prd g hw hp 1 r k z) w3 (prd g hw hp 0 r k y)))) := by
  intro r
  induction r with
  | zero =>
    intro k y z hk
    show bX9_probablyBy_8 _ u 45 x p y z (nI k) = _
    unfold bX9_probablyBy_8
    rw [show (0 : Int32) = nI 0 from rfl, m_rowAt h (by decide), hn, if_pos (nI_le (by omega) (by omega))]
    rfl
  | succ r ih =>
    intro k y z hk
    obtain ⟨w, hw2, hw3⟩ := rg_nI (M := 7) (hwr k (by omega)) (by decide)
    have e1 : (99 : Int32) + 2 * nI k = nI (99 + 2 * k) := by rw [show (99 : Int32) = nI 99 from rfl, show (2 : Int32) = nI 2 from rfl, nI_mul, nI_add]
    have e2 : nI (99 + 2 * k) + 1 = nI (100 + 2 * k) := by rw [nI_1]; congr 1; omega
    have p0 := m_pausesOf h (w := w) (s := 0) (by omega) (by decide) (p := hp k)
    have p1 := m_pausesOf h (w := w) (s := 1) (by omega) (by decide) (p := hp k)
    rw [hg1 w 0 (by omega) (by decide)] at p0
    rw [hg1 w 1 (by omega) (by decide)] at p1
    show bX9_probablyBy_8 (rX9_probablyBy_8 (N + r + 1)) u 45 x p y z (nI k) = _
    unfold bX9_probablyBy_8
    rw [e1, e2, show oK u 45 9 54 (oNn (mR u 45 3) fun e1 => oA u e1 10 0 (oI (mI u e1 (Int32.toNatClampNeg 0)) _)) = _ from m_rowAt (n := 0) h (by decide), hn, if_neg (nI_ge (by omega) (by omega)), m_rowAt h (by omega), hw1 k (by omega), m_rowAt h (by omega), hp1 k (by omega), oR_of (sh45 h), hw3, show fX9_pausesOf u 45 (nI w) 0 (hp k) = _ from p0, oB_of, oJ_of, m_rowAt h (by omega), hw1 k (by omega), m_rowAt h (by omega), hp1 k (by omega), oR_of (sh45 h), hw3, show fX9_pausesOf u 45 (nI w) 1 (hp k) = _ from p1, oB_of, oJ_of, nI_1, ih (k + 1) _ _ (by omega)]
    have q0 : ∀ y, prd g hw hp 0 (r + 1) k y = prd g hw hp 0 r (k + 1) (y * ptA g w 0 (hp k)) := fun y => by
      show prd g hw hp 0 r (k + 1) (y * ptA g (hw k).toNatClampNeg 0 (hp k)) = _
      rw [hw3, clm (by omega)]
    have q1 : ∀ y, prd g hw hp 1 (r + 1) k y = prd g hw hp 1 r (k + 1) (y * ptA g w 1 (hp k)) := fun y => by
      show prd g hw hp 1 r (k + 1) (y * ptA g (hw k).toNatClampNeg 1 (hp k)) = _
      rw [hw3, clm (by omega)]
    rw [q0, q1]
    rfl

set_option maxRecDepth 100000 in
theorem c_prob {u : Mm} (h : hSh u) {n : Nat} (hn : mI u 1 7 = nI n) (hN : n ≤ 8) (hw : ∀ k, k < n → rg (mI u 8 k) 0 7) (hg : ∀ w s, w < 8 → s < 2 → rg (mI u 7 (2 * w + s)) 0 10) {x p : Int32} : fX2_probablyWith u 17 x p = (if 0 ≤ x ∧ x ≤ 7 then some (pfin (prd (mI u 7) (mI u 8) (mI u 9) 0 n 0 1 * ptA (mI u 7) x.toNatClampNeg 0 p) (prd (mI u 7) (mI u 8) (mI u 9) 1 n 0 1 * ptA (mI u 7) x.toNatClampNeg 1 p), u) else some (pfin (prd (mI u 7) (mI u 8) (mI u 9) 0 n 0 1) (prd (mI u 7) (mI u 8) (mI u 9) 1 n 0 1), u)) := by
  have hx : ∀ s, s < 2 → ∀ k, k < n → rg (mI u 7 (2 * (mI u 8 k).toNatClampNeg + s)) 0 10 := by
    intro s hs k hk
    obtain ⟨w, hw2, hw3⟩ := rg_nI (M := 7) (hw k hk) (by decide)
    rw [hw3, clm (by omega)]
    exact hg w s (by omega) hs
  have b0 : nb (prd (mI u 7) (mI u 8) (mI u 9) 0 n 0 1) 100000000 := by
    have q := prd_nb (hp := mI u 9) (hx 0 (by decide)) n 0 1 0 (by omega) (by omega) (by unfold nb; decide)
    unfold nb at q ⊢
    have : (10 : Int) ^ (0 + n) ≤ 100000000 := by
      rcases (by omega : n = 0 ∨ n = 1 ∨ n = 2 ∨ n = 3 ∨ n = 4 ∨ n = 5 ∨ n = 6 ∨ n = 7 ∨ n = 8) with rfl | rfl | rfl | rfl | rfl | rfl | rfl | rfl | rfl <;> decide
    omega
  have b1 : nb (prd (mI u 7) (mI u 8) (mI u 9) 1 n 0 1) 100000000 := by
    have q := prd_nb (hp := mI u 9) (hx 1 (by decide)) n 0 1 0 (by omega) (by omega) (by unfold nb; decide)
    unfold nb at q ⊢
    have : (10 : Int) ^ (0 + n) ≤ 100000000 := by
      rcases (by omega : n = 0 ∨ n = 1 ∨ n = 2 ∨ n = 3 ∨ n = 4 ∨ n = 5 ∨ n = 6 ∨ n = 7 ∨ n = 8) with rfl | rfl | rfl | rfl | rfl | rfl | rfl | rfl | rfl <;> decide
    omega
  have w9 : ∀ {x : Int64}, nb x 100000000 → nb x 1000000000 := fun q => ⟨q.1, Int.le_trans q.2 (by decide)⟩
  have p0 : fX2_partsOf u 17 0 = some (prd (mI u 7) (mI u 8) (mI u 9) 0 n 0 1, u) := by
    unfold fX2_partsOf
    rw [show hwF = (999999 - n) + n + 1 by unfold hwF; omega]
    exact c_parts h (s := 0) hn hN (by decide) hw (fun w hw => hg w 0 hw (by decide)) n 0 1 (by omega)
  have p1 : fX2_partsOf u 17 1 = some (prd (mI u 7) (mI u 8) (mI u 9) 1 n 0 1, u) := by
    unfold fX2_partsOf
    rw [show hwF = (999999 - n) + n + 1 by unfold hwF; omega]
    exact c_parts h (s := 1) hn hN (by decide) hw (fun w hw => hg w 1 hw (by decide)) n 0 1 (by omega)
  unfold fX2_probablyWith
  rw [oR_of (sh17 h), p0, oB_of, oR_of (sh17 h), p1, oB_of, c_isWord, oB_of]
  by_cases c : 0 ≤ x ∧ x ≤ 7
  · rw [if_pos c, if_neg (by decide), if_pos c]
    obtain ⟨w, hw1, rfl⟩ := nIof (n := 7) 7 (by decide) c
    rw [oR_of (sh17 h), show fX2_partAt u 17 (nI w) 0 p = _ from c_partAt (s := 0) h (by omega) (by decide), oB_of, oJ_of, oR_of (sh17 h), show fX2_partAt u 17 (nI w) 1 p = _ from c_partAt (s := 1) h (by omega) (by decide), oB_of, oJ_of, c_partL (hg w 0 (by omega) (by decide)), c_partL (hg w 1 (by omega) (by decide)), clm (by omega), c_pfin]
    · exact nb_mul b0 (ptA_nb (hg w 0 (by omega) (by decide))) (by decide)
    · exact nb_mul b1 (ptA_nb (hg w 1 (by omega) (by decide))) (by decide)
  · rw [if_neg c, if_pos rfl, if_neg c, c_pfin (w9 b0) (w9 b1)]
set_option maxRecDepth 100000 in
theorem m_prob0 {u : Mm} (h : hSh u) {n : Nat} {g hw hp : Nat → Int32} (hn : mI u 47 0 = nI n) (hN : n ≤ 8) (hw1 : ∀ k, k < n → mI u 47 (99 + 2 * k) = hw k) (hp1 : ∀ k, k < n → mI u 47 (100 + 2 * k) = hp k) (hg1 : ∀ w s, w < 8 → s < 2 → mI u 47 (83 + 2 * w + s) = g (2 * w + s)) (hwr : ∀ k, k < n → rg (hw k) 0 7) {p : Int32} : fX9_probablyBy u 45 (-1) p = some (pfin (prd g hw hp 0 n 0 1) (prd g hw hp 1 n 0 1), u) := by
  unfold fX9_probablyBy
  rw [show hwF = (999999 - n) + n + 1 by unfold hwF; omega, show (0 : Int32) = nI 0 from rfl, m_parts h hn hN hw1 hp1 hg1 hwr n 0 1 1 (by omega), if_pos rfl]
  unfold bX9_probablyBy_112
  rw [oJ_of, if_pos rfl, m_pfin, Int64.mul_one, Int64.mul_one]
set_option maxRecDepth 100000 in
theorem m_prob1 {u : Mm} (h : hSh u) {n : Nat} {g hw hp : Nat → Int32} (hn : mI u 47 0 = nI n) (hN : n ≤ 8) (hw1 : ∀ k, k < n → mI u 47 (99 + 2 * k) = hw k) (hp1 : ∀ k, k < n → mI u 47 (100 + 2 * k) = hp k) (hg1 : ∀ w s, w < 8 → s < 2 → mI u 47 (83 + 2 * w + s) = g (2 * w + s)) (hwr : ∀ k, k < n → rg (hw k) 0 7) {w : Nat} (hw8 : w < 8) {p : Int32} : fX9_probablyBy u 45 (nI w) p = some (pfin (prd g hw hp 0 n 0 1 * ptA g w 0 p) (prd g hw hp 1 n 0 1 * ptA g w 1 p), u) := by
  have p0 := m_pausesOf h (w := w) (s := 0) hw8 (by decide) (p := p)
  have p1 := m_pausesOf h (w := w) (s := 1) hw8 (by decide) (p := p)
  rw [hg1 w 0 (by omega) (by decide)] at p0
  rw [hg1 w 1 (by omega) (by decide)] at p1
  have hne : ¬ nI w = -1 := (by decide +kernel : ∀ w, w < 8 → ¬ nI w = -1) w hw8
  unfold fX9_probablyBy
  rw [show hwF = (999999 - n) + n + 1 by unfold hwF; omega, show rX9_probablyBy_8 (999999 - n + n + 1) u 45 (nI w) p 1 1 0 = _ from m_parts h hn hN hw1 hp1 hg1 hwr n 0 1 1 (by omega), if_neg hne, oR_of (sh45 h), show fX9_pausesOf u 45 (nI w) 0 p = _ from p0, oB_of]
  unfold bX9_probablyBy_112
  rw [oJ_of, if_neg hne, oR_of (sh45 h), show fX9_pausesOf u 45 (nI w) 1 p = _ from p1, oB_of, m_pfin]
  rfl
set_option maxRecDepth 100000 in
/-- what both need of what was heard -/
theorem heard {LR : Mm → Prop} {u : Mm} (h : Rel LR u) : ∃ n, n ≤ 8 ∧ mI u 1 7 = nI n ∧ mI u 47 0 = nI n ∧ (∀ k, k < n → mI u 47 (99 + 2 * k) = mI u 8 k) ∧ (∀ k, k < n → mI u 47 (100 + 2 * k) = mI u 9 k) ∧ (∀ w s, w < 8 → s < 2 → mI u 47 (83 + 2 * w + s) = mI u 7 (2 * w + s)) ∧ (∀ k, k < n → rg (mI u 8 k) 0 7) ∧ (∀ w s, w < 8 → s < 2 → rg (mI u 7 (2 * w + s)) 0 10) := by
  obtain ⟨n, hn, e⟩ := rw_n h 0 (by decide) (M := 8) rfl (by decide)
  have e' := e
  rw [rw0 h] at e'
  refine ⟨n, hn, e', e, fun k hk => at_heard h.2.1 (by omega), fun k hk => at_heard1 h.2.1 (by omega), fun w s hw hs => at_pauses h.2.1 hw hs, fun k hk => ?_, fun w s hw hs => ?_⟩
  · have q := h.2.1.2.1 (99 + 2 * k) (by omega)
    rw [(by decide +kernel : ∀ n, n < 8 → rlh (99 + 2 * n) = (0, 7)) k (by omega), at_heard h.2.1 (by omega)] at q
    exact q
  · have q := h.2.1.2.1 (83 + 2 * w + s) (by omega)
    rw [(by decide +kernel : ∀ w, w < 8 → ∀ s, s < 2 → rlh (83 + 2 * w + s) = (0, 10)) w hw s hs, at_pauses h.2.1 hw hs] at q
    exact q
set_option maxRecDepth 100000 in
theorem s25 {LR : Mm → Prop} (hF : LRf LR) : hwS_25 (Rel LR) := by
  intro u h
  have hS := h.1
  have hT : hSh (mT u) := hS
  obtain ⟨n, hN, e1, e2, e3, e4, e5, e6, e7⟩ := heard h
  refine ⟨_, _, _, (?_ : _ = some (pfin (prd (mI u 7) (mI u 8) (mI u 9) 0 n 0 1) (prd (mI u 7) (mI u 8) (mI u 9) 1 n 0 1), u)), hR45_Rel hS, (?_ : _ = some (pfin (prd (mI u 7) (mI u 8) (mI u 9) 0 n 0 1) (prd (mI u 7) (mI u 8) (mI u 9) 1 n 0 1), mT u)), Rel_mT hF h⟩
  · show fX8_probably u 0 = _
    unfold fX8_probably
    rw [oK_of (sh0 hS), rf0_2 hS, oNn_of, oR_of (sh17 hS), c_prob hS e1 hN e6 e7, if_neg (by decide), oB_of]
  · show fX9_probably u 45 = _
    unfold fX9_probably
    rw [oK_of (sh45 hS), oT, oR_of (sh45 hT), m_prob0 hT e2 hN e3 e4 e5 e6, oB_of]
/-! ask -/
def dfA (g hw hp : Nat → Int32) (n w : Nat) : Int32 := iabs (pfin (prd g hw hp 0 n 0 1 * ptA g w 0 1) (prd g hw hp 1 n 0 1 * ptA g w 1 1) - pfin (prd g hw hp 0 n 0 1 * ptA g w 0 0) (prd g hw hp 1 n 0 1 * ptA g w 1 0))
def wgo (D : Nat → Int32) : Nat → Nat → Nat → Nat
  | 0, _, b => b
  | r + 1, k, b => wgo D r (k + 1) (if D k ≤ D b then b else k)
set_option maxRecDepth 100000 in
theorem wgo_lt {D : Nat → Int32} : ∀ r k b, k + r = 8 → b < 8 → wgo D r k b < 8
  | 0, _, _, _, hb => hb
  | r + 1, k, b, hk, hb => by
    show wgo D r (k + 1) (if D k ≤ D b then b else k) < 8
    apply wgo_lt r
    · omega
    · split <;> omega
set_option maxRecDepth 100000 in
theorem c_diff {u : Mm} (h : hSh u) {n : Nat} (hn : mI u 1 7 = nI n) (hN : n ≤ 8) (hw : ∀ k, k < n → rg (mI u 8 k) 0 7) (hg : ∀ w s, w < 8 → s < 2 → rg (mI u 7 (2 * w + s)) 0 10) {w : Nat} (hw8 : w < 8) : fX2_differenceAt u 17 (nI w) = some (dfA (mI u 7) (mI u 8) (mI u 9) n w, u) := by
  have c1 : 0 ≤ nI w ∧ nI w ≤ 7 := ⟨nI_pos' (by omega), nI_le (b := 7) (by omega) (by decide)⟩
  unfold fX2_differenceAt
  rw [oR_of (sh17 h), c_prob h hn hN hw hg, if_pos c1, oB_of, oR_of (sh17 h), c_prob h hn hN hw hg, if_pos c1, oB_of, c_abs, oB_of, clm (by omega)]
  rfl
set_option maxRecDepth 100000 in
theorem c_wta {u : Mm} (h : hSh u) {n : Nat} (hn : mI u 1 7 = nI n) (hN : n ≤ 8) (hw : ∀ k, k < n → rg (mI u 8 k) 0 7) (hg : ∀ w s, w < 8 → s < 2 → rg (mI u 7 (2 * w + s)) 0 10) {N : Nat} : ∀ (r k b : Nat), k + r = 8 → b < 8 → rX2_wordToAsk_4 (N + r + 1) u 17 (nI b) (nI k) = some (nI (wgo (dfA (mI u 7) (mI u 8) (mI u 9) n) r k b), u) := by
  intro r
  induction r with
  | zero =>
    intro k b hk hb
    show bX2_wordToAsk_4 _ u 17 (nI b) (nI k) = _
    unfold bX2_wordToAsk_4
    rw [if_pos (show (8 : Int32) ≤ nI k from nI_le (a := 8) (by omega) (by omega))]
    rfl
  | succ r ih =>
    intro k b hk hb
    show bX2_wordToAsk_4 (rX2_wordToAsk_4 (N + r + 1)) u 17 (nI b) (nI k) = _
    unfold bX2_wordToAsk_4 bX2_wordToAsk_25
    rw [if_neg (show ¬ (8 : Int32) ≤ nI k from nI_ge (b := 8) (by omega) (by decide)), oR_of (sh17 h), c_diff h hn hN hw hg (by omega), oB_of, oR_of (sh17 h), c_diff h hn hN hw hg hb, oB_of, nI_1]
    show _ = some (nI (wgo _ r (k + 1) (if dfA (mI u 7) (mI u 8) (mI u 9) n k ≤ dfA (mI u 7) (mI u 8) (mI u 9) n b then b else k)), u)
    by_cases c : dfA (mI u 7) (mI u 8) (mI u 9) n k ≤ dfA (mI u 7) (mI u 8) (mI u 9) n b
    · rw [if_pos c, if_pos c]; exact ih (k + 1) b (by omega) hb
    · rw [if_neg c, if_neg c]; exact ih (k + 1) k (by omega) (by omega)
set_option maxRecDepth 100000 in
theorem m_ask1 {u : Mm} (h : hSh u) {n : Nat} {g hw hp : Nat → Int32} (hn : mI u 47 0 = nI n) (hN : n ≤ 8) (hw1 : ∀ k, k < n → mI u 47 (99 + 2 * k) = hw k) (hp1 : ∀ k, k < n → mI u 47 (100 + 2 * k) = hp k) (hg1 : ∀ w s, w < 8 → s < 2 → mI u 47 (83 + 2 * w + s) = g (2 * w + s)) (hwr : ∀ k, k < n → rg (hw k) 0 7) {k : Nat} (hk : k < 8) {N : Nat} {x m i : Int32} : rX9_ask_24 (N + 1) u 45 x m i (nI k) = if dfA g hw hp n k ≤ m then rX9_ask_24 N u 45 x m i (nI (k + 1)) else rX9_ask_24 N u 45 x (dfA g hw hp n k) (nI k) (nI (k + 1)) := by
  show bX9_ask_24 (rX9_ask_24 N) u 45 x m i (nI k) = _
  unfold bX9_ask_24 bX9_ask_63 bX9_ask_76
  rw [if_neg (show ¬ (8 : Int32) ≤ nI k from nI_ge (b := 8) (by omega) (by decide)), oR_of (sh45 h), m_prob1 h hn hN hw1 hp1 hg1 hwr hk, oB_of, oR_of (sh45 h), m_prob1 h hn hN hw1 hp1 hg1 hwr hk, oB_of, m_size, oB_of, nI_1]
  show (if dfA g hw hp n k ≤ m then _ else _) = _
  by_cases c : dfA g hw hp n k ≤ m
  · rw [if_pos c, if_pos c]; exact if_pos c
  · rw [if_neg c, if_neg c]; exact if_neg c
set_option maxRecDepth 100000 in
theorem m_asks {u : Mm} (h : hSh u) {n : Nat} {g hw hp : Nat → Int32} (hn : mI u 47 0 = nI n) (hN : n ≤ 8) (hw1 : ∀ k, k < n → mI u 47 (99 + 2 * k) = hw k) (hp1 : ∀ k, k < n → mI u 47 (100 + 2 * k) = hp k) (hg1 : ∀ w s, w < 8 → s < 2 → mI u 47 (83 + 2 * w + s) = g (2 * w + s)) (hwr : ∀ k, k < n → rg (hw k) 0 7) {N : Nat} {x : Int32} : ∀ (r k b : Nat), k + r = 8 → b < 8 → rX9_ask_24 (N + r + 1) u 45 x (dfA g hw hp n b) (nI b) (nI k) = some (if x = 0 then nI (wgo (dfA g hw hp n) r k b) else dfA g hw hp n (wgo (dfA g hw hp n) r k b), u) := by
  intro r
  induction r with
  | zero =>
    intro k b hk hb
    show bX9_ask_24 _ u 45 x _ (nI b) (nI k) = _
    unfold bX9_ask_24 bX9_ask_92
    rw [if_pos (show (8 : Int32) ≤ nI k from nI_le (a := 8) (by omega) (by omega))]
    split <;> rfl
  | succ r ih =>
    intro k b hk hb
    rw [show N + (r + 1) + 1 = (N + r + 1) + 1 by omega, m_ask1 h hn hN hw1 hp1 hg1 hwr (by omega)]
    show _ = some (if x = 0 then nI (wgo _ r (k + 1) (if dfA g hw hp n k ≤ dfA g hw hp n b then b else k)) else dfA g hw hp n (wgo _ r (k + 1) (if dfA g hw hp n k ≤ dfA g hw hp n b then b else k)), u)
    by_cases c : dfA g hw hp n k ≤ dfA g hw hp n b
    · rw [if_pos c, if_pos c]; exact ih (k + 1) b (by omega) hb
    · rw [if_neg c, if_neg c]; exact ih (k + 1) k (by omega) (by omega)
set_option maxRecDepth 100000 in
theorem iabs_nn {a b : Int32} (ha : rg a 0 1000000) (hb : rg b 0 1000000) : ¬ iabs (a - b) ≤ -1 := by
  unfold rg at ha hb
  have e : (a - b).toInt = a.toInt - b.toInt := by rw [Int32.toInt_sub, bmod32 (by omega) (by omega)]
  have e0 : (0 : Int32).toInt = 0 := by decide
  have e1 : (-1 : Int32).toInt = -1 := by decide
  rw [Int32.le_iff_toInt_le, e1]
  unfold iabs
  by_cases c : 0 ≤ a - b
  · rw [if_pos c]
    rw [Int32.le_iff_toInt_le, e0] at c
    omega
  · rw [if_neg c, Int32.toInt_neg, e]
    rw [Int32.le_iff_toInt_le, e0, e] at c
    rw [bmod32 (by omega) (by omega)]
    omega
set_option maxRecDepth 100000 in
theorem s26 {LR : Mm → Prop} (hF : LRf LR) : hwS_26 (Rel LR) := by
  intro x u h
  have hS := h.1
  have hT : hSh (mT u) := hS
  obtain ⟨n, hN, e1, e2, e3, e4, e5, e6, e7⟩ := heard h
  by_cases c : 0 ≤ x ∧ x ≤ 1
  · have hx : ∀ s, s < 2 → ∀ k, k < n → rg (mI u 7 (2 * (mI u 8 k).toNatClampNeg + s)) 0 10 := by
      intro s hs k hk
      obtain ⟨w, hw2, hw3⟩ := rg_nI (M := 7) (e6 k hk) (by decide)
      rw [hw3, clm (by omega)]
      exact e7 w s (by omega) hs
    have hb : ∀ s, s < 2 → nb (prd (mI u 7) (mI u 8) (mI u 9) s n 0 1) 100000000 := by
      intro s hs
      have q := prd_nb (hp := mI u 9) (hx s hs) n 0 1 0 (by omega) (by omega) (by unfold nb; decide)
      unfold nb at q ⊢
      have : (10 : Int) ^ (0 + n) ≤ 100000000 := by
        rcases (by omega : n = 0 ∨ n = 1 ∨ n = 2 ∨ n = 3 ∨ n = 4 ∨ n = 5 ∨ n = 6 ∨ n = 7 ∨ n = 8) with rfl | rfl | rfl | rfl | rfl | rfl | rfl | rfl | rfl <;> decide
      omega
    have hd0 : ¬ dfA (mI u 7) (mI u 8) (mI u 9) n 0 ≤ -1 := iabs_nn (pfin_rg (nb_mul (hb 0 (by decide)) (ptA_nb (e7 0 0 (by decide) (by decide))) (by decide)) (nb_mul (hb 1 (by decide)) (ptA_nb (e7 0 1 (by decide) (by decide))) (by decide))) (pfin_rg (nb_mul (hb 0 (by decide)) (ptA_nb (e7 0 0 (by decide) (by decide))) (by decide)) (nb_mul (hb 1 (by decide)) (ptA_nb (e7 0 1 (by decide) (by decide))) (by decide)))
    generalize hD : dfA (mI u 7) (mI u 8) (mI u 9) n = D at hd0
    have hl : wgo D 7 1 0 < 8 := wgo_lt 7 1 0 (by decide) (by decide)
    refine ⟨if x = 0 then nI (wgo D 7 1 0) else D (wgo D 7 1 0), u, mT u, ?_, hR45_Rel hS, ?_, Rel_mT hF h⟩
    · show fX8_ask u 0 x = _
      have q : fX2_wordToAsk u 17 = some (nI (wgo D 7 1 0), u) := by
        unfold fX2_wordToAsk
        rw [show hwF = 999992 + 7 + 1 from rfl, ← hD]
        exact c_wta hS e1 hN e6 e7 7 1 0 (by decide) (by decide)
      unfold fX8_ask bX8_ask_35
      rw [c_within, oB_of, if_pos c, if_neg (by decide), oK_of (sh0 hS), rf0_2 hS, oNn_of, oR_of (sh17 hS), q, oB_of]
      by_cases c0 : x = 0
      · rw [if_pos c0, if_pos c0]
      · rw [if_neg c0, if_neg c0, oK_of (sh0 hS), rf0_2 hS, oNn_of, oR_of (sh17 hS), c_diff hS e1 hN e6 e7 hl, oB_of, hD]
    · show fX9_ask u 45 x = _
      unfold fX9_ask
      rw [oK_of (sh45 hS), oT, m_in1, oB_of, if_pos c, if_neg (by decide), show hwF = (999991 + 7 + 1) + 1 from rfl, show (0 : Int32) = nI 0 from rfl, m_ask1 hT e2 hN e3 e4 e5 e6 (by decide), hD, if_neg hd0]
      have q := m_asks hT e2 hN e3 e4 e5 e6 (N := 999991) (x := x) 7 1 0 (by decide) (by decide)
      rw [hD] at q
      exact q
  · refine ⟨-1, u, mT u, ?_, hR45_Rel hS, ?_, Rel_mT hF h⟩
    · show fX8_ask u 0 x = _
      unfold fX8_ask
      rw [c_within, oB_of, if_neg c, if_pos rfl]
    · show fX9_ask u 45 x = _
      unfold fX9_ask
      rw [oK_of (sh45 hS), oT, m_in1, oB_of, if_neg c, if_pos rfl]
