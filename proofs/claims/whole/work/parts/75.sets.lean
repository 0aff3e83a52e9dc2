/-! ===== sets of eight: treaty ===== -/
def bitN (k w : Nat) : Nat := k / 2 ^ w % 2
def pc (k : Nat) : Nat := bitN k 0 + bitN k 1 + bitN k 2 + bitN k 3 + bitN k 4 + bitN k 5 + bitN k 6 + bitN k 7
set_option maxRecDepth 100000 in
theorem bit_eq : ∀ k, k < 256 → ∀ w, w < 8 → (nI k >>> (nI w &&& 31)) &&& 1 = nI (bitN k w) := by decide +kernel
set_option maxRecDepth 100000 in
theorem bitN01 (k w : Nat) : bitN k w = 0 ∨ bitN k w = 1 := by unfold bitN; omega
set_option maxRecDepth 100000 in
theorem bit_iff {k w : Nat} (hk : k < 256) (hw : w < 8) : ((nI k >>> (nI w &&& 31)) &&& 1 = 1) ↔ bitN k w = 1 := by
  rw [bit_eq k hk w hw]
  rcases bitN01 k w with q | q <;> rw [q] <;> decide
set_option maxRecDepth 100000 in
theorem pc_le (k : Nat) : pc k ≤ 8 := by unfold pc bitN; omega
def bcI (x : Int32) : Int32 :=
  let a := x - (((Int32.toUInt32 x >>> (Int32.toUInt32 1 &&& Int32.toUInt32 31)).toInt32) &&& 1431655765)
  let b := (a &&& 858993459) + (((Int32.toUInt32 a >>> (Int32.toUInt32 2 &&& Int32.toUInt32 31)).toInt32) &&& 858993459)
  let c := (b + ((Int32.toUInt32 b >>> (Int32.toUInt32 4 &&& Int32.toUInt32 31)).toInt32)) &&& 252645135
  let d := c + ((Int32.toUInt32 c >>> (Int32.toUInt32 8 &&& Int32.toUInt32 31)).toInt32)
  (d + ((Int32.toUInt32 d >>> (Int32.toUInt32 16 &&& Int32.toUInt32 31)).toInt32)) &&& 63
set_option maxRecDepth 100000 in
theorem c_bc {u : Mm} {x : Int32} : fJ6_bitCount_0f7a4 u x = some (bcI x, u) := rfl
set_option maxRecDepth 100000 in
theorem bc_pc : ∀ k, k < 256 → bcI (nI k) = nI (pc k) := by decide +kernel
set_option maxRecDepth 100000 in
theorem c_bcn {u : Mm} {k : Nat} (hk : k < 256) : fJ6_bitCount_0f7a4 u (nI k) = some (nI (pc k), u) := by rw [c_bc, bc_pc k hk]
set_option maxRecDepth 100000 in
theorem m_ones {u : Mm} {k : Nat} (hk : k < 256) : fX9_ones u (nI k) = some (nI (pc k), u) := by
  have st : ∀ (N w : Nat) (x : Nat), w < 8 → rX9_ones_4 (N + 1) u (nI k) (nI x) (nI w) = rX9_ones_4 N u (nI k) (nI (x + bitN k w)) (nI (w + 1)) := by
    intro N w x hw
    show bX9_ones_4 (rX9_ones_4 N) u (nI k) (nI x) (nI w) = _
    unfold bX9_ones_4
    rw [if_neg (show ¬ (8 : Int32) ≤ nI w from nI_ge (b := 8) (by omega) (by decide)), oI_of, bit_eq k hk w hw, nI_add, nI_1]
  show rX9_ones_4 (999991 + 9) u (nI k) (nI 0) (nI 0) = _
  rw [st _ 0 _ (by decide), st _ 1 _ (by decide), st _ 2 _ (by decide), st _ 3 _ (by decide), st _ 4 _ (by decide), st _ 5 _ (by decide), st _ 6 _ (by decide), st _ 7 _ (by decide)]
  show some (nI (0 + bitN k 0 + bitN k 1 + bitN k 2 + bitN k 3 + bitN k 4 + bitN k 5 + bitN k 6 + bitN k 7), u) = _
  rw [Nat.zero_add]
  rfl
set_option maxRecDepth 100000 in
theorem m_is {u : Mm} {k w : Nat} (hk : k < 256) (hw : w < 8) : fX9_is u (nI k) (nI w) = some (nI (bitN k w), u) := by
  unfold fX9_is bX9_is_14
  rw [bit_eq k hk w hw]
  rcases bitN01 k w with q | q <;> rw [q] <;> rfl
/-- the best set so far, as the programs have it -/
def bi : Option Nat → Int32
  | none => -1
  | some b => nI b
def fwB (k : Nat) : Option Nat → Bool
  | none => true
  | some b => decide (pc k < pc b)
def fewI : Option Nat → Int32
  | none => 100000000
  | some b => nI (pc b)
def bgo (P : Nat → Bool) : Nat → Nat → Option Nat → Option Nat
  | 0, _, b => b
  | r + 1, k, b => bgo P r (k + 1) (if fwB k b && P k then some k else b)
def cnI : Option Nat → Int32
  | none => -1
  | some b => nI (pc b)
set_option maxRecDepth 100000 in
theorem bgo_no {P : Nat → Bool} {r k : Nat} {b : Option Nat} (h : (fwB k b && P k) = false) : bgo P (r + 1) k b = bgo P r (k + 1) b := by
  show bgo P r (k + 1) (if fwB k b && P k then some k else b) = _
  rw [h]; rfl
set_option maxRecDepth 100000 in
theorem bgo_yes {P : Nat → Bool} {r k : Nat} {b : Option Nat} (h : (fwB k b && P k) = true) : bgo P (r + 1) k b = bgo P r (k + 1) (some k) := by
  show bgo P r (k + 1) (if fwB k b && P k then some k else b) = _
  rw [h]; rfl
def bok (b : Option Nat) : Prop := ∀ x, b = some x → x < 256
set_option maxRecDepth 100000 in
theorem bgo_ok {P : Nat → Bool} : ∀ (r k : Nat) (b : Option Nat), k + r = 256 → bok b → bok (bgo P r k b)
  | 0, _, _, _, h => h
  | r + 1, k, b, hk, h => by
    show bok (bgo P r (k + 1) (if fwB k b && P k then some k else b))
    apply bgo_ok r
    · omega
    · split
      · intro x hx; cases hx; omega
      · exact h
set_option maxRecDepth 100000 in
theorem bi_ne {b : Nat} (h : b < 256) : ¬ nI b = -1 := (by decide +kernel : ∀ b, b < 256 → ¬ nI b = -1) b h
set_option maxRecDepth 100000 in
theorem c_isFewer {u : Mm} {k : Nat} {b : Option Nat} (hk : k < 256) (hb : bok b) : fX2_isFewer u (nI k) (bi b) = some (if fwB k b then 1 else 0, u) := by
  unfold fX2_isFewer bX2_isFewer_16 bX2_isFewer_21
  cases b with
  | none => exact (if_pos rfl).trans (by rw [oZ1]; rfl)
  | some b =>
    have hb' : b < 256 := hb b rfl
    show (if nI b = -1 then _ else _) = _
    rw [if_neg (bi_ne hb'), c_bcn hk, oB_of, show bi (some b) = nI b from rfl, c_bcn hb', oB_of]
    have p1 := pc_le k
    have p2 := pc_le b
    by_cases c : pc k < pc b
    · rw [if_neg (nI_ge c (by omega)), oZ1, show fwB k (some b) = true from decide_eq_true c]; rfl
    · rw [if_pos (nI_le (by omega) (by omega)), oZ0, show fwB k (some b) = false from decide_eq_false c]; rfl
set_option maxRecDepth 100000 in
theorem few_iff {k : Nat} {b : Option Nat} (hb : bok b) : fewI b ≤ nI (pc k) ↔ fwB k b = false := by
  have p1 := pc_le k
  cases b with
  | none =>
    constructor
    · intro q
      exfalso
      have : ∀ j, j ≤ 8 → ¬ (100000000 : Int32) ≤ nI j := by decide
      exact this (pc k) p1 q
    · intro q; cases q
  | some b =>
    have p2 := pc_le b
    show nI (pc b) ≤ nI (pc k) ↔ decide (pc k < pc b) = false
    rw [nI_leI (by omega) (by omega), decide_eq_false_iff_not]
    omega
set_option maxRecDepth 100000 in
theorem c_count {u : Mm} {b : Option Nat} (hb : bok b) {x : Int32} : fX8_countOrSet u (bi b) x = some (if x = 0 then cnI b else bi b, u) := by
  unfold fX8_countOrSet bX8_countOrSet_9 bX8_countOrSet_17
  by_cases c : x = 0
  · rw [if_pos c, if_pos c]
    cases b with
    | none => exact if_pos rfl
    | some b =>
      show (if nI b = -1 then _ else _) = _
      rw [if_neg (bi_ne (hb b rfl)), show bi (some b) = nI b from rfl, c_bcn (hb b rfl), oB_of]
      rfl
  · rw [if_neg c, if_neg c]
/-! treaty -/
def wsm (g : Nat → Int32) (k s : Nat) : Nat → Nat → Int32 → Int32
  | 0, _, x => x
  | r + 1, w, x => wsm g k s r (w + 1) (if bitN k w = 1 then x + g (2 * w + s) else x)
set_option maxRecDepth 100000 in
theorem c_worth {u : Mm} (h : hSh u) {k s : Nat} (hk : k < 256) (hs : s < 2) : fX2_worthOf u 17 (nI k) (nI s) = some (wsm (mI u 6) k s 8 0 0, u) := by
  have st : ∀ (N : Nat) (r w : Nat) (x : Int32), w + r = 8 → rX2_worthOf_5 (N + r + 1) u 17 (nI k) (nI s) x (nI w) = some (wsm (mI u 6) k s r w x, u) := by
    intro N r
    induction r with
    | zero =>
      intro w x hw
      show bX2_worthOf_5 _ u 17 (nI k) (nI s) x (nI w) = _
      unfold bX2_worthOf_5
      rw [if_pos (show (8 : Int32) ≤ nI w from nI_le (a := 8) (by omega) (by omega))]
      rfl
    | succ r ih =>
      intro w x hw
      show bX2_worthOf_5 (rX2_worthOf_5 (N + r + 1)) u 17 (nI k) (nI s) x (nI w) = _
      unfold bX2_worthOf_5 bX2_worthOf_39 fX8_pair
      rw [if_neg (show ¬ (8 : Int32) ≤ nI w from nI_ge (b := 8) (by omega) (by decide)), nI_1]
      show _ = some (wsm (mI u 6) k s r (w + 1) (if bitN k w = 1 then x + mI u 6 (2 * w + s) else x), u)
      by_cases c : bitN k w = 1
      · rw [if_pos ((bit_iff hk (by omega)).mpr c), if_pos c, oK_of (sh17 h), rf17_0 h, oNn_of, oK_of (sh1 h), rf1_3 h, oNn_of, oB_of, ixq, oA_k (sh6 h) (by omega) (by decide), oI_of, oI_of, clm (by omega)]
        exact ih (w + 1) _ (by omega)
      · rw [if_neg (fun q => c ((bit_iff hk (by omega)).mp q)), if_neg c]
        exact ih (w + 1) _ (by omega)
  exact st 999991 8 0 0 (by decide)
set_option maxRecDepth 100000 in
theorem m_worth {u : Mm} (h : hSh u) {g : Nat → Int32} (hg : ∀ w s, w < 8 → s < 2 → mI u 47 (67 + 2 * w + s) = g (2 * w + s)) {k s : Nat} (hk : k < 256) (hs : s < 2) : fX9_worthOf u 45 (nI k) (nI s) = some (wsm g k s 8 0 0, u) := by
  have st : ∀ (N : Nat) (r w : Nat) (x : Int32), w + r = 8 → rX9_worthOf_5 (N + r + 1) u 45 (nI k) (nI s) x (nI w) = some (wsm g k s r w x, u) := by
    intro N r
    induction r with
    | zero =>
      intro w x hw
      show bX9_worthOf_5 _ u 45 (nI k) (nI s) x (nI w) = _
      unfold bX9_worthOf_5
      rw [if_pos (show (8 : Int32) ≤ nI w from nI_le (a := 8) (by omega) (by omega))]
      rfl
    | succ r ih =>
      intro w x hw
      show bX9_worthOf_5 (rX9_worthOf_5 (N + r + 1)) u 45 (nI k) (nI s) x (nI w) = _
      unfold bX9_worthOf_5 bX9_worthOf_40
      rw [if_neg (show ¬ (8 : Int32) ≤ nI w from nI_ge (b := 8) (by omega) (by decide)), nI_1, m_is hk (by omega), oB_of]
      show _ = some (wsm g k s r (w + 1) (if bitN k w = 1 then x + g (2 * w + s) else x), u)
      rcases bitN01 k w with c | c
      · rw [c, if_pos (show nI 0 = 0 from rfl), if_neg (by decide), oI_of, Int32.add_zero]
        exact ih (w + 1) _ (by omega)
      · rw [c, if_neg (by decide), if_pos rfl, show (67 : Int32) = nI 67 from rfl, ixp, m_rowAt h (by omega), hg w s (by omega) hs, oI_of]
        exact ih (w + 1) _ (by omega)
  exact st 999991 8 0 0 (by decide)
def PT (g : Nat → Int32) (need : Int32) (k : Nat) : Bool := !decide (wsm g k 0 8 0 0 < need) && !decide (wsm g k 1 8 0 0 < need)
set_option maxRecDepth 100000 in
theorem c_treaty {u : Mm} (h : hSh u) {N : Nat} : ∀ (r k : Nat) (b : Option Nat), k + r = 256 → bok b → rX2_treatyWords_4 (N + r + 1) u 17 (bi b) (nI k) = some (bi (bgo (PT (mI u 6) (mI u 1 11)) r k b), u) := by
  intro r
  induction r with
  | zero =>
    intro k b hk hb
    show bX2_treatyWords_4 _ u 17 (bi b) (nI k) = _
    unfold bX2_treatyWords_4
    rw [if_pos (show (256 : Int32) ≤ nI k from nI_le (a := 256) (by omega) (by omega))]
    rfl
  | succ r ih =>
    intro k b hk hb
    show bX2_treatyWords_4 (rX2_treatyWords_4 (N + r + 1)) u 17 (bi b) (nI k) = _
    unfold bX2_treatyWords_4 bX2_treatyWords_53
    rw [if_neg (show ¬ (256 : Int32) ≤ nI k from nI_ge (b := 256) (by omega) (by decide)), c_isFewer (by omega) hb, oB_of, nI_1]
    have hk' : bok (some k) := fun x hx => by cases hx; omega
    cases hf : fwB k b with
    | false =>
      rw [bgo_no (by rw [hf]; rfl)]
      exact (if_pos rfl).trans (ih (k + 1) b (by omega) hb)
    | true =>
      have e0 : fX2_worthOf u 17 (nI k) 0 = some (wsm (mI u 6) k 0 8 0 0, u) := c_worth (s := 0) h (by omega) (by decide)
      have e1 : fX2_worthOf u 17 (nI k) 1 = some (wsm (mI u 6) k 1 8 0 0, u) := c_worth (s := 1) h (by omega) (by decide)
      refine (if_neg (by decide)).trans ?_
      rw [oR_of (sh17 h), e0, oB_of, oK_of (sh17 h), rf17_0 h, oNn_of, oK_of (sh1 h), oI_of]
      by_cases c0 : wsm (mI u 6) k 0 8 0 0 < mI u 1 11
      · rw [if_pos c0, bgo_no (by unfold PT; rw [decide_eq_true c0, hf]; rfl)]
        exact ih (k + 1) b (by omega) hb
      · rw [if_neg c0, oR_of (sh17 h), e1, oB_of, oK_of (sh17 h), rf17_0 h, oNn_of, oK_of (sh1 h), oI_of]
        by_cases c1 : wsm (mI u 6) k 1 8 0 0 < mI u 1 11
        · rw [if_pos c1, bgo_no (by unfold PT; rw [decide_eq_false c0, decide_eq_true c1, hf]; rfl)]
          exact ih (k + 1) b (by omega) hb
        · rw [if_neg c1, bgo_yes (by unfold PT; rw [decide_eq_false c0, decide_eq_false c1, hf]; rfl)]
          exact ih (k + 1) (some k) (by omega) hk'
set_option maxRecDepth 100000 in
theorem m_treaty {u : Mm} (h : hSh u) {g : Nat → Int32} (hg : ∀ w s, w < 8 → s < 2 → mI u 47 (67 + 2 * w + s) = g (2 * w + s)) {need x : Int32} {N : Nat} : ∀ (r k : Nat) (b : Option Nat), k + r = 256 → bok b → rX9_treaty_34 (N + r + 1) u 45 x need (fewI b) (bi b) (nI k) = some (if x = 1 then bi (bgo (PT g need) r k b) else cnI (bgo (PT g need) r k b), u) := by
  intro r
  induction r with
  | zero =>
    intro k b hk hb
    show bX9_treaty_34 _ u 45 x need (fewI b) (bi b) (nI k) = _
    unfold bX9_treaty_34 bX9_treaty_126 bX9_treaty_132
    rw [if_pos (show (256 : Int32) ≤ nI k from nI_le (a := 256) (by omega) (by omega))]
    show _ = some (if x = 1 then bi b else cnI b, u)
    cases b with
    | none =>
      refine (if_pos rfl).trans ?_
      split <;> rfl
    | some b =>
      refine (if_neg (bi_ne (hb b rfl))).trans ?_
      split <;> rfl
  | succ r ih =>
    intro k b hk hb
    show bX9_treaty_34 (rX9_treaty_34 (N + r + 1)) u 45 x need (fewI b) (bi b) (nI k) = _
    unfold bX9_treaty_34 bX9_treaty_77 bX9_treaty_78 bX9_treaty_92 bX9_treaty_108
    have hk' : bok (some k) := fun x hx => by cases hx; omega
    rw [if_neg (show ¬ (256 : Int32) ≤ nI k from nI_ge (b := 256) (by omega) (by decide)), m_ones (by omega), oB_of, nI_1]
    cases hf : fwB k b with
    | false =>
      rw [if_pos ((few_iff hb).mpr hf), if_pos rfl, if_pos rfl, bgo_no (by rw [hf]; rfl)]
      exact ih (k + 1) b (by omega) hb
    | true =>
      have e0 : fX9_worthOf u 45 (nI k) 0 = some (wsm g k 0 8 0 0, u) := m_worth (s := 0) h hg (by omega) (by decide)
      have e1 : fX9_worthOf u 45 (nI k) 1 = some (wsm g k 1 8 0 0, u) := m_worth (s := 1) h hg (by omega) (by decide)
      rw [if_neg (fun q => by rw [(few_iff hb).mp q] at hf; cases hf), oR_of (sh45 h), e0, oB_of]
      by_cases c0 : wsm g k 0 8 0 0 < need
      · rw [if_pos c0, if_pos rfl, if_pos rfl, bgo_no (by unfold PT; rw [decide_eq_true c0, hf]; rfl)]
        exact ih (k + 1) b (by omega) hb
      · rw [if_neg c0, oR_of (sh45 h), e1, oB_of]
        by_cases c1 : wsm g k 1 8 0 0 < need
        · rw [if_pos c1, if_pos rfl, if_pos rfl, bgo_no (by unfold PT; rw [decide_eq_false c0, decide_eq_true c1, hf]; rfl)]
          exact ih (k + 1) b (by omega) hb
        · rw [if_neg c1, if_neg (by decide), if_neg (by decide), m_ones (by omega), oB_of, bgo_yes (by unfold PT; rw [decide_eq_false c0, decide_eq_false c1, hf]; rfl)]
          exact ih (k + 1) (some k) (by omega) hk'
set_option maxRecDepth 100000 in
theorem s21 {LR : Mm → Prop} (hF : LRf LR) : hwS_21 (Rel LR) := by
  intro x u h
  have hS := h.1
  have hT : hSh (mT u) := hS
  have hg : ∀ w s, w < 8 → s < 2 → mI (mT u) 47 (67 + 2 * w + s) = mI u 6 (2 * w + s) := fun w s hw hs => at_worth h.2.1 hw hs
  have h0 : bok none := fun x hx => by cases hx
  by_cases c : 0 ≤ x ∧ x ≤ 1
  · have hb := bgo_ok (P := PT (mI u 6) (mI u 1 11)) 256 0 none (by decide) h0
    have hc : fX2_treatyWords u 17 = some (bi (bgo (PT (mI u 6) (mI u 1 11)) 256 0 none), u) := by
      unfold fX2_treatyWords
      rw [show hwF = 999743 + 256 + 1 from rfl]
      exact c_treaty hS 256 0 none (by decide) h0
    have hm := m_treaty hT hg (need := mI u 1 11) (x := x) (N := 999743) 256 0 none (by decide) h0
    generalize bgo (PT (mI u 6) (mI u 1 11)) 256 0 none = B at hb hc hm
    refine ⟨if x = 1 then bi B else cnI B, u, mT u, ?_, hR45_Rel hS, ?_, Rel_mT hF h⟩
    · show fX8_treaty u 0 x = _
      unfold fX8_treaty
      rw [c_within, oB_of, if_pos c, if_neg (by decide), oK_of (sh0 hS), rf0_2 hS, oNn_of, oR_of (sh17 hS), hc, oB_of, c_count hb, oB_of]
      rcases in01.mp c with q | q
      · rw [if_pos q, if_neg (by rw [q]; decide)]
      · rw [if_neg (by rw [q]; decide), if_pos q]
    · show fX9_treaty u 45 x = _
      unfold fX9_treaty
      rw [oK_of (sh45 hS), oT, m_in1, oB_of, if_pos c, if_neg (by decide), show (5 : Int32) = nI 5 from rfl, m_rowAt hT (by decide), show mI (mT u) 47 5 = mI u 1 11 from (show mI u 47 5 = mI u 1 11 from rw5 h)]
      exact hm
  · refine ⟨-1, u, mT u, ?_, hR45_Rel hS, ?_, Rel_mT hF h⟩
    · show fX8_treaty u 0 x = _
      unfold fX8_treaty
      rw [c_within, oB_of, if_neg c, if_pos rfl]
    · show fX9_treaty u 45 x = _
      unfold fX9_treaty
      rw [oK_of (sh45 hS), oT, m_in1, oB_of, if_neg c, if_pos rfl]
