/-! ===== the relation that keeps the two in step ===== -/
/-- where a number of the reference's row stands in a book (0: its own fields, 2: the front's cells, 3 .. 10: its rows) -/
def loc (i : Nat) : Nat × Nat :=
  if i = 0 then (0, 7) else if i = 1 then (0, 10) else if i = 2 then (0, 14) else if i = 3 then (0, 15) else if i = 4 then (2, 28) else if i = 5 then (0, 11) else if i = 6 then (0, 12)
  else if i < 35 then (2, i - 7) else if i < 51 then (3, i - 35) else if i < 67 then (4, i - 51) else if i < 83 then (5, i - 67) else if i < 99 then (6, i - 83)
  else if i < 115 then (if (i - 99) % 2 = 0 then (7, (i - 99) / 2) else (8, (i - 99) / 2)) else (if (i - 115) % 2 = 0 then (9, (i - 115) / 2) else (10, (i - 115) / 2))
theorem loc_inj : ∀ i, i < 127 → ∀ j, j < 127 → loc i = loc j → i = j := by decide +kernel
def cls (bk : Nat → Nat → Int32) (i : Nat) : Int32 := bk (loc i).1 (loc i).2
/-- from .. to -/
def rg (x : Int32) (a b : Int) : Prop := a ≤ x.toInt ∧ x.toInt ≤ b
/-- what the row's numbers can be -/
def rlh (i : Nat) : Int × Int :=
  if i = 0 then (0, 8) else if i < 3 then (0, 6) else if i = 3 then (-1, 5) else if i = 4 then (0, 999) else if i = 5 then (1, 40) else if i = 6 then (0, 9) else if i < 15 then (-3, 3) else if i < 31 then (0, 99) else if i < 33 then (0, 999) else if i < 35 then (0, 99)
  else if i < 51 then (-20, 20) else if i < 67 then (-1, 7) else if i < 83 then (-9, 9) else if i < 99 then (0, 10) else if i < 115 then (if (i - 99) % 2 = 0 then (0, 7) else (0, 1)) else (if (i - 115) % 2 = 0 then (0, 1) else (-20, 20))
def Rrg (row : Nat → Int32) : Prop := (∀ i, i < 127 → rg (row i) (rlh i).1 (rlh i).2) ∧ (row 3).toInt < (row 2).toInt
def Rbk (bk : Nat → Nat → Int32) (row : Nat → Int32) : Prop := (∀ i, i < 127 → row i = cls bk i) ∧ Rrg row
/-- what is no book's: strokes, fault, stopped, status, the tape's length, decades kept; the refusals -/
def Rmi (c0 m45 c44 m46 : Nat → Int32) : Prop := c0 14 = m45 11 ∧ c0 13 = m45 18 ∧ c0 15 = m45 49 ∧ c0 18 = m45 1 ∧ c0 12 = m45 13 ∧ (∀ k, k < 6 → c44 k = m46 (k + 1)) ∧ rg (c0 12) 0 400 ∧ m45 20 = 0 ∧ c0 10 = m45 53 ∧ (c0 10 = 0 ∨ c0 10 = 1)
def Rta (c42 m54 : Nat → Int32) : Prop := ∀ i, i < 400 → c42 i = m54 i ∧ rg (c42 i) 0 255
/-- a front of the class and a kept one of the reference -/
def Rfr (f r : Nat → Int32) : Prop := (∀ i, i < 28 → f i = r (3 + i)) ∧ f 28 = r 0
def Rde (c0 c41 m70 : Nat → Int32) : Prop := c0 10 = 1 → Rfr c41 m70
/-- what can be undone: the class's ring, the reference's pile -/
def Rpa (c30 c31 c32 m45 m50 m51 row : Nat → Int32) : Prop :=
  ∃ n s : Nat, n < 16 ∧ s ≤ 16 ∧ c30 2 = nI n ∧ c30 3 = nI s ∧ m45 8 = nI s ∧ ∀ j, j < s → Rfr (fun i => c31 (29 * ((n + 16 - s + j) % 16) + i)) (fun i => m50 (31 * j + i)) ∧ m50 (31 * j + 1) = row 5 ∧ m50 (31 * j + 2) = row 6 ∧ c32 ((n + 16 - s + j) % 16) = 260 + m51 j ∧ rg (m51 j) 0 3
    ∧ ∀ i, i < 31 → rg (m50 (31 * j + i)) (rlh (4 + i)).1 (rlh (4 + i)).2
theorem rg_le {x : Int32} {a b : Int} (h : rg x a b) : a ≤ x.toInt ∧ x.toInt ≤ b := h
theorem rg_of {x : Int32} {lo hi : Int32} {a b : Int} (ha : lo.toInt = a) (hb : hi.toInt = b) : (lo ≤ x ∧ x ≤ hi) ↔ rg x a b := by
  unfold rg
  rw [Int32.le_iff_toInt_le, Int32.le_iff_toInt_le, ha, hb]
/-! the small methods, in few words -/
theorem c_within (u : Mm) (x lo hi : Int32) : fX8_within u x lo hi = some (if lo ≤ x ∧ x ≤ hi then 1 else 0, u) := by
  unfold fX8_within bX8_within_15
  by_cases h1 : x < lo
  · rw [if_pos h1, oZ0, if_neg (fun q => absurd q.1 (Int32.not_le.mpr h1))]
  · rw [if_neg h1]
    by_cases h4 : hi < x
    · rw [if_pos h4, oZ0, if_neg (fun q => absurd q.2 (Int32.not_le.mpr h4))]
    · rw [if_neg h4, oZ1, if_pos ⟨Int32.not_lt.mp h1, Int32.not_lt.mp h4⟩]
theorem ite01 {P : Prop} [Decidable P] {ρ : Type} {X : Option ρ} : oZ (if P then 1 else 0) X = X := by
  by_cases h : P
  · rw [if_pos h, oZ1]
  · rw [if_neg h, oZ0]
theorem c_isSide (u : Mm) (x : Int32) : fX8_isSide u x = some (if 0 ≤ x ∧ x ≤ 1 then 1 else 0, u) := by unfold fX8_isSide; rw [c_within, oB_of, ite01]
theorem c_isColumn (u : Mm) (x : Int32) : fX8_isColumn u x = some (if 0 ≤ x ∧ x ≤ 7 then 1 else 0, u) := by unfold fX8_isColumn; rw [c_within, oB_of, ite01]
theorem c_isSign (u : Mm) (x : Int32) : fX8_isSign u x = some (if 0 ≤ x ∧ x ≤ 7 then 1 else 0, u) := by unfold fX8_isSign; rw [c_within, oB_of, ite01]
theorem c_isWord (u : Mm) (x : Int32) : fX8_isWord u x = some (if 0 ≤ x ∧ x ≤ 7 then 1 else 0, u) := by unfold fX8_isWord; rw [c_within, oB_of, ite01]
theorem lg_lt (x y : Int64) : lg_cmp x y < 0 ↔ x < y := by
  unfold lg_cmp
  by_cases h : x > y
  · have h2 : ¬ x < y := Int64.not_lt.mpr (Int64.le_of_lt h)
    simp [h, h2]
  · by_cases e : x = y
    · simp [e]
    · have h3 : x < y := by
        rcases Int64.lt_or_eq_of_le (Int64.not_lt.mp h) with q | q
        · exact q
        · exact absurd q e
      simp [h, e, h3]
theorem lg_gt (x y : Int64) : 0 < lg_cmp x y ↔ y < x := by
  unfold lg_cmp
  by_cases h : x > y
  · simp [h, show y < x from h]
  · have h2 : ¬ y < x := h
    by_cases e : x = y
    · simp [e]
    · simp [h, e]
theorem m_in (u : Mm) (x lo hi : Int64) : fX9_in u x lo hi = some (if lo ≤ x ∧ x ≤ hi then 1 else 0, u) := by
  unfold fX9_in bX9_in_18
  simp only [lg_lt, lg_gt]
  by_cases h1 : x < lo
  · rw [if_pos h1, oZ0, if_neg (fun q => absurd q.1 (Int64.not_le.mpr h1))]
  · rw [if_neg h1]
    by_cases h4 : hi < x
    · rw [if_pos h4, oZ0, if_neg (fun q => absurd q.2 (Int64.not_le.mpr h4))]
    · rw [if_neg h4, oZ1, if_pos ⟨Int64.not_lt.mp h1, Int64.not_lt.mp h4⟩]
/-- between, of an int widened -/
theorem wide_in {x lo hi : Int32} {l h : Int64} (hl : lo.toInt64 = l) (hh : hi.toInt64 = h) : (l ≤ x.toInt64 ∧ x.toInt64 ≤ h) ↔ (lo ≤ x ∧ x ≤ hi) := by
  subst hl; subst hh
  simp only [Int32.le_iff_toInt_le, Int64.le_iff_toInt_le, Int32.toInt_toInt64]
theorem m_inI (u : Mm) (x lo hi : Int32) {l h : Int64} (hl : lo.toInt64 = l) (hh : hi.toInt64 = h) : fX9_in u x.toInt64 l h = some (if lo ≤ x ∧ x ≤ hi then 1 else 0, u) := by
  rw [m_in]
  by_cases c : lo ≤ x ∧ x ≤ hi
  · rw [if_pos c, if_pos ((wide_in hl hh).mpr c)]
  · rw [if_neg c, if_neg (fun q => c ((wide_in hl hh).mp q))]
theorem m_isSide (u : Mm) (x : Int32) : fX9_isSide u x = some (if 0 ≤ x ∧ x ≤ 1 then 1 else 0, u) := by unfold fX9_isSide; rw [m_inI u x 0 1 (by decide +kernel) (by decide +kernel), oB_of, ite01]
theorem m_isEight (u : Mm) (x : Int32) : fX9_isEight u x = some (if 0 ≤ x ∧ x ≤ 7 then 1 else 0, u) := by unfold fX9_isEight; rw [m_inI u x 0 7 (by decide +kernel) (by decide +kernel), oB_of, ite01]
/-- refused: class -/
def cRe (u : Mm) (by_ : Int32) (k : Nat) : Mm := wI (wI u 0 (upd (mI u 0) 18 by_)) 44 (upd (mI u 44) k (mI u 44 k + 1))
theorem c_refuse {u : Mm} (h : hSh u) (x : Int32) (k : Nat) (hx : x = -1 ∧ k = 0 ∨ x = -2 ∧ k = 1 ∨ x = -3 ∧ k = 2 ∨ x = -5 ∧ k = 4 ∨ x = -6 ∧ k = 5) : fX8_refuse u 0 x = some (x, cRe u x k) := by
  have h1 : hSh (wI u 0 (upd (mI u 0) 18 x)) := h
  rcases hx with ⟨rfl, rfl⟩ | ⟨rfl, rfl⟩ | ⟨rfl, rfl⟩ | ⟨rfl, rfl⟩ | ⟨rfl, rfl⟩ <;>
  · unfold fX8_refuse
    rw [oK_of (sh0 h), oU_of, c_within, oB_of, if_neg (by decide), oK_of (sh0 h1), rf0_17 h1, oNn_of, oI_of, oA_of (sh44 h1) (by decide) (by decide), oI_of, oA_of (sh44 h1) (by decide) (by decide), oU_of]
    rfl
theorem c_accept {u : Mm} (h : hSh u) (x : Int32) : fX8_accept u 0 x = some (x, wI u 0 (upd (mI u 0) 18 0)) := by
  unfold fX8_accept
  rw [oK_of (sh0 h), oU_of]
/-- refused, or not: reference -/
def mRe (u : Mm) (by_ : Int32) (k : Nat) : Mm := wI (wI u 45 (upd (mI u 45) 1 by_)) 46 (upd (mI u 46) k (mI u 46 k + 1))
theorem m_refuse {u : Mm} (h : hSh u) (x : Int32) (k : Nat) (hx : x = -1 ∧ k = 1 ∨ x = -2 ∧ k = 2 ∨ x = -3 ∧ k = 3 ∨ x = -5 ∧ k = 5 ∨ x = -6 ∧ k = 6) : fX9_answer u 45 x = some (x, mRe u x k) := by
  have h1 : hSh (wI u 45 (upd (mI u 45) 1 x)) := h
  rcases hx with ⟨rfl, rfl⟩ | ⟨rfl, rfl⟩ | ⟨rfl, rfl⟩ | ⟨rfl, rfl⟩ | ⟨rfl, rfl⟩ <;>
  · unfold fX9_answer bX9_answer_10
    rw [if_neg (by decide), oK_of (sh45 h), oU_of, if_neg (by decide), oK_of (sh45 h1), rf45_2 h1, oNn_of, oI_of, oA_of (sh46 h1) (by decide) (by decide), oI_of, oA_of (sh46 h1) (by decide) (by decide), oU_of]
    rfl
theorem m_accept {u : Mm} (h : hSh u) (x : Int32) (hx : 0 ≤ x) : fX9_answer u 45 x = some (x, wI u 45 (upd (mI u 45) 1 0)) := by
  unfold fX9_answer bX9_answer_10
  rw [if_pos hx, oK_of (sh45 h), oU_of, if_pos hx]
/-- one number is set, on both sides -/
def bset (bk : Nat → Nat → Int32) (j q : Nat) (v : Int32) : Nat → Nat → Int32 := fun a => if a = j then upd (bk j) q v else bk a
theorem loc_le : ∀ i, i < 127 → (loc i).1 ≤ 10 := by decide +kernel
theorem Rbk_eq {bk bk' : Nat → Nat → Int32} {row row' : Nat → Int32} (h : Rbk bk row) (e : ∀ j, j ≤ 10 → bk' j = bk j) (e2 : ∀ i, i < 127 → row' i = row i) : Rbk bk' row' := by
  refine ⟨fun i hi => ?_, ⟨fun i hi => ?_, ?_⟩⟩
  · rw [e2 i hi, h.1 i hi]; unfold cls; rw [e _ (loc_le i hi)]
  · rw [e2 i hi]; exact h.2.1 i hi
  · rw [e2 3 (by decide), e2 2 (by decide)]; exact h.2.2
theorem cls_set {bk : Nat → Nat → Int32} {row : Nat → Int32} {p j q : Nat} {v : Int32} (h : ∀ i, i < 127 → row i = cls bk i) (hp : p < 127) (hl : loc p = (j, q)) : ∀ i, i < 127 → upd row p v i = cls (bset bk j q v) i := by
  intro i hi
  unfold cls bset
  by_cases e : i = p
  · subst e
    rw [hl, if_pos rfl, pk_us, pk_us]
  · rw [pk_un e, h i hi]
    unfold cls
    by_cases c : (loc i).1 = j
    · rw [if_pos c, pk_un (fun q2 => e (loc_inj i hi p hp (by rw [hl]; exact Prod.ext c q2))), c]
    · rw [if_neg c]
theorem Rrg_set {row : Nat → Int32} {p : Nat} {v : Int32} (h : Rrg row) (hv : rg v (rlh p).1 (rlh p).2) (hp : (upd row p v 3).toInt < (upd row p v 2).toInt) : Rrg (upd row p v) := by
  refine ⟨fun i hi => ?_, hp⟩
  by_cases e : i = p
  · subst e; rw [pk_us]; exact hv
  · rw [pk_un e]; exact h.1 i hi
theorem Rbk_set {bk : Nat → Nat → Int32} {row : Nat → Int32} {p : Nat} {v : Int32} (j q : Nat) (h : Rbk bk row) (hl : loc p = (j, q)) (hv : rg v (rlh p).1 (rlh p).2) (hp : p < 127) (hn : p ≠ 2 ∧ p ≠ 3) : Rbk (bset bk j q v) (upd row p v) :=
  ⟨cls_set h.1 hp hl, Rrg_set h.2 hv (by rw [pk_un (Ne.symm hn.2), pk_un (Ne.symm hn.1)]; exact h.2.2)⟩
theorem Rpa_row {c30 c31 c32 m45 m50 m51 row : Nat → Int32} {p : Nat} {v : Int32} (h : Rpa c30 c31 c32 m45 m50 m51 row) (hp : p ≠ 5 ∧ p ≠ 6) : Rpa c30 c31 c32 m45 m50 m51 (upd row p v) := by
  unfold Rpa at h ⊢
  rw [pk_un (Ne.symm hp.1), pk_un (Ne.symm hp.2)]
  exact h
/-- nothing can be undone any more -/
theorem Rpa_clear {c30 c31 c32 m45 m50 m51 row row' : Nat → Int32} (h : Rpa c30 c31 c32 m45 m50 m51 row) : Rpa (upd c30 3 0) c31 c32 (upd m45 8 0) m50 m51 row' := by
  obtain ⟨n, s, h1, -, h3, -⟩ := h
  exact ⟨n, 0, h1, by decide, by rw [pk_un (by decide)]; exact h3, rfl, rfl, fun j hj => absurd hj (Nat.not_lt_zero j)⟩
/-- refused by the same -/
theorem Rmi_re {c0 m45 c44 m46 : Nat → Int32} {k : Nat} {x : Int32} (h : Rmi c0 m45 c44 m46) (hk : k < 6) : Rmi (upd c0 18 x) (upd m45 1 x) (upd c44 k (c44 k + 1)) (upd m46 (k + 1) (m46 (k + 1) + 1)) := by
  obtain ⟨h1, h2, h3, h4, h5, h6, h7, h8, h9, h10⟩ := h
  refine ⟨h1, h2, h3, rfl, h5, fun j hj => ?_, h7, h8, h9, h10⟩
  by_cases e : j = k
  · subst e; rw [pk_us, pk_us, h6 j hj]
  · rw [pk_un e, pk_un (by omega), h6 j hj]
theorem Rmi_ok {c0 m45 c44 m46 : Nat → Int32} (h : Rmi c0 m45 c44 m46) : Rmi (upd c0 18 0) (upd m45 1 0) c44 m46 := by
  obtain ⟨h1, h2, h3, h4, h5, h6, h7, h8, h9, h10⟩ := h
  exact ⟨h1, h2, h3, rfl, h5, h6, h7, h8, h9, h10⟩
theorem nIof {x : Int32} {n : Nat} (M : Int32) (hM : M.toInt = n) (h : 0 ≤ x ∧ x ≤ M) : ∃ j : Nat, j ≤ n ∧ x = nI j := nI_of2 hM (Int32.not_lt.mpr h.1) h.2
