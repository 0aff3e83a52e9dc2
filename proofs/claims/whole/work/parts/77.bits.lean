/-! ===== bits and their number ===== -/
def bcN1 (x : Nat) : Nat := x - ((x / 2) &&& 1431655765)
def bcN2 (a : Nat) : Nat := (a &&& 858993459) + ((a / 4) &&& 858993459)
def bcN3 (b : Nat) : Nat := (b + b / 16) &&& 252645135
def bcN4 (c : Nat) : Nat := c + c / 256
def bcN5 (d : Nat) : Nat := (d + d / 65536) &&& 63
def bcN (x : Nat) : Nat := bcN5 (bcN4 (bcN3 (bcN2 (bcN1 x))))
set_option maxRecDepth 100000 in
theorem bc_all : allBelow (fun h => allBelow (fun l => Nat.beq (bcN (256 * h + l)) (pc l + pc h)) 256) 256 = true := by decide +kernel
set_option maxRecDepth 100000 in
theorem nI_and (a b : Nat) : nI a &&& nI b = nI (a &&& b) := by
  apply Int32.toBitVec.inj
  rw [Int32.toBitVec_and]
  show BitVec.ofNat 32 a &&& BitVec.ofNat 32 b = BitVec.ofNat 32 (a &&& b)
  exact (BitVec.ofNat_and ..).symm
set_option maxRecDepth 100000 in
theorem nI_or (a b : Nat) : nI a ||| nI b = nI (a ||| b) := by
  apply Int32.toBitVec.inj
  rw [Int32.toBitVec_or]
  show BitVec.ofNat 32 a ||| BitVec.ofNat 32 b = BitVec.ofNat 32 (a ||| b)
  exact (BitVec.ofNat_or ..).symm
set_option maxRecDepth 100000 in
theorem nI_sub {a b : Nat} (h : b ≤ a) : nI a - nI b = nI (a - b) := by
  have e : nI a = nI (a - b) + nI b := by rw [nI_add]; congr 1; omega
  rw [e, Int32.add_sub_cancel]
set_option maxRecDepth 100000 in
theorem bcI_N {m : Nat} (hm : m < 65536) : bcI (nI m) = nI (bcN m) := by
  have a1 : m / 2 &&& 1431655765 ≤ m := Nat.le_trans Nat.and_le_left (by omega)
  have a2 : bcN1 m ≤ m := by unfold bcN1; omega
  have b1 : bcN2 (bcN1 m) ≤ bcN1 m + bcN1 m := by
    unfold bcN2
    have := @Nat.and_le_left (bcN1 m) 858993459
    have := @Nat.and_le_left (bcN1 m / 4) 858993459
    omega
  have c1 : bcN3 (bcN2 (bcN1 m)) ≤ 2 * bcN2 (bcN1 m) := by
    unfold bcN3
    have := @Nat.and_le_left (bcN2 (bcN1 m) + bcN2 (bcN1 m) / 16) 252645135
    omega
  have d1 : bcN4 (bcN3 (bcN2 (bcN1 m))) ≤ 2 * bcN3 (bcN2 (bcN1 m)) := by unfold bcN4; omega
  unfold bcI
  have s1 : ∀ n, n < 2 ^ 32 → ((nI n).toUInt32 >>> (Int32.toUInt32 1 &&& Int32.toUInt32 31)).toInt32 = nI (n / 2) := fun n hn => pk_ushrN hn 1 1 (by decide)
  have s2 : ∀ n, n < 2 ^ 32 → ((nI n).toUInt32 >>> (Int32.toUInt32 2 &&& Int32.toUInt32 31)).toInt32 = nI (n / 4) := fun n hn => pk_ushrN hn 2 2 (by decide)
  have s4 : ∀ n, n < 2 ^ 32 → ((nI n).toUInt32 >>> (Int32.toUInt32 4 &&& Int32.toUInt32 31)).toInt32 = nI (n / 16) := fun n hn => pk_ushrN hn 4 4 (by decide)
  have s8 : ∀ n, n < 2 ^ 32 → ((nI n).toUInt32 >>> (Int32.toUInt32 8 &&& Int32.toUInt32 31)).toInt32 = nI (n / 256) := fun n hn => pk_ushrN hn 8 8 (by decide)
  have s16 : ∀ n, n < 2 ^ 32 → ((nI n).toUInt32 >>> (Int32.toUInt32 16 &&& Int32.toUInt32 31)).toInt32 = nI (n / 65536) := fun n hn => pk_ushrN hn 16 16 (by decide)
  have e1 : nI m - (((nI m).toUInt32 >>> (Int32.toUInt32 1 &&& Int32.toUInt32 31)).toInt32 &&& 1431655765) = nI (bcN1 m) := by
    rw [s1 m (by omega), show (1431655765 : Int32) = nI 1431655765 from rfl, nI_and, nI_sub a1]; rfl
  have e2 : (nI (bcN1 m) &&& 858993459) + (((nI (bcN1 m)).toUInt32 >>> (Int32.toUInt32 2 &&& Int32.toUInt32 31)).toInt32 &&& 858993459) = nI (bcN2 (bcN1 m)) := by
    rw [s2 _ (by omega), show (858993459 : Int32) = nI 858993459 from rfl, nI_and, nI_and, nI_add]; rfl
  have e3 : (nI (bcN2 (bcN1 m)) + ((nI (bcN2 (bcN1 m))).toUInt32 >>> (Int32.toUInt32 4 &&& Int32.toUInt32 31)).toInt32) &&& 252645135 = nI (bcN3 (bcN2 (bcN1 m))) := by
    rw [s4 _ (by omega), show (252645135 : Int32) = nI 252645135 from rfl, nI_add, nI_and]; rfl
  have e4 : nI (bcN3 (bcN2 (bcN1 m))) + ((nI (bcN3 (bcN2 (bcN1 m)))).toUInt32 >>> (Int32.toUInt32 8 &&& Int32.toUInt32 31)).toInt32 = nI (bcN4 (bcN3 (bcN2 (bcN1 m)))) := by
    rw [s8 _ (by omega), nI_add]; rfl
  have e5 : (nI (bcN4 (bcN3 (bcN2 (bcN1 m)))) + ((nI (bcN4 (bcN3 (bcN2 (bcN1 m))))).toUInt32 >>> (Int32.toUInt32 16 &&& Int32.toUInt32 31)).toInt32) &&& 63 = nI (bcN m) := by
    rw [s16 _ (by omega), show (63 : Int32) = nI 63 from rfl, nI_add, nI_and]; rfl
  simp only [e1, e2, e3, e4, e5]
def bit1 (m i : Nat) : Nat := m / 2 ^ i % 2
def popF (f : Nat → Nat) : Nat → Nat
  | 0 => 0
  | n + 1 => popF f n + f n
def cnt (m : Nat) : Nat := popF (bit1 m) 16
set_option maxRecDepth 100000 in
theorem cnt_pc {m : Nat} : pc (m % 256) + pc (m / 256) = cnt m := by
  unfold cnt popF popF popF popF popF popF popF popF popF popF popF popF popF popF popF popF popF pc bitN bit1
  simp only [Nat.reducePow]
  omega
set_option maxRecDepth 100000 in
theorem bc_cnt {u : Mm} {m : Nat} (hm : m < 65536) : fJ6_bitCount_0f7a4 u (nI m) = some (nI (cnt m), u) := by
  rw [c_bc, bcI_N hm]
  have e := allBelow_of 256 (allBelow_of 256 bc_all (m / 256) (by omega)) (m % 256) (by omega)
  have e2 := Nat.eq_of_beq_eq_true e
  rw [show 256 * (m / 256) + m % 256 = m by omega, cnt_pc] at e2
  rw [e2]
set_option maxRecDepth 100000 in
theorem bit_tb (m i : Nat) : bit1 m i = (m.testBit i).toNat := by
  unfold bit1
  rw [Nat.testBit_eq_decide_div_mod_eq]
  by_cases c : m / 2 ^ i % 2 = 1
  · rw [c]; rfl
  · have : m / 2 ^ i % 2 = 0 := by omega
    rw [this]; rfl
set_option maxRecDepth 100000 in
theorem bit_or (m j i : Nat) : bit1 (m ||| 2 ^ j) i = if i = j then 1 else bit1 m i := by
  rw [bit_tb, bit_tb, Nat.testBit_or, Nat.testBit_two_pow]
  by_cases c : i = j
  · subst c; simp
  · have : ¬ j = i := fun q => c q.symm
    simp [c, this]
set_option maxRecDepth 100000 in
theorem popF_upd {f g : Nat → Nat} {j : Nat} (hj : g j = f j + 1) (ho : ∀ i, i ≠ j → g i = f i) : ∀ n, popF g n = popF f n + (if j < n then 1 else 0)
  | 0 => rfl
  | n + 1 => by
    show popF g n + g n = popF f n + f n + _
    rw [popF_upd hj ho n]
    by_cases c : n = j
    · subst c; rw [hj, if_neg (by omega), if_pos (by omega)]; omega
    · rw [ho n c]
      by_cases d : j < n
      · rw [if_pos d, if_pos (by omega)]; omega
      · rw [if_neg d, if_neg (by omega)]; omega
set_option maxRecDepth 100000 in
theorem cnt_or {m j : Nat} (hj : j < 16) (h : bit1 m j = 0) : cnt (m ||| 2 ^ j) = cnt m + 1 := by
  unfold cnt
  rw [popF_upd (f := bit1 m) (g := bit1 (m ||| 2 ^ j)) (j := j) (by rw [bit_or, if_pos rfl, h]) (fun i hi => by rw [bit_or, if_neg hi]), if_pos hj]
set_option maxRecDepth 100000 in
theorem popF_le {f : Nat → Nat} (h : ∀ i, f i ≤ 1) : ∀ n, popF f n ≤ n
  | 0 => Nat.le_refl 0
  | n + 1 => by
    show popF f n + f n ≤ n + 1
    have := popF_le h n
    have := h n
    omega
set_option maxRecDepth 100000 in
theorem popF_lt {f : Nat → Nat} (h : ∀ i, f i ≤ 1) {j : Nat} (hj : f j = 0) : ∀ n, j < n → popF f n + 1 ≤ n
  | 0, q => absurd q (Nat.not_lt_zero j)
  | n + 1, q => by
    show popF f n + f n + 1 ≤ n + 1
    by_cases c : j = n
    · subst c; rw [hj]; have := popF_le h j; omega
    · have := popF_lt h hj n (by omega)
      have := h n
      omega
set_option maxRecDepth 100000 in
theorem popF_ge {f : Nat → Nat} {j : Nat} (hj : f j = 1) : ∀ n, j < n → 1 ≤ popF f n
  | 0, q => absurd q (Nat.not_lt_zero j)
  | n + 1, q => by
    show 1 ≤ popF f n + f n
    by_cases c : j = n
    · subst c; omega
    · have := popF_ge hj n (by omega)
      omega
set_option maxRecDepth 100000 in
theorem bit1_le (m i : Nat) : bit1 m i ≤ 1 := by unfold bit1; omega
set_option maxRecDepth 100000 in
theorem cnt_le (m : Nat) : cnt m ≤ 16 := popF_le (bit1_le m) 16
set_option maxRecDepth 100000 in
theorem shl1 : ∀ j, j < 16 → (1 : Int32) <<< (nI j &&& 31) = nI (2 ^ j) := by decide +kernel
set_option maxRecDepth 100000 in
theorem and_zero {m j : Nat} (hm : m < 65536) (hj : j < 16) : nI m &&& ((1 : Int32) <<< (nI j &&& 31)) = 0 ↔ bit1 m j = 0 := by
  rw [shl1 j hj, nI_and, show (0 : Int32) = nI 0 from rfl, nI_eq (Nat.lt_of_le_of_lt Nat.and_le_left (by omega)) (by decide), bit_tb]
  constructor
  · intro q
    have e := congrArg (fun x => Nat.testBit x j) q
    simp only [Nat.testBit_and, Nat.testBit_two_pow, decide_true, Bool.and_true, Nat.zero_testBit] at e
    rw [e]; rfl
  · intro q
    have e : m.testBit j = false := by cases h : m.testBit j with
      | true => rw [h] at q; cases q
      | false => rfl
    apply Nat.eq_of_testBit_eq
    intro i
    rw [Nat.testBit_and, Nat.testBit_two_pow, Nat.zero_testBit]
    by_cases c : j = i
    · subst c; rw [e]; rfl
    · simp [c]
set_option maxRecDepth 100000 in
theorem or16 {m j : Nat} (hm : m < 65536) (hj : j < 16) : m ||| 2 ^ j < 65536 := Nat.or_lt_two_pow (n := 16) hm (Nat.pow_lt_pow_right (by decide) hj)
