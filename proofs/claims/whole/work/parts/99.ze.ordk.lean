/-! ===== the sums of an order, one behind the other ===== -/
def Mid (t : Tk) (c0 m0 : Mm) (n h k0 L0 nc0 : Nat) (cd0 wt0 op0 ar0 : Nat → Int32) (i : Nat) (fS : Nat → (Nat → Int32) → Int64) (c1 : Mm) (k1 p1 L1 : Nat) (cd1 wt1 : Nat → Int32) (m1 : Mm) (nc1 : Nat) (op1 ar1 : Nat → Int32) : Prop := (k0 ≤ k1) ∧ (k1 ≤ tM t) ∧ (p1 ≤ 50) ∧ (L0 ≤ L1) ∧ (L1 ≤ k1) ∧ (∀ j, j < L0 → cd1 j = cd0 j ∧ wt1 j = wt0 j) ∧ (L1 = L0 ∨ cd1 L0 = 288) ∧ (nc0 ≤ nc1) ∧ (nc1 ≤ k1) ∧ (∀ j, j < nc0 → op1 j = op0 j ∧ ar1 j = ar0 j) ∧ (CFr c0 c1 n) ∧ (mI c1 26 n = nI (260 + h)) ∧ (mI c1 27 n = 1) ∧ (∀ j, i ≤ j → j < 4 → mI c1 28 (4 * n + j) = -1) ∧ (BFr m0 m1) ∧ (mI m1 45 19 = 0) ∧ (mI m1 45 18 = mI m0 45 18) ∧ (mI m1 45 21 = nI (n + 1)) ∧ (∀ j, j < 10 * n → mI m1 69 j = mI m0 69 j) ∧ (mI m1 69 (10 * n) = nI h) ∧ (∀ j, i ≤ j → j < 3 → mI m1 69 (10 * n + 1 + 2 * j) = 0 ∧ mI m1 69 (10 * n + 2 + 2 * j) = 0) ∧ (∀ j, j < i → sv (fS j) ∧ (∃ a, a ≤ L1 ∧ mI c1 28 (4 * n + j) = nI a ∧ SegC cd1 wt1 L1 (fS j) a) ∧ ∃ a b, b ≤ nc1 ∧ mI m1 69 (10 * n + 1 + 2 * j) = nI a ∧ mI m1 69 (10 * n + 2 + 2 * j) = nI b ∧ SegR true op1 ar1 (fS j) a b)
set_option maxRecDepth 100000 in
theorem Mid.kl {t : Tk} {c0 m0 : Mm} {n h k0 L0 nc0 : Nat} {cd0 wt0 op0 ar0 : Nat → Int32} {i : Nat} {fS : Nat → (Nat → Int32) → Int64} {c1 : Mm} {k1 p1 L1 : Nat} {cd1 wt1 : Nat → Int32} {m1 : Mm} {nc1 : Nat} {op1 ar1 : Nat → Int32} (d : Mid t c0 m0 n h k0 L0 nc0 cd0 wt0 op0 ar0 i fS c1 k1 p1 L1 cd1 wt1 m1 nc1 op1 ar1) : k0 ≤ k1 := d.1
set_option maxRecDepth 100000 in
theorem Mid.kM {t : Tk} {c0 m0 : Mm} {n h k0 L0 nc0 : Nat} {cd0 wt0 op0 ar0 : Nat → Int32} {i : Nat} {fS : Nat → (Nat → Int32) → Int64} {c1 : Mm} {k1 p1 L1 : Nat} {cd1 wt1 : Nat → Int32} {m1 : Mm} {nc1 : Nat} {op1 ar1 : Nat → Int32} (d : Mid t c0 m0 n h k0 L0 nc0 cd0 wt0 op0 ar0 i fS c1 k1 p1 L1 cd1 wt1 m1 nc1 op1 ar1) : k1 ≤ tM t := d.2.1
set_option maxRecDepth 100000 in
theorem Mid.pl {t : Tk} {c0 m0 : Mm} {n h k0 L0 nc0 : Nat} {cd0 wt0 op0 ar0 : Nat → Int32} {i : Nat} {fS : Nat → (Nat → Int32) → Int64} {c1 : Mm} {k1 p1 L1 : Nat} {cd1 wt1 : Nat → Int32} {m1 : Mm} {nc1 : Nat} {op1 ar1 : Nat → Int32} (d : Mid t c0 m0 n h k0 L0 nc0 cd0 wt0 op0 ar0 i fS c1 k1 p1 L1 cd1 wt1 m1 nc1 op1 ar1) : p1 ≤ 50 := d.2.2.1
set_option maxRecDepth 100000 in
theorem Mid.LL {t : Tk} {c0 m0 : Mm} {n h k0 L0 nc0 : Nat} {cd0 wt0 op0 ar0 : Nat → Int32} {i : Nat} {fS : Nat → (Nat → Int32) → Int64} {c1 : Mm} {k1 p1 L1 : Nat} {cd1 wt1 : Nat → Int32} {m1 : Mm} {nc1 : Nat} {op1 ar1 : Nat → Int32} (d : Mid t c0 m0 n h k0 L0 nc0 cd0 wt0 op0 ar0 i fS c1 k1 p1 L1 cd1 wt1 m1 nc1 op1 ar1) : L0 ≤ L1 := d.2.2.2.1
set_option maxRecDepth 100000 in
theorem Mid.Lk {t : Tk} {c0 m0 : Mm} {n h k0 L0 nc0 : Nat} {cd0 wt0 op0 ar0 : Nat → Int32} {i : Nat} {fS : Nat → (Nat → Int32) → Int64} {c1 : Mm} {k1 p1 L1 : Nat} {cd1 wt1 : Nat → Int32} {m1 : Mm} {nc1 : Nat} {op1 ar1 : Nat → Int32} (d : Mid t c0 m0 n h k0 L0 nc0 cd0 wt0 op0 ar0 i fS c1 k1 p1 L1 cd1 wt1 m1 nc1 op1 ar1) : L1 ≤ k1 := d.2.2.2.2.1
set_option maxRecDepth 100000 in
theorem Mid.ce {t : Tk} {c0 m0 : Mm} {n h k0 L0 nc0 : Nat} {cd0 wt0 op0 ar0 : Nat → Int32} {i : Nat} {fS : Nat → (Nat → Int32) → Int64} {c1 : Mm} {k1 p1 L1 : Nat} {cd1 wt1 : Nat → Int32} {m1 : Mm} {nc1 : Nat} {op1 ar1 : Nat → Int32} (d : Mid t c0 m0 n h k0 L0 nc0 cd0 wt0 op0 ar0 i fS c1 k1 p1 L1 cd1 wt1 m1 nc1 op1 ar1) : ∀ j, j < L0 → cd1 j = cd0 j ∧ wt1 j = wt0 j := d.2.2.2.2.2.1
set_option maxRecDepth 100000 in
theorem Mid.cx {t : Tk} {c0 m0 : Mm} {n h k0 L0 nc0 : Nat} {cd0 wt0 op0 ar0 : Nat → Int32} {i : Nat} {fS : Nat → (Nat → Int32) → Int64} {c1 : Mm} {k1 p1 L1 : Nat} {cd1 wt1 : Nat → Int32} {m1 : Mm} {nc1 : Nat} {op1 ar1 : Nat → Int32} (d : Mid t c0 m0 n h k0 L0 nc0 cd0 wt0 op0 ar0 i fS c1 k1 p1 L1 cd1 wt1 m1 nc1 op1 ar1) : L1 = L0 ∨ cd1 L0 = 288 := d.2.2.2.2.2.2.1
set_option maxRecDepth 100000 in
theorem Mid.nn {t : Tk} {c0 m0 : Mm} {n h k0 L0 nc0 : Nat} {cd0 wt0 op0 ar0 : Nat → Int32} {i : Nat} {fS : Nat → (Nat → Int32) → Int64} {c1 : Mm} {k1 p1 L1 : Nat} {cd1 wt1 : Nat → Int32} {m1 : Mm} {nc1 : Nat} {op1 ar1 : Nat → Int32} (d : Mid t c0 m0 n h k0 L0 nc0 cd0 wt0 op0 ar0 i fS c1 k1 p1 L1 cd1 wt1 m1 nc1 op1 ar1) : nc0 ≤ nc1 := d.2.2.2.2.2.2.2.1
set_option maxRecDepth 100000 in
theorem Mid.nk {t : Tk} {c0 m0 : Mm} {n h k0 L0 nc0 : Nat} {cd0 wt0 op0 ar0 : Nat → Int32} {i : Nat} {fS : Nat → (Nat → Int32) → Int64} {c1 : Mm} {k1 p1 L1 : Nat} {cd1 wt1 : Nat → Int32} {m1 : Mm} {nc1 : Nat} {op1 ar1 : Nat → Int32} (d : Mid t c0 m0 n h k0 L0 nc0 cd0 wt0 op0 ar0 i fS c1 k1 p1 L1 cd1 wt1 m1 nc1 op1 ar1) : nc1 ≤ k1 := d.2.2.2.2.2.2.2.2.1
set_option maxRecDepth 100000 in
theorem Mid.oe {t : Tk} {c0 m0 : Mm} {n h k0 L0 nc0 : Nat} {cd0 wt0 op0 ar0 : Nat → Int32} {i : Nat} {fS : Nat → (Nat → Int32) → Int64} {c1 : Mm} {k1 p1 L1 : Nat} {cd1 wt1 : Nat → Int32} {m1 : Mm} {nc1 : Nat} {op1 ar1 : Nat → Int32} (d : Mid t c0 m0 n h k0 L0 nc0 cd0 wt0 op0 ar0 i fS c1 k1 p1 L1 cd1 wt1 m1 nc1 op1 ar1) : ∀ j, j < nc0 → op1 j = op0 j ∧ ar1 j = ar0 j := d.2.2.2.2.2.2.2.2.2.1
set_option maxRecDepth 100000 in
theorem Mid.cf {t : Tk} {c0 m0 : Mm} {n h k0 L0 nc0 : Nat} {cd0 wt0 op0 ar0 : Nat → Int32} {i : Nat} {fS : Nat → (Nat → Int32) → Int64} {c1 : Mm} {k1 p1 L1 : Nat} {cd1 wt1 : Nat → Int32} {m1 : Mm} {nc1 : Nat} {op1 ar1 : Nat → Int32} (d : Mid t c0 m0 n h k0 L0 nc0 cd0 wt0 op0 ar0 i fS c1 k1 p1 L1 cd1 wt1 m1 nc1 op1 ar1) : CFr c0 c1 n := d.2.2.2.2.2.2.2.2.2.2.1
set_option maxRecDepth 100000 in
theorem Mid.c26 {t : Tk} {c0 m0 : Mm} {n h k0 L0 nc0 : Nat} {cd0 wt0 op0 ar0 : Nat → Int32} {i : Nat} {fS : Nat → (Nat → Int32) → Int64} {c1 : Mm} {k1 p1 L1 : Nat} {cd1 wt1 : Nat → Int32} {m1 : Mm} {nc1 : Nat} {op1 ar1 : Nat → Int32} (d : Mid t c0 m0 n h k0 L0 nc0 cd0 wt0 op0 ar0 i fS c1 k1 p1 L1 cd1 wt1 m1 nc1 op1 ar1) : mI c1 26 n = nI (260 + h) := d.2.2.2.2.2.2.2.2.2.2.2.1
set_option maxRecDepth 100000 in
theorem Mid.c27 {t : Tk} {c0 m0 : Mm} {n h k0 L0 nc0 : Nat} {cd0 wt0 op0 ar0 : Nat → Int32} {i : Nat} {fS : Nat → (Nat → Int32) → Int64} {c1 : Mm} {k1 p1 L1 : Nat} {cd1 wt1 : Nat → Int32} {m1 : Mm} {nc1 : Nat} {op1 ar1 : Nat → Int32} (d : Mid t c0 m0 n h k0 L0 nc0 cd0 wt0 op0 ar0 i fS c1 k1 p1 L1 cd1 wt1 m1 nc1 op1 ar1) : mI c1 27 n = 1 := d.2.2.2.2.2.2.2.2.2.2.2.2.1
set_option maxRecDepth 100000 in
theorem Mid.c28 {t : Tk} {c0 m0 : Mm} {n h k0 L0 nc0 : Nat} {cd0 wt0 op0 ar0 : Nat → Int32} {i : Nat} {fS : Nat → (Nat → Int32) → Int64} {c1 : Mm} {k1 p1 L1 : Nat} {cd1 wt1 : Nat → Int32} {m1 : Mm} {nc1 : Nat} {op1 ar1 : Nat → Int32} (d : Mid t c0 m0 n h k0 L0 nc0 cd0 wt0 op0 ar0 i fS c1 k1 p1 L1 cd1 wt1 m1 nc1 op1 ar1) : ∀ j, i ≤ j → j < 4 → mI c1 28 (4 * n + j) = -1 := d.2.2.2.2.2.2.2.2.2.2.2.2.2.1
set_option maxRecDepth 100000 in
theorem Mid.mb {t : Tk} {c0 m0 : Mm} {n h k0 L0 nc0 : Nat} {cd0 wt0 op0 ar0 : Nat → Int32} {i : Nat} {fS : Nat → (Nat → Int32) → Int64} {c1 : Mm} {k1 p1 L1 : Nat} {cd1 wt1 : Nat → Int32} {m1 : Mm} {nc1 : Nat} {op1 ar1 : Nat → Int32} (d : Mid t c0 m0 n h k0 L0 nc0 cd0 wt0 op0 ar0 i fS c1 k1 p1 L1 cd1 wt1 m1 nc1 op1 ar1) : BFr m0 m1 := d.2.2.2.2.2.2.2.2.2.2.2.2.2.2.1
set_option maxRecDepth 100000 in
theorem Mid.m19 {t : Tk} {c0 m0 : Mm} {n h k0 L0 nc0 : Nat} {cd0 wt0 op0 ar0 : Nat → Int32} {i : Nat} {fS : Nat → (Nat → Int32) → Int64} {c1 : Mm} {k1 p1 L1 : Nat} {cd1 wt1 : Nat → Int32} {m1 : Mm} {nc1 : Nat} {op1 ar1 : Nat → Int32} (d : Mid t c0 m0 n h k0 L0 nc0 cd0 wt0 op0 ar0 i fS c1 k1 p1 L1 cd1 wt1 m1 nc1 op1 ar1) : mI m1 45 19 = 0 := d.2.2.2.2.2.2.2.2.2.2.2.2.2.2.2.1
set_option maxRecDepth 100000 in
theorem Mid.m18 {t : Tk} {c0 m0 : Mm} {n h k0 L0 nc0 : Nat} {cd0 wt0 op0 ar0 : Nat → Int32} {i : Nat} {fS : Nat → (Nat → Int32) → Int64} {c1 : Mm} {k1 p1 L1 : Nat} {cd1 wt1 : Nat → Int32} {m1 : Mm} {nc1 : Nat} {op1 ar1 : Nat → Int32} (d : Mid t c0 m0 n h k0 L0 nc0 cd0 wt0 op0 ar0 i fS c1 k1 p1 L1 cd1 wt1 m1 nc1 op1 ar1) : mI m1 45 18 = mI m0 45 18 := d.2.2.2.2.2.2.2.2.2.2.2.2.2.2.2.2.1
set_option maxRecDepth 100000 in
theorem Mid.m21 {t : Tk} {c0 m0 : Mm} {n h k0 L0 nc0 : Nat} {cd0 wt0 op0 ar0 : Nat → Int32} {i : Nat} {fS : Nat → (Nat → Int32) → Int64} {c1 : Mm} {k1 p1 L1 : Nat} {cd1 wt1 : Nat → Int32} {m1 : Mm} {nc1 : Nat} {op1 ar1 : Nat → Int32} (d : Mid t c0 m0 n h k0 L0 nc0 cd0 wt0 op0 ar0 i fS c1 k1 p1 L1 cd1 wt1 m1 nc1 op1 ar1) : mI m1 45 21 = nI (n + 1) := d.2.2.2.2.2.2.2.2.2.2.2.2.2.2.2.2.2.1
set_option maxRecDepth 100000 in
theorem Mid.mlo {t : Tk} {c0 m0 : Mm} {n h k0 L0 nc0 : Nat} {cd0 wt0 op0 ar0 : Nat → Int32} {i : Nat} {fS : Nat → (Nat → Int32) → Int64} {c1 : Mm} {k1 p1 L1 : Nat} {cd1 wt1 : Nat → Int32} {m1 : Mm} {nc1 : Nat} {op1 ar1 : Nat → Int32} (d : Mid t c0 m0 n h k0 L0 nc0 cd0 wt0 op0 ar0 i fS c1 k1 p1 L1 cd1 wt1 m1 nc1 op1 ar1) : ∀ j, j < 10 * n → mI m1 69 j = mI m0 69 j := d.2.2.2.2.2.2.2.2.2.2.2.2.2.2.2.2.2.2.1
set_option maxRecDepth 100000 in
theorem Mid.m0' {t : Tk} {c0 m0 : Mm} {n h k0 L0 nc0 : Nat} {cd0 wt0 op0 ar0 : Nat → Int32} {i : Nat} {fS : Nat → (Nat → Int32) → Int64} {c1 : Mm} {k1 p1 L1 : Nat} {cd1 wt1 : Nat → Int32} {m1 : Mm} {nc1 : Nat} {op1 ar1 : Nat → Int32} (d : Mid t c0 m0 n h k0 L0 nc0 cd0 wt0 op0 ar0 i fS c1 k1 p1 L1 cd1 wt1 m1 nc1 op1 ar1) : mI m1 69 (10 * n) = nI h := d.2.2.2.2.2.2.2.2.2.2.2.2.2.2.2.2.2.2.2.1
set_option maxRecDepth 100000 in
theorem Mid.mz {t : Tk} {c0 m0 : Mm} {n h k0 L0 nc0 : Nat} {cd0 wt0 op0 ar0 : Nat → Int32} {i : Nat} {fS : Nat → (Nat → Int32) → Int64} {c1 : Mm} {k1 p1 L1 : Nat} {cd1 wt1 : Nat → Int32} {m1 : Mm} {nc1 : Nat} {op1 ar1 : Nat → Int32} (d : Mid t c0 m0 n h k0 L0 nc0 cd0 wt0 op0 ar0 i fS c1 k1 p1 L1 cd1 wt1 m1 nc1 op1 ar1) : ∀ j, i ≤ j → j < 3 → mI m1 69 (10 * n + 1 + 2 * j) = 0 ∧ mI m1 69 (10 * n + 2 + 2 * j) = 0 := d.2.2.2.2.2.2.2.2.2.2.2.2.2.2.2.2.2.2.2.2.1
set_option maxRecDepth 100000 in
theorem Mid.sg {t : Tk} {c0 m0 : Mm} {n h k0 L0 nc0 : Nat} {cd0 wt0 op0 ar0 : Nat → Int32} {i : Nat} {fS : Nat → (Nat → Int32) → Int64} {c1 : Mm} {k1 p1 L1 : Nat} {cd1 wt1 : Nat → Int32} {m1 : Mm} {nc1 : Nat} {op1 ar1 : Nat → Int32} (d : Mid t c0 m0 n h k0 L0 nc0 cd0 wt0 op0 ar0 i fS c1 k1 p1 L1 cd1 wt1 m1 nc1 op1 ar1) : ∀ j, j < i → sv (fS j) ∧ (∃ a, a ≤ L1 ∧ mI c1 28 (4 * n + j) = nI a ∧ SegC cd1 wt1 L1 (fS j) a) ∧ ∃ a b, b ≤ nc1 ∧ mI m1 69 (10 * n + 1 + 2 * j) = nI a ∧ mI m1 69 (10 * n + 2 + 2 * j) = nI b ∧ SegR true op1 ar1 (fS j) a b := d.2.2.2.2.2.2.2.2.2.2.2.2.2.2.2.2.2.2.2.2.2
def ORd (t : Tk) (c0 m0 : Mm) (n h k0 L0 nc0 : Nat) (cd0 wt0 op0 ar0 : Nat → Int32) (i : Nat) (X : Option (Int32 × Mm)) (Y : Option (Unit × Mm)) : Prop := ∃ r c1 k1 p1 L1 cd1 wt1, X = some (r, cS c1 k1 p1 L1 cd1 wt1) ∧ k0 ≤ k1 ∧ k1 ≤ tM t ∧ CFr c0 c1 n ∧
  ((r = 0 ∧ ∃ s, Y = some ((), s) ∧ Bad9 t m0 s k1) ∨ (r = 1 ∧ ∃ m1 nc1 np no op1 ar1 pl pa fS, Y = some ((), rS t m1 k1 nc1 p1 np no op1 ar1 pl pa) ∧ k0 < k1 ∧ Mid t c0 m0 n h k0 L0 nc0 cd0 wt0 op0 ar0 i fS c1 k1 p1 L1 cd1 wt1 m1 nc1 op1 ar1))
section
variable {t : Tk} {c0 m0 : Mm} {n h k0 L0 nc0 : Nat} {cd0 wt0 op0 ar0 : Nat → Int32}
set_option maxRecDepth 100000 in
theorem mS_a {m : Mm} {x a b : Nat} : mI (mS m x a b) 69 x = nI a := by
  unfold mS
  rw [w9_un (by omega), w9_at]
set_option maxRecDepth 100000 in
theorem mS_b {m : Mm} {x a b : Nat} : mI (mS m x a b) 69 (x + 1) = nI b := w9_at
set_option maxRecDepth 100000 in
theorem mS_o {m : Mm} {x a b j : Nat} (h1 : j ≠ x) (h2 : j ≠ x + 1) : mI (mS m x a b) 69 j = mI m 69 j := by
  unfold mS
  rw [w9_un h2, w9_un h1]
set_option maxRecDepth 100000 in
/-- one sum more -/
theorem Mid_sum {i : Nat} {fS : Nat → (Nat → Int32) → Int64} {c1 : Mm} {k1 p1 L1 : Nat} {cd1 wt1 : Nat → Int32} {m1 : Mm} {nc1 np no : Nat} {op1 ar1 pl pa : Nat → Int32} (hT : TkO t) (hn : n < 12) (hc : LXc t true c0) (hM : ∀ m', BFr m0 m' → mI m' 45 19 = 0 → LXm t true m') (hi : i < 3) (d : Mid t c0 m0 n h k0 L0 nc0 cd0 wt0 op0 ar0 i fS c1 k1 p1 L1 cd1 wt1 m1 nc1 op1 ar1) {x : Int32} (hx : ¬ x = 286) (hK : tK t k1 = x) : ORd t c0 m0 n h k0 L0 nc0 cd0 wt0 op0 ar0 (i + 1) (fX4_readSumBehind (cS c1 k1 p1 L1 cd1 wt1) 19 x (nI i)) (fX9_readSum (rS t m1 (k1 + 1) nc1 p1 np no op1 ar1 pl pa) 45 (nI (10 * n + 1 + 2 * i))) := by
  have hc1 : LXc t true c1 := CFr_LX d.cf hc
  have hm1 : LXm t true m1 := hM m1 d.mb d.m19
  have hM1 : ∀ m', BFr m1 m' → mI m' 45 19 = 0 → LXm t true m' := fun m' a b => hM m' (BFr_trans d.mb a) b
  have kl := d.kl
  have LL := d.LL
  have nn := d.nn
  obtain ⟨r, k', p', L', cd', wt', a1, a2, a3, a4⟩ := J_osum (np := np) (no := no) (op := op1) (ar := ar1) (pl := pl) (pa := pa) (cd := cd1) (wt := wt1) hT hc1 hm1 hM1 d.kM d.Lk d.pl d.nk hn d.cf.2.2.2.2.2.2.1 hx hK (j := i) (by omega) (X := 10 * n + 1 + 2 * i) (by omega)
  refine ⟨r, _, k', p', L', cd', wt', a1, by omega, a3, CFr_28 d.cf, ?_⟩
  rcases a4 with ⟨rfl, s, s1, s2⟩ | ⟨rfl, b1, b2, b3, b4, b5, b6, f, nc', op', ar', pl', pa', e1, e2, e3, e4, e5, e6, e7⟩
  · refine Or.inl ⟨rfl, s, s1, ?_⟩
    obtain ⟨m', w1, w2, w3, w4, w5, w6, w7, w8, w9, w10, w11, w12, w13⟩ := s2
    exact ⟨m', w1, w2, w3, w4, w5, w6, w7, w8, w9, w10, BFr_trans d.mb w11, w12, w13⟩
  · refine Or.inr ⟨rfl, _, nc', 0, 0, op', ar', pl', pa', fun j => if j = i then f else fS j, e1, by omega, ?_⟩
    refine ⟨by omega, a3, b2, by omega, b4, fun j hj => ?_, ?_, by omega, e3, fun j hj => ?_, CFr_28 d.cf, d.c26, d.c27, fun j j1 j2 => ?_, BFr_trans d.mb mS_BFr, d.m19, d.m18, d.m21, fun j hj => ?_, ?_, fun j j1 j2 => ?_, fun j hj => ?_⟩
    · exact ⟨(b5 j (by omega)).1.trans (d.ce j hj).1, (b5 j (by omega)).2.trans (d.ce j hj).2⟩
    · by_cases z : L1 = L0
      · exact Or.inr (by rw [← z]; exact b6)
      · exact Or.inr (by rw [(b5 L0 (by omega)).1]; exact d.cx.resolve_left z)
    · exact ⟨(e4 j (by omega)).1.trans (d.oe j hj).1, (e4 j (by omega)).2.trans (d.oe j hj).2⟩
    · show upd (mI c1 28) (4 * n + i) (nI (L1 + 1)) (4 * n + j) = -1
      rw [pk_un (by omega)]; exact d.c28 j (by omega) j2
    · rw [mS_o (by omega) (by omega)]; exact d.mlo j hj
    · rw [mS_o (by omega) (by omega)]; exact d.m0'
    · rw [mS_o (by omega) (by omega), mS_o (by omega) (by omega)]; exact d.mz j (by omega) j2
    · by_cases z : j = i
      · subst z
        show sv (if j = j then f else fS j) ∧ (∃ a, a ≤ L' ∧ upd (mI c1 28) (4 * n + j) (nI (L1 + 1)) (4 * n + j) = nI a ∧ SegC cd' wt' L' (if j = j then f else fS j) a) ∧ ∃ a b, b ≤ nc' ∧ mI (mS m1 (10 * n + 1 + 2 * j) nc1 nc') 69 (10 * n + 1 + 2 * j) = nI a ∧ mI (mS m1 (10 * n + 1 + 2 * j) nc1 nc') 69 (10 * n + 2 + 2 * j) = nI b ∧ SegR true op' ar' (if j = j then f else fS j) a b
        rw [if_pos rfl]
        refine ⟨e5, ⟨L1 + 1, b3, by rw [pk_us], e6⟩, nc1, nc', Nat.le_refl _, mS_a, ?_, e7⟩
        rw [show 10 * n + 2 + 2 * j = 10 * n + 1 + 2 * j + 1 by omega, mS_b]
      · obtain ⟨g1, ⟨a, g2, g3, g4⟩, a', b', g5, g6, g7, g8⟩ := d.sg j (by omega)
        show sv (if j = i then f else fS j) ∧ (∃ a, a ≤ L' ∧ upd (mI c1 28) (4 * n + i) (nI (L1 + 1)) (4 * n + j) = nI a ∧ SegC cd' wt' L' (if j = i then f else fS j) a) ∧ ∃ a b, b ≤ nc' ∧ mI (mS m1 (10 * n + 1 + 2 * i) nc1 nc') 69 (10 * n + 1 + 2 * j) = nI a ∧ mI (mS m1 (10 * n + 1 + 2 * i) nc1 nc') 69 (10 * n + 2 + 2 * j) = nI b ∧ SegR true op' ar' (if j = i then f else fS j) a b
        rw [if_neg z]
        refine ⟨g1, ⟨a, by omega, by rw [pk_un (by omega)]; exact g3, SegC_up g4 (by omega) b5 (Or.inr b6)⟩, a', b', by omega, ?_, ?_, SegR_up g8 g5 e4⟩
        · rw [mS_o (by omega) (by omega)]; exact g6
        · rw [mS_o (by omega) (by omega)]; exact g7
set_option maxRecDepth 100000 in
theorem ORd_step {i iw : Nat} {X : Option (Int32 × Mm)} {Y : Option (Unit × Mm)} (hT : TkO t) (hn : n < 12) (hc : LXc t true c0) (h0 : hSh m0) (hM : ∀ m', BFr m0 m' → mI m' 45 19 = 0 → LXm t true m') (hi : i < 3) (hw : iw < 28) {x : Int32} (hx : x = nI (256 + iw)) {w : Int64} (hW : w = wdc.getD iw 0) (H : ORd t c0 m0 n h k0 L0 nc0 cd0 wt0 op0 ar0 i X Y) : ORd t c0 m0 n h k0 L0 nc0 cd0 wt0 op0 ar0 (i + 1) (oB X (fun v u => if v = 0 then some (0, u) else fX4_readSumBehind u 19 x (nI i))) (oB Y (fun _ u => fX9_behind u 45 w (nI (10 * n + 1 + 2 * i)))) := by
  obtain ⟨r, c1, k1, p1, L1, cd1, wt1, a1, a2, a3, a4, a5⟩ := H
  rw [a1, oB_of]
  have x286 : ¬ x = 286 := by
    rw [hx]
    exact nIne (b := 286) (by omega) (by omega) (by decide)
  rcases a5 with ⟨rfl, s, s1, s2⟩ | ⟨rfl, m1, nc1, np, no, op1, ar1, pl, pa, fS, b1, klt, d⟩
  · obtain ⟨s', e1, e2⟩ := b_behind h0 (w := w) (x := 10 * n + 1 + 2 * i) (by omega) s2
    rw [if_pos rfl, s1, oB_of, e1]
    exact ⟨0, c1, k1, p1, L1, cd1, wt1, rfl, a2, a3, a4, Or.inl ⟨rfl, s', rfl, e2⟩⟩
  · have hc1 : LXc t true c1 := CFr_LX d.cf hc
    have hm1 : LXm t true m1 := hM m1 d.mb d.m19
    rw [if_neg (by decide), b1, oB_of, r_behind hT hm1 a3 hw hW]
    by_cases z : tK t k1 = nI (256 + iw)
    · rw [if_pos z]
      exact Mid_sum hT hn hc hM hi d x286 (z.trans hx.symm)
    · rw [if_neg z, c_behindN hT hc1 a3 x286 (fun e => z (e.trans hx))]
      obtain ⟨s', e1, e2⟩ := b_sum (t := t) h0 (x := 10 * n + 1 + 2 * i) (by omega) (s := rS t (mB t m1 k1) k1 nc1 p1 np no op1 ar1 pl pa) (k' := k1) ⟨_, k1, nc1, p1, np, no, op1, ar1, pl, pa, rfl, BFr_trans d.mb BFr_B, rfl, rfl⟩
      exact ⟨0, c1, k1, p1, L1, cd1, wt1, rfl, a2, a3, a4, Or.inl ⟨rfl, s', e1, e2⟩⟩
end
/-- how many sums an order has -/
def nS_ (h : Nat) : Nat := if h = 1 then 3 else if h = 3 then 0 else 2
/-- what an order is: class, reference -/
def Oc (c : Mm) (cd wt : Nat → Int32) (L n h x : Nat) (tt : Bool) (fV : (Nat → Int32) → Int64) (fS : Nat → (Nat → Int32) → Int64) : Prop := mI c 26 n = nI (260 + h) ∧ mI c 27 n = nI x ∧ (tt = true → ∃ a, a ≤ L ∧ mI c 28 (4 * n + 3) = nI a ∧ SegC cd wt L fV a) ∧ (tt = false → mI c 28 (4 * n + 3) = -1) ∧ (∀ j, j < nS_ h → ∃ a, a ≤ L ∧ mI c 28 (4 * n + j) = nI a ∧ SegC cd wt L (fS j) a) ∧ ∀ j, nS_ h ≤ j → j < 3 → mI c 28 (4 * n + j) = -1
def Oq (m : Mm) (op ar : Nat → Int32) (nc n h x : Nat) (tt : Bool) (fV : (Nat → Int32) → Int64) (fS : Nat → (Nat → Int32) → Int64) : Prop := mI m 69 (10 * n) = nI h ∧ mI m 69 (10 * n + 9) = nI x ∧ (tt = true → ∃ a b, b ≤ nc ∧ mI m 69 (10 * n + 7) = nI a ∧ mI m 69 (10 * n + 8) = nI b ∧ SegR true op ar fV a b) ∧ (tt = false → ∃ x, x ≤ 400 ∧ mI m 69 (10 * n + 7) = nI x ∧ mI m 69 (10 * n + 8) = nI x) ∧ (∀ j, j < nS_ h → ∃ a b, b ≤ nc ∧ mI m 69 (10 * n + 1 + 2 * j) = nI a ∧ mI m 69 (10 * n + 2 + 2 * j) = nI b ∧ SegR true op ar (fS j) a b) ∧ ∀ j, nS_ h ≤ j → j < 3 → mI m 69 (10 * n + 1 + 2 * j) = 0 ∧ mI m 69 (10 * n + 2 + 2 * j) = 0
def OCl (t : Tk) (c m : Mm) (k L nc n : Nat) (cd wt op ar : Nat → Int32) (X : Option (Int32 × Mm)) (Y : Option (Unit × Mm)) : Prop := ∃ r c' k' p' L' cd' wt', X = some (r, cS c' k' p' L' cd' wt') ∧ k ≤ k' ∧ k' ≤ tM t ∧ CFr c c' n ∧
  ((r = 0 ∧ ∃ s, Y = some ((), s) ∧ Bad9 t m s k') ∨
   (r = 1 ∧ k < k' ∧ p' ≤ 50 ∧ L ≤ L' ∧ L' ≤ k' ∧ (∀ j, j < L → cd' j = cd j ∧ wt' j = wt j) ∧ (L' = L ∨ cd' L = 288) ∧ ∃ m' nc' np' no' op' ar' pl' pa' h x tt fV fS, Y = some ((), rS t m' k' nc' p' np' no' op' ar' pl' pa') ∧ BFr m m' ∧ mI m' 45 19 = 0 ∧ mI m' 45 18 = mI m 45 18 ∧ mI m' 45 21 = nI (n + 1) ∧ (∀ i, i < 10 * n → mI m' 69 i = mI m 69 i) ∧ nc ≤ nc' ∧ nc' ≤ k' ∧ (∀ j, j < nc → op' j = op j ∧ ar' j = ar j) ∧ h < 4 ∧ 1 ≤ x ∧ x ≤ 20 ∧ tvf fV ∧ (∀ j, j < nS_ h → sv (fS j)) ∧ Oc c' cd' wt' L' n h x tt fV fS ∧ Oq m' op' ar' nc' n h x tt fV fS))
set_option maxRecDepth 100000 in
/-- behind the sums -/
theorem ORd_end {t : Tk} {c0 m0 : Mm} {n h k0 L0 nc0 : Nat} {cd0 wt0 op0 ar0 : Nat → Int32} {X : Option (Int32 × Mm)} {Y : Option (Unit × Mm)} (hT : TkO t) (hn : n < 12) (h4 : h < 4) (hc : LXc t true c0) (h0 : hSh m0) (hM : ∀ m', BFr m0 m' → mI m' 45 19 = 0 → LXm t true m') (H : ORd t c0 m0 n h k0 L0 nc0 cd0 wt0 op0 ar0 (nS_ h) X Y) : OCl t c0 m0 k0 L0 nc0 n cd0 wt0 op0 ar0 (oB (oB X (fun v u => bX4_readOrder_141 u 19 v)) (fun v u => bX4_readClause_38 u 19 v)) (oB Y (fun _ u => bX9_readOrder_161 u 45 (nI (10 * n)))) := by
  obtain ⟨r, c1, k1, p1, L1, cd1, wt1, a1, a2, a3, a4, a5⟩ := H
  have b38 : ∀ u, bX4_readClause_38 u 19 0 = some (0, u) := by
    intro u
    unfold bX4_readClause_38
    rw [if_pos rfl, oZ0]
  rw [a1, oB_of]
  rcases a5 with ⟨rfl, s, s1, s2⟩ | ⟨rfl, m1, nc1, np, no, op1, ar1, pl, pa, fS, b1, klt, d⟩
  · obtain ⟨s', e1, e2⟩ := b_161 h0 hn s2
    have b141 : ∀ u, bX4_readOrder_141 u 19 0 = some (0, u) := by
      intro u
      unfold bX4_readOrder_141 bX4_readOrder_167
      rw [if_pos rfl, oZ0]
    rw [b141, oB_of, b38, s1, oB_of, e1]
    exact ⟨0, c1, k1, p1, L1, cd1, wt1, rfl, a2, a3, a4, Or.inl ⟨rfl, s', rfl, e2⟩⟩
  · have hc1 : LXc t true c1 := CFr_LX d.cf hc
    have hm1 : LXm t true m1 := hM m1 d.mb d.m19
    have hM1 : ∀ m', BFr m1 m' → mI m' 45 19 = 0 → LXm t true m' := fun m' a b => hM m' (BFr_trans d.mb a) b
    have up : ∀ {mm s : Mm} {k' : Nat}, BFr m0 mm → Bad9 t mm s k' → Bad9 t m0 s k' := by
      intro mm s k' hb ⟨m', w1, w2, w3, w4, w5, w6, w7, w8, w9, w10, w11, w12, w13⟩
      exact ⟨m', w1, w2, w3, w4, w5, w6, w7, w8, w9, w10, BFr_trans hb w11, w12, w13⟩
    have kl := d.kl
    have LL := d.LL
    have nn := d.nn
    rw [b1, oB_of]
    rcases J_times (p := p1) (L := L1) (nc := nc1) (np := np) (no := no) (cd := cd1) (wt := wt1) (op := op1) (ar := ar1) (pl := pl) (pa := pa) hT hc1 hm1 hM1 a3 hn d.cf.2.2.2.2.2.2.1 d.c27 with ⟨k', s, e1, e2, e3, e4, e5⟩ | ⟨x, k2, m2, x1, x2, e1, e2, e3, e4, e5, e6, e7, e8⟩
    · rw [e1, oB_of, b38, e4]
      exact ⟨0, c1, k', p1, L1, cd1, wt1, rfl, by omega, e3, a4, Or.inl ⟨rfl, s, rfl, up d.mb e5⟩⟩
    · have hm2 : LXm t true m2 := hM1 m2 e5 (by rw [e6]; exact d.m19)
      have hM2 : ∀ m', BFr m2 m' → mI m' 45 19 = 0 → LXm t true m' := fun m' a b => hM1 m' (BFr_trans e5 a) b
      have kc2 : CFr c0 (wI c1 27 (upd (mI c1 27) n (nI x))) n := CFr_27 d.cf
      have hc2 : LXc t true (wI c1 27 (upd (mI c1 27) n (nI x))) := CFr_LX kc2 hc
      have Lk := d.Lk
      have nk := d.nk
      rw [e1, oB_of, e4]
      rcases J_oif (p := p1) (L := L1) (nc := nc1) (np := np) (no := no) (cd := cd1) (wt := wt1) (op := op1) (ar := ar1) (pl := pl) (pa := pa) hT hc2 hm2 hM2 e3 (by omega) d.pl (by omega) hn kc2.2.2.2.2.2.2.1 with ⟨k', p', L', cd', wt', s, g1, g2, g3, g4, g5⟩ | ⟨tt, fV, k', p', L', cd', wt', nc', np', no', op', ar', pl', pa', g1, g2, g3, g4, g5, g6, g7, g8, g9, g10, g11, g12, g13, g14, g15, g16, g17⟩
      · exact ⟨0, _, k', p', L', cd', wt', g1, by omega, g3, CFr_28 kc2, Or.inl ⟨rfl, s, g4, up (BFr_trans d.mb e5) g5⟩⟩
      · have h400 := hT.1
        have e28 : ∀ i, i ≠ 4 * n + 3 → mI (if tt = true then wI (wI c1 27 (upd (mI c1 27) n (nI x))) 28 (upd (mI (wI c1 27 (upd (mI c1 27) n (nI x))) 28) (4 * n + 3) (nI (L1 + 1))) else wI c1 27 (upd (mI c1 27) n (nI x))) 28 i = mI c1 28 i := by
          intro i hi
          cases tt with
          | true => show upd (mI c1 28) (4 * n + 3) (nI (L1 + 1)) i = _; rw [pk_un hi]
          | false => rfl
        have kc : CFr c0 (if tt = true then wI (wI c1 27 (upd (mI c1 27) n (nI x))) 28 (upd (mI (wI c1 27 (upd (mI c1 27) n (nI x))) 28) (4 * n + 3) (nI (L1 + 1))) else wI c1 27 (upd (mI c1 27) n (nI x))) n := by
          cases tt with
          | true => exact CFr_28 kc2
          | false => exact kc2
        have e26 : mI (if tt = true then wI (wI c1 27 (upd (mI c1 27) n (nI x))) 28 (upd (mI (wI c1 27 (upd (mI c1 27) n (nI x))) 28) (4 * n + 3) (nI (L1 + 1))) else wI c1 27 (upd (mI c1 27) n (nI x))) 26 n = nI (260 + h) := by cases tt <;> exact d.c26
        have e27 : mI (if tt = true then wI (wI c1 27 (upd (mI c1 27) n (nI x))) 28 (upd (mI (wI c1 27 (upd (mI c1 27) n (nI x))) 28) (4 * n + 3) (nI (L1 + 1))) else wI c1 27 (upd (mI c1 27) n (nI x))) 27 n = nI x := by
          cases tt with
          | true => show upd (mI c1 27) n (nI x) n = _; rw [pk_us]
          | false => show upd (mI c1 27) n (nI x) n = _; rw [pk_us]
        have nS3 : nS_ h ≤ 3 := by unfold nS_; split <;> (try split) <;> omega
        refine ⟨1, _, k', p', L', cd', wt', g1, by omega, g4, kc, Or.inr ⟨rfl, by omega, g6, by omega, g8, fun j hj => ?_, ?_, _, nc', np', no', op', ar', pl', pa', h, x, tt, fV, fS, g2, BFr_trans d.mb (BFr_trans e5 mS_BFr), ?_, ?_, ?_, fun i hi => ?_, by omega, g14, fun j hj => ?_, h4, x1, x2, g11, fun j hj => (d.sg j hj).1, ⟨e26, e27, fun ht => ?_, fun ht => ?_, fun j hj => ?_, fun j j1 j2 => ?_⟩, ⟨?_, ?_, fun ht => ?_, fun ht => ?_, fun j hj => ?_, fun j j1 j2 => ?_⟩⟩⟩
        · exact ⟨(g9 j (by omega)).1.trans (d.ce j hj).1, (g9 j (by omega)).2.trans (d.ce j hj).2⟩
        · by_cases z : L1 = L0
          · rcases g10 with w | w
            · exact Or.inl (by omega)
            · exact Or.inr (by rw [← z]; exact w)
          · exact Or.inr (by rw [(g9 L0 (by omega)).1]; exact d.cx.resolve_left z)
        · exact (e6 19).trans d.m19
        · exact (e6 18).trans d.m18
        · exact (e6 21).trans d.m21
        · rw [mS_o (by omega) (by omega), e8 i (by omega)]; exact d.mlo i hi
        · exact ⟨(g15 j (by omega)).1.trans (d.oe j hj).1, (g15 j (by omega)).2.trans (d.oe j hj).2⟩
        · refine ⟨L1 + 1, ?_, ?_, g12 ht⟩
          · obtain ⟨b, p2, -, w1, w2, -⟩ := g12 ht
            have := (w2 (fun _ => 0)).1
            omega
          · subst ht
            show upd (mI c1 28) (4 * n + 3) (nI (L1 + 1)) (4 * n + 3) = _
            rw [pk_us]
        · subst ht; exact d.c28 3 nS3 (by decide)
        · obtain ⟨-, ⟨a, w2, w3, w4⟩, -⟩ := d.sg j hj
          exact ⟨a, by omega, by rw [e28 _ (by omega)]; exact w3, SegC_up w4 g7 g9 g10⟩
        · rw [e28 _ (by omega)]; exact d.c28 j j1 (by omega)
        · rw [mS_o (by omega) (by omega), e8 _ (by omega)]; exact d.m0'
        · rw [mS_o (by omega) (by omega)]; exact e7
        · exact ⟨nc1, nc', Nat.le_refl _, mS_a, mS_b, g16 ht⟩
        · exact ⟨nc1, by omega, mS_a, by rw [mS_b, g17 ht]⟩
        · obtain ⟨-, -, a, b, w1, w2, w3, w4⟩ := d.sg j hj
          refine ⟨a, b, by omega, ?_, ?_, SegR_up w4 w1 g15⟩
          · rw [mS_o (by omega) (by omega), e8 _ (by omega)]; exact w2
          · rw [mS_o (by omega) (by omega), e8 _ (by omega)]; exact w3
        · rw [mS_o (by omega) (by omega), mS_o (by omega) (by omega), e8 _ (by omega), e8 _ (by omega)]; exact d.mz j j1 j2
