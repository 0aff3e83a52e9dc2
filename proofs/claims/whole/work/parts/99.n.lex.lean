/-! ===== tokens of a tape ===== -/
def srt (x : Int32) : Int32 := if 97 ≤ x ∧ x ≤ 122 then 1 else if 48 ≤ x ∧ x ≤ 57 then 2 else 0
def runE (T : Nat → Int32) (n : Nat) (s : Int32) : Nat → Nat → Nat
  | 0, i => i
  | f + 1, i => if i < n ∧ srt (T i) = s then runE T n s f (i + 1) else i
def tokE (T : Nat → Int32) (n i : Nat) : Nat := if srt (T i) = 0 then i + 1 else runE T n (srt (T i)) (n - (i + 1)) (i + 1)
def skB (T : Nat → Int32) (n : Nat) : Nat → Nat → Nat
  | 0, i => i
  | f + 1, i => if i < n ∧ T i = 32 then skB T n f (i + 1) else i
def nxB (T : Nat → Int32) (n i : Nat) : Nat := skB T n (n - i) i
def stK (T : Nat → Int32) (n : Nat) : Nat → Nat
  | 0 => nxB T n 0
  | k + 1 => if stK T n k < n then nxB T n (tokE T n (stK T n k)) else n
set_option maxRecDepth 100000 in
theorem runE_s (T : Nat → Int32) (n : Nat) (s : Int32) (f i : Nat) : runE T n s (f + 1) i = if i < n ∧ srt (T i) = s then runE T n s f (i + 1) else i := rfl
set_option maxRecDepth 100000 in
theorem skB_s (T : Nat → Int32) (n f i : Nat) : skB T n (f + 1) i = if i < n ∧ T i = 32 then skB T n f (i + 1) else i := rfl
set_option maxRecDepth 100000 in
theorem stK_s (T : Nat → Int32) (n k : Nat) : stK T n (k + 1) = if stK T n k < n then nxB T n (tokE T n (stK T n k)) else n := rfl
section
variable {T : Nat → Int32} {n : Nat}
set_option maxRecDepth 100000 in
theorem runE_b {s : Int32} : ∀ f i, i ≤ runE T n s f i ∧ (i ≤ n → runE T n s f i ≤ n)
  | 0, i => ⟨Nat.le_refl i, fun h => h⟩
  | f + 1, i => by
    rw [runE_s]
    by_cases c : i < n ∧ srt (T i) = s
    · rw [if_pos c]
      have := runE_b (s := s) f (i + 1)
      exact ⟨by omega, fun _ => this.2 (by omega)⟩
    · rw [if_neg c]; exact ⟨Nat.le_refl i, fun h => h⟩
set_option maxRecDepth 100000 in
theorem runE_all {s : Int32} : ∀ f i j, i ≤ j → j < runE T n s f i → j < n ∧ srt (T j) = s
  | 0, i, j, h1, h2 => absurd h2 (by show ¬ j < i; omega)
  | f + 1, i, j, h1, h2 => by
    rw [runE_s] at h2
    by_cases c : i < n ∧ srt (T i) = s
    · rw [if_pos c] at h2
      by_cases e : j = i
      · rw [e]; exact c
      · exact runE_all f (i + 1) j (by omega) h2
    · rw [if_neg c] at h2; omega
set_option maxRecDepth 100000 in
/-- with enough steps the run is at its end -/
theorem runE_end {s : Int32} : ∀ f i, n ≤ i + f → runE T n s f i < n → ¬ srt (T (runE T n s f i)) = s
  | 0, i, h, h2 => absurd h2 (by show ¬ i < n; omega)
  | f + 1, i, h, h2 => by
    rw [runE_s] at h2 ⊢
    by_cases c : i < n ∧ srt (T i) = s
    · rw [if_pos c] at h2 ⊢
      exact runE_end f (i + 1) (by omega) h2
    · rw [if_neg c] at h2 ⊢
      exact fun e => c ⟨h2, e⟩
set_option maxRecDepth 100000 in
theorem skB_b : ∀ f i, i ≤ skB T n f i ∧ (i ≤ n → skB T n f i ≤ n)
  | 0, i => ⟨Nat.le_refl i, fun h => h⟩
  | f + 1, i => by
    rw [skB_s]
    by_cases c : i < n ∧ T i = 32
    · rw [if_pos c]
      have := skB_b f (i + 1)
      exact ⟨by omega, fun _ => this.2 (by omega)⟩
    · rw [if_neg c]; exact ⟨Nat.le_refl i, fun h => h⟩
set_option maxRecDepth 100000 in
theorem nxB_b (i : Nat) : i ≤ nxB T n i ∧ (i ≤ n → nxB T n i ≤ n) := skB_b _ _
set_option maxRecDepth 100000 in
theorem nxB_blank {i : Nat} (h : i < n) (hb : T i = 32) : nxB T n i = nxB T n (i + 1) := by
  unfold nxB
  rw [show n - i = (n - (i + 1)) + 1 by omega, skB_s, if_pos ⟨h, hb⟩]
set_option maxRecDepth 100000 in
theorem nxB_stop {i : Nat} (h : ¬ (i < n ∧ T i = 32)) : nxB T n i = i := by
  unfold nxB
  by_cases z : i < n
  · rw [show n - i = (n - (i + 1)) + 1 by omega, skB_s, if_neg h]
  · rw [show n - i = 0 by omega]; rfl
set_option maxRecDepth 100000 in
theorem skB_end : ∀ f i, n ≤ i + f → skB T n f i < n → ¬ T (skB T n f i) = 32
  | 0, i, h, h2 => absurd h2 (by show ¬ i < n; omega)
  | f + 1, i, h, h2 => by
    rw [skB_s] at h2 ⊢
    by_cases c : i < n ∧ T i = 32
    · rw [if_pos c] at h2 ⊢
      exact skB_end f (i + 1) (by omega) h2
    · rw [if_neg c] at h2 ⊢
      exact fun e => c ⟨h2, e⟩
set_option maxRecDepth 100000 in
theorem nxB_nb {i : Nat} (h : nxB T n i < n) : ¬ T (nxB T n i) = 32 := skB_end _ _ (by omega) h
set_option maxRecDepth 100000 in
theorem tokE_b {i : Nat} (h : i < n) : i + 1 ≤ tokE T n i ∧ tokE T n i ≤ n := by
  unfold tokE
  by_cases z : srt (T i) = 0
  · rw [if_pos z]; omega
  · rw [if_neg z]
    have := runE_b (T := T) (n := n) (s := srt (T i)) (n - (i + 1)) (i + 1)
    exact ⟨this.1, this.2 (by omega)⟩
set_option maxRecDepth 100000 in
theorem stK_le : ∀ k, stK T n k ≤ n
  | 0 => (nxB_b 0).2 (Nat.zero_le n)
  | k + 1 => by
    rw [stK_s]
    by_cases z : stK T n k < n
    · rw [if_pos z]; exact (nxB_b _).2 (tokE_b z).2
    · rw [if_neg z]; exact Nat.le_refl n
set_option maxRecDepth 100000 in
theorem stK_ge : ∀ k, k ≤ stK T n k ∨ stK T n k = n
  | 0 => Or.inl (Nat.zero_le _)
  | k + 1 => by
    rw [stK_s]
    by_cases z : stK T n k < n
    · rw [if_pos z]
      have h1 := (tokE_b (T := T) z).1
      have h2 := (nxB_b (T := T) (n := n) (tokE T n (stK T n k))).1
      rcases stK_ge k with h | h
      · exact Or.inl (by omega)
      · omega
    · rw [if_neg z]; exact Or.inr rfl
set_option maxRecDepth 100000 in
theorem stK_nb {k : Nat} (h : stK T n k < n) : ¬ T (stK T n k) = 32 := by
  cases k with
  | zero => exact nxB_nb h
  | succ k =>
    rw [stK_s] at h ⊢
    by_cases z : stK T n k < n
    · rw [if_pos z] at h ⊢; exact nxB_nb h
    · rw [if_neg z] at h; omega
def tkC (T : Nat → Int32) (n : Nat) : Nat → Nat → Nat
  | 0, k => k
  | f + 1, k => if stK T n k < n then tkC T n f (k + 1) else k
set_option maxRecDepth 100000 in
theorem tkC_p : ∀ f k, (∀ j, j < k → stK T n j < n) → (∀ j, j < tkC T n f k → stK T n j < n) ∧ k ≤ tkC T n f k ∧ tkC T n f k ≤ k + f ∧ (tkC T n f k < k + f → stK T n (tkC T n f k) = n)
  | 0, k, h => ⟨h, Nat.le_refl k, Nat.le_refl k, fun w => absurd w (by show ¬ k < k + 0; omega)⟩
  | f + 1, k, h => by
    have e : tkC T n (f + 1) k = if stK T n k < n then tkC T n f (k + 1) else k := rfl
    rw [e]
    by_cases z : stK T n k < n
    · rw [if_pos z]
      obtain ⟨a1, a2, a3, a4⟩ := tkC_p f (k + 1) (fun j hj => by
        by_cases w : j = k
        · rw [w]; exact z
        · exact h j (by omega))
      exact ⟨a1, by omega, by omega, fun w => a4 (by omega)⟩
    · rw [if_neg z]
      refine ⟨h, Nat.le_refl k, by omega, fun _ => ?_⟩
      have := stK_le (T := T) (n := n) k
      omega
def tkM (T : Nat → Int32) (n : Nat) : Nat := tkC T n (n + 1) 0
set_option maxRecDepth 100000 in
theorem tkM_p : (∀ j, j < tkM T n → stK T n j < n) ∧ stK T n (tkM T n) = n ∧ tkM T n ≤ n := by
  obtain ⟨a1, a2, a3, a4⟩ := tkC_p (T := T) (n := n) (n + 1) 0 (fun j hj => absurd hj (by omega))
  have h1 : tkM T n ≤ n := by
    apply Classical.byContradiction
    intro w
    have w2 : n < tkC T n (n + 1) 0 := by unfold tkM at w; omega
    have := a1 n w2
    rcases stK_ge (T := T) (n := n) n with h | h <;> omega
  exact ⟨a1, a4 (by unfold tkM at h1; omega), h1⟩
end
/-! numbers -/
def nC (T : Nat → Int32) (a : Nat) : Nat → Int32
  | 0 => 0
  | i + 1 => imin (((nC T a i * 10) + T (a + i)) - 48) 1001
def nR (T : Nat → Int32) (a : Nat) : Nat → Int64
  | 0 => 0
  | i + 1 => if nR T a i ≤ 1000000 then ((nR T a i * 10) + (Int32.toInt64 (T (a + i)))) - 48 else nR T a i
set_option maxRecDepth 100000 in
theorem nC_s (T : Nat → Int32) (a i : Nat) : nC T a (i + 1) = imin (((nC T a i * 10) + T (a + i)) - 48) 1001 := rfl
set_option maxRecDepth 100000 in
theorem nR_s (T : Nat → Int32) (a i : Nat) : nR T a (i + 1) = if nR T a i ≤ 1000000 then ((nR T a i * 10) + (Int32.toInt64 (T (a + i)))) - 48 else nR T a i := rfl
def nRel (v : Int32) (w : Int64) : Prop := (∃ x, x ≤ 1000 ∧ v = nI x ∧ w = w64 x) ∨ (v = nI 1001 ∧ ∃ y, 1000 < y ∧ y ≤ 20000000 ∧ w = w64 y)
set_option maxRecDepth 100000 in
theorem w64_step {y d : Nat} (hy : y ≤ 20000000) (hd : d ≤ 9) : w64 y * 10 + Int32.toInt64 (nI (48 + d)) - 48 = w64 (10 * y + d) := by
  refine Int64.toInt_inj.mp ?_
  have e10 : (10 : Int64).toInt = 10 := by decide
  have e48 : (48 : Int64).toInt = 48 := by decide
  rw [Int64.toInt_sub, Int64.toInt_add, Int64.toInt_mul, w64_toInt (by omega), w64_toInt (by omega), Int32.toInt_toInt64, nI_toInt (by omega), e10, e48]
  rw [Int.bmod_eq_of_le (n := (y : Int) * 10) (by omega) (by omega), Int.bmod_eq_of_le (n := (y : Int) * 10 + _) (by omega) (by omega), Int.bmod_eq_of_le (by omega) (by omega)]
  omega
set_option maxRecDepth 100000 in
theorem srt2 {x : Int32} (h : srt x = 2) : ∃ d, d ≤ 9 ∧ x = nI (48 + d) := by
  unfold srt at h
  by_cases c1 : 97 ≤ x ∧ x ≤ 122
  · rw [if_pos c1] at h; exact absurd h (by decide)
  · rw [if_neg c1] at h
    by_cases c2 : 48 ≤ x ∧ x ≤ 57
    · obtain ⟨j, hj, e⟩ := nIof (x := x) (n := 57) 57 (by decide) ⟨Int32.le_trans (show (0 : Int32) ≤ 48 by decide) c2.1, c2.2⟩
      have h48 : 48 ≤ j := by
        have w1 := c2.1
        rw [e] at w1
        exact (nI_leI (a := 48) (by decide) (by omega)).mp w1
      exact ⟨j - 48, by omega, by rw [e, show 48 + (j - 48) = j by omega]⟩
    · rw [if_neg c2] at h; exact absurd h (by decide)
set_option maxRecDepth 100000 in
theorem srt1 {x : Int32} (h : srt x = 1) : ∃ d, 1 ≤ d ∧ d ≤ 26 ∧ x = nI (96 + d) := by
  unfold srt at h
  by_cases c1 : 97 ≤ x ∧ x ≤ 122
  · obtain ⟨j, hj, e⟩ := nIof (x := x) (n := 122) 122 (by decide) ⟨Int32.le_trans (show (0 : Int32) ≤ 97 by decide) c1.1, c1.2⟩
    have h97 : 97 ≤ j := by
      have w1 := c1.1
      rw [e] at w1
      exact (nI_leI (a := 97) (by decide) (by omega)).mp w1
    exact ⟨j - 96, by omega, by omega, by rw [e, show 96 + (j - 96) = j by omega]⟩
  · rw [if_neg c1] at h
    by_cases c2 : 48 ≤ x ∧ x ≤ 57
    · rw [if_pos c2] at h; exact absurd h (by decide)
    · rw [if_neg c2] at h; exact absurd h (by decide)
set_option maxRecDepth 100000 in
theorem num_rel {T : Nat → Int32} {a : Nat} : ∀ i, (∀ j, j < i → srt (T (a + j)) = 2) → nRel (nC T a i) (nR T a i)
  | 0, _ => Or.inl ⟨0, by decide, rfl, rfl⟩
  | i + 1, h => by
    obtain ⟨d, hd, e⟩ := srt2 (h i (by omega))
    have cst : ∀ x, x ≤ 1001 → nI x * 10 + nI (48 + d) - 48 = nI (10 * x + d) := by
      intro x hx
      rw [show (10 : Int32) = nI 10 from rfl, nI_mul, nI_add, show (48 : Int32) = nI 48 from rfl, nI_sub (by omega)]
      congr 1
      omega
    have le6 : ∀ y, y ≤ 20000000 → (w64 y ≤ 1000000 ↔ y ≤ 1000000) := by
      intro y hy
      rw [Int64.le_iff_toInt_le, w64_toInt (by omega), show (1000000 : Int64).toInt = 1000000 by decide]
      omega
    rw [nC_s, nR_s, e]
    rcases num_rel i (fun j hj => h j (by omega)) with ⟨x, x1, x2, x3⟩ | ⟨x2, y, y1, y2, y3⟩
    · rw [x2, x3, cst x (by omega), if_pos ((le6 x (by omega)).mpr (by omega)), w64_step (by omega) hd]
      by_cases z : 10 * x + d ≤ 1000
      · refine Or.inl ⟨10 * x + d, z, ?_, rfl⟩
        unfold imin
        rw [if_neg (show ¬ (1001 : Int32) < nI (10 * x + d) from fun w => absurd ((nI_ltI (a := 1001) (by decide) (by omega)).mp w) (by omega))]
      · refine Or.inr ⟨?_, 10 * x + d, by omega, by omega, rfl⟩
        unfold imin
        by_cases w : (1001 : Int32) < nI (10 * x + d)
        · rw [if_pos w]; rfl
        · rw [if_neg w]
          have : ¬ 1001 < 10 * x + d := fun q => w (nI_lt (a := 1001) q (by omega))
          rw [show 10 * x + d = 1001 by omega]
    · rw [x2, y3, cst 1001 (by omega)]
      have im : imin (nI (10 * 1001 + d)) 1001 = nI 1001 := by
        unfold imin
        rw [if_pos (show (1001 : Int32) < nI (10 * 1001 + d) from nI_lt (a := 1001) (by omega) (by omega))]; rfl
      rw [im]
      by_cases z : y ≤ 1000000
      · rw [if_pos ((le6 y y2).mpr z), w64_step y2 hd]
        exact Or.inr ⟨rfl, 10 * y + d, by omega, by omega, rfl⟩
      · rw [if_neg (fun q => z ((le6 y y2).mp q))]
        exact Or.inr ⟨rfl, y, y1, y2, rfl⟩
