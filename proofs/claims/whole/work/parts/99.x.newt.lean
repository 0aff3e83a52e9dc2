/-! ===== a new text, as long as it must be ===== -/
set_option maxRecDepth 100000 in
theorem oC_0 {ρ : Type} {X : Option ρ} {u : Mm} {a b n m l : Nat} (ha : mK u a = (10, n)) (hb : mK u b = (10, m)) (h1 : l ≤ n) (h2 : l ≤ m) (hn : n < 2147483648) (hm : m < 2147483648) : oC u a b 0 0 (nI l) X = X := oC_of (s := 0) (d := 0) ha hb (by omega) (by omega) hn hm
set_option maxRecDepth 100000 in
theorem cpy0 {f g : Nat → Int32} {n i : Nat} (hi : i < n) : va_cpy f g 0 0 n i = f i := by
  unfold va_cpy; rw [if_pos (by omega)]; congr 1; omega
section
variable {u : Mm} {j : Nat} {Kd : Nat → Nat × Nat} {F : Nat → Nat → Int32} {Q : Nat → Nat → Option Nat}
set_option maxRecDepth 100000 in
/-- one array is copied into a new one -/
theorem nt_cpy {ρ : Type} {K : Mm → Option ρ} {x i l n f g : Nat} {v : Int32} (hS : hSh u) (hx : x < 71) (hxk : mK u x = (10, n)) (hr23 : mR u 23 f = some x) (hi : i < j) (hj : 0 < j) (hK0 : Kd 0 = (6, 7)) (hKi : Kd i = (10, l)) (hQ : Q 0 f = some (mN u + i)) (hF : F 0 g = v) {w : Int32 → Int32} (hw : w v = nI l) (hl : l ≤ n) (hn : n ≤ 401) : oK (NM u j Kd F Q) 23 6 7 (oNn (mR (NM u j Kd F Q) 23 f) (fun e11 => oK (NM u j Kd F Q) (mN u) 6 7 (oNn (mR (NM u j Kd F Q) (mN u) f) (fun e12 => oK (NM u j Kd F Q) (mN u) 6 7 (oI (mI (NM u j Kd F Q) (mN u) g) (fun v13 => oC (NM u j Kd F Q) e11 e12 0 0 (w v13) (oU (wI (NM u j Kd F Q) e12 (va_cpy (mI (NM u j Kd F Q) e11) (mI (NM u j Kd F Q) e12) (Int32.toNatClampNeg 0) (Int32.toNatClampNeg 0) (Int32.toNatClampNeg (w v13)))) K))))))) = K (NM u j Kd (fs_ F i (va_cpy (mI u x) (F i) 0 0 l)) Q) := by
  have N71 : 71 ≤ mN u := hS.1
  have k23 : mK (NM u j Kd F Q) 23 = (6, 7) := (NM_ko (by omega)).trans (sh23 hS)
  have r23 : mR (NM u j Kd F Q) 23 f = some x := by rw [NM_ro (by omega)]; exact hr23
  have k0 : mK (NM u j Kd F Q) (mN u) = (6, 7) := (NM_k0 hj).trans hK0
  have r0 : mR (NM u j Kd F Q) (mN u) f = some (mN u + i) := by rw [NM_r0 hj]; exact hQ
  have i0 : mI (NM u j Kd F Q) (mN u) g = v := by rw [NM_i0 hj]; exact hF
  have kx : mK (NM u j Kd F Q) x = (10, n) := (NM_ko (by omega)).trans hxk
  have ki : mK (NM u j Kd F Q) (mN u + i) = (10, l) := (NM_k hi).trans hKi
  rw [oK_of k23, r23, oNn_of, oK_of k0, r0, oNn_of, oK_of k0, oI_of, i0, hw, oC_0 kx ki hl (Nat.le_refl l) (by omega) (by omega), oU_of, NM_wI hi, NM_io (show x < mN u by omega), NM_i hi, clm (by omega)]
  rfl
end
set_option maxRecDepth 100000 in
theorem c_newtext {u : Mm} (hS : hSh u) {L n : Nat} (hL : L ≤ 401) (hn : n ≤ 12) (h2 : mI u 23 2 = nI L) (h6 : mI u 23 6 = nI n) : ∃ Kd F Q, fX6_init_ (wN u 6 7) (mN u) 23 = some ((), NM u 6 Kd F Q) ∧ (Kd 0 = (6, 7) ∧ Kd 1 = (10, L) ∧ Kd 2 = (10, L) ∧ Kd 3 = (10, n) ∧ Kd 4 = (10, n) ∧ Kd 5 = (10, 4 * n)) ∧ (Q 0 0 = some (mN u + 1) ∧ Q 0 1 = some (mN u + 2) ∧ Q 0 3 = some (mN u + 3) ∧ Q 0 4 = some (mN u + 4) ∧ Q 0 5 = some (mN u + 5)) ∧ F 0 2 = nI L ∧ F 0 6 = nI n ∧ (∀ i, i < L → F 1 i = mI u 24 i ∧ F 2 i = mI u 25 i) ∧ (∀ i, i < n → F 3 i = mI u 26 i) ∧ (∀ i, i < 4 * n → F 5 i = mI u 28 i) := by
  have N71 : 71 ≤ mN u := hS.1
  have s0 : wN u 6 7 = NM u 1 (fs_ (fun _ => (0, 0)) 0 (6, 7)) (fs_ (fun _ _ => 0) 0 (fun _ => 0)) (fs_ (fun _ _ => none) 0 (fun _ => none)) := by
    have := NM_wN (u := u) (j := 0) (Kd := fun _ => (0, 0)) (F := fun _ _ => 0) (Q := fun _ _ => none) (k := 6) (n := 7)
    rw [NM_0] at this
    exact this
  have k23 : ∀ (j : Nat) (Kd : Nat → Nat × Nat) (F : Nat → Nat → Int32) (Q : Nat → Nat → Option Nat), mK (NM u j Kd F Q) 23 = (6, 7) := fun _ _ _ _ => (NM_ko (by omega)).trans (sh23 hS)
  have i23 : ∀ (j : Nat) (Kd : Nat → Nat × Nat) (F : Nat → Nat → Int32) (Q : Nat → Nat → Option Nat), mI (NM u j Kd F Q) 23 = mI u 23 := fun _ _ _ _ => NM_io (by omega)
  have pL : (0 : Int32) ≤ nI L := nI_pos' (by omega)
  have pn : (0 : Int32) ≤ nI n := nI_pos' (by omega)
  have e4 : nI n * 4 = nI (4 * n) := by rw [show (4 : Int32) = nI 4 from rfl, nI_mul, Nat.mul_comm]
  have p4 : (0 : Int32) ≤ nI n * 4 := by rw [e4]; exact nI_pos' (by omega)
  apply Exists.intro
  apply Exists.intro
  apply Exists.intro
  constructor
  · unfold fX6_init_
    rw [s0, oK_of (k23 _ _ _ _), oI_of, i23, h2]
    refine (oK_NM0 (by decide) (by rfl)).trans ?_
    rw [oU_of, NM_i0 (by decide), NM_wI0 (by decide)]
    refine (oK_NM0 (by decide) (by rfl)).trans ?_
    rw [oI_of, NM_i0 (by decide)]
    refine (alA (k := 10) (f := 0) (n := nI L) (N := L) pL (clm (by omega)) hL (by decide) (by rfl)).trans ?_
    refine (oK_NM0 (by decide) (by rfl)).trans ?_
    rw [oI_of, NM_i0 (by decide)]
    refine (alA (k := 10) (f := 1) (n := nI L) (N := L) pL (clm (by omega)) hL (by decide) (by rfl)).trans ?_
    refine (nt_cpy (x := 24) (i := 1) (l := L) (n := 401) (f := 0) (g := 2) (v := nI L) (w := fun y => y) hS (by decide) (sh24 hS) (rf23_0 hS) (by decide) (by decide) (by rfl) (by rfl) (by rfl) (by rfl) rfl hL (Nat.le_refl _)).trans ?_
    refine (nt_cpy (x := 25) (i := 2) (l := L) (n := 401) (f := 1) (g := 2) (v := nI L) (w := fun y => y) hS (by decide) (sh25 hS) (rf23_1 hS) (by decide) (by decide) (by rfl) (by rfl) (by rfl) (by rfl) rfl hL (Nat.le_refl _)).trans ?_
    rw [oK_of (k23 _ _ _ _), oI_of, i23, h6]
    refine (oK_NM0 (by decide) (by rfl)).trans ?_
    rw [oU_of, NM_i0 (by decide), NM_wI0 (by decide)]
    refine (oK_NM0 (by decide) (by rfl)).trans ?_
    rw [oI_of, NM_i0 (by decide)]
    refine (alA (k := 10) (f := 3) (n := nI n) (N := n) pn (clm (by omega)) hn (by decide) (by rfl)).trans ?_
    refine (oK_NM0 (by decide) (by rfl)).trans ?_
    rw [oI_of, NM_i0 (by decide)]
    refine (alA (k := 10) (f := 4) (n := nI n) (N := n) pn (clm (by omega)) hn (by decide) (by rfl)).trans ?_
    refine (oK_NM0 (by decide) (by rfl)).trans ?_
    rw [oI_of, NM_i0 (by decide)]
    refine (alA (k := 10) (f := 5) (n := nI n * 4) (N := 4 * n) p4 (by rw [e4]; exact clm (by omega)) (by omega) (by decide) (by rfl)).trans ?_
    refine (nt_cpy (x := 26) (i := 3) (l := n) (n := 12) (f := 3) (g := 6) (v := nI n) (w := fun y => y) hS (by decide) (sh26 hS) (rf23_3 hS) (by decide) (by decide) (by rfl) (by rfl) (by rfl) (by rfl) rfl hn (by decide)).trans ?_
    refine (nt_cpy (x := 27) (i := 4) (l := n) (n := 12) (f := 4) (g := 6) (v := nI n) (w := fun y => y) hS (by decide) (sh27 hS) (rf23_4 hS) (by decide) (by decide) (by rfl) (by rfl) (by rfl) (by rfl) rfl hn (by decide)).trans ?_
    refine (nt_cpy (x := 28) (i := 5) (l := 4 * n) (n := 48) (f := 5) (g := 6) (v := nI n) (w := fun y => y * 4) hS (by decide) (sh28 hS) (rf23_5 hS) (by decide) (by decide) (by rfl) (by rfl) (by rfl) (by rfl) e4 (by omega) (by decide)).trans ?_
    rfl
  · refine ⟨⟨rfl, rfl, rfl, rfl, rfl, rfl⟩, ⟨rfl, rfl, rfl, rfl, rfl⟩, rfl, rfl, fun i hi => ⟨?_, ?_⟩, fun i hi => ?_, fun i hi => ?_⟩
    · exact cpy0 hi
    · exact cpy0 hi
    · exact cpy0 hi
    · exact cpy0 hi
