/-! ===== a book copied into another ===== -/
def SB (u : Mm) (b : Nat) (F : Nat → Nat → Int32) : Mm := (u.1, u.2.1, fun x => if b ≤ x ∧ x ≤ b + 11 then F (x - b) else u.2.2.1 x, u.2.2.2.1, u.2.2.2.2)
set_option maxRecDepth 100000 in
theorem SB_in {u : Mm} {b j : Nat} {F : Nat → Nat → Int32} (hj : j ≤ 11) : mI (SB u b F) (b + j) = F j := by
  show (if b ≤ b + j ∧ b + j ≤ b + 11 then F (b + j - b) else mI u (b + j)) = _
  rw [if_pos (by omega), show b + j - b = j by omega]
set_option maxRecDepth 100000 in
theorem SB_out {u : Mm} {b x : Nat} {F : Nat → Nat → Int32} (hx : x < b ∨ b + 11 < x) : mI (SB u b F) x = mI u x := by
  show (if b ≤ x ∧ x ≤ b + 11 then F (x - b) else mI u x) = _
  rw [if_neg (by omega)]
set_option maxRecDepth 100000 in
theorem SB_id {u : Mm} {b : Nat} : SB u b (fun j => mI u (b + j)) = u := by
  unfold SB
  refine Prod.ext rfl (Prod.ext rfl (Prod.ext ?_ (Prod.ext rfl rfl)))
  funext x
  show (if b ≤ x ∧ x ≤ b + 11 then mI u (b + (x - b)) else mI u x) = mI u x
  by_cases c : b ≤ x ∧ x ≤ b + 11
  · rw [if_pos c, show b + (x - b) = x by omega]
  · rw [if_neg c]
def fst_ (F : Nat → Nat → Int32) (j : Nat) (g : Nat → Int32) : Nat → Nat → Int32 := fun i => if i = j then g else F i
set_option maxRecDepth 100000 in
theorem SB_w {u : Mm} {b j : Nat} {F : Nat → Nat → Int32} {g : Nat → Int32} (hj : j ≤ 11) : wI (SB u b F) (b + j) g = SB u b (fst_ F j g) := by
  unfold SB wI fst_
  refine Prod.ext rfl (Prod.ext rfl (Prod.ext ?_ (Prod.ext rfl rfl)))
  funext x
  show (if x = b + j then g else if b ≤ x ∧ x ≤ b + 11 then F (x - b) else mI u x) = if b ≤ x ∧ x ≤ b + 11 then (if x - b = j then g else F (x - b)) else mI u x
  by_cases c : x = b + j
  · rw [if_pos c, if_pos (by omega), if_pos (by omega)]
  · rw [if_neg c]
    by_cases d : b ≤ x ∧ x ≤ b + 11
    · rw [if_pos d, if_pos d, if_neg (by omega)]
    · rw [if_neg d, if_neg d]
section
variable {u : Mm} {a b : Nat} {F : Nat → Nat → Int32} {ρ : Type} {K : Mm → Option ρ}
set_option maxRecDepth 100000 in
theorem cpL (hd : a + 11 < b ∨ b + 11 < a) {k j n : Nat} (hj : j ≤ 11) (n31 : n < 2147483648) (a1 : mK u a = (0, 16)) (b1 : mK u b = (0, 16)) (a2 : mR u a k = some (a + j)) (b2 : mR u b k = some (b + j)) (a3 : mK u (a + j) = (10, n)) (b3 : mK u (b + j) = (10, n)) :
    oK (SB u b F) a 0 16 (oNn (mR (SB u b F) a k) (fun e4 => oK (SB u b F) b 0 16 (oNn (mR (SB u b F) b k) (fun e5 => oK (SB u b F) b 0 16 (oNn (mR (SB u b F) b k) (fun e6 => oL (SB u b F) e6 (oC (SB u b F) e4 e5 0 0 (Int32.ofNat (mK (SB u b F) e6).2) (oU (wI (SB u b F) e5 (va_cpy (mI (SB u b F) e4) (mI (SB u b F) e5) (Int32.toNatClampNeg 0) (Int32.toNatClampNeg 0) (Int32.toNatClampNeg (Int32.ofNat (mK (SB u b F) e6).2)))) K)))))))) = K (SB u b (fst_ F j (va_cpy (mI u (a + j)) (F j) 0 0 n))) := by
  have A1 : mK (SB u b F) a = (0, 16) := a1
  have B1 : mK (SB u b F) b = (0, 16) := b1
  have A2 : mR (SB u b F) a k = some (a + j) := a2
  have B2 : mR (SB u b F) b k = some (b + j) := b2
  have A3 : mK (SB u b F) (a + j) = (10, n) := a3
  have B3 : mK (SB u b F) (b + j) = (10, n) := b3
  rw [oK_of A1, A2, oNn_of, oK_of B1, B2, oNn_of, oK_of B1, oNn_of, oL_of B3, B3, show (Int32.ofNat (10, n).2) = nI n from rfl, show (0 : Int32) = nI 0 from rfl, oC_of A3 B3 (by omega) (by omega) n31 n31, oU_of, clm n31, clm (by decide), SB_out (by omega), SB_in hj, SB_w hj]
set_option maxRecDepth 100000 in
theorem cpC (hd : a + 11 < b ∨ b + 11 < a) {k j n : Nat} {x : Int32} (hx : x = nI n) (hj : j ≤ 11) (n31 : n < 2147483648) (a1 : mK u a = (0, 16)) (b1 : mK u b = (0, 16)) (a2 : mR u a k = some (a + j)) (b2 : mR u b k = some (b + j)) (a3 : mK u (a + j) = (10, n)) (b3 : mK u (b + j) = (10, n)) :
    oK (SB u b F) a 0 16 (oNn (mR (SB u b F) a k) (fun e4 => oK (SB u b F) b 0 16 (oNn (mR (SB u b F) b k) (fun e5 => oC (SB u b F) e4 e5 0 0 x (oU (wI (SB u b F) e5 (va_cpy (mI (SB u b F) e4) (mI (SB u b F) e5) (Int32.toNatClampNeg 0) (Int32.toNatClampNeg 0) (Int32.toNatClampNeg x))) K))))) = K (SB u b (fst_ F j (va_cpy (mI u (a + j)) (F j) 0 0 n))) := by
  have A1 : mK (SB u b F) a = (0, 16) := a1
  have B1 : mK (SB u b F) b = (0, 16) := b1
  have A2 : mR (SB u b F) a k = some (a + j) := a2
  have B2 : mR (SB u b F) b k = some (b + j) := b2
  have A3 : mK (SB u b F) (a + j) = (10, n) := a3
  have B3 : mK (SB u b F) (b + j) = (10, n) := b3
  rw [oK_of A1, A2, oNn_of, oK_of B1, B2, oNn_of, hx, show (0 : Int32) = nI 0 from rfl, oC_of A3 B3 (by omega) (by omega) n31 n31, oU_of, clm n31, clm (by decide), SB_out (by omega), SB_in hj, SB_w hj]
set_option maxRecDepth 100000 in
theorem cpI (hd : a + 11 < b ∨ b + 11 < a) {k : Nat} (a1 : mK u a = (0, 16)) (b1 : mK u b = (0, 16)) :
    oK (SB u b F) a 0 16 (oI (mI (SB u b F) a k) (fun v => oK (SB u b F) b 0 16 (oU (wI (SB u b F) b (upd (mI (SB u b F) b) k v)) K))) = K (SB u b (fst_ F 0 (upd (F 0) k (mI u a k)))) := by
  have A1 : mK (SB u b F) a = (0, 16) := a1
  have B1 : mK (SB u b F) b = (0, 16) := b1
  have e1 : mI (SB u b F) b = F 0 := SB_in (j := 0) (by decide)
  have e2 : ∀ g, wI (SB u b F) b g = SB u b (fst_ F 0 g) := fun g => SB_w (j := 0) (by decide)
  rw [oK_of A1, oI_of, oK_of B1, oU_of, SB_out (x := a) (by omega), e1, e2]
end
/-- laws copied, the first n -/
def lwC (L La : Nat → Option Nat) (n : Nat) : Nat → Option Nat := fun i => if i < n then La i else L i
set_option maxRecDepth 100000 in
theorem lwC_up (L La : Nat → Option Nat) (n : Nat) : va_up (lwC L La n) n (La n) = lwC L La (n + 1) := by
  funext j
  unfold va_up lwC
  by_cases c : j = n
  · subst c; rw [if_pos rfl, if_pos (by omega)]
  · rw [if_neg c]
    by_cases d : j < n
    · rw [if_pos d, if_pos (by omega)]
    · rw [if_neg d, if_neg (by omega)]
set_option maxRecDepth 100000 in
theorem lwC0 (L La : Nat → Option Nat) : lwC L La 0 = L := by funext j; unfold lwC; rw [if_neg (by omega)]
set_option maxRecDepth 100000 in
theorem wR_s {u : Mm} {a : Nat} {f g : Nat → Option Nat} : wR (wR u a f) a g = wR u a g := by
  unfold wR
  refine Prod.ext rfl (Prod.ext rfl (Prod.ext rfl (Prod.ext rfl ?_)))
  funext b
  show (if b = a then g else if b = a then f else u.2.2.2.2 b) = if b = a then g else u.2.2.2.2 b
  by_cases c : b = a
  · rw [if_pos c, if_pos c]
  · rw [if_neg c, if_neg c, if_neg c]
set_option maxRecDepth 100000 in
theorem wR_id {u : Mm} {a : Nat} : wR u a (mR u a) = u := by
  unfold wR mR
  refine Prod.ext rfl (Prod.ext rfl (Prod.ext rfl (Prod.ext rfl ?_)))
  funext c
  show (if c = a then u.2.2.2.2 a else u.2.2.2.2 c) = u.2.2.2.2 c
  by_cases c1 : c = a
  · rw [if_pos c1, c1]
  · rw [if_neg c1]
set_option maxRecDepth 100000 in
theorem c_laws {v : Mm} {a b : Nat} (hd : a + 11 < b ∨ b + 11 < a) (a1 : mK v a = (0, 16)) (b1 : mK v b = (0, 16)) (a2 : mR v a 13 = some (a + 11)) (b2 : mR v b 13 = some (b + 11)) (a3 : mK v (a + 11) = (14, 6)) (b3 : mK v (b + 11) = (14, 6)) (hl : ∀ i, i < 6 → mR v (a + 11) i = none ∨ ∃ t, mR v (a + 11) i = some t ∧ (mK v t).1 = 6) {N : Nat} {L : Nat → Option Nat} : ∀ (r k : Nat), k + r = 6 → rX0_copyFrom_177 (N + r + 1) (wR v (b + 11) (lwC L (mR v (a + 11)) k)) b a (nI k) = some ((), wR (wI v b (upd (upd (mI v b) 14 (mI v a 14)) 15 (mI v a 15))) (b + 11) (lwC L (mR v (a + 11)) 6)) := by
  intro r
  induction r with
  | zero =>
    intro k hk
    have e : k = 6 := by omega
    subst e
    show bX0_copyFrom_177 _ _ b a (nI 6) = _
    unfold bX0_copyFrom_177
    have A1 : ∀ L', mK (wR v (b + 11) L') a = (0, 16) := fun _ => a1
    have B1 : ∀ L', mK (wR v (b + 11) L') b = (0, 16) := fun _ => b1
    have A1' : ∀ L' g, mK (wI (wR v (b + 11) L') b g) a = (0, 16) := fun _ _ => a1
    have B1' : ∀ L' g, mK (wI (wR v (b + 11) L') b g) b = (0, 16) := fun _ _ => b1
    have ea : ∀ L' g, mI (wI (wR v (b + 11) L') b g) a = mI v a := fun L' g => by
      show (if a = b then g else mI v a) = _
      rw [if_neg (by omega)]
    have eb : ∀ L' g, mI (wI (wR v (b + 11) L') b g) b = g := fun L' g => by
      show (if b = b then g else mI v b) = _
      rw [if_pos rfl]
    rw [if_pos (by decide), oK_of (A1 _), oI_of, oK_of (B1 _), oU_of, oK_of (A1' _ _), oI_of, oK_of (B1' _ _), oU_of, wI_s, ea, eb]
    rfl
  | succ r ih =>
    intro k hk
    have A1 : ∀ L', mK (wR v (b + 11) L') a = (0, 16) := fun _ => a1
    have B1 : ∀ L', mK (wR v (b + 11) L') b = (0, 16) := fun _ => b1
    have ra : ∀ L' x, x ≠ b + 11 → mR (wR v (b + 11) L') x = mR v x := fun L' x hx => by
      show (if x = b + 11 then L' else mR v x) = _
      rw [if_neg hx]
    have rb : ∀ L', mR (wR v (b + 11) L') (b + 11) = L' := fun L' => by
      show (if b + 11 = b + 11 then L' else mR v (b + 11)) = _
      rw [if_pos rfl]
    have A3 : ∀ L', mK (wR v (b + 11) L') (a + 11) = (14, 6) := fun _ => a3
    have B3 : ∀ L', mK (wR v (b + 11) L') (b + 11) = (14, 6) := fun _ => b3
    have st : ∀ {X : Option (Unit × Mm)}, oS (wR v (b + 11) (lwC L (mR v (a + 11)) k)) (mR v (a + 11) k) 6 X = X := by
      intro X
      rcases hl k (by omega) with z | ⟨t, z, z2⟩
      · rw [z]; rfl
      · rw [z]
        show (if (mK v t).1 = 6 then X else none) = X
        rw [if_pos z2]
    show bX0_copyFrom_177 (rX0_copyFrom_177 (N + r + 1)) _ b a (nI k) = _
    unfold bX0_copyFrom_177
    rw [if_neg (show ¬ (6 : Int32) ≤ nI k from nI_ge (b := 6) (by omega) (by decide)), oK_of (B1 _), ra _ b (by omega), b2, oNn_of, oK_of (A1 _), ra _ a (by omega), a2, oNn_of, oA_k (A3 _) (by omega) (by decide), oA_k (B3 _) (by omega) (by decide), clm (by omega), ra _ (a + 11) (by omega), st, oU_of, rb, lwC_up, wR_s, nI_1]
    exact ih (k + 1) (by omega)
/-- what a book holds behind the copy -/
def bkC (S D : Nat → Nat → Int32) : Nat → Nat → Int32 := fst_ (fst_ (fst_ (fst_ (fst_ (fst_ (fst_ (fst_ (fst_ (fst_ (fst_ (fst_ (fst_ D 2 (va_cpy (S 2) (D 2) 0 0 29)) 3 (va_cpy (S 3) (D 3) 0 0 16)) 4 (va_cpy (S 4) (D 4) 0 0 16)) 5 (va_cpy (S 5) (D 5) 0 0 16)) 6 (va_cpy (S 6) (D 6) 0 0 16)) 7 (va_cpy (S 7) (D 7) 0 0 8)) 8 (va_cpy (S 8) (D 8) 0 0 8)) 0 (upd (D 0) 7 (S 0 7))) 9 (va_cpy (S 9) (D 9) 0 0 6)) 10 (va_cpy (S 10) (D 10) 0 0 6)) 0 (upd (upd (D 0) 7 (S 0 7)) 10 (S 0 10))) 0 (upd (upd (upd (D 0) 7 (S 0 7)) 10 (S 0 10)) 11 (S 0 11))) 0 (upd (upd (upd (upd (D 0) 7 (S 0 7)) 10 (S 0 10)) 11 (S 0 11)) 12 (S 0 12))
def bkD (S D : Nat → Nat → Int32) : Nat → Nat → Int32 := fst_ (bkC S D) 0 (upd (upd (upd (upd (upd (upd (D 0) 7 (S 0 7)) 10 (S 0 10)) 11 (S 0 11)) 12 (S 0 12)) 14 (S 0 14)) 15 (S 0 15))
set_option maxRecDepth 100000 in
theorem c_bcopy {u : Mm} {a b : Nat} (ha : BkSh u a) (hb : BkSh u b) (hd : a + 11 < b ∨ b + 11 < a) (hl : ∀ i, i < 6 → mR u (a + 11) i = none ∨ ∃ t, mR u (a + 11) i = some t ∧ (mK u t).1 = 6) : fX0_copyFrom u b a = some ((), wR (SB u b (bkD (fun j => mI u (a + j)) (fun j => mI u (b + j)))) (b + 11) (lwC (mR u (b + 11)) (mR u (a + 11)) 6)) := by
  obtain ⟨a0, a1, a2, a3, a4, a5, a6, a7, a8, a9, a10, a11, c0, c1, c3, c4, c5, c6, c7, c8, c9, c10, c11⟩ := ha
  obtain ⟨b0, b1, b2, b3, b4, b5, b6, b7, b8, b9, b10, b11, d0, d1, d3, d4, d5, d6, d7, d8, d9, d10, d11⟩ := hb
  have start : u = SB u b (fun j => mI u (b + j)) := SB_id.symm
  have cf : fX1_copyFrom u (b + 1) (a + 1) = some ((), SB u b (fst_ (fun j => mI u (b + j)) 2 (va_cpy (mI u (a + 2)) (mI u (b + 2)) 0 0 29))) := by
    rw [c_copy ⟨b1, d1, b2⟩ ⟨a1, c1, a2⟩]
    have := SB_w (u := u) (b := b) (j := 2) (F := fun j => mI u (b + j)) (g := va_cpy (mI u (a + 2)) (mI u (b + 2)) 0 0 29) (by decide)
    rw [SB_id] at this
    rw [← this]
  unfold fX0_copyFrom
  rw [oK_of b0, d0, oNn_of, oK_of a0, c0, oNn_of, oR_of b1, cf, oB_of]
  refine (cpL (u := u) hd (j := 3) (n := 16) (by decide) (by decide) a0 b0 c3 d3 a3 b3).trans ?_
  refine (cpL (u := u) hd (j := 4) (n := 16) (by decide) (by decide) a0 b0 c4 d4 a4 b4).trans ?_
  refine (cpL (u := u) hd (j := 5) (n := 16) (by decide) (by decide) a0 b0 c5 d5 a5 b5).trans ?_
  refine (cpL (u := u) hd (j := 6) (n := 16) (by decide) (by decide) a0 b0 c6 d6 a6 b6).trans ?_
  refine (cpC (u := u) hd (j := 7) (n := 8) rfl (by decide) (by decide) a0 b0 c7 d7 a7 b7).trans ?_
  refine (cpC (u := u) hd (j := 8) (n := 8) rfl (by decide) (by decide) a0 b0 c8 d8 a8 b8).trans ?_
  refine (cpI (u := u) hd a0 b0).trans ?_
  refine (cpC (u := u) hd (j := 9) (n := 6) rfl (by decide) (by decide) a0 b0 c9 d9 a9 b9).trans ?_
  refine (cpC (u := u) hd (j := 10) (n := 6) rfl (by decide) (by decide) a0 b0 c10 d10 a10 b10).trans ?_
  refine (cpI (u := u) hd a0 b0).trans ?_
  refine (cpI (u := u) hd a0 b0).trans ?_
  refine (cpI (u := u) hd a0 b0).trans ?_
  show rX0_copyFrom_177 hwF (SB u b (bkC (fun j => mI u (a + j)) (fun j => mI u (b + j)))) b a 0 = _
  have go := c_laws (v := SB u b (bkC (fun j => mI u (a + j)) (fun j => mI u (b + j)))) hd a0 b0 c11 d11 a11 b11 hl (N := 999993) (L := mR u (b + 11)) 6 0 (by decide)
  rw [lwC0, show wR (SB u b (bkC (fun j => mI u (a + j)) (fun j => mI u (b + j)))) (b + 11) (mR u (b + 11)) = SB u b (bkC (fun j => mI u (a + j)) (fun j => mI u (b + j))) from wR_id] at go
  refine Eq.trans go ?_
  have e0 : mI (SB u b (bkC (fun j => mI u (a + j)) (fun j => mI u (b + j)))) b = bkC (fun j => mI u (a + j)) (fun j => mI u (b + j)) 0 := SB_in (j := 0) (by decide)
  have ea : mI (SB u b (bkC (fun j => mI u (a + j)) (fun j => mI u (b + j)))) a = mI u a := SB_out (by omega)
  have ew : ∀ g, wI (SB u b (bkC (fun j => mI u (a + j)) (fun j => mI u (b + j)))) b g = SB u b (fst_ (bkC (fun j => mI u (a + j)) (fun j => mI u (b + j))) 0 g) := fun g => SB_w (j := 0) (by decide)
  rw [e0, ea, ew]
  rfl
set_option maxRecDepth 100000 in
theorem loc_ok : ∀ i, i < 127 → ((loc i).1 = 0 ∧ ((loc i).2 = 7 ∨ (loc i).2 = 10 ∨ (loc i).2 = 11 ∨ (loc i).2 = 12 ∨ (loc i).2 = 14 ∨ (loc i).2 = 15)) ∨ ((loc i).1 = 2 ∧ (loc i).2 < 29) ∨ ((loc i).1 = 3 ∧ (loc i).2 < 16) ∨ ((loc i).1 = 4 ∧ (loc i).2 < 16) ∨ ((loc i).1 = 5 ∧ (loc i).2 < 16) ∨ ((loc i).1 = 6 ∧ (loc i).2 < 16) ∨ ((loc i).1 = 7 ∧ (loc i).2 < 8) ∨ ((loc i).1 = 8 ∧ (loc i).2 < 8) ∨ ((loc i).1 = 9 ∧ (loc i).2 < 6) ∨ ((loc i).1 = 10 ∧ (loc i).2 < 6) := by decide +kernel
set_option maxRecDepth 100000 in
theorem cpyN {f g : Nat → Int32} {n i : Nat} (hi : i < n) : va_cpy f g 0 0 n i = f i := by
  unfold va_cpy; rw [if_pos (by omega)]; congr 1; omega
set_option maxRecDepth 100000 in
theorem Rbk_bkD {S D : Nat → Nat → Int32} {row : Nat → Int32} (h : Rbk S row) : Rbk (bkD S D) row := by
  refine ⟨fun i hi => ?_, h.2⟩
  rw [h.1 i hi]
  unfold cls
  have e := loc_ok i hi
  generalize loc i = p at *
  obtain ⟨p1, p2⟩ := p
  simp only at e ⊢
  rcases e with ⟨e1, e2⟩ | ⟨e1, e2⟩ | ⟨e1, e2⟩ | ⟨e1, e2⟩ | ⟨e1, e2⟩ | ⟨e1, e2⟩ | ⟨e1, e2⟩ | ⟨e1, e2⟩ | ⟨e1, e2⟩ | ⟨e1, e2⟩ <;> subst e1
  · rcases e2 with e2 | e2 | e2 | e2 | e2 | e2 <;> subst e2 <;> rfl
  · exact (cpyN e2).symm
  · exact (cpyN e2).symm
  · exact (cpyN e2).symm
  · exact (cpyN e2).symm
  · exact (cpyN e2).symm
  · exact (cpyN e2).symm
  · exact (cpyN e2).symm
  · exact (cpyN e2).symm
  · exact (cpyN e2).symm
set_option maxRecDepth 100000 in
theorem BkSh1 {u : Mm} (h : hSh u) : BkSh u 1 := ⟨sh1 h, sh2 h, sh3 h, sh4 h, sh5 h, sh6 h, sh7 h, sh8 h, sh9 h, sh10 h, sh11 h, sh12 h, rf1_0 h, rf2_0 h, rf1_1 h, rf1_2 h, rf1_3 h, rf1_4 h, rf1_5 h, rf1_6 h, rf1_8 h, rf1_9 h, rf1_13 h⟩
/-! the reference's rows -/
def imF (im row : Nat → Int32) (k n : Nat) : Nat → Int32 := fun i => if 5530 * k ≤ i ∧ i < 5530 * k + n then row (i - 5530 * k) else im i
set_option maxRecDepth 100000 in
theorem imF_upd (im row : Nat → Int32) (k n : Nat) : upd (imF im row k n) (5530 * k + n) (row n) = imF im row k (n + 1) := by
  funext j
  unfold imF
  by_cases c : j = 5530 * k + n
  · subst c; rw [pk_us, if_pos (by omega)]; congr 1; omega
  · rw [pk_un c]
    by_cases d : 5530 * k ≤ j ∧ j < 5530 * k + n
    · rw [if_pos d, if_pos (by omega)]
    · rw [if_neg d, if_neg (by omega)]
set_option maxRecDepth 100000 in
theorem imF0 (im row : Nat → Int32) (k : Nat) : imF im row k 0 = im := by funext j; unfold imF; rw [if_neg (by omega)]
set_option maxRecDepth 100000 in
theorem ix5530 {x k : Nat} : (5530 : Int32) * nI x + nI k = nI (5530 * x + k) := by rw [show (5530 : Int32) = nI 5530 from rfl, nI_mul, nI_add]
set_option maxRecDepth 100000 in
theorem m_image1 {m : Mm} (hS : hSh m) {x : Nat} (hx : x < 2) {N : Nat} {im : Nat → Int32} : ∀ (r k : Nat), k + r = 5530 → rX9_image_23 (N + r + 1) (wI m 48 (imF im (mI m 47) x k)) 45 (nI x) (nI k) = some (0, wI (wI (wI m 48 (imF im (mI m 47) x 5530)) 49 (upd (mI m 49) x 1)) 45 (upd (mI m 45) 1 0)) := by
  intro r
  induction r with
  | zero =>
    intro k hk
    have e : k = 5530 := by omega
    subst e
    have h1 : hSh (wI m 48 (imF im (mI m 47) x 5530)) := hS
    have h2 : ∀ g, hSh (wI (wI m 48 (imF im (mI m 47) x 5530)) 49 g) := fun _ => hS
    show bX9_image_23 _ _ 45 (nI x) (nI 5530) = _
    unfold bX9_image_23
    rw [if_pos (by decide), oK_of (sh45 h1), rf45_5 h1, oNn_of, oA_k (sh49 h1) hx (by decide), oZ1, oU_of, oR_of (sh45 (h2 _)), m_accept (h2 _) 0 (by decide), oB_of, clm (by omega)]
    rfl
  | succ r ih =>
    intro k hk
    have h1 : hSh (wI m 48 (imF im (mI m 47) x k)) := hS
    show bX9_image_23 (rX9_image_23 (N + r + 1)) _ 45 (nI x) (nI k) = _
    unfold bX9_image_23
    rw [if_neg (show ¬ (5530 : Int32) ≤ nI k from nI_ge (b := 5530) (by omega) (by decide)), oK_of (sh45 h1), rf45_4 h1, oNn_of, oK_of (sh45 h1), rf45_3 h1, oNn_of, oA_k (sh47 h1) (by omega) (by decide), oI_of, clm (by omega), ix5530, oA_k (sh48 h1) (by omega) (by decide), oU_of, clm (by omega), wI_s, nI_1]
    show rX9_image_23 _ (wI m 48 (upd (imF im (mI m 47) x k) (5530 * x + k) (mI m 47 k))) 45 (nI x) _ = _
    rw [imF_upd]
    exact ih (k + 1) (by omega)
def bcF (row im : Nat → Int32) (k n : Nat) : Nat → Int32 := fun i => if i < n then im (5530 * k + i) else row i
set_option maxRecDepth 100000 in
theorem bcF_upd (row im : Nat → Int32) (k n : Nat) : upd (bcF row im k n) n (im (5530 * k + n)) = bcF row im k (n + 1) := by
  funext j
  unfold bcF
  by_cases c : j = n
  · subst c; rw [pk_us, if_pos (by omega)]
  · rw [pk_un c]
    by_cases d : j < n
    · rw [if_pos d, if_pos (by omega)]
    · rw [if_neg d, if_neg (by omega)]
set_option maxRecDepth 100000 in
theorem bcF0 (row im : Nat → Int32) (k : Nat) : bcF row im k 0 = row := by funext j; unfold bcF; rw [if_neg (by omega)]
set_option maxRecDepth 100000 in
theorem m_back1 {m : Mm} (hS : hSh m) {x : Nat} (hx : x < 2) {N : Nat} {row : Nat → Int32} : ∀ (r k : Nat), k + r = 5530 → rX9_back_39 (N + r + 1) (wI m 47 (bcF row (mI m 48) x k)) 45 (nI x) (nI k) = some (0, wI (wI (wI m 47 (bcF row (mI m 48) x 5530)) 45 (upd (mI m 45) 8 0)) 45 (upd (upd (mI m 45) 8 0) 1 0)) := by
  intro r
  induction r with
  | zero =>
    intro k hk
    have e : k = 5530 := by omega
    subst e
    have h1 : hSh (wI m 47 (bcF row (mI m 48) x 5530)) := hS
    have h2 : ∀ g, hSh (wI (wI m 47 (bcF row (mI m 48) x 5530)) 45 g) := fun _ => hS
    show bX9_back_39 _ _ 45 (nI x) (nI 5530) = _
    unfold bX9_back_39 fX9_settled bX9_settled_13
    rw [if_pos (by decide), oR_of (sh45 h1), if_pos (by decide), oK_of (sh45 h1), oU_of, oR_of (sh45 (h2 _)), m_accept (h2 _) 0 (by decide), oB_of, oB_of]
    rfl
  | succ r ih =>
    intro k hk
    have h1 : hSh (wI m 47 (bcF row (mI m 48) x k)) := hS
    show bX9_back_39 (rX9_back_39 (N + r + 1)) _ 45 (nI x) (nI k) = _
    unfold bX9_back_39
    rw [if_neg (show ¬ (5530 : Int32) ≤ nI k from nI_ge (b := 5530) (by omega) (by decide)), oK_of (sh45 h1), rf45_3 h1, oNn_of, oK_of (sh45 h1), rf45_4 h1, oNn_of, ix5530, oA_k (sh48 h1) (by omega) (by decide), oI_of, clm (by omega), oA_k (sh47 h1) (by omega) (by decide), oU_of, clm (by omega), wI_s, nI_1]
    show rX9_back_39 _ (wI m 47 (upd (bcF row (mI m 48) x k) k (mI m 48 (5530 * x + k)))) 45 (nI x) _ = _
    rw [bcF_upd]
    exact ih (k + 1) (by omega)
