/-! ===== the class splits the tape ===== -/
section
variable {T : Nat → Int32} {n : Nat} {u : Mm}
set_option maxRecDepth 100000 in
theorem c_sort (u : Mm) (x : Int32) : fX4_sortOf u x = some (srt x, u) := by
  unfold fX4_sortOf bX4_sortOf_14 bX4_sortOf_31 srt
  by_cases c1 : x < 97
  · rw [if_pos c1, if_neg (show ¬ (97 ≤ x ∧ x ≤ 122) from fun w => absurd w.1 (Int32.not_le.mpr c1))]
    by_cases c2 : x < 48
    · rw [if_pos c2, if_neg (show ¬ (48 ≤ x ∧ x ≤ 57) from fun w => absurd w.1 (Int32.not_le.mpr c2))]
    · rw [if_neg c2]
      by_cases c3 : 57 < x
      · rw [if_pos c3, if_neg (show ¬ (48 ≤ x ∧ x ≤ 57) from fun w => absurd w.2 (Int32.not_le.mpr c3))]
      · rw [if_neg c3, if_pos (show 48 ≤ x ∧ x ≤ 57 from ⟨Int32.not_lt.mp c2, Int32.not_lt.mp c3⟩)]
  · rw [if_neg c1]
    by_cases c4 : 122 < x
    · have c2 : ¬ x < 48 := fun w => c1 (Int32.lt_of_lt_of_le w (by decide))
      have c3 : 57 < x := Int32.lt_of_lt_of_le (by decide) (Int32.le_of_lt c4)
      rw [if_pos c4, if_neg (show ¬ (97 ≤ x ∧ x ≤ 122) from fun w => absurd w.2 (Int32.not_le.mpr c4)), if_neg c2, if_pos c3, if_neg (show ¬ (48 ≤ x ∧ x ≤ 57) from fun w => absurd w.2 (Int32.not_le.mpr c3))]
    · rw [if_neg c4, if_pos (show 97 ≤ x ∧ x ≤ 122 from ⟨Int32.not_lt.mp c1, Int32.not_lt.mp c4⟩)]
set_option maxRecDepth 100000 in
theorem oSc_k {ρ : Type} {F : Int32 → Option ρ} {i : Nat} (h : i < 141) : oSc (nI i) F = F (chA i) := by
  unfold oSc
  rw [clm (by omega), if_pos ⟨nI_pos' (by omega), h⟩, chA_by]
/-- how far the letters are the same -/
abbrev pmF (T : Nat → Int32) (a b o r : Nat) : Prop := a + r ≤ b ∧ ∀ i, i < r → T (a + i) = chA (o + i)
set_option maxRecDepth 100000 in
theorem c_name (hK : mK u 42 = (10, 400)) (hu : ∀ i, i < n → mI u 42 i = T i) (hn : n ≤ 400) {a b o l : Nat} (hb : b ≤ n) (hl : o + l < 141) (h32 : chA (o + l) = 32) (hn32 : ∀ i, i < l → ¬ chA (o + i) = 32) {kd : Int32} {N : Nat} : ∀ d r, r + d = l → rX4_wordAt_13 (N + d + 1) u 42 (nI a) (nI b) kd (nI (a + r)) (if pmF T a b o r then 1 else 0) (nI (o + r)) = if (b = a + l ∧ ∀ i, i < l → T (a + i) = chA (o + i)) then some (kd, u) else rX4_wordAt_13 N u 42 (nI a) (nI b) (kd + 1) (nI a) 1 (nI (o + l + 1)) := by
  intro d
  induction d with
  | zero =>
    intro r hr
    have e : r = l := by omega
    subst e
    show bX4_wordAt_13 (rX4_wordAt_13 N) u 42 (nI a) (nI b) kd (nI (a + r)) _ (nI (o + r)) = _
    unfold bX4_wordAt_13 bX4_wordAt_85 bX4_wordAt_94
    rw [if_neg (show ¬ (141 : Int32) ≤ nI (o + r) from nI_ge (b := 141) hl (by decide)), oSc_k hl, h32, if_pos rfl, nI_1]
    by_cases p : pmF T a b o r
    · rw [if_pos p, if_neg (by decide)]
      by_cases z : a + r = b
      · rw [if_pos (by rw [z]), if_pos ⟨z.symm, p.2⟩]
      · have hab : a + r < 2147483648 ∨ True := Or.inr trivial
        have p1 := p.1
        rw [if_neg (nIne z (by omega) (by omega)), if_neg (fun w => z w.1.symm)]
    · rw [if_neg p, if_pos rfl, if_neg (fun w => p ⟨by omega, w.2⟩)]
  | succ d ih =>
    intro r hr
    have i1 := ih (r + 1) (by omega)
    show bX4_wordAt_13 (rX4_wordAt_13 (N + d + 1)) u 42 (nI a) (nI b) kd (nI (a + r)) _ (nI (o + r)) = _
    unfold bX4_wordAt_13 bX4_wordAt_63 bX4_wordAt_64 bX4_wordAt_94
    have q1 : nI (a + r) + 1 = nI (a + (r + 1)) := nI_1 (a + r)
    have q2 : nI (o + r) + 1 = nI (o + (r + 1)) := nI_1 (o + r)
    rw [if_neg (show ¬ (141 : Int32) ≤ nI (o + r) from nI_ge (b := 141) (by omega) (by decide)), oSc_k (by omega), if_neg (hn32 r (by omega)), q1, q2]
    by_cases p : pmF T a b o r
    · have p1 := p.1
      rw [if_pos p, if_neg (by decide)]
      by_cases z : a + r < b
      · rw [if_neg (nI_ge z (by omega)), oA_k hK (by omega) (by decide), oI_of, clm (by omega), hu (a + r) (by omega)]
        by_cases y : T (a + r) = chA (o + r)
        · rw [if_pos y]
          rw [if_pos (show pmF T a b o (r + 1) from ⟨by omega, fun i hi => by
            by_cases w : i = r
            · rw [w]; exact y
            · exact p.2 i (by omega)⟩)] at i1
          exact i1
        · rw [if_neg y]
          rw [if_neg (show ¬ pmF T a b o (r + 1) from fun w => y (w.2 r (by omega)))] at i1
          exact i1
      · rw [if_pos (nI_le (by omega) (by omega))]
        rw [if_neg (show ¬ pmF T a b o (r + 1) from fun w => by have := w.1; omega)] at i1
        exact i1
    · rw [if_neg p, if_pos rfl]
      rw [if_neg (show ¬ pmF T a b o (r + 1) from fun w => p ⟨by have := w.1; omega, fun i hi => w.2 i (by omega)⟩)] at i1
      exact i1
set_option maxRecDepth 100000 in
theorem c_wordgo (hK : mK u 42 = (10, 400)) (hu : ∀ i, i < n → mI u 42 i = T i) (hn : n ≤ 400) {a b : Nat} (hab : a ≤ b) (hb : b ≤ n) {N : Nat} : ∀ r j, j + r = 28 → rX4_wordAt_13 (N + (141 - oAf j) + 1) u 42 (nI a) (nI b) (nI (256 + j)) (nI a) 1 (nI (oAf j)) = some (wKg T a b r j, u) := by
  intro r
  induction r with
  | zero =>
    intro j hj
    have e : j = 28 := by omega
    subst e
    show bX4_wordAt_13 _ u 42 (nI a) (nI b) _ (nI a) 1 (nI (oAf 28)) = _
    unfold bX4_wordAt_13
    rw [if_pos (by decide)]
    rfl
  | succ r ih =>
    intro j hj
    obtain ⟨⟨n1, n2, n3, n4, n5⟩, n6⟩ := nm_ok j (by omega)
    have i1 := ih (j + 1) (by omega)
    have st := c_name (T := T) (kd := nI (256 + j)) (N := N + (141 - oAf (j + 1)) + 1) hK hu hn (a := a) hb (o := oAf j) (l := lAf j) (by omega) n5 (fun i hi => (n6 i hi).1) (lAf j) 0 (by omega)
    rw [if_pos (show pmF T a b (oAf j) 0 from ⟨by omega, fun i hi => absurd hi (by omega)⟩)] at st
    rw [show N + (141 - oAf j) + 1 = N + (141 - oAf (j + 1)) + 1 + lAf j + 1 by omega]
    refine Eq.trans st ?_
    rw [wKg_s]
    by_cases z : mt T a b j
    · rw [if_pos z, if_pos z]
    · rw [if_neg z, if_neg z, n3, nI_1, show 256 + j + 1 = 256 + (j + 1) by omega]
      exact i1
set_option maxRecDepth 100000 in
theorem c_word (hK : mK u 42 = (10, 400)) (hu : ∀ i, i < n → mI u 42 i = T i) (hn : n ≤ 400) {a b : Nat} (hab : a ≤ b) (hb : b ≤ n) : fX4_wordAt u 42 (nI a) (nI b) = some (wKd T a b, u) := by
  unfold fX4_wordAt wKd
  have h := c_wordgo (T := T) hK hu hn hab hb (N := 999858) 28 0 (by decide)
  rw [show hwF = 999858 + (141 - oAf 0) + 1 from rfl]
  exact h
set_option maxRecDepth 100000 in
theorem c_numgo (hK : mK u 42 = (10, 400)) (hu : ∀ i, i < n → mI u 42 i = T i) (hn : n ≤ 400) {a b : Nat} (hb : b ≤ n) {N : Nat} : ∀ d i, a + i + d = b → rX4_numberAt_5 (N + d + 1) u 42 (nI b) (nC T a i) (nI (a + i)) = some (nC T a (b - a), u) := by
  intro d
  induction d with
  | zero =>
    intro i hi
    show bX4_numberAt_5 _ u 42 (nI b) _ (nI (a + i)) = _
    unfold bX4_numberAt_5
    rw [if_pos (nI_le (by omega) (by omega)), show b - a = i by omega]
  | succ d ih =>
    intro i hi
    have i1 := ih (i + 1) (by omega)
    show bX4_numberAt_5 (rX4_numberAt_5 (N + d + 1)) u 42 (nI b) _ (nI (a + i)) = _
    unfold bX4_numberAt_5
    rw [if_neg (nI_ge (by omega) (by omega)), oA_k hK (by omega) (by decide), oI_of, clm (by omega), hu (a + i) (by omega), c_min, oB_of, nI_1]
    exact i1
set_option maxRecDepth 100000 in
theorem c_num (hK : mK u 42 = (10, 400)) (hu : ∀ i, i < n → mI u 42 i = T i) (hn : n ≤ 400) {a b : Nat} (hab : a ≤ b) (hb : b ≤ n) : fX4_numberAt u 42 (nI a) (nI b) = some (nC T a (b - a), u) := by
  unfold fX4_numberAt
  have h := c_numgo (T := T) (a := a) hK hu hn hb (N := 999999 - (b - a)) (b - a) 0 (by omega)
  rw [show hwF = 999999 - (b - a) + (b - a) + 1 by unfold hwF; omega]
  exact h
end
/-- the class's tokens -/
def kS (c : Mm) (k : Nat) (KK VV PP : Nat → Int32) : Mm := (c.1, c.2.1, fun b => if b = 19 then upd (c.2.2.1 19) 3 (nI k) else if b = 20 then KK else if b = 21 then VV else if b = 22 then PP else c.2.2.1 b, c.2.2.2.1, c.2.2.2.2)
section
variable {c : Mm} {k : Nat} {KK VV PP g : Nat → Int32} {T : Nat → Int32} {n : Nat}
set_option maxRecDepth 100000 in
theorem kS_20 : wI (kS c k KK VV PP) 20 g = kS c k g VV PP := by
  refine Prod.ext rfl (Prod.ext rfl (Prod.ext (funext fun b => ?_) (Prod.ext rfl rfl)))
  show (if b = 20 then g else if b = 19 then upd (c.2.2.1 19) 3 (nI k) else if b = 20 then KK else if b = 21 then VV else if b = 22 then PP else c.2.2.1 b) = if b = 19 then upd (c.2.2.1 19) 3 (nI k) else if b = 20 then g else if b = 21 then VV else if b = 22 then PP else c.2.2.1 b
  by_cases h : b = 20
  · subst h; rfl
  · rw [if_neg h, if_neg h, if_neg h]
set_option maxRecDepth 100000 in
theorem kS_21 : wI (kS c k KK VV PP) 21 g = kS c k KK g PP := by
  refine Prod.ext rfl (Prod.ext rfl (Prod.ext (funext fun b => ?_) (Prod.ext rfl rfl)))
  show (if b = 21 then g else if b = 19 then upd (c.2.2.1 19) 3 (nI k) else if b = 20 then KK else if b = 21 then VV else if b = 22 then PP else c.2.2.1 b) = if b = 19 then upd (c.2.2.1 19) 3 (nI k) else if b = 20 then KK else if b = 21 then g else if b = 22 then PP else c.2.2.1 b
  by_cases h : b = 21
  · subst h; rfl
  · rw [if_neg h, if_neg h, if_neg h]
set_option maxRecDepth 100000 in
theorem kS_22 : wI (kS c k KK VV PP) 22 g = kS c k KK VV g := by
  refine Prod.ext rfl (Prod.ext rfl (Prod.ext (funext fun b => ?_) (Prod.ext rfl rfl)))
  show (if b = 22 then g else if b = 19 then upd (c.2.2.1 19) 3 (nI k) else if b = 20 then KK else if b = 21 then VV else if b = 22 then PP else c.2.2.1 b) = if b = 19 then upd (c.2.2.1 19) 3 (nI k) else if b = 20 then KK else if b = 21 then VV else if b = 22 then g else c.2.2.1 b
  by_cases h : b = 22
  · subst h; rfl
  · rw [if_neg h, if_neg h, if_neg h]
set_option maxRecDepth 100000 in
theorem kS_3 {k' : Nat} : wI (kS c k KK VV PP) 19 (upd (mI (kS c k KK VV PP) 19) 3 (nI k')) = kS c k' KK VV PP := by
  refine Prod.ext rfl (Prod.ext rfl (Prod.ext (funext fun b => ?_) (Prod.ext rfl rfl)))
  show (if b = 19 then upd (upd (c.2.2.1 19) 3 (nI k)) 3 (nI k') else if b = 19 then upd (c.2.2.1 19) 3 (nI k) else if b = 20 then KK else if b = 21 then VV else if b = 22 then PP else c.2.2.1 b) = if b = 19 then upd (c.2.2.1 19) 3 (nI k') else if b = 20 then KK else if b = 21 then VV else if b = 22 then PP else c.2.2.1 b
  by_cases h : b = 19
  · rw [if_pos h, if_pos h, upd_s]
  · rw [if_neg h, if_neg h, if_neg h]
set_option maxRecDepth 100000 in
theorem kS_20u {i : Nat} {x : Int32} : wI (kS c k KK VV PP) 20 (upd (mI (kS c k KK VV PP) 20) i x) = kS c k (upd KK i x) VV PP := kS_20
set_option maxRecDepth 100000 in
theorem kS_21u {i : Nat} {x : Int32} : wI (kS c k KK VV PP) 21 (upd (mI (kS c k KK VV PP) 21) i x) = kS c k KK (upd VV i x) PP := kS_21
set_option maxRecDepth 100000 in
theorem kS_22u {i : Nat} {x : Int32} : wI (kS c k KK VV PP) 22 (upd (mI (kS c k KK VV PP) 22) i x) = kS c k KK VV (upd PP i x) := kS_22
set_option maxRecDepth 100000 in
theorem kS_n : mI (kS c k KK VV PP) 19 3 = nI k := rfl
set_option maxRecDepth 100000 in
theorem c_addTok (hc : hSh c) (hk : k < 401) {x v p : Int32} : fX4_addToken (kS c k KK VV PP) 19 x v p = some ((), kS c (k + 1) (upd KK k x) (upd VV k v) (upd PP k p)) := by
  have hs : ∀ k KK VV PP, hSh (kS c k KK VV PP) := fun _ _ _ _ => hc
  have e : ¬ Int32.ofNat (mK (kS c k KK VV PP) 20).2 ≤ nI k := by rw [sh20 (hs _ _ _ _)]; exact nI_ge (b := 401) hk (by decide)
  unfold fX4_addToken
  rw [oK_of (sh19 (hs _ _ _ _)), oI_of, kS_n, oK_of (sh19 (hs _ _ _ _)), rf19_0 (hs _ _ _ _), oNn_of, oL_of (sh20 (hs _ _ _ _)), if_neg e, oK_of (sh19 (hs _ _ _ _)), oNn_of, oK_of (sh19 (hs _ _ _ _)), oI_of, oA_k (sh20 (hs _ _ _ _)) hk (by decide), clm (by omega), oU_of, kS_20u, oK_of (sh19 (hs _ _ _ _)), rf19_1 (hs _ _ _ _), oNn_of, oK_of (sh19 (hs _ _ _ _)), oI_of, kS_n, oA_k (sh21 (hs _ _ _ _)) hk (by decide), clm (by omega), oU_of, kS_21u, oK_of (sh19 (hs _ _ _ _)), rf19_2 (hs _ _ _ _), oNn_of, oK_of (sh19 (hs _ _ _ _)), oI_of, kS_n, oA_k (sh22 (hs _ _ _ _)) hk (by decide), clm (by omega), oU_of, kS_22u, oK_of (sh19 (hs _ _ _ _)), oI_of, kS_n, nI_1, oK_of (sh19 (hs _ _ _ _)), oU_of, kS_3]
set_option maxRecDepth 100000 in
theorem c_run25 (hc : hSh c) (hu : ∀ i, i < n → mI c 42 i = T i) (hn : n ≤ 400) {K2 : Mm → Nat → Nat → Int32 → Int32 → Option (Unit × Mm)} {i0 : Nat} {v s : Int32} (h0 : ¬ s = 0) {N : Nat} : ∀ d i, i ≤ n → n ≤ i + d → rX4_splitTape_25 K2 (N + d + 1) (kS c k KK VV PP) 19 42 (nI n) (nI i) (nI i0) v s = bX4_splitTape_52 K2 (kS c k KK VV PP) 19 42 (nI n) (nI (runE T n s d i)) (nI i0) v s := by
  have hs : hSh (kS c k KK VV PP) := hc
  have hu' : ∀ i, i < n → mI (kS c k KK VV PP) 42 i = T i := hu
  intro d
  induction d with
  | zero =>
    intro i h1 h2
    show bX4_splitTape_25 K2 _ _ 19 42 (nI n) (nI i) (nI i0) v s = _
    unfold bX4_splitTape_25
    rw [if_pos (nI_le (by omega) (by omega))]
    rfl
  | succ d ih =>
    intro i h1 h2
    show bX4_splitTape_25 K2 (rX4_splitTape_25 K2 (N + d + 1)) _ 19 42 (nI n) (nI i) (nI i0) v s = _
    unfold bX4_splitTape_25
    rw [runE_s]
    by_cases z : i < n
    · rw [if_neg (nI_ge z (by omega)), if_neg h0, oA_k (sh42 hs) (by omega) (by decide), oI_of, clm (by omega), hu' i z, c_sort, oB_of]
      by_cases y : srt (T i) = s
      · rw [if_pos y, if_pos ⟨z, y⟩, nI_1]
        exact ih (i + 1) (by omega) (by omega)
      · rw [if_neg y, if_neg (fun w => y w.2)]
    · rw [if_pos (nI_le (by omega) (by omega)), if_neg (fun w => z w.1)]
set_option maxRecDepth 100000 in
theorem c_tok1 (hc : hSh c) (hu : ∀ i, i < n → mI c 42 i = T i) (hn : n ≤ 400) {i : Nat} (hi : i < n) {N : Nat} : rX4_splitTape_2 (N + 1) (kS c k KK VV PP) 19 42 (nI n) (nI i) = bX4_splitTape_52 (rX4_splitTape_2 N) (kS c k KK VV PP) 19 42 (nI n) (nI (tokE T n i)) (nI i) (T i) (srt (T i)) := by
  have hs : hSh (kS c k KK VV PP) := hc
  have hu' : ∀ i, i < n → mI (kS c k KK VV PP) 42 i = T i := hu
  show bX4_splitTape_2 (rX4_splitTape_2 N) _ 19 42 (nI n) (nI i) = _
  unfold bX4_splitTape_2 tokE
  rw [if_neg (nI_ge hi (by omega)), oA_k (sh42 hs) (by omega) (by decide), oI_of, clm (by omega), hu' i hi, c_sort, oB_of, nI_1]
  by_cases z : srt (T i) = 0
  · rw [if_pos z]
    show bX4_splitTape_25 _ _ _ 19 42 (nI n) (nI (i + 1)) (nI i) (T i) (srt (T i)) = _
    unfold bX4_splitTape_25
    by_cases y : nI n ≤ nI (i + 1)
    · rw [if_pos y]
    · rw [if_neg y, if_pos z]
  · rw [if_neg z, show hwF = 999999 - (n - (i + 1)) + (n - (i + 1)) + 1 by unfold hwF; omega]
    exact c_run25 hc hu hn z (n - (i + 1)) (i + 1) (by omega) (by omega)
set_option maxRecDepth 100000 in
theorem c_split (hc : hSh c) (hu : ∀ i, i < n → mI c 42 i = T i) (hn : n ≤ 400) {N : Nat} : ∀ d i k KK VV PP, i ≤ n → n ≤ i + d → nxB T n i = stK T n k → k ≤ tkM T n → (∀ j, j < k → KK j = kAt_ T n (stK T n j) ∧ VV j = vAt_ T n (stK T n j) ∧ PP j = nI (stK T n j)) → ∃ KK' VV' PP', rX4_splitTape_2 (N + d + 1) (kS c k KK VV PP) 19 42 (nI n) (nI i) = some ((), kS c (tkM T n + 1) KK' VV' PP') ∧ ∀ j, j ≤ tkM T n → KK' j = kAt_ T n (stK T n j) ∧ VV' j = vAt_ T n (stK T n j) ∧ PP' j = nI (stK T n j) := by
  obtain ⟨m1, m2, m3⟩ := tkM_p (T := T) (n := n)
  have hs : ∀ k KK VV PP, hSh (kS c k KK VV PP) := fun _ _ _ _ => hc
  have done : ∀ (M : Nat) i k KK VV PP, i = n → nxB T n i = stK T n k → k ≤ tkM T n → (∀ j, j < k → KK j = kAt_ T n (stK T n j) ∧ VV j = vAt_ T n (stK T n j) ∧ PP j = nI (stK T n j)) → ∃ KK' VV' PP', rX4_splitTape_2 (M + 1) (kS c k KK VV PP) 19 42 (nI n) (nI i) = some ((), kS c (tkM T n + 1) KK' VV' PP') ∧ ∀ j, j ≤ tkM T n → KK' j = kAt_ T n (stK T n j) ∧ VV' j = vAt_ T n (stK T n j) ∧ PP' j = nI (stK T n j) := by
    intro M i k KK VV PP hi hx hk hj
    have ek : k = tkM T n := by
      have e1 : stK T n k = n := by rw [← hx, nxB_stop (by omega)]; exact hi
      rcases Nat.lt_or_eq_of_le hk with w | w
      · have := m1 k w; omega
      · exact w
    refine ⟨upd KK k 286, upd VV k 0, upd PP k (nI n), ?_, fun j hj2 => ?_⟩
    · show bX4_splitTape_2 _ _ 19 42 (nI n) (nI i) = _
      unfold bX4_splitTape_2
      rw [if_pos (nI_le (by omega) (by omega)), oR_of (sh19 (hs _ _ _ _)), c_addTok hc (by omega), oB_of, ek]
    · by_cases z : j = k
      · subst z
        rw [pk_us, pk_us, pk_us, ek, m2]
        unfold kAt_ vAt_
        rw [if_neg (by omega), if_neg (by omega)]
        exact ⟨rfl, rfl, rfl⟩
      · rw [pk_un z, pk_un z, pk_un z]
        exact hj j (by omega)
  intro d
  induction d with
  | zero =>
    intro i k KK VV PP h1 h2 hx hk hj
    exact done (N + 0) i k KK VV PP (by omega) hx hk hj
  | succ d ih =>
    intro i k KK VV PP h1 h2 hx hk hj
    by_cases z : i = n
    · exact done (N + (d + 1)) i k KK VV PP z hx hk hj
    · have hi : i < n := by omega
      have te := tokE_b (T := T) hi
      have dr : ∀ (k2 : Nat) (KK2 VV2 PP2 : Nat → Int32), nxB T n (tokE T n i) = stK T n k2 → k2 ≤ tkM T n → (∀ j, j < k2 → KK2 j = kAt_ T n (stK T n j) ∧ VV2 j = vAt_ T n (stK T n j) ∧ PP2 j = nI (stK T n j)) → ∃ KK' VV' PP', rX4_splitTape_2 (N + d + 1) (kS c k2 KK2 VV2 PP2) 19 42 (nI n) (nI (tokE T n i)) = some ((), kS c (tkM T n + 1) KK' VV' PP') ∧ ∀ j, j ≤ tkM T n → KK' j = kAt_ T n (stK T n j) ∧ VV' j = vAt_ T n (stK T n j) ∧ PP' j = nI (stK T n j) := fun k2 KK2 VV2 PP2 q1 q2 q3 => ih (tokE T n i) k2 KK2 VV2 PP2 te.2 (by omega) q1 q2 q3
      rw [show N + (d + 1) + 1 = N + d + 1 + 1 by omega, c_tok1 hc hu hn hi]
      by_cases b : T i = 32
      · have s0 : srt (T i) = 0 := by rw [b]; decide
        have e1 : tokE T n i = i + 1 := by unfold tokE; rw [if_pos s0]
        unfold bX4_splitTape_52 bX4_splitTape_116
        rw [if_neg (by rw [s0]; decide), if_neg (by rw [s0]; decide), if_pos b]
        exact dr k KK VV PP (by rw [e1, ← nxB_blank hi b]; exact hx) hk hj
      · have ei : i = stK T n k := by rw [← hx, nxB_stop (fun w => b w.2)]
        have kM : k < tkM T n := by
          rcases Nat.lt_or_eq_of_le hk with w | w
          · exact w
          · rw [w, m2] at ei; omega
        have nx : nxB T n (tokE T n i) = stK T n (k + 1) := by
          rw [stK_s, if_pos (by rw [← ei]; exact hi), ← ei]
        have go : ∀ x v : Int32, x = kAt_ T n i → v = vAt_ T n i → ∃ KK' VV' PP', rX4_splitTape_2 (N + d + 1) (kS c (k + 1) (upd KK k x) (upd VV k v) (upd PP k (nI i))) 19 42 (nI n) (nI (tokE T n i)) = some ((), kS c (tkM T n + 1) KK' VV' PP') ∧ ∀ j, j ≤ tkM T n → KK' j = kAt_ T n (stK T n j) ∧ VV' j = vAt_ T n (stK T n j) ∧ PP' j = nI (stK T n j) := by
          intro x v hx2 hv2
          refine dr (k + 1) _ _ _ nx (by omega) (fun j hj2 => ?_)
          by_cases w : j = k
          · subst w
            rw [pk_us, pk_us, pk_us, ← ei]
            exact ⟨hx2, hv2, rfl⟩
          · rw [pk_un w, pk_un w, pk_un w]; exact hj j (by omega)
        unfold bX4_splitTape_52 bX4_splitTape_116
        rcases srt_in (T i) with s | s | s
        · have n2 : ¬ srt (T i) = 2 := by rw [s]; decide
          rw [if_pos s, c_word (T := T) (n := n) (u := kS c k KK VV PP) (sh42 (hs _ _ _ _)) hu hn (by omega) te.2, oB_of, oR_of (sh19 (hs _ _ _ _)), c_addTok hc (by omega), oB_of]
          refine go _ 0 ?_ ?_
          · unfold kAt_; rw [if_pos hi, if_pos s]
          · unfold vAt_; rw [if_pos hi, if_neg n2]
        · have n1 : ¬ srt (T i) = 1 := by rw [s]; decide
          rw [if_neg n1, if_pos s, c_num (T := T) (n := n) (u := kS c k KK VV PP) (sh42 (hs _ _ _ _)) hu hn (by omega) te.2, oB_of, oR_of (sh19 (hs _ _ _ _)), c_addTok hc (by omega), oB_of]
          refine go 285 _ ?_ ?_
          · unfold kAt_; rw [if_pos hi, if_neg n1, if_pos s]
          · unfold vAt_; rw [if_pos hi, if_pos s]
        · have n1 : ¬ srt (T i) = 1 := by rw [s]; decide
          have n2 : ¬ srt (T i) = 2 := by rw [s]; decide
          rw [if_neg n1, if_neg n2, if_neg b, oR_of (sh19 (hs _ _ _ _)), c_addTok hc (by omega), oB_of]
          refine go (T i) 0 ?_ ?_
          · unfold kAt_; rw [if_pos hi, if_neg n1, if_neg n2]
          · unfold vAt_; rw [if_pos hi, if_neg n2]
end
