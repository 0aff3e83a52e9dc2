/-! ===== the reference goes on to the next token ===== -/
def nS (u : Mm) (a b : Nat) (s : Int32) (w : Int64) : Mm := (u.1, u.2.1, fun x => if x = 45 then (fun j => if j = 14 then nI a else if j = 15 then nI b else if j = 16 then s else u.2.2.1 45 j) else u.2.2.1 x, fun x => if x = 45 then vp_updL (u.2.2.2.1 45) 17 w else u.2.2.2.1 x, u.2.2.2.2)
section
variable {u : Mm} {a b : Nat} {s : Int32} {w : Int64} {T : Nat → Int32} {n : Nat}
set_option maxRecDepth 100000 in
theorem nS_g {a' b' : Nat} {s' : Int32} {g : Nat → Int32} (h : ∀ j, g j = if j = 14 then nI a' else if j = 15 then nI b' else if j = 16 then s' else u.2.2.1 45 j) : wI (nS u a b s w) 45 g = nS u a' b' s' w := by
  refine Prod.ext rfl (Prod.ext rfl (Prod.ext (funext fun x => ?_) (Prod.ext rfl rfl)))
  show (if x = 45 then g else if x = 45 then (fun j => if j = 14 then nI a else if j = 15 then nI b else if j = 16 then s else u.2.2.1 45 j) else u.2.2.1 x) = if x = 45 then (fun j => if j = 14 then nI a' else if j = 15 then nI b' else if j = 16 then s' else u.2.2.1 45 j) else u.2.2.1 x
  by_cases z : x = 45
  · rw [if_pos z, if_pos z]; funext j; exact h j
  · rw [if_neg z, if_neg z, if_neg z]
set_option maxRecDepth 100000 in
theorem nS_14 {a' : Nat} : wI (nS u a b s w) 45 (upd (mI (nS u a b s w) 45) 14 (nI a')) = nS u a' b s w := by
  refine nS_g (fun j => ?_)
  show (if j = 14 then nI a' else if j = 14 then nI a else if j = 15 then nI b else if j = 16 then s else u.2.2.1 45 j) = _
  by_cases h : j = 14
  · rw [if_pos h, if_pos h]
  · rw [if_neg h, if_neg h, if_neg h]
set_option maxRecDepth 100000 in
theorem nS_15 {b' : Nat} : wI (nS u a b s w) 45 (upd (mI (nS u a b s w) 45) 15 (nI b')) = nS u a b' s w := by
  refine nS_g (fun j => ?_)
  show (if j = 15 then nI b' else if j = 14 then nI a else if j = 15 then nI b else if j = 16 then s else u.2.2.1 45 j) = _
  by_cases h : j = 15
  · subst h; rfl
  · rw [if_neg h, if_neg h, if_neg h]
set_option maxRecDepth 100000 in
theorem nS_16 {s' : Int32} : wI (nS u a b s w) 45 (upd (mI (nS u a b s w) 45) 16 s') = nS u a b s' w := by
  refine nS_g (fun j => ?_)
  show (if j = 16 then s' else if j = 14 then nI a else if j = 15 then nI b else if j = 16 then s else u.2.2.1 45 j) = _
  by_cases h : j = 16
  · subst h; rfl
  · rw [if_neg h, if_neg h, if_neg h]
set_option maxRecDepth 100000 in
theorem nS_17 {w' : Int64} : wL (nS u a b s w) 45 (vp_updL (mL (nS u a b s w) 45) 17 w') = nS u a b s w' := by
  refine Prod.ext rfl (Prod.ext rfl (Prod.ext rfl (Prod.ext (funext fun x => ?_) rfl)))
  show (if x = 45 then vp_updL (vp_updL (u.2.2.2.1 45) 17 w) 17 w' else if x = 45 then vp_updL (u.2.2.2.1 45) 17 w else u.2.2.2.1 x) = if x = 45 then vp_updL (u.2.2.2.1 45) 17 w' else u.2.2.2.1 x
  by_cases z : x = 45
  · rw [if_pos z, if_pos z]
    funext j
    by_cases y : j = 17
    · subst y; rw [pk_uLs, pk_uLs]
    · rw [pk_uLn y, pk_uLn y, pk_uLn y]
  · rw [if_neg z, if_neg z, if_neg z]
set_option maxRecDepth 100000 in
theorem nS_i14 : mI (nS u a b s w) 45 14 = nI a := rfl
set_option maxRecDepth 100000 in
theorem nS_i15 : mI (nS u a b s w) 45 15 = nI b := rfl
set_option maxRecDepth 100000 in
theorem nS_i16 : mI (nS u a b s w) 45 16 = s := rfl
set_option maxRecDepth 100000 in
theorem nS_i17 : mL (nS u a b s w) 45 17 = w := rfl
set_option maxRecDepth 100000 in
theorem r_small (u : Mm) (x : Int32) : fX9_isSmall u x = some (if srt x = 1 then 1 else 0, u) := by
  unfold fX9_isSmall bX9_isSmall_17 srt
  by_cases c1 : x < 97
  · rw [if_pos c1, oZ0, if_neg (show ¬ (97 ≤ x ∧ x ≤ 122) from fun w => absurd w.1 (Int32.not_le.mpr c1))]
    by_cases c2 : 48 ≤ x ∧ x ≤ 57
    · rw [if_pos c2]; rfl
    · rw [if_neg c2]; rfl
  · rw [if_neg c1]
    by_cases c4 : 122 < x
    · rw [if_pos c4, oZ0, if_neg (show ¬ (97 ≤ x ∧ x ≤ 122) from fun w => absurd w.2 (Int32.not_le.mpr c4))]
      by_cases c2 : 48 ≤ x ∧ x ≤ 57
      · rw [if_pos c2]; rfl
      · rw [if_neg c2]; rfl
    · rw [if_neg c4, oZ1, if_pos (show 97 ≤ x ∧ x ≤ 122 from ⟨Int32.not_lt.mp c1, Int32.not_lt.mp c4⟩)]; rfl
set_option maxRecDepth 100000 in
theorem r_digit (u : Mm) (x : Int32) : fX9_isDigit u x = some (if srt x = 2 then 1 else 0, u) := by
  unfold fX9_isDigit bX9_isDigit_17 srt
  by_cases c1 : x < 48
  · rw [if_pos c1, oZ0, if_neg (show ¬ (97 ≤ x ∧ x ≤ 122) from fun w => absurd (Int32.le_trans (by decide) w.1) (Int32.not_le.mpr c1)), if_neg (show ¬ (48 ≤ x ∧ x ≤ 57) from fun w => absurd w.1 (Int32.not_le.mpr c1))]; rfl
  · rw [if_neg c1]
    by_cases c4 : 57 < x
    · rw [if_pos c4, oZ0]
      by_cases c2 : 97 ≤ x ∧ x ≤ 122
      · rw [if_pos c2]; rfl
      · rw [if_neg c2, if_neg (show ¬ (48 ≤ x ∧ x ≤ 57) from fun w => absurd w.2 (Int32.not_le.mpr c4))]; rfl
    · rw [if_neg c4, oZ1, if_neg (show ¬ (97 ≤ x ∧ x ≤ 122) from fun w => absurd (Int32.lt_of_lt_of_le (by decide) w.1) c4), if_pos (show 48 ≤ x ∧ x ≤ 57 from ⟨Int32.not_lt.mp c1, Int32.not_lt.mp c4⟩)]; rfl
/-- what the tape is, there -/
def Tap (u : Mm) (T : Nat → Int32) (n : Nat) : Prop := hSh u ∧ n ≤ 400 ∧ mI u 45 13 = nI n ∧ ∀ i, i < n → mI u 54 i = T i
set_option maxRecDepth 100000 in
theorem nS_sh (h : Tap u T n) : hSh (nS u a b s w) := h.1
set_option maxRecDepth 100000 in
theorem nS_13 (h : Tap u T n) : mI (nS u a b s w) 45 13 = nI n := h.2.2.1
set_option maxRecDepth 100000 in
theorem nS_54 (h : Tap u T n) {i : Nat} (hi : i < n) : mI (nS u a b s w) 54 i = T i := h.2.2.2 i hi
set_option maxRecDepth 100000 in
theorem r_243stop (h : Tap u T n) (hs : ¬ s = 2) {N : Nat} : rX9_next_243 (N + 1) (nS u a b s w) 45 = some ((), nS u a b s w) := by
  show bX9_next_243 _ _ 45 = _
  unfold bX9_next_243
  rw [oK_of (sh45 (nS_sh h)), oI_of, nS_i16, if_neg hs]
set_option maxRecDepth 100000 in
theorem r_243 (h : Tap u T n) {N : Nat} : ∀ d i, a + i ≤ n → n ≤ a + i + d → rX9_next_243 (N + d + 1) (nS u a (a + i) 2 (nR T a i)) 45 = some ((), nS u a (runE T n 2 d (a + i)) 2 (nR T a (runE T n 2 d (a + i) - a))) := by
  have hn := h.2.1
  have h319 : ∀ (N b i : Nat) (x : Int64), bX9_next_319 (rX9_next_243 N) (nS u a b 2 (nR T a i)) 45 x 45 = rX9_next_243 N (nS u a (b + 1) 2 x) 45 := by
    intro N b i x
    unfold bX9_next_319
    rw [oK_of (sh45 (nS_sh h)), oU_of, nS_17, oK_of (sh45 (nS_sh h)), oI_of, nS_i15, nI_1, oK_of (sh45 (nS_sh h)), oU_of, nS_15]
  intro d
  induction d with
  | zero =>
    intro i h1 h2
    show bX9_next_243 _ _ 45 = _
    unfold bX9_next_243
    rw [oK_of (sh45 (nS_sh h)), oI_of, nS_i16, if_pos rfl, oK_of (sh45 (nS_sh h)), oI_of, nS_i15, oK_of (sh45 (nS_sh h)), oI_of, nS_13 h, if_pos (nI_le (by omega) (by omega))]
    show _ = some ((), nS u a (a + i) 2 (nR T a (a + i - a)))
    rw [Nat.add_sub_cancel_left]
  | succ d ih =>
    intro i h1 h2
    have i1 := ih (i + 1)
    show bX9_next_243 (rX9_next_243 (N + d + 1)) _ 45 = _
    unfold bX9_next_243
    rw [runE_s, oK_of (sh45 (nS_sh h)), oI_of, nS_i16, if_pos rfl, oK_of (sh45 (nS_sh h)), oI_of, nS_i15, oK_of (sh45 (nS_sh h)), oI_of, nS_13 h]
    by_cases z : a + i < n
    · rw [if_neg (nI_ge z (by omega)), oK_of (sh45 (nS_sh h)), rf45_12 (nS_sh h), oNn_of, oK_of (sh45 (nS_sh h)), oI_of, oA_k (sh54 (nS_sh h)) (by omega) (by decide), oI_of, clm (by omega), nS_54 h z, r_digit, oB_of]
      by_cases y : srt (T (a + i)) = 2
      · rw [if_pos y, if_neg (by decide), if_pos ⟨z, y⟩, oK_of (sh45 (nS_sh h)), oJ_of, nS_i17]
        have i2 := i1 (by omega) (by omega)
        rw [nR_s] at i2
        by_cases x : nR T a i ≤ 1000000
        · rw [if_pos ((lg_le _ _).mpr x), oK_of (sh45 (nS_sh h)), oJ_of, oK_of (sh45 (nS_sh h)), rf45_12 (nS_sh h), oNn_of, oK_of (sh45 (nS_sh h)), oI_of, nS_i15, oA_k (sh54 (nS_sh h)) (by omega) (by decide), oI_of, clm (by omega), nS_54 h z, h319]
          rw [if_pos x] at i2
          exact i2
        · rw [if_neg (fun q => x ((lg_le _ _).mp q)), oK_of (sh45 (nS_sh h)), oJ_of, h319]
          rw [if_neg x] at i2
          exact i2
      · rw [if_neg y, if_pos rfl, if_neg (fun q => y q.2), Nat.add_sub_cancel_left]
    · rw [if_pos (nI_le (by omega) (by omega)), if_neg (fun q => z q.1), Nat.add_sub_cancel_left]
set_option maxRecDepth 100000 in
theorem r_149no (h : Tap u T n) (hs : ¬ s = 1) {N : Nat} : rX9_next_149 (N + 1) (nS u a b s w) 45 = rX9_next_243 hwF (nS u a b s w) 45 := by
  show bX9_next_149 _ _ 45 = _
  unfold bX9_next_149
  rw [oK_of (sh45 (nS_sh h)), oI_of, nS_i16, if_neg hs]
set_option maxRecDepth 100000 in
theorem r_149 (h : Tap u T n) {N : Nat} : ∀ d i, a + i ≤ n → n ≤ a + i + d → rX9_next_149 (N + d + 1) (nS u a (a + i) 1 (enc T a i)) 45 = rX9_next_243 hwF (nS u a (runE T n 1 d (a + i)) 1 (enc T a (runE T n 1 d (a + i) - a))) 45 := by
  have hn := h.2.1
  have h227 : ∀ (N b i : Nat) (x : Int64), bX9_next_227 (rX9_next_149 N) (nS u a b 1 (enc T a i)) 45 x 45 = rX9_next_149 N (nS u a (b + 1) 1 x) 45 := by
    intro N b i x
    unfold bX9_next_227
    rw [oK_of (sh45 (nS_sh h)), oU_of, nS_17, oK_of (sh45 (nS_sh h)), oI_of, nS_i15, nI_1, oK_of (sh45 (nS_sh h)), oU_of, nS_15]
  intro d
  induction d with
  | zero =>
    intro i h1 h2
    show bX9_next_149 _ _ 45 = _
    unfold bX9_next_149
    rw [oK_of (sh45 (nS_sh h)), oI_of, nS_i16, if_pos rfl, oK_of (sh45 (nS_sh h)), oI_of, nS_i15, oK_of (sh45 (nS_sh h)), oI_of, nS_13 h, if_pos (nI_le (by omega) (by omega))]
    show _ = rX9_next_243 hwF (nS u a (a + i) 1 (enc T a (a + i - a))) 45
    rw [Nat.add_sub_cancel_left]
  | succ d ih =>
    intro i h1 h2
    have i1 := ih (i + 1)
    show bX9_next_149 (rX9_next_149 (N + d + 1)) _ 45 = _
    unfold bX9_next_149
    rw [runE_s, oK_of (sh45 (nS_sh h)), oI_of, nS_i16, if_pos rfl, oK_of (sh45 (nS_sh h)), oI_of, nS_i15, oK_of (sh45 (nS_sh h)), oI_of, nS_13 h]
    by_cases z : a + i < n
    · rw [if_neg (nI_ge z (by omega)), oK_of (sh45 (nS_sh h)), rf45_12 (nS_sh h), oNn_of, oK_of (sh45 (nS_sh h)), oI_of, oA_k (sh54 (nS_sh h)) (by omega) (by decide), oI_of, clm (by omega), nS_54 h z, r_small, oB_of]
      by_cases y : srt (T (a + i)) = 1
      · rw [if_pos y, if_neg (by decide), if_pos ⟨z, y⟩, oK_of (sh45 (nS_sh h)), oI_of, nS_i15, oK_of (sh45 (nS_sh h)), oI_of, nS_i14, nI_sub (by omega), Nat.add_sub_cancel_left]
        have i2 := i1 (by omega) (by omega)
        rw [enc_s] at i2
        by_cases x : i < 10
        · rw [if_neg (show ¬ (10 : Int32) ≤ nI i from nI_ge (b := 10) x (by decide)), oK_of (sh45 (nS_sh h)), oJ_of, nS_i17, oK_of (sh45 (nS_sh h)), rf45_12 (nS_sh h), oNn_of, oK_of (sh45 (nS_sh h)), oI_of, oA_k (sh54 (nS_sh h)) (by omega) (by decide), oI_of, clm (by omega), nS_54 h z, h227]
          rw [if_pos x] at i2
          exact i2
        · rw [if_pos (show (10 : Int32) ≤ nI i from nI_le (a := 10) (by omega) (by omega)), h227]
          rw [if_neg x] at i2
          exact i2
      · rw [if_neg y, if_pos rfl, if_neg (fun q => y q.2), Nat.add_sub_cancel_left]
    · rw [if_pos (nI_le (by omega) (by omega)), if_neg (fun q => z q.1), Nat.add_sub_cancel_left]
set_option maxRecDepth 100000 in
theorem r_46 (h : Tap u T n) (ha : a ≤ n) : bX9_next_46 (nS u a b s w) 45 = some ((), nS u a (if a < n then tokE T n a else n) (oAt_ T n a) (wAt_ T n a)) := by
  have hn := h.2.1
  unfold bX9_next_46
  rw [oK_of (sh45 (nS_sh h)), oI_of, nS_i14, oK_of (sh45 (nS_sh h)), oU_of, nS_15, oK_of (sh45 (nS_sh h)), oU_of, nS_17, oK_of (sh45 (nS_sh h)), oI_of, nS_i14, oK_of (sh45 (nS_sh h)), oI_of, nS_13 h]
  by_cases z : a < n
  · rw [if_neg (nIne (by omega) (by omega) (by omega)), oK_of (sh45 (nS_sh h)), rf45_12 (nS_sh h), oNn_of, oK_of (sh45 (nS_sh h)), oI_of, oA_k (sh54 (nS_sh h)) (by omega) (by decide), oI_of, clm (by omega), nS_54 h z, r_small, oB_of, if_pos z]
    unfold oAt_ wAt_
    rw [if_pos z, if_pos z]
    have run1 : ¬ srt (T a) = 0 → runE T n (srt (T a)) (n - a) a = tokE T n a := by
      intro q
      unfold tokE
      rw [if_neg q, show n - a = n - (a + 1) + 1 by omega, runE_s, if_pos ⟨z, rfl⟩]
    rcases srt_in (T a) with c | c | c
    · rw [if_pos c, if_neg (by decide), if_pos c, if_pos c]
      have r1 := run1 (by rw [c]; decide)
      rw [c] at r1
      have g := r_149 (a := a) h (N := 999999 - (n - a)) (n - a) 0 (by omega) (by omega)
      rw [show a + 0 = a from rfl, r1] at g
      unfold bX9_next_114
      rw [oK_of (sh45 (nS_sh h)), oU_of, nS_16, oK_of (sh45 (nS_sh h)), oI_of, nS_i16, if_neg (by decide), show hwF = 999999 - (n - a) + (n - a) + 1 by unfold hwF; omega]
      refine Eq.trans g ?_
      rw [show hwF = 999999 + 1 from rfl, r_243stop h (by decide)]
    · have n1 : ¬ srt (T a) = 1 := by rw [c]; decide
      rw [if_neg n1, if_pos rfl, if_neg n1, if_neg n1, if_pos c, if_pos c, oK_of (sh45 (nS_sh h)), rf45_12 (nS_sh h), oNn_of, oK_of (sh45 (nS_sh h)), oI_of, nS_i14, oA_k (sh54 (nS_sh h)) (by omega) (by decide), oI_of, clm (by omega), nS_54 h z, r_digit, oB_of, if_pos c, if_neg (by decide)]
      have r1 := run1 (by rw [c]; decide)
      rw [c] at r1
      have g := r_243 (a := a) h (N := 999999 - (n - a)) (n - a) 0 (by omega) (by omega)
      rw [show a + 0 = a from rfl, r1] at g
      unfold bX9_next_114
      rw [oK_of (sh45 (nS_sh h)), oU_of, nS_16, oK_of (sh45 (nS_sh h)), oI_of, nS_i16, if_neg (by decide), show rX9_next_149 hwF (nS u a a 2 0) 45 = rX9_next_243 hwF (nS u a a 2 0) 45 from r_149no (N := 999999) h (by decide), show hwF = 999999 - (n - a) + (n - a) + 1 by unfold hwF; omega]
      exact g
    · have n1 : ¬ srt (T a) = 1 := by rw [c]; decide
      have n2 : ¬ srt (T a) = 2 := by rw [c]; decide
      rw [if_neg n1, if_pos rfl, if_neg n1, if_neg n1, if_neg n2, if_neg n2, oK_of (sh45 (nS_sh h)), rf45_12 (nS_sh h), oNn_of, oK_of (sh45 (nS_sh h)), oI_of, nS_i14, oA_k (sh54 (nS_sh h)) (by omega) (by decide), oI_of, clm (by omega), nS_54 h z, r_digit, oB_of, if_neg n2, if_pos rfl]
      unfold bX9_next_114 tokE
      rw [oK_of (sh45 (nS_sh h)), oU_of, nS_16, oK_of (sh45 (nS_sh h)), oI_of, nS_i16, if_pos rfl, oK_of (sh45 (nS_sh h)), rf45_12 (nS_sh h), oNn_of, oK_of (sh45 (nS_sh h)), oI_of, nS_i14, oA_k (sh54 (nS_sh h)) (by omega) (by decide), oI_of, clm (by omega), nS_54 h z, oK_of (sh45 (nS_sh h)), oU_of, nS_17, oK_of (sh45 (nS_sh h)), oI_of, nS_i15, nI_1, oK_of (sh45 (nS_sh h)), oU_of, nS_15, if_pos c, show hwF = 999999 + 1 from rfl, r_149no h (by decide), show hwF = 999999 + 1 from rfl, r_243stop h (by decide)]
  · have e : a = n := by omega
    rw [if_pos (by rw [e]), if_neg z]
    unfold oAt_ wAt_ bX9_next_114
    rw [if_neg z, if_neg z, oK_of (sh45 (nS_sh h)), oU_of, nS_16, oK_of (sh45 (nS_sh h)), oI_of, nS_i16, if_neg (by decide), show hwF = 999999 + 1 from rfl, r_149no h (by decide), show hwF = 999999 + 1 from rfl, r_243stop h (by decide), e]
set_option maxRecDepth 100000 in
theorem r_8 (h : Tap u T n) {N : Nat} : ∀ d i, i ≤ n → n ≤ i + d → rX9_next_8 (N + d + 1) (nS u i b s w) 45 = bX9_next_46 (nS u (skB T n d i) b s w) 45 := by
  have hn := h.2.1
  intro d
  induction d with
  | zero =>
    intro i h1 h2
    show bX9_next_8 _ _ 45 = _
    unfold bX9_next_8
    rw [oK_of (sh45 (nS_sh h)), oI_of, nS_i14, oK_of (sh45 (nS_sh h)), oI_of, nS_13 h, if_pos (nI_le (by omega) (by omega))]
    rfl
  | succ d ih =>
    intro i h1 h2
    show bX9_next_8 (rX9_next_8 (N + d + 1)) _ 45 = _
    unfold bX9_next_8
    rw [skB_s, oK_of (sh45 (nS_sh h)), oI_of, nS_i14, oK_of (sh45 (nS_sh h)), oI_of, nS_13 h]
    by_cases z : i < n
    · rw [if_neg (nI_ge z (by omega)), oK_of (sh45 (nS_sh h)), rf45_12 (nS_sh h), oNn_of, oK_of (sh45 (nS_sh h)), oI_of, oA_k (sh54 (nS_sh h)) (by omega) (by decide), oI_of, clm (by omega), nS_54 h z]
      by_cases y : T i = 32
      · rw [if_pos y, if_pos ⟨z, y⟩, oK_of (sh45 (nS_sh h)), oI_of, nI_1, oK_of (sh45 (nS_sh h)), oU_of, nS_14]
        exact ih (i + 1) (by omega) (by omega)
      · rw [if_neg y, if_neg (fun q => y q.2)]
    · rw [if_pos (nI_le (by omega) (by omega)), if_neg (fun q => z q.1)]
set_option maxRecDepth 100000 in
theorem r_nextN (h : Tap u T n) (hb : b ≤ n) : fX9_next (nS u a b s w) 45 = some ((), nS u (nxB T n b) (if nxB T n b < n then tokE T n (nxB T n b) else n) (oAt_ T n (nxB T n b)) (wAt_ T n (nxB T n b))) := by
  have hn := h.2.1
  have g := r_8 (b := b) (s := s) (w := w) h (N := 999999 - (n - b)) (n - b) b hb (by omega)
  unfold fX9_next
  rw [oK_of (sh45 (nS_sh h)), oI_of, nS_i15, oK_of (sh45 (nS_sh h)), oU_of, nS_14, show hwF = 999999 - (n - b) + (n - b) + 1 by unfold hwF; omega]
  refine Eq.trans g ?_
  exact r_46 h ((nxB_b b).2 hb)
end
section
variable {T : Nat → Int32} {n : Nat} {m : Mm} {q : Bool}
set_option maxRecDepth 100000 in
theorem rS_nS {t : Tk} {k k' nc nl np no : Nat} {op ar pl pa : Nat → Int32} : nS (rS t m k nc nl np no op ar pl pa) (tS t k') (tE t k') (tO t k') (tW t k') = rS t m k' nc nl np no op ar pl pa := by
  refine Prod.ext rfl (Prod.ext rfl (Prod.ext (funext fun x => ?_) (Prod.ext (funext fun x => ?_) rfl)))
  · show (if x = 45 then (fun j => if j = 14 then nI (tS t k') else if j = 15 then nI (tE t k') else if j = 16 then tO t k' else rF t (m.2.2.1 45) k nc nl np no j) else if x = 45 then rF t (m.2.2.1 45) k nc nl np no else if x = 56 then op else if x = 57 then ar else if x = 58 then pl else if x = 59 then pa else m.2.2.1 x) = if x = 45 then rF t (m.2.2.1 45) k' nc nl np no else if x = 56 then op else if x = 57 then ar else if x = 58 then pl else if x = 59 then pa else m.2.2.1 x
    by_cases z : x = 45
    · rw [if_pos z, if_pos z]
      funext j
      unfold rF
      by_cases c1 : j = 14
      · simp only [c1, if_true]
      · by_cases c2 : j = 15
        · subst c2; rfl
        · by_cases c3 : j = 16
          · subst c3; rfl
          · simp only [c1, c2, c3, if_false]
    · rw [if_neg z, if_neg z, if_neg z]
  · show (if x = 45 then vp_updL (vp_updL (m.2.2.2.1 45) 17 (tW t k)) 17 (tW t k') else if x = 45 then vp_updL (m.2.2.2.1 45) 17 (tW t k) else m.2.2.2.1 x) = if x = 45 then vp_updL (m.2.2.2.1 45) 17 (tW t k') else m.2.2.2.1 x
    by_cases z : x = 45
    · rw [if_pos z, if_pos z]
      funext j
      by_cases y : j = 17
      · subst y; rw [pk_uLs, pk_uLs]
      · rw [pk_uLn y, pk_uLn y, pk_uLn y]
    · rw [if_neg z, if_neg z, if_neg z]
set_option maxRecDepth 100000 in
theorem LXm_of (h : Tap m T n) (hq : mI m 45 20 = if q = true then 1 else 0) (hb : mI m 45 19 = 0) : LXm (tkOf T n) q m := by
  refine ⟨h.1, hq, hb, fun k nc nl np no op ar pl pa hk => ?_⟩
  obtain ⟨m1, m2, m3⟩ := tkM_p (T := T) (n := n)
  have hT : Tap (rS (tkOf T n) m k nc nl np no op ar pl pa) T n := ⟨h.1, h.2.1, h.2.2.1, h.2.2.2⟩
  have c : stK T n k < n := m1 k hk
  have e1 : rS (tkOf T n) m k nc nl np no op ar pl pa = nS (rS (tkOf T n) m k nc nl np no op ar pl pa) (stK T n k) (tokE T n (stK T n k)) (tO (tkOf T n) k) (tW (tkOf T n) k) := by
    have g := rS_nS (t := tkOf T n) (m := m) (k := k) (k' := k) (nc := nc) (nl := nl) (np := np) (no := no) (op := op) (ar := ar) (pl := pl) (pa := pa)
    have ee : tE (tkOf T n) k = tokE T n (stK T n k) := by show teK T n k = _; unfold teK; rw [if_pos c]
    rw [ee] at g
    exact g.symm
  have e2 : nxB T n (tokE T n (stK T n k)) = stK T n (k + 1) := by rw [stK_s, if_pos c]
  have st := r_nextN (a := stK T n k) (s := tO (tkOf T n) k) (w := tW (tkOf T n) k) hT (tokE_b (T := T) c).2
  rw [← e1, e2] at st
  rw [st]
  exact congrArg (fun z => some ((), z)) (rS_nS (t := tkOf T n) (m := m) (k := k) (k' := k + 1))
end
