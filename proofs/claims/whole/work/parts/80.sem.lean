/-! ===== what a text's code tells: the stack of the one ===== -/
def BR : Int64 := 4000000000
def jnR (x : Int64) : Int64 := if 1000000000 < x then BR else if -1000000000 ≤ x then x else BR
/-- the eight joints of sums -/
def jn (o : Int32) (a b : Int64) : Int64 :=
  if a = BR then BR else if b = BR then BR
  else if o = 37 then (if b = 0 then BR else jnR (a - a / b * b)) else if o = 42 then jnR (a * b) else if o = 43 then jnR (a + b) else if o = 45 then jnR (a - b)
  else if o = 47 then (if b = 0 then BR else jnR (a / b)) else if o = 60 then (if a < b then 1 else 0) else if o = 61 then (if a = b then 1 else 0) else (if b < a then 1 else 0)
abbrev isJ (o : Int32) : Prop := o = 37 ∨ o = 42 ∨ o = 43 ∨ o = 45 ∨ o = 47 ∨ o = 60 ∨ o = 61 ∨ o = 62
def nt (v : Int64) : Int64 := if v = BR then BR else 1 - v
def jAnd (a b : Int64) : Int64 := if a = 1 then b else a
def jOr (a b : Int64) : Int64 := if a = 0 then b else a
set_option maxRecDepth 100000 in
theorem lg_ge (x y : Int64) : 0 ≤ lg_cmp x y ↔ y ≤ x := by
  rw [← Int32.not_lt, lg_lt, Int64.not_lt]
set_option maxRecDepth 100000 in
theorem lg_le (x y : Int64) : lg_cmp x y ≤ 0 ↔ x ≤ y := by
  rw [← Int32.not_lt, lg_gt, Int64.not_lt]
set_option maxRecDepth 100000 in
theorem c_jnR {u : Mm} {x : Int64} : bX5_joined_296 u x = some (jnR x, u) := by
  unfold bX5_joined_296 bX5_joined_314 bX5_joined_322 jnR
  by_cases c : 1000000000 < x
  · rw [if_pos c, if_pos ((lg_gt _ _).mpr c)]; rfl
  · rw [if_neg c, if_neg (fun q => c ((lg_gt _ _).mp q))]
    by_cases d : -1000000000 ≤ x
    · rw [if_pos d, if_pos ((lg_ge _ _).mpr d)]
    · rw [if_neg d, if_neg (fun q => d ((lg_ge _ _).mp q))]; rfl
set_option maxRecDepth 100000 in
theorem jnR_small {x : Int64} (h : x = 0 ∨ x = 1) : jnR x = x := by rcases h with rfl | rfl <;> rfl
set_option maxRecDepth 100000 in
theorem jnR_BR : jnR BR = BR := rfl
set_option maxRecDepth 100000 in
theorem c_joined {u : Mm} {o : Int32} {a b : Int64} (ho : isJ o) : fX5_joined u o a b = some (jn o a b, u) := by
  have hb : ∀ x, lg_cmp x 4000000000 = 0 ↔ x = BR := fun x => lg_eq x _
  unfold fX5_joined jn bX5_joined_54 bX5_joined_243 bX5_joined_223 bX5_joined_259 bX5_joined_291 bX5_joined_275
  have n1 : ¬ o = 269 := by rcases ho with rfl | rfl | rfl | rfl | rfl | rfl | rfl | rfl <;> decide
  have n2 : ¬ o = 270 := by rcases ho with rfl | rfl | rfl | rfl | rfl | rfl | rfl | rfl <;> decide
  rw [if_neg n1, if_neg n2]
  by_cases ca : a = BR
  · rw [if_pos ((hb a).mpr ca), if_pos ca]; rfl
  · rw [if_neg (fun q => ca ((hb a).mp q)), if_neg ca]
    by_cases cb : b = BR
    · rw [if_pos ((hb b).mpr cb), if_pos cb]; rfl
    · rw [if_neg (fun q => cb ((hb b).mp q)), if_neg cb]
      rcases ho with rfl | rfl | rfl | rfl | rfl | rfl | rfl | rfl
      · simp (config := {implicitDefEqProofs := false}) only [show ((37 : Int32) = 42) = False by decide, show ((37 : Int32) = 43) = False by decide, show ((37 : Int32) = 45) = False by decide, show ((37 : Int32) = 47) = False by decide, show ((37 : Int32) = 60) = False by decide, show ((37 : Int32) = 61) = False by decide, show ((37 : Int32) = 62) = False by decide, ↓reduceIte]
        by_cases z : b = 0
        · rw [if_pos ((lg_eq _ _).mpr z), if_pos z, c_jnR]; rfl
        · rw [if_neg (fun q => z ((lg_eq _ _).mp q)), if_neg z, if_pos z, c_jnR]
      · simp (config := {implicitDefEqProofs := false}) only [show ((42 : Int32) = 37) = False by decide, show ((42 : Int32) = 43) = False by decide, show ((42 : Int32) = 45) = False by decide, show ((42 : Int32) = 47) = False by decide, show ((42 : Int32) = 60) = False by decide, show ((42 : Int32) = 61) = False by decide, show ((42 : Int32) = 62) = False by decide, ↓reduceIte, oJ_of, c_jnR]
      · simp (config := {implicitDefEqProofs := false}) only [show ((43 : Int32) = 37) = False by decide, show ((43 : Int32) = 42) = False by decide, show ((43 : Int32) = 45) = False by decide, show ((43 : Int32) = 47) = False by decide, show ((43 : Int32) = 60) = False by decide, show ((43 : Int32) = 61) = False by decide, show ((43 : Int32) = 62) = False by decide, ↓reduceIte, oJ_of, c_jnR]
      · simp (config := {implicitDefEqProofs := false}) only [show ((45 : Int32) = 37) = False by decide, show ((45 : Int32) = 42) = False by decide, show ((45 : Int32) = 43) = False by decide, show ((45 : Int32) = 47) = False by decide, show ((45 : Int32) = 60) = False by decide, show ((45 : Int32) = 61) = False by decide, show ((45 : Int32) = 62) = False by decide, ↓reduceIte, oJ_of, c_jnR]
      · simp (config := {implicitDefEqProofs := false}) only [show ((47 : Int32) = 37) = False by decide, show ((47 : Int32) = 42) = False by decide, show ((47 : Int32) = 43) = False by decide, show ((47 : Int32) = 45) = False by decide, show ((47 : Int32) = 60) = False by decide, show ((47 : Int32) = 61) = False by decide, show ((47 : Int32) = 62) = False by decide, ↓reduceIte]
        by_cases z : b = 0
        · rw [if_pos ((lg_eq _ _).mpr z), if_pos z, c_jnR]; rfl
        · rw [if_neg (fun q => z ((lg_eq _ _).mp q)), if_neg z, if_pos z, c_jnR]
      · simp (config := {implicitDefEqProofs := false}) only [show ((60 : Int32) = 37) = False by decide, show ((60 : Int32) = 42) = False by decide, show ((60 : Int32) = 43) = False by decide, show ((60 : Int32) = 45) = False by decide, show ((60 : Int32) = 47) = False by decide, show ((60 : Int32) = 61) = False by decide, show ((60 : Int32) = 62) = False by decide, ↓reduceIte]
        by_cases z : a < b
        · rw [if_neg (fun q => absurd z (Int64.not_lt.mpr ((lg_ge _ _).mp q))), if_pos z, c_jnR, jnR_small (Or.inr rfl)]
        · rw [if_pos ((lg_ge _ _).mpr (Int64.not_lt.mp z)), if_neg z, c_jnR, jnR_small (Or.inl rfl)]
      · simp (config := {implicitDefEqProofs := false}) only [show ((61 : Int32) = 37) = False by decide, show ((61 : Int32) = 42) = False by decide, show ((61 : Int32) = 43) = False by decide, show ((61 : Int32) = 45) = False by decide, show ((61 : Int32) = 47) = False by decide, show ((61 : Int32) = 60) = False by decide, show ((61 : Int32) = 62) = False by decide, ↓reduceIte]
        by_cases z : a = b
        · rw [if_pos ((lg_eq _ _).mpr z), if_pos z, c_jnR, jnR_small (Or.inr rfl)]
        · rw [if_neg (fun q => z ((lg_eq _ _).mp q)), if_neg z, c_jnR, jnR_small (Or.inl rfl)]
      · simp (config := {implicitDefEqProofs := false}) only [show ((62 : Int32) = 37) = False by decide, show ((62 : Int32) = 42) = False by decide, show ((62 : Int32) = 43) = False by decide, show ((62 : Int32) = 45) = False by decide, show ((62 : Int32) = 47) = False by decide, show ((62 : Int32) = 60) = False by decide, show ((62 : Int32) = 61) = False by decide, ↓reduceIte]
        by_cases z : b < a
        · rw [if_neg (fun q => absurd z (Int64.not_lt.mpr ((lg_le _ _).mp q))), if_pos z, c_jnR, jnR_small (Or.inr rfl)]
        · rw [if_pos ((lg_le _ _).mpr (Int64.not_lt.mp z)), if_neg z, c_jnR, jnR_small (Or.inl rfl)]
set_option maxRecDepth 100000 in
theorem c_and {u : Mm} {a b : Int64} : fX5_joined u 270 a b = some (jAnd a b, u) := by
  unfold fX5_joined jAnd bX5_joined_37
  rw [if_neg (by decide), if_pos rfl]
  by_cases z : a = 1
  · rw [if_pos ((lg_eq _ _).mpr z), if_pos z]
  · rw [if_neg (fun q => z ((lg_eq _ _).mp q)), if_neg z]
set_option maxRecDepth 100000 in
theorem c_or {u : Mm} {a b : Int64} : fX5_joined u 269 a b = some (jOr a b, u) := by
  unfold fX5_joined jOr bX5_joined_18
  rw [if_pos rfl]
  by_cases z : a = 0
  · rw [if_pos ((lg_eq _ _).mpr z), if_pos z]
  · rw [if_neg (fun q => z ((lg_eq _ _).mp q)), if_neg z]
/-! a text's code in the memory -/
def TX (u : Mm) (t : Nat) (cd wt : Nat → Int32) (lo hi : Nat) : Prop := mK u t = (6, 7) ∧ ∃ L a b na nb, mI u t 2 = nI L ∧ hi ≤ L ∧ mR u t 0 = some a ∧ mR u t 1 = some b ∧ mK u a = (10, na) ∧ mK u b = (10, nb) ∧ L ≤ na ∧ L ≤ nb ∧ na ≤ 401 ∧ nb ≤ 401 ∧ ∀ i, lo ≤ i → i < hi → mI u a i = cd i ∧ mI u b i = wt i
set_option maxRecDepth 100000 in
theorem TX_wL {u : Mm} {a t lo hi : Nat} {cd wt : Nat → Int32} {S : Nat → Int64} : TX (wL u a S) t cd wt lo hi = TX u t cd wt lo hi := rfl
set_option maxRecDepth 100000 in
theorem TX_sub {u : Mm} {t lo hi lo' hi' : Nat} {cd wt : Nat → Int32} (h : TX u t cd wt lo hi) (h1 : lo ≤ lo') (h2 : hi' ≤ hi) : TX u t cd wt lo' hi' := by
  obtain ⟨k1, L, a, b, na, nb, k2, k3, k4, k5, k6, k7, k8, k9, k10, k11, k12⟩ := h
  exact ⟨k1, L, a, b, na, nb, k2, by omega, k4, k5, k6, k7, k8, k9, k10, k11, fun i i1 i2 => k12 i (by omega) (by omega)⟩
set_option maxRecDepth 100000 in
theorem TX_eq {u : Mm} {t lo hi : Nat} {cd wt cd' wt' : Nat → Int32} (h : TX u t cd wt lo hi) (e : ∀ i, lo ≤ i → i < hi → cd i = cd' i ∧ wt i = wt' i) : TX u t cd' wt' lo hi := by
  obtain ⟨k1, L, a, b, na, nb, k2, k3, k4, k5, k6, k7, k8, k9, k10, k11, k12⟩ := h
  exact ⟨k1, L, a, b, na, nb, k2, k3, k4, k5, k6, k7, k8, k9, k10, k11, fun i i1 i2 => ⟨(k12 i i1 i2).1.trans (e i i1 i2).1, (k12 i i1 i2).2.trans (e i i1 i2).2⟩⟩
/-- the stack's top, of so many -/
def tpI (d : Nat) : Int32 := nI d - 1
set_option maxRecDepth 100000 in
theorem tpI_s (d : Nat) : tpI (d + 1) = nI d := nI_pred d
set_option maxRecDepth 100000 in
theorem tpI_1 (d : Nat) : tpI d + 1 = nI d := Int32.sub_add_cancel _ _
set_option maxRecDepth 100000 in
theorem c_fetch {u : Mm} {t lo hi0 i N : Nat} {cd wt : Nat → Int32} {x : Int32} (h : TX u t cd wt lo hi0) (lo1 : lo ≤ i) (hi : i < hi0) (hs : cd i ≠ 288) : rX5_valueOf_11 (N + 1) u 14 t x (nI i) = (if cd i = 285 then bX5_valueOf_67 (rX5_valueOf_11 N) u 14 t x (nI i) (cd i) (wt i) else if cd i = 287 then bX5_valueOf_67 (rX5_valueOf_11 N) u 14 t x (nI i) (cd i) (wt i) else if cd i = 271 then (if (x : Int32) < 0 then bX5_valueOf_210 (rX5_valueOf_11 N) u 14 t x (nI i) else oK u 14 5 2 (oNn (mR u 14 0) (fun e25 => oA u e25 11 x (oJ (mL u e25 (Int32.toNatClampNeg x)) (fun w26 => (if (lg_cmp w26 4000000000 : Int32) = 0 then bX5_valueOf_210 (rX5_valueOf_11 N) u 14 t x (nI i) else oK u 14 5 2 (oNn (mR u 14 0) (fun e27 => oK u 14 5 2 (oNn (mR u 14 0) (fun e28 => oA u e28 11 x (oJ (mL u e28 (Int32.toNatClampNeg x)) (fun w29 => oA u e27 11 x (oU (wL u e27 (vp_updL (mL u e27) (Int32.toNatClampNeg x) ((1 : Int64) - w29))) (fun u30 => bX5_valueOf_210 (rX5_valueOf_11 N) u30 14 t x (nI i))))))))))))))) else (if (x : Int32) < 1 then bX5_valueOf_210 (rX5_valueOf_11 N) u 14 t x (nI i) else oK u 14 5 2 (oNn (mR u 14 0) (fun e17 => oK u 14 5 2 (oNn (mR u 14 0) (fun e18 => oA u e18 11 (x + (-1)) (oJ (mL u e18 (Int32.toNatClampNeg (x + (-1)))) (fun w19 => oK u 14 5 2 (oNn (mR u 14 0) (fun e20 => oA u e20 11 ((x + (-1)) + 1) (oJ (mL u e20 (Int32.toNatClampNeg ((x + (-1)) + 1))) (fun w21 => oB (fX5_joined u (cd i) w19 w21) (fun w22 u23 => oA u23 e17 11 (x + (-1)) (oU (wL u23 e17 (vp_updL (mL u23 e17) (Int32.toNatClampNeg (x + (-1))) w22)) (fun u24 => bX5_valueOf_210 (rX5_valueOf_11 N) u24 14 t (x + (-1)) (nI i)))))))))))))))) := by
  obtain ⟨h1, L, a, b, na, nb, h2, hL, h3, h4, h5, h6, h7, h8, h9, h10, h0⟩ := h
  have h11 := (h0 i lo1 hi).1
  have h12 := (h0 i lo1 hi).2
  show bX5_valueOf_11 (rX5_valueOf_11 N) u 14 t x (nI i) = _
  unfold bX5_valueOf_11
  rw [oK_of h1, oI_of, h2, if_neg (nI_ge (show i < L by omega) (by omega)), oK_of h1, h3, oNn_of, oA_k h5 (by omega) (by omega), oI_of, clm (by omega), h11, if_neg hs, oK_of h1, oNn_of, oA_k h5 (by omega) (by omega), oI_of, h11, oK_of h1, h4, oNn_of, oA_k h6 (by omega) (by omega), oI_of, h12]
set_option maxRecDepth 100000 in
theorem wL_s {u : Mm} {a : Nat} {f g : Nat → Int64} : wL (wL u a f) a g = wL u a g := by
  unfold wL
  refine Prod.ext rfl (Prod.ext rfl (Prod.ext rfl (Prod.ext ?_ rfl)))
  funext b
  show (if b = a then g else if b = a then f else u.2.2.2.1 b) = if b = a then g else u.2.2.2.1 b
  by_cases c : b = a
  · rw [if_pos c, if_pos c]
  · rw [if_neg c, if_neg c, if_neg c]
set_option maxRecDepth 100000 in
theorem wL_id {u : Mm} {a : Nat} : wL u a (mL u a) = u := by
  unfold wL mL
  refine Prod.ext rfl (Prod.ext rfl (Prod.ext rfl (Prod.ext ?_ rfl)))
  funext c
  show (if c = a then u.2.2.2.1 a else u.2.2.2.1 c) = u.2.2.2.1 c
  by_cases c1 : c = a
  · rw [if_pos c1, c1]
  · rw [if_neg c1]
set_option maxRecDepth 100000 in
theorem oA_kL {ρ : Type} {X : Option ρ} {u : Mm} {a n N : Nat} (h : mK u a = (11, N)) (hn : n < N) (hN : N < 2147483648) : oA u a 11 (nI n) X = X := oA_k h hn hN
