/-! ===== the other's code: segments ===== -/
/-- the joints' numbers, there -/
def rop (o : Int32) : Int32 := if o = 43 then 20 else if o = 45 then 21 else if o = 42 then 22 else if o = 47 then 23 else if o = 37 then 24 else if o = 60 then 25 else if o = 62 then 26 else 27
def FE (m : Mm) (op ar : Nat → Int32) (lo hi last : Nat) : Prop := ∀ (S : Nat → Int64) (K : Mm → Nat → Int32 → Int32 → Int32 → Option (Unit × Mm)) (d : Int32) (k : Nat), lo ≤ k → k < hi → bX9_reckonAll_10 K (wL m 65 S) 45 (nI last) d (nI k) = bX9_reckonAll_95 K (wL m 65 S) 45 (nI last) d (nI k) (op k) (ar k)
def LE (m : Mm) (lv : Int32 → Int32 → Prop) (L : Int32 → Int32 → Int64) : Prop := ∀ (S : Nat → Int64) (K : Mm → Nat → Int32 → Int32 → Int32 → Option (Unit × Mm)) (last : Int32) (d k : Nat) (o a : Int32), lv o a → d < 400 → bX9_reckonAll_95 K (wL m 65 S) 45 last (nI d) (nI k) o a = K (wL m 65 (vp_updL S d (L o a))) 45 last (nI (d + 1)) (nI (k + 1))
set_option maxRecDepth 100000 in
theorem FE_w {m : Mm} {op ar : Nat → Int32} {lo hi last : Nat} (h : FE m op ar lo hi last) (T : Nat → Int64) : FE (wL m 65 T) op ar lo hi last := fun S K d k hl hk => by rw [wL_s]; exact h S K d k hl hk
set_option maxRecDepth 100000 in
theorem FE_sub {m : Mm} {op ar : Nat → Int32} {lo hi lo' hi' last : Nat} (h : FE m op ar lo hi last) (h1 : lo ≤ lo') (h2 : hi' ≤ hi) : FE m op ar lo' hi' last := fun S K d k hl hk => h S K d k (by omega) (by omega)
set_option maxRecDepth 100000 in
theorem FE_eq {m : Mm} {op ar op' ar' : Nat → Int32} {lo hi last : Nat} (h : FE m op ar lo hi last) (e : ∀ i, lo ≤ i → i < hi → op i = op' i ∧ ar i = ar' i) : FE m op' ar' lo hi last := fun S K d k hl hk => by rw [← (e k hl hk).1, ← (e k hl hk).2]; exact h S K d k hl hk
set_option maxRecDepth 100000 in
theorem LE_w {m : Mm} {lv : Int32 → Int32 → Prop} {L : Int32 → Int32 → Int64} (h : LE m lv L) (T : Nat → Int64) : LE (wL m 65 T) lv L := fun S K last d k o a h1 h2 => by rw [wL_s, wL_s]; exact h S K last d k o a h1 h2
/-- the flag and the rest alone are changed -/
def bkn (m : Mm) (S : Nat → Int64) : Mm := wI (wL m 65 S) 45 (upd (mI m 45) 38 1)
set_option maxRecDepth 100000 in
theorem jn_in {o : Int32} {a b : Int64} : jnR a = BR ↔ ¬ (-1000000000 ≤ a ∧ a ≤ 1000000000) := by
  unfold jnR
  by_cases c : 1000000000 < a
  · rw [if_pos c]
    exact ⟨fun _ q => absurd q.2 (Int64.not_le.mpr c), fun _ => rfl⟩
  · rw [if_neg c]
    by_cases d : -1000000000 ≤ a
    · rw [if_pos d]
      constructor
      · intro q; rw [q] at c; exact absurd (by decide) c
      · intro q; exact absurd ⟨d, Int64.not_lt.mp c⟩ q
    · rw [if_neg d]
      exact ⟨fun _ q => d q.1, fun _ => rfl⟩
set_option maxRecDepth 100000 in
theorem jn_id {a : Int64} (h : -1000000000 ≤ a ∧ a ≤ 1000000000) : jnR a = a := by
  unfold jnR
  rw [if_neg (Int64.not_lt.mpr h.2), if_pos h.1]
section
variable {m : Mm} {d k : Nat} {K : Mm → Nat → Int32 → Int32 → Int32 → Option (Unit × Mm)} {last arg : Int32}
set_option maxRecDepth 100000 in
theorem m2 (d : Nat) : nI (d + 2) + (-1) = nI (d + 1) := m1 (d + 1)
set_option maxRecDepth 100000 in
theorem r_not (hS : hSh m) (hd : d < 400) : bX9_reckonAll_95 K m 45 last (nI (d + 1)) (nI k) 28 arg = K (wL m 65 (vp_updL (mL m 65) d (1 - mL m 65 d))) 45 last (nI (d + 1)) (nI (k + 1)) := by
  unfold bX9_reckonAll_95 bX9_reckonAll_353
  rw [if_pos (by decide), if_pos (by decide), if_pos rfl, nI_pred, oK_of (sh45 hS), rf45_37 hS, oNn_of, oK_of (sh45 hS), oNn_of, oA_k (sh65 hS) hd (by decide), oJ_of, clm (by omega), oA_k (sh65 hS) hd (by decide), oU_of, nI_1]
set_option maxRecDepth 100000 in
theorem r_and (hS : hSh m) (hd : d < 400) : bX9_reckonAll_95 K m 45 last (nI (d + 1)) (nI k) 29 arg = if mL m 65 d = 0 then K m 45 last (nI (d + 1)) arg else K m 45 last (nI d) (nI (k + 1)) := by
  unfold bX9_reckonAll_95 bX9_reckonAll_339 bX9_reckonAll_353
  rw [if_pos (by decide), if_pos (by decide), if_neg (by decide), nI_pred, oK_of (sh45 hS), rf45_37 hS, oNn_of, oA_k (sh65 hS) hd (by decide), oJ_of, clm (by omega), if_pos rfl, m1, nI_1]
  by_cases c : mL m 65 d = 0
  · rw [if_pos ((lg_eq _ _).mpr c), if_pos c]
  · rw [if_neg (fun q => c ((lg_eq _ _).mp q)), if_neg c]
set_option maxRecDepth 100000 in
theorem r_or (hS : hSh m) (hd : d < 400) : bX9_reckonAll_95 K m 45 last (nI (d + 1)) (nI k) 30 arg = if mL m 65 d = 1 then K m 45 last (nI (d + 1)) arg else K m 45 last (nI d) (nI (k + 1)) := by
  unfold bX9_reckonAll_95 bX9_reckonAll_339 bX9_reckonAll_353
  rw [if_pos (by decide), if_pos (by decide), if_neg (by decide), nI_pred, oK_of (sh45 hS), rf45_37 hS, oNn_of, oA_k (sh65 hS) hd (by decide), oJ_of, clm (by omega), if_neg (by decide), m1, nI_1]
  by_cases c : mL m 65 d = 1
  · rw [if_pos ((lg_eq _ _).mpr c), if_pos c]
  · rw [if_neg (fun q => c ((lg_eq _ _).mp q)), if_neg c]
set_option maxRecDepth 100000 in
/-- behind the joint itself: is it too large -/
theorem r_chk (hS : hSh m) (hd : d + 1 < 400) (h38 : mI m 45 38 = 0) {ro : Int32} (h20 : 20 ≤ ro) (h28 : ¬ 28 ≤ ro) {x : Int64} (hx : fX9_reckon m 45 ro (mL m 65 d) (mL m 65 (d + 1)) = some (x, m)) : bX9_reckonAll_95 K m 45 last (nI (d + 2)) (nI k) ro arg = if -1000000000 ≤ x ∧ x ≤ 1000000000 then K (wL m 65 (vp_updL (mL m 65) d x)) 45 last (nI (d + 1)) (nI (k + 1)) else K (bkn m (vp_updL (mL m 65) d x)) 45 last (nI (d + 1)) (nI (k + 1)) := by
  have h1 : ∀ S, hSh (wL m 65 S) := fun _ => hS
  have e38 : ∀ S, mI (wL m 65 S) 45 38 = 0 := fun _ => h38
  unfold bX9_reckonAll_95 bX9_reckonAll_280 bX9_reckonAll_285 bX9_reckonAll_353
  rw [if_pos h20, if_neg h28, m2, nI_pred, oK_of (sh45 hS), rf45_37 hS, oNn_of, oK_of (sh45 hS), oNn_of, oA_k (sh65 hS) (by omega) (by decide), oJ_of, clm (by omega), oK_of (sh45 hS), oNn_of, oA_k (sh65 hS) (by omega) (by decide), oJ_of, clm (by omega), oR_of (sh45 hS), hx, oB_of, oA_k (sh65 hS) (by omega) (by decide), oU_of, oK_of (sh45 (h1 _)), oI_of, e38, if_pos rfl, oK_of (sh45 (h1 _)), rf45_37 (h1 _), oNn_of, oA_k (sh65 (h1 _)) (by omega) (by decide), oJ_of, show mL (wL m 65 (vp_updL (mL m 65) d x)) 65 d = x from pk_uLs, m_in, oB_of, nI_1]
  by_cases c : -1000000000 ≤ x ∧ x ≤ 1000000000
  · rw [if_pos c, if_neg (by decide), if_pos c, oK_of (sh45 (h1 _)), oZ0, oU_of]
    rw [show wI (wL m 65 (vp_updL (mL m 65) d x)) 45 (upd (mI (wL m 65 (vp_updL (mL m 65) d x)) 45) 38 0) = wL m 65 (vp_updL (mL m 65) d x) from ?_]
    rw [upd_id (e38 _), wI_id]
  · rw [if_neg c, if_pos rfl, if_neg c, oK_of (sh45 (h1 _)), oZ1, oU_of]
    rfl
set_option maxRecDepth 100000 in
theorem wI38 (h38 : mI m 45 38 = 0) : wI m 45 (upd (mI m 45) 38 0) = m := by rw [upd_id h38, wI_id]
set_option maxRecDepth 100000 in
/-- a division by 0 -/
theorem r_div0 (hS : hSh m) (hd : d + 1 < 400) {ro : Int32} (ho : ro = 23 ∨ ro = 24) (hz : mL m 65 (d + 1) = 0) : bX9_reckonAll_95 K m 45 last (nI (d + 2)) (nI k) ro arg = K (bkn m (vp_updL (mL m 65) d 0)) 45 last (nI (d + 1)) (nI (k + 1)) := by
  have h1 : hSh (wI m 45 (upd (mI m 45) 38 1)) := hS
  have h2 : ∀ S, hSh (wL (wI m 45 (upd (mI m 45) 38 1)) 65 S) := fun _ => hS
  have hx : fX9_reckon m 45 ro (mL m 65 d) (mL m 65 (d + 1)) = some (0, wI m 45 (upd (mI m 45) 38 1)) := by
    unfold fX9_reckon bX9_reckon_72 bX9_reckon_104 bX9_reckon_90 bX9_reckon_122
    have z1 : lg_cmp (mL m 65 (d + 1)) 0 = 0 := (lg_eq _ _).mpr hz
    have q38 : mI (wI m 45 (upd (mI m 45) 38 1)) 45 38 = 1 := rfl
    rcases ho with rfl | rfl
    · rw [if_neg (by decide), if_neg (by decide), if_neg (by decide), if_pos rfl, if_pos z1, oK_of (sh45 hS), oZ1, oU_of, oK_of (sh45 h1), oI_of, q38, if_neg (by decide)]
    · rw [if_neg (by decide), if_neg (by decide), if_neg (by decide), if_neg (by decide), if_pos rfl, if_pos z1, oK_of (sh45 hS), oZ1, oU_of, oK_of (sh45 h1), oI_of, q38, if_neg (by decide)]
  unfold bX9_reckonAll_95 bX9_reckonAll_280 bX9_reckonAll_285 bX9_reckonAll_353
  rw [if_pos (by rcases ho with rfl | rfl <;> decide), if_neg (by rcases ho with rfl | rfl <;> decide), m2, nI_pred, oK_of (sh45 hS), rf45_37 hS, oNn_of, oK_of (sh45 hS), oNn_of, oA_k (sh65 hS) (by omega) (by decide), oJ_of, clm (by omega), oK_of (sh45 hS), oNn_of, oA_k (sh65 hS) (by omega) (by decide), oJ_of, clm (by omega), oR_of (sh45 hS), hx, oB_of, oA_k (sh65 h1) (by omega) (by decide), oU_of, oK_of (sh45 (h2 _)), oI_of]
  show (if (1 : Int32) = 0 then _ else _) = _
  rw [if_neg (by decide), oK_of (sh45 (h2 _)), oZ1, oU_of, nI_1]
  have e : wI (wL (wI m 45 (upd (mI m 45) 38 1)) 65 (vp_updL (mL (wI m 45 (upd (mI m 45) 38 1)) 65) d 0)) 45 (upd (mI (wL (wI m 45 (upd (mI m 45) 38 1)) 65 (vp_updL (mL (wI m 45 (upd (mI m 45) 38 1)) 65) d 0)) 45) 38 1) = bkn m (vp_updL (mL m 65) d 0) := by
    show wI (wI (wL m 65 (vp_updL (mL m 65) d 0)) 45 (upd (mI m 45) 38 1)) 45 (upd (upd (mI m 45) 38 1) 38 1) = _
    rw [wI_s, upd_s]
    rfl
  rw [e]
set_option maxRecDepth 100000 in
theorem r_join (hS : hSh m) (hd : d + 1 < 400) (h38 : mI m 45 38 = 0) {o : Int32} (ho : isJ o) {a b : Int64} (ea : mL m 65 d = a) (eb : mL m 65 (d + 1) = b) (ha : a ≠ BR) (hb : b ≠ BR) : (jn o a b ≠ BR → bX9_reckonAll_95 K m 45 last (nI (d + 2)) (nI k) (rop o) arg = K (wL m 65 (vp_updL (mL m 65) d (jn o a b))) 45 last (nI (d + 1)) (nI (k + 1))) ∧ (jn o a b = BR → ∃ x, bX9_reckonAll_95 K m 45 last (nI (d + 2)) (nI k) (rop o) arg = K (bkn m (vp_updL (mL m 65) d x)) 45 last (nI (d + 1)) (nI (k + 1))) := by
  have go : ∀ {ro : Int32} {x : Int64}, 20 ≤ ro → ¬ 28 ≤ ro → fX9_reckon m 45 ro a b = some (x, m) → (jnR x ≠ BR → bX9_reckonAll_95 K m 45 last (nI (d + 2)) (nI k) ro arg = K (wL m 65 (vp_updL (mL m 65) d (jnR x))) 45 last (nI (d + 1)) (nI (k + 1))) ∧ (jnR x = BR → ∃ y, bX9_reckonAll_95 K m 45 last (nI (d + 2)) (nI k) ro arg = K (bkn m (vp_updL (mL m 65) d y)) 45 last (nI (d + 1)) (nI (k + 1))) := by
    intro ro x h20 h28 hx
    have e := r_chk (K := K) (last := last) (arg := arg) (k := k) hS hd h38 h20 h28 (x := x) (by rw [ea, eb]; exact hx)
    rw [e]
    by_cases c : -1000000000 ≤ x ∧ x ≤ 1000000000
    · rw [if_pos c, jn_id c]
      exact ⟨fun _ => rfl, fun q => absurd q (by intro q2; rw [q2] at c; exact absurd c.2 (by decide))⟩
    · rw [if_neg c]
      exact ⟨fun q => absurd ((jn_in (o := 0) (b := 0)).mpr c) q, fun _ => ⟨x, rfl⟩⟩
  have hnz : ∀ (z : ¬ b = 0), ¬ lg_cmp b 0 = 0 := fun z q => z ((lg_eq _ _).mp q)
  have q0 : mI (wI m 45 (upd (mI m 45) 38 0)) 45 38 = 0 := rfl
  have hw := wI38 (m := m) h38
  unfold jn
  rw [if_neg ha, if_neg hb]
  rcases ho with rfl | rfl | rfl | rfl | rfl | rfl | rfl | rfl
  · simp (config := {implicitDefEqProofs := false}) only [show ((37 : Int32) = 42) = False by decide, show ((37 : Int32) = 43) = False by decide, show ((37 : Int32) = 45) = False by decide, show ((37 : Int32) = 47) = False by decide, show ((37 : Int32) = 60) = False by decide, show ((37 : Int32) = 61) = False by decide, show ((37 : Int32) = 62) = False by decide, ↓reduceIte]
    show (_ → bX9_reckonAll_95 K m 45 last (nI (d + 2)) (nI k) 24 arg = _) ∧ (_ → ∃ x, bX9_reckonAll_95 K m 45 last (nI (d + 2)) (nI k) 24 arg = _)
    by_cases z : b = 0
    · rw [if_pos z]
      exact ⟨fun q => absurd rfl q, fun _ => ⟨0, r_div0 hS hd (Or.inr rfl) (by rw [eb, z])⟩⟩
    · rw [if_neg z]
      refine go (by decide) (by decide) ?_
      unfold fX9_reckon bX9_reckon_104 bX9_reckon_122
      rw [if_neg (by decide), if_neg (by decide), if_neg (by decide), if_neg (by decide), if_pos rfl, if_neg (hnz z), oK_of (sh45 hS), oZ0, oU_of, hw, oK_of (sh45 hS), oI_of, h38, if_pos rfl, if_pos z]
  · simp (config := {implicitDefEqProofs := false}) only [show ((42 : Int32) = 37) = False by decide, show ((42 : Int32) = 43) = False by decide, show ((42 : Int32) = 45) = False by decide, show ((42 : Int32) = 47) = False by decide, show ((42 : Int32) = 60) = False by decide, show ((42 : Int32) = 61) = False by decide, show ((42 : Int32) = 62) = False by decide, ↓reduceIte]
    exact go (ro := 22) (by decide) (by decide) (by unfold fX9_reckon; rw [if_neg (by decide), if_neg (by decide), if_pos rfl])
  · simp (config := {implicitDefEqProofs := false}) only [show ((43 : Int32) = 37) = False by decide, show ((43 : Int32) = 42) = False by decide, show ((43 : Int32) = 45) = False by decide, show ((43 : Int32) = 47) = False by decide, show ((43 : Int32) = 60) = False by decide, show ((43 : Int32) = 61) = False by decide, show ((43 : Int32) = 62) = False by decide, ↓reduceIte]
    exact go (ro := 20) (by decide) (by decide) (by unfold fX9_reckon; rw [if_pos rfl])
  · simp (config := {implicitDefEqProofs := false}) only [show ((45 : Int32) = 37) = False by decide, show ((45 : Int32) = 42) = False by decide, show ((45 : Int32) = 43) = False by decide, show ((45 : Int32) = 47) = False by decide, show ((45 : Int32) = 60) = False by decide, show ((45 : Int32) = 61) = False by decide, show ((45 : Int32) = 62) = False by decide, ↓reduceIte]
    exact go (ro := 21) (by decide) (by decide) (by unfold fX9_reckon; rw [if_neg (by decide), if_pos rfl])
  · simp (config := {implicitDefEqProofs := false}) only [show ((47 : Int32) = 37) = False by decide, show ((47 : Int32) = 42) = False by decide, show ((47 : Int32) = 43) = False by decide, show ((47 : Int32) = 45) = False by decide, show ((47 : Int32) = 60) = False by decide, show ((47 : Int32) = 61) = False by decide, show ((47 : Int32) = 62) = False by decide, ↓reduceIte]
    show (_ → bX9_reckonAll_95 K m 45 last (nI (d + 2)) (nI k) 23 arg = _) ∧ (_ → ∃ x, bX9_reckonAll_95 K m 45 last (nI (d + 2)) (nI k) 23 arg = _)
    by_cases z : b = 0
    · rw [if_pos z]
      exact ⟨fun q => absurd rfl q, fun _ => ⟨0, r_div0 hS hd (Or.inl rfl) (by rw [eb, z])⟩⟩
    · rw [if_neg z]
      refine go (by decide) (by decide) ?_
      unfold fX9_reckon bX9_reckon_72 bX9_reckon_90
      rw [if_neg (by decide), if_neg (by decide), if_neg (by decide), if_pos rfl, if_neg (hnz z), oK_of (sh45 hS), oZ0, oU_of, hw, oK_of (sh45 hS), oI_of, h38, if_pos rfl, if_pos z]
  · simp (config := {implicitDefEqProofs := false}) only [show ((60 : Int32) = 37) = False by decide, show ((60 : Int32) = 42) = False by decide, show ((60 : Int32) = 43) = False by decide, show ((60 : Int32) = 45) = False by decide, show ((60 : Int32) = 47) = False by decide, show ((60 : Int32) = 61) = False by decide, show ((60 : Int32) = 62) = False by decide, ↓reduceIte]
    rw [← jnR_small (x := if a < b then 1 else 0) (by split <;> simp)]
    refine go (ro := 25) (by decide) (by decide) ?_
    unfold fX9_reckon bX9_reckon_135
    rw [if_neg (by decide), if_neg (by decide), if_neg (by decide), if_neg (by decide), if_neg (by decide), if_pos rfl]
    by_cases z : a < b
    · rw [if_neg (fun q => absurd z (Int64.not_lt.mpr ((lg_ge _ _).mp q))), if_pos z]
    · rw [if_pos ((lg_ge _ _).mpr (Int64.not_lt.mp z)), if_neg z]
  · simp (config := {implicitDefEqProofs := false}) only [show ((61 : Int32) = 37) = False by decide, show ((61 : Int32) = 42) = False by decide, show ((61 : Int32) = 43) = False by decide, show ((61 : Int32) = 45) = False by decide, show ((61 : Int32) = 47) = False by decide, show ((61 : Int32) = 60) = False by decide, show ((61 : Int32) = 62) = False by decide, ↓reduceIte]
    rw [← jnR_small (x := if a = b then 1 else 0) (by split <;> simp)]
    refine go (ro := 27) (by decide) (by decide) ?_
    unfold fX9_reckon bX9_reckon_161
    rw [if_neg (by decide), if_neg (by decide), if_neg (by decide), if_neg (by decide), if_neg (by decide), if_neg (by decide), if_neg (by decide)]
    by_cases z : a = b
    · rw [if_pos ((lg_eq _ _).mpr z), if_pos z]
    · rw [if_neg (fun q => z ((lg_eq _ _).mp q)), if_neg z]
  · simp (config := {implicitDefEqProofs := false}) only [show ((62 : Int32) = 37) = False by decide, show ((62 : Int32) = 42) = False by decide, show ((62 : Int32) = 43) = False by decide, show ((62 : Int32) = 45) = False by decide, show ((62 : Int32) = 47) = False by decide, show ((62 : Int32) = 60) = False by decide, show ((62 : Int32) = 61) = False by decide, ↓reduceIte]
    rw [← jnR_small (x := if b < a then 1 else 0) (by split <;> simp)]
    refine go (ro := 26) (by decide) (by decide) ?_
    unfold fX9_reckon bX9_reckon_148
    rw [if_neg (by decide), if_neg (by decide), if_neg (by decide), if_neg (by decide), if_neg (by decide), if_neg (by decide), if_pos rfl]
    by_cases z : b < a
    · rw [if_neg (fun q => absurd z (Int64.not_lt.mpr ((lg_le _ _).mp q))), if_pos z]
    · rw [if_pos ((lg_le _ _).mpr (Int64.not_lt.mp z)), if_neg z]
end
