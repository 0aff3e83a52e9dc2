/-! ===== an act, with what can be undone ===== -/
def JA (c m : Mm) (q : Option Nat) : Prop := JB 2 c m ∧ JL c m q ∧ JQ c q ∧ Rpa (mI c 30) (mI c 31) (mI c 32) (mI m 45) (mI m 50) (mI m 51) (mI m 47)
def CaF (c c' : Mm) : Prop := mQ c' = mQ c ∧ mK c' = mK c ∧ mR c' = mR c ∧ (∀ a, a ≠ 3 → a ≠ 16 → a ≠ 30 → a ≠ 31 → a ≠ 32 → a ≠ 37 → mI c' a = mI c a)
def RaF (m m' : Mm) : Prop := mQ m' = mQ m ∧ mK m' = mK m ∧ mR m' = mR m ∧ (∀ a, a ≠ 45 → a ≠ 47 → a ≠ 50 → a ≠ 51 → mI m' a = mI m a) ∧ (∀ i, ¬ fP i → mI m' 47 i = mI m 47 i) ∧ (∀ k, k ≠ 8 → k ≠ 34 → k ≠ 38 → mI m' 45 k = mI m 45 k) ∧ (∀ k, k ≠ 39 → k ≠ 40 → mL m' 45 k = mL m 45 k) ∧ ∀ i, 496 ≤ i → mI m' 50 i = mI m 50 i
set_option maxRecDepth 100000 in
theorem CaF_trans {c d e : Mm} (h : CaF c d) (k : CaF d e) : CaF c e := ⟨k.1.trans h.1, k.2.1.trans h.2.1, k.2.2.1.trans h.2.2.1, fun a h1 h2 h3 h4 h5 h6 => (k.2.2.2 a h1 h2 h3 h4 h5 h6).trans (h.2.2.2 a h1 h2 h3 h4 h5 h6)⟩
set_option maxRecDepth 100000 in
theorem RaF_trans {m n o : Mm} (h : RaF m n) (k : RaF n o) : RaF m o := ⟨k.1.trans h.1, k.2.1.trans h.2.1, k.2.2.1.trans h.2.2.1, fun a h1 h2 h3 h4 => (k.2.2.2.1 a h1 h2 h3 h4).trans (h.2.2.2.1 a h1 h2 h3 h4), fun a h1 => (k.2.2.2.2.1 a h1).trans (h.2.2.2.2.1 a h1), fun a h1 h2 h3 => (k.2.2.2.2.2.1 a h1 h2 h3).trans (h.2.2.2.2.2.1 a h1 h2 h3), fun a h1 h2 => (k.2.2.2.2.2.2.1 a h1 h2).trans (h.2.2.2.2.2.2.1 a h1 h2), fun a h1 => (k.2.2.2.2.2.2.2 a h1).trans (h.2.2.2.2.2.2.2 a h1)⟩
set_option maxRecDepth 100000 in
theorem CaF_rfl {c : Mm} : CaF c c := ⟨rfl, rfl, rfl, fun _ _ _ _ _ _ _ => rfl⟩
set_option maxRecDepth 100000 in
theorem RaF_rfl {m : Mm} : RaF m m := ⟨rfl, rfl, rfl, fun _ _ _ _ _ => rfl, fun _ _ => rfl, fun _ _ _ _ => rfl, fun _ _ _ => rfl, fun _ _ => rfl⟩
set_option maxRecDepth 100000 in
theorem CaF_CsF {c c' : Mm} (h : CsF c c') : CaF c c' := ⟨h.1, h.2.1, h.2.2.1, fun a _ h2 _ _ _ _ => h.2.2.2 a h2⟩
set_option maxRecDepth 100000 in
theorem CaF_AF {c c' : Mm} (h : AF 2 c c') : CaF c c' := ⟨h.1, h.2.1, h.2.2.1, fun a h1 h2 _ _ _ _ => h.2.2.2 a h2 h1⟩
set_option maxRecDepth 100000 in
theorem RaF_MF {m m' : Mm} (h : MF m m') : RaF m m' := ⟨h.1, h.2.1, h.2.2.1, fun a h1 _ _ _ => h.2.2.2.1 a h1, fun i _ => by rw [h.2.2.2.1 47 (by decide)], fun k _ h2 h3 => h.2.2.2.2.1 k h2 h3, h.2.2.2.2.2.2, fun i _ => by rw [h.2.2.2.1 50 (by decide)]⟩
set_option maxRecDepth 100000 in
theorem RaF_AM {m m' : Mm} (h : AM m m') : RaF m m' := ⟨h.1, h.2.1, h.2.2.1, fun a h1 h2 _ _ => h.2.2.2.1 a h1 h2, h.2.2.2.2.1, fun k _ h2 h3 => h.2.2.2.2.2.1 k h2 h3, h.2.2.2.2.2.2, fun i _ => by rw [h.2.2.2.1 50 (by decide) (by decide)]⟩
set_option maxRecDepth 100000 in
theorem mv_ge {f : Nat → Int32} {d n i : Nat} (h : n ≤ i) : mv f d n i = f i := by unfold mv; rw [if_neg (by omega)]
set_option maxRecDepth 100000 in
theorem kF_at {un row : Nat → Int32} {x i : Nat} (h : i < 31) : kF un row x 31 (31 * x + i) = row (4 + i) := by
  unfold kF; rw [if_pos (by omega)]; congr 1; omega
set_option maxRecDepth 100000 in
theorem kF_off {un row : Nat → Int32} {x i : Nat} (h : i < 31 * x ∨ 31 * x + 31 ≤ i) : kF un row x 31 i = un i := by
  unfold kF; rw [if_neg (by omega)]
set_option maxRecDepth 100000 in
/-- one more that can be undone -/
theorem Rpa_add {c30 c31 c32 m45 m50 m51 row f : Nat → Int32} {n s k : Nat} (hk : k ≤ 3) (h : Rpa c30 c31 c32 m45 m50 m51 row) (hn : c30 2 = nI n) (n16 : n < 16) (hs : c30 3 = nI s) (s16 : s ≤ 16) (hf : FR f row) (hr : Rrg row)
    {d30 d31 d32 l45 l50 l51 row' : Nat → Int32} (e30a : d30 2 = nI ((n + 1) % 16)) (e30b : d30 3 = nI (min (s + 1) 16)) (e31 : d31 = va_cpy f c31 0 (29 * n) 29) (e32 : d32 = upd c32 n (nI (260 + k))) (h5 : row' 5 = row 5) (h6 : row' 6 = row 6)
    (e45 : l45 8 = nI (min (s + 1) 16)) (e50 : ∀ i, i < 496 → l50 i = if s = 16 then kF (mv m50 31 465) row 15 31 i else kF m50 row s 31 i) (e51 : ∀ i, i < 16 → l51 i = if s = 16 then upd (mv m51 1 15) 15 (nI k) i else upd m51 s (nI k) i) : Rpa d30 d31 d32 l45 l50 l51 row' := by
  obtain ⟨n', s', h1, h2, h3, h4, h45, hj⟩ := h
  have en : n' = n := (nI_eq (by omega) (by omega)).mp (h3.symm.trans hn)
  have es : s' = s := (nI_eq (by omega) (by omega)).mp (h4.symm.trans hs)
  subst en es
  have hrow : ∀ i, i < 31 → rg (row (4 + i)) (rlh (4 + i)).1 (rlh (4 + i)).2 := fun i hi => hr.1 _ (by omega)
  have k260 : nI (260 + k) = 260 + nI k := by rw [show (260 : Int32) = nI 260 from rfl, nI_add]
  have cnew : ∀ i, i < 29 → d31 (29 * n' + i) = f i := by
    intro i hi
    rw [e31]; unfold va_cpy; rw [if_pos (by omega)]; congr 1; omega
  have cold : ∀ p i, p ≠ n' → i < 29 → d31 (29 * p + i) = c31 (29 * p + i) := by
    intro p i hp hi
    rw [e31]; unfold va_cpy; rw [if_neg (by omega)]
  refine ⟨(n' + 1) % 16, min (s' + 1) 16, by omega, by omega, e30a, e30b, e45, fun j hjs => ?_⟩
  by_cases z : s' = 16
  · by_cases zj : j = 15
    · subst zj
      have ep : ((n' + 1) % 16 + 16 - min (s' + 1) 16 + 15) % 16 = n' := by omega
      rw [ep]
      have em : ∀ i, i < 31 → l50 (31 * 15 + i) = row (4 + i) := fun i hi => by rw [e50 _ (by omega), if_pos z, kF_at hi]
      refine ⟨⟨fun i hi => ?_, ?_⟩, ?_, ?_, ?_, ?_, fun i hi => ?_⟩
      · show d31 (29 * n' + i) = l50 (31 * 15 + (3 + i))
        rw [cnew i (by omega), em _ (by omega), hf.1 i hi]; congr 1; omega
      · show d31 (29 * n' + 28) = l50 (31 * 15 + 0)
        rw [cnew 28 (by omega), em _ (by omega), hf.2]
      · rw [em 1 (by decide), h5]
      · rw [em 2 (by decide), h6]
      · rw [e32, pk_us, e51 15 (by decide), if_pos z, pk_us, k260]
      · rw [e51 15 (by decide), if_pos z, pk_us]; exact nI_rg (M := 3) hk (by decide)
      · rw [em i hi]; exact hrow i hi
    · have ep : ((n' + 1) % 16 + 16 - min (s' + 1) 16 + j) % 16 = (n' + 16 - s' + (j + 1)) % 16 := by omega
      have np : (n' + 16 - s' + (j + 1)) % 16 ≠ n' := by omega
      rw [ep]
      obtain ⟨⟨g1, g2⟩, g3, g4, g5, g6, g7⟩ := hj (j + 1) (by omega)
      have em : ∀ i, i < 31 → l50 (31 * j + i) = m50 (31 * (j + 1) + i) := fun i hi => by
        rw [e50 _ (by omega), if_pos z, kF_off (by omega)]; unfold mv; rw [if_pos (by omega)]; congr 1; omega
      have e5 : l51 j = m51 (j + 1) := by rw [e51 j (by omega), if_pos z, pk_un (by omega)]; unfold mv; rw [if_pos (by omega)]
      refine ⟨⟨fun i hi => ?_, ?_⟩, ?_, ?_, ?_, ?_, fun i hi => ?_⟩
      · show d31 _ = l50 (31 * j + (3 + i))
        rw [cold _ i np (by omega), em _ (by omega)]; exact g1 i hi
      · show d31 _ = l50 (31 * j + 0)
        rw [cold _ 28 np (by omega), em _ (by omega)]; exact g2
      · rw [em 1 (by decide), h5]; exact g3
      · rw [em 2 (by decide), h6]; exact g4
      · rw [e32, pk_un np, e5]; exact g5
      · rw [e5]; exact g6
      · rw [em i hi]; exact g7 i hi
  · have emin : min (s' + 1) 16 = s' + 1 := by omega
    rw [emin] at hjs ⊢
    by_cases zj : j = s'
    · subst zj
      have ep : ((n' + 1) % 16 + 16 - (j + 1) + j) % 16 = n' := by omega
      rw [ep]
      have em : ∀ i, i < 31 → l50 (31 * j + i) = row (4 + i) := fun i hi => by rw [e50 _ (by omega), if_neg z, kF_at hi]
      refine ⟨⟨fun i hi => ?_, ?_⟩, ?_, ?_, ?_, ?_, fun i hi => ?_⟩
      · show d31 (29 * n' + i) = l50 (31 * j + (3 + i))
        rw [cnew i (by omega), em _ (by omega), hf.1 i hi]; congr 1; omega
      · show d31 (29 * n' + 28) = l50 (31 * j + 0)
        rw [cnew 28 (by omega), em _ (by omega), hf.2]
      · rw [em 1 (by decide), h5]
      · rw [em 2 (by decide), h6]
      · rw [e32, pk_us, e51 j (by omega), if_neg z, pk_us, k260]
      · rw [e51 j (by omega), if_neg z, pk_us]; exact nI_rg (M := 3) hk (by decide)
      · rw [em i hi]; exact hrow i hi
    · have ep : ((n' + 1) % 16 + 16 - (s' + 1) + j) % 16 = (n' + 16 - s' + j) % 16 := by omega
      have np : (n' + 16 - s' + j) % 16 ≠ n' := by omega
      rw [ep]
      obtain ⟨⟨g1, g2⟩, g3, g4, g5, g6, g7⟩ := hj j (by omega)
      have em : ∀ i, i < 31 → l50 (31 * j + i) = m50 (31 * j + i) := fun i hi => by rw [e50 _ (by omega), if_neg z, kF_off (by omega)]
      have e5 : l51 j = m51 j := by rw [e51 j (by omega), if_neg z, pk_un (by omega)]
      refine ⟨⟨fun i hi => ?_, ?_⟩, ?_, ?_, ?_, ?_, fun i hi => ?_⟩
      · show d31 _ = l50 (31 * j + (3 + i))
        rw [cold _ i np (by omega), em _ (by omega)]; exact g1 i hi
      · show d31 _ = l50 (31 * j + 0)
        rw [cold _ 28 np (by omega), em _ (by omega)]; exact g2
      · rw [em 1 (by decide), h5]; exact g3
      · rw [em 2 (by decide), h6]; exact g4
      · rw [e32, pk_un np, e5]; exact g5
      · rw [e5]; exact g6
      · rw [em i hi]; exact g7 i hi
set_option maxRecDepth 100000 in
/-- remembering: what it leaves -/
theorem remU_fr {m : Mm} {s : Nat} {x : Int32} (hs : s ≤ 16) : mQ (remU m s x) = mQ m ∧ mK (remU m s x) = mK m ∧ mR (remU m s x) = mR m ∧ (∀ a, a ≠ 45 → a ≠ 50 → a ≠ 51 → mI (remU m s x) a = mI m a) ∧ (∀ k, k ≠ 8 → mI (remU m s x) 45 k = mI m 45 k) ∧ mL (remU m s x) = mL m ∧ mI (remU m s x) 45 8 = nI (min (s + 1) 16) ∧ mI (remU m s x) 50 = (if s = 16 then kF (mv (mI m 50) 31 465) (mI m 47) 15 31 else kF (mI m 50) (mI m 47) s 31) ∧ mI (remU m s x) 51 = (if s = 16 then upd (mv (mI m 51) 1 15) 15 x else upd (mI m 51) s x) := by
  unfold remU remT
  by_cases z : s = 16
  · rw [if_pos z, if_pos z, if_pos z]
    refine ⟨rfl, rfl, rfl, fun a h1 h2 h3 => ?_, fun k h1 => ?_, rfl, ?_, rfl, rfl⟩
    · simp only [mI_wI]; repeat rw [if_neg (by omega)]
    · show upd (upd (mI m 45) 8 _) 8 _ k = _
      rw [pk_un h1, pk_un h1]
    · show nI (15 + 1) = _
      rw [show min (s + 1) 16 = 15 + 1 by omega]
  · rw [if_neg z, if_neg z, if_neg z]
    refine ⟨rfl, rfl, rfl, fun a h1 h2 h3 => ?_, fun k h1 => ?_, rfl, ?_, rfl, rfl⟩
    · simp only [mI_wI]; repeat rw [if_neg (by omega)]
    · show upd (mI m 45) 8 _ k = _
      rw [pk_un h1]
    · show nI (s + 1) = _
      rw [show min (s + 1) 16 = s + 1 by omega]
set_option maxRecDepth 100000 in
theorem addU_fr {u : Mm} {n s : Nat} {x : Int32} : mQ (addU u n s x) = mQ u ∧ mK (addU u n s x) = mK u ∧ mR (addU u n s x) = mR u ∧ (∀ a, a ≠ 30 → a ≠ 31 → a ≠ 32 → mI (addU u n s x) a = mI u a) ∧ mL (addU u n s x) = mL u := by
  unfold addU
  refine ⟨rfl, rfl, rfl, fun a h1 h2 h3 => ?_, rfl⟩
  simp only [mI_wI]; repeat rw [if_neg (by omega)]
set_option maxRecDepth 100000 in
theorem c_copy {u : Mm} {a b : Nat} (ha : Fr u a) (hb : Fr u b) : fX1_copyFrom u a b = some ((), wI u (a + 1) (va_cpy (mI u (b + 1)) (mI u (a + 1)) 0 0 29)) := by
  unfold fX1_copyFrom
  rw [oK_of hb.1, hb.2.1, oNn_of, oK_of ha.1, ha.2.1, oNn_of, show (0 : Int32) = nI 0 from rfl, show (29 : Int32) = nI 29 from rfl, oC_of hb.2.2 ha.2.2 (by decide) (by decide) (by decide) (by decide), oU_of]
  rfl
set_option maxRecDepth 100000 in
theorem cpy29 {f g : Nat → Int32} {i : Nat} (hi : i < 29) : va_cpy f g 0 0 29 i = f i := by
  unfold va_cpy; rw [if_pos (by omega)]; congr 1; omega
/-- one act -/
def cAct (k : Nat) (x y z : Int32) (c : Mm) : Option (Int32 × Mm) := if k = 0 then fX7_doAttack c 13 2 x y else if k = 1 then fX7_doShift c 13 2 x y z else if k = 2 then fX7_doShow c 13 2 x y else fX7_doPass c 13 2
def rAct (k : Nat) (x y z : Int32) (m : Mm) : Option (Int32 × Mm) := if k = 0 then fX9_attackNow m 45 x y else if k = 1 then fX9_shiftNow m 45 x y z else if k = 2 then fX9_showNow m 45 x y else fX9_passNow m 45
set_option maxRecDepth 100000 in
theorem A_all {c m : Mm} {q : Option Nat} (hB : JB 2 c m) (hL : JL c m q) (hQ : JQ c q) {k : Nat} (hk : k ≤ 3) (x y z : Int32) : ActJ 2 c m q (nI k) (cAct k x y z) (rAct k x y z) := by
  rcases (by omega : k = 0 ∨ k = 1 ∨ k = 2 ∨ k = 3) with e | e | e | e <;> subst e
  · exact A_attack hB hL hQ x y
  · exact A_shift hB x y z
  · exact A_show hB hL hQ x y
  · exact A_pass hB hL hQ
set_option maxRecDepth 100000 in
theorem c_actU {c : Mm} (hS : hSh c) {k : Nat} (hk : k ≤ 3) (x y z : Int32) : fX8_act c 0 (nI (260 + k)) x y z = oB (cAct k x y z (wI c 37 (va_cpy (mI c 3) (mI c 37) 0 0 29))) (fun v u => bX8_act_132 u 0 (nI (260 + k)) v) := by
  have h1 : ∀ g, hSh (wI c 37 g) := fun _ => hS
  unfold fX8_act cAct
  rw [oK_of (sh0 hS), rf0_7 hS, oNn_of, oK_of (sh0 hS), rf0_0 hS, oNn_of, oK_of (sh1 hS), rf1_0 hS, oNn_of, oR_of (sh36 hS), c_copy (Fr36 hS) (Fr2 hS), oB_of]
  rcases (by omega : k = 0 ∨ k = 1 ∨ k = 2 ∨ k = 3) with e | e | e | e <;> subst e
  · rw [if_pos (show nI (260 + 0) = 260 from rfl), if_pos rfl, oK_of (sh0 (h1 _)), rf0_1 (h1 _), oNn_of, oK_of (sh0 (h1 _)), rf0_0 (h1 _), oNn_of, oK_of (sh1 (h1 _)), rf1_0 (h1 _), oNn_of, oR_of (sh13 (h1 _))]
  · rw [if_neg (show ¬ nI (260 + 1) = 260 by decide), if_pos (show nI (260 + 1) = 261 from rfl), if_neg (by decide), if_pos rfl, oK_of (sh0 (h1 _)), rf0_1 (h1 _), oNn_of, oK_of (sh0 (h1 _)), rf0_0 (h1 _), oNn_of, oK_of (sh1 (h1 _)), rf1_0 (h1 _), oNn_of, oR_of (sh13 (h1 _))]
  · rw [if_neg (show ¬ nI (260 + 2) = 260 by decide), if_neg (show ¬ nI (260 + 2) = 261 by decide), if_pos (show nI (260 + 2) = 262 from rfl), if_neg (by decide), if_neg (by decide), if_pos rfl, oK_of (sh0 (h1 _)), rf0_1 (h1 _), oNn_of, oK_of (sh0 (h1 _)), rf0_0 (h1 _), oNn_of, oK_of (sh1 (h1 _)), rf1_0 (h1 _), oNn_of, oR_of (sh13 (h1 _))]
  · rw [if_neg (show ¬ nI (260 + 3) = 260 by decide), if_neg (show ¬ nI (260 + 3) = 261 by decide), if_neg (show ¬ nI (260 + 3) = 262 by decide), if_pos (show nI (260 + 3) = 263 from rfl), if_neg (by decide), if_neg (by decide), if_neg (by decide), oK_of (sh0 (h1 _)), rf0_1 (h1 _), oNn_of, oK_of (sh0 (h1 _)), rf0_0 (h1 _), oNn_of, oK_of (sh1 (h1 _)), rf1_0 (h1 _), oNn_of, oR_of (sh13 (h1 _))]
set_option maxRecDepth 100000 in
theorem J_act {c m : Mm} {q : Option Nat} (hA : JA c m q) {k : Nat} (hk : k ≤ 3) (x y z : Int32) : ∃ r c' m', fX8_act c 0 (nI (260 + k)) x y z = some (r, c') ∧ rAct k x y z m = some (r, m') ∧ JA c' m' q ∧ CaF c c' ∧ RaF m m' ∧ ((r = -1 ∨ r = -3) ∨ ∃ n, n ≤ 999 ∧ r = nI n) := by
  obtain ⟨hB, hL, hQ, hP⟩ := hA
  have hS := hB.1
  -- the front kept ahead
  have cf1 : ∀ a, a ≠ 37 → mI (wI c 37 (va_cpy (mI c 3) (mI c 37) 0 0 29)) a = mI c a := fun a ha => by rw [mI_wI, if_neg ha]
  have hB1 : JB 2 (wI c 37 (va_cpy (mI c 3) (mI c 37) 0 0 29)) m := hB
  have hL1 : JL (wI c 37 (va_cpy (mI c 3) (mI c 37) 0 0 29)) m q := by
    rcases hL with h | ⟨i, t, A, h1, h2, h3, h4, h5, h6, h7⟩
    · exact Or.inl h
    · exact Or.inr ⟨i, t, A, h1, h2, h3, h4, CLaw_at h5 (fun a a1 a2 => ⟨rfl, rfl, cf1 a (by omega)⟩), h6, h7⟩
  have hQ1 : JQ (wI c 37 (va_cpy (mI c 3) (mI c 37) 0 0 29)) q := hQ
  have ca1 : CaF c (wI c 37 (va_cpy (mI c 3) (mI c 37) 0 0 29)) := ⟨rfl, rfl, rfl, fun a _ _ _ _ _ h6 => cf1 a h6⟩
  rcases A_all hB1 hL1 hQ1 hk x y z with ⟨r, c', m', a0, a1, a2, a3, a4⟩ | ⟨n, c', m0, a0, a1, a2, a3, a4⟩
  · refine ⟨r, c', m', ?_, a3, ⟨JB_fr hB1 a2 a4, JL_fr hL1 a2 a4, JQ_fr hQ1 a2, ?_⟩, CaF_trans ca1 (CaF_CsF a2), RaF_MF a4, Or.inl a0⟩
    · rw [c_actU hS hk, a1, oB_of]
      unfold bX8_act_132
      rw [if_pos (by rcases a0 with q | q <;> rw [q] <;> decide)]
    · rw [a2.2.2.2 30 (by decide), a2.2.2.2 31 (by decide), a2.2.2.2 32 (by decide), a4.2.2.2.1 50 (by decide), a4.2.2.2.1 51 (by decide), a4.2.2.2.1 47 (by decide)]
      exact Rpa_eq hP (a4.2.2.2.2.1 8 (by decide) (by decide)) (fun _ _ => rfl)
  · obtain ⟨n0, s0, p1, p2, p3, p4, p5, p6⟩ := id hP
    have hm0 := MF_hSh a3 hB.2.1
    have e8 : mI m0 45 8 = nI s0 := (a3.2.2.2.2.1 8 (by decide) (by decide)).trans p5
    have rem := m_remember hm0 p2 e8 (x := nI k)
    obtain ⟨f1, f2, f3, f4, f5, f6, f7, f8, f9⟩ := remU_fr (m := m0) (x := nI k) p2
    have hm1 : hSh (remU m0 s0 (nI k)) := by
      unfold hSh at hm0 ⊢
      rw [f1, f2, f3]; exact hm0
    have e47 : mI (remU m0 s0 (nI k)) 47 = mI m 47 := (f4 47 (by decide) (by decide) (by decide)).trans (a3.2.2.2.1 47 (by decide))
    have e20 : mI (remU m0 s0 (nI k)) 45 20 = mI m 45 20 := (f5 20 (by decide)).trans (a3.2.2.2.2.1 20 (by decide) (by decide))
    obtain ⟨m', b1, b2, b3⟩ := a4 _ rem (JB_m hB1 hm1 e47 e20) (JL_m hL1 e47) e47
    have hc' := AF_hSh a2 hB1.1
    have g2 : mI c' 30 2 = nI n0 := by rw [a2.2.2.2 30 (by decide) (by decide)]; exact p3
    have g3 : mI c' 30 3 = nI s0 := by rw [a2.2.2.2 30 (by decide) (by decide)]; exact p4
    obtain ⟨d1, d2, d3, d4, d5⟩ := addU_fr (u := c') (n := n0) (s := s0) (x := nI (260 + k))
    have hFR : FR (mI c' 37) (mI m 47) := by
      rw [a2.2.2.2 37 (by decide) (by decide)]
      have := JB_FR hB
      refine ⟨fun i hi => ?_, ?_⟩
      · show va_cpy (mI c 3) (mI c 37) 0 0 29 i = _
        rw [cpy29 (by omega)]; exact this.1 i hi
      · show va_cpy (mI c 3) (mI c 37) 0 0 29 28 = _
        rw [cpy29 (by omega)]; exact this.2
    have am : RaF m m' := by
      refine RaF_trans (RaF_MF a3) (RaF_trans (n := remU m0 s0 (nI k)) ⟨f1, f2, f3, fun a h1 _ h3 h4 => f4 a h1 h3 h4, fun i _ => by rw [f4 47 (by decide) (by decide) (by decide)], fun k h1 _ _ => f5 k h1, fun k _ _ => by rw [f6], fun i hi => ?_⟩ (RaF_AM b2))
      rw [f8]
      by_cases z : s0 = 16
      · rw [if_pos z, kF_off (by omega), mv_ge (by omega)]
      · rw [if_neg z, kF_off (by omega)]
    refine ⟨nI n, addU c' n0 s0 (nI (260 + k)), m', ?_, b1, ⟨?_, ?_, ?_, ?_⟩, CaF_trans ca1 (CaF_trans (CaF_AF a2) ⟨d1, d2, d3, fun a _ _ h3 h4 h5 _ => d4 a h3 h4 h5⟩), am, Or.inr ⟨n, a0, rfl⟩⟩
    · rw [c_actU hS hk, a1, oB_of]
      unfold bX8_act_132
      rw [if_neg (nI_pos (by omega)), oK_of (sh0 hc'), rf0_5 hc', oNn_of, oK_of (sh0 hc'), rf0_7 hc', oNn_of, oR_of (sh30 hc'), c_add hc' p1 p2 g2 g3, oB_of]
    · obtain ⟨h1, h2, h3, h4, h5, h6, h7, h8, h9, h10, h11⟩ := b3
      unfold JB
      rw [d4 3 (by decide) (by decide) (by decide), d4 1 (by decide) (by decide) (by decide), d4 4 (by decide) (by decide) (by decide), d4 5 (by decide) (by decide) (by decide)]
      exact ⟨h1, h2, h3, h4, h5, h6, h7, h8, h9, h10, h11⟩
    · have hLm : JL c' m' q := JL_act (Or.inl rfl) (JL_m hL1 e47) a2 b2
      rcases hLm with h | ⟨i, t, A, h1, h2, h3, h4, h5, h6, h7⟩
      · exact Or.inl h
      · exact Or.inr ⟨i, t, A, h1, h2, h3, h4, CLaw_at h5 (fun a a1 a2 => ⟨by rw [d2], by rw [d3], d4 a (by omega) (by omega) (by omega)⟩), h6, h7⟩
    · have hQm := JQ_act (Or.inl rfl) hQ1 a2
      unfold JQ at hQm ⊢
      rw [d4 1 (by decide) (by decide) (by decide), d3]; exact hQm
    · have hP' : Rpa (mI c' 30) (mI c' 31) (mI c' 32) (mI m 45) (mI m 50) (mI m 51) (mI m 47) := by
        rw [a2.2.2.2 30 (by decide) (by decide), a2.2.2.2 31 (by decide) (by decide), a2.2.2.2 32 (by decide) (by decide)]
        exact hP
      refine Rpa_add hk hP' g2 p1 g3 p2 hFR hB.2.2.2.2.2.2.2.2.2.2 (d30 := mI (addU c' n0 s0 (nI (260 + k))) 30) (d31 := mI (addU c' n0 s0 (nI (260 + k))) 31) (d32 := mI (addU c' n0 s0 (nI (260 + k))) 32) rfl rfl rfl rfl ?_ ?_ ?_ (fun i hi => ?_) (fun i hi => ?_)
      · rw [b2.2.2.2.2.1 5 (by unfold fP; omega), e47]
      · rw [b2.2.2.2.2.1 6 (by unfold fP; omega), e47]
      · rw [b2.2.2.2.2.2.1 8 (by decide) (by decide), f7]
      · rw [b2.2.2.2.1 50 (by decide) (by decide), f8, a3.2.2.2.1 50 (by decide), a3.2.2.2.1 47 (by decide)]
        split <;> rfl
      · rw [b2.2.2.2.1 51 (by decide) (by decide), f9, a3.2.2.2.1 51 (by decide)]
        split <;> rfl
