/-! ===== both ask the law ===== -/
set_option maxRecDepth 100000 in
theorem TX_at {u u' : Mm} {t lo hi : Nat} {cd wt : Nat → Int32} (hT : TS u t) (h : TX u t cd wt lo hi) (e : ∀ a, t ≤ a → a ≤ t + 5 → mK u' a = mK u a ∧ mR u' a = mR u a ∧ mI u' a = mI u a) : TX u' t cd wt lo hi := by
  obtain ⟨k1, L, a, b, na, nb, k2, k3, k4, k5, k6, k7, k8, k9, k10, k11, k12⟩ := h
  have ea : a = t + 1 := Option.some.inj (k4.symm.trans hT.2.1)
  have eb : b = t + 2 := Option.some.inj (k5.symm.trans hT.2.2.1)
  subst ea eb
  have e0 := e t (by omega) (by omega)
  have e1 := e (t + 1) (by omega) (by omega)
  have e2 := e (t + 2) (by omega) (by omega)
  refine ⟨e0.1.trans k1, L, t + 1, t + 2, na, nb, by rw [e0.2.2]; exact k2, k3, by rw [e0.2.1]; exact k4, by rw [e0.2.1]; exact k5, e1.1.trans k6, e2.1.trans k7, k8, k9, k10, k11, fun i i1 i2 => ?_⟩
  rw [e1.2.2, e2.2.2]
  exact k12 i i1 i2
set_option maxRecDepth 100000 in
theorem SegV_at {u u' : Mm} {t a : Nat} {f : (Nat → Int32) → Int64} (hT : TS u t) (h : SegV u t f a) (e : ∀ a, t ≤ a → a ≤ t + 5 → mK u' a = mK u a ∧ mR u' a = mR u a ∧ mI u' a = mI u a) : SegV u' t f a := by
  obtain ⟨cd, wt, b, p, h1, h2, h3, h4⟩ := h
  refine ⟨cd, wt, b, p, h1, h2, TX_at hT h3 e, h4.elim (fun q => Or.inl (by rw [(e t (by omega) (by omega)).2.2]; exact q)) (fun ⟨w, q⟩ => Or.inr ⟨w, TX_at hT q e⟩)⟩
set_option maxRecDepth 100000 in
theorem TS_at {u u' : Mm} {t : Nat} (h : TS u t) (e : ∀ a, t ≤ a → a ≤ t + 5 → mK u' a = mK u a ∧ mR u' a = mR u a ∧ mI u' a = mI u a) : TS u' t := by
  have e0 := e t (by omega) (by omega)
  unfold TS at h ⊢
  rw [e0.1, e0.2.1]
  exact h
set_option maxRecDepth 100000 in
theorem CLaw_at {u u' : Mm} {t : Nat} {A : LawA} (h : CLaw u t A) (e : ∀ a, t ≤ a → a ≤ t + 5 → mK u' a = mK u a ∧ mR u' a = mR u a ∧ mI u' a = mI u a) : CLaw u' t A := by
  obtain ⟨c0, c1, c2, ⟨nk, ns, k1, k2, k3, k4, k5, k6⟩, c3⟩ := h
  have e0 := e t (by omega) (by omega)
  have e3 := e (t + 3) (by omega) (by omega)
  have e5 := e (t + 5) (by omega) (by omega)
  refine ⟨TS_at c0 e, c1, by rw [e0.2.2]; exact c2, ⟨nk, ns, e3.1.trans k1, e5.1.trans k2, k3, k4, k5, k6⟩, fun r hr => ?_⟩
  obtain ⟨g1, g2, g3, g4, g5⟩ := c3 r hr
  rw [e3.2.2, e5.2.2]
  refine ⟨g1, g2, fun q => ?_, g4, fun q => ?_⟩
  · obtain ⟨a, a1, a2, a3⟩ := g3 q
    exact ⟨a, a1, a2, SegV_at c0 a3 e⟩
  · obtain ⟨a, a1, a2, a3⟩ := g5 q
    exact ⟨a, a1, a2, SegV_at c0 a3 e⟩
/-- the words of a side; of a column besides -/
def lwF (g cells : Nat → Int32) (s : Nat) (x : Int32) : Nat → Int32 := upd (upd (upd (upd (upd (upd (upd (upd (upd (upd g 0 (nI s)) 1 (-1)) 2 (-1)) 3 (-1)) 4 (-1)) 5 (cells (24 + s))) 6 (cells (26 + s))) 7 (-1)) 8 (cells 28)) 9 x
def cwF (g cells : Nat → Int32) (s k : Nat) : Nat → Int32 := upd (upd (upd (upd g 1 (nI k)) 2 (cells k)) 3 (cells (8 + 8 * s + k))) 4 (cells (8 + 8 * (1 - s) + k))
set_option maxRecDepth 100000 in
theorem Fr16 {c : Mm} {f : Nat} {g : Nat → Int32} (hF : Fr c f) : Fr (wI c 16 g) f := hF
set_option maxRecDepth 100000 in
theorem c_setLaw {c : Mm} (hS : hSh c) {f s : Nat} (hF : Fr c f) (hf : f + 1 ≠ 16) (hs : s < 2) {x : Int32} : fX5_setLawWords c 14 f (nI s) x = some ((), wI c 16 (lwF (mI c 16) (mI c (f + 1)) s x)) := by
  have h1 : ∀ g, hSh (wI c 16 g) := fun _ => hS
  have f1 : ∀ g, Fr (wI c 16 g) f := fun _ => hF
  have e1 : ∀ g, mI (wI c 16 g) (f + 1) = mI c (f + 1) := fun g => by rw [mI_wI, if_neg hf]
  have e2 : ∀ g, mI (wI c 16 g) 16 = g := fun g => rfl
  unfold fX5_setLawWords
  rw [oK_of (sh14 hS), rf14_1 hS, oNn_of, oA_of (sh16 hS) (by decide) (by decide), oU_of]
  rw [oK_of (sh14 (h1 _)), rf14_1 (h1 _), oNn_of, oA_of (sh16 (h1 _)) (by decide) (by decide), oU_of, wI_s, e2]
  rw [oK_of (sh14 (h1 _)), rf14_1 (h1 _), oNn_of, oA_of (sh16 (h1 _)) (by decide) (by decide), oU_of, wI_s, e2]
  rw [oK_of (sh14 (h1 _)), rf14_1 (h1 _), oNn_of, oA_of (sh16 (h1 _)) (by decide) (by decide), oU_of, wI_s, e2]
  rw [oK_of (sh14 (h1 _)), rf14_1 (h1 _), oNn_of, oA_of (sh16 (h1 _)) (by decide) (by decide), oU_of, wI_s, e2]
  rw [oK_of (sh14 (h1 _)), rf14_1 (h1 _), oNn_of, oR_of (f1 _).1, c_supplyOf (f1 _) hs, oB_of, oA_of (sh16 (h1 _)) (by decide) (by decide), oU_of, wI_s, e2, e1]
  rw [oK_of (sh14 (h1 _)), rf14_1 (h1 _), oNn_of, oR_of (f1 _).1, c_temperOf (f1 _) hs, oB_of, oA_of (sh16 (h1 _)) (by decide) (by decide), oU_of, wI_s, e2, e1]
  rw [oK_of (sh14 (h1 _)), rf14_1 (h1 _), oNn_of, oA_of (sh16 (h1 _)) (by decide) (by decide), oU_of, wI_s, e2]
  rw [oK_of (sh14 (h1 _)), rf14_1 (h1 _), oNn_of, oR_of (f1 _).1, c_day (f1 _), oB_of, oA_of (sh16 (h1 _)) (by decide) (by decide), oU_of, wI_s, e2, e1]
  rw [oK_of (sh14 (h1 _)), rf14_1 (h1 _), oNn_of, oA_of (sh16 (h1 _)) (by decide) (by decide), oU_of, wI_s, e2]
  rfl
set_option maxRecDepth 100000 in
theorem c_setCol {c : Mm} (hS : hSh c) {f s k : Nat} (hF : Fr c f) (hf : f + 1 ≠ 16) (hs : s < 2) (hk : k < 8) : fX5_setColumnWords c 14 f (nI s) (nI k) = some ((), wI c 16 (cwF (mI c 16) (mI c (f + 1)) s k)) := by
  have h1 : ∀ g, hSh (wI c 16 g) := fun _ => hS
  have f1 : ∀ g, Fr (wI c 16 g) f := fun _ => hF
  have e1 : ∀ g, mI (wI c 16 g) (f + 1) = mI c (f + 1) := fun g => by rw [mI_wI, if_neg hf]
  have e2 : ∀ g, mI (wI c 16 g) 16 = g := fun g => rfl
  unfold fX5_setColumnWords
  rw [oK_of (sh14 hS), rf14_1 hS, oNn_of, oA_of (sh16 hS) (by decide) (by decide), oU_of]
  rw [oK_of (sh14 (h1 _)), rf14_1 (h1 _), oNn_of, oR_of (f1 _).1, c_lineAt (f1 _) hk, oB_of, oA_of (sh16 (h1 _)) (by decide) (by decide), oU_of, wI_s, e2, e1]
  rw [oK_of (sh14 (h1 _)), rf14_1 (h1 _), oNn_of, oR_of (f1 _).1, c_menAt (f1 _) hs hk, oB_of, oA_of (sh16 (h1 _)) (by decide) (by decide), oU_of, wI_s, e2, e1]
  rw [oK_of (sh14 (h1 _)), rf14_1 (h1 _), oNn_of, oR_of (f1 _).1, i1s hs, c_menAt (f1 _) (by omega) hk, oB_of, oA_of (sh16 (h1 _)) (by decide) (by decide), oU_of, wI_s, e2, e1]
  rfl
/-! between -/
set_option maxRecDepth 100000 in
theorem i64le (x y : Int32) : (x.toInt64 ≤ y.toInt64) ↔ x ≤ y := by simp only [Int32.le_iff_toInt_le, Int64.le_iff_toInt_le, Int32.toInt_toInt64]
set_option maxRecDepth 100000 in
theorem m_within {u : Mm} {y : Int64} {lo hi : Int32} (hy : fit y) (hl : lo ≤ hi) : fX9_within u y lo hi = some (imax lo (imin y.toInt32 hi), u) := by
  unfold fit at hy
  have e : ∀ z : Int32, z.toInt64 = y → fX9_within u y lo hi = some (imax lo (imin z hi), u) := by
    intro z hz
    subst hz
    unfold fX9_within bX9_within_24 imax imin
    by_cases c1 : lo ≤ z
    · rw [if_pos ((lg_ge _ _).mpr ((i64le _ _).mpr c1))]
      by_cases c2 : z ≤ hi
      · rw [if_pos ((lg_le _ _).mpr ((i64le _ _).mpr c2)), if_neg (Int32.not_lt.mpr c2), Int32.toInt32_toInt64]
        by_cases c3 : lo < z
        · rw [if_pos c3]
        · rw [if_neg c3]
          have : z = lo := Int32.le_antisymm (Int32.not_lt.mp c3) c1
          rw [this]
      · rw [if_neg (fun q => c2 ((i64le _ _).mp ((lg_le _ _).mp q))), if_pos (Int32.not_le.mp c2)]
        by_cases c3 : lo < hi
        · rw [if_pos c3]
        · rw [if_neg c3]
          have : hi = lo := Int32.le_antisymm (Int32.not_lt.mp c3) hl
          rw [this]
    · rw [if_neg (fun q => c1 ((i64le _ _).mp ((lg_ge _ _).mp q)))]
      have c4 : z < lo := Int32.not_le.mp c1
      have c5 : ¬ hi < z := fun q => absurd (Int32.lt_of_lt_of_le c4 hl) (Int32.not_lt.mpr (Int32.le_of_lt q))
      rw [if_neg c5, if_neg (Int32.not_lt.mpr (Int32.le_of_lt c4))]
  exact e _ hy
set_option maxRecDepth 100000 in
theorem clampR {x lo hi : Int32} {a b : Int} (ha : lo.toInt = a) (hb : hi.toInt = b) (hl : a ≤ b) : rg (imax lo (imin x hi)) a b := by
  unfold rg imax imin
  by_cases c1 : hi < x
  · rw [if_pos c1]
    by_cases c2 : lo < hi
    · rw [if_pos c2]; omega
    · rw [if_neg c2]; omega
  · rw [if_neg c1]
    have := Int32.not_lt.mp c1
    have k1 := Int32.le_iff_toInt_le.mp this
    by_cases c2 : lo < x
    · rw [if_pos c2]
      have k2 := Int32.lt_iff_toInt_lt.mp c2
      omega
    · rw [if_neg c2]; omega
/-! the two together: a front f of the class, the reference's row -/
def JB (f : Nat) (c m : Mm) : Prop := hSh c ∧ hSh m ∧ Fr c f ∧ (f = 2 ∨ f = 40) ∧ mI m 45 20 = 0 ∧ (∀ i, i < 28 → mI c (f + 1) i = mI m 47 (7 + i)) ∧ mI c (f + 1) 28 = mI m 47 4 ∧ mI c 1 12 = mI m 47 6 ∧ (∀ i, i < 16 → mI c 4 i = mI m 47 (35 + i)) ∧ (∀ i, i < 16 → mI c 5 i = mI m 47 (51 + i)) ∧ Rrg (mI m 47)
def JL (c m : Mm) (q : Option Nat) : Prop := (q = none ∧ mI m 47 3 = -1) ∨ ∃ i t A, q = some t ∧ 71 ≤ t ∧ i < 6 ∧ mI m 47 3 = nI i ∧ CLaw c t A ∧ RLaw (fun x => mI m 47 (130 + 900 * i + x)) A ∧ AOK A
def JQ (c : Mm) (q : Option Nat) : Prop := (q = none ∧ mI c 1 15 = -1) ∨ ∃ i t n, q = some t ∧ mI c 1 15 = nI i ∧ i < n ∧ n ≤ 6 ∧ mI c 1 14 = nI n ∧ mR c 12 i = some t
set_option maxRecDepth 100000 in
theorem c_lif {c : Mm} (hS : hSh c) {q : Option Nat} (h : JQ c q) : fX0_lawInForce c 1 = some (q, c) := by
  unfold fX0_lawInForce fX0_lawOf bX0_lawOf_18
  rcases h with ⟨rfl, h⟩ | ⟨i, t, n, rfl, h1, h2, h3, h4, h5⟩
  · rw [oK_of (sh1 hS), oI_of, h, oR_of (sh1 hS), oR_of (sh1 hS), c_hasLaw hS, oB_of, if_neg (show ¬ ((0 : Int32) ≤ -1 ∧ -1 < mI c 1 14) from fun q => absurd q.1 (by decide)), if_pos rfl, oB_of]
  · rw [oK_of (sh1 hS), oI_of, h1, oR_of (sh1 hS), oR_of (sh1 hS), c_hasLaw hS, oB_of, h4, if_pos (show 0 ≤ nI i ∧ nI i < nI n from ⟨nI_pos' (by omega), Int32.not_le.mp (nI_ge h2 (by omega))⟩), if_neg (by decide), oK_of (sh1 hS), rf1_13 hS, oNn_of, oA_k (sh12 hS) (by omega) (by decide), clm (by omega), h5, oNn_of, oB_of]
/-- what asking a law changes of the class -/
def CsF (c c' : Mm) : Prop := mQ c' = mQ c ∧ mK c' = mK c ∧ mR c' = mR c ∧ (∀ a, a ≠ 16 → mI c' a = mI c a)
set_option maxRecDepth 100000 in
theorem CsF_rfl {c : Mm} : CsF c c := ⟨rfl, rfl, rfl, fun _ _ => rfl⟩
set_option maxRecDepth 100000 in
theorem CsF_trans {c d e : Mm} (h : CsF c d) (k : CsF d e) : CsF c e := ⟨k.1.trans h.1, k.2.1.trans h.2.1, k.2.2.1.trans h.2.2.1, fun a h1 => (k.2.2.2 a h1).trans (h.2.2.2 a h1)⟩
set_option maxRecDepth 100000 in
theorem CsF_hSh {c c' : Mm} (k : CsF c c') (h : hSh c) : hSh c' := by
  unfold hSh at h ⊢
  rw [k.1, k.2.1, k.2.2.1]
  exact h
set_option maxRecDepth 100000 in
theorem CsF_w16 {c : Mm} {g : Nat → Int32} {S : Nat → Int64} : CsF c (wL (wI c 16 g) 15 S) := ⟨rfl, rfl, rfl, fun a h => by show (if a = 16 then _ else mI c a) = _; rw [if_neg h]⟩
set_option maxRecDepth 100000 in
theorem JB_fr {f : Nat} {c m c' m' : Mm} (h : JB f c m) (k : CsF c c') (l : MF m m') : JB f c' m' := by
  obtain ⟨h1, h2, h3, h4, h5, h6, h7, h8, h9, h10, h11⟩ := h
  have ef : f + 1 ≠ 16 := by omega
  unfold JB
  rw [l.2.2.2.1 47 (by decide), k.2.2.2 (f + 1) ef, k.2.2.2 1 (by decide), k.2.2.2 4 (by decide), k.2.2.2 5 (by decide), l.2.2.2.2.1 20 (by decide) (by decide)]
  refine ⟨CsF_hSh k h1, MF_hSh l h2, ?_, h4, h5, h6, h7, h8, h9, h10, h11⟩
  unfold Fr at h3 ⊢
  rw [k.2.1, k.2.2.1]; exact h3
set_option maxRecDepth 100000 in
theorem JL_fr {c m c' m' : Mm} {q : Option Nat} (h : JL c m q) (k : CsF c c') (l : MF m m') : JL c' m' q := by
  unfold JL
  rw [l.2.2.2.1 47 (by decide)]
  rcases h with h | ⟨i, t, A, h1, h2, h3, h4, h5, h6, h7⟩
  · exact Or.inl h
  · exact Or.inr ⟨i, t, A, h1, h2, h3, h4, CLaw_at h5 (fun a a1 a2 => ⟨by rw [k.2.1], by rw [k.2.2.1], k.2.2.2 a (by omega)⟩), h6, h7⟩
set_option maxRecDepth 100000 in
theorem JQ_fr {c c' : Mm} {q : Option Nat} (h : JQ c q) (k : CsF c c') : JQ c' q := by
  unfold JQ
  rw [k.2.2.2 1 (by decide), k.2.2.1]
  exact h
set_option maxRecDepth 100000 in
/-- told by both: the one's as an int -/
theorem J_told {f : Nat} {c m : Mm} {q : Option Nat} (hB : JB f c m) (hL : JL c m q) {hd : Nat} (hh : hd < 4) {s : Nat} (hs : s < 2) {col sg men w : Int32} {g : Nat → Int32}
    (hc : (∃ k, k < 8 ∧ col = nI k ∧ g 1 = nI k ∧ g 2 = mI m 47 (7 + k) ∧ g 4 = mI m 47 (15 + 8 * (1 - s) + k)) ∨ (col = -1 ∧ g 1 = -1 ∧ g 2 = -1 ∧ g 4 = -1)) (h0 : g 0 = nI s) (h3 : g 3 = men) (h5 : g 5 = mI m 47 (31 + s)) (h6 : g 6 = mI m 47 (33 + s)) (h7 : g 7 = sg) (h8 : g 8 = mI m 47 4) (h9 : g 9 = mI m 47 6) :
    ∃ (y : Int64) (S : Nat → Int64) (m' : Mm), fit y ∧ fX5_toldBy (wI c 16 g) 14 q (nI (256 + hd)) w = some (y.toInt32, wL (wI c 16 g) 15 S) ∧ fX9_tells m 45 (nI hd) (nI s) col sg men w.toInt64 = some (y, m') ∧ MF m m' := by
  obtain ⟨b1, b2, b3, b4, b5, -⟩ := hB
  rcases hL with ⟨rfl, hL⟩ | ⟨i, t, A, rfl, l1, l2, l3, l4, l5, l6⟩
  · refine ⟨w.toInt64, mL c 15, m, fit32 w, ?_, ?_, MF_rfl⟩
    · show some (w, wI c 16 g) = _
      rw [Int32.toInt32_toInt64, show wL (wI c 16 g) 15 (mL c 15) = wI c 16 g from wL_id]
    · unfold fX9_tells
      rw [oK_of (sh45 b2), rf45_3 b2, oNn_of, oA_of (sh47 b2) (by decide) (by decide), oI_of, show mI m 47 (Int32.toNatClampNeg 3) = -1 from hL, if_pos rfl]
  · have l4' : CLaw (wI c 16 g) t A := CLaw_at l4 (fun a a1 a2 => ⟨rfl, rfl, by rw [mI_wI, if_neg (by omega)]⟩)
    obtain ⟨S, e1⟩ := c_toldBy (u := wI c 16 g) b1 l4' hh (w := w)
    obtain ⟨m', e2, e3⟩ := m_tells b2 b5 l2 l3 l5 l6 hh hs (W := g) (w := w.toInt64) hc h0 h3 h5 h6 h7 h8 h9
    exact ⟨_, S, m', tld_fit l6 (fit32 w) _ (Nat.le_refl _), e1, e2, e3⟩
section
variable {f : Nat} {c m : Mm} {q : Option Nat} {s k : Nat}
set_option maxRecDepth 100000 in
theorem JB_sup (hB : JB f c m) (hs : s < 2) : mI c (f + 1) (24 + s) = mI m 47 (31 + s) := by
  have := hB.2.2.2.2.2.1 (24 + s) (by omega)
  rw [this]; congr 1; omega
set_option maxRecDepth 100000 in
theorem JB_tem (hB : JB f c m) (hs : s < 2) : mI c (f + 1) (26 + s) = mI m 47 (33 + s) := by
  have := hB.2.2.2.2.2.1 (26 + s) (by omega)
  rw [this]; congr 1; omega
set_option maxRecDepth 100000 in
theorem JB_men (hB : JB f c m) (hs : s < 2) (hk : k < 8) : mI c (f + 1) (8 + 8 * s + k) = mI m 47 (15 + 8 * s + k) := by
  have := hB.2.2.2.2.2.1 (8 + 8 * s + k) (by omega)
  rw [this]; congr 1; omega
set_option maxRecDepth 100000 in
theorem JB_line (hB : JB f c m) (hk : k < 8) : mI c (f + 1) k = mI m 47 (7 + k) := hB.2.2.2.2.2.1 k (by omega)
set_option maxRecDepth 100000 in
theorem JB_day (hB : JB f c m) : mI c (f + 1) 28 = mI m 47 4 := hB.2.2.2.2.2.2.1
set_option maxRecDepth 100000 in
theorem JB_mood (hB : JB f c m) : mI c 1 12 = mI m 47 6 := hB.2.2.2.2.2.2.2.1
set_option maxRecDepth 100000 in
theorem f16 (hB : JB f c m) : f + 1 ≠ 16 := by have := hB.2.2.2.1; omega
set_option maxRecDepth 100000 in
/-- both words set for a column -/
theorem c_setBoth (hB : JB f c m) (hs : s < 2) (hk : k < 8) {x : Int32} {ρ : Type} {F : Mm → Option ρ} : oR c 14 5 (oB (fX5_setLawWords c 14 f (nI s) x) (fun _ u4 => oK u4 13 7 2 (oNn (mR u4 13 1) (fun e5 => oR u4 e5 5 (oB (fX5_setColumnWords u4 e5 f (nI s) (nI k)) (fun _ u6 => F u6)))))) = F (wI c 16 (cwF (lwF (mI c 16) (mI c (f + 1)) s x) (mI c (f + 1)) s k)) := by
  have h1 : ∀ g, hSh (wI c 16 g) := fun _ => hB.1
  have e1 : ∀ g, mI (wI c 16 g) (f + 1) = mI c (f + 1) := fun g => by rw [mI_wI, if_neg (f16 hB)]
  rw [oR_of (sh14 hB.1), c_setLaw hB.1 hB.2.2.1 (f16 hB) hs, oB_of, oK_of (sh13 (h1 _)), rf13_1 (h1 _), oNn_of, oR_of (sh14 (h1 _)), c_setCol (h1 _) (Fr16 hB.2.2.1) (f16 hB) hs hk, oB_of, wI_s, e1]
  rfl
set_option maxRecDepth 100000 in
theorem J_cost (hB : JB f c m) (hL : JL c m q) (hs : s < 2) (hk : k < 8) : ∃ v c' m', fX7_costOf c 13 q f (nI s) (nI k) = some (v, c') ∧ fX9_costsOf m 45 (nI s) (nI k) = some (v, m') ∧ CsF c c' ∧ MF m m' ∧ rg v 0 99 := by
  have h1 := hB.1
  have h2 := hB.2.1
  have w1 : ∀ g, hSh (wI c 16 g) := fun _ => h1
  obtain ⟨y, S, m', hy, e1, e2, e3⟩ := J_told hB hL (hd := 1) (by decide) hs (col := nI k) (sg := -1) (men := mI m 47 (15 + 8 * s + k)) (w := 5) (g := cwF (lwF (mI c 16) (mI c (f + 1)) s (mI c 1 12)) (mI c (f + 1)) s k) (Or.inl ⟨k, hk, rfl, rfl, JB_line hB hk, JB_men hB (by omega) hk⟩) rfl (JB_men hB hs hk) (JB_sup hB hs) (JB_tem hB hs) rfl (JB_day hB) (JB_mood hB)
  refine ⟨imax 0 (imin y.toInt32 99), wL (wI c 16 (cwF (lwF (mI c 16) (mI c (f + 1)) s (mI c 1 12)) (mI c (f + 1)) s k)) 15 S, m', ?_, ?_, CsF_w16, e3, clampR rfl rfl (by decide)⟩
  · unfold fX7_costOf
    rw [oK_of (sh13 h1), rf13_1 h1, oNn_of, oK_of (sh13 h1), rf13_0 h1, oNn_of, oK_of (sh1 h1), oI_of, c_setBoth hB hs hk, oK_of (sh13 (w1 _)), rf13_1 (w1 _), oNn_of, oR_of (sh14 (w1 _)), show (257 : Int32) = nI (256 + 1) from rfl, e1, oB_of, c_min, oB_of, c_max, oB_of]
  · unfold fX9_costsOf
    rw [oR_of (sh45 h2), m_menOf h2 hs hk, oB_of, oR_of (sh45 h2), show fX9_tells m 45 1 (nI s) (nI k) (-1) (mI m 47 (15 + 8 * s + k)) 5 = some (y, m') from e2, oB_of, m_within hy (by decide), oB_of]
set_option maxRecDepth 100000 in
theorem J_barred (hB : JB f c m) (hL : JL c m q) (hQ : JQ c q) (hs : s < 2) (hk : k < 8) : ∃ (b : Bool) (c' m' : Mm), fX7_isBarred c 13 f (nI s) (nI k) = some (if b then 1 else 0, c') ∧ fX9_isBarred m 45 (nI s) (nI k) = some (if b then 1 else 0, m') ∧ CsF c c' ∧ MF m m' := by
  have h1 := hB.1
  have h2 := hB.2.1
  have w1 : ∀ g, hSh (wI c 16 g) := fun _ => h1
  obtain ⟨y, S, m', hy, e1, e2, e3⟩ := J_told hB hL (hd := 3) (by decide) hs (col := nI k) (sg := -1) (men := mI m 47 (15 + 8 * s + k)) (w := 0) (g := cwF (lwF (mI c 16) (mI c (f + 1)) s (mI c 1 12)) (mI c (f + 1)) s k) (Or.inl ⟨k, hk, rfl, rfl, JB_line hB hk, JB_men hB (by omega) hk⟩) rfl (JB_men hB hs hk) (JB_sup hB hs) (JB_tem hB hs) rfl (JB_day hB) (JB_mood hB)
  have ey : y.toInt32 = 1 ↔ y = 1 := by
    constructor
    · intro z; unfold fit at hy; rw [z] at hy; exact hy.symm
    · intro z; rw [z]; rfl
  have hQ' : ∀ g, JQ (wI c 16 g) q := fun g => JQ_fr hQ ⟨rfl, rfl, rfl, fun a h => by rw [mI_wI, if_neg h]⟩
  refine ⟨decide (y = 1), wL (wI c 16 (cwF (lwF (mI c 16) (mI c (f + 1)) s (mI c 1 12)) (mI c (f + 1)) s k)) 15 S, m', ?_, ?_, CsF_w16, e3⟩
  · unfold fX7_isBarred bX7_isBarred_53
    rw [oK_of (sh13 h1), rf13_1 h1, oNn_of, oK_of (sh13 h1), rf13_0 h1, oNn_of, oK_of (sh1 h1), oI_of, c_setBoth hB hs hk, oK_of (sh13 (w1 _)), rf13_1 (w1 _), oNn_of, oK_of (sh13 (w1 _)), rf13_0 (w1 _), oNn_of, oR_of (sh1 (w1 _)), c_lif (w1 _) (hQ' _), oB_of, oR_of (sh14 (w1 _)), show (259 : Int32) = nI (256 + 3) from rfl, e1, oB_of]
    by_cases z : y = 1
    · rw [if_pos (ey.mpr z), oZ1, decide_eq_true z]; rfl
    · rw [if_neg (fun w => z (ey.mp w)), oZ0, decide_eq_false z]; rfl
  · unfold fX9_isBarred bX9_isBarred_25
    rw [oR_of (sh45 h2), m_menOf h2 hs hk, oB_of, oR_of (sh45 h2), show (3 : Int32) = nI 3 from rfl, show (0 : Int64) = (0 : Int32).toInt64 from rfl, e2, oB_of]
    by_cases z : y = 1
    · rw [if_pos ((lg_eq _ _).mpr z), oZ1, decide_eq_true z]; rfl
    · rw [if_neg (fun w => z ((lg_eq _ _).mp w)), oZ0, decide_eq_false z]; rfl
set_option maxRecDepth 100000 in
theorem J_feed (hB : JB f c m) (hL : JL c m q) (hQ : JQ c q) (hs : s < 2) : ∃ v c' m', fX7_feedOf c 13 f (nI s) = some (v, c') ∧ fX9_feedsOf m 45 (nI s) = some (v, m') ∧ CsF c c' ∧ MF m m' ∧ rg v 0 99 := by
  have h1 := hB.1
  have h2 := hB.2.1
  have w1 : ∀ g, hSh (wI c 16 g) := fun _ => h1
  have em : sum8 (fun k => mI c (f + 1) (8 + 8 * s + k)) = sum8 (fun k => mI m 47 (15 + 8 * s + k)) := sum8_congr (fun k hk => JB_men hB hs hk)
  obtain ⟨y, S, m', hy, e1, e2, e3⟩ := J_told hB hL (hd := 2) (by decide) hs (col := -1) (sg := -1) (men := sum8 (fun k => mI m 47 (15 + 8 * s + k))) (w := 3) (g := upd (lwF (mI c 16) (mI c (f + 1)) s (mI c 1 12)) 3 (sum8 (fun k => mI c (f + 1) (8 + 8 * s + k)))) (Or.inr ⟨rfl, rfl, rfl, rfl⟩) rfl em (JB_sup hB hs) (JB_tem hB hs) rfl (JB_day hB) (JB_mood hB)
  have hQ' : ∀ g, JQ (wI c 16 g) q := fun g => JQ_fr hQ ⟨rfl, rfl, rfl, fun a h => by rw [mI_wI, if_neg h]⟩
  have em2 : ∀ g, (fun k => mI (wI c 16 g) (f + 1) (8 + 8 * s + k)) = (fun k => mI c (f + 1) (8 + 8 * s + k)) := fun g => by rw [mI_wI, if_neg (f16 hB)]
  refine ⟨imax 0 (imin y.toInt32 99), wL (wI c 16 (upd (lwF (mI c 16) (mI c (f + 1)) s (mI c 1 12)) 3 (sum8 (fun k => mI c (f + 1) (8 + 8 * s + k))))) 15 S, m', ?_, ?_, CsF_w16, e3, clampR rfl rfl (by decide)⟩
  · unfold fX7_feedOf
    rw [oK_of (sh13 h1), rf13_1 h1, oNn_of, oK_of (sh13 h1), rf13_0 h1, oNn_of, oK_of (sh1 h1), oI_of, oR_of (sh14 h1), c_setLaw h1 hB.2.2.1 (f16 hB) hs, oB_of, oK_of (sh13 (w1 _)), rf13_1 (w1 _), oNn_of, oK_of (sh14 (w1 _)), rf14_1 (w1 _), oNn_of, oR_of (Fr16 hB.2.2.1).1, c_menOf (Fr16 hB.2.2.1) hs, oB_of, oA_of (sh16 (w1 _)) (by decide) (by decide), oU_of, wI_s, em2, oK_of (sh13 (w1 _)), rf13_1 (w1 _), oNn_of, oK_of (sh13 (w1 _)), rf13_0 (w1 _), oNn_of, oR_of (sh1 (w1 _)), c_lif (w1 _) (hQ' _), oB_of, oR_of (sh14 (w1 _)), show (258 : Int32) = nI (256 + 2) from rfl]
    rw [show Int32.toNatClampNeg 3 = 3 from rfl]
    refine Eq.trans (congrArg (fun z => oB z _) e1) ?_
    rw [oB_of, c_min, oB_of, c_max, oB_of]
  · unfold fX9_feedsOf
    rw [oR_of (sh45 h2), m_allMen h2 hs, oB_of, oR_of (sh45 h2), show (2 : Int32) = nI 2 from rfl, show (3 : Int64) = (3 : Int32).toInt64 from rfl, e2, oB_of, m_within hy (by decide), oB_of]
set_option maxRecDepth 100000 in
theorem J_read (hB : JB f c m) (hL : JL c m q) (hQ : JQ c q) (hs : s < 2) (hk : k < 8) : ∃ v c' m', fX7_readingOf c 13 f (nI k) (nI s) = some (v, c') ∧ fX9_readsOf m 45 (nI k) (nI s) = some (v, m') ∧ CsF c c' ∧ MF m m' ∧ rg v (-20) 20 := by
  have h1 := hB.1
  have h2 := hB.2.1
  have w1 : ∀ g, hSh (wI c 16 g) := fun _ => h1
  have er : mI c 4 (2 * k + s) = mI m 47 (35 + 2 * k + s) := by
    have := hB.2.2.2.2.2.2.2.2.1 (2 * k + s) (by omega)
    rw [this]; congr 1; omega
  obtain ⟨y, S, m', hy, e1, e2, e3⟩ := J_told hB hL (hd := 0) (by decide) hs (col := -1) (sg := nI k) (men := -1) (w := mI c 4 (2 * k + s)) (g := upd (lwF (mI c 16) (mI c (f + 1)) s (mI c 1 12)) 7 (nI k)) (Or.inr ⟨rfl, rfl, rfl, rfl⟩) rfl rfl (JB_sup hB hs) (JB_tem hB hs) rfl (JB_day hB) (JB_mood hB)
  have hQ' : ∀ g, JQ (wI c 16 g) q := fun g => JQ_fr hQ ⟨rfl, rfl, rfl, fun a h => by rw [mI_wI, if_neg h]⟩
  refine ⟨imax (-20) (imin y.toInt32 20), wL (wI c 16 (upd (lwF (mI c 16) (mI c (f + 1)) s (mI c 1 12)) 7 (nI k))) 15 S, m', ?_, ?_, CsF_w16, e3, clampR rfl rfl (by decide)⟩
  · unfold fX7_readingOf
    rw [oK_of (sh13 h1), rf13_1 h1, oNn_of, oK_of (sh13 h1), rf13_0 h1, oNn_of, oK_of (sh1 h1), oI_of, oR_of (sh14 h1), c_setLaw h1 hB.2.2.1 (f16 hB) hs, oB_of, oK_of (sh13 (w1 _)), rf13_1 (w1 _), oNn_of, oK_of (sh14 (w1 _)), rf14_1 (w1 _), oNn_of, oA_of (sh16 (w1 _)) (by decide) (by decide), oU_of, wI_s, oK_of (sh13 (w1 _)), rf13_1 (w1 _), oNn_of, oK_of (sh13 (w1 _)), rf13_0 (w1 _), oNn_of, oR_of (sh1 (w1 _)), c_lif (w1 _) (hQ' _), oB_of, oK_of (sh13 (w1 _)), rf13_0 (w1 _), oNn_of, oK_of (sh1 (w1 _)), rf1_1 (w1 _), oNn_of]
    unfold fX8_pair
    rw [oB_of, ixq, oA_k (sh4 (w1 _)) (by omega) (by decide), oI_of, clm (by omega), oR_of (sh14 (w1 _)), show (256 : Int32) = nI (256 + 0) from rfl]
    refine Eq.trans (congrArg (fun z => oB z _) e1) ?_
    rw [oB_of, c_min, oB_of, c_max, oB_of]
  · unfold fX9_readsOf
    have e35 : (35 : Int32) + 2 * nI k + nI s = nI (35 + 2 * k + s) := by rw [show (35 : Int32) = nI 35 from rfl]; exact ixp
    rw [oK_of (sh45 h2), rf45_3 h2, oNn_of, e35, oA_k (sh47 h2) (by omega) (by decide), oI_of, clm (by omega), oR_of (sh45 h2), ← er, show (0 : Int32) = nI 0 from rfl, e2, oB_of, m_within hy (by decide), oB_of]
end
