/-! ===== what a law tells: the reference ===== -/
def EF (m : Mm) (x : Int32) (S T : Nat → Int64) : Mm := wL (wL (wI m 45 (upd (mI m 45) 38 x)) 65 S) 45 T
set_option maxRecDepth 100000 in
theorem EF_EF (m : Mm) (x x' : Int32) (S S' T T' : Nat → Int64) : EF (EF m x S T) x' S' T' = EF m x' S' T' := by
  refine Prod.ext rfl (Prod.ext rfl (Prod.ext ?_ (Prod.ext ?_ rfl)))
  · funext b
    show (if b = 45 then upd (upd (mI m 45) 38 x) 38 x' else if b = 45 then upd (mI m 45) 38 x else mI m b) = if b = 45 then upd (mI m 45) 38 x' else mI m b
    by_cases c : b = 45
    · rw [if_pos c, if_pos c, upd_s]
    · rw [if_neg c, if_neg c, if_neg c]
  · funext b
    show (if b = 45 then T' else if b = 65 then S' else if b = 45 then T else if b = 65 then S else mL m b) = if b = 45 then T' else if b = 65 then S' else mL m b
    by_cases c : b = 45
    · rw [if_pos c, if_pos c]
    · by_cases d : b = 65
      · rw [if_neg c, if_pos d, if_neg c, if_pos d]
      · rw [if_neg c, if_neg d, if_neg c, if_neg d, if_neg c, if_neg d]
set_option maxRecDepth 100000 in
theorem EF_sh {m : Mm} (h : hSh m) (x : Int32) (S T : Nat → Int64) : hSh (EF m x S T) := h
def SegR (q : Bool) (op ar : Nat → Int32) (f : (Nat → Int32) → Int64) (a b : Nat) : Prop := a < b ∧ b ≤ 400 ∧ ∃ p, p ≤ 400 ∧ ∀ W, RSeg op ar (lvM q) (LM q W) a b p (f W)
def RLaw (r : Nat → Int32) (A : LawA) : Prop := r 1 = nI (aC A) ∧ aC A ≤ 12 ∧ ∀ j, j < aC A → r (2 + 8 * j) = nI (aH A j) ∧ aH A j < 4 ∧ (aT A j = true → ∃ a b, r (2 + 8 * j + 5) = nI a ∧ r (2 + 8 * j + 6) = nI b ∧ SegR false (fun k => r (98 + 2 * k)) (fun k => r (99 + 2 * k)) (aV A j) a b) ∧ (aT A j = false → ∃ x, x ≤ 400 ∧ r (2 + 8 * j + 5) = nI x ∧ r (2 + 8 * j + 6) = nI x) ∧ (aH A j ≠ 3 → ∃ a b, r (2 + 8 * j + 3) = nI a ∧ r (2 + 8 * j + 4) = nI b ∧ SegR false (fun k => r (98 + 2 * k)) (fun k => r (99 + 2 * k)) (aS A j) a b)
/-- the reference is ready to ask law i -/
def RdL (m : Mm) (i : Nat) (A : LawA) (W : Nat → Int32) : Prop := hSh m ∧ mI m 45 20 = 0 ∧ mI m 45 34 = nI (130 + 900 * i) ∧ i < 6 ∧ RLaw (fun x => mI m 47 (130 + 900 * i + x)) A ∧ (∀ j, j < 10 → mL m 63 (j + 1) = (W j).toInt64) ∧ AOK A
set_option maxRecDepth 100000 in
theorem RdL_EF {m : Mm} {i : Nat} {A : LawA} {W : Nat → Int32} (h : RdL m i A W) (x : Int32) (S T : Nat → Int64) : RdL (EF m x S T) i A W := h
set_option maxRecDepth 100000 in
theorem m_reck {m : Mm} {i : Nat} {A : LawA} {W : Nat → Int32} (h : RdL m i A W) {f : (Nat → Int32) → Int64} {a b : Nat} (hR : SegR false (fun k => mI m 47 (130 + 900 * i + (98 + 2 * k))) (fun k => mI m 47 (130 + 900 * i + (99 + 2 * k))) f a b) : ∃ S y, fX9_reckonAll m 45 (nI a) (nI b) = some ((), EF m (if f W = BR then 1 else 0) S (vp_updL (mL m 45) 39 y)) ∧ (f W ≠ BR → y = f W) := by
  obtain ⟨h1, h2, h3, h4, h5, h6, h7⟩ := h
  obtain ⟨r1, r2, p, r3, r4⟩ := hR
  have hS1 : hSh (wI m 45 (upd (mI m 45) 38 0)) := h1
  have hF := FE_law (m := wI m 45 (upd (mI m 45) 38 0)) hS1 h2 rfl (b := 130 + 900 * i) h3 (lo := a) (hi := b) (last := b) (by omega) (Nat.le_refl b) r2
  have hF' : FE (wI m 45 (upd (mI m 45) 38 0)) (fun k => mI m 47 (130 + 900 * i + (98 + 2 * k))) (fun k => mI m 47 (130 + 900 * i + (99 + 2 * k))) a b b := FE_eq hF (fun k _ _ => ⟨by show mI m 47 _ = mI m 47 _; congr 1; omega, by show mI m 47 _ = mI m 47 _; congr 1; omega⟩)
  have hL := LE_law (m := wI m 45 (upd (mI m 45) 38 0)) hS1 h2 h6
  obtain ⟨v1, v2⟩ := RSeg_value (r4 W) r3 r2 h1 hF' hL
  by_cases z : f W = BR
  · obtain ⟨S, y, e⟩ := v2 z
    refine ⟨S, y, ?_, fun q => absurd z q⟩
    rw [if_pos z]
    exact e
  · obtain ⟨S, e⟩ := v1 z
    refine ⟨S, f W, ?_, fun _ => rfl⟩
    rw [if_neg z]
    exact e
abbrev lOk (A : LawA) (W : Nat → Int32) (j : Nat) : Prop := (aT A j = false ∨ aV A j W = 1) ∧ (aH A j = 3 ∨ aS A j W ≠ BR)
set_option maxRecDepth 100000 in
theorem m_so59 {m : Mm} {i : Nat} {A : LawA} {W : Nat → Int32} (h : RdL m i A W) {j : Nat} (hj : j < aC A) : ∃ x S T, bX9_isSo_59 m 45 (nI (130 + 900 * i + (2 + 8 * j))) = some (if aH A j = 3 ∨ aS A j W ≠ BR then 1 else 0, EF m x S T) ∧ (∀ k, k ≠ 39 → k ≠ 40 → T k = mL m 45 k) ∧ (aH A j ≠ 3 → aS A j W ≠ BR → T 40 = aS A j W) := by
  have h0 := h
  obtain ⟨h1, h2, h3, h4, ⟨w1, w2, w3⟩, h6, h7⟩ := h
  obtain ⟨g1, g2, g3, g4, g5⟩ := w3 j hj
  unfold bX9_isSo_59 bX9_isSo_109
  rw [oK_of (sh45 h1), rf45_3 h1, oNn_of, oA_k (sh47 h1) (by omega) (by decide), oI_of, clm (by omega)]
  rw [show mI m 47 (130 + 900 * i + (2 + 8 * j)) = nI (aH A j) from g1]
  by_cases z : aH A j = 3
  · rw [if_pos (by rw [z]; rfl), if_pos (Or.inl z), oZ1]
    refine ⟨mI m 45 38, mL m 65, mL m 45, ?_, fun _ _ _ => rfl, fun q => absurd z q⟩
    unfold EF
    rw [upd_id rfl, wI_id, wL_id, wL_id]
  · obtain ⟨a, b, a1, a2, a3⟩ := g5 z
    obtain ⟨S, y, e1, e2⟩ := m_reck h0 a3
    rw [if_neg (show ¬ nI (aH A j) = 3 from nIne (b := 3) z (by omega) (by decide)), oK_of (sh45 h1), oNn_of, show (3 : Int32) = nI 3 from rfl, show (4 : Int32) = nI 4 from rfl, nI_add, nI_add, oA_k (sh47 h1) (by omega) (by decide), oI_of, clm (by omega), oK_of (sh45 h1), oNn_of, oA_k (sh47 h1) (by omega) (by decide), oI_of, clm (by omega), show mI m 47 (130 + 900 * i + (2 + 8 * j) + 3) = nI a from a1, show mI m 47 (130 + 900 * i + (2 + 8 * j) + 4) = nI b from a2, oR_of (sh45 h1), e1, oB_of]
    have h8 : ∀ x S T, hSh (EF m x S T) := fun _ _ _ => h1
    have h9 : ∀ x S T f, hSh (wL (EF m x S T) 45 f) := fun _ _ _ _ => h1
    rw [oK_of (sh45 (h8 _ _ _)), oJ_of, oK_of (sh45 (h8 _ _ _)), oU_of, oK_of (sh45 (h9 _ _ _ _)), oI_of]
    have eM : ∀ x, wL (EF m x S (vp_updL (mL m 45) 39 y)) 45 (vp_updL (mL (EF m x S (vp_updL (mL m 45) 39 y)) 45) 40 (mL (EF m x S (vp_updL (mL m 45) 39 y)) 45 39)) = EF m x S (vp_updL (vp_updL (mL m 45) 39 y) 40 y) := by
      intro x
      unfold EF
      rw [wL_s]
      rfl
    rw [eM]
    refine ⟨if aS A j W = BR then 1 else 0, S, vp_updL (vp_updL (mL m 45) 39 y) 40 y, ?_, fun k k1 k2 => by rw [pk_uLn k2, pk_uLn k1], fun _ q => by rw [pk_uLs]; exact e2 q⟩
    · show (if (if aS A j W = BR then (1 : Int32) else 0) = 0 then _ else _) = _
      by_cases q : aS A j W = BR
      · rw [if_pos q, if_neg (by decide), if_neg (fun y => y.elim z (fun y => y q)), oZ0]
      · rw [if_neg q, if_pos rfl, if_pos (Or.inr q), oZ1]
set_option maxRecDepth 100000 in
theorem m_isSo {m : Mm} {i : Nat} {A : LawA} {W : Nat → Int32} (h : RdL m i A W) {j : Nat} (hj : j < aC A) : ∃ x S T, fX9_isSo m 45 (nI (130 + 900 * i + (2 + 8 * j))) = some (if lOk A W j then 1 else 0, EF m x S T) ∧ (∀ k, k ≠ 39 → k ≠ 40 → T k = mL m 45 k) ∧ (lOk A W j → aH A j ≠ 3 → T 40 = aS A j W) := by
  have h0 := h
  obtain ⟨h1, h2, h3, h4, ⟨w1, w2, w3⟩, h6, h7⟩ := h
  obtain ⟨g1, g2, g3, g4, g5⟩ := w3 j hj
  unfold fX9_isSo
  rw [oK_of (sh45 h1), rf45_3 h1, oNn_of, show (5 : Int32) = nI 5 from rfl, show (6 : Int32) = nI 6 from rfl, nI_add, nI_add, oA_k (sh47 h1) (by omega) (by decide), oI_of, clm (by omega), oK_of (sh45 h1), oNn_of, oA_k (sh47 h1) (by omega) (by decide), oI_of, clm (by omega)]
  rcases (by cases aT A j <;> simp : aT A j = false ∨ aT A j = true) with hT | hT
  · obtain ⟨x, x1, x2, x3⟩ := g4 hT
    obtain ⟨x', S, T, e1, e2, e3⟩ := m_so59 h0 hj
    rw [show mI m 47 (130 + 900 * i + (2 + 8 * j) + 5) = nI x from x2, show mI m 47 (130 + 900 * i + (2 + 8 * j) + 6) = nI x from x3, if_pos (Int32.le_refl _), e1]
    refine ⟨x', S, T, ?_, e2, fun q z => e3 z (q.2.resolve_left z)⟩
    congr 2
    by_cases q : aH A j = 3 ∨ aS A j W ≠ BR
    · rw [if_pos q, if_pos ⟨Or.inl hT, q⟩]
    · rw [if_neg q, if_neg (fun y => q y.2)]
  · obtain ⟨a, b, a1, a2, a3⟩ := g3 hT
    obtain ⟨S, y, e1, e2⟩ := m_reck h0 a3
    have hab := a3.1
    have hb4 := a3.2.1
    rw [show mI m 47 (130 + 900 * i + (2 + 8 * j) + 5) = nI a from a1, show mI m 47 (130 + 900 * i + (2 + 8 * j) + 6) = nI b from a2, if_neg (nI_ge hab (by omega)), oK_of (sh45 h1), oNn_of, oA_k (sh47 h1) (by omega) (by decide), oI_of, show mI m 47 (130 + 900 * i + (2 + 8 * j) + 5) = nI a from a1, oK_of (sh45 h1), oNn_of, oA_k (sh47 h1) (by omega) (by decide), oI_of, show mI m 47 (130 + 900 * i + (2 + 8 * j) + 6) = nI b from a2, oR_of (sh45 h1), e1, oB_of]
    have h8 : ∀ x S T, hSh (EF m x S T) := fun _ _ _ => h1
    rw [oK_of (sh45 (h8 _ _ _)), oI_of]
    show ∃ x S' T, (if (if aV A j W = BR then (1 : Int32) else 0) = 0 then _ else _) = _ ∧ _
    by_cases q : aV A j W = BR
    · rw [if_pos q, if_neg (by decide), oZ0]
      have no : ¬ lOk A W j := fun z => z.1.elim (fun z => by rw [hT] at z; cases z) (fun z => by rw [q] at z; exact absurd z (by decide))
      refine ⟨_, S, _, by rw [if_neg no], fun k k1 k2 => by rw [pk_uLn k1], fun z => absurd z no⟩
    · rw [if_neg q, if_pos rfl, oK_of (sh45 (h8 _ _ _)), oJ_of]
      have ey := e2 q
      show ∃ x S' T, (if lg_cmp y 0 = 0 then _ else _) = _ ∧ _
      by_cases q0 : aV A j W = 0
      · rw [ey, if_pos ((lg_eq _ _).mpr q0), oZ0]
        have no : ¬ lOk A W j := fun z => z.1.elim (fun z => by rw [hT] at z; cases z) (fun z => by rw [q0] at z; exact absurd z (by decide))
        refine ⟨_, S, _, by rw [if_neg no], fun k k1 k2 => by rw [pk_uLn k1], fun z => absurd z no⟩
      · rw [ey, if_neg (fun z => q0 ((lg_eq _ _).mp z))]
        have q1 : aV A j W = 1 := ((h7 j hj W).1.resolve_left q0).resolve_right q
        obtain ⟨x', S', T, e3, e4, e5⟩ := m_so59 (RdL_EF h0 0 S (vp_updL (mL m 45) 39 (aV A j W))) hj
        rw [e3, EF_EF]
        refine ⟨x', S', T, ?_, fun k k1 k2 => by rw [e4 k k1 k2]; exact pk_uLn k1, fun q z => e5 z (q.2.resolve_left z)⟩
        congr 2
        by_cases q : aH A j = 3 ∨ aS A j W ≠ BR
        · rw [if_pos q, if_pos ⟨Or.inr q1, q⟩]
        · rw [if_neg q, if_neg (fun y => q y.2)]
set_option maxRecDepth 100000 in
theorem m_tellgo {m : Mm} {i : Nat} {A : LawA} {W : Nat → Int32} (h : RdL m i A W) {hd : Nat} (hh : hd < 4) {w : Int64} {N : Nat} : ∀ (r j : Nat) (x : Int32) (S T : Nat → Int64), j + r = aC A → (∀ k, k ≠ 39 → k ≠ 40 → T k = mL m 45 k) → ∃ x' S' T', rX9_tells_189 (N + r + 1) (EF m x S T) 45 (nI hd) (tld A hd W w j) (nI j) = some (tld A hd W w (aC A), EF m x' S' T') ∧ ∀ k, k ≠ 39 → k ≠ 40 → T' k = mL m 45 k := by
  obtain ⟨h1, h2, h3, h4, ⟨w1, w2, w3⟩, h6, h7⟩ := id h
  intro r
  induction r with
  | zero =>
    intro j x S T hj hT
    have h8 : hSh (EF m x S T) := h1
    have e34 : mI (EF m x S T) 45 34 = nI (130 + 900 * i) := h3
    refine ⟨x, S, T, ?_, hT⟩
    show bX9_tells_189 _ _ 45 _ _ _ = _
    unfold bX9_tells_189
    rw [oK_of (sh45 h8), rf45_3 h8, oNn_of, oK_of (sh45 h8), oI_of, e34, nI_1, oA_k (sh47 h8) (by omega) (by decide), oI_of, clm (by omega), show mI (EF m x S T) 47 (130 + 900 * i + 1) = nI (aC A) from w1, if_pos (nI_le (by omega) (by omega)), show j = aC A by omega]
  | succ r ih =>
    intro j x S T hj hT
    have h8 : hSh (EF m x S T) := h1
    have e34 : mI (EF m x S T) 45 34 = nI (130 + 900 * i) := h3
    obtain ⟨g1, g2, g3, g4, g5⟩ := w3 j (by omega)
    have e8 : nI (130 + 900 * i) + 2 + 8 * nI j = nI (130 + 900 * i + (2 + 8 * j)) := by rw [show (2 : Int32) = nI 2 from rfl, show (8 : Int32) = nI 8 from rfl, nI_mul, nI_add, nI_add, Nat.add_assoc]
    show ∃ x' S' T', bX9_tells_189 (rX9_tells_189 (N + r + 1)) _ 45 _ _ _ = _ ∧ _
    unfold bX9_tells_189 bX9_tells_254 bX9_tells_252 bX9_tells_254
    rw [oK_of (sh45 h8), rf45_3 h8, oNn_of, oK_of (sh45 h8), oI_of, e34, nI_1, oA_k (sh47 h8) (by omega) (by decide), oI_of, clm (by omega), show mI (EF m x S T) 47 (130 + 900 * i + 1) = nI (aC A) from w1, if_neg (nI_ge (by omega) (by omega)), oK_of (sh45 h8), oI_of, oI_of, oK_of (sh45 h8), oNn_of, e8, oA_k (sh47 h8) (by omega) (by decide), oI_of, clm (by omega), show mI (EF m x S T) 47 (130 + 900 * i + (2 + 8 * j)) = nI (aH A j) from g1, nI_1]
    by_cases ha : aH A j = hd
    · obtain ⟨x1, S1, T1, e1, e2, e3⟩ := m_isSo (RdL_EF h x S T) (j := j) (by omega)
      rw [if_pos (by rw [ha]), oR_of (sh45 h8), e1, oB_of, EF_EF]
      have h9 : hSh (EF m x1 S1 T1) := h1
      have hT1 : ∀ k, k ≠ 39 → k ≠ 40 → T1 k = mL m 45 k := fun k k1 k2 => (e2 k k1 k2).trans (hT k k1 k2)
      by_cases z : lOk A W j
      · rw [if_pos z, if_neg (by decide)]
        have ht : tld A hd W w (j + 1) = if hd = 3 then 1 else aS A j W := by
          rw [tld, if_pos ⟨ha, z.1, by rw [← ha]; exact z.2⟩]
        by_cases z3 : hd = 3
        · rw [if_pos (by rw [z3]; rfl)]
          rw [if_pos z3] at ht
          rw [← ht]
          exact ih (j + 1) x1 S1 T1 (by omega) hT1
        · rw [if_neg (show ¬ nI hd = 3 from nIne (b := 3) z3 (by omega) (by decide)), oK_of (sh45 h9), oJ_of, show mL (EF m x1 S1 T1) 45 40 = aS A j W from e3 z (by rw [ha]; exact z3)]
          rw [if_neg z3] at ht
          rw [← ht]
          exact ih (j + 1) x1 S1 T1 (by omega) hT1
      · rw [if_neg z, if_pos rfl]
        have ht : tld A hd W w (j + 1) = tld A hd W w j := by
          rw [tld, if_neg (fun q => z ⟨q.2.1, by rw [ha]; exact q.2.2⟩)]
        rw [← ht]
        exact ih (j + 1) x1 S1 T1 (by omega) hT1
    · rw [if_neg (nIne ha (by omega) (by omega))]
      have ht : tld A hd W w (j + 1) = tld A hd W w j := by rw [tld, if_neg (fun q => ha q.1)]
      rw [← ht]
      exact ih (j + 1) x S T (by omega) hT
/-- what asking a law changes of the reference -/
def MF (m m' : Mm) : Prop := mQ m' = mQ m ∧ mK m' = mK m ∧ mR m' = mR m ∧ (∀ a, a ≠ 45 → mI m' a = mI m a) ∧ (∀ k, k ≠ 34 → k ≠ 38 → mI m' 45 k = mI m 45 k) ∧ (∀ a, a ≠ 45 → a ≠ 63 → a ≠ 65 → mL m' a = mL m a) ∧ ∀ k, k ≠ 39 → k ≠ 40 → mL m' 45 k = mL m 45 k
set_option maxRecDepth 100000 in
theorem MF_rfl {m : Mm} : MF m m := ⟨rfl, rfl, rfl, fun _ _ => rfl, fun _ _ _ => rfl, fun _ _ _ _ => rfl, fun _ _ _ => rfl⟩
set_option maxRecDepth 100000 in
theorem MF_trans {m n o : Mm} (h : MF m n) (k : MF n o) : MF m o := ⟨k.1.trans h.1, k.2.1.trans h.2.1, k.2.2.1.trans h.2.2.1, fun a h1 => (k.2.2.2.1 a h1).trans (h.2.2.2.1 a h1), fun a h1 h2 => (k.2.2.2.2.1 a h1 h2).trans (h.2.2.2.2.1 a h1 h2), fun a h1 h2 h3 => (k.2.2.2.2.2.1 a h1 h2 h3).trans (h.2.2.2.2.2.1 a h1 h2 h3), fun a h1 h2 => (k.2.2.2.2.2.2 a h1 h2).trans (h.2.2.2.2.2.2 a h1 h2)⟩
set_option maxRecDepth 100000 in
theorem MF_hSh {m m' : Mm} (k : MF m m') (h : hSh m) : hSh m' := by
  unfold hSh at h ⊢
  rw [k.1, k.2.1, k.2.2.1]
  exact h
/-- the words of a side, a column (8: none), a sign -/
def wdC (row : Nat → Int32) (s k : Nat) : Nat → Int32 := fun j => if j = 0 then nI s else if j = 1 then nI k else if j = 2 then row (7 + k) else if j = 3 then row (15 + 8 * s + k) else if j = 4 then row (15 + 8 * (1 - s) + k) else if j = 5 then row (31 + s) else if j = 6 then row (33 + s) else if j = 7 then -1 else if j = 8 then row 4 else row 6
def wdS (row : Nat → Int32) (s : Nat) (men sg : Int32) : Nat → Int32 := fun j => if j = 0 then nI s else if j = 1 then -1 else if j = 2 then -1 else if j = 3 then men else if j = 4 then -1 else if j = 5 then row (31 + s) else if j = 6 then row (33 + s) else if j = 7 then sg else if j = 8 then row 4 else row 6
set_option maxRecDepth 100000 in
theorem m_tells {m : Mm} (hS : hSh m) (h20 : mI m 45 20 = 0) {i : Nat} {A : LawA} (hi : i < 6) (hf : mI m 47 3 = nI i) (hR : RLaw (fun x => mI m 47 (130 + 900 * i + x)) A) (hA : AOK A) {hd : Nat} (hh : hd < 4) {s : Nat} (hs : s < 2) {col sg men : Int32} {w : Int64} {W : Nat → Int32}
    (hc : (∃ k, k < 8 ∧ col = nI k ∧ W 1 = nI k ∧ W 2 = mI m 47 (7 + k) ∧ W 4 = mI m 47 (15 + 8 * (1 - s) + k)) ∨ (col = -1 ∧ W 1 = -1 ∧ W 2 = -1 ∧ W 4 = -1)) (h0 : W 0 = nI s) (h3 : W 3 = men) (h5 : W 5 = mI m 47 (31 + s)) (h6 : W 6 = mI m 47 (33 + s)) (h7 : W 7 = sg) (h8 : W 8 = mI m 47 4) (h9 : W 9 = mI m 47 6) : ∃ m', fX9_tells m 45 (nI hd) (nI s) col sg men w = some (tld A hd W w (aC A), m') ∧ MF m m' := by
  have fi : ¬ nI i = -1 := (by decide +kernel : ∀ i, i < 6 → ¬ nI i = -1) i hi
  have e9 : (130 : Int32) + 900 * nI i = nI (130 + 900 * i) := by rw [show (130 : Int32) = nI 130 from rfl, show (900 : Int32) = nI 900 from rfl, nI_mul, nI_add]
  have go : ∃ f : Nat → Int64, fX9_tells m 45 (nI hd) (nI s) col sg men w = rX9_tells_189 hwF (wL (wI m 45 (upd (mI m 45) 34 (nI (130 + 900 * i)))) 63 f) 45 (nI hd) w 0 ∧ ∀ j, j < 10 → f (j + 1) = (W j).toInt64 := by
    have q0 : ∀ g, hSh (wI m 45 g) := fun _ => hS
    have q1 : ∀ g f, hSh (wL (wI m 45 g) 63 f) := fun _ _ => hS
    have last : ∀ (g : Nat → Int32) (f : Nat → Int64) (v5 : Int64), bX9_tells_108 (wL (wI m 45 g) 63 f) 45 (nI hd) (nI s) sg w v5 5 63 = rX9_tells_189 hwF (wL (wI m 45 g) 63 (vp_updL (vp_updL (vp_updL (vp_updL (vp_updL (vp_updL f 5 v5) 6 (mI m 47 (31 + s)).toInt64) 7 (mI m 47 (33 + s)).toInt64) 8 sg.toInt64) 9 (mI m 47 4).toInt64) 10 (mI m 47 6).toInt64)) 45 (nI hd) w 0 := by
      intro g f v5
      have e31 : (31 : Int32) + nI s = nI (31 + s) := nI_add 31 s
      have e33 : (33 : Int32) + nI s = nI (33 + s) := nI_add 33 s
      unfold bX9_tells_108
      rw [oA_of (sh63 (q1 _ _)) (by decide) (by decide), oU_of, wL_s, oK_of (sh45 (q1 _ _)), rf45_35 (q1 _ _), oNn_of, oK_of (sh45 (q1 _ _)), rf45_3 (q1 _ _), oNn_of, e31, oA_k (sh47 (q1 _ _)) (by omega) (by decide), oI_of, clm (by omega), oA_of (sh63 (q1 _ _)) (by decide) (by decide), oU_of, wL_s, oK_of (sh45 (q1 _ _)), rf45_35 (q1 _ _), oNn_of, oK_of (sh45 (q1 _ _)), rf45_3 (q1 _ _), oNn_of, e33, oA_k (sh47 (q1 _ _)) (by omega) (by decide), oI_of, clm (by omega), oA_of (sh63 (q1 _ _)) (by decide) (by decide), oU_of, wL_s, oK_of (sh45 (q1 _ _)), rf45_35 (q1 _ _), oNn_of, oA_of (sh63 (q1 _ _)) (by decide) (by decide), oU_of, wL_s, oK_of (sh45 (q1 _ _)), rf45_35 (q1 _ _), oNn_of, oK_of (sh45 (q1 _ _)), rf45_3 (q1 _ _), oNn_of, oA_of (sh47 (q1 _ _)) (by decide) (by decide), oI_of, oA_of (sh63 (q1 _ _)) (by decide) (by decide), oU_of, wL_s, oK_of (sh45 (q1 _ _)), rf45_35 (q1 _ _), oNn_of, oK_of (sh45 (q1 _ _)), rf45_3 (q1 _ _), oNn_of, oA_of (sh47 (q1 _ _)) (by decide) (by decide), oI_of, oA_of (sh63 (q1 _ _)) (by decide) (by decide), oU_of, wL_s]
      rfl
    have mid : ∀ (g : Nat → Int32) (f : Nat → Int64) (v3 v5 : Int64), (col = -1 ∧ v5 = -1 ∨ ∃ k, k < 8 ∧ col = nI k ∧ v5 = (mI m 47 (15 + 8 * (1 - s) + k)).toInt64) → bX9_tells_73 (wL (wI m 45 g) 63 f) 45 (nI hd) (nI s) col sg men w v3 3 63 = bX9_tells_108 (wL (wI m 45 g) 63 (vp_updL (vp_updL f 3 v3) 4 men.toInt64)) 45 (nI hd) (nI s) sg w v5 5 63 := by
      intro g f v3 v5 hv
      unfold bX9_tells_73
      rw [oA_of (sh63 (q1 _ _)) (by decide) (by decide), oU_of, wL_s, oK_of (sh45 (q1 _ _)), rf45_35 (q1 _ _), oNn_of, oA_of (sh63 (q1 _ _)) (by decide) (by decide), oU_of, wL_s, oK_of (sh45 (q1 _ _)), rf45_35 (q1 _ _), oNn_of]
      rcases hv with ⟨v1, v2⟩ | ⟨k, k1, k2, k3⟩
      · rw [if_pos v1, v2]; rfl
      · have nk : ¬ nI k = -1 := (by decide +kernel : ∀ k, k < 8 → ¬ nI k = -1) k k1
        rw [k2, if_neg nk, oR_of (sh45 (q1 _ _)), i1s hs, m_menOf (q1 _ _) (by omega) k1, oB_of, k3]
        rfl
    unfold fX9_tells
    rw [oK_of (sh45 hS), rf45_3 hS, oNn_of, oA_of (sh47 hS) (by decide) (by decide), oI_of, show mI m 47 (Int32.toNatClampNeg 3) = nI i from hf, if_neg fi, oK_of (sh45 hS), oNn_of, oA_of (sh47 hS) (by decide) (by decide), oI_of, show mI m 47 (Int32.toNatClampNeg 3) = nI i from hf, oK_of (sh45 hS), oU_of, e9, oK_of (sh45 (q0 _)), rf45_35 (q0 _), oNn_of, oA_of (sh63 (q0 _)) (by decide) (by decide), oU_of, oK_of (sh45 (q1 _ _)), rf45_35 (q1 _ _), oNn_of, oA_of (sh63 (q1 _ _)) (by decide) (by decide), oU_of, wL_s, oK_of (sh45 (q1 _ _)), rf45_35 (q1 _ _), oNn_of]
    rcases hc with ⟨k, k1, k2, k3, k4, k5⟩ | ⟨k2, k3, k4, k5⟩
    · have nk : ¬ nI k = -1 := (by decide +kernel : ∀ k, k < 8 → ¬ nI k = -1) k k1
      have e7 : (7 : Int32) + nI k = nI (7 + k) := nI_add 7 k
      rw [if_neg (by rw [k2]; exact nk), oK_of (sh45 (q1 _ _)), rf45_3 (q1 _ _), oNn_of, k2, e7, oA_k (sh47 (q1 _ _)) (by omega) (by decide), oI_of, clm (by omega), ← k2, mid _ _ _ _ (Or.inr ⟨k, k1, k2, rfl⟩), last]
      refine ⟨_, rfl, fun j hj => ?_⟩
      rcases (by omega : j = 0 ∨ j = 1 ∨ j = 2 ∨ j = 3 ∨ j = 4 ∨ j = 5 ∨ j = 6 ∨ j = 7 ∨ j = 8 ∨ j = 9) with q | q | q | q | q | q | q | q | q | q <;> subst q
      · rw [h0]; rfl
      · rw [k3]; rw [k2]; rfl
      · rw [k4]; rfl
      · rw [h3]; rfl
      · rw [k5]; rfl
      · rw [h5]; rfl
      · rw [h6]; rfl
      · rw [h7]; rfl
      · rw [h8]; rfl
      · rw [h9]; rfl
    · rw [if_pos k2, mid _ _ _ _ (Or.inl ⟨k2, rfl⟩), last]
      refine ⟨_, rfl, fun j hj => ?_⟩
      rcases (by omega : j = 0 ∨ j = 1 ∨ j = 2 ∨ j = 3 ∨ j = 4 ∨ j = 5 ∨ j = 6 ∨ j = 7 ∨ j = 8 ∨ j = 9) with q | q | q | q | q | q | q | q | q | q <;> subst q
      · rw [h0]; rfl
      · rw [k3]; rw [k2]; rfl
      · rw [k4]; rfl
      · rw [h3]; rfl
      · rw [k5]; rfl
      · rw [h5]; rfl
      · rw [h6]; rfl
      · rw [h7]; rfl
      · rw [h8]; rfl
      · rw [h9]; rfl
  obtain ⟨f, e1, e2⟩ := go
  have rd : RdL (wL (wI m 45 (upd (mI m 45) 34 (nI (130 + 900 * i)))) 63 f) i A W := ⟨hS, h20, rfl, hi, hR, e2, hA⟩
  have hcA : aC A ≤ 12 := hR.2.1
  obtain ⟨x', S', T', e3, e4⟩ := m_tellgo rd hh (w := w) (N := 999999 - aC A) (aC A) 0 (mI m 45 38) (mL m 65) (mL m 45) (by omega) (fun _ _ _ => rfl)
  have eE : EF (wL (wI m 45 (upd (mI m 45) 34 (nI (130 + 900 * i)))) 63 f) (mI m 45 38) (mL m 65) (mL m 45) = wL (wI m 45 (upd (mI m 45) 34 (nI (130 + 900 * i)))) 63 f := by
    unfold EF
    rw [upd_id (show mI (wL (wI m 45 (upd (mI m 45) 34 (nI (130 + 900 * i)))) 63 f) 45 38 = mI m 45 38 from rfl), wI_id, show mL m 65 = mL (wL (wI m 45 (upd (mI m 45) 34 (nI (130 + 900 * i)))) 63 f) 65 from rfl, wL_id, show mL m 45 = mL (wL (wI m 45 (upd (mI m 45) 34 (nI (130 + 900 * i)))) 63 f) 45 from rfl, wL_id]
  rw [eE, show 999999 - aC A + aC A + 1 = hwF by unfold hwF; omega] at e3
  refine ⟨_, e1.trans e3, rfl, rfl, rfl, fun a ha => ?_, fun k k1 k2 => ?_, fun a a1 a2 a3 => ?_, fun k k1 k2 => e4 k k1 k2⟩
  · show (if a = 45 then _ else if a = 45 then _ else mI m a) = _
    rw [if_neg ha, if_neg ha]
  · show upd (upd (mI m 45) 34 (nI (130 + 900 * i))) 38 x' k = _
    rw [pk_un k2, pk_un k1]
  · show (if a = 45 then _ else if a = 65 then _ else if a = 63 then _ else mL m a) = _
    rw [if_neg a1, if_neg a3, if_neg a2]
