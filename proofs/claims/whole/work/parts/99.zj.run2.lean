/-! ===== the run: the values of an order, by both ===== -/
def VF (u u' : Mm) : Prop := mQ u' = mQ u ∧ mK u' = mK u ∧ mR u' = mR u ∧ (∀ a, a ≠ 43 → mI u' a = mI u a) ∧ ∀ a, a ≠ 15 → mL u' a = mL u a
set_option maxRecDepth 100000 in
theorem VF_rfl {m : Mm} : VF m m := ⟨rfl, rfl, rfl, fun _ _ => rfl, fun _ _ => rfl⟩
set_option maxRecDepth 100000 in
theorem VF_trans {m n o : Mm} (h : VF m n) (k : VF n o) : VF m o := ⟨k.1.trans h.1, k.2.1.trans h.2.1, k.2.2.1.trans h.2.2.1, fun a h1 => (k.2.2.2.1 a h1).trans (h.2.2.2.1 a h1), fun a h1 => (k.2.2.2.2 a h1).trans (h.2.2.2.2 a h1)⟩
set_option maxRecDepth 100000 in
theorem VF_sh {m m' : Mm} (k : VF m m') (h : hSh m) : hSh m' := hSh_q h k.1 k.2.1 k.2.2.1
/-- an order as the class keeps it -/
def OV (c : Mm) (r h x : Nat) (tt : Bool) (fV : (Nat → Int32) → Int64) (fS : Nat → (Nat → Int32) → Int64) : Prop := mI c 26 r = nI (260 + h) ∧ mI c 27 r = nI x ∧ (tt = true → ∃ a, a ≤ 401 ∧ mI c 28 (4 * r + 3) = nI a ∧ SegV c 23 fV a) ∧ (tt = false → mI c 28 (4 * r + 3) = -1) ∧ (∀ j, j < nS_ h → ∃ a, a ≤ 401 ∧ mI c 28 (4 * r + j) = nI a ∧ SegV c 23 (fS j) a) ∧ ∀ j, nS_ h ≤ j → j < 3 → mI c 28 (4 * r + j) = -1
set_option maxRecDepth 100000 in
theorem TS23 {c : Mm} (hS : hSh c) : TS c 23 := ⟨sh23 hS, rf23_0 hS, rf23_1 hS, rf23_3 hS, rf23_4 hS, rf23_5 hS⟩
set_option maxRecDepth 100000 in
theorem OV_at {c c' : Mm} {r h x : Nat} {tt : Bool} {fV : (Nat → Int32) → Int64} {fS : Nat → (Nat → Int32) → Int64} (hS : hSh c) (H : OV c r h x tt fV fS) (e : ∀ a, 23 ≤ a → a ≤ 28 → mK c' a = mK c a ∧ mR c' a = mR c a ∧ mI c' a = mI c a) : OV c' r h x tt fV fS := by
  obtain ⟨h1, h2, h3, h4, h5, h6⟩ := H
  unfold OV
  rw [(e 26 (by decide) (by decide)).2.2, (e 27 (by decide) (by decide)).2.2, (e 28 (by decide) (by decide)).2.2]
  refine ⟨h1, h2, fun q => ?_, h4, fun j hj => ?_, h6⟩
  · obtain ⟨a, a1, a2, a3⟩ := h3 q
    exact ⟨a, a1, a2, SegV_at (TS23 hS) a3 (fun a b1 b2 => e a b1 (by omega))⟩
  · obtain ⟨a, a1, a2, a3⟩ := h5 j hj
    exact ⟨a, a1, a2, SegV_at (TS23 hS) a3 (fun a b1 b2 => e a b1 (by omega))⟩
set_option maxRecDepth 100000 in
/-- what is read is what is kept -/
theorem OV_of {c : Mm} {cd wt : Nat → Int32} {L r h x : Nat} {tt : Bool} {fV : (Nat → Int32) → Int64} {fS : Nat → (Nat → Int32) → Int64} (hS : hSh c) (hL : L ≤ 400) (h2 : mI c 23 2 = nI L) (h24 : mI c 24 = cd) (h25 : mI c 25 = wt) (H : Oc c cd wt L r h x tt fV fS) : OV c r h x tt fV fS := by
  have sg : ∀ f a, SegC cd wt L f a → SegV c 23 f a := by
    intro f a ⟨b, p, h1, g2, h3, h4⟩
    have tx : ∀ lo hi, hi ≤ L → TX c 23 cd wt lo hi := fun lo hi hh => ⟨sh23 hS, L, 24, 25, 401, 401, h2, hh, rf23_0 hS, rf23_1 hS, sh24 hS, sh25 hS, by omega, by omega, Nat.le_refl _, Nat.le_refl _, fun i i1 i2 => ⟨by rw [h24], by rw [h25]⟩⟩
    refine ⟨cd, wt, b, p, h1, h3, tx a b g2, ?_⟩
    rcases h4 with z | ⟨z1, z2⟩
    · exact Or.inl (by rw [z]; exact h2)
    · exact Or.inr ⟨wt, TX_eq (tx b (b + 1) (by omega)) (fun i i1 i2 => ⟨by rw [show i = b by omega]; exact z2, rfl⟩)⟩
  obtain ⟨h1, h2, h3, h4, h5, h6⟩ := H
  refine ⟨h1, h2, fun q => ?_, h4, fun j hj => ?_, h6⟩
  · obtain ⟨a, a1, a2, a3⟩ := h3 q
    exact ⟨a, by omega, a2, sg _ _ a3⟩
  · obtain ⟨a, a1, a2, a3⟩ := h5 j hj
    exact ⟨a, by omega, a2, sg _ _ a3⟩
def vO (h : Nat) (fS : Nat → (Nat → Int32) → Int64) (W : Nat → Int32) (j : Nat) : Int64 := if j < nS_ h then fS j W else 0
set_option maxRecDepth 100000 in
theorem lg_0 {w : Int64} : (lg_cmp w 4000000000 = 0) ↔ w = BR := lg_eq w 4000000000
section
variable {k16 : Mm → Nat → Nat → Nat → Int32 → Int32 → Int32 → Option (Int32 × Mm)} {k28 : Mm → Nat → Nat → Nat → Int32 → Int32 → Int32 → Int32 → Option (Int32 × Mm)}
set_option maxRecDepth 100000 in
theorem c_val1 {c : Mm} {r h x : Nat} {tt : Bool} {fV : (Nat → Int32) → Int64} {fS : Nat → (Nat → Int32) → Int64} (hS : hSh c) (hr : r < 12) (H : OV c r h x tt fV fS) {j : Nat} (hj : j < 3) {x3 x4 x6 x8 : Int32} {N : Nat} : ∃ c', VF c c' ∧ mI c' 43 j = (vO h fS (mI c 16) j).toInt32 ∧ (∀ i, i ≠ j → mI c' 43 i = mI c 43 i) ∧ rX8_runOrders_94 k16 k28 (N + 1) c 0 23 14 x3 x4 (nI r) x6 x8 (nI j) = rX8_runOrders_94 k16 k28 N c' 0 23 14 x3 x4 (nI r) x6 (if x8 = 0 ∨ vO h fS (mI c 16) j = BR then 0 else 1) (nI (j + 1)) := by
  have ix : nI r * 4 + nI j = nI (4 * r + j) := by rw [show (4 : Int32) = nI 4 from rfl, nI_mul, nI_add, Nat.mul_comm]
  have val : ∃ S, fX5_valueOf c 14 23 (mI c 28 (4 * r + j)) = some (vO h fS (mI c 16) j, wL c 15 S) := by
    unfold vO
    by_cases z : j < nS_ h
    · obtain ⟨a, a1, a2, a3⟩ := H.2.2.2.2.1 j z
      rw [if_pos z, a2]
      exact SegV_val hS a3
    · rw [if_neg z, H.2.2.2.2.2 j (by omega) hj, valN]
      exact ⟨mL c 15, by rw [wL_id]⟩
  obtain ⟨S, e⟩ := val
  have h1 : hSh (wL c 15 S) := hS
  refine ⟨wI (wL c 15 S) 43 (upd (mI (wL c 15 S) 43) j (vO h fS (mI c 16) j).toInt32), ⟨rfl, rfl, rfl, fun a ha => by rw [mI_wI, if_neg ha]; rfl, fun a ha => ?_⟩, ?_, fun i hi => ?_, ?_⟩
  · show (if a = 15 then S else mL c a) = _
    rw [if_neg ha]
  · show upd (mI c 43) j (vO h fS (mI c 16) j).toInt32 j = _
    rw [pk_us]
  · show upd (mI c 43) j (vO h fS (mI c 16) j).toInt32 i = _
    rw [pk_un hi]
  · show bX8_runOrders_94 k16 k28 (rX8_runOrders_94 k16 k28 N) c 0 23 14 x3 x4 (nI r) x6 x8 (nI j) = _
    unfold bX8_runOrders_94 bX8_runOrders_137 bX8_runOrders_138
    rw [if_neg (show ¬ (3 : Int32) ≤ nI j from nI_ge (b := 3) hj (by decide)), oK_of (sh23 hS), rf23_5 hS, oNn_of, ix, oA_k (sh28 hS) (by omega) (by decide), oI_of, clm (by omega), oR_of (sh14 hS), e, oB_of, oK_of (sh0 h1), rf0_16 h1, oNn_of, oA_k (sh43 h1) (by omega) (by decide), clm (by omega), oU_of, nI_1]
    by_cases z : x8 = 0
    · rw [if_pos z, if_pos (Or.inl z)]
    · rw [if_neg z]
      by_cases y : vO h fS (mI c 16) j = BR
      · rw [if_pos (lg_0.mpr y), if_pos (Or.inr y)]
      · rw [if_neg (fun q => y (lg_0.mp q)), if_neg (fun q => q.elim z y), oK_of (sh0 h1), oNn_of, oA_k (sh43 h1) (by omega) (by decide), oU_of]
set_option maxRecDepth 100000 in
/-- all three -/
theorem c_vals {c : Mm} {r h x : Nat} {tt : Bool} {fV : (Nat → Int32) → Int64} {fS : Nat → (Nat → Int32) → Int64} (hS : hSh c) (hr : r < 12) (H : OV c r h x tt fV fS) {x3 x4 x6 : Int32} {N : Nat} : ∃ c', VF c c' ∧ (∀ j, j < 3 → mI c' 43 j = (vO h fS (mI c 16) j).toInt32) ∧ rX8_runOrders_94 k16 k28 (N + 3) c 0 23 14 x3 x4 (nI r) x6 1 0 = rX8_runOrders_94 k16 k28 N c' 0 23 14 x3 x4 (nI r) x6 (if vO h fS (mI c 16) 0 = BR ∨ vO h fS (mI c 16) 1 = BR ∨ vO h fS (mI c 16) 2 = BR then 0 else 1) (nI 3) := by
  obtain ⟨c1, a1, a2, a3, a4⟩ := c_val1 (k16 := k16) (k28 := k28) hS hr H (j := 0) (by decide) (x3 := x3) (x4 := x4) (x6 := x6) (x8 := 1) (N := N + 2)
  have H1 := OV_at hS H (c' := c1) (fun a b1 b2 => ⟨by rw [a1.2.1], by rw [a1.2.2.1], a1.2.2.2.1 a (by omega)⟩)
  have hS1 := VF_sh a1 hS
  have w1 : mI c1 16 = mI c 16 := a1.2.2.2.1 16 (by decide)
  obtain ⟨c2, b1, b2, b3, b4⟩ := c_val1 (k16 := k16) (k28 := k28) hS1 hr H1 (j := 1) (by decide) (x3 := x3) (x4 := x4) (x6 := x6) (x8 := if (1 : Int32) = 0 ∨ vO h fS (mI c 16) 0 = BR then 0 else 1) (N := N + 1)
  have H2 := OV_at hS1 H1 (c' := c2) (fun a g1 g2 => ⟨by rw [b1.2.1], by rw [b1.2.2.1], b1.2.2.2.1 a (by omega)⟩)
  have hS2 := VF_sh b1 hS1
  have w2 : mI c2 16 = mI c 16 := (b1.2.2.2.1 16 (by decide)).trans w1
  obtain ⟨c3, d1, d2, d3, d4⟩ := c_val1 (k16 := k16) (k28 := k28) hS2 hr H2 (j := 2) (by decide) (x3 := x3) (x4 := x4) (x6 := x6) (x8 := if (if (1 : Int32) = 0 ∨ vO h fS (mI c 16) 0 = BR then (0 : Int32) else 1) = 0 ∨ vO h fS (mI c1 16) 1 = BR then 0 else 1) (N := N)
  rw [w1] at b2 b4 d4
  rw [w2] at d2 d4
  refine ⟨c3, VF_trans a1 (VF_trans b1 d1), fun j hj => ?_, ?_⟩
  · rcases (show j = 0 ∨ j = 1 ∨ j = 2 by omega) with rfl | rfl | rfl
    · rw [d3 0 (by decide), b3 0 (by decide)]; exact a2
    · rw [d3 1 (by decide)]; exact b2
    · exact d2
  · refine Eq.trans a4 (Eq.trans b4 (Eq.trans d4 ?_))
    congr 1
    by_cases z0 : vO h fS (mI c 16) 0 = BR <;> by_cases z1 : vO h fS (mI c 16) 1 = BR <;> by_cases z2 : vO h fS (mI c 16) 2 = BR <;> simp [z0, z1, z2]
end
set_option maxRecDepth 100000 in
/-- a sum of the r-th order, by the reference -/
theorem r_sum1 {m : Mm} {r h x : Nat} {tt : Bool} {fV : (Nat → Int32) → Int64} {fS : Nat → (Nat → Int32) → Int64} {W : Nat → Int32} (hS : hSh m) (hr : r < 12) (h20 : mI m 45 20 = 0) (H : Oq m (mI m 56) (mI m 57) 400 r h x tt fV fS) (hW : WM m W) {j : Nat} (hj : j < 3) : ∃ v m', fX9_sumOf m 45 (nI (10 * r + 1 + 2 * j)) = some (v, m') ∧ SF m m' ∧ (mI m 45 50 = 0 → (vO h fS W j ≠ BR ∧ mI m' 45 50 = 0 ∧ (j < nS_ h → v = (vO h fS W j).toInt32)) ∨ (vO h fS W j = BR ∧ mI m' 45 50 = 1)) ∧ (¬ mI m 45 50 = 0 → mI m' 45 50 = mI m 45 50) := by
  by_cases y : mI m 45 50 = 0
  · by_cases z : j < nS_ h
    · obtain ⟨a, b, g1, g2, g3, g4⟩ := H.2.2.2.2.1 j z
      obtain ⟨v, m', e1, e2, e3⟩ := r_sumOf hS y h20 (x := 10 * r + 1 + 2 * j) (by omega) g2 (by rw [show 10 * r + 1 + 2 * j + 1 = 10 * r + 2 + 2 * j by omega]; exact g3) g4 hW
      have ev : vO h fS W j = fS j W := by unfold vO; rw [if_pos z]
      refine ⟨v, m', e1, e2, fun _ => ?_, fun q => absurd y q⟩
      rw [ev]
      rcases e3 with ⟨f1, f2, f3⟩ | ⟨f1, f2⟩
      · exact Or.inl ⟨f1, f3, fun _ => f2⟩
      · exact Or.inr ⟨f1, f2⟩
    · obtain ⟨g1, g2⟩ := H.2.2.2.2.2 j (by omega) hj
      have ev : vO h fS W j = 0 := by unfold vO; rw [if_neg z]
      refine ⟨-1, m, r_sumNo hS y (by omega) (by rw [g1, show 10 * r + 1 + 2 * j + 1 = 10 * r + 2 + 2 * j by omega, g2]), SF_rfl, fun _ => Or.inl ⟨by rw [ev]; decide, y, fun q => absurd q z⟩, fun q => absurd y q⟩
  · exact ⟨-1, m, r_sumOff hS y, SF_rfl, fun q => absurd q y, fun _ => rfl⟩
set_option maxRecDepth 100000 in
theorem Oq_SF {m m' : Mm} {r h x : Nat} {tt : Bool} {fV : (Nat → Int32) → Int64} {fS : Nat → (Nat → Int32) → Int64} (k : ∀ a, a = 56 ∨ a = 57 ∨ a = 69 → mI m' a = mI m a) (H : Oq m (mI m 56) (mI m 57) 400 r h x tt fV fS) : Oq m' (mI m' 56) (mI m' 57) 400 r h x tt fV fS := by
  unfold Oq at H ⊢
  rw [k 56 (by decide), k 57 (by decide), k 69 (by decide)]; exact H
set_option maxRecDepth 100000 in
/-- all three -/
theorem r_sums {m : Mm} {r h x : Nat} {tt : Bool} {fV : (Nat → Int32) → Int64} {fS : Nat → (Nat → Int32) → Int64} {W : Nat → Int32} (hS : hSh m) (hr : r < 12) (h20 : mI m 45 20 = 0) (h50 : mI m 45 50 = 0) (H : Oq m (mI m 56) (mI m 57) 400 r h x tt fV fS) (hW : WM m W) : ∃ v0 v1 v2 m1 m2 m3, fX9_sumOf m 45 (nI (10 * r + 1)) = some (v0, m1) ∧ fX9_sumOf m1 45 (nI (10 * r + 3)) = some (v1, m2) ∧ fX9_sumOf m2 45 (nI (10 * r + 5)) = some (v2, m3) ∧ SF m m1 ∧ SF m m2 ∧ SF m m3 ∧ (((vO h fS W 0 = BR ∨ vO h fS W 1 = BR ∨ vO h fS W 2 = BR) ∧ ¬ mI m3 45 50 = 0) ∨ (¬ (vO h fS W 0 = BR ∨ vO h fS W 1 = BR ∨ vO h fS W 2 = BR) ∧ mI m3 45 50 = 0 ∧ (0 < nS_ h → v0 = (vO h fS W 0).toInt32) ∧ (1 < nS_ h → v1 = (vO h fS W 1).toInt32) ∧ (2 < nS_ h → v2 = (vO h fS W 2).toInt32))) := by
  obtain ⟨v0, m1, a1, a2, a3, a4⟩ := r_sum1 hS hr h20 H hW (j := 0) (by decide)
  have h20' : mI m1 45 20 = 0 := by rw [a2.2.2.2.2.1 20 (by decide) (by decide)]; exact h20
  obtain ⟨v1, m2, b1, b2, b3, b4⟩ := r_sum1 (SF_sh a2 hS) hr h20' (Oq_SF (fun a q => a2.2.2.2.1 a (by omega)) H) (WM_SF a2 hW) (j := 1) (by decide)
  have s2 := SF_trans a2 b2
  have h20'' : mI m2 45 20 = 0 := by rw [s2.2.2.2.2.1 20 (by decide) (by decide)]; exact h20
  obtain ⟨v2, m3, d1, d2, d3, d4⟩ := r_sum1 (SF_sh s2 hS) hr h20'' (Oq_SF (fun a q => s2.2.2.2.1 a (by omega)) H) (WM_SF s2 hW) (j := 2) (by decide)
  refine ⟨v0, v1, v2, m1, m2, m3, a1, b1, d1, a2, s2, SF_trans s2 d2, ?_⟩
  have n1 : ¬ (1 : Int32) = 0 := by decide
  rcases a3 h50 with ⟨x1, x2, x3⟩ | ⟨x1, x2⟩
  · rcases b3 x2 with ⟨y1, y2, y3⟩ | ⟨y1, y2⟩
    · rcases d3 y2 with ⟨z1, z2, z3⟩ | ⟨z1, z2⟩
      · exact Or.inr ⟨fun q => q.elim x1 (fun q => q.elim y1 z1), z2, x3, y3, z3⟩
      · exact Or.inl ⟨Or.inr (Or.inr z1), by rw [z2]; exact n1⟩
    · exact Or.inl ⟨Or.inr (Or.inl y1), by rw [d4 (by rw [y2]; exact n1), y2]; exact n1⟩
  · have q1 : mI m2 45 50 = 1 := by rw [b4 (by rw [x2]; exact n1), x2]
    exact Or.inl ⟨Or.inl x1, by rw [d4 (by rw [q1]; exact n1), q1]; exact n1⟩
