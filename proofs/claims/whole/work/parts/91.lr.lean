/-! ===== the laws and the images ===== -/
def TXT (u : Mm) (t : Nat) (r : Nat → Int32) : Prop := 71 ≤ t ∧ ∃ A, CLaw u t A ∧ RLaw r A ∧ AOK A
def BL (u : Mm) (lw n : Nat) (r : Nat → Int32) : Prop := n ≤ 6 ∧ (∀ i, i < 6 → mR u lw i = none ∨ ∃ t, mR u lw i = some t ∧ (mK u t).1 = 6) ∧ ∀ i, i < n → ∃ t, mR u lw i = some t ∧ TXT u t (fun x => r (130 + 900 * i + x)) ∧ ∀ k b, k < 2 → mR u 29 k = some b → t + 5 < b ∨ b + 11 < t
def BkSh (u : Mm) (b : Nat) : Prop := mK u b = (0, 16) ∧ mK u (b + 1) = (1, 1) ∧ mK u (b + 2) = (10, 29) ∧ mK u (b + 3) = (10, 16) ∧ mK u (b + 4) = (10, 16) ∧ mK u (b + 5) = (10, 16) ∧ mK u (b + 6) = (10, 16) ∧ mK u (b + 7) = (10, 8) ∧ mK u (b + 8) = (10, 8) ∧ mK u (b + 9) = (10, 6) ∧ mK u (b + 10) = (10, 6) ∧ mK u (b + 11) = (14, 6)
  ∧ mR u b 0 = some (b + 1) ∧ mR u (b + 1) 0 = some (b + 2) ∧ mR u b 1 = some (b + 3) ∧ mR u b 2 = some (b + 4) ∧ mR u b 3 = some (b + 5) ∧ mR u b 4 = some (b + 6) ∧ mR u b 5 = some (b + 7) ∧ mR u b 6 = some (b + 8) ∧ mR u b 8 = some (b + 9) ∧ mR u b 9 = some (b + 10) ∧ mR u b 13 = some (b + 11)
def IMk (u : Mm) (k : Nat) : Prop := (mI u 49 k = 0 ∧ mR u 29 k = none) ∨ (mI u 49 k = 1 ∧ ∃ b n, mR u 29 k = some b ∧ 71 ≤ b ∧ BkSh u b ∧ Rbk (fun j => mI u (b + j)) (fun i => mI u 48 (5530 * k + i)) ∧ mI u b 14 = nI n ∧ BL u (b + 11) n (fun i => mI u 48 (5530 * k + i)))
def LR (u : Mm) : Prop := (∃ n, mI u 1 14 = nI n ∧ BL u 12 n (mI u 47)) ∧ IMk u 0 ∧ IMk u 1 ∧ ∀ b0 b1, mR u 29 0 = some b0 → mR u 29 1 = some b1 → b0 + 11 < b1 ∨ b1 + 11 < b0
set_option maxRecDepth 100000 in
theorem BL_eq {u u' : Mm} {lw n : Nat} {r r' : Nat → Int32} (h : BL u lw n r) (hK : mK u' = mK u) (hR : mR u' = mR u) (hI : ∀ a, 71 ≤ a → mI u' a = mI u a) (hr : ∀ i, 130 ≤ i → r' i = r i) : BL u' lw n r' := by
  obtain ⟨h1, h2, h3⟩ := h
  refine ⟨h1, by rw [hR, hK]; exact h2, fun i hi => ?_⟩
  obtain ⟨t, t1, ⟨t2, A, a1, a2, a3⟩, t3⟩ := h3 i hi
  refine ⟨t, by rw [hR]; exact t1, ⟨t2, A, CLaw_at a1 (fun a k1 k2 => ⟨by rw [hK], by rw [hR], hI a (by omega)⟩), ?_, a3⟩, by rw [hR]; exact t3⟩
  rw [show (fun x => r' (130 + 900 * i + x)) = (fun x => r (130 + 900 * i + x)) from funext (fun x => hr _ (by omega))]
  exact a2
set_option maxRecDepth 100000 in
theorem LRf_LR : LRf LR := by
  intro u u' h hN hK hR hI h14 h2 hrow h48 h49
  obtain ⟨⟨n, n1, n2⟩, i0, i1, dj⟩ := h
  have im : ∀ k, IMk u k → IMk u' k := by
    intro k hk
    rcases hk with ⟨k1, k2⟩ | ⟨k1, b, n, k2, k3, k4, k5, k6, k7⟩
    · exact Or.inl ⟨by rw [h49]; exact k1, by rw [hR]; exact k2⟩
    · refine Or.inr ⟨by rw [h49]; exact k1, b, n, by rw [hR]; exact k2, k3, ?_, ?_, by rw [hI b k3]; exact k6, ?_⟩
      · unfold BkSh at k4 ⊢
        rw [hK, hR]; exact k4
      · rw [show (fun j => mI u' (b + j)) = (fun j => mI u (b + j)) from funext (fun j => hI _ (by omega)), h48]; exact k5
      · rw [h48]; exact BL_eq k7 hK hR hI (fun _ _ => rfl)
  exact ⟨⟨n, by rw [h14]; exact n1, BL_eq n2 hK hR hI hrow⟩, im 0 i0, im 1 i1, by rw [hR]; exact dj⟩
set_option maxRecDepth 100000 in
theorem Rel_J {u : Mm} (h : Rel LR u) : ∃ q, JB 2 u u ∧ JL u u q ∧ JQ u q := by
  obtain ⟨h1, h2, h3, h4, h5, h6, ⟨n, n1, n2, n3, n4⟩, -⟩ := id h
  have hB : JB 2 u u := by
    refine ⟨h1, h1, Fr2 h1, Or.inl rfl, h3.2.2.2.2.2.2.2.1, fun i hi => ?_, (at_day h2).symm, (rw6 h).symm, fun i hi => ?_, fun i hi => ?_, h2.2⟩
    · exact (Rbk_at h2 (p := 7 + i) (by omega) ((by decide +kernel : ∀ i, i < 28 → loc (7 + i) = (2, i)) i hi)).symm
    · exact (Rbk_at h2 (p := 35 + i) (by omega) ((by decide +kernel : ∀ i, i < 16 → loc (35 + i) = (3, i)) i hi)).symm
    · exact (Rbk_at h2 (p := 51 + i) (by omega) ((by decide +kernel : ∀ i, i < 16 → loc (51 + i) = (4, i)) i hi)).symm
  obtain ⟨r1, r2, r3⟩ := rl3 h
  have e3 := rw3 h
  have e2 := rw2 h
  unfold rg at r1
  by_cases z : (mI u 47 3).toInt = -1
  · have z' : mI u 47 3 = -1 := Int32.toInt_inj.mp (z.trans (by decide))
    exact ⟨none, hB, Or.inl ⟨rfl, z'⟩, Or.inl ⟨rfl, by rw [← e3]; exact z'⟩⟩
  · obtain ⟨i, hi, ei⟩ := rg_nI (x := mI u 47 3) (M := 5) ⟨by omega, r1.2⟩ (by decide)
    have en : mI u 47 2 = nI n := e2.trans n1
    rw [ei, en, nI_toInt (by omega), nI_toInt (by omega)] at r2
    obtain ⟨t, t1, ⟨t2, A, a1, a2, a3⟩, t3⟩ := n4 i (by omega)
    exact ⟨some t, hB, Or.inr ⟨i, t, A, rfl, t2, by omega, ei, a1, a2, a3⟩, Or.inr ⟨i, t, n, rfl, by rw [← e3]; exact ei, by omega, n2, n1, t1⟩⟩
set_option maxRecDepth 100000 in
theorem Scr_CsF {c c' : Mm} (h : CsF c c') : Scr c c' := by
  refine ⟨h.1, h.2.1, h.2.2.1, fun a h1 _ _ => h.2.2.2 a (fun e => by rw [e] at h1; cases h1), fun k _ => ?_, fun i _ => ?_⟩
  · rw [h.2.2.2 45 (by decide)]
  · rw [h.2.2.2 50 (by decide)]
set_option maxRecDepth 100000 in
theorem Scr_MF {c c' : Mm} (h : MF c c') : Scr c c' := by
  refine ⟨h.1, h.2.1, h.2.2.1, fun a _ h2 _ => h.2.2.2.1 a h2, fun k hk => ?_, fun i _ => ?_⟩
  · exact h.2.2.2.2.1 k (fun e => by rw [e] at hk; revert hk; decide) (fun e => by rw [e] at hk; revert hk; decide)
  · rw [h.2.2.2.1 50 (by decide)]
set_option maxRecDepth 100000 in
theorem Scr_mT {u : Mm} : Scr u (mT u) := Scr_w45 (k := 0) (by decide)
set_option maxRecDepth 100000 in
theorem JB_m {f : Nat} {c m m' : Mm} (h : JB f c m) (h1 : hSh m') (h2 : mI m' 47 = mI m 47) (h3 : mI m' 45 20 = mI m 45 20) : JB f c m' := by
  unfold JB at h ⊢
  rw [h2, h3]
  exact ⟨h.1, h1, h.2.2⟩
set_option maxRecDepth 100000 in
theorem JL_m {c m m' : Mm} {q : Option Nat} (h : JL c m q) (h2 : mI m' 47 = mI m 47) : JL c m' q := by
  unfold JL at h ⊢
  rw [h2]; exact h
set_option maxRecDepth 100000 in
/-- the reference begins where the class has asked -/
theorem J_next {u u1 : Mm} {q : Option Nat} (hB : JB 2 u u) (hL : JL u u q) (k : CsF u u1) : JB 2 u (mT u1) ∧ JL u (mT u1) q := by
  have e47 : mI (mT u1) 47 = mI u 47 := k.2.2.2 47 (by decide)
  have e20 : mI (mT u1) 45 20 = mI u 45 20 := by
    show mI u1 45 20 = _
    rw [k.2.2.2 45 (by decide)]
  exact ⟨JB_m hB (show hSh u1 from CsF_hSh k hB.1) e47 e20, JL_m hL e47⟩
set_option maxRecDepth 100000 in
theorem some2 {α : Type} {x : Option (α × Mm)} {a b : α} {u v : Mm} (h : x = some (a, u)) (k : x = some (b, v)) : a = b ∧ u = v := by
  rw [h] at k
  simp only [Option.some.injEq, Prod.mk.injEq] at k
  exact k
set_option maxRecDepth 100000 in
theorem b01 (b : Bool) : (if (if b = true then (1 : Int32) else 0) = 0 then (0 : Int32) else 1) = if b = true then 1 else 0 := by cases b <;> rfl
set_option maxRecDepth 100000 in
theorem s1 : hwS_1 (Rel LR) := by
  intro x w u h
  have hS := h.1
  obtain ⟨q, hB, hL, hQ⟩ := Rel_J h
  by_cases cx : 0 ≤ x ∧ x ≤ 7
  · obtain ⟨k, hk, rfl⟩ := cdI cx
    have pc : ∀ {X : Option (Int32 × Mm)}, (if w = 0 then oR u 2 1 (oB (fX1_lineAt u 2 (nI k)) (fun v5 u6 => some (v5, u6))) else (if w = 1 then bX8_at_70 u (nI k) w 2 else (if w = 2 then bX8_at_70 u (nI k) w 2 else (if w = 3 then bX8_at_79 u 0 (nI k) w 2 else (if w = 4 then bX8_at_79 u 0 (nI k) w 2 else (if w = 5 then bX8_at_99 u 0 (nI k) w 2 else (if w = 6 then bX8_at_99 u 0 (nI k) w 2 else some (-1000, u)))))))) = X → fX8_at u 0 (nI k) w = X := by
      intro X hX
      unfold fX8_at
      rw [c_isColumn, oB_of, if_pos cx, if_neg (by decide), oK_of (sh0 hS), rf0_0 hS, oNn_of, oK_of (sh1 hS), rf1_0 hS, oNn_of]
      exact hX
    have pm : ∀ {v : Mm}, hSh v → ∀ {X : Option (Int32 × Mm)}, (if w = 0 then oK (mT v) 45 9 54 (oNn (mR (mT v) 45 3) (fun e4 => oA (mT v) e4 10 ((7 : Int32) + nI k) (oI (mI (mT v) e4 (Int32.toNatClampNeg ((7 : Int32) + nI k))) (fun v5 => some (v5, mT v))))) else (if w = 1 then bX9_at_70 (mT v) 45 (nI k) w else (if w = 2 then bX9_at_70 (mT v) 45 (nI k) w else (if w = 3 then bX9_at_79 (mT v) 45 (nI k) w else (if w = 4 then bX9_at_79 (mT v) 45 (nI k) w else (if w = 5 then bX9_at_88 (mT v) 45 (nI k) w else (if w = 6 then bX9_at_88 (mT v) 45 (nI k) w else some (-1000, mT v)))))))) = X → fX9_at v 45 (nI k) w = X := by
      intro v hv X hX
      unfold fX9_at
      rw [oK_of (sh45 hv), oT, m_isEight, oB_of, if_pos cx, if_neg (by decide)]
      exact hX
    have hT : hSh (mT u) := hS
    by_cases w0 : w = 0
    · refine ⟨mI u 3 k, u, mT u, pc ?_, hR45_Rel hS, pm hS ?_, Rel_mT LRf_LR h⟩
      · rw [if_pos w0, oR_of (sh2 hS), c_lineAt (Fr2 hS) hk, oB_of]
      · rw [if_pos w0, oK_of (sh45 hT), rf45_3 hT, oNn_of, show (7 : Int32) + nI k = nI (7 + k) from nI_add 7 k, oA_k (sh47 hT) (by omega) (by decide), oI_of, clm (by omega), show mI (mT u) 47 (7 + k) = mI u 3 k from (JB_line hB hk).symm]
    have men : ∀ s, s < 2 → ∃ r u1 u2, bX8_at_70 u (nI k) (nI (s + 1)) 2 = some (r, u1) ∧ hSh u1 ∧ bX9_at_70 (mT u1) 45 (nI k) (nI (s + 1)) = some (r, u2) ∧ Rel LR u2 := by
      intro s hs
      refine ⟨mI u 3 (8 + 8 * s + k), u, mT u, ?_, hS, ?_, Rel_mT LRf_LR h⟩
      · unfold bX8_at_70
        rw [nI_pred, oR_of (sh2 hS), c_menAt (Fr2 hS) hs hk, oB_of]
      · unfold bX9_at_70
        rw [nI_pred, oR_of (sh45 hT), m_menOf hT hs hk, oB_of, show mI (mT u) 47 (15 + 8 * s + k) = mI u 3 (8 + 8 * s + k) from (JB_men hB hs hk).symm]
    by_cases w1 : w = 1
    · obtain ⟨r, u1, u2, e1, e2, e3, e4⟩ := men 0 (by decide)
      have w1' : w = nI 1 := w1
      refine ⟨r, u1, u2, pc ?_, hR45_Rel e2, pm e2 ?_, e4⟩
      · rw [if_neg w0, if_pos w1, w1']; exact e1
      · rw [if_neg w0, if_pos w1, w1']; exact e3
    by_cases w2 : w = 2
    · obtain ⟨r, u1, u2, e1, e2, e3, e4⟩ := men 1 (by decide)
      have w2' : w = nI 2 := w2
      refine ⟨r, u1, u2, pc ?_, hR45_Rel e2, pm e2 ?_, e4⟩
      · rw [if_neg w0, if_neg w1, if_pos w2, w2']; exact e1
      · rw [if_neg w0, if_neg w1, if_pos w2, w2']; exact e3
    have e33 : ∀ s, nI (s + 3) - 3 = nI s := fun s => by
      rw [show (3 : Int32) = nI 3 from rfl, nI_sub (by omega), Nat.add_sub_cancel]
    have e55 : ∀ s, nI (s + 5) - 5 = nI s := fun s => by
      rw [show (5 : Int32) = nI 5 from rfl, nI_sub (by omega), Nat.add_sub_cancel]
    have cost : ∀ s, s < 2 → ∃ r u1 u2, bX8_at_79 u 0 (nI k) (nI (s + 3)) 2 = some (r, u1) ∧ hSh u1 ∧ bX9_at_79 (mT u1) 45 (nI k) (nI (s + 3)) = some (r, u2) ∧ Rel LR u2 := by
      intro s hs
      obtain ⟨v, c1, m1, a1, a2, a3, a4, a5⟩ := J_cost hB hL hs hk
      obtain ⟨n1, n2⟩ := J_next hB hL a3
      obtain ⟨v', c2, m2, b1, b2, b3, b4, b5⟩ := J_cost n1 n2 hs hk
      obtain ⟨x1, x2⟩ := some2 b1 a1
      subst x1 x2
      refine ⟨v', c2, m2, ?_, CsF_hSh a3 hS, ?_, Rel_Scr LRf_LR h (Scr_trans (Scr_CsF a3) (Scr_trans Scr_mT (Scr_MF b4)))⟩
      · unfold bX8_at_79
        rw [oK_of (sh0 hS), rf0_1 hS, oNn_of, oK_of (sh0 hS), rf0_0 hS, oNn_of, oR_of (sh1 hS), c_lif hS hQ, oB_of, oR_of (sh13 hS), e33, b1, oB_of]
      · unfold bX9_at_79
        rw [oR_of (sh45 n1.2.1), e33, b2, oB_of]
    have barr : ∀ s, s < 2 → ∃ r u1 u2, bX8_at_99 u 0 (nI k) (nI (s + 5)) 2 = some (r, u1) ∧ hSh u1 ∧ bX9_at_88 (mT u1) 45 (nI k) (nI (s + 5)) = some (r, u2) ∧ Rel LR u2 := by
      intro s hs
      obtain ⟨v, c1, m1, a1, a2, a3, a4⟩ := J_barred hB hL hQ hs hk
      obtain ⟨n1, n2⟩ := J_next hB hL a3
      obtain ⟨v', c2, m2, b1, b2, b3, b4⟩ := J_barred n1 n2 hQ hs hk
      obtain ⟨x1, x2⟩ := some2 b1 a1
      subst x2
      rw [x1] at b2
      refine ⟨if v = true then 1 else 0, c2, m2, ?_, CsF_hSh a3 hS, ?_, Rel_Scr LRf_LR h (Scr_trans (Scr_CsF a3) (Scr_trans Scr_mT (Scr_MF b4)))⟩
      · unfold bX8_at_99 bX8_at_119
        rw [oK_of (sh0 hS), rf0_1 hS, oNn_of, oR_of (sh13 hS), e55, a1, oB_of]
        cases v <;> rfl
      · unfold bX9_at_88 bX9_at_104
        rw [oR_of (sh45 n1.2.1), e55, b2, oB_of]
        cases v <;> rfl
    by_cases w3 : w = 3
    · obtain ⟨r, u1, u2, e1, e2, e3, e4⟩ := cost 0 (by decide)
      have w3' : w = nI 3 := w3
      refine ⟨r, u1, u2, pc ?_, hR45_Rel e2, pm e2 ?_, e4⟩
      · rw [if_neg w0, if_neg w1, if_neg w2, if_pos w3, w3']; exact e1
      · rw [if_neg w0, if_neg w1, if_neg w2, if_pos w3, w3']; exact e3
    by_cases w4 : w = 4
    · obtain ⟨r, u1, u2, e1, e2, e3, e4⟩ := cost 1 (by decide)
      have w4' : w = nI 4 := w4
      refine ⟨r, u1, u2, pc ?_, hR45_Rel e2, pm e2 ?_, e4⟩
      · rw [if_neg w0, if_neg w1, if_neg w2, if_neg w3, if_pos w4, w4']; exact e1
      · rw [if_neg w0, if_neg w1, if_neg w2, if_neg w3, if_pos w4, w4']; exact e3
    by_cases w5 : w = 5
    · obtain ⟨r, u1, u2, e1, e2, e3, e4⟩ := barr 0 (by decide)
      have w5' : w = nI 5 := w5
      refine ⟨r, u1, u2, pc ?_, hR45_Rel e2, pm e2 ?_, e4⟩
      · rw [if_neg w0, if_neg w1, if_neg w2, if_neg w3, if_neg w4, if_pos w5, w5']; exact e1
      · rw [if_neg w0, if_neg w1, if_neg w2, if_neg w3, if_neg w4, if_pos w5, w5']; exact e3
    by_cases w6 : w = 6
    · obtain ⟨r, u1, u2, e1, e2, e3, e4⟩ := barr 1 (by decide)
      have w6' : w = nI 6 := w6
      refine ⟨r, u1, u2, pc ?_, hR45_Rel e2, pm e2 ?_, e4⟩
      · rw [if_neg w0, if_neg w1, if_neg w2, if_neg w3, if_neg w4, if_neg w5, if_pos w6, w6']; exact e1
      · rw [if_neg w0, if_neg w1, if_neg w2, if_neg w3, if_neg w4, if_neg w5, if_pos w6, w6']; exact e3
    refine ⟨-1000, u, mT u, pc ?_, hR45_Rel hS, pm hS ?_, Rel_mT LRf_LR h⟩
    · rw [if_neg w0, if_neg w1, if_neg w2, if_neg w3, if_neg w4, if_neg w5, if_neg w6]
    · rw [if_neg w0, if_neg w1, if_neg w2, if_neg w3, if_neg w4, if_neg w5, if_neg w6]
  · refine ⟨-1000, u, mT u, ?_, hR45_Rel hS, ?_, Rel_mT LRf_LR h⟩
    · show fX8_at u 0 x w = _
      unfold fX8_at
      rw [c_isColumn, oB_of, if_neg cx, if_pos rfl]
    · show fX9_at u 45 x w = _
      unfold fX9_at
      rw [oK_of (sh45 hS), oT, m_isEight, oB_of, if_neg cx, if_pos rfl]
set_option maxRecDepth 100000 in
theorem s2 : hwS_2 (Rel LR) := by
  intro x w u h
  have hS := h.1
  have hT : hSh (mT u) := hS
  obtain ⟨q, hB, hL, hQ⟩ := Rel_J h
  by_cases cx : 0 ≤ x ∧ x ≤ 1
  · obtain ⟨s, hs, rfl⟩ := sdI cx
    have pc : ∀ {X : Option (Int32 × Mm)}, (if w = 0 then oR u 2 1 (oB (fX1_supplyOf u 2 (nI s)) (fun v5 u6 => some (v5, u6))) else (if w = 1 then oR u 2 1 (oB (fX1_temperOf u 2 (nI s)) (fun v7 u8 => some (v7, u8))) else (if w = 2 then oK u 0 8 19 (oNn (mR u 0 1) (fun e9 => oR u e9 7 (oB (fX7_feedOf u e9 2 (nI s)) (fun v10 u11 => some (v10, u11))))) else (if w = 3 then oR u 2 1 (oB (fX1_menOf u 2 (nI s)) (fun v12 u13 => some (v12, u13))) else some (-1, u))))) = X → fX8_of u 0 (nI s) w = X := by
      intro X hX
      unfold fX8_of
      rw [c_isSide, oB_of, if_pos cx, if_neg (by decide), oK_of (sh0 hS), rf0_0 hS, oNn_of, oK_of (sh1 hS), rf1_0 hS, oNn_of]
      exact hX
    have pm : ∀ {v : Mm}, hSh v → ∀ {X : Option (Int32 × Mm)}, (if w = 0 then oK (mT v) 45 9 54 (oNn (mR (mT v) 45 3) (fun e4 => oA (mT v) e4 10 ((31 : Int32) + nI s) (oI (mI (mT v) e4 (Int32.toNatClampNeg ((31 : Int32) + nI s))) (fun v5 => some (v5, mT v))))) else (if w = 1 then oK (mT v) 45 9 54 (oNn (mR (mT v) 45 3) (fun e6 => oA (mT v) e6 10 ((33 : Int32) + nI s) (oI (mI (mT v) e6 (Int32.toNatClampNeg ((33 : Int32) + nI s))) (fun v7 => some (v7, mT v))))) else (if w = 2 then oR (mT v) 45 9 (oB (fX9_feedsOf (mT v) 45 (nI s)) (fun v8 u9 => some (v8, u9))) else (if w = 3 then oR (mT v) 45 9 (oB (fX9_allMen (mT v) 45 (nI s)) (fun v10 u11 => some (v10, u11))) else some (-1, mT v))))) = X → fX9_of v 45 (nI s) w = X := by
      intro v hv X hX
      unfold fX9_of
      rw [oK_of (sh45 hv), oT, m_isSide, oB_of, if_pos cx, if_neg (by decide)]
      exact hX
    by_cases w0 : w = 0
    · refine ⟨mI u 3 (24 + s), u, mT u, pc ?_, hR45_Rel hS, pm hS ?_, Rel_mT LRf_LR h⟩
      · rw [if_pos w0, oR_of (sh2 hS), c_supplyOf (Fr2 hS) hs, oB_of]
      · rw [if_pos w0, oK_of (sh45 hT), rf45_3 hT, oNn_of, show (31 : Int32) + nI s = nI (31 + s) from nI_add 31 s, oA_k (sh47 hT) (by omega) (by decide), oI_of, clm (by omega), show mI (mT u) 47 (31 + s) = mI u 3 (24 + s) from (JB_sup hB hs).symm]
    by_cases w1 : w = 1
    · refine ⟨mI u 3 (26 + s), u, mT u, pc ?_, hR45_Rel hS, pm hS ?_, Rel_mT LRf_LR h⟩
      · rw [if_neg w0, if_pos w1, oR_of (sh2 hS), c_temperOf (Fr2 hS) hs, oB_of]
      · rw [if_neg w0, if_pos w1, oK_of (sh45 hT), rf45_3 hT, oNn_of, show (33 : Int32) + nI s = nI (33 + s) from nI_add 33 s, oA_k (sh47 hT) (by omega) (by decide), oI_of, clm (by omega), show mI (mT u) 47 (33 + s) = mI u 3 (26 + s) from (JB_tem hB hs).symm]
    by_cases w2 : w = 2
    · obtain ⟨v, c1, m1, a1, a2, a3, a4, a5⟩ := J_feed hB hL hQ hs
      obtain ⟨n1, n2⟩ := J_next hB hL a3
      obtain ⟨v', c2, m2, b1, b2, b3, b4, b5⟩ := J_feed n1 n2 hQ hs
      obtain ⟨x1, x2⟩ := some2 b1 a1
      subst x1 x2
      have hc2 := CsF_hSh a3 hS
      refine ⟨v', c2, m2, pc ?_, hR45_Rel hc2, pm hc2 ?_, Rel_Scr LRf_LR h (Scr_trans (Scr_CsF a3) (Scr_trans Scr_mT (Scr_MF b4)))⟩
      · rw [if_neg w0, if_neg w1, if_pos w2, oK_of (sh0 hS), rf0_1 hS, oNn_of, oR_of (sh13 hS), b1, oB_of]
      · rw [if_neg w0, if_neg w1, if_pos w2, oR_of (sh45 n1.2.1), b2, oB_of]
    by_cases w3 : w = 3
    · refine ⟨sum8 (fun k => mI u 3 (8 + 8 * s + k)), u, mT u, pc ?_, hR45_Rel hS, pm hS ?_, Rel_mT LRf_LR h⟩
      · rw [if_neg w0, if_neg w1, if_neg w2, if_pos w3, oR_of (sh2 hS), c_menOf (Fr2 hS) hs, oB_of]
      · rw [if_neg w0, if_neg w1, if_neg w2, if_pos w3, oR_of (sh45 hT), m_allMen hT hs, oB_of, show sum8 (fun k => mI (mT u) 47 (15 + 8 * s + k)) = sum8 (fun k => mI u 3 (8 + 8 * s + k)) from sum8_congr (fun k hk => (JB_men hB hs hk).symm)]
    refine ⟨-1, u, mT u, pc ?_, hR45_Rel hS, pm hS ?_, Rel_mT LRf_LR h⟩
    · rw [if_neg w0, if_neg w1, if_neg w2, if_neg w3]
    · rw [if_neg w0, if_neg w1, if_neg w2, if_neg w3]
  · refine ⟨-1, u, mT u, ?_, hR45_Rel hS, ?_, Rel_mT LRf_LR h⟩
    · show fX8_of u 0 x w = _
      unfold fX8_of
      rw [c_isSide, oB_of, if_neg cx, if_pos rfl]
    · show fX9_of u 45 x w = _
      unfold fX9_of
      rw [oK_of (sh45 hS), oT, m_isSide, oB_of, if_neg cx, if_pos rfl]
set_option maxRecDepth 100000 in
theorem s4 : hwS_4 (Rel LR) := by
  intro x y w u h
  have hS := h.1
  have hT : hSh (mT u) := hS
  obtain ⟨q, hB, hL, hQ⟩ := Rel_J h
  by_cases cx : 0 ≤ x ∧ x ≤ 7
  · by_cases cy : 0 ≤ y ∧ y ≤ 1
    · by_cases cw : 0 ≤ w ∧ w ≤ 1
      · obtain ⟨k, hk, rfl⟩ := cdI cx
        obtain ⟨s, hs, rfl⟩ := sdI cy
        by_cases w0 : w = 0
        · obtain ⟨v, c1, m1, a1, a2, a3, a4, a5⟩ := J_read hB hL hQ hs hk
          obtain ⟨n1, n2⟩ := J_next hB hL a3
          obtain ⟨v', c2, m2, b1, b2, b3, b4, b5⟩ := J_read n1 n2 hQ hs hk
          obtain ⟨x1, x2⟩ := some2 b1 a1
          subst x1 x2
          have hc2 := CsF_hSh a3 hS
          refine ⟨v', c2, m2, ?_, hR45_Rel hc2, ?_, Rel_Scr LRf_LR h (Scr_trans (Scr_CsF a3) (Scr_trans Scr_mT (Scr_MF b4)))⟩
          · show fX8_reads u 0 (nI k) (nI s) w = _
            unfold fX8_reads bX8_reads_63
            rw [c_isSign, oB_of, if_pos cx, if_neg (by decide), c_isSide, oB_of, if_pos cy, if_neg (by decide), c_within, oB_of, if_pos cw, if_neg (by decide), if_pos w0, oK_of (sh0 hS), rf0_1 hS, oNn_of, oK_of (sh0 hS), rf0_0 hS, oNn_of, oK_of (sh1 hS), rf1_0 hS, oNn_of, oR_of (sh13 hS), b1, oB_of]
          · show fX9_reads c2 45 (nI k) (nI s) w = _
            unfold fX9_reads bX9_reads_59
            rw [oK_of (sh45 hc2), oT, m_isEight, oB_of, if_pos cx, if_neg (by decide), m_isSide, oB_of, if_pos cy, if_neg (by decide), m_in1, oB_of, if_pos cw, if_neg (by decide), if_pos w0, oR_of (sh45 n1.2.1), b2, oB_of]
        · refine ⟨mI u 5 (2 * k + s), u, mT u, ?_, hR45_Rel hS, ?_, Rel_mT LRf_LR h⟩
          · show fX8_reads u 0 (nI k) (nI s) w = _
            unfold fX8_reads bX8_reads_63 fX8_pair
            rw [c_isSign, oB_of, if_pos cx, if_neg (by decide), c_isSide, oB_of, if_pos cy, if_neg (by decide), c_within, oB_of, if_pos cw, if_neg (by decide), if_neg w0, oK_of (sh0 hS), rf0_0 hS, oNn_of, oK_of (sh1 hS), rf1_2 hS, oNn_of, oB_of, ixq, oA_k (sh5 hS) (by omega) (by decide), oI_of, clm (by omega)]
          · show fX9_reads u 45 (nI k) (nI s) w = _
            have e51 : (51 : Int32) + 2 * nI k + nI s = nI (51 + 2 * k + s) := by rw [show (51 : Int32) = nI 51 from rfl]; exact ixp
            unfold fX9_reads bX9_reads_59
            rw [oK_of (sh45 hS), oT, m_isEight, oB_of, if_pos cx, if_neg (by decide), m_isSide, oB_of, if_pos cy, if_neg (by decide), m_in1, oB_of, if_pos cw, if_neg (by decide), if_neg w0, oK_of (sh45 hT), rf45_3 hT, oNn_of, e51, oA_k (sh47 hT) (by omega) (by decide), oI_of, clm (by omega), show mI (mT u) 47 (51 + 2 * k + s) = mI u 5 (2 * k + s) from (c_answer hB hs hk).symm]
      · refine ⟨-1000, u, mT u, ?_, hR45_Rel hS, ?_, Rel_mT LRf_LR h⟩
        · show fX8_reads u 0 x y w = _
          unfold fX8_reads
          rw [c_isSign, oB_of, if_pos cx, if_neg (by decide), c_isSide, oB_of, if_pos cy, if_neg (by decide), c_within, oB_of, if_neg cw, if_pos rfl]
        · show fX9_reads u 45 x y w = _
          unfold fX9_reads
          rw [oK_of (sh45 hS), oT, m_isEight, oB_of, if_pos cx, if_neg (by decide), m_isSide, oB_of, if_pos cy, if_neg (by decide), m_in1, oB_of, if_neg cw, if_pos rfl]
    · refine ⟨-1000, u, mT u, ?_, hR45_Rel hS, ?_, Rel_mT LRf_LR h⟩
      · show fX8_reads u 0 x y w = _
        unfold fX8_reads
        rw [c_isSign, oB_of, if_pos cx, if_neg (by decide), c_isSide, oB_of, if_neg cy, if_pos rfl]
      · show fX9_reads u 45 x y w = _
        unfold fX9_reads
        rw [oK_of (sh45 hS), oT, m_isEight, oB_of, if_pos cx, if_neg (by decide), m_isSide, oB_of, if_neg cy, if_pos rfl]
  · refine ⟨-1000, u, mT u, ?_, hR45_Rel hS, ?_, Rel_mT LRf_LR h⟩
    · show fX8_reads u 0 x y w = _
      unfold fX8_reads
      rw [c_isSign, oB_of, if_neg cx, if_pos rfl]
    · show fX9_reads u 45 x y w = _
      unfold fX9_reads
      rw [oK_of (sh45 hS), oT, m_isEight, oB_of, if_neg cx, if_pos rfl]
