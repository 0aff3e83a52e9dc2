/-! ===== attack, shift, show, pass ===== -/
set_option maxRecDepth 100000 in
theorem Rmi_eq2 {c0 m45 m45' c44 m46 : Nat → Int32} (h : Rmi c0 m45 c44 m46) (k : ∀ k, k ∈ [1, 11, 13, 18, 20, 49, 53] → m45' k = m45 k) : Rmi c0 m45' c44 m46 := by
  unfold Rmi at h ⊢
  rw [k 11 (by decide), k 18 (by decide), k 49 (by decide), k 1 (by decide), k 13 (by decide), k 20 (by decide), k 53 (by decide)]
  exact h
set_option maxRecDepth 100000 in
theorem Rbk_FR {bk bk' : Nat → Nat → Int32} {row row' : Nat → Int32} (h : Rbk bk row) (hf : FR (bk' 2) row') (hr : ∀ i, ¬ fP i → row' i = row i) (hR : Rrg row') (hb : ∀ j, j ≤ 10 → j ≠ 2 → bk' j = bk j) : Rbk bk' row' := by
  have L4 : loc 4 = (2, 28) := rfl
  have L7 : ∀ i, i < 28 → loc (7 + i) = (2, i) := by decide +kernel
  have L0 : ∀ i, i < 127 → ¬ (i = 4 ∨ (7 ≤ i ∧ i < 35)) → (loc i).1 ≠ 2 := by decide +kernel
  refine ⟨fun i hi => ?_, hR⟩
  unfold cls
  by_cases z : fP i
  · rcases z with z | z
    · subst z; exact hf.2.symm
    · have e := L7 (i - 7) (by omega)
      rw [show 7 + (i - 7) = i by omega] at e
      rw [e]
      have := hf.1 (i - 7) (by omega)
      rw [show 7 + (i - 7) = i by omega] at this
      exact this.symm
  · rw [hr i z, hb _ (loc_le i hi) (L0 i hi z)]
    exact h.1 i hi
set_option maxRecDepth 100000 in
theorem Rel_act {u c' u1 m' u2 : Mm} {q : Option Nat} (h : Rel LR u) (k1 : CaF u c') (kN : mQ u1 = mQ c' ∧ mK u1 = mK c' ∧ mR u1 = mR c') (k2 : ∀ a, a ≠ 0 → a ≠ 44 → mI u1 a = mI c' a) (k3 : RaF (mT u1) m') (kM : mQ u2 = mQ m' ∧ mK u2 = mK m' ∧ mR u2 = mR m') (k4 : ∀ a, a ≠ 45 → a ≠ 46 → mI u2 a = mI m' a) (k5 : mI u2 45 8 = mI m' 45 8) (hA : JA c' m' q) (e10 : mI u2 0 10 = mI u 0 10) (hmi : Rmi (mI u2 0) (mI u2 45) (mI u2 44) (mI u2 46)) : Rel LR u2 := by
  -- places that nobody touches
  have go : ∀ a, a ≠ 0 → a ≠ 44 → a ≠ 45 → a ≠ 46 → a ≠ 47 → a ≠ 50 → a ≠ 51 → mI u2 a = mI c' a := by
    intro a h0 h44 h45 h46 h47 h50 h51
    rw [k4 a h45 h46, k3.2.2.2.1 a h45 h47 h50 h51]
    show (if a = 45 then _ else mI u1 a) = _
    rw [if_neg h45, k2 a h0 h44]
  have go2 : ∀ a, a ≠ 0 → a ≠ 44 → a ≠ 45 → a ≠ 46 → a ≠ 47 → a ≠ 50 → a ≠ 51 → a ≠ 3 → a ≠ 16 → a ≠ 30 → a ≠ 31 → a ≠ 32 → a ≠ 37 → mI u2 a = mI u a := by
    intro a h0 h44 h45 h46 h47 h50 h51 h3 h16 h30 h31 h32 h37
    rw [go a h0 h44 h45 h46 h47 h50 h51, k1.2.2.2 a h3 h16 h30 h31 h32 h37]
  have r47 : ∀ i, ¬ fP i → mI u2 47 i = mI u 47 i := by
    intro i hi
    rw [k4 47 (by decide) (by decide), k3.2.2.2.2.1 i hi]
    show mI u1 47 i = _
    rw [k2 47 (by decide) (by decide), k1.2.2.2 47 (by decide) (by decide) (by decide) (by decide) (by decide) (by decide)]
  obtain ⟨hB, hL, hQ, hP⟩ := hA
  refine Rel_put LRf_LR h (kM.1.trans (k3.1.trans (kN.1.trans k1.1))) (kM.2.1.trans (k3.2.1.trans (kN.2.1.trans k1.2.1))) (kM.2.2.trans (k3.2.2.1.trans (kN.2.2.trans k1.2.2.1))) (fun a ha => go2 a (by omega) (by omega) (by omega) (by omega) (by omega) (by omega) (by omega) (by omega) (by omega) (by omega) (by omega) (by omega) (by omega)) ?_ ⟨r47 2 (by unfold fP; omega), fun i hi => r47 i (by unfold fP; omega)⟩ (go2 48 (by decide) (by decide) (by decide) (by decide) (by decide) (by decide) (by decide) (by decide) (by decide) (by decide) (by decide) (by decide) (by decide)) (go2 49 (by decide) (by decide) (by decide) (by decide) (by decide) (by decide) (by decide) (by decide) (by decide) (by decide) (by decide) (by decide) (by decide)) hmi ?_ ?_ ?_
  · have hFR := JB_FR hB
    have hRr : Rrg (mI m' 47) := hB.2.2.2.2.2.2.2.2.2.2
    refine Rbk_FR h.2.1 ?_ r47 ?_ (fun j hj hj2 => ?_)
    · show FR (mI u2 (1 + 2)) (mI u2 47)
      rw [go 3 (by decide) (by decide) (by decide) (by decide) (by decide) (by decide) (by decide), k4 47 (by decide) (by decide)]
      exact hFR
    · rw [k4 47 (by decide) (by decide)]; exact hRr
    · exact go2 (1 + j) (by omega) (by omega) (by omega) (by omega) (by omega) (by omega) (by omega) (by omega) (by omega) (by omega) (by omega) (by omega) (by omega)
  · rw [go2 42 (by decide) (by decide) (by decide) (by decide) (by decide) (by decide) (by decide) (by decide) (by decide) (by decide) (by decide) (by decide) (by decide), go2 54 (by decide) (by decide) (by decide) (by decide) (by decide) (by decide) (by decide) (by decide) (by decide) (by decide) (by decide) (by decide) (by decide)]
    exact h.2.2.2.1
  · have hd := h.2.2.2.2.1
    unfold Rde at hd ⊢
    rw [e10, go2 41 (by decide) (by decide) (by decide) (by decide) (by decide) (by decide) (by decide) (by decide) (by decide) (by decide) (by decide) (by decide) (by decide), go2 70 (by decide) (by decide) (by decide) (by decide) (by decide) (by decide) (by decide) (by decide) (by decide) (by decide) (by decide) (by decide) (by decide)]
    exact hd
  · rw [go 30 (by decide) (by decide) (by decide) (by decide) (by decide) (by decide) (by decide), go 31 (by decide) (by decide) (by decide) (by decide) (by decide) (by decide) (by decide), go 32 (by decide) (by decide) (by decide) (by decide) (by decide) (by decide) (by decide), k4 50 (by decide) (by decide), k4 51 (by decide) (by decide), k4 47 (by decide) (by decide)]
    exact Rpa_eq hP k5 (fun _ _ => rfl)
set_option maxRecDepth 100000 in
theorem JA_of {u : Mm} (h : Rel LR u) : ∃ q, JA u u q := by
  obtain ⟨q, hB, hL, hQ⟩ := Rel_J h
  exact ⟨q, hB, hL, hQ, h.2.2.2.2.2.1⟩
set_option maxRecDepth 100000 in
/-- the reference goes on from what the class has left -/
theorem JA_m {u m m' : Mm} {q : Option Nat} (h : JA u m q) (h0 : hSh m') (h1 : mI m' 47 = mI m 47) (h2 : mI m' 45 20 = mI m 45 20) (h3 : mI m' 45 8 = mI m 45 8) (h4 : mI m' 50 = mI m 50) (h5 : mI m' 51 = mI m 51) : JA u m' q := by
  obtain ⟨hB, hL, hQ, hP⟩ := h
  refine ⟨JB_m hB h0 h1 h2, JL_m hL h1, hQ, ?_⟩
  rw [h1, h4, h5]
  exact Rpa_eq hP h3 (fun _ _ => rfl)
set_option maxRecDepth 100000 in
theorem s_act {k : Nat} (hk : k ≤ 3) (x y z : Int32) {cl rf : Mm → Option (Int32 × Mm)} (hc : ∀ u, hSh u → cl u = oB (fX8_act u 0 (nI (260 + k)) x y z) (fun v1 u2 => oR u2 0 8 (oB (fX8_answer u2 0 v1) (fun v3 u4 => some (v3, u4))))) (hr : ∀ u, hSh u → rf u = oB (rAct k x y z (mT u)) (fun v2 u3 => oR u3 45 9 (oB (fX9_answer u3 45 v2) (fun v4 u5 => some (v4, u5))))) : hwS (Rel LR) cl rf := by
  intro u h
  have hS := h.1
  obtain ⟨q, hA⟩ := JA_of h
  obtain ⟨r, c', m0, a1, a2, a3, a4, a5, a6⟩ := J_act hA hk x y z
  have hc' : hSh c' := a3.1.1
  have i0 := a4.2.2.2 0 (by decide) (by decide) (by decide) (by decide) (by decide) (by decide)
  have i44 := a4.2.2.2 44 (by decide) (by decide) (by decide) (by decide) (by decide) (by decide)
  have i45 := a4.2.2.2 45 (by decide) (by decide) (by decide) (by decide) (by decide) (by decide)
  have i46 := a4.2.2.2 46 (by decide) (by decide) (by decide) (by decide) (by decide) (by decide)
  have i47 := a4.2.2.2 47 (by decide) (by decide) (by decide) (by decide) (by decide) (by decide)
  have i50 := a4.2.2.2 50 (by decide) (by decide) (by decide) (by decide) (by decide) (by decide)
  have i51 := a4.2.2.2 51 (by decide) (by decide) (by decide) (by decide) (by decide) (by decide)
  -- the class's end, whatever it writes at 0 and 44
  have fin : ∀ (u1 : Mm) (kN : mQ u1 = mQ c' ∧ mK u1 = mK c' ∧ mR u1 = mR c') (k2 : ∀ a, a ≠ 0 → a ≠ 44 → mI u1 a = mI c' a), ∃ m', rAct k x y z (mT u1) = some (r, m') ∧ RaF (mT u1) m' ∧ JA c' m' q := by
    intro u1 kN k2
    have h1 : hSh (mT u1) := by
      show hSh u1
      unfold hSh at hc' ⊢
      rw [kN.1, kN.2.1, kN.2.2]; exact hc'
    have e45 : mI u1 45 = mI u 45 := (k2 45 (by decide) (by decide)).trans i45
    have hA' : JA u (mT u1) q := JA_m hA h1 ((k2 47 (by decide) (by decide)).trans i47) (by show mI u1 45 20 = _; rw [e45]) (by show mI u1 45 8 = _; rw [e45]) ((k2 50 (by decide) (by decide)).trans i50) ((k2 51 (by decide) (by decide)).trans i51)
    obtain ⟨r2, c2, m2, b1, b2, b3, b4, b5, b6⟩ := J_act hA' hk x y z
    obtain ⟨x1, x2⟩ := some2 b1 a1
    subst x1 x2
    exact ⟨m2, b2, b5, b3⟩
  have rmi : ∀ (u1 m' : Mm), (∀ a, a ≠ 0 → a ≠ 44 → mI u1 a = mI c' a) → RaF (mT u1) m' → Rmi (mI u 0) (mI m' 45) (mI u 44) (mI m' 46) := by
    intro u1 m' k2 k3
    have e46 : mI m' 46 = mI u 46 := by
      rw [k3.2.2.2.1 46 (by decide) (by decide) (by decide) (by decide)]
      show mI u1 46 = _
      rw [k2 46 (by decide) (by decide), i46]
    rw [e46]
    refine Rmi_eq2 h.2.2.1 (fun k hk => ?_)
    have nk : k ≠ 8 ∧ k ≠ 34 ∧ k ≠ 38 ∧ k ≠ 0 := by
      revert hk; revert k; decide
    rw [k3.2.2.2.2.2.1 k nk.1 nk.2.1 nk.2.2.1]
    show upd (mI u1 45) 0 0 k = _
    rw [pk_un nk.2.2.2, k2 45 (by decide) (by decide), i45]
  have refu : ∀ (kk : Nat), kk < 6 → (r = -1 ∧ kk = 0 ∨ r = -3 ∧ kk = 2) → ∃ r' u1 u2, cl u = some (r', u1) ∧ (mK u1 45).1 = 9 ∧ rf u1 = some (r', u2) ∧ Rel LR u2 := by
    intro kk hkk hr'
    have k2 : ∀ a, a ≠ 0 → a ≠ 44 → mI (cRe c' r kk) a = mI c' a := by
      intro a h0 h4
      unfold cRe; simp only [mI_wI]; rw [if_neg h4, if_neg h0]
    obtain ⟨m', b1, b2, b3⟩ := fin (cRe c' r kk) ⟨rfl, rfl, rfl⟩ k2
    have hm' := b3.1.2.1
    have neg : ¬ 0 ≤ r := by rcases hr' with ⟨q, -⟩ | ⟨q, -⟩ <;> rw [q] <;> decide
    refine ⟨r, cRe c' r kk, mRe m' r (kk + 1), ?_, hR45_Rel (show hSh (cRe c' r kk) from hc'), ?_, ?_⟩
    · rw [hc u hS, a1, oB_of, oR_of (sh0 hc')]
      unfold fX8_answer bX8_answer_17
      rw [if_neg neg, oR_of (sh0 hc'), c_refuse hc' r kk (by rcases hr' with ⟨q, p⟩ | ⟨q, p⟩ <;> rw [q, p] <;> decide), oB_of, oB_of]
    · rw [hr _ (show hSh (cRe c' r kk) from hc'), b1, oB_of, oR_of (sh45 hm'), m_refuse hm' r (kk + 1) (by rcases hr' with ⟨q, p⟩ | ⟨q, p⟩ <;> rw [q, p] <;> decide), oB_of]
    · have c0 : mI m' 0 = upd (mI u 0) 18 r := by
        rw [b2.2.2.2.1 0 (by decide) (by decide) (by decide) (by decide)]
        show upd (mI c' 0) 18 r = _
        rw [i0]
      have c44 : mI m' 44 = upd (mI u 44) kk (mI u 44 kk + 1) := by
        rw [b2.2.2.2.1 44 (by decide) (by decide) (by decide) (by decide)]
        show upd (mI c' 44) kk (mI c' 44 kk + 1) = _
        rw [i44]
      refine Rel_act (u1 := cRe c' r kk) h a4 ⟨rfl, rfl, rfl⟩ k2 b2 ⟨rfl, rfl, rfl⟩ (fun a h1 h2 => ?_) rfl b3 ?_ ?_
      · unfold mRe; simp only [mI_wI]; rw [if_neg h2, if_neg h1]
      · show mI m' 0 10 = _
        rw [c0]; rfl
      · show Rmi (mI m' 0) (upd (mI m' 45) 1 r) (mI m' 44) (upd (mI m' 46) (kk + 1) (mI m' 46 (kk + 1) + 1))
        rw [c0, c44]
        exact Rmi_re (rmi _ _ k2 b2) hkk
  rcases a6 with (e | e) | ⟨n, hn, e⟩
  · exact refu 0 (by decide) (Or.inl ⟨e, rfl⟩)
  · exact refu 2 (by decide) (Or.inr ⟨e, rfl⟩)
  · subst e
    have k2 : ∀ a, a ≠ 0 → a ≠ 44 → mI (wI c' 0 (upd (mI c' 0) 18 0)) a = mI c' a := fun a h0 _ => by rw [mI_wI, if_neg h0]
    obtain ⟨m', b1, b2, b3⟩ := fin (wI c' 0 (upd (mI c' 0) 18 0)) ⟨rfl, rfl, rfl⟩ k2
    have hm' := b3.1.2.1
    have c0 : mI m' 0 = upd (mI u 0) 18 0 := by
      rw [b2.2.2.2.1 0 (by decide) (by decide) (by decide) (by decide)]
      show upd (mI c' 0) 18 0 = _
      rw [i0]
    have c44 : mI m' 44 = mI u 44 := by
      rw [b2.2.2.2.1 44 (by decide) (by decide) (by decide) (by decide)]
      exact i44
    refine ⟨nI n, wI c' 0 (upd (mI c' 0) 18 0), wI m' 45 (upd (mI m' 45) 1 0), ?_, hR45_Rel (show hSh (wI c' 0 _) from hc'), ?_, ?_⟩
    · rw [hc u hS, a1, oB_of, oR_of (sh0 hc')]
      unfold fX8_answer bX8_answer_17
      rw [if_pos (nI_pos' (by omega)), oR_of (sh0 hc'), c_accept hc', oB_of, oB_of]
    · rw [hr _ (show hSh (wI c' 0 _) from hc'), b1, oB_of, oR_of (sh45 hm'), m_accept hm' _ (nI_pos' (by omega)), oB_of]
    · refine Rel_act (u1 := wI c' 0 (upd (mI c' 0) 18 0)) h a4 ⟨rfl, rfl, rfl⟩ k2 b2 ⟨rfl, rfl, rfl⟩ (fun a h1 h2 => by rw [mI_wI, if_neg h1]) rfl b3 ?_ ?_
      · show mI m' 0 10 = _
        rw [c0]; rfl
      · show Rmi (mI m' 0) (upd (mI m' 45) 1 0) (mI m' 44) (mI m' 46)
        rw [c0, c44]
        exact Rmi_ok (rmi _ _ k2 b2)
set_option maxRecDepth 100000 in
theorem s16 : hwS_16 (Rel LR) := by
  intro x y
  refine s_act (k := 0) (by decide) x y 0 (fun u hS => ?_) (fun u hS => ?_)
  · unfold fX8_attack; rw [oR_of (sh0 hS)]; rfl
  · have hT : hSh (mT u) := hS
    show fX9_attack u 45 x y = _
    unfold fX9_attack; rw [oK_of (sh45 hS), oT, oR_of (sh45 hT)]; rfl
set_option maxRecDepth 100000 in
theorem s17 : hwS_17 (Rel LR) := by
  intro x y z
  refine s_act (k := 1) (by decide) x y z (fun u hS => ?_) (fun u hS => ?_)
  · unfold fX8_shift; rw [oR_of (sh0 hS)]; rfl
  · have hT : hSh (mT u) := hS
    show fX9_shift u 45 x y z = _
    unfold fX9_shift; rw [oK_of (sh45 hS), oT, oR_of (sh45 hT)]; rfl
set_option maxRecDepth 100000 in
theorem s18 : hwS_18 (Rel LR) := by
  intro x y
  refine s_act (k := 2) (by decide) x y 0 (fun u hS => ?_) (fun u hS => ?_)
  · unfold fX8_show; rw [oR_of (sh0 hS)]; rfl
  · have hT : hSh (mT u) := hS
    show fX9_show u 45 x y = _
    unfold fX9_show; rw [oK_of (sh45 hS), oT, oR_of (sh45 hT)]; rfl
set_option maxRecDepth 100000 in
theorem s19 : hwS_19 (Rel LR) := by
  refine s_act (k := 3) (by decide) 0 0 0 (fun u hS => ?_) (fun u hS => ?_)
  · unfold fX8_pass; rw [oR_of (sh0 hS)]; rfl
  · have hT : hSh (mT u) := hS
    show fX9_pass u 45 = _
    unfold fX9_pass; rw [oK_of (sh45 hS), oT, oR_of (sh45 hT)]; rfl
