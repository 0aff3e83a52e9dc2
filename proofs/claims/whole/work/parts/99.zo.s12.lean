/-! ===== s12: orders ===== -/
def mU (v : Mm) : Mm := wI (mT v) 45 (upd (mI (mT v) 45) 49 (-1))
set_option maxRecDepth 100000 in
theorem r_orders {v : Mm} (hS : hSh v) : fX9_orders v 45 = oB (fX9_beginText (mU v) 45 1) (fun _ u4 => oR u4 45 9 (oB (fX9_readOrder u4 45) (fun _ u5 => rX9_orders_19 hwF u5 45))) := by
  have hT : hSh (mT v) := hS
  have hU : hSh (mU v) := hS
  unfold fX9_orders
  rw [oK_of (sh45 hS), oU_of]
  show oK (mT v) 45 9 54 (oU (wI (mT v) 45 (upd (mI (mT v) 45) 49 (-1))) _) = _
  rw [oK_of (sh45 hT), oU_of]
  show oR (mU v) 45 9 _ = _
  rw [oR_of (sh45 hU)]
  rfl
set_option maxRecDepth 100000 in
theorem r_46flt {m s : Mm} {v : Int32} (hs : hSh s) (h : FltE m s v) : ∃ z, bX9_orders_46 s 45 = some (-6, mRe z (-6) 6) ∧ hSh z ∧ MdF m z ∧ mI z 45 18 = v ∧ mI z 45 20 = 0 ∧ mI z 45 13 = 0 := by
  obtain ⟨z, z1, z2, z3, z4, z5, z6, z7⟩ := h
  refine ⟨z, ?_, z2, z3, z5, z6, z7⟩
  unfold bX9_orders_46
  rw [oR_of (sh45 hs), z1, oB_of, oK_of (sh45 z2), oI_of, z4, if_neg (by decide), oR_of (sh45 z2), m_refuse z2 (-6) 6 (by decide), oB_of]
/-- the class behind its reader -/
def U8 (u5 : Mm) (v : Int32) : Mm := wI u5 0 (upd (upd (upd (mI u5 0) 13 v) 12 0) 15 (-1))
set_option maxRecDepth 100000 in
theorem U8_eq {u5 : Mm} {v : Int32} : wI (wI (wI u5 0 (upd (mI u5 0) 13 v)) 0 (upd (mI (wI u5 0 (upd (mI u5 0) 13 v)) 0) 12 0)) 0 (upd (mI (wI (wI u5 0 (upd (mI u5 0) 13 v)) 0 (upd (mI (wI u5 0 (upd (mI u5 0) 13 v)) 0) 12 0)) 0) 15 (-1)) = U8 u5 v := by
  rw [wI_s, wI_s]; rfl
set_option maxRecDepth 100000 in
theorem s12_flt {u u5 : Mm} {T : Nat → Int32} {n : Nat} {v : Int32} (h : Rel LR u) (hn : mI u 0 12 = nI n) (hT : Tap u T n) (c1 : fX4_readText u 19 42 (nI n) 0 = some (v, u5)) (c2 : RdF u u5) (nv : ¬ v = -1)
    (c3 : ∀ w, Tap w T n → ∃ s m, oB (fX9_beginText w 45 1) (fun _ u4 => oR u4 45 9 (oB (fX9_readOrder u4 45) (fun _ u5 => rX9_orders_19 hwF u5 45))) = bX9_orders_46 s 45 ∧ hSh s ∧ MdF w m ∧ FltE m s v) : ∃ r u1 u2, fX8_orders u 0 = some (r, u1) ∧ (mK u1 45).1 = 9 ∧ fX9_orders u1 45 = some (r, u2) ∧ Rel LR u2 := by
  have hS := h.1
  have hS5 : hSh u5 := RdF_sh c2 hS
  have hS8 : hSh (U8 u5 v) := hS5
  have hS6 : ∀ g, hSh (wI u5 0 g) := fun _ => hS5
  have hS7 : ∀ g g', hSh (wI (wI u5 0 g) 0 g') := fun _ _ => hS5
  have hS1 : hSh (cRe (U8 u5 v) (-6) 5) := hS5
  have e13 : mI (U8 u5 v) 0 13 = v := rfl
  have I8 : ∀ a, 28 < a → mI u5 a = mI u a := fun a ha => c2.2.2.2.2 a (Or.inr ha)
  have I8l : ∀ a, a < 19 → mI u5 a = mI u a := fun a ha => c2.2.2.2.2 a (Or.inl ha)
  have tp : Tap (mU (cRe (U8 u5 v) (-6) 5)) T n := by
    refine tap_mv hT (show hSh u5 from hS5) ?_ ?_
    · show mI u5 45 13 = _
      rw [I8 45 (by decide)]
    · show mI u5 54 = _
      rw [I8 54 (by decide)]
  obtain ⟨s, m, k1, k2, k3, k4⟩ := c3 _ tp
  obtain ⟨z, z1, z2, z3, z4, z5, z6⟩ := r_46flt k2 k4
  have k5 := MdF_trans k3 z3
  refine ⟨-6, cRe (U8 u5 v) (-6) 5, mRe z (-6) 6, ?_, hR45_Rel hS1, ?_, ?_⟩
  · unfold fX8_orders
    rw [oK_of (sh0 hS), rf0_3 hS, oNn_of, oK_of (sh0 hS), rf0_11 hS, oNn_of, oK_of (sh0 hS), oI_of, hn, oR_of (sh19 hS), c1, oB_of, oK_of (sh0 hS5), oU_of, oK_of (sh0 (hS6 _)), oU_of, oK_of (sh0 (hS7 _ _)), oU_of, U8_eq, oK_of (sh0 hS8), oI_of, e13, if_neg nv, oR_of (sh0 hS8), c_refuse hS8 (-6) 5 (by decide), oB_of]
  · rw [r_orders hS1, k1, z1]
  · obtain ⟨r1, r2, r3, r4, r5, r6, r7, r8, r9, r10⟩ := h.2.2.1
    have Z0 : mI z 0 = upd (upd (upd (upd (mI u 0) 13 v) 12 0) 15 (-1)) 18 (-6) := by
      rw [k5.2.2.2.2.1 0 (by decide) (by decide) (by decide)]
      show upd (upd (upd (upd (mI u5 0) 13 v) 12 0) 15 (-1)) 18 (-6) = _
      rw [I8l 0 (by decide)]
    have Z44 : mI z 44 = upd (mI u 44) 5 (mI u 44 5 + 1) := by
      rw [k5.2.2.2.2.1 44 (by decide) (by decide) (by decide), ← I8 44 (by decide)]; rfl
    have Z46 : mI z 46 = mI u 46 := by
      rw [k5.2.2.2.2.1 46 (by decide) (by decide) (by decide), ← I8 46 (by decide)]; rfl
    have Z45 : ∀ j, j ∉ [13, 14, 15, 16, 18, 19, 20, 21, 23, 26, 29, 30] → mI z 45 j = upd (upd (mI u 45) 0 0) 49 (-1) j := by
      intro j hj
      rw [k5.2.2.2.2.2 j hj]
      show upd (upd (mI u5 45) 0 0) 49 (-1) j = _
      rw [I8 45 (by decide)]
    have W0 : mI (mRe z (-6) 6) 0 = upd (upd (upd (upd (mI u 0) 13 v) 12 0) 15 (-1)) 18 (-6) := Z0
    have W44 : mI (mRe z (-6) 6) 44 = upd (mI u 44) 5 (mI u 44 5 + 1) := Z44
    have W46 : mI (mRe z (-6) 6) 46 = upd (mI u 46) 6 (mI u 46 6 + 1) := by
      show upd (mI z 46) 6 (mI z 46 6 + 1) = _
      rw [Z46]
    have W45 : mI (mRe z (-6) 6) 45 = upd (mI z 45) 1 (-6) := rfl
    refine Rel_fin h (k5.1.trans c2.1) (k5.2.1.trans c2.2.1) (k5.2.2.1.trans c2.2.2.1) (fun a q1 q2 q3 q4 q5 => ?_) ?_ ?_ ?_
    · have a1 : mI (mRe z (-6) 6) a = mI z a := by
        unfold mRe
        simp only [mI_wI]
        rw [if_neg q5, if_neg q4]
      rw [a1, k5.2.2.2.2.1 a q4 (by unfold scr at q1; simp at q1; omega) (by rintro rfl; exact absurd q1 (by decide))]
      unfold mU mT cRe U8
      simp only [mI_wI]
      rw [if_neg q4, if_neg q4, if_neg q3, if_neg q2, if_neg q2]
      by_cases z : a < 19
      · exact I8l a z
      · exact I8 a (by unfold scr at q1; simp at q1; omega)
    · rw [W0, W44, W45, W46]
      refine ⟨?_, ?_, ?_, ?_, ?_, ?_, ?_, ?_, ?_, ?_⟩
      · show mI u 0 14 = mI z 45 11
        rw [Z45 11 (by decide)]; exact r1
      · show v = mI z 45 18
        exact z4.symm
      · show (-1 : Int32) = mI z 45 49
        rw [Z45 49 (by decide)]; rfl
      · rfl
      · show (0 : Int32) = mI z 45 13
        rw [z6]
      · intro k hk
        by_cases y : k = 5
        · subst y; rw [pk_us, pk_us, r6 5 (by decide)]
        · rw [pk_un y, pk_un (by omega), r6 k hk]
      · show rg 0 0 400
        unfold rg; decide
      · exact z5
      · show mI u 0 10 = mI z 45 53
        rw [Z45 53 (by decide)]; exact r9
      · exact r10
    · rw [W0]; rfl
    · show mI z 45 8 = _
      rw [Z45 8 (by decide)]; rfl
