/-! ===== s11 ===== -/
set_option maxRecDepth 100000 in
theorem hSh_q {u v : Mm} (h : hSh u) (k1 : mQ v = mQ u) (k2 : mK v = mK u) (k3 : mR v = mR u) : hSh v := by
  unfold hSh at h ⊢
  rw [k1, k2, k3]; exact h
set_option maxRecDepth 100000 in
theorem Rpa_r56 {c30 c31 c32 m45 m50 m51 row row' : Nat → Int32} (h : Rpa c30 c31 c32 m45 m50 m51 row) (h5 : row' 5 = row 5) (h6 : row' 6 = row 6) : Rpa c30 c31 c32 m45 m50 m51 row' := by
  unfold Rpa at h ⊢
  rw [h5, h6]; exact h
set_option maxRecDepth 100000 in
/-- the law is there already six times -/
theorem s11_full {u : Mm} (h : Rel LR u) (l2 : mI u 1 14 = nI 6) (l3 : mI u 47 2 = nI 6) : ∃ r u1 u2, fX8_law u 0 = some (r, u1) ∧ (mK u1 45).1 = 9 ∧ fX9_law u1 45 = some (r, u2) ∧ Rel LR u2 := by
  have hS := h.1
  have hS2 : hSh (wI u 0 (upd (mI u 0) 12 0)) := hS
  have hS1 : hSh (cRe (wI u 0 (upd (mI u 0) 12 0)) (-5) 4) := hS
  have hT : hSh (mT (cRe (wI u 0 (upd (mI u 0) 12 0)) (-5) 4)) := hS
  have hW : hSh (wI (mT (cRe (wI u 0 (upd (mI u 0) 12 0)) (-5) 4)) 45 (upd (mI (mT (cRe (wI u 0 (upd (mI u 0) 12 0)) (-5) 4)) 45) 13 0)) := hS
  have e1 : mI (wI u 0 (upd (mI u 0) 12 0)) 1 14 = nI 6 := l2
  have e2 : mI (mT (cRe (wI u 0 (upd (mI u 0) 12 0)) (-5) 4)) 47 2 = nI 6 := l3
  refine ⟨-5, cRe (wI u 0 (upd (mI u 0) 12 0)) (-5) 4, mRe (wI (mT (cRe (wI u 0 (upd (mI u 0) 12 0)) (-5) 4)) 45 (upd (mI (mT (cRe (wI u 0 (upd (mI u 0) 12 0)) (-5) 4)) 45) 13 0)) (-5) 5, ?_, hR45_Rel hS1, ?_, ?_⟩
  · unfold fX8_law
    rw [oK_of (sh0 hS), oI_of, oK_of (sh0 hS), oU_of, oK_of (sh0 hS2), rf0_0 hS2, oNn_of, oK_of (sh1 hS2), oI_of, e1, if_neg (by decide), oR_of (sh0 hS2), c_refuse hS2 (-5) 4 (by decide), oB_of]
  · unfold fX9_law
    rw [oK_of (sh45 hS1), oU_of]
    show oK (mT (cRe (wI u 0 (upd (mI u 0) 12 0)) (-5) 4)) 45 9 54 (oNn (mR (mT (cRe (wI u 0 (upd (mI u 0) 12 0)) (-5) 4)) 45 3) _) = _
    rw [oK_of (sh45 hT), rf45_3 hT, oNn_of, show (2 : Int32) = nI 2 from rfl]
    show oA (mT (cRe (wI u 0 (upd (mI u 0) 12 0)) (-5) 4)) 47 10 (nI 2) _ = _
    rw [oA_k (sh47 hT) (by decide) (by decide), clm (by decide)]
    show oI (mI (mT (cRe (wI u 0 (upd (mI u 0) 12 0)) (-5) 4)) 47 2) _ = _
    rw [e2, oI_of, if_pos (show nI 6 = 6 from rfl)]
    show oK (mT (cRe (wI u 0 (upd (mI u 0) 12 0)) (-5) 4)) 45 9 54 _ = _
    rw [oK_of (sh45 hT), oU_of]
    show oR (wI (mT (cRe (wI u 0 (upd (mI u 0) 12 0)) (-5) 4)) 45 (upd (mI (mT (cRe (wI u 0 (upd (mI u 0) 12 0)) (-5) 4)) 45) 13 0)) 45 9 (oB (fX9_answer (wI (mT (cRe (wI u 0 (upd (mI u 0) 12 0)) (-5) 4)) 45 (upd (mI (mT (cRe (wI u 0 (upd (mI u 0) 12 0)) (-5) 4)) 45) 13 0)) 45 (-5)) _) = _
    rw [oR_of (sh45 hW), m_refuse hW (-5) 5 (by decide), oB_of]
  · obtain ⟨r1, r2, r3, r4, r5, r6, r7, r8, r9, r10⟩ := h.2.2.1
    refine Rel_fin h rfl rfl rfl (fun a q1 q2 q3 q4 q5 => ?_) ⟨r1, r2, r3, rfl, rfl, fun k hk => ?_, ?_, r8, r9, r10⟩ rfl rfl
    · unfold mRe mT cRe
      simp only [mI_wI]
      rw [if_neg q5, if_neg q4, if_neg q4, if_neg q4, if_neg q3, if_neg q2, if_neg q2]
    · show upd (mI u 44) 4 (mI u 44 4 + 1) k = upd (mI u 46) 5 (mI u 46 5 + 1) (k + 1)
      by_cases z : k = 4
      · subst z; rw [pk_us, pk_us, r6 4 (by decide)]
      · rw [pk_un z, pk_un (by omega), r6 k hk]
    · show rg 0 0 400
      unfold rg; decide
set_option maxRecDepth 100000 in
theorem r_law {v : Mm} {nl : Nat} (hS : hSh v) (hl : nl < 6) (h2 : mI v 47 2 = nI nl) : fX9_law v 45 = oB (fX9_beginText (mT v) 45 0) (fun _ u4 => oR u4 45 9 (oB (fX9_readLaw u4 45) (fun _ u5 => rX9_law_37 hwF u5 45))) := by
  have hT : hSh (mT v) := hS
  have e2 : mI (mT v) 47 2 = nI nl := h2
  have n6 : ¬ nI nl = 6 := fun e => absurd ((nI_eq (a := nl) (b := 6) (by omega) (by omega)).mp e) (by omega)
  unfold fX9_law
  rw [oK_of (sh45 hS), oU_of]
  show oK (mT v) 45 9 54 (oNn (mR (mT v) 45 3) _) = _
  rw [oK_of (sh45 hT), rf45_3 hT, oNn_of, show (2 : Int32) = nI 2 from rfl]
  show oA (mT v) 47 10 (nI 2) _ = _
  rw [oA_k (sh47 hT) (by decide) (by decide), clm (by decide)]
  show oI (mI (mT v) 47 2) _ = _
  rw [e2, oI_of, if_neg n6]
  show oR (mT v) 45 9 _ = _
  rw [oR_of (sh45 hT)]
  rfl
set_option maxRecDepth 100000 in
/-- the text has a fault -/
theorem s11_flt {u u8 : Mm} {T : Nat → Int32} {n nl : Nat} {v : Int32} (h : Rel LR u) (hn : mI u 0 12 = nI n) (hl : nl < 6) (l2 : mI u 1 14 = nI nl) (l3 : mI u 47 2 = nI nl) (hT : Tap u T n) (c1 : fX4_readText (wI u 0 (upd (mI u 0) 12 0)) 19 42 (nI n) 1 = some (v, u8)) (c2 : RdF (wI u 0 (upd (mI u 0) 12 0)) u8) (nv : ¬ v = -1)
    (c3 : ∀ w, Tap w T n → ∃ s m, oB (fX9_beginText w 45 0) (fun _ u4 => oR u4 45 9 (oB (fX9_readLaw u4 45) (fun _ u5 => rX9_law_37 hwF u5 45))) = bX9_law_64 s 45 ∧ hSh s ∧ MdF w m ∧ FltE m s v) : ∃ r u1 u2, fX8_law u 0 = some (r, u1) ∧ (mK u1 45).1 = 9 ∧ fX9_law u1 45 = some (r, u2) ∧ Rel LR u2 := by
  have hS := h.1
  have hS2 : hSh (wI u 0 (upd (mI u 0) 12 0)) := hS
  have hS8 : hSh u8 := RdF_sh c2 hS2
  have hS9 : hSh (wI u8 0 (upd (mI u8 0) 13 v)) := hS8
  have hS1 : hSh (cRe (wI u8 0 (upd (mI u8 0) 13 v)) (-6) 5) := hS8
  have l6 : nI nl < 6 := nI_lt (b := 6) hl (by decide)
  have e1 : mI (wI u 0 (upd (mI u 0) 12 0)) 1 14 = nI nl := l2
  have e13 : mI (wI u8 0 (upd (mI u8 0) 13 v)) 0 13 = v := rfl
  have I8 : ∀ a, 28 < a → mI u8 a = mI u a := by
    intro a ha
    rw [c2.2.2.2.2 a (Or.inr ha), mI_wI, if_neg (by omega)]
  have I80 : ∀ j, j ≠ 12 → mI u8 0 j = mI u 0 j := by
    intro j hj
    rw [c2.2.2.2.2 0 (Or.inl (by decide))]
    show upd (mI u 0) 12 0 j = _
    rw [pk_un hj]
  have I812 : mI u8 0 12 = 0 := by
    rw [c2.2.2.2.2 0 (Or.inl (by decide))]; rfl
  have I8l : ∀ a, a < 19 → a ≠ 0 → mI u8 a = mI u a := by
    intro a ha h0
    rw [c2.2.2.2.2 a (Or.inl ha), mI_wI, if_neg h0]
  have q47 : mI (cRe (wI u8 0 (upd (mI u8 0) 13 v)) (-6) 5) 47 2 = nI nl := by
    show mI u8 47 2 = _
    rw [I8 47 (by decide)]; exact l3
  have tp : Tap (mT (cRe (wI u8 0 (upd (mI u8 0) 13 v)) (-6) 5)) T n := by
    refine tap_mv hT (show hSh u8 from hS8) ?_ ?_
    · show mI u8 45 13 = _
      rw [I8 45 (by decide)]
    · show mI u8 54 = _
      rw [I8 54 (by decide)]
  obtain ⟨s, m, k1, k2, k3, k4⟩ := c3 _ tp
  obtain ⟨z, z1, z2, z3, z4, z5, z6⟩ := r_64flt k2 k4
  have k5 := MdF_trans k3 z3
  refine ⟨-6, cRe (wI u8 0 (upd (mI u8 0) 13 v)) (-6) 5, mRe z (-6) 6, ?_, hR45_Rel hS1, ?_, ?_⟩
  · unfold fX8_law
    rw [oK_of (sh0 hS), oI_of, oK_of (sh0 hS), oU_of, oK_of (sh0 hS2), rf0_0 hS2, oNn_of, oK_of (sh1 hS2), oI_of, e1, if_pos l6, oK_of (sh0 hS2), rf0_3 hS2, oNn_of, oK_of (sh0 hS2), rf0_11 hS2, oNn_of, oR_of (sh19 hS2), hn, c1, oB_of, oK_of (sh0 hS8), oU_of, oK_of (sh0 hS9), oI_of, e13, if_neg nv, oR_of (sh0 hS9), c_refuse hS9 (-6) 5 (by decide), oB_of]
  · rw [r_law hS1 hl q47, k1, z1]
  · obtain ⟨r1, r2, r3, r4, r5, r6, r7, r8, r9, r10⟩ := h.2.2.1
    have Z0 : mI z 0 = upd (upd (mI u8 0) 13 v) 18 (-6) := k5.2.2.2.2.1 0 (by decide) (by decide) (by decide)
    have Z44 : mI z 44 = upd (mI u 44) 5 (mI u 44 5 + 1) := by
      rw [k5.2.2.2.2.1 44 (by decide) (by decide) (by decide), ← I8 44 (by decide)]; rfl
    have Z46 : mI z 46 = mI u 46 := by
      rw [k5.2.2.2.2.1 46 (by decide) (by decide) (by decide), ← I8 46 (by decide)]; rfl
    have Z45 : ∀ j, j ∉ [13, 14, 15, 16, 18, 19, 20, 21, 23, 26, 29, 30] → j ≠ 0 → mI z 45 j = mI u 45 j := by
      intro j hj j0
      rw [k5.2.2.2.2.2 j hj]
      show upd (mI u8 45) 0 0 j = _
      rw [pk_un j0, I8 45 (by decide)]
    have W0 : mI (mRe z (-6) 6) 0 = upd (upd (mI u8 0) 13 v) 18 (-6) := Z0
    have W44 : mI (mRe z (-6) 6) 44 = upd (mI u 44) 5 (mI u 44 5 + 1) := Z44
    have W46 : mI (mRe z (-6) 6) 46 = upd (mI u 46) 6 (mI u 46 6 + 1) := by
      show upd (mI z 46) 6 (mI z 46 6 + 1) = _
      rw [Z46]
    have W45 : mI (mRe z (-6) 6) 45 = upd (mI z 45) 1 (-6) := rfl
    refine Rel_fin h (k5.1.trans c2.1) (k5.2.1.trans c2.2.1) (k5.2.2.1.trans c2.2.2.1) (fun a q1 q2 q3 q4 q5 => ?_) ?_ ?_ ?_
    · have a1 : mI (mRe z (-6) 6) a = mI z a := by
        unfold mRe
        simp only [mI_wI]
        rw [if_neg q5, if_neg q4]
      rw [a1, k5.2.2.2.2.1 a q4 (by unfold scr at q1; simp at q1; omega) (by rintro rfl; exact absurd q1 (by decide))]
      unfold mT cRe
      simp only [mI_wI]
      rw [if_neg q4, if_neg q3, if_neg q2, if_neg q2]
      by_cases z : a < 19
      · exact I8l a z q2
      · exact I8 a (by unfold scr at q1; simp at q1; omega)
    · rw [W0, W44, W45, W46]
      refine ⟨?_, ?_, ?_, ?_, ?_, ?_, ?_, ?_, ?_, ?_⟩
      · show mI u8 0 14 = mI z 45 11
        rw [I80 14 (by decide), Z45 11 (by decide) (by decide)]; exact r1
      · show v = mI z 45 18
        exact z4.symm
      · show mI u8 0 15 = mI z 45 49
        rw [I80 15 (by decide), Z45 49 (by decide) (by decide)]; exact r3
      · rfl
      · show mI u8 0 12 = mI z 45 13
        rw [z6]; exact I812
      · intro k hk
        by_cases y : k = 5
        · subst y; rw [pk_us, pk_us, r6 5 (by decide)]
        · rw [pk_un y, pk_un (by omega), r6 k hk]
      · show rg (mI u8 0 12) 0 400
        rw [I812]; unfold rg; decide
      · exact z5
      · show mI u8 0 10 = mI z 45 53
        rw [I80 10 (by decide), Z45 53 (by decide) (by decide)]; exact r9
      · show mI u8 0 10 = 0 ∨ mI u8 0 10 = 1
        rw [I80 10 (by decide)]; exact r10
    · rw [W0]
      exact I80 10 (by decide)
    · exact Z45 8 (by decide) (by decide)
set_option maxRecDepth 100000 in
/-- the text is a law -/
theorem s11_ok {u u8 : Mm} {T : Nat → Int32} {n nl : Nat} (h : Rel LR u) (hn : mI u 0 12 = nI n) (n4 : n ≤ 400) (hr : ∀ i, i < n → rg (T i) 0 255) (hl : nl < 6) (l2 : mI u 1 14 = nI nl) (l3 : mI u 47 2 = nI nl) (hT : Tap u T n) (c1 : fX4_readText (wI u 0 (upd (mI u 0) 12 0)) 19 42 (nI n) 1 = some (-1, u8)) (c2 : RdF (wI u 0 (upd (mI u 0) 12 0)) u8)
    {L aN : Nat} (L4 : L ≤ 400) (h2 : mI u8 23 2 = nI L) (h6 : mI u8 23 6 = nI aN) (a12 : aN ≤ 12)
    (c3 : ∀ w, Tap w T n → ∃ c' p L' cd wt m' nc np no op ar pl pa A, u8 = cS c' (tM (tkOf T n)) p L' cd wt ∧ L' ≤ 400 ∧ oB (fX9_beginText w 45 0) (fun _ u4 => oR u4 45 9 (oB (fX9_readLaw u4 45) (fun _ u5 => rX9_law_37 hwF u5 45))) = bX9_law_64 (rS (tkOf T n) m' (tM (tkOf T n)) nc p np no op ar pl pa) 45 ∧ hSh m' ∧ MdF w m' ∧ mI m' 45 19 = 0 ∧ mI m' 45 18 = -1 ∧ aC A ≤ 12 ∧ mI m' 45 21 = nI (aC A) ∧ mI c' 23 6 = nI (aC A) ∧ nc ≤ 400 ∧ LI c' m' cd wt L' op ar nc A) : ∃ r u1 u2, fX8_law u 0 = some (r, u1) ∧ (mK u1 45).1 = 9 ∧ fX9_law u1 45 = some (r, u2) ∧ Rel LR u2 := by
  have hS := h.1
  have N71 : 71 ≤ mN u := hS.1
  have hS2 : hSh (wI u 0 (upd (mI u 0) 12 0)) := hS
  have hS8 : hSh u8 := RdF_sh c2 hS2
  obtain ⟨u9, hu9⟩ : ∃ u9, u9 = wI u8 0 (upd (mI u8 0) 13 (-1)) := ⟨_, rfl⟩
  have hS9 : hSh u9 := by rw [hu9]; exact hS8
  have N9 : mN u9 = mN u := by
    rw [hu9]; exact congrArg (fun q => q.1) c2.1
  have I9 : ∀ a, 28 < a → mI u9 a = mI u a := by
    intro a ha
    rw [hu9, mI_wI, if_neg (by omega), c2.2.2.2.2 a (Or.inr ha), mI_wI, if_neg (by omega)]
  have I9l : ∀ a, a < 19 → a ≠ 0 → mI u9 a = mI u a := by
    intro a ha h0
    rw [hu9, mI_wI, if_neg h0, c2.2.2.2.2 a (Or.inl ha), mI_wI, if_neg h0]
  have I90 : mI u9 0 = upd (upd (mI u 0) 12 0) 13 (-1) := by
    rw [hu9, mI_wI, if_pos rfl, c2.2.2.2.2 0 (Or.inl (by decide)), mI_wI, if_pos rfl]
  have I9c : ∀ a, 0 < a → mI u9 a = mI u8 a := by
    intro a ha
    rw [hu9, mI_wI, if_neg (by omega)]
  have K9 : mK u9 = mK u := by rw [hu9]; exact c2.2.1
  have R9 : mR u9 = mR u := by rw [hu9]; exact c2.2.2.1
  have L9 : mL u9 = mL u := by rw [hu9]; exact c2.2.2.2.1
  obtain ⟨Kd, F, Q, d1, ⟨dk0, dk1, dk2, dk3, dk4, dk5⟩, ⟨dq0, dq1, dq3, dq4, dq5⟩, df2, df6, dfc, df3, df5⟩ := c_newtext (u := u9) hS9 (L := L) (n := aN) (by omega) a12 (by rw [I9c 23 (by decide)]; exact h2) (by rw [I9c 23 (by decide)]; exact h6)
  have hNM : hSh (NM u9 6 Kd F Q) := by
    have N9' : 71 ≤ mN u9 := by omega
    exact hSh_of hS9 (by rw [NM_n]; omega) (fun a ha => NM_ko (by omega)) (fun a ha _ _ => NM_ro (by omega)) (fun a ha => NM_lo (by omega))
  have hwN : hSh (wN u9 6 7) := by
    have N9' : 71 ≤ mN u9 := by omega
    have e : wN u9 6 7 = NM u9 1 (fs_ (fun _ => (0, 0)) 0 (6, 7)) (fs_ (fun _ _ => 0) 0 (fun _ => 0)) (fs_ (fun _ _ => none) 0 (fun _ => none)) := by
      have := NM_wN (u := u9) (j := 0) (Kd := fun _ => (0, 0)) (F := fun _ _ => 0) (Q := fun _ _ => none) (k := 6) (n := 7)
      rw [NM_0] at this
      exact this
    rw [e]
    exact hSh_of hS9 (by rw [NM_n]; omega) (fun a ha => NM_ko (by omega)) (fun a ha _ _ => NM_ro (by omega)) (fun a ha => NM_lo (by omega))
  obtain ⟨u20, hu20⟩ : ∃ u20, u20 = wR (NM u9 6 Kd F Q) 12 (va_up (mR (NM u9 6 Kd F Q) 12) nl (some (mN u9))) := ⟨_, rfl⟩
  have hS20 : hSh u20 := by
    rw [hu20]
    refine hSh_of hNM (Nat.le_refl _) (fun a _ => rfl) (fun a _ h12 _ => ?_) (fun a _ => rfl)
    show (if a = 12 then _ else mR (NM u9 6 Kd F Q) a) = _
    rw [if_neg h12]
  have I20 : ∀ a, a < mN u9 → mI u20 a = mI u9 a := by
    intro a ha
    rw [hu20]; exact NM_io (j := 6) (Kd := Kd) (F := F) (Q := Q) ha
  have e20 : mI u20 1 14 = nI nl := by
    rw [I20 1 (by omega), I9l 1 (by decide) (by decide)]; exact l2
  have e9 : mI u9 1 14 = nI nl := by rw [I9l 1 (by decide) (by decide)]; exact l2
  obtain ⟨u23, hu23⟩ : ∃ u23, u23 = wI u20 1 (upd (mI u20 1) 14 (nI (nl + 1))) := ⟨_, rfl⟩
  have hS23 : hSh u23 := by rw [hu23]; exact hS20
  obtain ⟨u1, hu1⟩ : ∃ u1, u1 = wI u23 0 (upd (mI u23 0) 18 0) := ⟨_, rfl⟩
  have hS1 : hSh u1 := by rw [hu1]; exact hS23
  have l6 : nI nl < 6 := nI_lt (b := 6) hl (by decide)
  have e1 : mI (wI u 0 (upd (mI u 0) 12 0)) 1 14 = nI nl := l2
  have C : fX8_law u 0 = some (nI nl, u1) := by
    unfold fX8_law
    rw [oK_of (sh0 hS), oI_of, oK_of (sh0 hS), oU_of, oK_of (sh0 hS2), rf0_0 hS2, oNn_of, oK_of (sh1 hS2), oI_of, e1, if_pos l6, oK_of (sh0 hS2), rf0_3 hS2, oNn_of, oK_of (sh0 hS2), rf0_11 hS2, oNn_of, oR_of (sh19 hS2), hn, c1, oB_of, oK_of (sh0 hS8), oU_of, ← hu9, oK_of (sh0 hS9), oI_of, show mI u9 0 13 = -1 by rw [I90]; rfl, if_pos rfl, oK_of (sh0 hS9), rf0_0 hS9, oNn_of, oK_of (sh1 hS9), oI_of, e9, oK_of (sh0 hS9), oNn_of, oK_of (sh1 hS9), rf1_13 hS9, oNn_of, oP_of, oU_of, oK_of (sh0 hwN), rf0_3 hwN, oNn_of, oK_of (sh19 hwN), rf19_7 hwN, oNn_of, d1, oB_of, oA_k (sh12 hNM) hl (by decide), clm (by omega)]
    have eS : ∀ {X : Option (Int32 × Mm)}, oS (NM u9 6 Kd F Q) (some (mN u9)) 6 X = X := by
      intro X
      show (if (mK (NM u9 6 Kd F Q) (mN u9)).1 = 6 then X else none) = X
      rw [NM_k0 (by decide), dk0]; exact if_pos rfl
    rw [eS, oU_of, ← hu20, oK_of (sh0 hS20), rf0_0 hS20, oNn_of, oK_of (sh1 hS20), oI_of, e20, oK_of (sh1 hS20), nI_1, oU_of, ← hu23, oR_of (sh0 hS23), c_accept hS23, oB_of, ← hu1]
  have I1 : ∀ a, a ≠ 0 → a ≠ 1 → a < mN u9 → mI u1 a = mI u9 a := by
    intro a a0 a1 ha
    rw [hu1, mI_wI, if_neg a0, hu23, mI_wI, if_neg a1, I20 a ha]
  have I10 : mI u1 0 = upd (upd (upd (mI u 0) 12 0) 13 (-1)) 18 0 := by
    rw [hu1, mI_wI, if_pos rfl, hu23, mI_wI, if_neg (by decide), I20 0 (by omega), I90]
  have I11 : mI u1 1 = upd (mI u 1) 14 (nI (nl + 1)) := by
    rw [hu1, mI_wI, if_neg (by decide), hu23, mI_wI, if_pos rfl, I20 1 (by omega), I9l 1 (by decide) (by decide)]
  have K1 : mK u1 = mK (NM u9 6 Kd F Q) := by rw [hu1, hu23, hu20]; rfl
  have L1 : mL u1 = mL (NM u9 6 Kd F Q) := by rw [hu1, hu23, hu20]; rfl
  have N1 : mN u1 = mN u9 + 6 := by rw [hu1, hu23, hu20]; rfl
  have R1 : ∀ a, mR u1 a = if a = 12 then va_up (mR (NM u9 6 Kd F Q) 12) nl (some (mN u9)) else mR (NM u9 6 Kd F Q) a := by
    intro a; rw [hu1, hu23, hu20]; rfl
  have In : ∀ i, i < 6 → mI u1 (mN u9 + i) = F i := by
    intro i hi
    rw [hu1, mI_wI, if_neg (by omega), hu23, mI_wI, if_neg (by omega), hu20]
    exact NM_i (Kd := Kd) (Q := Q) hi
  have q47 : mI u1 47 = mI u 47 := by rw [I1 47 (by decide) (by decide) (by omega), I9 47 (by decide)]
  have tp : Tap (mT u1) T n := by
    refine tap_mv hT hS1 ?_ ?_
    · show upd (mI u1 45) 0 0 13 = _
      rw [pk_un (by decide), I1 45 (by decide) (by decide) (by omega), I9 45 (by decide)]
    · show mI u1 54 = _
      rw [I1 54 (by decide) (by decide) (by omega), I9 54 (by decide)]
  obtain ⟨c', p, L', cd, wt, m', nc, np, no, op, ar, pl, pa, A, e8, L4', k1, k2, k3, k4, k5, k12, k21, k23, k8, k9⟩ := c3 _ tp
  have eL : L' = L := (nI_eq (by omega) (by omega)).mp (by rw [← h2, e8]; rfl)
  have k6 : aC A = aN := (nI_eq (by omega) (by omega)).mp (by rw [← h6, ← k23, e8]; rfl)
  have k7 : mI m' 45 21 = nI aN := by rw [← k6]; exact k21
  subst eL
  obtain ⟨s, hs⟩ : ∃ s, s = rS (tkOf T n) m' (tM (tkOf T n)) nc p np no op ar pl pa := ⟨_, rfl⟩
  have hSs : hSh s := by rw [hs]; exact k2
  have hTk := TkO_of (T := T) n4 hr
  have E := r_endG hSs (by rw [hs]; exact k4) (by rw [hs]; exact (hTk.2.2.2.2.2.2.1 _ (Nat.le_refl _)).mpr rfl)
  obtain ⟨W, hW⟩ : ∃ W, W = eT s := ⟨_, rfl⟩
  rw [← hW] at E
  have hSW : hSh W := by rw [hW]; exact hSs
  have MD : MdF (mT u1) W := by rw [hW, hs]; exact MdF_trans k3 (MdF_trans MdF_rS MdF_eT)
  have W47 : mI W 47 = mI u 47 := (MD.2.2.2.2.1 47 (by decide) (by decide) (by decide)).trans q47
  have W19 : mI W 45 19 = 0 := by rw [hW, hs]; exact k4
  have W18 : mI W 45 18 = -1 := by rw [hW, hs]; exact k5
  have W13 : mI W 45 13 = 0 := by rw [hW]; rfl
  have W20 : mI W 45 20 = 0 := by rw [hW]; rfl
  have W56 : mI W 56 = op := by rw [hW, hs]; rfl
  have W57 : mI W 57 = ar := by rw [hW, hs]; rfl
  have W55 : mI W 55 = mI m' 55 := by rw [hW, hs]; rfl
  have M := r_64ok E hSs hSW W19 hl (by rw [W47]; exact l3) a12 (by rw [hW, hs]; exact k7) k8 (by rw [hW, hs]; rfl)
  obtain ⟨v, hv⟩ : ∃ v, v = wI (wI W 47 (rowF W (130 + 900 * nl) aN nc nl)) 45 (upd (mI W 45) 1 0) := ⟨_, rfl⟩
  rw [← hv] at M
  refine ⟨nI nl, u1, v, C, hR45_Rel hS1, ?_, ?_⟩
  · rw [r_law hS1 hl (by rw [q47]; exact l3), k1, ← hs, M]
  have VI : ∀ a, a ≠ 45 → a ≠ 47 → (a < 55 ∨ 59 < a) → a ≠ 69 → mI v a = mI u1 a := by
    intro a a1 a2 a3 a4
    rw [hv, mI_wI, if_neg a1, mI_wI, if_neg a2, MD.2.2.2.2.1 a a1 a3 a4]
    unfold mT
    rw [mI_wI, if_neg a1]
  have V47 : mI v 47 = rowF W (130 + 900 * nl) aN nc nl := by rw [hv]; rfl
  have V45 : ∀ j, j ∉ [13, 14, 15, 16, 18, 19, 20, 21, 23, 26, 29, 30] → j ≠ 0 → j ≠ 1 → mI v 45 j = mI u 45 j := by
    intro j hj j0 j1
    rw [hv]
    show upd (mI W 45) 1 0 j = _
    rw [pk_un j1, MD.2.2.2.2.2 j hj]
    show upd (mI u1 45) 0 0 j = _
    rw [pk_un j0, I1 45 (by decide) (by decide) (by omega), I9 45 (by decide)]
  have VK : mK v = mK u1 := by rw [hv]; exact MD.2.1
  have VR : mR v = mR u1 := by rw [hv]; exact MD.2.2.1
  have VQ : mQ v = mQ u1 := by rw [hv]; exact MD.1
  have VN : mN v = mN u + 6 := by
    have : mN v = mN u1 := congrArg (fun q => q.1) VQ
    rw [this, N1, N9]
  have hSv : hSh v := hSh_q hS1 VQ VK VR
  have VU : ∀ a, a ≠ 45 → a ≠ 47 → a ≠ 0 → a ≠ 1 → (a < 19 ∨ 28 < a) → (a < 55 ∨ 59 < a) → a ≠ 69 → a < mN u → mI v a = mI u a := by
    intro a a1 a2 a3 a4 a5 a6 a7 a8
    rw [VI a a1 a2 a6 a7, I1 a a3 a4 (by omega)]
    rcases a5 with z | z
    · exact I9l a z a3
    · exact I9 a z
  have V0 : mI v 0 = upd (upd (upd (mI u 0) 12 0) 13 (-1)) 18 0 := by rw [VI 0 (by decide) (by decide) (by decide) (by decide), I10]
  have V1 : mI v 1 = upd (mI u 1) 14 (nI (nl + 1)) := by rw [VI 1 (by decide) (by decide) (by decide) (by decide), I11]
  have Vrow : ∀ i, i < 130 + 900 * nl + 1 → mI v 47 i = upd (mI u 47) 2 (nI (nl + 1)) i := by
    intro i hi
    rw [V47]
    by_cases z : i = 2
    · subst z; unfold rowF; rw [pk_us, pk_us]
    · rw [row_lo hi z, pk_un z, W47]
  obtain ⟨o1, o2, o3, o4, o5, o6, o7⟩ := h
  refine ⟨hSv, ?_, ?_, ?_, ?_, ?_, ?_⟩
  · have b1 : Rbk (bset (fun j => mI u (1 + j)) 0 14 (nI (nl + 1))) (upd (mI u 47) 2 (nI (nl + 1))) := by
      refine ⟨cls_set o2.1 (by decide) rfl, Rrg_set o2.2 ?_ ?_⟩
      · show rg (nI (nl + 1)) 0 6
        unfold rg
        rw [nI_toInt (by omega)]; omega
      · rw [pk_us, pk_un (by decide)]
        have := o2.2.2
        rw [l3, nI_toInt (by omega)] at this
        rw [nI_toInt (by omega)]; omega
    refine Rbk_eq b1 (fun j hj => ?_) (fun i hi => Vrow i (by omega))
    show mI v (1 + j) = bset (fun j => mI u (1 + j)) 0 14 (nI (nl + 1)) j
    unfold bset
    by_cases z : j = 0
    · subst z; rw [if_pos rfl]; exact V1
    · rw [if_neg z]; exact VU (1 + j) (by omega) (by omega) (by omega) (by omega) (by omega) (by omega) (by omega) (by omega)
  · obtain ⟨r1, r2, r3, r4, r5, r6, r7, r8, r9, r10⟩ := o3
    rw [V0, VU 44 (by decide) (by decide) (by decide) (by decide) (by decide) (by decide) (by decide) (by omega), VU 46 (by decide) (by decide) (by decide) (by decide) (by decide) (by decide) (by decide) (by omega)]
    refine ⟨?_, ?_, ?_, ?_, ?_, r6, ?_, ?_, ?_, ?_⟩
    · show mI u 0 14 = _
      rw [V45 11 (by decide) (by decide) (by decide)]; exact r1
    · show (-1 : Int32) = mI v 45 18
      rw [hv]; exact W18.symm
    · show mI u 0 15 = _
      rw [V45 49 (by decide) (by decide) (by decide)]; exact r3
    · rw [hv]; rfl
    · show (0 : Int32) = mI v 45 13
      rw [hv]; exact W13.symm
    · show rg 0 0 400
      unfold rg; decide
    · rw [hv]; exact W20
    · show mI u 0 10 = _
      rw [V45 53 (by decide) (by decide) (by decide)]; exact r9
    · exact r10
  · rw [VU 42 (by decide) (by decide) (by decide) (by decide) (by decide) (by decide) (by decide) (by omega), VU 54 (by decide) (by decide) (by decide) (by decide) (by decide) (by decide) (by decide) (by omega)]
    exact o4
  · unfold Rde at o5 ⊢
    rw [V0, VU 41 (by decide) (by decide) (by decide) (by decide) (by decide) (by decide) (by decide) (by omega), VU 70 (by decide) (by decide) (by decide) (by decide) (by decide) (by decide) (by decide) (by omega)]
    exact o5
  · rw [VU 30 (by decide) (by decide) (by decide) (by decide) (by decide) (by decide) (by decide) (by omega), VU 31 (by decide) (by decide) (by decide) (by decide) (by decide) (by decide) (by decide) (by omega), VU 32 (by decide) (by decide) (by decide) (by decide) (by decide) (by decide) (by decide) (by omega), VU 50 (by decide) (by decide) (by decide) (by decide) (by decide) (by decide) (by decide) (by omega), VU 51 (by decide) (by decide) (by decide) (by decide) (by decide) (by decide) (by decide) (by omega)]
    refine Rpa_r56 (Rpa_eq (m50' := mI u 50) o6 (V45 8 (by decide) (by decide) (by decide)) (fun _ _ => rfl)) ?_ ?_
    · rw [Vrow 5 (by omega), pk_un (by decide)]
    · rw [Vrow 6 (by omega), pk_un (by decide)]
  · have LI' : LI c' m' cd wt L' (mI W 56) (mI W 57) nc A := by rw [W56, W57]; exact k9
    have kN : ∀ i, i < 6 → mK v (mN u + i) = Kd i := by
      intro i hi
      rw [VK, K1, ← N9]; exact NM_k (F := F) (Q := Q) hi
    have rN : ∀ i, i < 6 → mR v (mN u + i) = Q i := by
      intro i hi
      rw [VR, R1, if_neg (by omega), ← N9]; exact NM_r (Kd := Kd) (F := F) hi
    have iN : ∀ i, i < 6 → mI v (mN u + i) = F i := by
      intro i hi
      rw [VI (mN u + i) (by omega) (by omega) (by omega) (by omega), ← N9]; exact In i hi
    have k0 := kN 0 (by decide)
    have r0 := rN 0 (by decide)
    have i0 := iN 0 (by decide)
    rw [Nat.add_zero] at k0 r0 i0
    refine LR_add (A := A) hS o7 hl l2 (by omega) (fun a ha => ?_) (fun a a1 a2 => VU a (by omega) (by omega) (by omega) (by omega) (by omega) (by omega) (by omega) a2) (fun a ha h12 => ?_) (fun i => ?_) ?_ (VU 48 (by decide) (by decide) (by decide) (by decide) (by decide) (by decide) (by decide) (by omega)) (VU 49 (by decide) (by decide) (by decide) (by decide) (by decide) (by decide) (by decide) (by omega)) (fun i i1 i2 => ?_) ?_ ?_ ?_ (AOK_new k9)
    · rw [VK, K1, NM_ko (by omega), K9]
    · rw [VR, R1, if_neg h12, NM_ro (by omega), R9]
    · rw [VR, R1, if_pos rfl]
      show (if i = nl then some (mN u9) else mR (NM u9 6 Kd F Q) 12 i) = _
      rw [NM_ro (by omega), R9, N9]
    · rw [V1, pk_us]
    · rw [Vrow i (by omega), pk_un (by omega)]
    · rw [k0, dk0]
    · rw [← k6] at dk3 dk5 df6 df3 df5 a12
      refine CLaw_new (L := L') k9 a12 (by omega) (k0.trans dk0) ((kN 1 (by decide)).trans dk1) ((kN 2 (by decide)).trans dk2) ((kN 3 (by decide)).trans dk3) ((kN 5 (by decide)).trans dk5) (by rw [r0, dq0, N9]) (by rw [r0, dq1, N9]) (by rw [r0, dq3, N9]) (by rw [r0, dq4, N9]) (by rw [r0, dq5, N9]) (by rw [i0]; exact df2) (by rw [i0]; exact df6) (fun i hi => ?_) (fun i hi => ?_) (fun i hi => ?_)
      · rw [iN 1 (by decide), iN 2 (by decide), (dfc i hi).1, (dfc i hi).2, I9c 24 (by decide), I9c 25 (by decide), e8]
        exact ⟨rfl, rfl⟩
      · rw [iN 3 (by decide), df3 i hi, I9c 26 (by decide), e8]; rfl
      · rw [iN 5 (by decide), df5 i hi, I9c 28 (by decide), e8]; rfl
    · rw [V47, ← k6]
      rw [← k6] at a12
      exact RLaw_new (nl := nl) LI' W55 (by omega) a12 k8
set_option maxRecDepth 100000 in
theorem s11 : hwS_11 (Rel LR) := by
  intro u h
  obtain ⟨n, n4, n2, hT, hr⟩ := tap_of h
  obtain ⟨nl, l2, l6, -⟩ := h.2.2.2.2.2.2.1
  have l3 : mI u 47 2 = nI nl := (h.2.1.1 2 (by decide)).trans l2
  show ∃ r u1 u2, fX8_law u 0 = some (r, u1) ∧ (mK u1 45).1 = 9 ∧ fX9_law u1 45 = some (r, u2) ∧ Rel LR u2
  by_cases z : nl = 6
  · subst z; exact s11_full h l2 l3
  · have hl : nl < 6 := by omega
    have T2 : Tap (wI u 0 (upd (mI u 0) 12 0)) (mI u 42) n := tap_mv hT h.1 rfl rfl
    obtain ⟨v, u8, c1, c2, c3⟩ := J_law0 T2 hr (fun _ _ => rfl)
    by_cases nv : v = -1
    · subst nv
      obtain ⟨-, -, (⟨y1, -⟩ | ⟨-, c', p, L, cd, wt, m', nc, np, no, op, ar, pl, pa, A, y1, y2, y3, y4, y5, y6, y7, y8, y9, y10, y11, y12, y13⟩)⟩ := c3 _ T2
      · exact absurd rfl y1
      · refine s11_ok h n2 n4 hr hl l2 l3 hT c1 c2 y2 (by rw [y1]; rfl) (by rw [y1]; exact y11) y9 (fun w hw => ?_)
        obtain ⟨y, e, (⟨x1, -⟩ | ⟨-, c2', p2, L2, cd2, wt2, m2, nc2, np2, no2, op2, ar2, pl2, pa2, A2, x1, x2, x3, x4, x5, x6, x7, x8, x9, x10, x11, x12, x13⟩)⟩ := c3 w hw
        · exact absurd rfl x1
        · exact ⟨c2', p2, L2, cd2, wt2, m2, nc2, np2, no2, op2, ar2, pl2, pa2, A2, x1, x2, e.trans x3, x4, x5, x6, x7, x9, x10, x11, x12, x13⟩
    · refine s11_flt h n2 hl l2 l3 hT c1 c2 nv (fun w hw => ?_)
      obtain ⟨y, e, (⟨-, s, m, x1, x2, x3, x4⟩ | ⟨x1, -⟩)⟩ := c3 w hw
      · exact ⟨s, m, e.trans x1, x2, x3, x4⟩
      · exact absurd x1 nv
