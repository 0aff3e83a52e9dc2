/-! ===== law ===== -/
def A0_ : LawA := (0, fun _ => 0, fun _ => false, fun _ _ => 0, fun _ _ => 0)
set_option maxRecDepth 100000 in
theorem J_law0 {u : Mm} {T : Nat → Int32} {n : Nat} (h0 : Tap u T n) (hr : ∀ i, i < n → rg (T i) 0 255) (hu : ∀ i, i < n → mI u 42 i = T i) : ∃ v u8, fX4_readText u 19 42 (nI n) 1 = some (v, u8) ∧ RdF u u8 ∧ ∀ w, Tap w T n → ∃ y, oB (fX9_beginText w 45 0) (fun _ u4 => oR u4 45 9 (oB (fX9_readLaw u4 45) (fun _ u5 => rX9_law_37 hwF u5 45))) = y ∧
    ((¬ v = -1 ∧ ∃ s m, y = bX9_law_64 s 45 ∧ hSh s ∧ MdF w m ∧ FltE m s v) ∨
     (v = -1 ∧ ∃ c' p L cd wt m' nc np no op ar pl pa A, u8 = cS c' (tM (tkOf T n)) p L cd wt ∧ L ≤ 400 ∧ y = bX9_law_64 (rS (tkOf T n) m' (tM (tkOf T n)) nc p np no op ar pl pa) 45 ∧ hSh m' ∧ MdF w m' ∧ mI m' 45 19 = 0 ∧ mI m' 45 18 = -1 ∧ 1 ≤ aC A ∧ aC A ≤ 12 ∧ mI m' 45 21 = nI (aC A) ∧ mI c' 23 6 = nI (aC A) ∧ nc ≤ 400 ∧ LI c' m' cd wt L op ar nc A)) := by
  have hT := TkO_of (T := T) h0.2.1 hr
  obtain ⟨cT, e1, e2, e3, e4⟩ := c_readText (T := T) h0.1 hu h0.2.1 (q := false) (x := 1) rfl
  have go : ∀ w, Tap w T n → ∃ vF, MdF w vF ∧ Tap vF T n ∧ mI vF 45 19 = 0 ∧ mI vF 45 20 = 0 ∧ mI vF 45 18 = -1 ∧ LTx (tkOf T n) cT vF (fX4_readText u 19 42 (nI n) 1) (oB (fX9_beginText w 45 0) (fun _ u4 => oR u4 45 9 (oB (fX9_readLaw u4 45) (fun _ u5 => rX9_law_37 hwF u5 45)))) := by
    intro w hw
    obtain ⟨vF, np, no, b1, b2, b3, b4, b5, b6, b7, b8⟩ := r_beginText hw (q := false) (x := 0) rfl
    have hM : ∀ m', BFr vF m' → mI m' 45 19 = 0 → LXm (tkOf T n) false m' := by
      intro m' k1 k2
      refine LXm_of ⟨BFr_sh k1 b3.1, b3.2.1, ?_, fun i hi => ?_⟩ ?_ k2
      · rw [k1.2.2.2.2.2 13 (by decide) (by decide) (by decide)]; exact b3.2.2.1
      · rw [k1.2.2.2.2.1 54 (by decide) (by decide) (by decide)]; exact b3.2.2.2 i hi
      · rw [k1.2.2.2.2.2 20 (by decide) (by decide) (by decide)]; exact b4
    have sh : hSh (rS (tkOf T n) vF 0 0 0 np no (mI vF 56) (mI vF 57) (mI vF 58) (mI vF 59)) := b3.1
    have lt := J_ltext (t := tkOf T n) (m0 := vF) (c0 := cT) hT hM (Nf := 999987) (Ng := 999987) 12 cT vF 0 0 0 0 np no (mI cT 24) (mI cT 25) (mI vF 56) (mI vF 57) (mI vF 58) (mI vF 59) A0_ rfl (by decide) e2 CrF_rfl BFr_rfl b5 rfl (Nat.zero_le _) (Nat.le_refl 0) (by decide) (Nat.le_refl 0) e3 b7 (fun r hr => absurd hr (Nat.not_lt_zero r))
    refine ⟨vF, b2, b3, b5, b4, b6, ?_⟩
    rw [e1, b1, oB_of, oR_of (sh45 sh)]
    exact lt
  obtain ⟨v0, q1, q2, q3, q4, q5, v, c', k', p', L', cd', wt', x1, x2, x3, x4⟩ := go u h0
  refine ⟨v, cS c' k' p' L' cd' wt', x1, RdF_trans e4 (RdF_cS x2), fun w hw => ⟨_, rfl, ?_⟩⟩
  obtain ⟨vF, b1, b2, b3, b4, b5, v2, c2, k2, p2, L2, cd2, wt2, y1, y2, y3, y4⟩ := go w hw
  obtain ⟨z1, z2⟩ := some2 x1 y1
  have hM : ∀ m', BFr vF m' → mI m' 45 19 = 0 → LXm (tkOf T n) false m' := by
    intro m' k1 k2
    refine LXm_of ⟨BFr_sh k1 b2.1, b2.2.1, ?_, fun i hi => ?_⟩ ?_ k2
    · rw [k1.2.2.2.2.2 13 (by decide) (by decide) (by decide)]; exact b2.2.2.1
    · rw [k1.2.2.2.2.1 54 (by decide) (by decide) (by decide)]; exact b2.2.2.2 i hi
    · rw [k1.2.2.2.2.2 20 (by decide) (by decide) (by decide)]; exact b4
  have nm : ∀ i, i ≤ 400 → ¬ nI i = -1 := by
    intro i hi w
    have := congrArg Int32.toInt w
    rw [nI_toInt (by omega)] at this
    have m1 : (-1 : Int32).toInt = -1 := by decide
    omega
  rcases y4 with ⟨r1, s, r2, r3⟩ | ⟨r1, r2, m', nc, np, no, op, ar, pl, pa, A, r3, r4, r5, r6, r7, r8, r9, r10, r11, r12, r13⟩
  · refine Or.inl ⟨by rw [z1, r1]; exact nm _ (hT.2.2.2.2.2.2.2 k2 y3), s, vF, r2, ?_, b1, ?_⟩
    · rcases r3 with ⟨m', k, nc, nl, np, no, op, ar, pl, pa, rfl, w1, -⟩ | ⟨m', nc, np, no, op, ar, pl, pa, rfl, w1, -⟩
      · exact show hSh m' from BFr_sh w1 b2.1
      · exact show hSh m' from BFr_sh w1 b2.1
    · rw [z1, r1]
      refine Flt_of hT b2.1 hM ?_
      rcases r3 with w | ⟨m', nc, np, no, op, ar, pl, pa, w⟩
      · exact Or.inl w
      · exact Or.inr ⟨m', nc, p2, np, no, op, ar, pl, pa, w⟩
  · subst r4
    exact Or.inr ⟨z1.trans r1, c2, p2, L2, cd2, wt2, m', nc, np, no, op, ar, pl, pa, A, z2, r2, r3, BFr_sh r5 b2.1, MdF_trans b1 (MdF_BFr r5), r6, r7.trans b5, r8, r9, r10, r11, r12, r13⟩
set_option maxRecDepth 100000 in
/-- what the reference then answers to a fault -/
theorem r_64flt {m s : Mm} {v : Int32} (hs : hSh s) (h : FltE m s v) : ∃ z, bX9_law_64 s 45 = some (-6, mRe z (-6) 6) ∧ hSh z ∧ MdF m z ∧ mI z 45 18 = v ∧ mI z 45 20 = 0 ∧ mI z 45 13 = 0 := by
  obtain ⟨z, z1, z2, z3, z4, z5, z6, z7⟩ := h
  refine ⟨z, ?_, z2, z3, z5, z6, z7⟩
  unfold bX9_law_64
  rw [oR_of (sh45 hs), z1, oB_of, oK_of (sh45 z2), oI_of, z4, if_neg (by decide), oR_of (sh45 z2), m_refuse z2 (-6) 6 (by decide), oB_of]
