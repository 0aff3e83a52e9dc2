/-! ===== s12: the run begins ===== -/
set_option maxRecDepth 100000 in
theorem JA_c2 {c c' m : Mm} {q : Option Nat} (h : JA c m q) (k1 : mQ c' = mQ c) (k2 : mK c' = mK c) (k3 : mR c' = mR c) (k4 : ∀ a, a = 1 ∨ a = 3 ∨ a = 4 ∨ a = 5 ∨ a = 30 ∨ a = 31 ∨ a = 32 ∨ 71 ≤ a → mI c' a = mI c a) : JA c' m q := by
  obtain ⟨⟨h1, h2, h3, h4, h5, h6, h7, h8, h9, h10, h11⟩, hL, hQ, hP⟩ := h
  have hs := hSh_q h1 k1 k2 k3
  refine ⟨⟨hs, h2, Fr2 hs, h4, h5, ?_, ?_, ?_, ?_, ?_, h11⟩, ?_, ?_, ?_⟩
  · rw [k4 (2 + 1) (by decide)]; exact h6
  · rw [k4 (2 + 1) (by decide)]; exact h7
  · rw [k4 1 (by decide)]; exact h8
  · rw [k4 4 (by decide)]; exact h9
  · rw [k4 5 (by decide)]; exact h10
  · rcases hL with z | ⟨i, t, A, z1, z2, z3, z4, z5, z6, z7⟩
    · exact Or.inl z
    · exact Or.inr ⟨i, t, A, z1, z2, z3, z4, CLaw_at z5 (fun a a1 a2 => ⟨by rw [k2], by rw [k3], k4 a (by omega)⟩), z6, z7⟩
  · unfold JQ at hQ ⊢
    rw [k4 1 (by decide), k3]; exact hQ
  · rw [k4 30 (by decide), k4 31 (by decide), k4 32 (by decide)]; exact hP
set_option maxRecDepth 100000 in
theorem JA_m2 {u m m' : Mm} {q : Option Nat} (h : JA u m q) (h0 : hSh m') (h1 : mI m' 47 = mI m 47) (h2 : mI m' 45 20 = mI m 45 20) (h3 : mI m' 45 8 = mI m 45 8) (h4 : ∀ i, i < 496 → mI m' 50 i = mI m 50 i) (h5 : mI m' 51 = mI m 51) : JA u m' q := by
  obtain ⟨hB, hL, hQ, hP⟩ := h
  refine ⟨JB_m hB h0 h1 h2, JL_m hL h1, hQ, ?_⟩
  rw [h1, h5]
  exact Rpa_eq hP h3 h4
/-- the class before it runs -/
def C1_ (u5 : Mm) : Mm := wI (U8 u5 (-1)) 39 (va_cpy (mI (U8 u5 (-1)) 3) (mI (U8 u5 (-1)) 39) 0 0 29)
def C2_ (u5 : Mm) : Mm := pC (C1_ u5) 33 30
set_option maxRecDepth 100000 in
theorem C2_i {u5 : Mm} {a : Nat} (h : a ≠ 0 ∧ a ≠ 33 ∧ a ≠ 34 ∧ a ≠ 35 ∧ a ≠ 39) : mI (C2_ u5) a = mI u5 a := by
  obtain ⟨h1, h2, h3, h4, h5⟩ := h
  unfold C2_ pC C1_ U8
  simp only [mI_wI]
  rw [if_neg h2, if_neg h2, if_neg (by omega), if_neg (by omega), if_neg h5, if_neg h1]
/-- the reference, from what it had to what it runs from -/
def RkF (w k : Mm) : Prop := mQ k = mQ w ∧ mK k = mK w ∧ mR k = mR w ∧ (∀ a, a ≠ 45 → a ≠ 50 → a ≠ 52 → a ≠ 53 → (a < 55 ∨ 59 < a) → a ≠ 69 → mI k a = mI w a) ∧ (∀ i, i < 527 → mI k 50 i = mI w 50 i) ∧ (∀ i, i < 31 → mI k 50 (527 + i) = mI w 47 (4 + i)) ∧ (∀ i, i < 496 → mI k 52 i = mI w 50 i) ∧ (∀ i, i < 16 → mI k 53 i = mI w 51 i) ∧ (∀ j, j ∉ [13, 14, 15, 16, 18, 19, 20, 21, 23, 26, 29, 30, 47, 48] → mI k 45 j = mI w 45 j) ∧ mI k 45 13 = 0 ∧ mI k 45 18 = -1 ∧ mI k 45 20 = 0
set_option maxRecDepth 100000 in
theorem RkF_of {w W : Mm} (MD : MdF w W) (h13 : mI W 45 13 = 0) (h18 : mI W 45 18 = -1) (h20 : mI W 45 20 = 0) : RkF w (kO (wI W 50 (kF (mI W 50) (mI W 47) 17 31))) := by
  have m50 : mI W 50 = mI w 50 := MD.2.2.2.2.1 50 (by decide) (by decide) (by decide)
  have m47 : mI W 47 = mI w 47 := MD.2.2.2.2.1 47 (by decide) (by decide) (by decide)
  have m51 : mI W 51 = mI w 51 := MD.2.2.2.2.1 51 (by decide) (by decide) (by decide)
  have k50 : mI (kO (wI W 50 (kF (mI W 50) (mI W 47) 17 31))) 50 = kF (mI W 50) (mI W 47) 17 31 := rfl
  refine ⟨MD.1, MD.2.1, MD.2.2.1, fun a a1 a2 a3 a4 a5 a6 => ?_, fun i hi => ?_, fun i hi => ?_, fun i hi => ?_, fun i hi => ?_, fun j hj => ?_, h13, h18, h20⟩
  · unfold kO
    simp only [mI_wI]
    rw [if_neg a1, if_neg a4, if_neg a3, if_neg a2, MD.2.2.2.2.1 a a1 a5 a6]
  · rw [k50, kF_off (by omega), m50]
  · rw [k50, show 527 + i = 31 * 17 + i by omega, kF_at hi, m47]
  · show cpF (kF (mI W 50) (mI W 47) 17 31) (mI W 52) 496 i = _
    rw [cpF_lt hi, kF_off (by omega), m50]
  · show cpF (mI W 51) (mI W 53) 16 i = _
    rw [cpF_lt hi, m51]
  · show upd (upd (mI W 45) 47 0) 48 (-1) j = _
    rw [pk_un (fun e => hj (by rw [e]; decide)), pk_un (fun e => hj (by rw [e]; decide)), MD.2.2.2.2.2 j (fun e => hj (by
      simp only [List.mem_cons, List.mem_nil_iff, or_false] at e ⊢
      omega))]
set_option maxRecDepth 100000 in
theorem ord_w {u u5 w : Mm} {q : Option Nat} {T : Nat → Int32} {n : Nat} (hJ : JA u u q) (n4 : n ≤ 400) (hr : ∀ i, i < n → rg (T i) 0 255) (c2 : RdF u u5) (hw : Tap w T n) (w47 : mI w 47 = mI u 47) (w8 : mI w 45 8 = mI u 45 8) (w50 : mI w 50 = mI u 50) (w51 : mI w 51 = mI u 51)
    {c' : Mm} {p L : Nat} {cd wt : Nat → Int32} {m' : Mm} {nc np no : Nat} {op ar pl pa : Nat → Int32} {N : Nat} {hh xx : Nat → Nat} {tt : Nat → Bool} {fV : Nat → (Nat → Int32) → Int64} {fS : Nat → Nat → (Nat → Int32) → Int64} (y1 : u5 = cS c' (tM (tkOf T n)) p L cd wt) (y2 : L ≤ 400) (y4 : hSh m') (y5 : MdF w m') (y6 : mI m' 45 19 = 0) (y7 : mI m' 45 18 = -1) (y9 : N ≤ 12) (y10 : mI m' 45 21 = nI N) (y11 : mI c' 23 6 = nI N) (y12 : nc ≤ 400) (y13 : OI c' m' cd wt L op ar nc N hh xx tt fV fS) : ∃ k, RkF w k ∧ FOut (C2_ u5) k q (mI u 45 8) (fX8_runOrders (C2_ u5) 0 23) (bX9_orders_46 (rS (tkOf T n) m' (tM (tkOf T n)) nc p np no op ar pl pa) 45) := by
  have hTk := TkO_of (T := T) n4 hr
  obtain ⟨s, hs⟩ : ∃ s, s = rS (tkOf T n) m' (tM (tkOf T n)) nc p np no op ar pl pa := ⟨_, rfl⟩
  have hSs : hSh s := by rw [hs]; exact y4
  have E := r_endG hSs (by rw [hs]; exact y6) (by rw [hs]; exact (hTk.2.2.2.2.2.2.1 _ (Nat.le_refl _)).mpr rfl)
  obtain ⟨W, hW⟩ : ∃ W, W = eT s := ⟨_, rfl⟩
  rw [← hW] at E
  have hSW : hSh W := by rw [hW]; exact hSs
  have MD : MdF w W := by rw [hW, hs]; exact MdF_trans y5 (MdF_trans MdF_rS MdF_eT)
  have W19 : mI W 45 19 = 0 := by rw [hW, hs]; exact y6
  have K := RkF_of MD (by rw [hW]; rfl) (by rw [hW, hs]; exact y7) (by rw [hW]; rfl)
  have hK : hSh (wI W 50 (kF (mI W 50) (mI W 47) 17 31)) := hSW
  have e8 : mI (wI W 50 (kF (mI W 50) (mI W 47) 17 31)) 45 8 = mI u 45 8 := by
    show mI W 45 8 = _
    rw [MD.2.2.2.2.2 8 (by decide), w8]
  have Y : bX9_orders_46 s 45 = rX9_orders_140 hwF (kO (wI W 50 (kF (mI W 50) (mI W 47) 17 31))) 45 (mI u 45 8) 0 := by
    unfold bX9_orders_46
    rw [oR_of (sh45 hSs), E, oB_of, oK_of (sh45 hSW), oI_of, W19, if_pos rfl, oR_of (sh45 hSW), show (17 : Int32) = nI 17 from rfl, m_keepAll hSW (by decide), oB_of, oK_of (sh45 hK), oI_of, e8, r_keep hK]
  refine ⟨_, K, ?_⟩
  rw [← hs, Y]
  have hSu := hJ.1.1
  have hS5 : hSh u5 := RdF_sh c2 hSu
  have hC2 : hSh (C2_ u5) := hS5
  have A1 : JA (C2_ u5) u q := by
    refine JA_c2 hJ c2.1 c2.2.1 c2.2.2.1 (fun a ha => ?_)
    rw [C2_i (by omega), c2.2.2.2.2 a (by omega)]
  have A2 : JA (C2_ u5) (kO (wI W 50 (kF (mI W 50) (mI W 47) 17 31))) q := by
    refine JA_m2 A1 hSW ?_ ?_ ?_ (fun i hi => ?_) ?_
    · rw [K.2.2.2.1 47 (by decide) (by decide) (by decide) (by decide) (by decide) (by decide), w47]
    · rw [K.2.2.2.2.2.2.2.2.2.2.2]; exact hJ.1.2.2.2.2.1.symm
    · rw [K.2.2.2.2.2.2.2.2.1 8 (by decide), w8]
    · rw [K.2.2.2.2.1 i (by omega), w50]
    · rw [K.2.2.2.1 51 (by decide) (by decide) (by decide) (by decide) (by decide) (by decide), w51]
  have k56 : mI (kO (wI W 50 (kF (mI W 50) (mI W 47) 17 31))) 56 = op := by
    show mI W 56 = op
    rw [hW, hs]; rfl
  have k57 : mI (kO (wI W 50 (kF (mI W 50) (mI W 47) 17 31))) 57 = ar := by
    show mI W 57 = ar
    rw [hW, hs]; rfl
  have k69 : mI (kO (wI W 50 (kF (mI W 50) (mI W 47) 17 31))) 69 = mI m' 69 := by
    show mI W 69 = _
    rw [hW, hs]; rfl
  have k21 : mI (kO (wI W 50 (kF (mI W 50) (mI W 47) 17 31))) 45 21 = nI N := by
    show mI W 45 21 = _
    rw [hW, hs]; exact y10
  refine J_runs (hh := hh) (xx := xx) (tt := tt) (fV := fV) (fS := fS) ⟨y9, ?_, k21, fun r hr => ?_⟩ A2 rfl rfl
  · rw [C2_i (by decide), y1]; exact y11
  · obtain ⟨g1, g2, g3, g4, g5, g6, g7⟩ := y13 r hr
    have ov : OV u5 r (hh r) (xx r) (tt r) (fV r) (fS r) := by
      refine OV_of (cd := cd) (wt := wt) (L := L) hS5 y2 (by rw [y1]; rfl) (by rw [y1]; rfl) (by rw [y1]; rfl) ?_
      rw [y1]; exact g6
    refine ⟨g1, g2, g3, g4, OV_at hS5 ov (fun a b1 b2 => ⟨rfl, rfl, C2_i (by omega)⟩), ?_⟩
    unfold Oq at g7 ⊢
    rw [k56, k57, k69]
    obtain ⟨f1, f2, f3, f4, f5, f6⟩ := g7
    refine ⟨f1, f2, fun q => ?_, f4, fun j hj => ?_, f6⟩
    · obtain ⟨a, b, z1, z2⟩ := f3 q
      exact ⟨a, b, by omega, z2⟩
    · obtain ⟨a, b, z1, z2⟩ := f5 j hj
      exact ⟨a, b, by omega, z2⟩
