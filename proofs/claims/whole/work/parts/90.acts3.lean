/-! ===== the four acts, refused or not, the reference remembering ===== -/
def ActJ (f : Nat) (c m : Mm) (q : Option Nat) (x : Int32) (cl rf : Mm → Option (Int32 × Mm)) : Prop :=
  (∃ r c' m', (r = -1 ∨ r = -3) ∧ cl c = some (r, c') ∧ CsF c c' ∧ rf m = some (r, m') ∧ MF m m')
  ∨ (∃ n c' m0, n ≤ 999 ∧ cl c = some (nI n, c') ∧ AF f c c' ∧ MF m m0 ∧ ∀ m1, fX9_remember m0 45 x = some ((), m1) → JB f c m1 → JL c m1 q → mI m1 47 = mI m 47 → ∃ m', rf m = some (nI n, m') ∧ AM m1 m' ∧ JB f c' m')
set_option maxRecDepth 100000 in
theorem sdI {x : Int32} (h : 0 ≤ x ∧ x ≤ 1) : ∃ s, s < 2 ∧ x = nI s := by
  obtain ⟨s, h1, h2⟩ := nIof (n := 1) 1 (by decide) h
  exact ⟨s, by omega, h2⟩
set_option maxRecDepth 100000 in
theorem cdI {x : Int32} (h : 0 ≤ x ∧ x ≤ 7) : ∃ s, s < 8 ∧ x = nI s := by
  obtain ⟨s, h1, h2⟩ := nIof (n := 7) 7 (by decide) h
  exact ⟨s, by omega, h2⟩
section
variable {f : Nat} {c m : Mm} {q : Option Nat} {s k : Nat}
set_option maxRecDepth 100000 in
theorem A_attack (hB : JB f c m) (hL : JL c m q) (hQ : JQ c q) (x y : Int32) : ActJ f c m q 0 (fun c => fX7_doAttack c 13 f x y) (fun m => fX9_attackNow m 45 x y) := by
  have h2 := hB.2.1
  by_cases c1 : 0 ≤ x ∧ x ≤ 1
  · by_cases c2 : 0 ≤ y ∧ y ≤ 7
    · obtain ⟨s, hs, rfl⟩ := sdI c1
      obtain ⟨k, hk, rfl⟩ := cdI c2
      rcases J_attack hB hL hQ hs hk with ⟨c', m', a1, a2, a3, a4⟩ | ⟨w, c', m', a0, a1, a2, a3, a4, a5⟩
      · refine Or.inl ⟨-3, c', m', Or.inr rfl, a1, a2, ?_, a4⟩
        show fX9_attackNow m 45 (nI s) (nI k) = _
        unfold fX9_attackNow
        rw [m_isSide, oB_of, if_pos c1, if_neg (by decide), m_isEight, oB_of, if_pos c2, if_neg (by decide), oR_of (sh45 h2), a3, oB_of, if_pos rfl]
      · refine Or.inr ⟨w, c', m', by omega, a1, a2, a4, fun m1 r1 r2 r3 r4 => ?_⟩
        obtain ⟨m3, b1, b2, b3⟩ := a5 m1 r2 r3 r4
        refine ⟨m3, ?_, b2, b3⟩
        show fX9_attackNow m 45 (nI s) (nI k) = _
        have hm' := MF_hSh a4 h2
        unfold fX9_attackNow
        rw [m_isSide, oB_of, if_pos c1, if_neg (by decide), m_isEight, oB_of, if_pos c2, if_neg (by decide), oR_of (sh45 h2), a3, oB_of, if_neg (by decide), oR_of (sh45 hm'), r1, oB_of, oR_of (sh45 r2.2.1), b1, oB_of]
    · refine Or.inl ⟨-1, c, m, Or.inl rfl, ?_, CsF_rfl, ?_, MF_rfl⟩
      · show fX7_doAttack c 13 f x y = _
        unfold fX7_doAttack
        rw [c_isSide, oB_of, if_pos c1, if_neg (by decide), c_isColumn, oB_of, if_neg c2, if_pos rfl]
      · show fX9_attackNow m 45 x y = _
        unfold fX9_attackNow
        rw [m_isSide, oB_of, if_pos c1, if_neg (by decide), m_isEight, oB_of, if_neg c2, if_pos rfl]
  · refine Or.inl ⟨-1, c, m, Or.inl rfl, ?_, CsF_rfl, ?_, MF_rfl⟩
    · show fX7_doAttack c 13 f x y = _
      unfold fX7_doAttack
      rw [c_isSide, oB_of, if_neg c1, if_pos rfl]
    · show fX9_attackNow m 45 x y = _
      unfold fX9_attackNow
      rw [m_isSide, oB_of, if_neg c1, if_pos rfl]
set_option maxRecDepth 100000 in
theorem A_show (hB : JB f c m) (hL : JL c m q) (hQ : JQ c q) (x y : Int32) : ActJ f c m q 2 (fun c => fX7_doShow c 13 f x y) (fun m => fX9_showNow m 45 x y) := by
  have h2 := hB.2.1
  by_cases c1 : 0 ≤ x ∧ x ≤ 7
  · by_cases c2 : 0 ≤ y ∧ y ≤ 1
    · obtain ⟨k, hk, rfl⟩ := cdI c1
      obtain ⟨s, hs, rfl⟩ := sdI c2
      obtain ⟨w, c', m', a0, a1, a2, a3, a4, a5, -⟩ := J_show hB hL hQ hs hk
      refine Or.inr ⟨w, c', m, by omega, a1, a3, MF_rfl, fun m1 r1 r2 r3 r4 => ?_⟩
      obtain ⟨w2, c2', m2, b0, b1, b2, b3, b4, b5, -⟩ := J_show r2 r3 hQ hs hk
      have e := b1.symm.trans a1
      simp only [Option.some.injEq, Prod.mk.injEq] at e
      obtain ⟨e1, e2⟩ := e
      subst e2
      refine ⟨m2, ?_, b4, b5⟩
      show fX9_showNow m 45 (nI k) (nI s) = _
      unfold fX9_showNow
      rw [m_isEight, oB_of, if_pos c1, if_neg (by decide), m_isSide, oB_of, if_pos c2, if_neg (by decide), oR_of (sh45 h2), r1, oB_of, oR_of (sh45 r2.2.1), b2, oB_of, e1]
    · refine Or.inl ⟨-1, c, m, Or.inl rfl, ?_, CsF_rfl, ?_, MF_rfl⟩
      · show fX7_doShow c 13 f x y = _
        unfold fX7_doShow
        rw [c_isSign, oB_of, if_pos c1, if_neg (by decide), c_isSide, oB_of, if_neg c2, if_pos rfl]
      · show fX9_showNow m 45 x y = _
        unfold fX9_showNow
        rw [m_isEight, oB_of, if_pos c1, if_neg (by decide), m_isSide, oB_of, if_neg c2, if_pos rfl]
  · refine Or.inl ⟨-1, c, m, Or.inl rfl, ?_, CsF_rfl, ?_, MF_rfl⟩
    · show fX7_doShow c 13 f x y = _
      unfold fX7_doShow
      rw [c_isSign, oB_of, if_neg c1, if_pos rfl]
    · show fX9_showNow m 45 x y = _
      unfold fX9_showNow
      rw [m_isEight, oB_of, if_neg c1, if_pos rfl]
set_option maxRecDepth 100000 in
theorem A_pass (hB : JB f c m) (hL : JL c m q) (hQ : JQ c q) : ActJ f c m q 3 (fun c => fX7_doPass c 13 f) (fun m => fX9_passNow m 45) := by
  have h2 := hB.2.1
  have hR : Rrg (mI m 47) := hB.2.2.2.2.2.2.2.2.2.2
  have hF := hB.2.2.1
  obtain ⟨d, hd, ed⟩ := rg_nI (x := mI m 47 4) (M := 999) (rr hR (i := 4) (by decide) rfl) (by decide)
  by_cases z : d = 999
  · subst z
    refine Or.inl ⟨-3, c, m, Or.inr rfl, ?_, CsF_rfl, ?_, MF_rfl⟩
    · show fX7_doPass c 13 f = _
      unfold fX7_doPass
      rw [oR_of hF.1, c_day hF, oB_of, JB_day hB, ed, if_neg (by decide)]
    · show fX9_passNow m 45 = _
      unfold fX9_passNow
      rw [oK_of (sh45 h2), rf45_3 h2, oNn_of, oA_of (sh47 h2) (by decide) (by decide), oI_of, show mI m 47 (Int32.toNatClampNeg 4) = nI 999 from ed, if_pos (show nI 999 = 999 from rfl)]
  · obtain ⟨c', m', a1, a2, a3, a4, a5, a6⟩ := J_pass hB hL hQ (d := d) (by omega) ed
    refine Or.inr ⟨d + 1, c', m, by omega, a1, a3, MF_rfl, fun m1 r1 r2 r3 r4 => ?_⟩
    obtain ⟨c2', m2, b1, b2, b3, b4, b5, b6⟩ := J_pass r2 r3 hQ (d := d) (by omega) (by rw [r4]; exact ed)
    have e := b1.symm.trans a1
    simp only [Option.some.injEq, Prod.mk.injEq, true_and] at e
    subst e
    refine ⟨m2, ?_, b4, b5⟩
    show fX9_passNow m 45 = _
    have n9 : ¬ nI d = 999 := nIne (b := 999) z (by omega) (by decide)
    have h3 := b5.2.1
    unfold fX9_passNow
    rw [oK_of (sh45 h2), rf45_3 h2, oNn_of, oA_of (sh47 h2) (by decide) (by decide), oI_of, show mI m 47 (Int32.toNatClampNeg 4) = nI d from ed, if_neg n9, oR_of (sh45 h2), r1, oB_of, oR_of (sh45 r2.2.1), b2, oB_of, oK_of (sh45 h3), rf45_3 h3, oNn_of, oA_of (sh47 h3) (by decide) (by decide), oI_of, show mI m2 47 (Int32.toNatClampNeg 4) = nI (d + 1) from b6]
abbrev Psh (x y z t : Int32) : Prop := (0 ≤ x ∧ x ≤ 1) ∧ (0 ≤ y ∧ y ≤ 7) ∧ (0 ≤ t ∧ t ≤ 7) ∧ ¬ z = 0 ∧ (-99 ≤ z ∧ z ≤ 99)
set_option maxRecDepth 100000 in
theorem A_shift0 (hB : JB f c m) {x y z t : Int32} (ht : 0 ≤ y ∧ y ≤ 7 → ¬ t = y) : ActJ f c m q 1 (fun c => bX7_doShift_14 c f x y z t) (fun m => bX9_shiftNow_13 m 45 x y z t) := by
  have h1 := hB.1
  have h2 := hB.2.1
  have hF := hB.2.2.1
  have hR : Rrg (mI m 47) := hB.2.2.2.2.2.2.2.2.2.2
  by_cases hP : Psh x y z t
  · obtain ⟨p1, p2, p3, p4, p5⟩ := hP
    obtain ⟨s, hs, rfl⟩ := sdI p1
    obtain ⟨k, hk, rfl⟩ := cdI p2
    obtain ⟨l, hl, rfl⟩ := cdI p3
    have kl : l ≠ k := fun e => ht p2 (by rw [e])
    have pz := rgI (a := -99) (b := 99) rfl rfl p5
    unfold rg at pz
    obtain ⟨n, hn, en⟩ := rg_nI (x := iabs z) (M := 99) (by
      unfold rg iabs
      have k0 : (0 : Int32).toInt = 0 := by decide
      by_cases q : 0 ≤ z
      · rw [if_pos q]
        have := Int32.le_iff_toInt_le.mp q
        omega
      · rw [if_neg q, Int32.toInt_neg]
        have q3 : ¬ (0 : Int32).toInt ≤ z.toInt := fun q2 => q (Int32.le_iff_toInt_le.mpr q2)
        rw [bmod32 (by omega) (by omega)]
        omega) (by decide)
    obtain ⟨a, ha, ea⟩ := rg_nI (x := mI m 47 (15 + 8 * s + k)) (M := 99) (rr hR (by omega) (rl_men s hs k hk)) (by decide)
    obtain ⟨b, hb, eb⟩ := rg_nI (x := mI m 47 (15 + 8 * s + l)) (M := 99) (rr hR (by omega) (rl_men s hs l hl)) (by decide)
    have ca := JB_men hB hs hk
    have cb := JB_men hB hs hl
    rw [ea] at ca
    rw [eb] at cb
    have lt1 : (nI a < nI n) ↔ a < n := by
      constructor
      · intro q; exact Nat.lt_of_not_le (fun q2 => absurd q (nI_nlt q2 (by omega)))
      · intro q; exact Int32.not_le.mp (nI_ge q (by omega))
    have le1 : (nI b + nI n ≤ 99) ↔ b + n ≤ 99 := by
      rw [nI_add, show (99 : Int32) = nI 99 from rfl]
      exact nI_leI (by omega) (by decide)
    have neg1 : (nI a - nI n < 0) ↔ a < n := by
      rw [Int32.lt_iff_toInt_lt, subI (by rw [nI_toInt (by omega), nI_toInt (by omega)]; omega) (by rw [nI_toInt (by omega), nI_toInt (by omega)]; omega), nI_toInt (by omega), nI_toInt (by omega), show (0 : Int32).toInt = 0 from by decide]
      omega
    have cpre : ∀ {X : Option (Int32 × Mm)}, ((if nI a - nI n < 0 then some ((-3 : Int32), c) else (if nI b + nI n ≤ 99 then oR c f 1 (oB (fX1_setMen c f (nI s) (nI k) (nI a - nI n)) (fun _ u19 => oR u19 f 1 (oB (fX1_setMen u19 f (nI s) (nI l) (nI b + nI n)) (fun _ u20 => some (nI a - nI n, u20))))) else some ((-3), c))) = X) → bX7_doShift_14 c f (nI s) (nI k) z (nI l) = X := by
      intro X hX
      unfold bX7_doShift_14
      rw [c_isSide, oB_of, if_pos p1, if_neg (by decide), c_isColumn, oB_of, if_pos p2, if_neg (by decide), c_isColumn, oB_of, if_pos p3, if_neg (by decide), if_neg p4, c_within, oB_of, if_pos p5, if_neg (by decide), oR_of hF.1, c_menAt hF hs hk, oB_of, c_abs, oB_of, oI_of, oR_of hF.1, c_menAt hF hs hl, oB_of, c_abs, oB_of, oI_of, en, ca, cb]
      exact hX
    have mpre : ∀ {X : Option (Int32 × Mm)}, ((if nI a < nI n then some ((-3 : Int32), m) else (if nI b + nI n ≤ 99 then oR m 45 9 (oB (fX9_remember m 45 1) (fun _ u15 => oK u15 45 9 54 (oNn (mR u15 45 3) (fun e16 => oI (((15 : Int32) + ((8 : Int32) * nI s)) + nI k) (fun v17 => oA u15 e16 10 v17 (oI (mI u15 e16 (Int32.toNatClampNeg v17)) (fun v18 => oA u15 e16 10 v17 (oU (wI u15 e16 (upd (mI u15 e16) (Int32.toNatClampNeg v17) (v18 - nI n))) (fun u19 => oK u19 45 9 54 (oNn (mR u19 45 3) (fun e20 => oI (((15 : Int32) + ((8 : Int32) * nI s)) + nI l) (fun v21 => oA u19 e20 10 v21 (oI (mI u19 e20 (Int32.toNatClampNeg v21)) (fun v22 => oA u19 e20 10 v21 (oU (wI u19 e20 (upd (mI u19 e20) (Int32.toNatClampNeg v21) (v22 + nI n))) (fun u23 => oR u23 45 9 (oB (fX9_menOf u23 45 (nI s) (nI k)) (fun v24 u25 => some (v24, u25))))))))))))))))))) else some ((-3), m))) = X) → bX9_shiftNow_13 m 45 (nI s) (nI k) z (nI l) = X := by
      intro X hX
      unfold bX9_shiftNow_13
      rw [m_isSide, oB_of, if_pos p1, if_neg (by decide), m_isEight, oB_of, if_pos p2, if_neg (by decide), if_neg p4, m_inI _ z (-99) 99 (l := -99) (h := 99) rfl rfl, oB_of, if_pos p5, if_neg (by decide), m_isEight, oB_of, if_pos p3, if_neg (by decide), m_size, oB_of, oR_of (sh45 h2), m_menOf h2 hs hk, oB_of, en, ea, oR_of (sh45 h2), m_menOf h2 hs hl, oB_of, eb]
      exact hX
    by_cases z1 : a < n
    · refine Or.inl ⟨-3, c, m, Or.inr rfl, cpre ?_, CsF_rfl, mpre ?_, MF_rfl⟩
      · rw [if_pos (neg1.mpr z1)]
      · rw [if_pos (lt1.mpr z1)]
    · by_cases z2 : b + n ≤ 99
      · have es : nI a - nI n = nI (a - n) := nI_sub (by omega)
        have w1 : ∀ g, Fr (wI c (f + 1) g) f := fun _ => hF
        have e2 : ∀ g, mI (wI c (f + 1) g) (f + 1) = g := fun g => by rw [mI_wI, if_pos rfl]
        refine Or.inr ⟨a - n, wI c (f + 1) (upd (upd (mI c (f + 1)) (8 + 8 * s + k) (nI (a - n))) (8 + 8 * s + l) (nI (b + n))), m, by omega, cpre ?_, AF_w, MF_rfl, fun m1 r1 r2 r3 r4 => ?_⟩
        · rw [if_neg (fun q => z1 (neg1.mp q)), if_pos (le1.mpr z2), oR_of hF.1, c_setMen hF hs hk, oB_of, oR_of (w1 _).1, c_setMen (w1 _) hs hl, oB_of, wI_s, e2, es, nI_add]
        · have q1 := r2.2.1
          have q2 : ∀ g, hSh (wI m1 47 g) := fun _ => q1
          have hFR := JB_FR r2
          rw [r4] at hFR
          refine ⟨wI m1 47 (upd (upd (mI m 47) (15 + 8 * s + k) (nI (a - n))) (15 + 8 * s + l) (nI (b + n))), mpre ?_, AM_w ?_, JB_put r2 ?_ ?_ ?_⟩
          · rw [if_neg (fun q => z1 (lt1.mp q)), if_pos (le1.mpr z2), oR_of (sh45 h2), r1, oB_of, oK_of (sh45 q1), rf45_3 q1, oNn_of, oI_of, ixM, oA_k (sh47 q1) (by omega) (by decide), oI_of, clm (by omega), oA_k (sh47 q1) (by omega) (by decide), oU_of, r4, ea, es, oK_of (sh45 (q2 _)), rf45_3 (q2 _), oNn_of, oI_of, ixM, oA_k (sh47 (q2 _)) (by omega) (by decide), oI_of, clm (by omega), oA_k (sh47 (q2 _)) (by omega) (by decide), oU_of, wI_s]
            have e3 : mI (wI m1 47 (upd (mI m 47) (15 + 8 * s + k) (nI (a - n)))) 47 (15 + 8 * s + l) = nI b := by
              show upd (mI m 47) (15 + 8 * s + k) _ _ = _
              rw [pk_un (by omega), eb]
            rw [e3, nI_add, oR_of (sh45 (q2 _)), m_menOf (q2 _) hs hk, oB_of]
            show some (upd (upd (mI m 47) (15 + 8 * s + k) (nI (a - n))) (15 + 8 * s + l) (nI (b + n)) (15 + 8 * s + k), _) = _
            rw [pk_un (by omega), pk_us]
            rfl
          · intro i hi
            rw [r4]
            exact up_nf (by unfold fP; omega) (up_nf (by unfold fP; omega) (fun _ _ => rfl)) i hi
          · have p1 := FR_upd (p := 8 + 8 * s + k) (x := nI (a - n)) hFR (by omega)
            rw [show 7 + (8 + 8 * s + k) = 15 + 8 * s + k by omega] at p1
            have p2 := FR_upd (p := 8 + 8 * s + l) (x := nI (b + n)) p1 (by omega)
            rw [show 7 + (8 + 8 * s + l) = 15 + 8 * s + l by omega] at p2
            exact p2
          · intro i hi
            rw [r4]
            exact up_nf (by unfold fP; omega) (up_nf (by unfold fP; omega) (fun _ _ => rfl)) i hi
          · refine Rrg_up (Rrg_up hR (by unfold fP; omega) ?_) (by unfold fP; omega) ?_
            · rw [rl_men s hs k hk]; exact nI_rg (M := 99) (by omega) (by decide)
            · rw [rl_men s hs l hl]; exact nI_rg (M := 99) (by omega) (by decide)
      · refine Or.inl ⟨-3, c, m, Or.inr rfl, cpre ?_, CsF_rfl, mpre ?_, MF_rfl⟩
        · rw [if_neg (fun q => z1 (neg1.mp q)), if_neg (fun q => z2 (le1.mp q))]
        · rw [if_neg (fun q => z1 (lt1.mp q)), if_neg (fun q => z2 (le1.mp q))]
  · refine Or.inl ⟨-1, c, m, Or.inl rfl, ?_, CsF_rfl, ?_, MF_rfl⟩
    · show bX7_doShift_14 c f x y z t = _
      unfold bX7_doShift_14
      rw [c_isSide, oB_of]
      by_cases p1 : 0 ≤ x ∧ x ≤ 1
      · rw [if_pos p1, if_neg (by decide), c_isColumn, oB_of]
        by_cases p2 : 0 ≤ y ∧ y ≤ 7
        · rw [if_pos p2, if_neg (by decide), c_isColumn, oB_of]
          by_cases p3 : 0 ≤ t ∧ t ≤ 7
          · rw [if_pos p3, if_neg (by decide)]
            by_cases p4 : z = 0
            · rw [if_pos p4]
            · rw [if_neg p4, c_within, oB_of, if_neg (fun p5 => hP ⟨p1, p2, p3, p4, p5⟩), if_pos rfl]
          · rw [if_neg p3, if_pos rfl]
        · rw [if_neg p2, if_pos rfl]
      · rw [if_neg p1, if_pos rfl]
    · show bX9_shiftNow_13 m 45 x y z t = _
      unfold bX9_shiftNow_13
      rw [m_isSide, oB_of]
      by_cases p1 : 0 ≤ x ∧ x ≤ 1
      · rw [if_pos p1, if_neg (by decide), m_isEight, oB_of]
        by_cases p2 : 0 ≤ y ∧ y ≤ 7
        · rw [if_pos p2, if_neg (by decide)]
          by_cases p4 : z = 0
          · rw [if_pos p4]
          · rw [if_neg p4, m_inI _ z (-99) 99 (l := -99) (h := 99) rfl rfl, oB_of]
            by_cases p5 : -99 ≤ z ∧ z ≤ 99
            · rw [if_pos p5, if_neg (by decide), m_isEight, oB_of, if_neg (fun p3 => hP ⟨p1, p2, p3, p4, p5⟩), if_pos rfl]
            · rw [if_neg p5, if_pos rfl]
        · rw [if_neg p2, if_pos rfl]
      · rw [if_neg p1, if_pos rfl]
set_option maxRecDepth 100000 in
theorem A_shift (hB : JB f c m) (x y z : Int32) : ActJ f c m q 1 (fun c => fX7_doShift c 13 f x y z) (fun m => fX9_shiftNow m 45 x y z) := by
  have n1 : ∀ k, k < 8 → ¬ nI k - 1 = nI k := by decide +kernel
  have n2 : ∀ k, k < 8 → ¬ nI k + 1 = nI k := by decide +kernel
  by_cases hz : z ≤ 0
  · have e1 : (fun c => fX7_doShift c 13 f x y z) = (fun c => bX7_doShift_14 c f x y z (y - 1)) := by funext c; unfold fX7_doShift; rw [if_pos hz]
    have e2 : (fun m => fX9_shiftNow m 45 x y z) = (fun m => bX9_shiftNow_13 m 45 x y z (y - 1)) := by funext c; unfold fX9_shiftNow; rw [if_pos hz]
    rw [e1, e2]
    refine A_shift0 hB (fun hy => ?_)
    obtain ⟨k, hk, rfl⟩ := cdI hy
    exact n1 k hk
  · have e1 : (fun c => fX7_doShift c 13 f x y z) = (fun c => bX7_doShift_14 c f x y z (y + 1)) := by funext c; unfold fX7_doShift; rw [if_neg hz]
    have e2 : (fun m => fX9_shiftNow m 45 x y z) = (fun m => bX9_shiftNow_13 m 45 x y z (y + 1)) := by funext c; unfold fX9_shiftNow; rw [if_neg hz]
    rw [e1, e2]
    refine A_shift0 hB (fun hy => ?_)
    obtain ⟨k, hk, rfl⟩ := cdI hy
    exact n2 k hk
end
