/-! ===== the run: one order once, by both ===== -/
def RcF (c c' : Mm) : Prop := mQ c' = mQ c ∧ mK c' = mK c ∧ mR c' = mR c ∧ (∀ a, a ≠ 3 → a ≠ 16 → a ≠ 30 → a ≠ 31 → a ≠ 32 → a ≠ 37 → a ≠ 43 → mI c' a = mI c a)
def RmF (m m' : Mm) : Prop := mQ m' = mQ m ∧ mK m' = mK m ∧ mR m' = mR m ∧ (∀ a, a ≠ 45 → a ≠ 47 → a ≠ 50 → a ≠ 51 → mI m' a = mI m a) ∧ (∀ i, ¬ fP i → mI m' 47 i = mI m 47 i) ∧ (∀ k, k ≠ 8 → k ≠ 34 → k ≠ 38 → k ≠ 47 → k ≠ 48 → k ≠ 50 → mI m' 45 k = mI m 45 k) ∧ ∀ i, 496 ≤ i → mI m' 50 i = mI m 50 i
set_option maxRecDepth 100000 in
theorem RcF_rfl {c : Mm} : RcF c c := ⟨rfl, rfl, rfl, fun _ _ _ _ _ _ _ _ => rfl⟩
set_option maxRecDepth 100000 in
theorem RmF_rfl {m : Mm} : RmF m m := ⟨rfl, rfl, rfl, fun _ _ _ _ _ => rfl, fun _ _ => rfl, fun _ _ _ _ _ _ _ => rfl, fun _ _ => rfl⟩
set_option maxRecDepth 100000 in
theorem RcF_trans {c d e : Mm} (h : RcF c d) (k : RcF d e) : RcF c e := ⟨k.1.trans h.1, k.2.1.trans h.2.1, k.2.2.1.trans h.2.2.1, fun a h1 h2 h3 h4 h5 h6 h7 => (k.2.2.2 a h1 h2 h3 h4 h5 h6 h7).trans (h.2.2.2 a h1 h2 h3 h4 h5 h6 h7)⟩
set_option maxRecDepth 100000 in
theorem RmF_trans {m n o : Mm} (h : RmF m n) (k : RmF n o) : RmF m o := ⟨k.1.trans h.1, k.2.1.trans h.2.1, k.2.2.1.trans h.2.2.1, fun a h1 h2 h3 h4 => (k.2.2.2.1 a h1 h2 h3 h4).trans (h.2.2.2.1 a h1 h2 h3 h4), fun a h1 => (k.2.2.2.2.1 a h1).trans (h.2.2.2.2.1 a h1), fun a h1 h2 h3 h4 h5 h6 => (k.2.2.2.2.2.1 a h1 h2 h3 h4 h5 h6).trans (h.2.2.2.2.2.1 a h1 h2 h3 h4 h5 h6), fun a h1 => (k.2.2.2.2.2.2 a h1).trans (h.2.2.2.2.2.2 a h1)⟩
set_option maxRecDepth 100000 in
theorem RcF_Ca {c c' : Mm} (h : CaF c c') : RcF c c' := ⟨h.1, h.2.1, h.2.2.1, fun a h1 h2 h3 h4 h5 h6 _ => h.2.2.2 a h1 h2 h3 h4 h5 h6⟩
set_option maxRecDepth 100000 in
theorem RcF_VF {c c' : Mm} (h : VF c c') : RcF c c' := ⟨h.1, h.2.1, h.2.2.1, fun a _ _ _ _ _ _ h7 => h.2.2.2.1 a h7⟩
set_option maxRecDepth 100000 in
theorem RmF_Ra {m m' : Mm} (h : RaF m m') : RmF m m' := ⟨h.1, h.2.1, h.2.2.1, h.2.2.2.1, h.2.2.2.2.1, fun k h1 h2 h3 _ _ _ => h.2.2.2.2.2.1 k h1 h2 h3, h.2.2.2.2.2.2.2⟩
set_option maxRecDepth 100000 in
theorem RmF_SF {m m' : Mm} (h : SF m m') : RmF m m' := ⟨h.1, h.2.1, h.2.2.1, fun a h1 _ _ _ => h.2.2.2.1 a h1, fun i _ => by rw [h.2.2.2.1 47 (by decide)], fun k _ _ h3 _ _ h6 => h.2.2.2.2.1 k h3 h6, fun i _ => by rw [h.2.2.2.1 50 (by decide)]⟩
set_option maxRecDepth 100000 in
theorem JA_c {c c' m : Mm} {q : Option Nat} (h : JA c m q) (k1 : mQ c' = mQ c) (k2 : mK c' = mK c) (k3 : mR c' = mR c) (k4 : ∀ a, a ≠ 16 → a ≠ 43 → mI c' a = mI c a) : JA c' m q := by
  obtain ⟨⟨h1, h2, h3, h4, h5, h6, h7, h8, h9, h10, h11⟩, hL, hQ, hP⟩ := h
  have hs := hSh_q h1 k1 k2 k3
  refine ⟨⟨hs, h2, Fr2 hs, h4, h5, ?_, ?_, ?_, ?_, ?_, h11⟩, ?_, ?_, ?_⟩
  · rw [k4 (2 + 1) (by decide) (by decide)]; exact h6
  · rw [k4 (2 + 1) (by decide) (by decide)]; exact h7
  · rw [k4 1 (by decide) (by decide)]; exact h8
  · rw [k4 4 (by decide) (by decide)]; exact h9
  · rw [k4 5 (by decide) (by decide)]; exact h10
  · rcases hL with z | ⟨i, t, A, z1, z2, z3, z4, z5, z6, z7⟩
    · exact Or.inl z
    · exact Or.inr ⟨i, t, A, z1, z2, z3, z4, CLaw_at z5 (fun a a1 a2 => ⟨by rw [k2], by rw [k3], k4 a (by omega) (by omega)⟩), z6, z7⟩
  · unfold JQ at hQ ⊢
    rw [k4 1 (by decide) (by decide), k3]; exact hQ
  · rw [k4 30 (by decide) (by decide), k4 31 (by decide) (by decide), k4 32 (by decide) (by decide)]; exact hP
set_option maxRecDepth 100000 in
theorem JA_SF {c m m' : Mm} {q : Option Nat} (h : JA c m q) (k : SF m m') : JA c m' q := JA_m h (SF_sh k h.1.2.1) (k.2.2.2.1 47 (by decide)) (k.2.2.2.2.1 20 (by decide) (by decide)) (k.2.2.2.2.1 8 (by decide) (by decide)) (k.2.2.2.1 50 (by decide)) (k.2.2.2.1 51 (by decide))
set_option maxRecDepth 100000 in
/-- what an act does not look at -/
theorem c_actz {c : Mm} (hS : hSh c) {k : Nat} (hk : k ≤ 3) {x y z x' y' z' : Int32} (hx : 0 < nS_ k → x = x') (hy : 1 < nS_ k → y = y') (hz : 2 < nS_ k → z = z') : fX8_act c 0 (nI (260 + k)) x y z = fX8_act c 0 (nI (260 + k)) x' y' z' := by
  have e : cAct k x y z = cAct k x' y' z' := by
    funext u
    rcases (by omega : k = 0 ∨ k = 1 ∨ k = 2 ∨ k = 3) with e | e | e | e <;> subst e
    · show fX7_doAttack u 13 2 x y = fX7_doAttack u 13 2 x' y'
      rw [hx (by decide), hy (by decide)]
    · rw [hx (by decide), hy (by decide), hz (by decide)]
    · show fX7_doShow u 13 2 x y = fX7_doShow u 13 2 x' y'
      rw [hx (by decide), hy (by decide)]
    · show fX7_doPass u 13 2 = fX7_doPass u 13 2
      rfl
  rw [c_actU hS hk, c_actU hS hk, e]
set_option maxRecDepth 100000 in
theorem r_act {m : Mm} (hS : hSh m) {k : Nat} (hk : k ≤ 3) {x y z : Int32} : fX9_act m 45 (nI k) x y z = rAct k x y z m := by
  have idm : ∀ (X : Option (Int32 × Mm)), oB X (fun v u => some (v, u)) = X := by
    intro X
    cases X with
    | none => rfl
    | some v => rfl
  unfold fX9_act rAct
  rcases (by omega : k = 0 ∨ k = 1 ∨ k = 2 ∨ k = 3) with e | e | e | e <;> subst e
  · rw [if_pos (by decide), if_pos rfl, oR_of (sh45 hS), idm]
  · rw [if_neg (by decide), if_pos (by decide), if_neg (by decide), if_pos rfl, oR_of (sh45 hS), idm]
  · rw [if_neg (by decide), if_neg (by decide), if_pos (by decide), if_neg (by decide), if_neg (by decide), if_pos rfl, oR_of (sh45 hS), idm]
  · rw [if_neg (by decide), if_neg (by decide), if_neg (by decide), if_neg (by decide), if_neg (by decide), if_neg (by decide), oR_of (sh45 hS), idm]
section
variable {k16 : Mm → Nat → Nat → Nat → Int32 → Int32 → Int32 → Option (Int32 × Mm)} {k28 : Mm → Nat → Nat → Nat → Int32 → Int32 → Int32 → Int32 → Option (Int32 × Mm)}
/-- how an order ends: X the class, Y the reference -/
def ROut (k28 : Mm → Nat → Nat → Nat → Int32 → Int32 → Int32 → Int32 → Option (Int32 × Mm)) (c m : Mm) (q : Option Nat) (d r : Nat) (x6 : Int32) (X Y : Option (Int32 × Mm)) : Prop := ∃ c' m', RcF c c' ∧ RmF m m' ∧ JA c' m' q ∧ ((∃ d' l', d' ≤ d + 1 ∧ X = k28 c' 0 23 14 (nI d') l' (nI r) (x6 + 1) ∧ Y = some (0, m') ∧ mI m' 45 47 = nI d' ∧ mI m' 45 48 = l') ∨ (X = some (-1, wI c' 0 (upd (mI c' 0) 15 (nI r))) ∧ Y = some (-3, m')))
set_option maxRecDepth 100000 in
theorem J_go {c m : Mm} {q : Option Nat} {r h x d : Nat} {l x6 : Int32} {tt : Bool} {fV : (Nat → Int32) → Int64} {fS : Nat → (Nat → Int32) → Int64} (hA : JA c m q) (hr : r < 12) (h4 : h < 4) (HC : OV c r h x tt fV fS) (HM : Oq m (mI m 56) (mI m 57) 400 r h x tt fV fS) (hW : WM m (mI c 16)) (h50 : mI m 45 50 = 0) (h47 : mI m 45 47 = nI d) (h48 : mI m 45 48 = l) : ROut k28 c m q d r x6 (bX8_runOrders_88 k16 k28 c 0 23 14 (nI d) l (nI r) x6) (bX9_run_85 m 45 (nI (10 * r))) := by
  have hS := hA.1.1
  have hSm := hA.1.2.1
  have h20 := hA.1.2.2.2.2.1
  obtain ⟨M, hM⟩ : ∃ M, hwF = M + 1 + 3 := ⟨999996, rfl⟩
  obtain ⟨c3, a1, a2, a3⟩ := c_vals (k16 := k16) (k28 := k28) hS hr HC (x3 := nI d) (x4 := l) (x6 := x6) (N := M + 1)
  obtain ⟨v0, v1, v2, m1, m2, m3, b1, b2, b3, s1, s2, s3, b4⟩ := r_sums hSm hr h20 h50 HM hW
  have hS3 := VF_sh a1 hS
  have hm1 := SF_sh s1 hSm
  have hm2 := SF_sh s2 hSm
  have hm3 := SF_sh s3 hSm
  have e26 : mI c3 26 r = nI (260 + h) := by rw [a1.2.2.2.1 26 (by decide)]; exact HC.1
  have i1 : nI (10 * r) + 1 = nI (10 * r + 1) := nI_1 _
  have i3 : nI (10 * r) + 3 = nI (10 * r + 3) := by rw [show (3 : Int32) = nI 3 from rfl, nI_add]
  have i5 : nI (10 * r) + 5 = nI (10 * r + 5) := by rw [show (5 : Int32) = nI 5 from rfl, nI_add]
  have m69 : mI m3 69 (10 * r) = nI h := by rw [s3.2.2.2.1 69 (by decide)]; exact HM.1
  have A3 : JA c3 m3 q := JA_c (JA_SF hA s3) a1.1 a1.2.1 a1.2.2.1 (fun a _ h => a1.2.2.2.1 a h)
  have X0 : bX8_runOrders_88 k16 k28 c 0 23 14 (nI d) l (nI r) x6 = bX8_runOrders_94 k16 k28 (rX8_runOrders_94 k16 k28 M) c3 0 23 14 (nI d) l (nI r) x6 (if vO h fS (mI c 16) 0 = BR ∨ vO h fS (mI c 16) 1 = BR ∨ vO h fS (mI c 16) 2 = BR then 0 else 1) (nI 3) := by
    unfold bX8_runOrders_88
    rw [hM]
    exact a3
  have Y0 : bX9_run_85 m 45 (nI (10 * r)) = (if mI m3 45 50 = 0 then oB (rAct h v0 v1 v2 m3) (fun v25 u26 => (if 0 ≤ (v25 : Int32) then oK u26 45 9 54 (oNn (mR u26 45 46) (fun e27 => oA u26 e27 10 (nI (10 * r)) (oI (mI u26 e27 (10 * r)) (fun v28 => (if (v28 : Int32) = 0 then bX9_run_163 u26 45 v25 45 else oK u26 45 9 54 (oI (mI u26 45 48) (fun v29 => bX9_run_163 u26 45 v29 45))))))) else some ((-3), u26))) else some ((-3), m3)) := by
    unfold bX9_run_85
    rw [oR_of (sh45 hSm), i1, b1, oB_of, oR_of (sh45 hm1), i3, b2, oB_of, oR_of (sh45 hm2), i5, b3, oB_of, oK_of (sh45 hm3), oI_of, oK_of (sh45 hm3), rf45_46 hm3, oNn_of, oA_k (sh69 hm3) (by omega) (by decide), oI_of, clm (by omega), m69, oR_of (sh45 hm3), r_act hm3 (by omega)]
  rw [X0, Y0]
  rcases b4 with ⟨z1, z2⟩ | ⟨z1, z2, z3, z4, z5⟩
  · rw [if_neg z2, if_pos z1]
    refine ⟨c3, m3, RcF_VF a1, RmF_SF s3, A3, Or.inr ⟨?_, rfl⟩⟩
    unfold bX8_runOrders_94 bX8_runOrders_199
    rw [if_pos (by decide), oK_of (sh23 hS3), rf23_3 hS3, oNn_of, oA_k (sh26 hS3) hr (by decide), oI_of, if_pos rfl, if_neg (by decide), oK_of (sh0 hS3), oU_of]
  · rw [if_pos z2, if_neg z1]
    obtain ⟨rr, c4, m4, d1, d2, d3, d4, d5, d6⟩ := J_act A3 (k := h) (by omega) v0 v1 v2
    have act : fX8_act c3 0 (nI (260 + h)) (mI c3 43 0) (mI c3 43 1) (mI c3 43 2) = some (rr, c4) := by
      rw [← d1]
      exact c_actz hS3 (by omega) (fun w => by rw [a2 0 (by decide), z3 w]) (fun w => by rw [a2 1 (by decide), z4 w]) (fun w => by rw [a2 2 (by decide), z5 w])
    have hS4 := d3.1.1
    have hm4 := d3.1.2.1
    have X1 : bX8_runOrders_94 k16 k28 (rX8_runOrders_94 k16 k28 M) c3 0 23 14 (nI d) l (nI r) x6 1 (nI 3) = bX8_runOrders_199 k16 k28 c4 0 23 14 (nI d) l (nI r) x6 (nI (260 + h)) rr := by
      unfold bX8_runOrders_94
      rw [if_pos (by decide), oK_of (sh23 hS3), rf23_3 hS3, oNn_of, oA_k (sh26 hS3) hr (by decide), oI_of, if_neg (by decide), clm (by omega), e26, oK_of (sh0 hS3), rf0_16 hS3, oNn_of, oA_of (sh43 hS3) (by decide) (by decide), oI_of, oK_of (sh0 hS3), oNn_of, oA_of (sh43 hS3) (by decide) (by decide), oI_of, oK_of (sh0 hS3), oNn_of, oA_of (sh43 hS3) (by decide) (by decide), oI_of, oR_of (sh0 hS3)]
      show oB (fX8_act c3 0 (nI (260 + h)) (mI c3 43 0) (mI c3 43 1) (mI c3 43 2)) _ = _
      rw [act, oB_of]
    rw [X1, d2, oB_of]
    have fr1 : RcF c c4 := RcF_trans (RcF_VF a1) (RcF_Ca d4)
    have fr2 : RmF m m4 := RmF_trans (RmF_SF s3) (RmF_Ra d5)
    rcases d6 with w | ⟨n, n9, w⟩
    · have neg : ¬ 0 ≤ rr := by rcases w with e | e <;> rw [e] <;> decide
      rw [if_neg neg]
      refine ⟨c4, m4, fr1, fr2, d3, Or.inr ⟨?_, rfl⟩⟩
      unfold bX8_runOrders_199
      rw [if_neg neg, oK_of (sh0 hS4), oU_of]
    · have pos : 0 ≤ rr := by rw [w]; exact nI_pos' (by omega)
      have e47 : mI m4 45 47 = nI d := by rw [d5.2.2.2.2.2.1 47 (by decide) (by decide) (by decide), s3.2.2.2.2.1 47 (by decide) (by decide)]; exact h47
      have e48 : mI m4 45 48 = l := by rw [d5.2.2.2.2.2.1 48 (by decide) (by decide) (by decide), s3.2.2.2.2.1 48 (by decide) (by decide)]; exact h48
      have e69 : mI m4 69 (10 * r) = nI h := by rw [d5.2.2.2.1 69 (by decide) (by decide) (by decide) (by decide)]; exact m69
      have fin : ∀ y, bX9_run_163 m4 45 y 45 = some (0, wI (wI m4 45 (upd (mI m4 45) 48 y)) 45 (upd (upd (mI m4 45) 48 y) 47 (nI (d + 1)))) := by
        intro y
        have g1 : ∀ g, hSh (wI m4 45 g) := fun _ => hm4
        have g2 : mI (wI m4 45 (upd (mI m4 45) 48 y)) 45 47 = nI d := e47
        unfold bX9_run_163
        rw [oK_of (sh45 hm4), oU_of, oK_of (sh45 (g1 _)), oI_of, g2, oK_of (sh45 (g1 _)), nI_1, oU_of]
        rfl
      have out : ∀ y, ROut k28 c m q d r x6 (k28 c4 0 23 14 (nI d + 1) y (nI r) (x6 + 1)) (bX9_run_163 m4 45 y 45) := by
        intro y
        rw [fin y, nI_1]
        refine ⟨c4, wI (wI m4 45 (upd (mI m4 45) 48 y)) 45 (upd (upd (mI m4 45) 48 y) 47 (nI (d + 1))), fr1, RmF_trans fr2 ⟨rfl, rfl, rfl, fun a h1 _ _ _ => ?_, fun _ _ => rfl, fun k _ _ _ h5 h6 _ => ?_, fun _ _ => rfl⟩, JA_m (m' := wI (wI m4 45 (upd (mI m4 45) 48 y)) 45 (upd (upd (mI m4 45) 48 y) 47 (nI (d + 1)))) d3 hm4 rfl rfl rfl rfl rfl, Or.inl ⟨d + 1, y, Nat.le_refl _, rfl, rfl, rfl, rfl⟩⟩
        · rw [mI_wI, if_neg h1, mI_wI, if_neg h1]
        · show upd (upd (mI m4 45) 48 y) 47 (nI (d + 1)) k = _
          rw [pk_un h5, pk_un h6]
      rw [if_pos pos, oK_of (sh45 hm4), rf45_46 hm4, oNn_of, oA_k (sh69 hm4) (by omega) (by decide), oI_of, e69]
      unfold bX8_runOrders_199 bX8_runOrders_229 bX8_runOrders_234
      rw [if_pos pos]
      by_cases z : h = 0
      · subst z
        rw [if_pos (show nI (260 + 0) = 260 from rfl), if_pos (show nI 0 = 0 from rfl)]
        exact out rr
      · rw [if_neg (show ¬ nI (260 + h) = 260 from nIne (b := 260) (by omega) (by omega) (by decide)), if_neg (show ¬ nI h = 0 from nIne (b := 0) z (by omega) (by decide)), oK_of (sh45 hm4), oI_of, e48]
        exact out l
end
