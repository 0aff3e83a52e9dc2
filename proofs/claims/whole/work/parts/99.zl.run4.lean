/-! ===== the run: one order once, with its words and its if ===== -/
set_option maxRecDepth 100000 in
theorem RcF_sh {c c' : Mm} (k : RcF c c') (h : hSh c) : hSh c' := hSh_q h k.1 k.2.1 k.2.2.1
set_option maxRecDepth 100000 in
theorem RmF_sh {m m' : Mm} (k : RmF m m') (h : hSh m) : hSh m' := hSh_q h k.1 k.2.1 k.2.2.1
set_option maxRecDepth 100000 in
theorem OV_R {c c' : Mm} {r h x : Nat} {tt : Bool} {fV : (Nat → Int32) → Int64} {fS : Nat → (Nat → Int32) → Int64} (hS : hSh c) (H : OV c r h x tt fV fS) (k : RcF c c') : OV c' r h x tt fV fS := OV_at hS H (fun a b1 b2 => ⟨by rw [k.2.1], by rw [k.2.2.1], k.2.2.2 a (by omega) (by omega) (by omega) (by omega) (by omega) (by omega) (by omega)⟩)
set_option maxRecDepth 100000 in
theorem Oq_R {m m' : Mm} {r h x : Nat} {tt : Bool} {fV : (Nat → Int32) → Int64} {fS : Nat → (Nat → Int32) → Int64} (k : RmF m m') (H : Oq m (mI m 56) (mI m 57) 400 r h x tt fV fS) : Oq m' (mI m' 56) (mI m' 57) 400 r h x tt fV fS := Oq_SF (fun a q => k.2.2.2.1 a (by omega) (by omega) (by omega) (by omega)) H
section
variable {k16 : Mm → Nat → Nat → Nat → Int32 → Int32 → Int32 → Option (Int32 × Mm)} {k28 : Mm → Nat → Nat → Nat → Int32 → Int32 → Int32 → Int32 → Option (Int32 × Mm)}
set_option maxRecDepth 100000 in
theorem ROut_lift {c c1 m m1 : Mm} {q : Option Nat} {d r : Nat} {x6 : Int32} {X Y : Option (Int32 × Mm)} (kc : RcF c c1) (km : RmF m m1) (H : ROut k28 c1 m1 q d r x6 X Y) : ROut k28 c m q d r x6 X Y := by
  obtain ⟨c', m', h1, h2, h3⟩ := H
  exact ⟨c', m', RcF_trans kc h1, RmF_trans km h2, h3⟩
/-- the reference's words -/
def wO (m : Mm) : Mm := wI (wL m 64 (vp_updL (vp_updL (vp_updL (mL m 64) 1 (mI m 47 4).toInt64) 2 (mI m 45 47).toInt64) 3 (mI m 45 48).toInt64)) 45 (upd (mI m 45) 50 0)
set_option maxRecDepth 100000 in
theorem wO_R {m : Mm} : RmF m (wO m) := ⟨rfl, rfl, rfl, fun a h1 _ _ _ => by unfold wO; rw [mI_wI, if_neg h1]; rfl, fun _ _ => rfl, fun k _ _ _ _ _ h6 => pk_un h6, fun _ _ => rfl⟩
set_option maxRecDepth 100000 in
theorem wO_64 {m : Mm} : mL (wO m) 64 1 = (mI m 47 4).toInt64 ∧ mL (wO m) 64 2 = (mI m 45 47).toInt64 ∧ mL (wO m) 64 3 = (mI m 45 48).toInt64 := by
  refine ⟨?_, ?_, ?_⟩
  · show vp_updL (vp_updL (vp_updL (mL m 64) 1 (mI m 47 4).toInt64) 2 (mI m 45 47).toInt64) 3 (mI m 45 48).toInt64 1 = _
    rfl
  · rfl
  · rfl
set_option maxRecDepth 100000 in
theorem r_run {m : Mm} (hS : hSh m) {r : Nat} (hr : r < 12) : fX9_run m 45 (nI (10 * r)) = (if mI m 69 (10 * r + 8) ≤ mI m 69 (10 * r + 7) then bX9_run_85 (wO m) 45 (nI (10 * r)) else oB (fX9_sumOf (wO m) 45 (nI (10 * r + 7))) (fun v33 u34 => oK u34 45 9 54 (oI (mI u34 45 50) (fun v35 => (if (v35 : Int32) = 0 then (if (v33 : Int32) = 0 then some (0, u34) else bX9_run_85 u34 45 (nI (10 * r))) else some (0, u34)))))) := by
  have h1 : ∀ g, hSh (wL m 64 g) := fun _ => hS
  have hO : hSh (wO m) := hS
  have e2 : ∀ g, mL (wL m 64 g) 64 = g := fun g => rfl
  have e3 : ∀ g k, mI (wL m 64 g) 45 k = mI m 45 k := fun _ _ => rfl
  have i7 : nI (10 * r) + 7 = nI (10 * r + 7) := by rw [show (7 : Int32) = nI 7 from rfl, nI_add]
  have i8 : nI (10 * r + 7) + 1 = nI (10 * r + 8) := nI_1 _
  have o7 : ∀ k, mI (wO m) 69 k = mI m 69 k := fun _ => rfl
  have c1 : Int32.toNatClampNeg 1 = 1 := rfl
  have c2 : Int32.toNatClampNeg 2 = 2 := rfl
  have c3 : Int32.toNatClampNeg 3 = 3 := rfl
  have c4 : Int32.toNatClampNeg 4 = 4 := rfl
  have eO : wI (wL m 64 (vp_updL (vp_updL (vp_updL (mL m 64) 1 (mI m 47 4).toInt64) 2 (mI m 45 47).toInt64) 3 (mI m 45 48).toInt64)) 45 (upd (mI (wL m 64 (vp_updL (vp_updL (vp_updL (mL m 64) 1 (mI m 47 4).toInt64) 2 (mI m 45 47).toInt64) 3 (mI m 45 48).toInt64)) 45) 50 0) = wO m := rfl
  unfold fX9_run
  rw [oK_of (sh45 hS), rf45_36 hS, oNn_of, oK_of (sh45 hS), rf45_3 hS, oNn_of, oA_of (sh47 hS) (by decide) (by decide), oI_of, oA_of (sh64 hS) (by decide) (by decide), oU_of, c1, c4, oK_of (sh45 (h1 _)), rf45_36 (h1 _), oNn_of, oK_of (sh45 (h1 _)), oI_of, e3, oA_of (sh64 (h1 _)) (by decide) (by decide), oU_of, e2, wL_s, c2, oK_of (sh45 (h1 _)), rf45_36 (h1 _), oNn_of, oK_of (sh45 (h1 _)), oI_of, e3, oA_of (sh64 (h1 _)) (by decide) (by decide), oU_of, e2, wL_s, c3, oK_of (sh45 (h1 _)), oZ0, oU_of, eO, oK_of (sh45 hO), rf45_46 hO, oNn_of, i7, oA_k (sh69 hO) (by omega) (by decide), oI_of, clm (by omega), oK_of (sh45 hO), oNn_of, i8, oA_k (sh69 hO) (by omega) (by decide), oI_of, clm (by omega), o7, o7, oR_of (sh45 hO)]
set_option maxRecDepth 100000 in
theorem J_run1 {c m : Mm} {q : Option Nat} {r h x d i : Nat} {l : Int32} {tt : Bool} {fV : (Nat → Int32) → Int64} {fS : Nat → (Nat → Int32) → Int64} (hA : JA c m q) (hr : r < 12) (h4 : h < 4) (hx : x ≤ 20) (hi : i < x) (hv : tvf fV) (HC : OV c r h x tt fV fS) (HM : Oq m (mI m 56) (mI m 57) 400 r h x tt fV fS) (h47 : mI m 45 47 = nI d) (h48 : mI m 45 48 = l) : ROut k28 c m q d r (nI i) (bX8_runOrders_28 k16 k28 c 0 23 14 (nI d) l (nI r) (nI i)) (fX9_run m 45 (nI (10 * r))) := by
  have hS := hA.1.1
  have hSm := hA.1.2.1
  obtain ⟨W, w1, w2, w3, w4, w5, w6, w7⟩ := c_setOrd hS (x := nI d) (y := l)
  have h1 : hSh (wI c 16 W) := hS
  have hO : hSh (wO m) := hSm
  have ix : nI r * 4 + 3 = nI (4 * r + 3) := by rw [show (4 : Int32) = nI 4 from rfl, show (3 : Int32) = nI 3 from rfl, nI_mul, nI_add, Nat.mul_comm]
  have kc : RcF c (wI c 16 W) := ⟨rfl, rfl, rfl, fun a _ h2 _ _ _ _ _ => by rw [mI_wI, if_neg h2]⟩
  have A1 : JA (wI c 16 W) (wO m) q := JA_c (JA_m (m' := wO m) hA hSm rfl rfl rfl rfl rfl) rfl rfl rfl (fun a h2 _ => by rw [mI_wI, if_neg h2])
  have hB := hA.1
  have FRm := JB_FR hB
  have WMo : WM (wO m) W := by
    obtain ⟨g1, g2, g3⟩ := wO_64 (m := m)
    refine ⟨fun j hj => ?_, fun j hj => ?_, fun s hs => ?_, fun s hs => ?_⟩
    · rcases (show j = 0 ∨ j = 1 ∨ j = 2 by omega) with rfl | rfl | rfl
      · rw [g1, w2]; exact congrArg Int32.toInt64 FRm.2.symm
      · rw [g2, w3, h47]
      · rw [g3, w4, h48]
    · rw [w5 j hj]; exact (FRm.1 j (by omega)).symm
    · rw [w6 s hs]
      have := FRm.1 (24 + s) (by omega)
      rw [show 7 + (24 + s) = 31 + s by omega] at this
      exact this.symm
    · rw [w7 s hs]
      have := FRm.1 (26 + s) (by omega)
      rw [show 7 + (26 + s) = 33 + s by omega] at this
      exact this.symm
  have HC1 : OV (wI c 16 W) r h x tt fV fS := OV_R hS HC kc
  have HM1 : Oq (wO m) (mI (wO m) 56) (mI (wO m) 57) 400 r h x tt fV fS := Oq_R wO_R HM
  have X0 : bX8_runOrders_28 k16 k28 c 0 23 14 (nI d) l (nI r) (nI i) = (if mI c 28 (4 * r + 3) = -1 then bX8_runOrders_88 k16 k28 (wI c 16 W) 0 23 14 (nI d) l (nI r) (nI i) else oB (fX5_valueOf (wI c 16 W) 14 23 (mI c 28 (4 * r + 3))) (fun w28 u29 => (if (lg_cmp w28 1 : Int32) = 0 then bX8_runOrders_88 k16 k28 u29 0 23 14 (nI d) l (nI r) (nI i) else bX8_runOrders_234 k16 k28 u29 0 23 14 (nI d) l (nI r) (nI i)))) := by
    have e28 : ∀ k, mI (wI c 16 W) 28 k = mI c 28 k := fun _ => rfl
    unfold bX8_runOrders_28
    rw [oK_of (sh23 hS), rf23_4 hS, oNn_of, oA_k (sh27 hS) hr (by decide), oI_of, clm (by omega), HC.2.1, if_neg (nI_ge hi (by omega)), oK_of (sh0 hS), rf0_0 hS, oNn_of, oK_of (sh1 hS), rf1_0 hS, oNn_of, oR_of (sh14 hS), w1, oB_of, oK_of (sh23 h1), rf23_5 h1, oNn_of, ix, oA_k (sh28 h1) (by omega) (by decide), oI_of, clm (by omega), e28, oR_of (sh14 h1)]
  rw [X0, r_run hSm hr]
  obtain ⟨-, -, q3, q4, -, -⟩ := id HC
  obtain ⟨-, -, p3, p4, -, -⟩ := id HM
  cases tt with
  | false =>
    obtain ⟨y, y1, y2, y3⟩ := p4 rfl
    rw [if_pos (q4 rfl), y2, y3, if_pos (Int32.le_refl _)]
    exact ROut_lift kc wO_R (J_go A1 hr h4 HC1 HM1 WMo rfl h47 h48)
  | true =>
    obtain ⟨a, a1, a2, a3⟩ := q3 rfl
    obtain ⟨b1, b2, g1, g2, g3, g4⟩ := p3 rfl
    obtain ⟨a', a1', a2', a3'⟩ := HC1.2.2.1 rfl
    have ea : mI c 28 (4 * r + 3) = nI a' := a2'
    obtain ⟨S, eS⟩ := SegV_val h1 a3'
    have nm : ¬ nI a' = -1 := by
      intro w
      have := congrArg Int32.toInt w
      rw [nI_toInt (by omega)] at this
      have m1 : (-1 : Int32).toInt = -1 := by decide
      omega
    have sg := g4
    obtain ⟨lt, le4, -⟩ := g4
    obtain ⟨v, m2, e1, s2, e3⟩ := r_sumOf hO rfl A1.1.2.2.2.2.1 (x := 10 * r + 7) (by omega) (a := b1) (b := b2) g2 g3 (f := fV) sg WMo
    have hm2 := SF_sh s2 hO
    have km2 : RmF m m2 := RmF_trans wO_R (RmF_SF s2)
    have c2h : hSh (wL (wI c 16 W) 15 S) := hS
    have kc2 : RcF c (wL (wI c 16 W) 15 S) := RcF_trans kc ⟨rfl, rfl, rfl, fun _ _ _ _ _ _ _ _ => rfl⟩
    have A2 : JA (wL (wI c 16 W) 15 S) m2 q := JA_c (JA_SF A1 s2) rfl rfl rfl (fun _ _ _ => rfl)
    have e47 : mI m2 45 47 = nI d := by rw [s2.2.2.2.2.1 47 (by decide) (by decide)]; exact h47
    have e48 : mI m2 45 48 = l := by rw [s2.2.2.2.2.1 48 (by decide) (by decide)]; exact h48
    have W16 : mI (wI c 16 W) 16 = W := rfl
    rw [W16] at eS
    rw [ea, if_neg nm, eS, oB_of, g2, g3, if_neg (nI_ge lt (by omega)), e1, oB_of, oK_of (sh45 hm2), oI_of]
    have skip : ROut k28 c m q d r (nI i) (bX8_runOrders_234 k16 k28 (wL (wI c 16 W) 15 S) 0 23 14 (nI d) l (nI r) (nI i)) (some (0, m2)) := ⟨_, m2, kc2, km2, A2, Or.inl ⟨d, l, by omega, rfl, rfl, e47, e48⟩⟩
    rcases hv W with z | z | z
    · rw [z] at e3
      rw [z]
      rcases e3 with ⟨f1, f2, f3⟩ | ⟨f1, f2⟩
      · rw [f3, if_pos rfl, f2, if_neg (by decide), if_pos (by decide)]
        exact skip
      · exact absurd f1 (by decide)
    · rw [z] at e3
      rw [z]
      rcases e3 with ⟨f1, f2, f3⟩ | ⟨f1, f2⟩
      · rw [if_pos f3, f2, if_pos (by decide), if_neg (by decide)]
        exact ROut_lift kc2 km2 (J_go A2 hr h4 (OV_R hS HC kc2) (Oq_R km2 HM) (WM_SF s2 WMo) f3 e47 e48)
      · exact absurd f1 (by decide)
    · rw [z] at e3
      rw [z]
      rcases e3 with ⟨f1, f2, f3⟩ | ⟨f1, f2⟩
      · exact absurd rfl f1
      · rw [f2, if_neg (by decide), if_neg (by decide)]
        exact skip
end
