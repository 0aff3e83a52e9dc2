/-! ===== the run: all orders, by both ===== -/
def OT (c m : Mm) (n : Nat) (hh xx : Nat → Nat) (tt : Nat → Bool) (fV : Nat → (Nat → Int32) → Int64) (fS : Nat → Nat → (Nat → Int32) → Int64) : Prop := n ≤ 12 ∧ mI c 23 6 = nI n ∧ mI m 45 21 = nI n ∧ ∀ r, r < n → hh r < 4 ∧ 1 ≤ xx r ∧ xx r ≤ 20 ∧ tvf (fV r) ∧ OV c r (hh r) (xx r) (tt r) (fV r) (fS r) ∧ Oq m (mI m 56) (mI m 57) 400 r (hh r) (xx r) (tt r) (fV r) (fS r)
/-- what the reference does when an order fails -/
def gB (x1 : Int32) (r : Nat) (u19 : Mm) : Option (Int32 × Mm) := oR u19 45 9 (oB (fX9_giveBack u19 45 x1) (fun _ u20 => oK u20 45 9 54 (oU (wI u20 45 (upd (mI u20 45) 49 (nI r))) (fun u21 => oR u21 45 9 (oB (fX9_answer u21 45 ((-3))) (fun v22 u23 => some (v22, u23)))))))
def FOut (c m : Mm) (q : Option Nat) (x1 : Int32) (X Y : Option (Int32 × Mm)) : Prop := ∃ c' m', RcF c c' ∧ RmF m m' ∧ JA c' m' q ∧ ((∃ d, d ≤ 240 ∧ X = some (nI d, c') ∧ Y = some (nI d, wI m' 45 (upd (mI m' 45) 1 0))) ∨ ∃ r, r < 12 ∧ X = some (-1, wI c' 0 (upd (mI c' 0) 15 (nI r))) ∧ Y = gB x1 r m')
section
variable {c0 m0 : Mm} {q : Option Nat} {x1 : Int32} {n : Nat} {hh xx : Nat → Nat} {tt : Nat → Bool} {fV : Nat → (Nat → Int32) → Int64} {fS : Nat → Nat → (Nat → Int32) → Int64}
set_option maxRecDepth 100000 in
theorem J_28 (hS0 : hSh c0) (hOT : OT c0 m0 n hh xx tt fV fS) {r : Nat} (hr : r < n) {K16 : Mm → Nat → Nat → Nat → Int32 → Int32 → Int32 → Option (Int32 × Mm)} {K140 : Mm → Nat → Int32 → Int32 → Option (Int32 × Mm)} (Hk : ∀ c' m' d' l', RcF c0 c' → RmF m0 m' → JA c' m' q → mI m' 45 47 = nI d' → mI m' 45 48 = l' → d' ≤ 20 * (r + 1) → FOut c0 m0 q x1 (K16 c' 0 23 14 (nI d') l' (nI (r + 1))) (K140 m' 45 x1 (nI (r + 1)))) {N M : Nat} : ∀ e i c m d l, i + e = xx r → RcF c0 c → RmF m0 m → JA c m q → mI m 45 47 = nI d → mI m 45 48 = l → d ≤ 20 * r + i → FOut c0 m0 q x1 (rX8_runOrders_28 K16 (N + e + 1) c 0 23 14 (nI d) l (nI r) (nI i)) (rX9_orders_150 K140 (M + e + 1) m 45 x1 (nI r) (nI i)) := by
  obtain ⟨n12, -, -, hT⟩ := hOT
  obtain ⟨t1, t2, t3, t4, t5, t6⟩ := hT r hr
  have i10 : (10 : Int32) * nI r = nI (10 * r) := by rw [show (10 : Int32) = nI 10 from rfl, nI_mul]
  have i9 : nI (10 * r) + 9 = nI (10 * r + 9) := by rw [show (9 : Int32) = nI 9 from rfl, nI_add]
  intro e
  induction e with
  | zero =>
    intro i c m d l hi kc km hA h47 h48 hd
    have hS := hA.1.1
    have hSm := hA.1.2.1
    have ei : i = xx r := by omega
    have HC := OV_R hS0 t5 kc
    have HM := Oq_R km t6
    have X : rX8_runOrders_28 K16 (N + 0 + 1) c 0 23 14 (nI d) l (nI r) (nI i) = K16 c 0 23 14 (nI d) l (nI (r + 1)) := by
      show bX8_runOrders_28 K16 _ c 0 23 14 (nI d) l (nI r) (nI i) = _
      unfold bX8_runOrders_28
      rw [oK_of (sh23 hS), rf23_4 hS, oNn_of, oA_k (sh27 hS) (by omega) (by decide), oI_of, clm (by omega), HC.2.1, ei, if_pos (Int32.le_refl _), nI_1]
    have Y : rX9_orders_150 K140 (M + 0 + 1) m 45 x1 (nI r) (nI i) = K140 m 45 x1 (nI (r + 1)) := by
      show bX9_orders_150 K140 _ m 45 x1 (nI r) (nI i) = _
      unfold bX9_orders_150
      rw [oK_of (sh45 hSm), rf45_46 hSm, oNn_of, i10, i9, oA_k (sh69 hSm) (by omega) (by decide), oI_of, clm (by omega), HM.2.1, ei, if_pos (Int32.le_refl _), nI_1]
    rw [X, Y]
    exact Hk c m d l kc km hA h47 h48 (by omega)
  | succ e ih =>
    intro i c m d l hi kc km hA h47 h48 hd
    have hS := hA.1.1
    have hSm := hA.1.2.1
    have HC := OV_R hS0 t5 kc
    have HM := Oq_R km t6
    have Y : rX9_orders_150 K140 (M + (e + 1) + 1) m 45 x1 (nI r) (nI i) = oB (fX9_run m 45 (nI (10 * r))) (fun v18 u19 => (if 0 ≤ (v18 : Int32) then rX9_orders_150 K140 (M + e + 1) u19 45 x1 (nI r) (nI (i + 1)) else gB x1 r u19)) := by
      show bX9_orders_150 K140 (rX9_orders_150 K140 (M + e + 1)) m 45 x1 (nI r) (nI i) = _
      unfold bX9_orders_150 gB
      rw [oK_of (sh45 hSm), rf45_46 hSm, oNn_of, i10, i9, oA_k (sh69 hSm) (by omega) (by decide), oI_of, clm (by omega), HM.2.1, if_neg (nI_ge (a := i) (b := xx r) (by omega) (by omega)), oR_of (sh45 hSm), nI_1]
    have go := J_run1 (k16 := K16) (k28 := rX8_runOrders_28 K16 (N + e + 1)) (i := i) hA (show r < 12 by omega) t1 t3 (by omega) t4 HC HM h47 h48
    obtain ⟨c', m', g1, g2, g3, g4⟩ := go
    rw [Y]
    show FOut c0 m0 q x1 (bX8_runOrders_28 K16 (rX8_runOrders_28 K16 (N + e + 1)) c 0 23 14 (nI d) l (nI r) (nI i)) _
    rcases g4 with ⟨d', l', w1, w2, w3, w4, w5⟩ | ⟨w1, w2⟩
    · rw [w2, w3, oB_of, if_pos (by decide), nI_1]
      exact ih (i + 1) c' m' d' l' (by omega) (RcF_trans kc g1) (RmF_trans km g2) g3 w4 w5 (by omega)
    · rw [w1, w2, oB_of, if_neg (by decide)]
      exact ⟨c', m', RcF_trans kc g1, RmF_trans km g2, g3, Or.inr ⟨r, by omega, rfl, rfl⟩⟩
set_option maxRecDepth 100000 in
theorem J_16 (hS0 : hSh c0) (hOT : OT c0 m0 n hh xx tt fV fS) {N M : Nat} : ∀ e r c m d l, r + e = n → RcF c0 c → RmF m0 m → JA c m q → mI m 45 47 = nI d → mI m 45 48 = l → d ≤ 20 * r → FOut c0 m0 q x1 (rX8_runOrders_16 (N + e + 1) c 0 23 14 (nI d) l (nI r)) (rX9_orders_140 (M + e + 1) m 45 x1 (nI r)) := by
  have n12 := hOT.1
  intro e
  induction e with
  | zero =>
    intro r c m d l hr kc km hA h47 h48 hd
    have hS := hA.1.1
    have hSm := hA.1.2.1
    have e6 : mI c 23 6 = nI n := by rw [kc.2.2.2 23 (by decide) (by decide) (by decide) (by decide) (by decide) (by decide) (by decide)]; exact hOT.2.1
    have e21 : mI m 45 21 = nI n := by rw [km.2.2.2.2.2.1 21 (by decide) (by decide) (by decide) (by decide) (by decide) (by decide)]; exact hOT.2.2.1
    have er : r = n := by omega
    refine ⟨c, m, kc, km, hA, Or.inl ⟨d, by omega, ?_, ?_⟩⟩
    · show bX8_runOrders_16 _ c 0 23 14 (nI d) l (nI r) = _
      unfold bX8_runOrders_16
      rw [oK_of (sh23 hS), oI_of, e6, er, if_pos (Int32.le_refl _)]
    · show bX9_orders_140 _ m 45 x1 (nI r) = _
      unfold bX9_orders_140
      rw [oK_of (sh45 hSm), oI_of, e21, er, if_pos (Int32.le_refl _), oK_of (sh45 hSm), oI_of, h47, oR_of (sh45 hSm), m_accept hSm (nI d) (nI_pos' (by omega)), oB_of]
  | succ e ih =>
    intro r c m d l hr kc km hA h47 h48 hd
    have hS := hA.1.1
    have hSm := hA.1.2.1
    have e6 : mI c 23 6 = nI n := by rw [kc.2.2.2 23 (by decide) (by decide) (by decide) (by decide) (by decide) (by decide) (by decide)]; exact hOT.2.1
    have e21 : mI m 45 21 = nI n := by rw [km.2.2.2.2.2.1 21 (by decide) (by decide) (by decide) (by decide) (by decide) (by decide)]; exact hOT.2.2.1
    have x20 := (hOT.2.2.2 r (by omega)).2.2.1
    obtain ⟨P, hP⟩ : ∃ P, hwF = P + xx r + 1 := ⟨999999 - xx r, by unfold hwF; omega⟩
    have X : rX8_runOrders_16 (N + (e + 1) + 1) c 0 23 14 (nI d) l (nI r) = rX8_runOrders_28 (rX8_runOrders_16 (N + e + 1)) (P + xx r + 1) c 0 23 14 (nI d) l (nI r) (nI 0) := by
      show bX8_runOrders_16 (rX8_runOrders_16 (N + e + 1)) c 0 23 14 (nI d) l (nI r) = _
      unfold bX8_runOrders_16
      rw [oK_of (sh23 hS), oI_of, e6, if_neg (nI_ge (a := r) (b := n) (by omega) (by omega)), hP]
      rfl
    have Y : rX9_orders_140 (M + (e + 1) + 1) m 45 x1 (nI r) = rX9_orders_150 (rX9_orders_140 (M + e + 1)) (P + xx r + 1) m 45 x1 (nI r) (nI 0) := by
      show bX9_orders_140 (rX9_orders_140 (M + e + 1)) m 45 x1 (nI r) = _
      unfold bX9_orders_140
      rw [oK_of (sh45 hSm), oI_of, e21, if_neg (nI_ge (a := r) (b := n) (by omega) (by omega)), hP]
      rfl
    rw [X, Y]
    exact J_28 hS0 hOT (show r < n by omega) (fun c' m' d' l' k1 k2 k3 k4 k5 k6 => ih (r + 1) c' m' d' l' (by omega) k1 k2 k3 k4 k5 (by omega)) (xx r) 0 c m d l (by omega) kc km hA h47 h48 (by omega)
set_option maxRecDepth 100000 in
/-- the whole run -/
theorem J_runs (hOT : OT c0 m0 n hh xx tt fV fS) (hA : JA c0 m0 q) (h47 : mI m0 45 47 = 0) (h48 : mI m0 45 48 = -1) : FOut c0 m0 q x1 (fX8_runOrders c0 0 23) (rX9_orders_140 hwF m0 45 x1 0) := by
  have hS := hA.1.1
  obtain ⟨P, hP⟩ : ∃ P, hwF = P + n + 1 := ⟨999999 - n, by have := hOT.1; unfold hwF; omega⟩
  have h := J_16 (x1 := x1) hS hOT (N := P) (M := P) n 0 c0 m0 0 (-1) (by omega) RcF_rfl RmF_rfl hA h47 h48 (by omega)
  have X : fX8_runOrders c0 0 23 = rX8_runOrders_16 (P + n + 1) c0 0 23 14 (nI 0) (-1) (nI 0) := by
    unfold fX8_runOrders
    rw [oK_of (sh0 hS), rf0_1 hS, oNn_of, oK_of (sh13 hS), rf13_1 hS, oNn_of, hP]
    rfl
  rw [X, hP]
  exact h
end
