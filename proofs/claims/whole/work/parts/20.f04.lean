/-! ===== methods as functions, with their contracts (printed by program) ===== -/
def fX7_costOf (u : Mm) (a0 : Nat) (q1 : Option Nat) (a2 : Nat) (x3 : Int32) (x4 : Int32) : Option (Int32 × Mm) := oK u a0 7 2 (oNn (mR u a0 1) (fun e1 => oK u a0 7 2 (oNn (mR u a0 0) (fun e2 => oK u e2 0 16 (oI (mI u e2 12) (fun v3 => oR u e1 5 (oB (fX5_setLawWords u e1 a2 x3 v3) (fun _ u4 => oK u4 a0 7 2 (oNn (mR u4 a0 1) (fun e5 => oR u4 e5 5 (oB (fX5_setColumnWords u4 e5 a2 x3 x4) (fun _ u6 => oK u6 a0 7 2 (oNn (mR u6 a0 1) (fun e7 => oR u6 e7 5 (oB (fX5_toldBy u6 e7 q1 257 5) (fun v8 u9 => oB (fJ9_min_7cf53 u9 v8 99) (fun v10 u11 => oB (fJ9_max_7cf53 u11 0 v10) (fun v12 u13 => some (v12, u13)))))))))))))))))))
set_option maxRecDepth 100000 in
set_option maxHeartbeats 4000000 in
theorem tX7_costOf {u : Mm} {a0 : Nat} {q1 : Option Nat} {a2 : Nat} {x3 : Int32} {x4 : Int32} {r : Int32} {u' : Mm} (h : fX7_costOf u a0 q1 a2 x3 x4 = some (r, u')) : Ev 3 MX7_costOf 0 0 [.ref a0, va_rf q1, .ref a2, .int x3, .int x4] u (some (.int r), u') := by
  have hg : Eg MX7_costOf 3 0 0 (some (.int r), u') 0 [(0, .ref a0), (1, va_rf q1), (2, .ref a2), (3, .int x3), (4, .int x4)] [] u := by
    unfold fX7_costOf at h
    refine E_aload_n dX7_costOf_0 rfl rfl ?_
    refine E_getA h dX7_costOf_1 cf7 lk_X7_12 (by decide) (fun _ _ _ => rfl) (fun e1 h => ?_)
    refine E_aload_n dX7_costOf_4 rfl rfl ?_
    refine E_iload_n dX7_costOf_5 rfl rfl ?_
    refine E_aload_n dX7_costOf_6 rfl rfl ?_
    refine E_getA h dX7_costOf_7 cf7 lk_X7_18 (by decide) (fun _ _ _ => rfl) (fun e2 h => ?_)
    refine E_getI h dX7_costOf_10 cf0 lk_X7_22 (by decide) (fun _ _ _ => rfl) (fun h => ?_)
    refine E_oI h (fun v3 h => ?_)
    refine F_Vv h (fun m e => tX5_setLawWords e) dX7_costOf_13 hm_X5_setLawWords hv_X5_setLawWords ln_X7_28 rfl rfl (Nat.le_of_ble_eq_true rfl) (Nat.le_of_ble_eq_true rfl) (kc' := 0) (ks' := 0) rfl rfl (fun u4 h => ?_)
    refine E_aload_n dX7_costOf_16 rfl rfl ?_
    refine E_getA h dX7_costOf_17 cf7 lk_X7_12 (by decide) (fun _ _ _ => rfl) (fun e5 h => ?_)
    refine E_aload_n dX7_costOf_20 rfl rfl ?_
    refine E_iload_n dX7_costOf_21 rfl rfl ?_
    refine E_iload dX7_costOf_22 rfl ?_
    refine F_Vv h (fun m e => tX5_setColumnWords e) dX7_costOf_24 hm_X5_setColumnWords hv_X5_setColumnWords ln_X7_32 rfl rfl (Nat.le_of_ble_eq_true rfl) (Nat.le_of_ble_eq_true rfl) (kc' := 0) (ks' := 0) rfl rfl (fun u6 h => ?_)
    refine E_aload_n dX7_costOf_27 rfl rfl ?_
    refine E_getA h dX7_costOf_28 cf7 lk_X7_12 (by decide) (fun _ _ _ => rfl) (fun e7 h => ?_)
    refine E_aload_nQ dX7_costOf_31 rfl rfl ?_
    refine E_sipush (v := 257) dX7_costOf_32 (by decide) ?_
    refine E_iconst (v := 5) dX7_costOf_35 (by decide) ?_
    refine F_Vi h (fun a m e => tX5_toldBy e) dX7_costOf_36 hm_X5_toldBy hv_X5_toldBy ln_X7_35 rfl rfl (Nat.le_of_ble_eq_true rfl) (Nat.le_of_ble_eq_true rfl) (kc' := 0) (ks' := 0) rfl rfl (fun v8 u9 h => ?_)
    refine E_istore (l' := [(5, .int v8), (0, .ref a0), (1, va_rf q1), (2, .ref a2), (3, .int x3), (4, .int x4)]) dX7_costOf_39 (Nat.le_of_ble_eq_true rfl) (by cases q1 <;>  rfl) ?_
    refine E_iconst (v := 0) dX7_costOf_41 (by decide) ?_
    refine E_iload dX7_costOf_42 rfl ?_
    refine E_bipush (v := 99) dX7_costOf_44 (by decide) ?_
    refine F_Si h (fun a m e => tJ9_min_7cf53 e) dX7_costOf_46 hm_J9_min_7cf53 hs_J9_min_7cf53 ln_X7_39 rfl rfl (Nat.le_of_ble_eq_true rfl) (Nat.le_of_ble_eq_true rfl) (kc' := 0) (ks' := 0) rfl rfl (fun v10 u11 h => ?_)
    refine F_Si h (fun a m e => tJ9_max_7cf53 e) dX7_costOf_49 hm_J9_max_7cf53 hs_J9_max_7cf53 ln_X7_45 rfl rfl (Nat.le_of_ble_eq_true rfl) (Nat.le_of_ble_eq_true rfl) (kc' := 0) (ks' := 0) rfl rfl (fun v12 u13 h => ?_)
    exact E_iret h dX7_costOf_52 rfl
  refine Ev.of (by decide +kernel) ?_ ?_
  · cases q1 <;> exact Nat.le_of_ble_eq_true rfl
  · cases q1 <;> exact hg
def bX7_isBarred_53 (u : Mm) (s0 : Int32) : Option (Int32 × Mm) := oZ s0 (some (s0, u))
set_option maxRecDepth 100000 in
set_option maxHeartbeats 4000000 in
theorem pX7_isBarred_53 {r : Int32} {u' : Mm} (u : Mm) (s0 : Int32) (h : bX7_isBarred_53 u s0 = some (r, u')) : Eg MX7_isBarred 3 0 0 (some (.int r), u') 53 [] [.int s0] u := by
  unfold bX7_isBarred_53 at h
  exact E_zret h dX7_isBarred_53 rfl
def fX7_isBarred (u : Mm) (a0 : Nat) (a1 : Nat) (x2 : Int32) (x3 : Int32) : Option (Int32 × Mm) := oK u a0 7 2 (oNn (mR u a0 1) (fun e1 => oK u a0 7 2 (oNn (mR u a0 0) (fun e2 => oK u e2 0 16 (oI (mI u e2 12) (fun v3 => oR u e1 5 (oB (fX5_setLawWords u e1 a1 x2 v3) (fun _ u4 => oK u4 a0 7 2 (oNn (mR u4 a0 1) (fun e5 => oR u4 e5 5 (oB (fX5_setColumnWords u4 e5 a1 x2 x3) (fun _ u6 => oK u6 a0 7 2 (oNn (mR u6 a0 1) (fun e7 => oK u6 a0 7 2 (oNn (mR u6 a0 0) (fun e8 => oR u6 e8 0 (oB (fX0_lawInForce u6 e8) (fun g9 u10 => oR u10 e7 5 (oB (fX5_toldBy u10 e7 g9 259 0) (fun v11 u12 => (if (v11 : Int32) = 1 then bX7_isBarred_53 u12 1 else bX7_isBarred_53 u12 0)))))))))))))))))))))
set_option maxRecDepth 100000 in
set_option maxHeartbeats 4000000 in
theorem tX7_isBarred {u : Mm} {a0 : Nat} {a1 : Nat} {x2 : Int32} {x3 : Int32} {r : Int32} {u' : Mm} (h : fX7_isBarred u a0 a1 x2 x3 = some (r, u')) : Ev 3 MX7_isBarred 0 0 [.ref a0, .ref a1, .int x2, .int x3] u (some (.int r), u') := by
  refine Ev.of (by decide +kernel) (Nat.le_of_ble_eq_true rfl) (show Eg MX7_isBarred 3 0 0 (some (.int r), u') 0 [(0, .ref a0), (1, .ref a1), (2, .int x2), (3, .int x3)] [] u from ?_)
  unfold fX7_isBarred at h
  refine E_aload_n dX7_isBarred_0 rfl rfl ?_
  refine E_getA h dX7_isBarred_1 cf7 lk_X7_12 (by decide) (fun _ _ _ => rfl) (fun e1 h => ?_)
  refine E_aload_n dX7_isBarred_4 rfl rfl ?_
  refine E_iload_n dX7_isBarred_5 rfl rfl ?_
  refine E_aload_n dX7_isBarred_6 rfl rfl ?_
  refine E_getA h dX7_isBarred_7 cf7 lk_X7_18 (by decide) (fun _ _ _ => rfl) (fun e2 h => ?_)
  refine E_getI h dX7_isBarred_10 cf0 lk_X7_22 (by decide) (fun _ _ _ => rfl) (fun h => ?_)
  refine E_oI h (fun v3 h => ?_)
  refine F_Vv h (fun m e => tX5_setLawWords e) dX7_isBarred_13 hm_X5_setLawWords hv_X5_setLawWords ln_X7_28 rfl rfl (Nat.le_of_ble_eq_true rfl) (Nat.le_of_ble_eq_true rfl) (kc' := 0) (ks' := 0) rfl rfl (fun u4 h => ?_)
  refine E_aload_n dX7_isBarred_16 rfl rfl ?_
  refine E_getA h dX7_isBarred_17 cf7 lk_X7_12 (by decide) (fun _ _ _ => rfl) (fun e5 h => ?_)
  refine E_aload_n dX7_isBarred_20 rfl rfl ?_
  refine E_iload_n dX7_isBarred_21 rfl rfl ?_
  refine E_iload_n dX7_isBarred_22 rfl rfl ?_
  refine F_Vv h (fun m e => tX5_setColumnWords e) dX7_isBarred_23 hm_X5_setColumnWords hv_X5_setColumnWords ln_X7_32 rfl rfl (Nat.le_of_ble_eq_true rfl) (Nat.le_of_ble_eq_true rfl) (kc' := 0) (ks' := 0) rfl rfl (fun u6 h => ?_)
  refine E_aload_n dX7_isBarred_26 rfl rfl ?_
  refine E_getA h dX7_isBarred_27 cf7 lk_X7_12 (by decide) (fun _ _ _ => rfl) (fun e7 h => ?_)
  refine E_aload_n dX7_isBarred_30 rfl rfl ?_
  refine E_getA h dX7_isBarred_31 cf7 lk_X7_18 (by decide) (fun _ _ _ => rfl) (fun e8 h => ?_)
  refine F_Vq h (fun a m e => tX0_lawInForce e) dX7_isBarred_34 hm_X0_lawInForce hv_X0_lawInForce ln_X7_48 rfl rfl (Nat.le_of_ble_eq_true rfl) (Nat.le_of_ble_eq_true rfl) (kc' := 0) (ks' := 0) rfl rfl (fun g9 u10 h => ?_)
  refine E_sipush (v := 259) dX7_isBarred_37 (by decide) ?_
  refine E_iconst (v := 0) dX7_isBarred_40 (by decide) ?_
  refine F_Vi h (fun a m e => tX5_toldBy e) dX7_isBarred_41 hm_X5_toldBy hv_X5_toldBy ln_X7_35 rfl rfl (Nat.le_of_ble_eq_true rfl) (Nat.le_of_ble_eq_true rfl) (kc' := 0) (ks' := 0) rfl rfl (fun v11 u12 h => ?_)
  refine E_iconst (v := 1) dX7_isBarred_44 (by decide) ?_
  refine E_ic_ne (tgt := 52) h dX7_isBarred_45 (by decide) (fun h => ?_) (fun h => ?_)
  · refine E_iconst (v := 0) dX7_isBarred_52 (by decide) ?_
    refine Eg.pick [] rfl ?_
    exact pX7_isBarred_53 _ _ h
  · refine E_iconst (v := 1) dX7_isBarred_48 (by decide) ?_
    refine E_goto (tgt := 53) dX7_isBarred_49 (by decide) ?_
    refine Eg.pick [] rfl ?_
    exact pX7_isBarred_53 _ _ h
def bX2_costOfSet_28 (k4 : Mm → Nat → Int32 → Int32 → Int32 → Option (Int32 × Mm)) (u : Mm) (a0 : Nat) (x1 : Int32) (x2 : Int32) (x3 : Int32) : Option (Int32 × Mm) := k4 u a0 x1 x2 (x3 + 1)
set_option maxRecDepth 100000 in
set_option maxHeartbeats 4000000 in
theorem pX2_costOfSet_28 {r : Int32} {u' : Mm} {k4 : Mm → Nat → Int32 → Int32 → Int32 → Option (Int32 × Mm)} (hk4 : ∀ (u : Mm) (a0 : Nat) (x1 : Int32) (x2 : Int32) (x3 : Int32), k4 u a0 x1 x2 x3 = some (r, u') → Eg MX2_costOfSet 0 0 0 (some (.int r), u') 4 [(0, .ref a0), (1, .int x1), (2, .int x2), (3, .int x3)] [] u) (u : Mm) (a0 : Nat) (x1 : Int32) (x2 : Int32) (x3 : Int32) (h : bX2_costOfSet_28 k4 u a0 x1 x2 x3 = some (r, u')) : Eg MX2_costOfSet 0 0 0 (some (.int r), u') 28 [(0, .ref a0), (1, .int x1), (2, .int x2), (3, .int x3)] [] u := by
  unfold bX2_costOfSet_28 at h
  refine E_iinc (j := 3) (v := x3 + 1) (l' := [(3, .int (x3 + 1)), (0, .ref a0), (1, .int x1), (2, .int x2)]) dX2_costOfSet_28 rfl (addI (by decide)) (Nat.le_of_ble_eq_true rfl) rfl ?_
  refine E_goto (tgt := 4) dX2_costOfSet_31 (by decide) ?_
  refine Eg.pick [1, 2, 3, 0] rfl ?_
  exact hk4 _ _ _ _ _ h
def bX2_costOfSet_4 (k4 : Mm → Nat → Int32 → Int32 → Int32 → Option (Int32 × Mm)) (u : Mm) (a0 : Nat) (x1 : Int32) (x2 : Int32) (x3 : Int32) : Option (Int32 × Mm) := (if (8 : Int32) ≤ x3 then some (x2, u) else (if ((x1 >>> (x3 &&& 31)) &&& 1 : Int32) = 1 then oK u a0 2 3 (oNn (mR u a0 2) (fun e1 => oA u e1 10 x3 (oI (mI u e1 (Int32.toNatClampNeg x3)) (fun v2 => oI (x2 + v2) (fun v3 => bX2_costOfSet_28 k4 u a0 x1 v3 x3))))) else bX2_costOfSet_28 k4 u a0 x1 x2 x3))
set_option maxRecDepth 100000 in
set_option maxHeartbeats 4000000 in
theorem pX2_costOfSet_4 {r : Int32} {u' : Mm} {k4 : Mm → Nat → Int32 → Int32 → Int32 → Option (Int32 × Mm)} (hk4 : ∀ (u : Mm) (a0 : Nat) (x1 : Int32) (x2 : Int32) (x3 : Int32), k4 u a0 x1 x2 x3 = some (r, u') → Eg MX2_costOfSet 0 0 0 (some (.int r), u') 4 [(0, .ref a0), (1, .int x1), (2, .int x2), (3, .int x3)] [] u) (u : Mm) (a0 : Nat) (x1 : Int32) (x2 : Int32) (x3 : Int32) (h : bX2_costOfSet_4 k4 u a0 x1 x2 x3 = some (r, u')) : Eg MX2_costOfSet 0 0 0 (some (.int r), u') 4 [(0, .ref a0), (1, .int x1), (2, .int x2), (3, .int x3)] [] u := by
  unfold bX2_costOfSet_4 at h
  refine E_iload_n dX2_costOfSet_4 rfl rfl ?_
  refine E_bipush (v := 8) dX2_costOfSet_5 (by decide) ?_
  refine E_ic_ge (tgt := 34) h dX2_costOfSet_7 (by decide) (fun h => ?_) (fun h => ?_)
  · refine E_iload_n dX2_costOfSet_34 rfl rfl ?_
    exact E_iret h dX2_costOfSet_35 rfl
  · refine E_iload_n dX2_costOfSet_10 rfl rfl ?_
    refine E_iload_n dX2_costOfSet_11 rfl rfl ?_
    refine E_ishr dX2_costOfSet_12 ?_
    refine E_iconst (v := 1) dX2_costOfSet_13 (by decide) ?_
    refine E_iand dX2_costOfSet_14 ?_
    refine E_iconst (v := 1) dX2_costOfSet_15 (by decide) ?_
    refine E_ic_ne (tgt := 28) h dX2_costOfSet_16 (by decide) (fun h => ?_) (fun h => ?_)
    · refine Eg.pick [0, 1, 2, 3] rfl ?_
      exact pX2_costOfSet_28 hk4 _ _ _ _ _ h
    · refine E_iload_n dX2_costOfSet_19 rfl rfl ?_
      refine E_aload_n dX2_costOfSet_20 rfl rfl ?_
      refine E_getA h dX2_costOfSet_21 cf2 lk_X2_9 (by decide) (fun _ _ _ => rfl) (fun e1 h => ?_)
      refine E_iload_n dX2_costOfSet_24 rfl rfl ?_
      refine E_iald h dX2_costOfSet_25 (fun h => ?_)
      refine E_oI h (fun v2 h => ?_)
      refine E_iadd dX2_costOfSet_26 ?_
      refine E_oI h (fun v3 h => ?_)
      refine E_istore_n (l' := [(2, .int v3), (0, .ref a0), (1, .int x1), (3, .int x3)]) dX2_costOfSet_27 rfl (Nat.le_of_ble_eq_true rfl) rfl ?_
      refine Eg.pick [1, 2, 0, 3] rfl ?_
      exact pX2_costOfSet_28 hk4 _ _ _ _ _ h
def rX2_costOfSet_4 : Nat → Mm → Nat → Int32 → Int32 → Int32 → Option (Int32 × Mm)
  | 0, _, _, _, _, _ => none
  | n + 1, u, a0, x1, x2, x3 => bX2_costOfSet_4 (rX2_costOfSet_4 n) u a0 x1 x2 x3
theorem prX2_costOfSet_4 {r : Int32} {u' : Mm} : ∀ (n : Nat) (u : Mm) (a0 : Nat) (x1 : Int32) (x2 : Int32) (x3 : Int32), rX2_costOfSet_4 n u a0 x1 x2 x3 = some (r, u') → Eg MX2_costOfSet 0 0 0 (some (.int r), u') 4 [(0, .ref a0), (1, .int x1), (2, .int x2), (3, .int x3)] [] u
  | 0, _, _, _, _, _, h => by cases h
  | n + 1, u, a0, x1, x2, x3, h => pX2_costOfSet_4 (prX2_costOfSet_4 n) u a0 x1 x2 x3 h
def fX2_costOfSet (u : Mm) (a0 : Nat) (x1 : Int32) : Option (Int32 × Mm) := rX2_costOfSet_4 hwF u a0 x1 0 0
set_option maxRecDepth 100000 in
set_option maxHeartbeats 4000000 in
theorem tX2_costOfSet {u : Mm} {a0 : Nat} {x1 : Int32} {r : Int32} {u' : Mm} (h : fX2_costOfSet u a0 x1 = some (r, u')) : Ev 0 MX2_costOfSet 0 0 [.ref a0, .int x1] u (some (.int r), u') := by
  refine Ev.of (by decide +kernel) (Nat.le_of_ble_eq_true rfl) (show Eg MX2_costOfSet 0 0 0 (some (.int r), u') 0 [(0, .ref a0), (1, .int x1)] [] u from ?_)
  unfold fX2_costOfSet at h
  refine E_iconst (v := 0) dX2_costOfSet_0 (by decide) ?_
  refine E_istore_n (l' := [(2, .int 0), (0, .ref a0), (1, .int x1)]) dX2_costOfSet_1 rfl (Nat.le_of_ble_eq_true rfl) rfl ?_
  refine E_iconst (v := 0) dX2_costOfSet_2 (by decide) ?_
  refine E_istore_n (l' := [(3, .int 0), (2, .int 0), (0, .ref a0), (1, .int x1)]) dX2_costOfSet_3 rfl (Nat.le_of_ble_eq_true rfl) rfl ?_
  refine Eg.pick [2, 3, 1, 0] rfl ?_
  exact prX2_costOfSet_4 _ _ _ _ _ _ h
def bX2_pushesMore_36 (u : Mm) (s0 : Int32) : Option (Int32 × Mm) := oZ s0 (some (s0, u))
set_option maxRecDepth 100000 in
set_option maxHeartbeats 4000000 in
theorem pX2_pushesMore_36 {r : Int32} {u' : Mm} (u : Mm) (s0 : Int32) (h : bX2_pushesMore_36 u s0 = some (r, u')) : Eg MX2_pushesMore 1 0 0 (some (.int r), u') 36 [] [.int s0] u := by
  unfold bX2_pushesMore_36 at h
  exact E_zret h dX2_pushesMore_36 rfl
def bX2_pushesMore_31 (u : Mm) : Option (Int32 × Mm) := bX2_pushesMore_36 u 1
set_option maxRecDepth 100000 in
set_option maxHeartbeats 4000000 in
theorem pX2_pushesMore_31 {r : Int32} {u' : Mm} (u : Mm) (h : bX2_pushesMore_31 u = some (r, u')) : Eg MX2_pushesMore 1 0 0 (some (.int r), u') 31 [] [] u := by
  unfold bX2_pushesMore_31 at h
  refine E_iconst (v := 1) dX2_pushesMore_31 (by decide) ?_
  refine E_goto (tgt := 36) dX2_pushesMore_32 (by decide) ?_
  refine Eg.pick [] rfl ?_
  exact pX2_pushesMore_36 _ _ h
def fX2_pushesMore (u : Mm) (a0 : Nat) (x1 : Int32) (x2 : Int32) : Option (Int32 × Mm) := oB (fJ6_bitCount_0f7a4 u x1) (fun v1 u2 => oB (fJ6_bitCount_0f7a4 u2 x2) (fun v3 u4 => oI (v1 - v3) (fun v5 => (if 0 < (v5 : Int32) then bX2_pushesMore_31 u4 else (if (v5 : Int32) = 0 then oR u4 a0 2 (oB (fX2_costOfSet u4 a0 x1) (fun v6 u7 => oR u7 a0 2 (oB (fX2_costOfSet u7 a0 x2) (fun v8 u9 => (if (v8 : Int32) ≤ v6 then bX2_pushesMore_36 u9 0 else bX2_pushesMore_31 u9))))) else bX2_pushesMore_36 u4 0)))))
set_option maxRecDepth 100000 in
set_option maxHeartbeats 4000000 in
theorem tX2_pushesMore {u : Mm} {a0 : Nat} {x1 : Int32} {x2 : Int32} {r : Int32} {u' : Mm} (h : fX2_pushesMore u a0 x1 x2 = some (r, u')) : Ev 1 MX2_pushesMore 0 0 [.ref a0, .int x1, .int x2] u (some (.int r), u') := by
  refine Ev.of (by decide +kernel) (Nat.le_of_ble_eq_true rfl) (show Eg MX2_pushesMore 1 0 0 (some (.int r), u') 0 [(0, .ref a0), (1, .int x1), (2, .int x2)] [] u from ?_)
  unfold fX2_pushesMore at h
  refine E_iload_n dX2_pushesMore_0 rfl rfl ?_
  refine F_Si h (fun a m e => tJ6_bitCount_0f7a4 e) dX2_pushesMore_1 hm_J6_bitCount_0f7a4 hs_J6_bitCount_0f7a4 ln_X2_23 rfl rfl (Nat.le_of_ble_eq_true rfl) (Nat.le_of_ble_eq_true rfl) (kc' := 0) (ks' := 0) rfl rfl (fun v1 u2 h => ?_)
  refine E_iload_n dX2_pushesMore_4 rfl rfl ?_
  refine F_Si h (fun a m e => tJ6_bitCount_0f7a4 e) dX2_pushesMore_5 hm_J6_bitCount_0f7a4 hs_J6_bitCount_0f7a4 ln_X2_23 rfl rfl (Nat.le_of_ble_eq_true rfl) (Nat.le_of_ble_eq_true rfl) (kc' := 0) (ks' := 0) rfl rfl (fun v3 u4 h => ?_)
  refine E_isub dX2_pushesMore_8 ?_
  refine E_oI h (fun v5 h => ?_)
  refine E_istore_n (l' := [(3, .int v5), (0, .ref a0), (1, .int x1), (2, .int x2)]) dX2_pushesMore_9 rfl (Nat.le_of_ble_eq_true rfl) rfl ?_
  refine E_iload_n dX2_pushesMore_10 rfl rfl ?_
  refine E_if_gt (tgt := 31) h dX2_pushesMore_11 (by decide) (fun h => ?_) (fun h => ?_)
  · refine Eg.pick [] rfl ?_
    exact pX2_pushesMore_31 _  h
  · refine E_iload_n dX2_pushesMore_14 rfl rfl ?_
    refine E_if_ne (tgt := 35) h dX2_pushesMore_15 (by decide) (fun h => ?_) (fun h => ?_)
    · refine E_iconst (v := 0) dX2_pushesMore_35 (by decide) ?_
      refine Eg.pick [] rfl ?_
      exact pX2_pushesMore_36 _ _ h
    · refine E_aload_n dX2_pushesMore_18 rfl rfl ?_
      refine E_iload_n dX2_pushesMore_19 rfl rfl ?_
      refine F_Vi h (fun a m e => tX2_costOfSet e) dX2_pushesMore_20 hm_X2_costOfSet hv_X2_costOfSet ln_X2_125 rfl rfl (Nat.le_of_ble_eq_true rfl) (Nat.le_of_ble_eq_true rfl) (kc' := 0) (ks' := 0) rfl rfl (fun v6 u7 h => ?_)
      refine E_aload_n dX2_pushesMore_23 rfl rfl ?_
      refine E_iload_n dX2_pushesMore_24 rfl rfl ?_
      refine F_Vi h (fun a m e => tX2_costOfSet e) dX2_pushesMore_25 hm_X2_costOfSet hv_X2_costOfSet ln_X2_125 rfl rfl (Nat.le_of_ble_eq_true rfl) (Nat.le_of_ble_eq_true rfl) (kc' := 0) (ks' := 0) rfl rfl (fun v8 u9 h => ?_)
      refine E_ic_ge (tgt := 35) h dX2_pushesMore_28 (by decide) (fun h => ?_) (fun h => ?_)
      · refine E_iconst (v := 0) dX2_pushesMore_35 (by decide) ?_
        refine Eg.pick [] rfl ?_
        exact pX2_pushesMore_36 _ _ h
      · refine Eg.pick [] rfl ?_
        exact pX2_pushesMore_31 _  h
def bX2_columnsToPush_144 (k98 : Mm → Nat → Int32 → Nat → Int32 → Int32 → Int32 → Option (Int32 × Mm)) (u : Mm) (a0 : Nat) (x1 : Int32) (a2 : Nat) (x3 : Int32) (x4 : Int32) (x5 : Int32) : Option (Int32 × Mm) := k98 u a0 x1 a2 x3 x4 (x5 + 1)
set_option maxRecDepth 100000 in
set_option maxHeartbeats 4000000 in
theorem pX2_columnsToPush_144 {r : Int32} {u' : Mm} {k98 : Mm → Nat → Int32 → Nat → Int32 → Int32 → Int32 → Option (Int32 × Mm)} (hk98 : ∀ (u : Mm) (a0 : Nat) (x1 : Int32) (a2 : Nat) (x3 : Int32) (x4 : Int32) (x5 : Int32), k98 u a0 x1 a2 x3 x4 x5 = some (r, u') → Eg MX2_columnsToPush 4 0 0 (some (.int r), u') 98 [(0, .ref a0), (1, .int x1), (2, .ref a2), (3, .int x3), (4, .int x4), (5, .int x5)] [] u) (u : Mm) (a0 : Nat) (x1 : Int32) (a2 : Nat) (x3 : Int32) (x4 : Int32) (x5 : Int32) (h : bX2_columnsToPush_144 k98 u a0 x1 a2 x3 x4 x5 = some (r, u')) : Eg MX2_columnsToPush 4 0 0 (some (.int r), u') 144 [(0, .ref a0), (1, .int x1), (2, .ref a2), (3, .int x3), (4, .int x4), (5, .int x5)] [] u := by
  unfold bX2_columnsToPush_144 at h
  refine E_iinc (j := 5) (v := x5 + 1) (l' := [(5, .int (x5 + 1)), (0, .ref a0), (1, .int x1), (2, .ref a2), (3, .int x3), (4, .int x4)]) dX2_columnsToPush_144 rfl (addI (by decide)) (Nat.le_of_ble_eq_true rfl) rfl ?_
  refine E_goto (tgt := 98) dX2_columnsToPush_147 (by decide) ?_
  refine Eg.pick [1, 2, 3, 4, 5, 0] rfl ?_
  exact hk98 _ _ _ _ _ _ _ h
def bX2_columnsToPush_98 (k98 : Mm → Nat → Int32 → Nat → Int32 → Int32 → Int32 → Option (Int32 × Mm)) (u : Mm) (a0 : Nat) (x1 : Int32) (a2 : Nat) (x3 : Int32) (x4 : Int32) (x5 : Int32) : Option (Int32 × Mm) := (if (256 : Int32) ≤ x5 then some (x4, u) else (if (x5 &&& (x3 ^^^ ((-1))) : Int32) = 0 then oR u a0 2 (oB (fX2_costOfSet u a0 x5) (fun v3 u4 => oR u4 a2 1 (oB (fX1_supplyOf u4 a2 x1) (fun v5 u6 => (if (v5 : Int32) < v3 then bX2_columnsToPush_144 k98 u6 a0 x1 a2 x3 x4 x5 else oR u6 a0 2 (oB (fX2_pushesMore u6 a0 x5 x4) (fun v7 u8 => (if (v7 : Int32) = 0 then bX2_columnsToPush_144 k98 u8 a0 x1 a2 x3 x4 x5 else bX2_columnsToPush_144 k98 u8 a0 x1 a2 x3 x5 x5)))))))) else bX2_columnsToPush_144 k98 u a0 x1 a2 x3 x4 x5))
set_option maxRecDepth 100000 in
set_option maxHeartbeats 4000000 in
theorem pX2_columnsToPush_98 {r : Int32} {u' : Mm} {k98 : Mm → Nat → Int32 → Nat → Int32 → Int32 → Int32 → Option (Int32 × Mm)} (hk98 : ∀ (u : Mm) (a0 : Nat) (x1 : Int32) (a2 : Nat) (x3 : Int32) (x4 : Int32) (x5 : Int32), k98 u a0 x1 a2 x3 x4 x5 = some (r, u') → Eg MX2_columnsToPush 4 0 0 (some (.int r), u') 98 [(0, .ref a0), (1, .int x1), (2, .ref a2), (3, .int x3), (4, .int x4), (5, .int x5)] [] u) (u : Mm) (a0 : Nat) (x1 : Int32) (a2 : Nat) (x3 : Int32) (x4 : Int32) (x5 : Int32) (h : bX2_columnsToPush_98 k98 u a0 x1 a2 x3 x4 x5 = some (r, u')) : Eg MX2_columnsToPush 4 0 0 (some (.int r), u') 98 [(0, .ref a0), (1, .int x1), (2, .ref a2), (3, .int x3), (4, .int x4), (5, .int x5)] [] u := by
  unfold bX2_columnsToPush_98 at h
  refine E_iload dX2_columnsToPush_98 rfl ?_
  refine E_sipush (v := 256) dX2_columnsToPush_100 (by decide) ?_
  refine E_ic_ge (tgt := 150) h dX2_columnsToPush_103 (by decide) (fun h => ?_) (fun h => ?_)
  · refine E_iload dX2_columnsToPush_150 rfl ?_
    exact E_iret h dX2_columnsToPush_152 rfl
  · refine E_iload dX2_columnsToPush_106 rfl ?_
    refine E_iload_n dX2_columnsToPush_108 rfl rfl ?_
    refine E_iconst (v := (-1)) dX2_columnsToPush_109 (by decide) ?_
    refine E_ixor dX2_columnsToPush_110 ?_
    refine E_iand dX2_columnsToPush_111 ?_
    refine E_if_ne (tgt := 144) h dX2_columnsToPush_112 (by decide) (fun h => ?_) (fun h => ?_)
    · refine Eg.pick [0, 1, 2, 3, 4, 5] rfl ?_
      exact pX2_columnsToPush_144 hk98 _ _ _ _ _ _ _ h
    · refine E_aload_n dX2_columnsToPush_115 rfl rfl ?_
      refine E_iload dX2_columnsToPush_116 rfl ?_
      refine F_Vi h (fun a m e => tX2_costOfSet e) dX2_columnsToPush_118 hm_X2_costOfSet hv_X2_costOfSet ln_X2_125 rfl rfl (Nat.le_of_ble_eq_true rfl) (Nat.le_of_ble_eq_true rfl) (kc' := 0) (ks' := 0) rfl rfl (fun v3 u4 h => ?_)
      refine E_aload_n dX2_columnsToPush_121 rfl rfl ?_
      refine E_iload_n dX2_columnsToPush_122 rfl rfl ?_
      refine F_Vi h (fun a m e => tX1_supplyOf e) dX2_columnsToPush_123 hm_X1_supplyOf hv_X1_supplyOf ln_X2_128 rfl rfl (Nat.le_of_ble_eq_true rfl) (Nat.le_of_ble_eq_true rfl) (kc' := 0) (ks' := 0) rfl rfl (fun v5 u6 h => ?_)
      refine E_ic_gt (tgt := 144) h dX2_columnsToPush_126 (by decide) (fun h => ?_) (fun h => ?_)
      · refine Eg.pick [0, 1, 2, 3, 4, 5] rfl ?_
        exact pX2_columnsToPush_144 hk98 _ _ _ _ _ _ _ h
      · refine E_aload_n dX2_columnsToPush_129 rfl rfl ?_
        refine E_iload dX2_columnsToPush_130 rfl ?_
        refine E_iload dX2_columnsToPush_132 rfl ?_
        refine F_Vi h (fun a m e => tX2_pushesMore e) dX2_columnsToPush_134 hm_X2_pushesMore hv_X2_pushesMore ln_X2_131 rfl rfl (Nat.le_of_ble_eq_true rfl) (Nat.le_of_ble_eq_true rfl) (kc' := 0) (ks' := 0) rfl rfl (fun v7 u8 h => ?_)
        refine E_if_eq (tgt := 144) h dX2_columnsToPush_137 (by decide) (fun h => ?_) (fun h => ?_)
        · refine Eg.pick [0, 1, 2, 3, 4, 5] rfl ?_
          exact pX2_columnsToPush_144 hk98 _ _ _ _ _ _ _ h
        · refine E_iload dX2_columnsToPush_140 rfl ?_
          refine E_istore (l' := [(4, .int x5), (0, .ref a0), (1, .int x1), (2, .ref a2), (3, .int x3), (5, .int x5)]) dX2_columnsToPush_142 (Nat.le_of_ble_eq_true rfl) rfl ?_
          refine Eg.pick [1, 2, 3, 4, 0, 5] rfl ?_
          exact pX2_columnsToPush_144 hk98 _ _ _ _ _ _ _ h
def rX2_columnsToPush_98 : Nat → Mm → Nat → Int32 → Nat → Int32 → Int32 → Int32 → Option (Int32 × Mm)
  | 0, _, _, _, _, _, _, _ => none
  | n + 1, u, a0, x1, a2, x3, x4, x5 => bX2_columnsToPush_98 (rX2_columnsToPush_98 n) u a0 x1 a2 x3 x4 x5
theorem prX2_columnsToPush_98 {r : Int32} {u' : Mm} : ∀ (n : Nat) (u : Mm) (a0 : Nat) (x1 : Int32) (a2 : Nat) (x3 : Int32) (x4 : Int32) (x5 : Int32), rX2_columnsToPush_98 n u a0 x1 a2 x3 x4 x5 = some (r, u') → Eg MX2_columnsToPush 4 0 0 (some (.int r), u') 98 [(0, .ref a0), (1, .int x1), (2, .ref a2), (3, .int x3), (4, .int x4), (5, .int x5)] [] u
  | 0, _, _, _, _, _, _, _, h => by cases h
  | n + 1, u, a0, x1, a2, x3, x4, x5, h => pX2_columnsToPush_98 (prX2_columnsToPush_98 n) u a0 x1 a2 x3 x4 x5 h
def bX2_columnsToPush_86 (k13 : Mm → Nat → Int32 → Nat → Int32 → Int32 → Option (Int32 × Mm)) (u : Mm) (a0 : Nat) (x1 : Int32) (a2 : Nat) (x3 : Int32) (x4 : Int32) : Option (Int32 × Mm) := k13 u a0 x1 a2 x3 (x4 + 1)
set_option maxRecDepth 100000 in
set_option maxHeartbeats 4000000 in
theorem pX2_columnsToPush_86 {r : Int32} {u' : Mm} {k13 : Mm → Nat → Int32 → Nat → Int32 → Int32 → Option (Int32 × Mm)} (hk13 : ∀ (u : Mm) (a0 : Nat) (x1 : Int32) (a2 : Nat) (x3 : Int32) (x4 : Int32), k13 u a0 x1 a2 x3 x4 = some (r, u') → Eg MX2_columnsToPush 4 0 0 (some (.int r), u') 13 [(0, .ref a0), (1, .int x1), (2, .ref a2), (3, .int x3), (4, .int x4)] [] u) (u : Mm) (a0 : Nat) (x1 : Int32) (a2 : Nat) (x3 : Int32) (x4 : Int32) (h : bX2_columnsToPush_86 k13 u a0 x1 a2 x3 x4 = some (r, u')) : Eg MX2_columnsToPush 4 0 0 (some (.int r), u') 86 [(0, .ref a0), (1, .int x1), (2, .ref a2), (3, .int x3), (4, .int x4)] [] u := by
  unfold bX2_columnsToPush_86 at h
  refine E_iinc (j := 4) (v := x4 + 1) (l' := [(4, .int (x4 + 1)), (0, .ref a0), (1, .int x1), (2, .ref a2), (3, .int x3)]) dX2_columnsToPush_86 rfl (addI (by decide)) (Nat.le_of_ble_eq_true rfl) rfl ?_
  refine E_goto (tgt := 13) dX2_columnsToPush_89 (by decide) ?_
  refine Eg.pick [1, 2, 3, 4, 0] rfl ?_
  exact hk13 _ _ _ _ _ _ h
def bX2_columnsToPush_13 (k13 : Mm → Nat → Int32 → Nat → Int32 → Int32 → Option (Int32 × Mm)) (u : Mm) (a0 : Nat) (x1 : Int32) (a2 : Nat) (x3 : Int32) (x4 : Int32) : Option (Int32 × Mm) := (if (8 : Int32) ≤ x4 then rX2_columnsToPush_98 hwF u a0 x1 a2 x3 0 1 else oK u a0 2 3 (oNn (mR u a0 2) (fun e9 => oK u a0 2 3 (oNn (mR u a0 1) (fun e10 => oK u a0 2 3 (oNn (mR u a0 0) (fun e11 => oR u e11 0 (oB (fX0_lawInForce u e11) (fun g12 u13 => oR u13 e10 7 (oB (fX7_costOf u13 e10 g12 a2 x1 x4) (fun v14 u15 => oA u15 e9 10 x4 (oU (wI u15 e9 (upd (mI u15 e9) (Int32.toNatClampNeg x4) v14)) (fun u16 => oR u16 a2 1 (oB (fX1_isStronger u16 a2 x1 x4) (fun v17 u18 => (if (v17 : Int32) = 0 then bX2_columnsToPush_86 k13 u18 a0 x1 a2 x3 x4 else oR u18 a2 1 (oB (fX1_canGoOn u18 a2 x1 x4) (fun v19 u20 => (if (v19 : Int32) = 0 then bX2_columnsToPush_86 k13 u20 a0 x1 a2 x3 x4 else oK u20 a0 2 3 (oNn (mR u20 a0 1) (fun e21 => oR u20 e21 7 (oB (fX7_isBarred u20 e21 a2 x1 x4) (fun v22 u23 => (if (v22 : Int32) = 0 then oI (x3 ||| ((1 : Int32) <<< (x4 &&& 31))) (fun v24 => bX2_columnsToPush_86 k13 u23 a0 x1 a2 v24 x4) else bX2_columnsToPush_86 k13 u23 a0 x1 a2 x3 x4))))))))))))))))))))))))
set_option maxRecDepth 100000 in
set_option maxHeartbeats 4000000 in
theorem pX2_columnsToPush_13 {r : Int32} {u' : Mm} {k13 : Mm → Nat → Int32 → Nat → Int32 → Int32 → Option (Int32 × Mm)} (hk13 : ∀ (u : Mm) (a0 : Nat) (x1 : Int32) (a2 : Nat) (x3 : Int32) (x4 : Int32), k13 u a0 x1 a2 x3 x4 = some (r, u') → Eg MX2_columnsToPush 4 0 0 (some (.int r), u') 13 [(0, .ref a0), (1, .int x1), (2, .ref a2), (3, .int x3), (4, .int x4)] [] u) (u : Mm) (a0 : Nat) (x1 : Int32) (a2 : Nat) (x3 : Int32) (x4 : Int32) (h : bX2_columnsToPush_13 k13 u a0 x1 a2 x3 x4 = some (r, u')) : Eg MX2_columnsToPush 4 0 0 (some (.int r), u') 13 [(0, .ref a0), (1, .int x1), (2, .ref a2), (3, .int x3), (4, .int x4)] [] u := by
  unfold bX2_columnsToPush_13 at h
  refine E_iload dX2_columnsToPush_13 rfl ?_
  refine E_bipush (v := 8) dX2_columnsToPush_15 (by decide) ?_
  refine E_ic_ge (tgt := 92) h dX2_columnsToPush_17 (by decide) (fun h => ?_) (fun h => ?_)
  · refine E_iconst (v := 0) dX2_columnsToPush_92 (by decide) ?_
    refine E_istore (l' := [(4, .int 0), (0, .ref a0), (1, .int x1), (2, .ref a2), (3, .int x3)]) dX2_columnsToPush_93 (Nat.le_of_ble_eq_true rfl) rfl ?_
    refine E_iconst (v := 1) dX2_columnsToPush_95 (by decide) ?_
    refine E_istore (l' := [(5, .int 1), (4, .int 0), (0, .ref a0), (1, .int x1), (2, .ref a2), (3, .int x3)]) dX2_columnsToPush_96 (Nat.le_of_ble_eq_true rfl) rfl ?_
    refine Eg.pick [2, 3, 4, 5, 1, 0] rfl ?_
    exact prX2_columnsToPush_98 _ _ _ _ _ _ _ _ h
  · refine E_aload_n dX2_columnsToPush_20 rfl rfl ?_
    refine E_getA h dX2_columnsToPush_21 cf2 lk_X2_9 (by decide) (fun _ _ _ => rfl) (fun e9 h => ?_)
    refine E_iload dX2_columnsToPush_24 rfl ?_
    refine E_aload_n dX2_columnsToPush_26 rfl rfl ?_
    refine E_getA h dX2_columnsToPush_27 cf2 lk_X2_19 (by decide) (fun _ _ _ => rfl) (fun e10 h => ?_)
    refine E_aload_n dX2_columnsToPush_30 rfl rfl ?_
    refine E_getA h dX2_columnsToPush_31 cf2 lk_X2_15 (by decide) (fun _ _ _ => rfl) (fun e11 h => ?_)
    refine F_Vq h (fun a m e => tX0_lawInForce e) dX2_columnsToPush_34 hm_X0_lawInForce hv_X0_lawInForce ln_X2_103 rfl rfl (Nat.le_of_ble_eq_true rfl) (Nat.le_of_ble_eq_true rfl) (kc' := 0) (ks' := 0) rfl rfl (fun g12 u13 h => ?_)
    refine E_aload_n dX2_columnsToPush_37 rfl rfl ?_
    refine E_iload_n dX2_columnsToPush_38 rfl rfl ?_
    refine E_iload dX2_columnsToPush_39 rfl ?_
    refine F_Vi h (fun a m e => tX7_costOf e) dX2_columnsToPush_41 hm_X7_costOf hv_X7_costOf ln_X2_107 rfl rfl (Nat.le_of_ble_eq_true rfl) (Nat.le_of_ble_eq_true rfl) (kc' := 0) (ks' := 0) rfl rfl (fun v14 u15 h => ?_)
    refine E_iast h dX2_columnsToPush_44 (fun h => ?_)
    refine E_oU h (fun u16 h => ?_)
    refine E_aload_n dX2_columnsToPush_45 rfl rfl ?_
    refine E_iload_n dX2_columnsToPush_46 rfl rfl ?_
    refine E_iload dX2_columnsToPush_47 rfl ?_
    refine F_Vi h (fun a m e => tX1_isStronger e) dX2_columnsToPush_49 hm_X1_isStronger hv_X1_isStronger ln_X2_113 rfl rfl (Nat.le_of_ble_eq_true rfl) (Nat.le_of_ble_eq_true rfl) (kc' := 0) (ks' := 0) rfl rfl (fun v17 u18 h => ?_)
    refine E_if_eq (tgt := 86) h dX2_columnsToPush_52 (by decide) (fun h => ?_) (fun h => ?_)
    · refine Eg.pick [0, 1, 2, 3, 4] rfl ?_
      exact pX2_columnsToPush_86 hk13 _ _ _ _ _ _ h
    · refine E_aload_n dX2_columnsToPush_55 rfl rfl ?_
      refine E_iload_n dX2_columnsToPush_56 rfl rfl ?_
      refine E_iload dX2_columnsToPush_57 rfl ?_
      refine F_Vi h (fun a m e => tX1_canGoOn e) dX2_columnsToPush_59 hm_X1_canGoOn hv_X1_canGoOn ln_X2_118 rfl rfl (Nat.le_of_ble_eq_true rfl) (Nat.le_of_ble_eq_true rfl) (kc' := 0) (ks' := 0) rfl rfl (fun v19 u20 h => ?_)
      refine E_if_eq (tgt := 86) h dX2_columnsToPush_62 (by decide) (fun h => ?_) (fun h => ?_)
      · refine Eg.pick [0, 1, 2, 3, 4] rfl ?_
        exact pX2_columnsToPush_86 hk13 _ _ _ _ _ _ h
      · refine E_aload_n dX2_columnsToPush_65 rfl rfl ?_
        refine E_getA h dX2_columnsToPush_66 cf2 lk_X2_19 (by decide) (fun _ _ _ => rfl) (fun e21 h => ?_)
        refine E_aload_n dX2_columnsToPush_69 rfl rfl ?_
        refine E_iload_n dX2_columnsToPush_70 rfl rfl ?_
        refine E_iload dX2_columnsToPush_71 rfl ?_
        refine F_Vi h (fun a m e => tX7_isBarred e) dX2_columnsToPush_73 hm_X7_isBarred hv_X7_isBarred ln_X2_121 rfl rfl (Nat.le_of_ble_eq_true rfl) (Nat.le_of_ble_eq_true rfl) (kc' := 0) (ks' := 0) rfl rfl (fun v22 u23 h => ?_)
        refine E_if_ne (tgt := 86) h dX2_columnsToPush_76 (by decide) (fun h => ?_) (fun h => ?_)
        · refine Eg.pick [0, 1, 2, 3, 4] rfl ?_
          exact pX2_columnsToPush_86 hk13 _ _ _ _ _ _ h
        · refine E_iload_n dX2_columnsToPush_79 rfl rfl ?_
          refine E_iconst (v := 1) dX2_columnsToPush_80 (by decide) ?_
          refine E_iload dX2_columnsToPush_81 rfl ?_
          refine E_ishl dX2_columnsToPush_83 ?_
          refine E_ior dX2_columnsToPush_84 ?_
          refine E_oI h (fun v24 h => ?_)
          refine E_istore_n (l' := [(3, .int v24), (0, .ref a0), (1, .int x1), (2, .ref a2), (4, .int x4)]) dX2_columnsToPush_85 rfl (Nat.le_of_ble_eq_true rfl) rfl ?_
          refine Eg.pick [1, 2, 3, 0, 4] rfl ?_
          exact pX2_columnsToPush_86 hk13 _ _ _ _ _ _ h
def rX2_columnsToPush_13 : Nat → Mm → Nat → Int32 → Nat → Int32 → Int32 → Option (Int32 × Mm)
  | 0, _, _, _, _, _, _ => none
  | n + 1, u, a0, x1, a2, x3, x4 => bX2_columnsToPush_13 (rX2_columnsToPush_13 n) u a0 x1 a2 x3 x4
theorem prX2_columnsToPush_13 {r : Int32} {u' : Mm} : ∀ (n : Nat) (u : Mm) (a0 : Nat) (x1 : Int32) (a2 : Nat) (x3 : Int32) (x4 : Int32), rX2_columnsToPush_13 n u a0 x1 a2 x3 x4 = some (r, u') → Eg MX2_columnsToPush 4 0 0 (some (.int r), u') 13 [(0, .ref a0), (1, .int x1), (2, .ref a2), (3, .int x3), (4, .int x4)] [] u
  | 0, _, _, _, _, _, _, h => by cases h
  | n + 1, u, a0, x1, a2, x3, x4, h => pX2_columnsToPush_13 (prX2_columnsToPush_13 n) u a0 x1 a2 x3 x4 h
def fX2_columnsToPush (u : Mm) (a0 : Nat) (x1 : Int32) : Option (Int32 × Mm) := oK u a0 2 3 (oNn (mR u a0 0) (fun e1 => oK u e1 0 16 (oNn (mR u e1 0) (fun e2 => rX2_columnsToPush_13 hwF u a0 x1 e2 0 0))))
set_option maxRecDepth 100000 in
set_option maxHeartbeats 4000000 in
theorem tX2_columnsToPush {u : Mm} {a0 : Nat} {x1 : Int32} {r : Int32} {u' : Mm} (h : fX2_columnsToPush u a0 x1 = some (r, u')) : Ev 4 MX2_columnsToPush 0 0 [.ref a0, .int x1] u (some (.int r), u') := by
  refine Ev.of (by decide +kernel) (Nat.le_of_ble_eq_true rfl) (show Eg MX2_columnsToPush 4 0 0 (some (.int r), u') 0 [(0, .ref a0), (1, .int x1)] [] u from ?_)
  unfold fX2_columnsToPush at h
  refine E_aload_n dX2_columnsToPush_0 rfl rfl ?_
  refine E_getA h dX2_columnsToPush_1 cf2 lk_X2_15 (by decide) (fun _ _ _ => rfl) (fun e1 h => ?_)
  refine E_getA h dX2_columnsToPush_4 cf0 lk_X2_99 (by decide) (fun _ _ _ => rfl) (fun e2 h => ?_)
  refine E_astore_n (l' := [(2, .ref e2), (0, .ref a0), (1, .int x1)]) dX2_columnsToPush_7 rfl (Nat.le_of_ble_eq_true rfl) rfl ?_
  refine E_iconst (v := 0) dX2_columnsToPush_8 (by decide) ?_
  refine E_istore_n (l' := [(3, .int 0), (2, .ref e2), (0, .ref a0), (1, .int x1)]) dX2_columnsToPush_9 rfl (Nat.le_of_ble_eq_true rfl) rfl ?_
  refine E_iconst (v := 0) dX2_columnsToPush_10 (by decide) ?_
  refine E_istore (l' := [(4, .int 0), (3, .int 0), (2, .ref e2), (0, .ref a0), (1, .int x1)]) dX2_columnsToPush_11 (Nat.le_of_ble_eq_true rfl) rfl ?_
  refine Eg.pick [3, 4, 2, 1, 0] rfl ?_
  exact prX2_columnsToPush_13 _ _ _ _ _ _ _ h
def bX2_menToLevel_45 (k20 : Mm → Nat → Int32 → Int32 → Int32 → Int32 → Int32 → Option (Int32 × Mm)) (u : Mm) (a0 : Nat) (x1 : Int32) (x2 : Int32) (x3 : Int32) (x4 : Int32) (x5 : Int32) (s0 : Int32) (s1 : Int32) : Option (Int32 × Mm) := oI (s1 + s0) (fun v5 => oK u a0 2 3 (oNn (mR u a0 0) (fun e6 => oK u e6 0 16 (oNn (mR u e6 0) (fun e7 => oR u e7 1 (oB (fX1_menAt u e7 x1 x5) (fun v8 u9 => oI (x4 + (v8 - v5)) (fun v10 => oB (fJ9_abs_0f7a4 u9 v10) (fun v11 u12 => oI (x3 + v11) (fun v13 => k20 u12 a0 x1 x2 v13 v10 (x5 + 1)))))))))))
set_option maxRecDepth 100000 in
set_option maxHeartbeats 4000000 in
theorem pX2_menToLevel_45 {r : Int32} {u' : Mm} {k20 : Mm → Nat → Int32 → Int32 → Int32 → Int32 → Int32 → Option (Int32 × Mm)} (hk20 : ∀ (u : Mm) (a0 : Nat) (x1 : Int32) (x2 : Int32) (x3 : Int32) (x4 : Int32) (x5 : Int32), k20 u a0 x1 x2 x3 x4 x5 = some (r, u') → Eg MX2_menToLevel 2 0 0 (some (.int r), u') 20 [(0, .ref a0), (1, .int x1), (2, .int x2), (3, .int x3), (4, .int x4), (5, .int x5)] [] u) (u : Mm) (a0 : Nat) (x1 : Int32) (x2 : Int32) (x3 : Int32) (x4 : Int32) (x5 : Int32) (s0 : Int32) (s1 : Int32) (h : bX2_menToLevel_45 k20 u a0 x1 x2 x3 x4 x5 s0 s1 = some (r, u')) : Eg MX2_menToLevel 2 0 0 (some (.int r), u') 45 [(0, .ref a0), (1, .int x1), (2, .int x2), (3, .int x3), (4, .int x4), (5, .int x5)] [.int s0, .int s1] u := by
  unfold bX2_menToLevel_45 at h
  refine E_iadd dX2_menToLevel_45 ?_
  refine E_oI h (fun v5 h => ?_)
  refine E_istore (l' := [(6, .int v5), (0, .ref a0), (1, .int x1), (2, .int x2), (3, .int x3), (4, .int x4), (5, .int x5)]) dX2_menToLevel_46 (Nat.le_of_ble_eq_true rfl) rfl ?_
  refine E_iload dX2_menToLevel_48 rfl ?_
  refine E_aload_n dX2_menToLevel_50 rfl rfl ?_
  refine E_getA h dX2_menToLevel_51 cf2 lk_X2_15 (by decide) (fun _ _ _ => rfl) (fun e6 h => ?_)
  refine E_getA h dX2_menToLevel_54 cf0 lk_X2_99 (by decide) (fun _ _ _ => rfl) (fun e7 h => ?_)
  refine E_iload_n dX2_menToLevel_57 rfl rfl ?_
  refine E_iload dX2_menToLevel_58 rfl ?_
  refine F_Vi h (fun a m e => tX1_menAt e) dX2_menToLevel_60 hm_X1_menAt hv_X1_menAt ln_X2_137 rfl rfl (Nat.le_of_ble_eq_true rfl) (Nat.le_of_ble_eq_true rfl) (kc' := 0) (ks' := 0) rfl rfl (fun v8 u9 h => ?_)
  refine E_iload dX2_menToLevel_63 rfl ?_
  refine E_isub dX2_menToLevel_65 ?_
  refine E_iadd dX2_menToLevel_66 ?_
  refine E_oI h (fun v10 h => ?_)
  refine E_istore (l' := [(4, .int v10), (6, .int v5), (0, .ref a0), (1, .int x1), (2, .int x2), (3, .int x3), (5, .int x5)]) dX2_menToLevel_67 (Nat.le_of_ble_eq_true rfl) rfl ?_
  refine E_iload_n dX2_menToLevel_69 rfl rfl ?_
  refine E_iload dX2_menToLevel_70 rfl ?_
  refine F_Si h (fun a m e => tJ9_abs_0f7a4 e) dX2_menToLevel_72 hm_J9_abs_0f7a4 hs_J9_abs_0f7a4 ln_X2_82 rfl rfl (Nat.le_of_ble_eq_true rfl) (Nat.le_of_ble_eq_true rfl) (kc' := 0) (ks' := 0) rfl rfl (fun v11 u12 h => ?_)
  refine E_iadd dX2_menToLevel_75 ?_
  refine E_oI h (fun v13 h => ?_)
  refine E_istore_n (l' := [(3, .int v13), (4, .int v10), (6, .int v5), (0, .ref a0), (1, .int x1), (2, .int x2), (5, .int x5)]) dX2_menToLevel_76 rfl (Nat.le_of_ble_eq_true rfl) rfl ?_
  refine E_iinc (j := 6) (v := x5 + 1) (l' := [(5, .int (x5 + 1)), (3, .int v13), (4, .int v10), (6, .int v5), (0, .ref a0), (1, .int x1), (2, .int x2)]) dX2_menToLevel_77 rfl (addI (by decide)) (Nat.le_of_ble_eq_true rfl) rfl ?_
  refine E_goto (tgt := 20) dX2_menToLevel_80 (by decide) ?_
  refine Eg.pick [4, 5, 6, 1, 2, 0] rfl ?_
  exact hk20 _ _ _ _ _ _ _ h
def bX2_menToLevel_20 (k20 : Mm → Nat → Int32 → Int32 → Int32 → Int32 → Int32 → Option (Int32 × Mm)) (u : Mm) (a0 : Nat) (x1 : Int32) (x2 : Int32) (x3 : Int32) (x4 : Int32) (x5 : Int32) : Option (Int32 × Mm) := (if (8 : Int32) ≤ x5 then some (x3, u) else (if (8 : Int32) ≠ 0 then (if (8 : Int32) ≠ 0 then (if (x2 - x2 / 8 * 8 : Int32) ≤ x5 then bX2_menToLevel_45 k20 u a0 x1 x2 x3 x4 x5 0 (x2 / 8) else bX2_menToLevel_45 k20 u a0 x1 x2 x3 x4 x5 1 (x2 / 8)) else none) else none))
set_option maxRecDepth 100000 in
set_option maxHeartbeats 4000000 in
theorem pX2_menToLevel_20 {r : Int32} {u' : Mm} {k20 : Mm → Nat → Int32 → Int32 → Int32 → Int32 → Int32 → Option (Int32 × Mm)} (hk20 : ∀ (u : Mm) (a0 : Nat) (x1 : Int32) (x2 : Int32) (x3 : Int32) (x4 : Int32) (x5 : Int32), k20 u a0 x1 x2 x3 x4 x5 = some (r, u') → Eg MX2_menToLevel 2 0 0 (some (.int r), u') 20 [(0, .ref a0), (1, .int x1), (2, .int x2), (3, .int x3), (4, .int x4), (5, .int x5)] [] u) (u : Mm) (a0 : Nat) (x1 : Int32) (x2 : Int32) (x3 : Int32) (x4 : Int32) (x5 : Int32) (h : bX2_menToLevel_20 k20 u a0 x1 x2 x3 x4 x5 = some (r, u')) : Eg MX2_menToLevel 2 0 0 (some (.int r), u') 20 [(0, .ref a0), (1, .int x1), (2, .int x2), (3, .int x3), (4, .int x4), (5, .int x5)] [] u := by
  unfold bX2_menToLevel_20 at h
  refine E_iload dX2_menToLevel_20 rfl ?_
  refine E_bipush (v := 8) dX2_menToLevel_22 (by decide) ?_
  refine E_ic_ge (tgt := 83) h dX2_menToLevel_24 (by decide) (fun h => ?_) (fun h => ?_)
  · refine E_iload_n dX2_menToLevel_83 rfl rfl ?_
    exact E_iret h dX2_menToLevel_84 rfl
  · refine E_iload_n dX2_menToLevel_27 rfl rfl ?_
    refine E_bipush (v := 8) dX2_menToLevel_28 (by decide) ?_
    refine E_idiv h dX2_menToLevel_30 (fun h => ?_)
    refine E_iload dX2_menToLevel_31 rfl ?_
    refine E_iload_n dX2_menToLevel_33 rfl rfl ?_
    refine E_bipush (v := 8) dX2_menToLevel_34 (by decide) ?_
    refine E_irem h dX2_menToLevel_36 (fun h => ?_)
    refine E_ic_ge (tgt := 44) h dX2_menToLevel_37 (by decide) (fun h => ?_) (fun h => ?_)
    · refine E_iconst (v := 0) dX2_menToLevel_44 (by decide) ?_
      refine Eg.pick [0, 1, 2, 3, 4, 5] rfl ?_
      exact pX2_menToLevel_45 hk20 _ _ _ _ _ _ _ _ _ h
    · refine E_iconst (v := 1) dX2_menToLevel_40 (by decide) ?_
      refine E_goto (tgt := 45) dX2_menToLevel_41 (by decide) ?_
      refine Eg.pick [0, 1, 2, 3, 4, 5] rfl ?_
      exact pX2_menToLevel_45 hk20 _ _ _ _ _ _ _ _ _ h
def rX2_menToLevel_20 : Nat → Mm → Nat → Int32 → Int32 → Int32 → Int32 → Int32 → Option (Int32 × Mm)
  | 0, _, _, _, _, _, _, _ => none
  | n + 1, u, a0, x1, x2, x3, x4, x5 => bX2_menToLevel_20 (rX2_menToLevel_20 n) u a0 x1 x2 x3 x4 x5
theorem prX2_menToLevel_20 {r : Int32} {u' : Mm} : ∀ (n : Nat) (u : Mm) (a0 : Nat) (x1 : Int32) (x2 : Int32) (x3 : Int32) (x4 : Int32) (x5 : Int32), rX2_menToLevel_20 n u a0 x1 x2 x3 x4 x5 = some (r, u') → Eg MX2_menToLevel 2 0 0 (some (.int r), u') 20 [(0, .ref a0), (1, .int x1), (2, .int x2), (3, .int x3), (4, .int x4), (5, .int x5)] [] u
  | 0, _, _, _, _, _, _, _, h => by cases h
  | n + 1, u, a0, x1, x2, x3, x4, x5, h => pX2_menToLevel_20 (prX2_menToLevel_20 n) u a0 x1 x2 x3 x4 x5 h
def fX2_menToLevel (u : Mm) (a0 : Nat) (x1 : Int32) : Option (Int32 × Mm) := oK u a0 2 3 (oNn (mR u a0 0) (fun e1 => oK u e1 0 16 (oNn (mR u e1 0) (fun e2 => oR u e2 1 (oB (fX1_menOf u e2 x1) (fun v3 u4 => rX2_menToLevel_20 hwF u4 a0 x1 v3 0 0 0))))))
set_option maxRecDepth 100000 in
set_option maxHeartbeats 4000000 in
theorem tX2_menToLevel {u : Mm} {a0 : Nat} {x1 : Int32} {r : Int32} {u' : Mm} (h : fX2_menToLevel u a0 x1 = some (r, u')) : Ev 2 MX2_menToLevel 0 0 [.ref a0, .int x1] u (some (.int r), u') := by
  refine Ev.of (by decide +kernel) (Nat.le_of_ble_eq_true rfl) (show Eg MX2_menToLevel 2 0 0 (some (.int r), u') 0 [(0, .ref a0), (1, .int x1)] [] u from ?_)
  unfold fX2_menToLevel at h
  refine E_aload_n dX2_menToLevel_0 rfl rfl ?_
  refine E_getA h dX2_menToLevel_1 cf2 lk_X2_15 (by decide) (fun _ _ _ => rfl) (fun e1 h => ?_)
  refine E_getA h dX2_menToLevel_4 cf0 lk_X2_99 (by decide) (fun _ _ _ => rfl) (fun e2 h => ?_)
  refine E_iload_n dX2_menToLevel_7 rfl rfl ?_
  refine F_Vi h (fun a m e => tX1_menOf e) dX2_menToLevel_8 hm_X1_menOf hv_X1_menOf ln_X2_134 rfl rfl (Nat.le_of_ble_eq_true rfl) (Nat.le_of_ble_eq_true rfl) (kc' := 0) (ks' := 0) rfl rfl (fun v3 u4 h => ?_)
  refine E_istore_n (l' := [(2, .int v3), (0, .ref a0), (1, .int x1)]) dX2_menToLevel_11 rfl (Nat.le_of_ble_eq_true rfl) rfl ?_
  refine E_iconst (v := 0) dX2_menToLevel_12 (by decide) ?_
  refine E_istore_n (l' := [(3, .int 0), (2, .int v3), (0, .ref a0), (1, .int x1)]) dX2_menToLevel_13 rfl (Nat.le_of_ble_eq_true rfl) rfl ?_
  refine E_iconst (v := 0) dX2_menToLevel_14 (by decide) ?_
  refine E_istore (l' := [(4, .int 0), (3, .int 0), (2, .int v3), (0, .ref a0), (1, .int x1)]) dX2_menToLevel_15 (Nat.le_of_ble_eq_true rfl) rfl ?_
  refine E_iconst (v := 0) dX2_menToLevel_17 (by decide) ?_
  refine E_istore (l' := [(5, .int 0), (4, .int 0), (3, .int 0), (2, .int v3), (0, .ref a0), (1, .int x1)]) dX2_menToLevel_18 (Nat.le_of_ble_eq_true rfl) rfl ?_
  refine Eg.pick [4, 5, 3, 2, 1, 0] rfl ?_
  exact prX2_menToLevel_20 _ _ _ _ _ _ _ _ h
def bX2_seesAll_71 (u : Mm) (s0 : Int32) : Option (Int32 × Mm) := oZ s0 (some (s0, u))
set_option maxRecDepth 100000 in
set_option maxHeartbeats 4000000 in
theorem pX2_seesAll_71 {r : Int32} {u' : Mm} (u : Mm) (s0 : Int32) (h : bX2_seesAll_71 u s0 = some (r, u')) : Eg MX2_seesAll 1 0 0 (some (.int r), u') 71 [] [.int s0] u := by
  unfold bX2_seesAll_71 at h
  exact E_zret h dX2_seesAll_71 rfl
def bX2_seesAll_47 (k4 : Mm → Int32 → Int32 → Int32 → Int32 → Option (Int32 × Mm)) (k13 : Mm → Int32 → Int32 → Int32 → Int32 → Int32 → Option (Int32 × Mm)) (u : Mm) (x0 : Int32) (x1 : Int32) (x2 : Int32) (x3 : Int32) (x4 : Int32) : Option (Int32 × Mm) := k13 u x0 x1 x2 x3 (x4 + 1)
set_option maxRecDepth 100000 in
set_option maxHeartbeats 4000000 in
theorem pX2_seesAll_47 {r : Int32} {u' : Mm} {k4 : Mm → Int32 → Int32 → Int32 → Int32 → Option (Int32 × Mm)} (hk4 : ∀ (u : Mm) (x0 : Int32) (x1 : Int32) (x2 : Int32) (x3 : Int32), k4 u x0 x1 x2 x3 = some (r, u') → Eg MX2_seesAll 1 0 0 (some (.int r), u') 4 [(0, .int x0), (1, .int x1), (2, .int x2), (3, .int x3)] [] u) {k13 : Mm → Int32 → Int32 → Int32 → Int32 → Int32 → Option (Int32 × Mm)} (hk13 : ∀ (u : Mm) (x0 : Int32) (x1 : Int32) (x2 : Int32) (x3 : Int32) (x4 : Int32), k13 u x0 x1 x2 x3 x4 = some (r, u') → Eg MX2_seesAll 1 0 0 (some (.int r), u') 13 [(0, .int x0), (1, .int x1), (2, .int x2), (3, .int x3), (4, .int x4)] [] u) (u : Mm) (x0 : Int32) (x1 : Int32) (x2 : Int32) (x3 : Int32) (x4 : Int32) (h : bX2_seesAll_47 k4 k13 u x0 x1 x2 x3 x4 = some (r, u')) : Eg MX2_seesAll 1 0 0 (some (.int r), u') 47 [(0, .int x0), (1, .int x1), (2, .int x2), (3, .int x3), (4, .int x4)] [] u := by
  unfold bX2_seesAll_47 at h
  refine E_iinc (j := 4) (v := x4 + 1) (l' := [(4, .int (x4 + 1)), (0, .int x0), (1, .int x1), (2, .int x2), (3, .int x3)]) dX2_seesAll_47 rfl (addI (by decide)) (Nat.le_of_ble_eq_true rfl) rfl ?_
  refine E_goto (tgt := 13) dX2_seesAll_50 (by decide) ?_
  refine Eg.pick [1, 2, 3, 4, 0] rfl ?_
  exact hk13 _ _ _ _ _ _ h
def bX2_seesAll_13 (k4 : Mm → Int32 → Int32 → Int32 → Int32 → Option (Int32 × Mm)) (k13 : Mm → Int32 → Int32 → Int32 → Int32 → Int32 → Option (Int32 × Mm)) (u : Mm) (x0 : Int32) (x1 : Int32) (x2 : Int32) (x3 : Int32) (x4 : Int32) : Option (Int32 × Mm) := (if (8 : Int32) ≤ x4 then k4 u x0 x1 x2 (x3 + 1) else (if ((x0 >>> (x3 &&& 31)) &&& 1 : Int32) = 1 then oB (fJ9_abs_0f7a4 u (x3 - x4)) (fun v1 u2 => (if (x1 : Int32) < v1 then bX2_seesAll_47 k4 k13 u2 x0 x1 x2 x3 x4 else oI (x2 ||| ((1 : Int32) <<< (x4 &&& 31))) (fun v3 => bX2_seesAll_47 k4 k13 u2 x0 x1 v3 x3 x4))) else bX2_seesAll_47 k4 k13 u x0 x1 x2 x3 x4))
set_option maxRecDepth 100000 in
set_option maxHeartbeats 4000000 in
theorem pX2_seesAll_13 {r : Int32} {u' : Mm} {k4 : Mm → Int32 → Int32 → Int32 → Int32 → Option (Int32 × Mm)} (hk4 : ∀ (u : Mm) (x0 : Int32) (x1 : Int32) (x2 : Int32) (x3 : Int32), k4 u x0 x1 x2 x3 = some (r, u') → Eg MX2_seesAll 1 0 0 (some (.int r), u') 4 [(0, .int x0), (1, .int x1), (2, .int x2), (3, .int x3)] [] u) {k13 : Mm → Int32 → Int32 → Int32 → Int32 → Int32 → Option (Int32 × Mm)} (hk13 : ∀ (u : Mm) (x0 : Int32) (x1 : Int32) (x2 : Int32) (x3 : Int32) (x4 : Int32), k13 u x0 x1 x2 x3 x4 = some (r, u') → Eg MX2_seesAll 1 0 0 (some (.int r), u') 13 [(0, .int x0), (1, .int x1), (2, .int x2), (3, .int x3), (4, .int x4)] [] u) (u : Mm) (x0 : Int32) (x1 : Int32) (x2 : Int32) (x3 : Int32) (x4 : Int32) (h : bX2_seesAll_13 k4 k13 u x0 x1 x2 x3 x4 = some (r, u')) : Eg MX2_seesAll 1 0 0 (some (.int r), u') 13 [(0, .int x0), (1, .int x1), (2, .int x2), (3, .int x3), (4, .int x4)] [] u := by
  unfold bX2_seesAll_13 at h
  refine E_iload dX2_seesAll_13 rfl ?_
  refine E_bipush (v := 8) dX2_seesAll_15 (by decide) ?_
  refine E_ic_ge (tgt := 53) h dX2_seesAll_17 (by decide) (fun h => ?_) (fun h => ?_)
  · refine E_iinc (j := 3) (v := x3 + 1) (l' := [(3, .int (x3 + 1)), (0, .int x0), (1, .int x1), (2, .int x2), (4, .int x4)]) dX2_seesAll_53 rfl (addI (by decide)) (Nat.le_of_ble_eq_true rfl) rfl ?_
    refine E_goto (tgt := 4) dX2_seesAll_56 (by decide) ?_
    refine Eg.pick [1, 2, 3, 0] rfl ?_
    exact hk4 _ _ _ _ _ h
  · refine E_iload_n dX2_seesAll_20 rfl rfl ?_
    refine E_iload_n dX2_seesAll_21 rfl rfl ?_
    refine E_ishr dX2_seesAll_22 ?_
    refine E_iconst (v := 1) dX2_seesAll_23 (by decide) ?_
    refine E_iand dX2_seesAll_24 ?_
    refine E_iconst (v := 1) dX2_seesAll_25 (by decide) ?_
    refine E_ic_ne (tgt := 47) h dX2_seesAll_26 (by decide) (fun h => ?_) (fun h => ?_)
    · refine Eg.pick [0, 1, 2, 3, 4] rfl ?_
      exact pX2_seesAll_47 hk4 hk13 _ _ _ _ _ _ h
    · refine E_iload_n dX2_seesAll_29 rfl rfl ?_
      refine E_iload dX2_seesAll_30 rfl ?_
      refine E_isub dX2_seesAll_32 ?_
      refine F_Si h (fun a m e => tJ9_abs_0f7a4 e) dX2_seesAll_33 hm_J9_abs_0f7a4 hs_J9_abs_0f7a4 ln_X2_82 rfl rfl (Nat.le_of_ble_eq_true rfl) (Nat.le_of_ble_eq_true rfl) (kc' := 0) (ks' := 0) rfl rfl (fun v1 u2 h => ?_)
      refine E_iload_n dX2_seesAll_36 rfl rfl ?_
      refine E_ic_gt (tgt := 47) h dX2_seesAll_37 (by decide) (fun h => ?_) (fun h => ?_)
      · refine Eg.pick [0, 1, 2, 3, 4] rfl ?_
        exact pX2_seesAll_47 hk4 hk13 _ _ _ _ _ _ h
      · refine E_iload_n dX2_seesAll_40 rfl rfl ?_
        refine E_iconst (v := 1) dX2_seesAll_41 (by decide) ?_
        refine E_iload dX2_seesAll_42 rfl ?_
        refine E_ishl dX2_seesAll_44 ?_
        refine E_ior dX2_seesAll_45 ?_
        refine E_oI h (fun v3 h => ?_)
        refine E_istore_n (l' := [(2, .int v3), (0, .int x0), (1, .int x1), (3, .int x3), (4, .int x4)]) dX2_seesAll_46 rfl (Nat.le_of_ble_eq_true rfl) rfl ?_
        refine Eg.pick [1, 2, 0, 3, 4] rfl ?_
        exact pX2_seesAll_47 hk4 hk13 _ _ _ _ _ _ h
def rX2_seesAll_13 (k4 : Mm → Int32 → Int32 → Int32 → Int32 → Option (Int32 × Mm)) : Nat → Mm → Int32 → Int32 → Int32 → Int32 → Int32 → Option (Int32 × Mm)
  | 0, _, _, _, _, _, _ => none
  | n + 1, u, x0, x1, x2, x3, x4 => bX2_seesAll_13 k4 (rX2_seesAll_13 k4 n) u x0 x1 x2 x3 x4
theorem prX2_seesAll_13 {r : Int32} {u' : Mm} {k4 : Mm → Int32 → Int32 → Int32 → Int32 → Option (Int32 × Mm)} (hk4 : ∀ (u : Mm) (x0 : Int32) (x1 : Int32) (x2 : Int32) (x3 : Int32), k4 u x0 x1 x2 x3 = some (r, u') → Eg MX2_seesAll 1 0 0 (some (.int r), u') 4 [(0, .int x0), (1, .int x1), (2, .int x2), (3, .int x3)] [] u) : ∀ (n : Nat) (u : Mm) (x0 : Int32) (x1 : Int32) (x2 : Int32) (x3 : Int32) (x4 : Int32), rX2_seesAll_13 k4 n u x0 x1 x2 x3 x4 = some (r, u') → Eg MX2_seesAll 1 0 0 (some (.int r), u') 13 [(0, .int x0), (1, .int x1), (2, .int x2), (3, .int x3), (4, .int x4)] [] u
  | 0, _, _, _, _, _, _, h => by cases h
  | n + 1, u, x0, x1, x2, x3, x4, h => pX2_seesAll_13 hk4 (prX2_seesAll_13 hk4 n) u x0 x1 x2 x3 x4 h
def bX2_seesAll_4 (k4 : Mm → Int32 → Int32 → Int32 → Int32 → Option (Int32 × Mm)) (u : Mm) (x0 : Int32) (x1 : Int32) (x2 : Int32) (x3 : Int32) : Option (Int32 × Mm) := (if (8 : Int32) ≤ x3 then (if (x2 : Int32) = 255 then bX2_seesAll_71 u 1 else bX2_seesAll_71 u 0) else rX2_seesAll_13 k4 hwF u x0 x1 x2 x3 0)
set_option maxRecDepth 100000 in
set_option maxHeartbeats 4000000 in
theorem pX2_seesAll_4 {r : Int32} {u' : Mm} {k4 : Mm → Int32 → Int32 → Int32 → Int32 → Option (Int32 × Mm)} (hk4 : ∀ (u : Mm) (x0 : Int32) (x1 : Int32) (x2 : Int32) (x3 : Int32), k4 u x0 x1 x2 x3 = some (r, u') → Eg MX2_seesAll 1 0 0 (some (.int r), u') 4 [(0, .int x0), (1, .int x1), (2, .int x2), (3, .int x3)] [] u) (u : Mm) (x0 : Int32) (x1 : Int32) (x2 : Int32) (x3 : Int32) (h : bX2_seesAll_4 k4 u x0 x1 x2 x3 = some (r, u')) : Eg MX2_seesAll 1 0 0 (some (.int r), u') 4 [(0, .int x0), (1, .int x1), (2, .int x2), (3, .int x3)] [] u := by
  unfold bX2_seesAll_4 at h
  refine E_iload_n dX2_seesAll_4 rfl rfl ?_
  refine E_bipush (v := 8) dX2_seesAll_5 (by decide) ?_
  refine E_ic_ge (tgt := 59) h dX2_seesAll_7 (by decide) (fun h => ?_) (fun h => ?_)
  · refine E_iload_n dX2_seesAll_59 rfl rfl ?_
    refine E_sipush (v := 255) dX2_seesAll_60 (by decide) ?_
    refine E_ic_ne (tgt := 70) h dX2_seesAll_63 (by decide) (fun h => ?_) (fun h => ?_)
    · refine E_iconst (v := 0) dX2_seesAll_70 (by decide) ?_
      refine Eg.pick [] rfl ?_
      exact pX2_seesAll_71 _ _ h
    · refine E_iconst (v := 1) dX2_seesAll_66 (by decide) ?_
      refine E_goto (tgt := 71) dX2_seesAll_67 (by decide) ?_
      refine Eg.pick [] rfl ?_
      exact pX2_seesAll_71 _ _ h
  · refine E_iconst (v := 0) dX2_seesAll_10 (by decide) ?_
    refine E_istore (l' := [(4, .int 0), (0, .int x0), (1, .int x1), (2, .int x2), (3, .int x3)]) dX2_seesAll_11 (Nat.le_of_ble_eq_true rfl) rfl ?_
    refine Eg.pick [1, 2, 3, 4, 0] rfl ?_
    exact prX2_seesAll_13 hk4 _ _ _ _ _ _ _ h
def rX2_seesAll_4 : Nat → Mm → Int32 → Int32 → Int32 → Int32 → Option (Int32 × Mm)
  | 0, _, _, _, _, _ => none
  | n + 1, u, x0, x1, x2, x3 => bX2_seesAll_4 (rX2_seesAll_4 n) u x0 x1 x2 x3
theorem prX2_seesAll_4 {r : Int32} {u' : Mm} : ∀ (n : Nat) (u : Mm) (x0 : Int32) (x1 : Int32) (x2 : Int32) (x3 : Int32), rX2_seesAll_4 n u x0 x1 x2 x3 = some (r, u') → Eg MX2_seesAll 1 0 0 (some (.int r), u') 4 [(0, .int x0), (1, .int x1), (2, .int x2), (3, .int x3)] [] u
  | 0, _, _, _, _, _, h => by cases h
  | n + 1, u, x0, x1, x2, x3, h => pX2_seesAll_4 (prX2_seesAll_4 n) u x0 x1 x2 x3 h
def fX2_seesAll (u : Mm) (x0 : Int32) (x1 : Int32) : Option (Int32 × Mm) := rX2_seesAll_4 hwF u x0 x1 0 0
set_option maxRecDepth 100000 in
set_option maxHeartbeats 4000000 in
theorem tX2_seesAll {u : Mm} {x0 : Int32} {x1 : Int32} {r : Int32} {u' : Mm} (h : fX2_seesAll u x0 x1 = some (r, u')) : Ev 1 MX2_seesAll 0 0 [.int x0, .int x1] u (some (.int r), u') := by
  refine Ev.of (by decide +kernel) (Nat.le_of_ble_eq_true rfl) (show Eg MX2_seesAll 1 0 0 (some (.int r), u') 0 [(0, .int x0), (1, .int x1)] [] u from ?_)
  unfold fX2_seesAll at h
  refine E_iconst (v := 0) dX2_seesAll_0 (by decide) ?_
  refine E_istore_n (l' := [(2, .int 0), (0, .int x0), (1, .int x1)]) dX2_seesAll_1 rfl (Nat.le_of_ble_eq_true rfl) rfl ?_
  refine E_iconst (v := 0) dX2_seesAll_2 (by decide) ?_
  refine E_istore_n (l' := [(3, .int 0), (2, .int 0), (0, .int x0), (1, .int x1)]) dX2_seesAll_3 rfl (Nat.le_of_ble_eq_true rfl) rfl ?_
  refine Eg.pick [2, 3, 1, 0] rfl ?_
  exact prX2_seesAll_4 _ _ _ _ _ _ h
def bX2_columnsForPosts_29 (k4 : Mm → Int32 → Int32 → Int32 → Option (Int32 × Mm)) (u : Mm) (x1 : Int32) (x2 : Int32) (x3 : Int32) : Option (Int32 × Mm) := k4 u x1 x2 (x3 + 1)
set_option maxRecDepth 100000 in
set_option maxHeartbeats 4000000 in
theorem pX2_columnsForPosts_29 {r : Int32} {u' : Mm} {k4 : Mm → Int32 → Int32 → Int32 → Option (Int32 × Mm)} (hk4 : ∀ (u : Mm) (x1 : Int32) (x2 : Int32) (x3 : Int32), k4 u x1 x2 x3 = some (r, u') → Eg MX2_columnsForPosts 2 0 0 (some (.int r), u') 4 [(1, .int x1), (2, .int x2), (3, .int x3)] [] u) (u : Mm) (x1 : Int32) (x2 : Int32) (x3 : Int32) (h : bX2_columnsForPosts_29 k4 u x1 x2 x3 = some (r, u')) : Eg MX2_columnsForPosts 2 0 0 (some (.int r), u') 29 [(1, .int x1), (2, .int x2), (3, .int x3)] [] u := by
  unfold bX2_columnsForPosts_29 at h
  refine E_iinc (j := 2) (v := x3 + 1) (l' := [(3, .int (x3 + 1)), (1, .int x1), (2, .int x2)]) dX2_columnsForPosts_29 rfl (addI (by decide)) (Nat.le_of_ble_eq_true rfl) rfl ?_
  refine E_goto (tgt := 4) dX2_columnsForPosts_32 (by decide) ?_
  refine Eg.pick [1, 2, 0] rfl ?_
  exact hk4 _ _ _ _ h
def bX2_columnsForPosts_4 (k4 : Mm → Int32 → Int32 → Int32 → Option (Int32 × Mm)) (u : Mm) (x1 : Int32) (x2 : Int32) (x3 : Int32) : Option (Int32 × Mm) := (if (256 : Int32) ≤ x3 then some (x2, u) else oB (fX2_isFewer u x3 x2) (fun v1 u2 => (if (v1 : Int32) = 0 then bX2_columnsForPosts_29 k4 u2 x1 x2 x3 else oB (fX2_seesAll u2 x3 x1) (fun v3 u4 => (if (v3 : Int32) = 0 then bX2_columnsForPosts_29 k4 u4 x1 x2 x3 else bX2_columnsForPosts_29 k4 u4 x1 x3 x3)))))
set_option maxRecDepth 100000 in
set_option maxHeartbeats 4000000 in
theorem pX2_columnsForPosts_4 {r : Int32} {u' : Mm} {k4 : Mm → Int32 → Int32 → Int32 → Option (Int32 × Mm)} (hk4 : ∀ (u : Mm) (x1 : Int32) (x2 : Int32) (x3 : Int32), k4 u x1 x2 x3 = some (r, u') → Eg MX2_columnsForPosts 2 0 0 (some (.int r), u') 4 [(1, .int x1), (2, .int x2), (3, .int x3)] [] u) (u : Mm) (x1 : Int32) (x2 : Int32) (x3 : Int32) (h : bX2_columnsForPosts_4 k4 u x1 x2 x3 = some (r, u')) : Eg MX2_columnsForPosts 2 0 0 (some (.int r), u') 4 [(1, .int x1), (2, .int x2), (3, .int x3)] [] u := by
  unfold bX2_columnsForPosts_4 at h
  refine E_iload_n dX2_columnsForPosts_4 rfl rfl ?_
  refine E_sipush (v := 256) dX2_columnsForPosts_5 (by decide) ?_
  refine E_ic_ge (tgt := 35) h dX2_columnsForPosts_8 (by decide) (fun h => ?_) (fun h => ?_)
  · refine E_iload_n dX2_columnsForPosts_35 rfl rfl ?_
    exact E_iret h dX2_columnsForPosts_36 rfl
  · refine E_iload_n dX2_columnsForPosts_11 rfl rfl ?_
    refine E_iload_n dX2_columnsForPosts_12 rfl rfl ?_
    refine F_Si h (fun a m e => tX2_isFewer e) dX2_columnsForPosts_13 hm_X2_isFewer hs_X2_isFewer ln_X2_29 rfl rfl (Nat.le_of_ble_eq_true rfl) (Nat.le_of_ble_eq_true rfl) (kc' := 0) (ks' := 0) rfl rfl (fun v1 u2 h => ?_)
    refine E_if_eq (tgt := 29) h dX2_columnsForPosts_16 (by decide) (fun h => ?_) (fun h => ?_)
    · refine Eg.pick [0, 1, 2] rfl ?_
      exact pX2_columnsForPosts_29 hk4 _ _ _ _ h
    · refine E_iload_n dX2_columnsForPosts_19 rfl rfl ?_
      refine E_iload_n dX2_columnsForPosts_20 rfl rfl ?_
      refine F_Si h (fun a m e => tX2_seesAll e) dX2_columnsForPosts_21 hm_X2_seesAll hs_X2_seesAll ln_X2_140 rfl rfl (Nat.le_of_ble_eq_true rfl) (Nat.le_of_ble_eq_true rfl) (kc' := 0) (ks' := 0) rfl rfl (fun v3 u4 h => ?_)
      refine E_if_eq (tgt := 29) h dX2_columnsForPosts_24 (by decide) (fun h => ?_) (fun h => ?_)
      · refine Eg.pick [0, 1, 2] rfl ?_
        exact pX2_columnsForPosts_29 hk4 _ _ _ _ h
      · refine E_iload_n dX2_columnsForPosts_27 rfl rfl ?_
        refine E_istore_n (l' := [(2, .int x3), (1, .int x1), (3, .int x3)]) dX2_columnsForPosts_28 rfl (Nat.le_of_ble_eq_true rfl) rfl ?_
        refine Eg.pick [1, 0, 2] rfl ?_
        exact pX2_columnsForPosts_29 hk4 _ _ _ _ h
def rX2_columnsForPosts_4 : Nat → Mm → Int32 → Int32 → Int32 → Option (Int32 × Mm)
  | 0, _, _, _, _ => none
  | n + 1, u, x1, x2, x3 => bX2_columnsForPosts_4 (rX2_columnsForPosts_4 n) u x1 x2 x3
theorem prX2_columnsForPosts_4 {r : Int32} {u' : Mm} : ∀ (n : Nat) (u : Mm) (x1 : Int32) (x2 : Int32) (x3 : Int32), rX2_columnsForPosts_4 n u x1 x2 x3 = some (r, u') → Eg MX2_columnsForPosts 2 0 0 (some (.int r), u') 4 [(1, .int x1), (2, .int x2), (3, .int x3)] [] u
  | 0, _, _, _, _, h => by cases h
  | n + 1, u, x1, x2, x3, h => pX2_columnsForPosts_4 (prX2_columnsForPosts_4 n) u x1 x2 x3 h
def fX2_columnsForPosts (u : Mm) (a0 : Nat) (x1 : Int32) : Option (Int32 × Mm) := rX2_columnsForPosts_4 hwF u x1 ((-1)) 0
set_option maxRecDepth 100000 in
set_option maxHeartbeats 4000000 in
theorem tX2_columnsForPosts {u : Mm} {a0 : Nat} {x1 : Int32} {r : Int32} {u' : Mm} (h : fX2_columnsForPosts u a0 x1 = some (r, u')) : Ev 2 MX2_columnsForPosts 0 0 [.ref a0, .int x1] u (some (.int r), u') := by
  refine Ev.of (by decide +kernel) (Nat.le_of_ble_eq_true rfl) (show Eg MX2_columnsForPosts 2 0 0 (some (.int r), u') 0 [(0, .ref a0), (1, .int x1)] [] u from ?_)
  unfold fX2_columnsForPosts at h
  refine E_iconst (v := (-1)) dX2_columnsForPosts_0 (by decide) ?_
  refine E_istore_n (l' := [(2, .int ((-1))), (0, .ref a0), (1, .int x1)]) dX2_columnsForPosts_1 rfl (Nat.le_of_ble_eq_true rfl) rfl ?_
  refine E_iconst (v := 0) dX2_columnsForPosts_2 (by decide) ?_
  refine E_istore_n (l' := [(3, .int 0), (2, .int ((-1))), (0, .ref a0), (1, .int x1)]) dX2_columnsForPosts_3 rfl (Nat.le_of_ble_eq_true rfl) rfl ?_
  refine Eg.pick [3, 1, 0] rfl ?_
  exact prX2_columnsForPosts_4 _ _ _ _ _ h
def fJ9_floorMod_7cf53 (u : Mm) (x0 : Int32) (x1 : Int32) : Option (Int32 × Mm) := (if (x1 : Int32) ≠ 0 then oI (x0 - x0 / x1 * x1) (fun v1 => (if 0 ≤ (x0 ^^^ x1 : Int32) then some (v1, u) else (if (v1 : Int32) = 0 then some (v1, u) else some (v1 + x1, u)))) else none)
set_option maxRecDepth 100000 in
set_option maxHeartbeats 4000000 in
theorem tJ9_floorMod_7cf53 {u : Mm} {x0 : Int32} {x1 : Int32} {r : Int32} {u' : Mm} (h : fJ9_floorMod_7cf53 u x0 x1 = some (r, u')) : Ev 0 MJ9_floorMod_7cf53 0 0 [.int x0, .int x1] u (some (.int r), u') := by
  refine Ev.ofF (by decide +kernel) (Nat.le_of_ble_eq_true rfl) (show Eg MJ9_floorMod_7cf53 0 0 0 (some (.int r), u') 0 [(0, .int x0), (1, .int x1)] [] u from ?_)
  unfold fJ9_floorMod_7cf53 at h
  refine E_iload_n dJ9_floorMod_7cf53_0 rfl rfl ?_
  refine E_iload_n dJ9_floorMod_7cf53_1 rfl rfl ?_
  refine E_irem h dJ9_floorMod_7cf53_2 (fun h => ?_)
  refine E_oI h (fun v1 h => ?_)
  refine E_istore_n (l' := [(2, .int v1), (0, .int x0), (1, .int x1)]) dJ9_floorMod_7cf53_3 rfl (Nat.le_of_ble_eq_true rfl) rfl ?_
  refine E_iload_n dJ9_floorMod_7cf53_4 rfl rfl ?_
  refine E_iload_n dJ9_floorMod_7cf53_5 rfl rfl ?_
  refine E_ixor dJ9_floorMod_7cf53_6 ?_
  refine E_if_ge (tgt := 18) h dJ9_floorMod_7cf53_7 (by decide) (fun h => ?_) (fun h => ?_)
  · refine E_iload_n dJ9_floorMod_7cf53_18 rfl rfl ?_
    exact E_iret h dJ9_floorMod_7cf53_19 rfl
  · refine E_iload_n dJ9_floorMod_7cf53_10 rfl rfl ?_
    refine E_if_eq (tgt := 18) h dJ9_floorMod_7cf53_11 (by decide) (fun h => ?_) (fun h => ?_)
    · refine E_iload_n dJ9_floorMod_7cf53_18 rfl rfl ?_
      exact E_iret h dJ9_floorMod_7cf53_19 rfl
    · refine E_iload_n dJ9_floorMod_7cf53_14 rfl rfl ?_
      refine E_iload_n dJ9_floorMod_7cf53_15 rfl rfl ?_
      refine E_iadd dJ9_floorMod_7cf53_16 ?_
      exact E_iret h dJ9_floorMod_7cf53_17 rfl
def bX2_foesOnWay_9 (k9 : Mm → Nat → Int32 → Int32 → Int32 → Int32 → Int32 → Int32 → Option (Int32 × Mm)) (u : Mm) (a0 : Nat) (x1 : Int32) (x3 : Int32) (x4 : Int32) (x5 : Int32) (x6 : Int32) (x7 : Int32) : Option (Int32 × Mm) := (if (8 : Int32) ≤ x7 then some (x5, u) else (if (x6 : Int32) = x3 then some (x5, u) else oB (fJ9_floorMod_7cf53 u (x6 + x4) 8) (fun v1 u2 => oK u2 a0 2 3 (oNn (mR u2 a0 0) (fun e3 => oK u2 e3 0 16 (oNn (mR u2 e3 0) (fun e4 => oR u2 e4 1 (oB (fX1_menAt u2 e4 ((1 : Int32) - x1) v1) (fun v5 u6 => oI (x5 + v5) (fun v7 => k9 u6 a0 x1 x3 x4 v7 v1 (x7 + 1)))))))))))
set_option maxRecDepth 100000 in
set_option maxHeartbeats 4000000 in
theorem pX2_foesOnWay_9 {r : Int32} {u' : Mm} {k9 : Mm → Nat → Int32 → Int32 → Int32 → Int32 → Int32 → Int32 → Option (Int32 × Mm)} (hk9 : ∀ (u : Mm) (a0 : Nat) (x1 : Int32) (x3 : Int32) (x4 : Int32) (x5 : Int32) (x6 : Int32) (x7 : Int32), k9 u a0 x1 x3 x4 x5 x6 x7 = some (r, u') → Eg MX2_foesOnWay 1 0 0 (some (.int r), u') 9 [(0, .ref a0), (1, .int x1), (3, .int x3), (4, .int x4), (5, .int x5), (6, .int x6), (7, .int x7)] [] u) (u : Mm) (a0 : Nat) (x1 : Int32) (x3 : Int32) (x4 : Int32) (x5 : Int32) (x6 : Int32) (x7 : Int32) (h : bX2_foesOnWay_9 k9 u a0 x1 x3 x4 x5 x6 x7 = some (r, u')) : Eg MX2_foesOnWay 1 0 0 (some (.int r), u') 9 [(0, .ref a0), (1, .int x1), (3, .int x3), (4, .int x4), (5, .int x5), (6, .int x6), (7, .int x7)] [] u := by
  unfold bX2_foesOnWay_9 at h
  refine E_iload dX2_foesOnWay_9 rfl ?_
  refine E_bipush (v := 8) dX2_foesOnWay_11 (by decide) ?_
  refine E_ic_ge (tgt := 60) h dX2_foesOnWay_13 (by decide) (fun h => ?_) (fun h => ?_)
  · refine E_iload dX2_foesOnWay_60 rfl ?_
    exact E_iret h dX2_foesOnWay_62 rfl
  · refine E_iload dX2_foesOnWay_16 rfl ?_
    refine E_iload_n dX2_foesOnWay_18 rfl rfl ?_
    refine E_ic_eq (tgt := 60) h dX2_foesOnWay_19 (by decide) (fun h => ?_) (fun h => ?_)
    · refine E_iload dX2_foesOnWay_60 rfl ?_
      exact E_iret h dX2_foesOnWay_62 rfl
    · refine E_iload dX2_foesOnWay_22 rfl ?_
      refine E_iload dX2_foesOnWay_24 rfl ?_
      refine E_iadd dX2_foesOnWay_26 ?_
      refine E_bipush (v := 8) dX2_foesOnWay_27 (by decide) ?_
      refine F_Si h (fun a m e => tJ9_floorMod_7cf53 e) dX2_foesOnWay_29 hm_J9_floorMod_7cf53 hs_J9_floorMod_7cf53 ln_X2_143 rfl rfl (Nat.le_of_ble_eq_true rfl) (Nat.le_of_ble_eq_true rfl) (kc' := 0) (ks' := 0) rfl rfl (fun v1 u2 h => ?_)
      refine E_istore (l' := [(6, .int v1), (0, .ref a0), (1, .int x1), (3, .int x3), (4, .int x4), (5, .int x5), (7, .int x7)]) dX2_foesOnWay_32 (Nat.le_of_ble_eq_true rfl) rfl ?_
      refine E_iload dX2_foesOnWay_34 rfl ?_
      refine E_aload_n dX2_foesOnWay_36 rfl rfl ?_
      refine E_getA h dX2_foesOnWay_37 cf2 lk_X2_15 (by decide) (fun _ _ _ => rfl) (fun e3 h => ?_)
      refine E_getA h dX2_foesOnWay_40 cf0 lk_X2_99 (by decide) (fun _ _ _ => rfl) (fun e4 h => ?_)
      refine E_iconst (v := 1) dX2_foesOnWay_43 (by decide) ?_
      refine E_iload_n dX2_foesOnWay_44 rfl rfl ?_
      refine E_isub dX2_foesOnWay_45 ?_
      refine E_iload dX2_foesOnWay_46 rfl ?_
      refine F_Vi h (fun a m e => tX1_menAt e) dX2_foesOnWay_48 hm_X1_menAt hv_X1_menAt ln_X2_137 rfl rfl (Nat.le_of_ble_eq_true rfl) (Nat.le_of_ble_eq_true rfl) (kc' := 0) (ks' := 0) rfl rfl (fun v5 u6 h => ?_)
      refine E_iadd dX2_foesOnWay_51 ?_
      refine E_oI h (fun v7 h => ?_)
      refine E_istore (l' := [(5, .int v7), (6, .int v1), (0, .ref a0), (1, .int x1), (3, .int x3), (4, .int x4), (7, .int x7)]) dX2_foesOnWay_52 (Nat.le_of_ble_eq_true rfl) rfl ?_
      refine E_iinc (j := 6) (v := x7 + 1) (l' := [(7, .int (x7 + 1)), (5, .int v7), (6, .int v1), (0, .ref a0), (1, .int x1), (3, .int x3), (4, .int x4)]) dX2_foesOnWay_54 rfl (addI (by decide)) (Nat.le_of_ble_eq_true rfl) rfl ?_
      refine E_goto (tgt := 9) dX2_foesOnWay_57 (by decide) ?_
      refine Eg.pick [3, 4, 5, 6, 1, 2, 0] rfl ?_
      exact hk9 _ _ _ _ _ _ _ _ h
def rX2_foesOnWay_9 : Nat → Mm → Nat → Int32 → Int32 → Int32 → Int32 → Int32 → Int32 → Option (Int32 × Mm)
  | 0, _, _, _, _, _, _, _, _ => none
  | n + 1, u, a0, x1, x3, x4, x5, x6, x7 => bX2_foesOnWay_9 (rX2_foesOnWay_9 n) u a0 x1 x3 x4 x5 x6 x7
theorem prX2_foesOnWay_9 {r : Int32} {u' : Mm} : ∀ (n : Nat) (u : Mm) (a0 : Nat) (x1 : Int32) (x3 : Int32) (x4 : Int32) (x5 : Int32) (x6 : Int32) (x7 : Int32), rX2_foesOnWay_9 n u a0 x1 x3 x4 x5 x6 x7 = some (r, u') → Eg MX2_foesOnWay 1 0 0 (some (.int r), u') 9 [(0, .ref a0), (1, .int x1), (3, .int x3), (4, .int x4), (5, .int x5), (6, .int x6), (7, .int x7)] [] u
  | 0, _, _, _, _, _, _, _, _, h => by cases h
  | n + 1, u, a0, x1, x3, x4, x5, x6, x7, h => pX2_foesOnWay_9 (prX2_foesOnWay_9 n) u a0 x1 x3 x4 x5 x6 x7 h
def fX2_foesOnWay (u : Mm) (a0 : Nat) (x1 : Int32) (x2 : Int32) (x3 : Int32) (x4 : Int32) : Option (Int32 × Mm) := rX2_foesOnWay_9 hwF u a0 x1 x3 x4 0 x2 0
set_option maxRecDepth 100000 in
set_option maxHeartbeats 4000000 in
theorem tX2_foesOnWay {u : Mm} {a0 : Nat} {x1 : Int32} {x2 : Int32} {x3 : Int32} {x4 : Int32} {r : Int32} {u' : Mm} (h : fX2_foesOnWay u a0 x1 x2 x3 x4 = some (r, u')) : Ev 1 MX2_foesOnWay 0 0 [.ref a0, .int x1, .int x2, .int x3, .int x4] u (some (.int r), u') := by
  refine Ev.of (by decide +kernel) (Nat.le_of_ble_eq_true rfl) (show Eg MX2_foesOnWay 1 0 0 (some (.int r), u') 0 [(0, .ref a0), (1, .int x1), (2, .int x2), (3, .int x3), (4, .int x4)] [] u from ?_)
  unfold fX2_foesOnWay at h
  refine E_iconst (v := 0) dX2_foesOnWay_0 (by decide) ?_
  refine E_istore (l' := [(5, .int 0), (0, .ref a0), (1, .int x1), (2, .int x2), (3, .int x3), (4, .int x4)]) dX2_foesOnWay_1 (Nat.le_of_ble_eq_true rfl) rfl ?_
  refine E_iload_n dX2_foesOnWay_3 rfl rfl ?_
  refine E_istore (l' := [(6, .int x2), (5, .int 0), (0, .ref a0), (1, .int x1), (2, .int x2), (3, .int x3), (4, .int x4)]) dX2_foesOnWay_4 (Nat.le_of_ble_eq_true rfl) rfl ?_
  refine E_iconst (v := 0) dX2_foesOnWay_6 (by decide) ?_
  refine E_istore (l' := [(7, .int 0), (6, .int x2), (5, .int 0), (0, .ref a0), (1, .int x1), (2, .int x2), (3, .int x3), (4, .int x4)]) dX2_foesOnWay_7 (Nat.le_of_ble_eq_true rfl) rfl ?_
  refine Eg.pick [3, 4, 6, 7, 2, 1, 0] rfl ?_
  exact prX2_foesOnWay_9 _ _ _ _ _ _ _ _ _ h
