/-! ===== methods as functions, with their contracts (printed by program) ===== -/
def bX2_chanceToHold_7 (k7 : Mm → Nat → Int32 → Int64 → Int32 → Option (Int64 × Mm)) (u : Mm) (a0 : Nat) (x1 : Int32) (y2 : Int64) (x4 : Int32) : Option (Int64 × Mm) := (if (x1 : Int32) ≤ x4 then some (y2, u) else oK u a0 2 3 (oNn (mR u a0 0) (fun e1 => oK u e1 0 16 (oNn (mR u e1 0) (fun e2 => oR u e2 1 (oB (fX1_temperOf u e2 0) (fun v3 u4 => (if (100 : Int64) ≠ 0 then oJ ((y2 * (Int32.toInt64 ((100 : Int32) - v3))) / 100) (fun w5 => oK u4 a0 2 3 (oNn (mR u4 a0 0) (fun e6 => oK u4 e6 0 16 (oNn (mR u4 e6 0) (fun e7 => oR u4 e7 1 (oB (fX1_temperOf u4 e7 1) (fun v8 u9 => (if (100 : Int64) ≠ 0 then oJ ((w5 * (Int32.toInt64 ((100 : Int32) - v8))) / 100) (fun w10 => k7 u9 a0 x1 w10 (x4 + 1)) else none)))))))) else none))))))))
set_option maxRecDepth 100000 in
set_option maxHeartbeats 4000000 in
theorem pX2_chanceToHold_7 {r : Int64} {u' : Mm} {k7 : Mm → Nat → Int32 → Int64 → Int32 → Option (Int64 × Mm)} (hk7 : ∀ (u : Mm) (a0 : Nat) (x1 : Int32) (y2 : Int64) (x4 : Int32), k7 u a0 x1 y2 x4 = some (r, u') → Eg MX2_chanceToHold 1 0 0 (some (.long r), u') 7 [(0, .ref a0), (1, .int x1), (2, .long y2), (4, .int x4)] [] u) (u : Mm) (a0 : Nat) (x1 : Int32) (y2 : Int64) (x4 : Int32) (h : bX2_chanceToHold_7 k7 u a0 x1 y2 x4 = some (r, u')) : Eg MX2_chanceToHold 1 0 0 (some (.long r), u') 7 [(0, .ref a0), (1, .int x1), (2, .long y2), (4, .int x4)] [] u := by
  unfold bX2_chanceToHold_7 at h
  refine E_iload dX2_chanceToHold_7 rfl ?_
  refine E_iload_n dX2_chanceToHold_9 rfl rfl ?_
  refine E_ic_ge (tgt := 63) h dX2_chanceToHold_10 (by decide) (fun h => ?_) (fun h => ?_)
  · refine E_lload_n dX2_chanceToHold_63 rfl rfl ?_
    exact E_lret h dX2_chanceToHold_64 rfl
  · refine E_lload_n dX2_chanceToHold_13 rfl rfl ?_
    refine E_bipush (v := 100) dX2_chanceToHold_14 (by decide) ?_
    refine E_aload_n dX2_chanceToHold_16 rfl rfl ?_
    refine E_getA h dX2_chanceToHold_17 cf2 lk_X2_15 (by decide) (fun _ _ _ => rfl) (fun e1 h => ?_)
    refine E_getA h dX2_chanceToHold_20 cf0 lk_X2_99 (by decide) (fun _ _ _ => rfl) (fun e2 h => ?_)
    refine E_iconst (v := 0) dX2_chanceToHold_23 (by decide) ?_
    refine F_Vi h (fun a m e => tX1_temperOf e) dX2_chanceToHold_24 hm_X1_temperOf hv_X1_temperOf ln_X2_148 rfl rfl (Nat.le_of_ble_eq_true rfl) (Nat.le_of_ble_eq_true rfl) (kc' := 0) (ks' := 0) rfl rfl (fun v3 u4 h => ?_)
    refine E_isub dX2_chanceToHold_27 ?_
    refine E_i2l dX2_chanceToHold_28 ?_
    refine E_lmul dX2_chanceToHold_29 ?_
    refine E_ldc2 dX2_chanceToHold_30 rfl cn_X2_151 ?_
    refine E_ldiv h dX2_chanceToHold_33 (fun h => ?_)
    refine E_oJ h (fun w5 h => ?_)
    refine E_lstore_n (l' := [(2, .long w5), (0, .ref a0), (1, .int x1), (4, .int x4)]) dX2_chanceToHold_34 rfl (Nat.le_of_ble_eq_true rfl) rfl ?_
    refine E_lload_n dX2_chanceToHold_35 rfl rfl ?_
    refine E_bipush (v := 100) dX2_chanceToHold_36 (by decide) ?_
    refine E_aload_n dX2_chanceToHold_38 rfl rfl ?_
    refine E_getA h dX2_chanceToHold_39 cf2 lk_X2_15 (by decide) (fun _ _ _ => rfl) (fun e6 h => ?_)
    refine E_getA h dX2_chanceToHold_42 cf0 lk_X2_99 (by decide) (fun _ _ _ => rfl) (fun e7 h => ?_)
    refine E_iconst (v := 1) dX2_chanceToHold_45 (by decide) ?_
    refine F_Vi h (fun a m e => tX1_temperOf e) dX2_chanceToHold_46 hm_X1_temperOf hv_X1_temperOf ln_X2_148 rfl rfl (Nat.le_of_ble_eq_true rfl) (Nat.le_of_ble_eq_true rfl) (kc' := 0) (ks' := 0) rfl rfl (fun v8 u9 h => ?_)
    refine E_isub dX2_chanceToHold_49 ?_
    refine E_i2l dX2_chanceToHold_50 ?_
    refine E_lmul dX2_chanceToHold_51 ?_
    refine E_ldc2 dX2_chanceToHold_52 rfl cn_X2_151 ?_
    refine E_ldiv h dX2_chanceToHold_55 (fun h => ?_)
    refine E_oJ h (fun w10 h => ?_)
    refine E_lstore_n (l' := [(2, .long w10), (0, .ref a0), (1, .int x1), (4, .int x4)]) dX2_chanceToHold_56 rfl (Nat.le_of_ble_eq_true rfl) rfl ?_
    refine E_iinc (j := 3) (v := x4 + 1) (l' := [(4, .int (x4 + 1)), (2, .long w10), (0, .ref a0), (1, .int x1)]) dX2_chanceToHold_57 rfl (addI (by decide)) (Nat.le_of_ble_eq_true rfl) rfl ?_
    refine E_goto (tgt := 7) dX2_chanceToHold_60 (by decide) ?_
    refine Eg.pick [2, 3, 1, 0] rfl ?_
    exact hk7 _ _ _ _ _ h
def rX2_chanceToHold_7 : Nat → Mm → Nat → Int32 → Int64 → Int32 → Option (Int64 × Mm)
  | 0, _, _, _, _, _ => none
  | n + 1, u, a0, x1, y2, x4 => bX2_chanceToHold_7 (rX2_chanceToHold_7 n) u a0 x1 y2 x4
theorem prX2_chanceToHold_7 {r : Int64} {u' : Mm} : ∀ (n : Nat) (u : Mm) (a0 : Nat) (x1 : Int32) (y2 : Int64) (x4 : Int32), rX2_chanceToHold_7 n u a0 x1 y2 x4 = some (r, u') → Eg MX2_chanceToHold 1 0 0 (some (.long r), u') 7 [(0, .ref a0), (1, .int x1), (2, .long y2), (4, .int x4)] [] u
  | 0, _, _, _, _, _, h => by cases h
  | n + 1, u, a0, x1, y2, x4, h => pX2_chanceToHold_7 (prX2_chanceToHold_7 n) u a0 x1 y2 x4 h
def fX2_chanceToHold (u : Mm) (a0 : Nat) (x1 : Int32) : Option (Int64 × Mm) := rX2_chanceToHold_7 hwF u a0 x1 1000000000000 0
set_option maxRecDepth 100000 in
set_option maxHeartbeats 4000000 in
theorem tX2_chanceToHold {u : Mm} {a0 : Nat} {x1 : Int32} {r : Int64} {u' : Mm} (h : fX2_chanceToHold u a0 x1 = some (r, u')) : Ev 1 MX2_chanceToHold 0 0 [.ref a0, .int x1] u (some (.long r), u') := by
  refine Ev.of (by decide +kernel) (Nat.le_of_ble_eq_true rfl) (show Eg MX2_chanceToHold 1 0 0 (some (.long r), u') 0 [(0, .ref a0), (1, .int x1)] [] u from ?_)
  unfold fX2_chanceToHold at h
  refine E_ldc2 dX2_chanceToHold_0 rfl cn_X2_146 ?_
  refine E_lstore_n (l' := [(2, .long 1000000000000), (0, .ref a0), (1, .int x1)]) dX2_chanceToHold_3 rfl (Nat.le_of_ble_eq_true rfl) rfl ?_
  refine E_iconst (v := 0) dX2_chanceToHold_4 (by decide) ?_
  refine E_istore (l' := [(4, .int 0), (2, .long 1000000000000), (0, .ref a0), (1, .int x1)]) dX2_chanceToHold_5 (Nat.le_of_ble_eq_true rfl) rfl ?_
  refine Eg.pick [2, 3, 1, 0] rfl ?_
  exact prX2_chanceToHold_7 _ _ _ _ _ _ h
def fX7_readingOf (u : Mm) (a0 : Nat) (a1 : Nat) (x2 : Int32) (x3 : Int32) : Option (Int32 × Mm) := oK u a0 7 2 (oNn (mR u a0 1) (fun e1 => oK u a0 7 2 (oNn (mR u a0 0) (fun e2 => oK u e2 0 16 (oI (mI u e2 12) (fun v3 => oR u e1 5 (oB (fX5_setLawWords u e1 a1 x3 v3) (fun _ u4 => oK u4 a0 7 2 (oNn (mR u4 a0 1) (fun e5 => oK u4 e5 5 2 (oNn (mR u4 e5 1) (fun e6 => oA u4 e6 10 7 (oU (wI u4 e6 (upd (mI u4 e6) (Int32.toNatClampNeg 7) x2)) (fun u7 => oK u7 a0 7 2 (oNn (mR u7 a0 1) (fun e8 => oK u7 a0 7 2 (oNn (mR u7 a0 0) (fun e9 => oR u7 e9 0 (oB (fX0_lawInForce u7 e9) (fun g10 u11 => oK u11 a0 7 2 (oNn (mR u11 a0 0) (fun e12 => oK u11 e12 0 16 (oNn (mR u11 e12 1) (fun e13 => oB (fX8_pair u11 x2 x3) (fun v14 u15 => oA u15 e13 10 v14 (oI (mI u15 e13 (Int32.toNatClampNeg v14)) (fun v16 => oR u15 e8 5 (oB (fX5_toldBy u15 e8 g10 256 v16) (fun v17 u18 => oB (fJ9_min_7cf53 u18 v17 20) (fun v19 u20 => oB (fJ9_max_7cf53 u20 ((-20)) v19) (fun v21 u22 => some (v21, u22))))))))))))))))))))))))))))))))
set_option maxRecDepth 100000 in
set_option maxHeartbeats 4000000 in
theorem tX7_readingOf {u : Mm} {a0 : Nat} {a1 : Nat} {x2 : Int32} {x3 : Int32} {r : Int32} {u' : Mm} (h : fX7_readingOf u a0 a1 x2 x3 = some (r, u')) : Ev 3 MX7_readingOf 0 0 [.ref a0, .ref a1, .int x2, .int x3] u (some (.int r), u') := by
  refine Ev.of (by decide +kernel) (Nat.le_of_ble_eq_true rfl) (show Eg MX7_readingOf 3 0 0 (some (.int r), u') 0 [(0, .ref a0), (1, .ref a1), (2, .int x2), (3, .int x3)] [] u from ?_)
  unfold fX7_readingOf at h
  refine E_aload_n dX7_readingOf_0 rfl rfl ?_
  refine E_getA h dX7_readingOf_1 cf7 lk_X7_12 (by decide) (fun _ _ _ => rfl) (fun e1 h => ?_)
  refine E_aload_n dX7_readingOf_4 rfl rfl ?_
  refine E_iload_n dX7_readingOf_5 rfl rfl ?_
  refine E_aload_n dX7_readingOf_6 rfl rfl ?_
  refine E_getA h dX7_readingOf_7 cf7 lk_X7_18 (by decide) (fun _ _ _ => rfl) (fun e2 h => ?_)
  refine E_getI h dX7_readingOf_10 cf0 lk_X7_22 (by decide) (fun _ _ _ => rfl) (fun h => ?_)
  refine E_oI h (fun v3 h => ?_)
  refine F_Vv h (fun m e => tX5_setLawWords e) dX7_readingOf_13 hm_X5_setLawWords hv_X5_setLawWords ln_X7_28 rfl rfl (Nat.le_of_ble_eq_true rfl) (Nat.le_of_ble_eq_true rfl) (kc' := 0) (ks' := 0) rfl rfl (fun u4 h => ?_)
  refine E_aload_n dX7_readingOf_16 rfl rfl ?_
  refine E_getA h dX7_readingOf_17 cf7 lk_X7_12 (by decide) (fun _ _ _ => rfl) (fun e5 h => ?_)
  refine E_getA h dX7_readingOf_20 cf5 lk_X7_52 (by decide) (fun _ _ _ => rfl) (fun e6 h => ?_)
  refine E_bipush (v := 7) dX7_readingOf_23 (by decide) ?_
  refine E_iload_n dX7_readingOf_25 rfl rfl ?_
  refine E_iast h dX7_readingOf_26 (fun h => ?_)
  refine E_oU h (fun u7 h => ?_)
  refine E_aload_n dX7_readingOf_27 rfl rfl ?_
  refine E_getA h dX7_readingOf_28 cf7 lk_X7_12 (by decide) (fun _ _ _ => rfl) (fun e8 h => ?_)
  refine E_aload_n dX7_readingOf_31 rfl rfl ?_
  refine E_getA h dX7_readingOf_32 cf7 lk_X7_18 (by decide) (fun _ _ _ => rfl) (fun e9 h => ?_)
  refine F_Vq h (fun a m e => tX0_lawInForce e) dX7_readingOf_35 hm_X0_lawInForce hv_X0_lawInForce ln_X7_48 rfl rfl (Nat.le_of_ble_eq_true rfl) (Nat.le_of_ble_eq_true rfl) (kc' := 0) (ks' := 0) rfl rfl (fun g10 u11 h => ?_)
  refine E_sipush (v := 256) dX7_readingOf_38 (by decide) ?_
  refine E_aload_n dX7_readingOf_41 rfl rfl ?_
  refine E_getA h dX7_readingOf_42 cf7 lk_X7_18 (by decide) (fun _ _ _ => rfl) (fun e12 h => ?_)
  refine E_getA h dX7_readingOf_45 cf0 lk_X7_62 (by decide) (fun _ _ _ => rfl) (fun e13 h => ?_)
  refine E_iload_n dX7_readingOf_48 rfl rfl ?_
  refine E_iload_n dX7_readingOf_49 rfl rfl ?_
  refine F_Si h (fun a m e => tX8_pair e) dX7_readingOf_50 hm_X8_pair hs_X8_pair ln_X7_65 rfl rfl (by cases g10 <;>  exact Nat.le_of_ble_eq_true rfl) (Nat.le_of_ble_eq_true rfl) (kc' := 0) (ks' := 0) rfl rfl (fun v14 u15 h => ?_)
  refine E_iald h dX7_readingOf_53 (fun h => ?_)
  refine E_oI h (fun v16 h => ?_)
  refine F_Vi h (fun a m e => tX5_toldBy e) dX7_readingOf_54 hm_X5_toldBy hv_X5_toldBy ln_X7_35 rfl rfl (Nat.le_of_ble_eq_true rfl) (Nat.le_of_ble_eq_true rfl) (kc' := 0) (ks' := 0) rfl rfl (fun v17 u18 h => ?_)
  refine E_istore (l' := [(4, .int v17), (0, .ref a0), (1, .ref a1), (2, .int x2), (3, .int x3)]) dX7_readingOf_57 (Nat.le_of_ble_eq_true rfl) rfl ?_
  refine E_bipush (v := (-20)) dX7_readingOf_59 (by decide) ?_
  refine E_iload dX7_readingOf_61 rfl ?_
  refine E_bipush (v := 20) dX7_readingOf_63 (by decide) ?_
  refine F_Si h (fun a m e => tJ9_min_7cf53 e) dX7_readingOf_65 hm_J9_min_7cf53 hs_J9_min_7cf53 ln_X7_39 rfl rfl (Nat.le_of_ble_eq_true rfl) (Nat.le_of_ble_eq_true rfl) (kc' := 0) (ks' := 0) rfl rfl (fun v19 u20 h => ?_)
  refine F_Si h (fun a m e => tJ9_max_7cf53 e) dX7_readingOf_68 hm_J9_max_7cf53 hs_J9_max_7cf53 ln_X7_45 rfl rfl (Nat.le_of_ble_eq_true rfl) (Nat.le_of_ble_eq_true rfl) (kc' := 0) (ks' := 0) rfl rfl (fun v21 u22 h => ?_)
  exact E_iret h dX7_readingOf_71 rfl
def bX2_isAsTold_2 (k2 : Mm → Nat → Int32 → Int32 → Option (Int32 × Mm)) (u : Mm) (a0 : Nat) (x1 : Int32) (x2 : Int32) : Option (Int32 × Mm) := oK u a0 2 3 (oNn (mR u a0 0) (fun e1 => oK u e1 0 16 (oI (mI u e1 10) (fun v2 => (if (v2 : Int32) ≤ x2 then oZ 1 (some (1, u)) else (if (6 : Int32) ≤ x2 then oZ 1 (some (1, u)) else oK u a0 2 3 (oNn (mR u a0 1) (fun e3 => oK u a0 2 3 (oNn (mR u a0 0) (fun e4 => oK u e4 0 16 (oNn (mR u e4 0) (fun e5 => oK u a0 2 3 (oNn (mR u a0 0) (fun e6 => oK u e6 0 16 (oNn (mR u e6 8) (fun e7 => oA u e7 10 x2 (oI (mI u e7 (Int32.toNatClampNeg x2)) (fun v8 => oR u e3 7 (oB (fX7_readingOf u e3 e5 x1 v8) (fun v9 u10 => oK u10 a0 2 3 (oNn (mR u10 a0 0) (fun e11 => oK u10 e11 0 16 (oNn (mR u10 e11 9) (fun e12 => oA u10 e12 10 x2 (oI (mI u10 e12 (Int32.toNatClampNeg x2)) (fun v13 => (if (v9 : Int32) = v13 then k2 u10 a0 x1 (x2 + 1) else oZ 0 (some (0, u10)))))))))))))))))))))))))))))
set_option maxRecDepth 100000 in
set_option maxHeartbeats 4000000 in
theorem pX2_isAsTold_2 {r : Int32} {u' : Mm} {k2 : Mm → Nat → Int32 → Int32 → Option (Int32 × Mm)} (hk2 : ∀ (u : Mm) (a0 : Nat) (x1 : Int32) (x2 : Int32), k2 u a0 x1 x2 = some (r, u') → Eg MX2_isAsTold 4 0 0 (some (.int r), u') 2 [(0, .ref a0), (1, .int x1), (2, .int x2)] [] u) (u : Mm) (a0 : Nat) (x1 : Int32) (x2 : Int32) (h : bX2_isAsTold_2 k2 u a0 x1 x2 = some (r, u')) : Eg MX2_isAsTold 4 0 0 (some (.int r), u') 2 [(0, .ref a0), (1, .int x1), (2, .int x2)] [] u := by
  unfold bX2_isAsTold_2 at h
  refine E_iload_n dX2_isAsTold_2 rfl rfl ?_
  refine E_aload_n dX2_isAsTold_3 rfl rfl ?_
  refine E_getA h dX2_isAsTold_4 cf2 lk_X2_15 (by decide) (fun _ _ _ => rfl) (fun e1 h => ?_)
  refine E_getI h dX2_isAsTold_7 cf0 lk_X2_156 (by decide) (fun _ _ _ => rfl) (fun h => ?_)
  refine E_oI h (fun v2 h => ?_)
  refine E_ic_ge (tgt := 63) h dX2_isAsTold_10 (by decide) (fun h => ?_) (fun h => ?_)
  · refine E_iconst (v := 1) dX2_isAsTold_63 (by decide) ?_
    exact E_zret h dX2_isAsTold_64 rfl
  · refine E_iload_n dX2_isAsTold_13 rfl rfl ?_
    refine E_bipush (v := 6) dX2_isAsTold_14 (by decide) ?_
    refine E_ic_ge (tgt := 63) h dX2_isAsTold_16 (by decide) (fun h => ?_) (fun h => ?_)
    · refine E_iconst (v := 1) dX2_isAsTold_63 (by decide) ?_
      exact E_zret h dX2_isAsTold_64 rfl
    · refine E_aload_n dX2_isAsTold_19 rfl rfl ?_
      refine E_getA h dX2_isAsTold_20 cf2 lk_X2_19 (by decide) (fun _ _ _ => rfl) (fun e3 h => ?_)
      refine E_aload_n dX2_isAsTold_23 rfl rfl ?_
      refine E_getA h dX2_isAsTold_24 cf2 lk_X2_15 (by decide) (fun _ _ _ => rfl) (fun e4 h => ?_)
      refine E_getA h dX2_isAsTold_27 cf0 lk_X2_99 (by decide) (fun _ _ _ => rfl) (fun e5 h => ?_)
      refine E_iload_n dX2_isAsTold_30 rfl rfl ?_
      refine E_aload_n dX2_isAsTold_31 rfl rfl ?_
      refine E_getA h dX2_isAsTold_32 cf2 lk_X2_15 (by decide) (fun _ _ _ => rfl) (fun e6 h => ?_)
      refine E_getA h dX2_isAsTold_35 cf0 lk_X2_159 (by decide) (fun _ _ _ => rfl) (fun e7 h => ?_)
      refine E_iload_n dX2_isAsTold_38 rfl rfl ?_
      refine E_iald h dX2_isAsTold_39 (fun h => ?_)
      refine E_oI h (fun v8 h => ?_)
      refine F_Vi h (fun a m e => tX7_readingOf e) dX2_isAsTold_40 hm_X7_readingOf hv_X7_readingOf ln_X2_162 rfl rfl (Nat.le_of_ble_eq_true rfl) (Nat.le_of_ble_eq_true rfl) (kc' := 0) (ks' := 0) rfl rfl (fun v9 u10 h => ?_)
      refine E_aload_n dX2_isAsTold_43 rfl rfl ?_
      refine E_getA h dX2_isAsTold_44 cf2 lk_X2_15 (by decide) (fun _ _ _ => rfl) (fun e11 h => ?_)
      refine E_getA h dX2_isAsTold_47 cf0 lk_X2_166 (by decide) (fun _ _ _ => rfl) (fun e12 h => ?_)
      refine E_iload_n dX2_isAsTold_50 rfl rfl ?_
      refine E_iald h dX2_isAsTold_51 (fun h => ?_)
      refine E_oI h (fun v13 h => ?_)
      refine E_ic_eq (tgt := 57) h dX2_isAsTold_52 (by decide) (fun h => ?_) (fun h => ?_)
      · refine E_iinc (j := 2) (v := x2 + 1) (l' := [(2, .int (x2 + 1)), (0, .ref a0), (1, .int x1)]) dX2_isAsTold_57 rfl (addI (by decide)) (Nat.le_of_ble_eq_true rfl) rfl ?_
        refine E_goto (tgt := 2) dX2_isAsTold_60 (by decide) ?_
        refine Eg.pick [1, 2, 0] rfl ?_
        exact hk2 _ _ _ _ h
      · refine E_iconst (v := 0) dX2_isAsTold_55 (by decide) ?_
        exact E_zret h dX2_isAsTold_56 rfl
def rX2_isAsTold_2 : Nat → Mm → Nat → Int32 → Int32 → Option (Int32 × Mm)
  | 0, _, _, _, _ => none
  | n + 1, u, a0, x1, x2 => bX2_isAsTold_2 (rX2_isAsTold_2 n) u a0 x1 x2
theorem prX2_isAsTold_2 {r : Int32} {u' : Mm} : ∀ (n : Nat) (u : Mm) (a0 : Nat) (x1 : Int32) (x2 : Int32), rX2_isAsTold_2 n u a0 x1 x2 = some (r, u') → Eg MX2_isAsTold 4 0 0 (some (.int r), u') 2 [(0, .ref a0), (1, .int x1), (2, .int x2)] [] u
  | 0, _, _, _, _, h => by cases h
  | n + 1, u, a0, x1, x2, h => pX2_isAsTold_2 (prX2_isAsTold_2 n) u a0 x1 x2 h
def fX2_isAsTold (u : Mm) (a0 : Nat) (x1 : Int32) : Option (Int32 × Mm) := rX2_isAsTold_2 hwF u a0 x1 0
set_option maxRecDepth 100000 in
set_option maxHeartbeats 4000000 in
theorem tX2_isAsTold {u : Mm} {a0 : Nat} {x1 : Int32} {r : Int32} {u' : Mm} (h : fX2_isAsTold u a0 x1 = some (r, u')) : Ev 4 MX2_isAsTold 0 0 [.ref a0, .int x1] u (some (.int r), u') := by
  refine Ev.of (by decide +kernel) (Nat.le_of_ble_eq_true rfl) (show Eg MX2_isAsTold 4 0 0 (some (.int r), u') 0 [(0, .ref a0), (1, .int x1)] [] u from ?_)
  unfold fX2_isAsTold at h
  refine E_iconst (v := 0) dX2_isAsTold_0 (by decide) ?_
  refine E_istore_n (l' := [(2, .int 0), (0, .ref a0), (1, .int x1)]) dX2_isAsTold_1 rfl (Nat.le_of_ble_eq_true rfl) rfl ?_
  refine Eg.pick [1, 2, 0] rfl ?_
  exact prX2_isAsTold_2 _ _ _ _ _ h
def bX2_signsThatFit_24 (k4 : Mm → Nat → Int32 → Int32 → Option (Int32 × Mm)) (u : Mm) (a0 : Nat) (x1 : Int32) (x2 : Int32) : Option (Int32 × Mm) := k4 u a0 x1 (x2 + 1)
set_option maxRecDepth 100000 in
set_option maxHeartbeats 4000000 in
theorem pX2_signsThatFit_24 {r : Int32} {u' : Mm} {k4 : Mm → Nat → Int32 → Int32 → Option (Int32 × Mm)} (hk4 : ∀ (u : Mm) (a0 : Nat) (x1 : Int32) (x2 : Int32), k4 u a0 x1 x2 = some (r, u') → Eg MX2_signsThatFit 5 0 0 (some (.int r), u') 4 [(0, .ref a0), (1, .int x1), (2, .int x2)] [] u) (u : Mm) (a0 : Nat) (x1 : Int32) (x2 : Int32) (h : bX2_signsThatFit_24 k4 u a0 x1 x2 = some (r, u')) : Eg MX2_signsThatFit 5 0 0 (some (.int r), u') 24 [(0, .ref a0), (1, .int x1), (2, .int x2)] [] u := by
  unfold bX2_signsThatFit_24 at h
  refine E_iinc (j := 2) (v := x2 + 1) (l' := [(2, .int (x2 + 1)), (0, .ref a0), (1, .int x1)]) dX2_signsThatFit_24 rfl (addI (by decide)) (Nat.le_of_ble_eq_true rfl) rfl ?_
  refine E_goto (tgt := 4) dX2_signsThatFit_27 (by decide) ?_
  refine Eg.pick [1, 2, 0] rfl ?_
  exact hk4 _ _ _ _ h
def bX2_signsThatFit_4 (k4 : Mm → Nat → Int32 → Int32 → Option (Int32 × Mm)) (u : Mm) (a0 : Nat) (x1 : Int32) (x2 : Int32) : Option (Int32 × Mm) := (if (8 : Int32) ≤ x2 then some (x1, u) else oR u a0 2 (oB (fX2_isAsTold u a0 x2) (fun v1 u2 => (if (v1 : Int32) = 0 then bX2_signsThatFit_24 k4 u2 a0 x1 x2 else oI (x1 ||| ((1 : Int32) <<< (x2 &&& 31))) (fun v3 => bX2_signsThatFit_24 k4 u2 a0 v3 x2)))))
set_option maxRecDepth 100000 in
set_option maxHeartbeats 4000000 in
theorem pX2_signsThatFit_4 {r : Int32} {u' : Mm} {k4 : Mm → Nat → Int32 → Int32 → Option (Int32 × Mm)} (hk4 : ∀ (u : Mm) (a0 : Nat) (x1 : Int32) (x2 : Int32), k4 u a0 x1 x2 = some (r, u') → Eg MX2_signsThatFit 5 0 0 (some (.int r), u') 4 [(0, .ref a0), (1, .int x1), (2, .int x2)] [] u) (u : Mm) (a0 : Nat) (x1 : Int32) (x2 : Int32) (h : bX2_signsThatFit_4 k4 u a0 x1 x2 = some (r, u')) : Eg MX2_signsThatFit 5 0 0 (some (.int r), u') 4 [(0, .ref a0), (1, .int x1), (2, .int x2)] [] u := by
  unfold bX2_signsThatFit_4 at h
  refine E_iload_n dX2_signsThatFit_4 rfl rfl ?_
  refine E_bipush (v := 8) dX2_signsThatFit_5 (by decide) ?_
  refine E_ic_ge (tgt := 30) h dX2_signsThatFit_7 (by decide) (fun h => ?_) (fun h => ?_)
  · refine E_iload_n dX2_signsThatFit_30 rfl rfl ?_
    exact E_iret h dX2_signsThatFit_31 rfl
  · refine E_aload_n dX2_signsThatFit_10 rfl rfl ?_
    refine E_iload_n dX2_signsThatFit_11 rfl rfl ?_
    refine F_Vi h (fun a m e => tX2_isAsTold e) dX2_signsThatFit_12 hm_X2_isAsTold hv_X2_isAsTold ln_X2_153 rfl rfl (Nat.le_of_ble_eq_true rfl) (Nat.le_of_ble_eq_true rfl) (kc' := 0) (ks' := 0) rfl rfl (fun v1 u2 h => ?_)
    refine E_if_eq (tgt := 24) h dX2_signsThatFit_15 (by decide) (fun h => ?_) (fun h => ?_)
    · refine Eg.pick [0, 1, 2] rfl ?_
      exact pX2_signsThatFit_24 hk4 _ _ _ _ h
    · refine E_iload_n dX2_signsThatFit_18 rfl rfl ?_
      refine E_iconst (v := 1) dX2_signsThatFit_19 (by decide) ?_
      refine E_iload_n dX2_signsThatFit_20 rfl rfl ?_
      refine E_ishl dX2_signsThatFit_21 ?_
      refine E_ior dX2_signsThatFit_22 ?_
      refine E_oI h (fun v3 h => ?_)
      refine E_istore_n (l' := [(1, .int v3), (0, .ref a0), (2, .int x2)]) dX2_signsThatFit_23 rfl (Nat.le_of_ble_eq_true rfl) rfl ?_
      refine Eg.pick [1, 0, 2] rfl ?_
      exact pX2_signsThatFit_24 hk4 _ _ _ _ h
def rX2_signsThatFit_4 : Nat → Mm → Nat → Int32 → Int32 → Option (Int32 × Mm)
  | 0, _, _, _, _ => none
  | n + 1, u, a0, x1, x2 => bX2_signsThatFit_4 (rX2_signsThatFit_4 n) u a0 x1 x2
theorem prX2_signsThatFit_4 {r : Int32} {u' : Mm} : ∀ (n : Nat) (u : Mm) (a0 : Nat) (x1 : Int32) (x2 : Int32), rX2_signsThatFit_4 n u a0 x1 x2 = some (r, u') → Eg MX2_signsThatFit 5 0 0 (some (.int r), u') 4 [(0, .ref a0), (1, .int x1), (2, .int x2)] [] u
  | 0, _, _, _, _, h => by cases h
  | n + 1, u, a0, x1, x2, h => pX2_signsThatFit_4 (prX2_signsThatFit_4 n) u a0 x1 x2 h
def fX2_signsThatFit (u : Mm) (a0 : Nat) : Option (Int32 × Mm) := rX2_signsThatFit_4 hwF u a0 0 0
set_option maxRecDepth 100000 in
set_option maxHeartbeats 4000000 in
theorem tX2_signsThatFit {u : Mm} {a0 : Nat} {r : Int32} {u' : Mm} (h : fX2_signsThatFit u a0 = some (r, u')) : Ev 5 MX2_signsThatFit 0 0 [.ref a0] u (some (.int r), u') := by
  refine Ev.of (by decide +kernel) (Nat.le_of_ble_eq_true rfl) (show Eg MX2_signsThatFit 5 0 0 (some (.int r), u') 0 [(0, .ref a0)] [] u from ?_)
  unfold fX2_signsThatFit at h
  refine E_iconst (v := 0) dX2_signsThatFit_0 (by decide) ?_
  refine E_istore_n (l' := [(1, .int 0), (0, .ref a0)]) dX2_signsThatFit_1 rfl (Nat.le_of_ble_eq_true rfl) rfl ?_
  refine E_iconst (v := 0) dX2_signsThatFit_2 (by decide) ?_
  refine E_istore_n (l' := [(2, .int 0), (1, .int 0), (0, .ref a0)]) dX2_signsThatFit_3 rfl (Nat.le_of_ble_eq_true rfl) rfl ?_
  refine Eg.pick [2, 1, 0] rfl ?_
  exact prX2_signsThatFit_4 _ _ _ _ _ h
def bX2_costOfAll_12 (k4 : Mm → Nat → (Option Nat) → Int32 → Int32 → Option (Int32 × Mm)) (k12 : Mm → Nat → (Option Nat) → Int32 → Int32 → Int32 → Option (Int32 × Mm)) (u : Mm) (a0 : Nat) (q1 : Option Nat) (x2 : Int32) (x3 : Int32) (x4 : Int32) : Option (Int32 × Mm) := (if (8 : Int32) ≤ x4 then k4 u a0 q1 x2 (x3 + 1) else oK u a0 2 3 (oNn (mR u a0 1) (fun e1 => oK u a0 2 3 (oNn (mR u a0 0) (fun e2 => oK u e2 0 16 (oNn (mR u e2 0) (fun e3 => oR u e1 7 (oB (fX7_costOf u e1 q1 e3 x3 x4) (fun v4 u5 => oI (x2 + v4) (fun v6 => k12 u5 a0 q1 v6 x3 (x4 + 1)))))))))))
set_option maxRecDepth 100000 in
set_option maxHeartbeats 4000000 in
theorem pX2_costOfAll_12 {r : Int32} {u' : Mm} {k4 : Mm → Nat → (Option Nat) → Int32 → Int32 → Option (Int32 × Mm)} (hk4 : ∀ (u : Mm) (a0 : Nat) (q1 : Option Nat) (x2 : Int32) (x3 : Int32), k4 u a0 q1 x2 x3 = some (r, u') → Eg MX2_costOfAll 4 0 0 (some (.int r), u') 4 [(0, .ref a0), (1, va_rf q1), (2, .int x2), (3, .int x3)] [] u) {k12 : Mm → Nat → (Option Nat) → Int32 → Int32 → Int32 → Option (Int32 × Mm)} (hk12 : ∀ (u : Mm) (a0 : Nat) (q1 : Option Nat) (x2 : Int32) (x3 : Int32) (x4 : Int32), k12 u a0 q1 x2 x3 x4 = some (r, u') → Eg MX2_costOfAll 4 0 0 (some (.int r), u') 12 [(0, .ref a0), (1, va_rf q1), (2, .int x2), (3, .int x3), (4, .int x4)] [] u) (u : Mm) (a0 : Nat) (q1 : Option Nat) (x2 : Int32) (x3 : Int32) (x4 : Int32) (h : bX2_costOfAll_12 k4 k12 u a0 q1 x2 x3 x4 = some (r, u')) : Eg MX2_costOfAll 4 0 0 (some (.int r), u') 12 [(0, .ref a0), (1, va_rf q1), (2, .int x2), (3, .int x3), (4, .int x4)] [] u := by
  unfold bX2_costOfAll_12 at h
  refine E_iload dX2_costOfAll_12 rfl ?_
  refine E_bipush (v := 8) dX2_costOfAll_14 (by decide) ?_
  refine E_ic_ge (tgt := 46) h dX2_costOfAll_16 (by decide) (fun h => ?_) (fun h => ?_)
  · refine E_iinc (j := 3) (v := x3 + 1) (l' := [(3, .int (x3 + 1)), (0, .ref a0), (1, va_rf q1), (2, .int x2), (4, .int x4)]) dX2_costOfAll_46 rfl (addI (by decide)) (Nat.le_of_ble_eq_true rfl) (by cases q1 <;>  rfl) ?_
    refine E_goto (tgt := 4) dX2_costOfAll_49 (by decide) ?_
    refine Eg.pick [1, 2, 3, 0] rfl ?_
    exact hk4 _ _ _ _ _ h
  · refine E_iload_n dX2_costOfAll_19 rfl rfl ?_
    refine E_aload_n dX2_costOfAll_20 rfl rfl ?_
    refine E_getA h dX2_costOfAll_21 cf2 lk_X2_19 (by decide) (fun _ _ _ => rfl) (fun e1 h => ?_)
    refine E_aload_nQ dX2_costOfAll_24 rfl rfl ?_
    refine E_aload_n dX2_costOfAll_25 rfl rfl ?_
    refine E_getA h dX2_costOfAll_26 cf2 lk_X2_15 (by decide) (fun _ _ _ => rfl) (fun e2 h => ?_)
    refine E_getA h dX2_costOfAll_29 cf0 lk_X2_99 (by decide) (fun _ _ _ => rfl) (fun e3 h => ?_)
    refine E_iload_n dX2_costOfAll_32 rfl rfl ?_
    refine E_iload dX2_costOfAll_33 rfl ?_
    refine F_Vi h (fun a m e => tX7_costOf e) dX2_costOfAll_35 hm_X7_costOf hv_X7_costOf ln_X2_107 rfl rfl (Nat.le_of_ble_eq_true rfl) (Nat.le_of_ble_eq_true rfl) (kc' := 0) (ks' := 0) rfl rfl (fun v4 u5 h => ?_)
    refine E_iadd dX2_costOfAll_38 ?_
    refine E_oI h (fun v6 h => ?_)
    refine E_istore_n (l' := [(2, .int v6), (0, .ref a0), (1, va_rf q1), (3, .int x3), (4, .int x4)]) dX2_costOfAll_39 rfl (Nat.le_of_ble_eq_true rfl) (by cases q1 <;>  rfl) ?_
    refine E_iinc (j := 4) (v := x4 + 1) (l' := [(4, .int (x4 + 1)), (2, .int v6), (0, .ref a0), (1, va_rf q1), (3, .int x3)]) dX2_costOfAll_40 rfl (addI (by decide)) (Nat.le_of_ble_eq_true rfl) (by cases q1 <;>  rfl) ?_
    refine E_goto (tgt := 12) dX2_costOfAll_43 (by decide) ?_
    refine Eg.pick [2, 3, 1, 4, 0] rfl ?_
    exact hk12 _ _ _ _ _ _ h
def rX2_costOfAll_12 (k4 : Mm → Nat → (Option Nat) → Int32 → Int32 → Option (Int32 × Mm)) : Nat → Mm → Nat → (Option Nat) → Int32 → Int32 → Int32 → Option (Int32 × Mm)
  | 0, _, _, _, _, _, _ => none
  | n + 1, u, a0, q1, x2, x3, x4 => bX2_costOfAll_12 k4 (rX2_costOfAll_12 k4 n) u a0 q1 x2 x3 x4
theorem prX2_costOfAll_12 {r : Int32} {u' : Mm} {k4 : Mm → Nat → (Option Nat) → Int32 → Int32 → Option (Int32 × Mm)} (hk4 : ∀ (u : Mm) (a0 : Nat) (q1 : Option Nat) (x2 : Int32) (x3 : Int32), k4 u a0 q1 x2 x3 = some (r, u') → Eg MX2_costOfAll 4 0 0 (some (.int r), u') 4 [(0, .ref a0), (1, va_rf q1), (2, .int x2), (3, .int x3)] [] u) : ∀ (n : Nat) (u : Mm) (a0 : Nat) (q1 : Option Nat) (x2 : Int32) (x3 : Int32) (x4 : Int32), rX2_costOfAll_12 k4 n u a0 q1 x2 x3 x4 = some (r, u') → Eg MX2_costOfAll 4 0 0 (some (.int r), u') 12 [(0, .ref a0), (1, va_rf q1), (2, .int x2), (3, .int x3), (4, .int x4)] [] u
  | 0, _, _, _, _, _, _, h => by cases h
  | n + 1, u, a0, q1, x2, x3, x4, h => pX2_costOfAll_12 hk4 (prX2_costOfAll_12 hk4 n) u a0 q1 x2 x3 x4 h
def bX2_costOfAll_4 (k4 : Mm → Nat → (Option Nat) → Int32 → Int32 → Option (Int32 × Mm)) (u : Mm) (a0 : Nat) (q1 : Option Nat) (x2 : Int32) (x3 : Int32) : Option (Int32 × Mm) := (if (2 : Int32) ≤ x3 then some (x2, u) else rX2_costOfAll_12 k4 hwF u a0 q1 x2 x3 0)
set_option maxRecDepth 100000 in
set_option maxHeartbeats 4000000 in
theorem pX2_costOfAll_4 {r : Int32} {u' : Mm} {k4 : Mm → Nat → (Option Nat) → Int32 → Int32 → Option (Int32 × Mm)} (hk4 : ∀ (u : Mm) (a0 : Nat) (q1 : Option Nat) (x2 : Int32) (x3 : Int32), k4 u a0 q1 x2 x3 = some (r, u') → Eg MX2_costOfAll 4 0 0 (some (.int r), u') 4 [(0, .ref a0), (1, va_rf q1), (2, .int x2), (3, .int x3)] [] u) (u : Mm) (a0 : Nat) (q1 : Option Nat) (x2 : Int32) (x3 : Int32) (h : bX2_costOfAll_4 k4 u a0 q1 x2 x3 = some (r, u')) : Eg MX2_costOfAll 4 0 0 (some (.int r), u') 4 [(0, .ref a0), (1, va_rf q1), (2, .int x2), (3, .int x3)] [] u := by
  unfold bX2_costOfAll_4 at h
  refine E_iload_n dX2_costOfAll_4 rfl rfl ?_
  refine E_iconst (v := 2) dX2_costOfAll_5 (by decide) ?_
  refine E_ic_ge (tgt := 52) h dX2_costOfAll_6 (by decide) (fun h => ?_) (fun h => ?_)
  · refine E_iload_n dX2_costOfAll_52 rfl rfl ?_
    exact E_iret h dX2_costOfAll_53 rfl
  · refine E_iconst (v := 0) dX2_costOfAll_9 (by decide) ?_
    refine E_istore (l' := [(4, .int 0), (0, .ref a0), (1, va_rf q1), (2, .int x2), (3, .int x3)]) dX2_costOfAll_10 (Nat.le_of_ble_eq_true rfl) (by cases q1 <;>  rfl) ?_
    refine Eg.pick [1, 2, 3, 4, 0] rfl ?_
    exact prX2_costOfAll_12 hk4 _ _ _ _ _ _ _ h
def rX2_costOfAll_4 : Nat → Mm → Nat → (Option Nat) → Int32 → Int32 → Option (Int32 × Mm)
  | 0, _, _, _, _, _ => none
  | n + 1, u, a0, q1, x2, x3 => bX2_costOfAll_4 (rX2_costOfAll_4 n) u a0 q1 x2 x3
theorem prX2_costOfAll_4 {r : Int32} {u' : Mm} : ∀ (n : Nat) (u : Mm) (a0 : Nat) (q1 : Option Nat) (x2 : Int32) (x3 : Int32), rX2_costOfAll_4 n u a0 q1 x2 x3 = some (r, u') → Eg MX2_costOfAll 4 0 0 (some (.int r), u') 4 [(0, .ref a0), (1, va_rf q1), (2, .int x2), (3, .int x3)] [] u
  | 0, _, _, _, _, _, h => by cases h
  | n + 1, u, a0, q1, x2, x3, h => pX2_costOfAll_4 (prX2_costOfAll_4 n) u a0 q1 x2 x3 h
def fX2_costOfAll (u : Mm) (a0 : Nat) (q1 : Option Nat) : Option (Int32 × Mm) := rX2_costOfAll_4 hwF u a0 q1 0 0
set_option maxRecDepth 100000 in
set_option maxHeartbeats 4000000 in
theorem tX2_costOfAll {u : Mm} {a0 : Nat} {q1 : Option Nat} {r : Int32} {u' : Mm} (h : fX2_costOfAll u a0 q1 = some (r, u')) : Ev 4 MX2_costOfAll 0 0 [.ref a0, va_rf q1] u (some (.int r), u') := by
  have hg : Eg MX2_costOfAll 4 0 0 (some (.int r), u') 0 [(0, .ref a0), (1, va_rf q1)] [] u := by
    unfold fX2_costOfAll at h
    refine E_iconst (v := 0) dX2_costOfAll_0 (by decide) ?_
    refine E_istore_n (l' := [(2, .int 0), (0, .ref a0), (1, va_rf q1)]) dX2_costOfAll_1 rfl (Nat.le_of_ble_eq_true rfl) (by cases q1 <;>  rfl) ?_
    refine E_iconst (v := 0) dX2_costOfAll_2 (by decide) ?_
    refine E_istore_n (l' := [(3, .int 0), (2, .int 0), (0, .ref a0), (1, va_rf q1)]) dX2_costOfAll_3 rfl (Nat.le_of_ble_eq_true rfl) (by cases q1 <;>  rfl) ?_
    refine Eg.pick [2, 3, 1, 0] rfl ?_
    exact prX2_costOfAll_4 _ _ _ _ _ _ h
  refine Ev.of (by decide +kernel) ?_ ?_
  · cases q1 <;> exact Nat.le_of_ble_eq_true rfl
  · cases q1 <;> exact hg
def fX3_init (u : Mm) (a0 : Nat) : Option (Unit × Mm) := oN 464 464 (oP (mN u) (fun e1 => oU (wN u 10 (Int32.toNatClampNeg 464)) (fun u2 => oK u2 a0 3 4 (oU (wR u2 a0 (va_up (mR u2 a0) 0 (some e1))) (fun u3 => oN 16 16 (oP (mN u3) (fun e4 => oU (wN u3 10 (Int32.toNatClampNeg 16)) (fun u5 => oK u5 a0 3 4 (oU (wR u5 a0 (va_up (mR u5 a0) 1 (some e4))) (fun u6 => some ((), u6)))))))))))
set_option maxRecDepth 100000 in
set_option maxHeartbeats 4000000 in
theorem tX3_init {u : Mm} {a0 : Nat} {r : Unit} {u' : Mm} (h : fX3_init u a0 = some (r, u')) : Ev 1 MX3_init 2 480 [.ref a0] u (none, u') := by
  refine Ev.of (by decide +kernel) (Nat.le_of_ble_eq_true rfl) (show Eg MX3_init 1 2 480 (none, u') 0 [(0, .ref a0)] [] u from ?_)
  unfold fX3_init at h
  refine E_aload_n dX3_init_0 rfl rfl ?_
  refine E_objInit dX3_init_1 ln_X3_3 oi_2 oi_3 (Nat.le_of_ble_eq_true rfl) (Nat.le_of_ble_eq_true rfl) ?_
  refine E_aload_n dX3_init_4 rfl rfl ?_
  refine E_sipush (v := 464) dX3_init_5 (by decide) ?_
  refine E_newI h dX3_init_8 aw_int (by decide) (kc' := 1) (ks' := 16) rfl rfl (fun h => ?_)
  refine E_oP h (fun e1 h => ?_)
  refine E_oU h (fun u2 h => ?_)
  refine E_putR h dX3_init_10 cf3 lk_X3_9 (by decide) (Or.inr ⟨rfl, rfl, rfl, lkm_X3_9⟩) (Or.inr ⟨_, rfl⟩) (fun h => ?_)
  refine E_oU h (fun u3 h => ?_)
  refine E_aload_n dX3_init_13 rfl rfl ?_
  refine E_bipush (v := 16) dX3_init_14 (by decide) ?_
  refine E_newI h dX3_init_16 aw_int (by decide) (kc' := 0) (ks' := 0) rfl rfl (fun h => ?_)
  refine E_oP h (fun e4 h => ?_)
  refine E_oU h (fun u5 h => ?_)
  refine E_putR h dX3_init_18 cf3 lk_X3_15 (by decide) (Or.inr ⟨rfl, rfl, rfl, lkm_X3_15⟩) (Or.inr ⟨_, rfl⟩) (fun h => ?_)
  refine E_oU h (fun u6 h => ?_)
  exact E_vret h dX3_init_21 rfl
def fX3_clear (u : Mm) (a0 : Nat) : Option (Unit × Mm) := oK u a0 3 4 (oU (wI u a0 (upd (mI u a0) 3 0)) (fun u1 => some ((), u1)))
set_option maxRecDepth 100000 in
set_option maxHeartbeats 4000000 in
theorem tX3_clear {u : Mm} {a0 : Nat} {r : Unit} {u' : Mm} (h : fX3_clear u a0 = some (r, u')) : Ev 0 MX3_clear 0 0 [.ref a0] u (none, u') := by
  refine Ev.of (by decide +kernel) (Nat.le_of_ble_eq_true rfl) (show Eg MX3_clear 0 0 0 (none, u') 0 [(0, .ref a0)] [] u from ?_)
  unfold fX3_clear at h
  refine E_aload_n dX3_clear_0 rfl rfl ?_
  refine E_iconst (v := 0) dX3_clear_1 (by decide) ?_
  refine E_putI h dX3_clear_2 cf3 lk_X3_18 (by decide) (Or.inl rfl) rfl (fun h => ?_)
  refine E_oU h (fun u1 h => ?_)
  exact E_vret h dX3_clear_5 rfl
def fX3_add (u : Mm) (a0 : Nat) (x1 : Int32) (a2 : Nat) : Option (Unit × Mm) := oK u a2 1 1 (oNn (mR u a2 0) (fun e1 => oK u a0 3 4 (oNn (mR u a0 0) (fun e2 => oK u a0 3 4 (oI (mI u a0 2) (fun v3 => oC u e1 e2 0 (v3 * 29) 29 (oU (wI u e2 (va_cpy (mI u e1) (mI u e2) (Int32.toNatClampNeg 0) (Int32.toNatClampNeg (v3 * 29)) (Int32.toNatClampNeg 29))) (fun u4 => oK u4 a0 3 4 (oNn (mR u4 a0 1) (fun e5 => oK u4 a0 3 4 (oI (mI u4 a0 2) (fun v6 => oA u4 e5 10 v6 (oU (wI u4 e5 (upd (mI u4 e5) (Int32.toNatClampNeg v6) x1)) (fun u7 => oK u7 a0 3 4 (oI (mI u7 a0 2) (fun v8 => (if (16 : Int32) ≠ 0 then oK u7 a0 3 4 (oU (wI u7 a0 (upd (mI u7 a0) 2 ((v8 + 1) - (v8 + 1) / 16 * 16))) (fun u9 => oK u9 a0 3 4 (oI (mI u9 a0 3) (fun v10 => oB (fJ9_min_7cf53 u9 (v10 + 1) 16) (fun v11 u12 => oK u12 a0 3 4 (oU (wI u12 a0 (upd (mI u12 a0) 3 v11)) (fun u13 => some ((), u13)))))))) else none)))))))))))))))))
set_option maxRecDepth 100000 in
set_option maxHeartbeats 4000000 in
theorem tX3_add {u : Mm} {a0 : Nat} {x1 : Int32} {a2 : Nat} {r : Unit} {u' : Mm} (h : fX3_add u a0 x1 a2 = some (r, u')) : Ev 1 MX3_add 0 0 [.ref a0, .int x1, .ref a2] u (none, u') := by
  refine Ev.of (by decide +kernel) (Nat.le_of_ble_eq_true rfl) (show Eg MX3_add 1 0 0 (none, u') 0 [(0, .ref a0), (1, .int x1), (2, .ref a2)] [] u from ?_)
  unfold fX3_add at h
  refine E_aload_n dX3_add_0 rfl rfl ?_
  refine E_getA h dX3_add_1 cf1 lk_X3_22 (by decide) (fun _ _ _ => rfl) (fun e1 h => ?_)
  refine E_iconst (v := 0) dX3_add_4 (by decide) ?_
  refine E_aload_n dX3_add_5 rfl rfl ?_
  refine E_getA h dX3_add_6 cf3 lk_X3_9 (by decide) (fun _ _ _ => rfl) (fun e2 h => ?_)
  refine E_aload_n dX3_add_9 rfl rfl ?_
  refine E_getI h dX3_add_10 cf3 lk_X3_25 (by decide) (fun _ _ _ => rfl) (fun h => ?_)
  refine E_oI h (fun v3 h => ?_)
  refine E_bipush (v := 29) dX3_add_13 (by decide) ?_
  refine E_imul dX3_add_15 ?_
  refine E_bipush (v := 29) dX3_add_16 (by decide) ?_
  refine E_copy h dX3_add_18 ln_X3_28 ac_2 ac_3 ac_4 (Nat.le_of_ble_eq_true rfl) (Nat.le_of_ble_eq_true rfl) (fun h => ?_)
  refine E_oU h (fun u4 h => ?_)
  refine E_aload_n dX3_add_21 rfl rfl ?_
  refine E_getA h dX3_add_22 cf3 lk_X3_15 (by decide) (fun _ _ _ => rfl) (fun e5 h => ?_)
  refine E_aload_n dX3_add_25 rfl rfl ?_
  refine E_getI h dX3_add_26 cf3 lk_X3_25 (by decide) (fun _ _ _ => rfl) (fun h => ?_)
  refine E_oI h (fun v6 h => ?_)
  refine E_iload_n dX3_add_29 rfl rfl ?_
  refine E_iast h dX3_add_30 (fun h => ?_)
  refine E_oU h (fun u7 h => ?_)
  refine E_aload_n dX3_add_31 rfl rfl ?_
  refine E_aload_n dX3_add_32 rfl rfl ?_
  refine E_getI h dX3_add_33 cf3 lk_X3_25 (by decide) (fun _ _ _ => rfl) (fun h => ?_)
  refine E_oI h (fun v8 h => ?_)
  refine E_iconst (v := 1) dX3_add_36 (by decide) ?_
  refine E_iadd dX3_add_37 ?_
  refine E_bipush (v := 16) dX3_add_38 (by decide) ?_
  refine E_irem h dX3_add_40 (fun h => ?_)
  refine E_putI h dX3_add_41 cf3 lk_X3_25 (by decide) (Or.inl rfl) rfl (fun h => ?_)
  refine E_oU h (fun u9 h => ?_)
  refine E_aload_n dX3_add_44 rfl rfl ?_
  refine E_aload_n dX3_add_45 rfl rfl ?_
  refine E_getI h dX3_add_46 cf3 lk_X3_18 (by decide) (fun _ _ _ => rfl) (fun h => ?_)
  refine E_oI h (fun v10 h => ?_)
  refine E_iconst (v := 1) dX3_add_49 (by decide) ?_
  refine E_iadd dX3_add_50 ?_
  refine E_bipush (v := 16) dX3_add_51 (by decide) ?_
  refine F_Si h (fun a m e => tJ9_min_7cf53 e) dX3_add_53 hm_J9_min_7cf53 hs_J9_min_7cf53 ln_X3_34 rfl rfl (Nat.le_of_ble_eq_true rfl) (Nat.le_of_ble_eq_true rfl) (kc' := 0) (ks' := 0) rfl rfl (fun v11 u12 h => ?_)
  refine E_putI h dX3_add_56 cf3 lk_X3_18 (by decide) (Or.inl rfl) rfl (fun h => ?_)
  refine E_oU h (fun u13 h => ?_)
  exact E_vret h dX3_add_59 rfl
def fX3_takeLatest (u : Mm) (a0 : Nat) (a1 : Nat) : Option (Int32 × Mm) := oK u a0 3 4 (oI (mI u a0 2) (fun v1 => (if (16 : Int32) ≠ 0 then oK u a0 3 4 (oU (wI u a0 (upd (mI u a0) 2 (((v1 + 16) - 1) - ((v1 + 16) - 1) / 16 * 16))) (fun u2 => oK u2 a0 3 4 (oI (mI u2 a0 3) (fun v3 => oB (fJ9_max_7cf53 u2 (v3 - 1) 0) (fun v4 u5 => oK u5 a0 3 4 (oU (wI u5 a0 (upd (mI u5 a0) 3 v4)) (fun u6 => oK u6 a0 3 4 (oNn (mR u6 a0 0) (fun e7 => oK u6 a0 3 4 (oI (mI u6 a0 2) (fun v8 => oK u6 a1 1 1 (oNn (mR u6 a1 0) (fun e9 => oC u6 e7 e9 (v8 * 29) 0 29 (oU (wI u6 e9 (va_cpy (mI u6 e7) (mI u6 e9) (Int32.toNatClampNeg (v8 * 29)) (Int32.toNatClampNeg 0) (Int32.toNatClampNeg 29))) (fun u10 => oK u10 a0 3 4 (oNn (mR u10 a0 1) (fun e11 => oK u10 a0 3 4 (oI (mI u10 a0 2) (fun v12 => oA u10 e11 10 v12 (oI (mI u10 e11 (Int32.toNatClampNeg v12)) (fun v13 => some (v13, u10)))))))))))))))))))))) else none)))
set_option maxRecDepth 100000 in
set_option maxHeartbeats 4000000 in
theorem tX3_takeLatest {u : Mm} {a0 : Nat} {a1 : Nat} {r : Int32} {u' : Mm} (h : fX3_takeLatest u a0 a1 = some (r, u')) : Ev 1 MX3_takeLatest 0 0 [.ref a0, .ref a1] u (some (.int r), u') := by
  refine Ev.of (by decide +kernel) (Nat.le_of_ble_eq_true rfl) (show Eg MX3_takeLatest 1 0 0 (some (.int r), u') 0 [(0, .ref a0), (1, .ref a1)] [] u from ?_)
  unfold fX3_takeLatest at h
  refine E_aload_n dX3_takeLatest_0 rfl rfl ?_
  refine E_aload_n dX3_takeLatest_1 rfl rfl ?_
  refine E_getI h dX3_takeLatest_2 cf3 lk_X3_25 (by decide) (fun _ _ _ => rfl) (fun h => ?_)
  refine E_oI h (fun v1 h => ?_)
  refine E_bipush (v := 16) dX3_takeLatest_5 (by decide) ?_
  refine E_iadd dX3_takeLatest_7 ?_
  refine E_iconst (v := 1) dX3_takeLatest_8 (by decide) ?_
  refine E_isub dX3_takeLatest_9 ?_
  refine E_bipush (v := 16) dX3_takeLatest_10 (by decide) ?_
  refine E_irem h dX3_takeLatest_12 (fun h => ?_)
  refine E_putI h dX3_takeLatest_13 cf3 lk_X3_25 (by decide) (Or.inl rfl) rfl (fun h => ?_)
  refine E_oU h (fun u2 h => ?_)
  refine E_aload_n dX3_takeLatest_16 rfl rfl ?_
  refine E_aload_n dX3_takeLatest_17 rfl rfl ?_
  refine E_getI h dX3_takeLatest_18 cf3 lk_X3_18 (by decide) (fun _ _ _ => rfl) (fun h => ?_)
  refine E_oI h (fun v3 h => ?_)
  refine E_iconst (v := 1) dX3_takeLatest_21 (by decide) ?_
  refine E_isub dX3_takeLatest_22 ?_
  refine E_iconst (v := 0) dX3_takeLatest_23 (by decide) ?_
  refine F_Si h (fun a m e => tJ9_max_7cf53 e) dX3_takeLatest_24 hm_J9_max_7cf53 hs_J9_max_7cf53 ln_X3_40 rfl rfl (Nat.le_of_ble_eq_true rfl) (Nat.le_of_ble_eq_true rfl) (kc' := 0) (ks' := 0) rfl rfl (fun v4 u5 h => ?_)
  refine E_putI h dX3_takeLatest_27 cf3 lk_X3_18 (by decide) (Or.inl rfl) rfl (fun h => ?_)
  refine E_oU h (fun u6 h => ?_)
  refine E_aload_n dX3_takeLatest_30 rfl rfl ?_
  refine E_getA h dX3_takeLatest_31 cf3 lk_X3_9 (by decide) (fun _ _ _ => rfl) (fun e7 h => ?_)
  refine E_aload_n dX3_takeLatest_34 rfl rfl ?_
  refine E_getI h dX3_takeLatest_35 cf3 lk_X3_25 (by decide) (fun _ _ _ => rfl) (fun h => ?_)
  refine E_oI h (fun v8 h => ?_)
  refine E_bipush (v := 29) dX3_takeLatest_38 (by decide) ?_
  refine E_imul dX3_takeLatest_40 ?_
  refine E_aload_n dX3_takeLatest_41 rfl rfl ?_
  refine E_getA h dX3_takeLatest_42 cf1 lk_X3_22 (by decide) (fun _ _ _ => rfl) (fun e9 h => ?_)
  refine E_iconst (v := 0) dX3_takeLatest_45 (by decide) ?_
  refine E_bipush (v := 29) dX3_takeLatest_46 (by decide) ?_
  refine E_copy h dX3_takeLatest_48 ln_X3_28 ac_2 ac_3 ac_4 (Nat.le_of_ble_eq_true rfl) (Nat.le_of_ble_eq_true rfl) (fun h => ?_)
  refine E_oU h (fun u10 h => ?_)
  refine E_aload_n dX3_takeLatest_51 rfl rfl ?_
  refine E_getA h dX3_takeLatest_52 cf3 lk_X3_15 (by decide) (fun _ _ _ => rfl) (fun e11 h => ?_)
  refine E_aload_n dX3_takeLatest_55 rfl rfl ?_
  refine E_getI h dX3_takeLatest_56 cf3 lk_X3_25 (by decide) (fun _ _ _ => rfl) (fun h => ?_)
  refine E_oI h (fun v12 h => ?_)
  refine E_iald h dX3_takeLatest_59 (fun h => ?_)
  refine E_oI h (fun v13 h => ?_)
  exact E_iret h dX3_takeLatest_60 rfl
def fX3_copyFrom (u : Mm) (a0 : Nat) (a1 : Nat) : Option (Unit × Mm) := oK u a1 3 4 (oNn (mR u a1 0) (fun e1 => oK u a0 3 4 (oNn (mR u a0 0) (fun e2 => oK u a0 3 4 (oNn (mR u a0 0) (fun e3 => oL u e3 (oC u e1 e2 0 0 (Int32.ofNat (mK u e3).2) (oU (wI u e2 (va_cpy (mI u e1) (mI u e2) (Int32.toNatClampNeg 0) (Int32.toNatClampNeg 0) (Int32.toNatClampNeg (Int32.ofNat (mK u e3).2)))) (fun u4 => oK u4 a1 3 4 (oNn (mR u4 a1 1) (fun e5 => oK u4 a0 3 4 (oNn (mR u4 a0 1) (fun e6 => oC u4 e5 e6 0 0 16 (oU (wI u4 e6 (va_cpy (mI u4 e5) (mI u4 e6) (Int32.toNatClampNeg 0) (Int32.toNatClampNeg 0) (Int32.toNatClampNeg 16))) (fun u7 => oK u7 a1 3 4 (oI (mI u7 a1 2) (fun v8 => oK u7 a0 3 4 (oU (wI u7 a0 (upd (mI u7 a0) 2 v8)) (fun u9 => oK u9 a1 3 4 (oI (mI u9 a1 3) (fun v10 => oK u9 a0 3 4 (oU (wI u9 a0 (upd (mI u9 a0) 3 v10)) (fun u11 => some ((), u11))))))))))))))))))))))))
set_option maxRecDepth 100000 in
set_option maxHeartbeats 4000000 in
theorem tX3_copyFrom {u : Mm} {a0 : Nat} {a1 : Nat} {r : Unit} {u' : Mm} (h : fX3_copyFrom u a0 a1 = some (r, u')) : Ev 1 MX3_copyFrom 0 0 [.ref a0, .ref a1] u (none, u') := by
  refine Ev.of (by decide +kernel) (Nat.le_of_ble_eq_true rfl) (show Eg MX3_copyFrom 1 0 0 (none, u') 0 [(0, .ref a0), (1, .ref a1)] [] u from ?_)
  unfold fX3_copyFrom at h
  refine E_aload_n dX3_copyFrom_0 rfl rfl ?_
  refine E_getA h dX3_copyFrom_1 cf3 lk_X3_9 (by decide) (fun _ _ _ => rfl) (fun e1 h => ?_)
  refine E_iconst (v := 0) dX3_copyFrom_4 (by decide) ?_
  refine E_aload_n dX3_copyFrom_5 rfl rfl ?_
  refine E_getA h dX3_copyFrom_6 cf3 lk_X3_9 (by decide) (fun _ _ _ => rfl) (fun e2 h => ?_)
  refine E_iconst (v := 0) dX3_copyFrom_9 (by decide) ?_
  refine E_aload_n dX3_copyFrom_10 rfl rfl ?_
  refine E_getA h dX3_copyFrom_11 cf3 lk_X3_9 (by decide) (fun _ _ _ => rfl) (fun e3 h => ?_)
  refine E_alen h dX3_copyFrom_14 (fun h => ?_)
  refine E_copy h dX3_copyFrom_15 ln_X3_28 ac_2 ac_3 ac_4 (Nat.le_of_ble_eq_true rfl) (Nat.le_of_ble_eq_true rfl) (fun h => ?_)
  refine E_oU h (fun u4 h => ?_)
  refine E_aload_n dX3_copyFrom_18 rfl rfl ?_
  refine E_getA h dX3_copyFrom_19 cf3 lk_X3_15 (by decide) (fun _ _ _ => rfl) (fun e5 h => ?_)
  refine E_iconst (v := 0) dX3_copyFrom_22 (by decide) ?_
  refine E_aload_n dX3_copyFrom_23 rfl rfl ?_
  refine E_getA h dX3_copyFrom_24 cf3 lk_X3_15 (by decide) (fun _ _ _ => rfl) (fun e6 h => ?_)
  refine E_iconst (v := 0) dX3_copyFrom_27 (by decide) ?_
  refine E_bipush (v := 16) dX3_copyFrom_28 (by decide) ?_
  refine E_copy h dX3_copyFrom_30 ln_X3_28 ac_2 ac_3 ac_4 (Nat.le_of_ble_eq_true rfl) (Nat.le_of_ble_eq_true rfl) (fun h => ?_)
  refine E_oU h (fun u7 h => ?_)
  refine E_aload_n dX3_copyFrom_33 rfl rfl ?_
  refine E_aload_n dX3_copyFrom_34 rfl rfl ?_
  refine E_getI h dX3_copyFrom_35 cf3 lk_X3_25 (by decide) (fun _ _ _ => rfl) (fun h => ?_)
  refine E_oI h (fun v8 h => ?_)
  refine E_putI h dX3_copyFrom_38 cf3 lk_X3_25 (by decide) (Or.inl rfl) rfl (fun h => ?_)
  refine E_oU h (fun u9 h => ?_)
  refine E_aload_n dX3_copyFrom_41 rfl rfl ?_
  refine E_aload_n dX3_copyFrom_42 rfl rfl ?_
  refine E_getI h dX3_copyFrom_43 cf3 lk_X3_18 (by decide) (fun _ _ _ => rfl) (fun h => ?_)
  refine E_oI h (fun v10 h => ?_)
  refine E_putI h dX3_copyFrom_46 cf3 lk_X3_18 (by decide) (Or.inl rfl) rfl (fun h => ?_)
  refine E_oU h (fun u11 h => ?_)
  exact E_vret h dX3_copyFrom_49 rfl
def fX6_init (u : Mm) (a0 : Nat) : Option (Unit × Mm) := oN 401 401 (oP (mN u) (fun e1 => oU (wN u 10 (Int32.toNatClampNeg 401)) (fun u2 => oK u2 a0 6 7 (oU (wR u2 a0 (va_up (mR u2 a0) 0 (some e1))) (fun u3 => oN 401 401 (oP (mN u3) (fun e4 => oU (wN u3 10 (Int32.toNatClampNeg 401)) (fun u5 => oK u5 a0 6 7 (oU (wR u5 a0 (va_up (mR u5 a0) 1 (some e4))) (fun u6 => oN 12 12 (oP (mN u6) (fun e7 => oU (wN u6 10 (Int32.toNatClampNeg 12)) (fun u8 => oK u8 a0 6 7 (oU (wR u8 a0 (va_up (mR u8 a0) 3 (some e7))) (fun u9 => oN 12 12 (oP (mN u9) (fun e10 => oU (wN u9 10 (Int32.toNatClampNeg 12)) (fun u11 => oK u11 a0 6 7 (oU (wR u11 a0 (va_up (mR u11 a0) 4 (some e10))) (fun u12 => oN 48 48 (oP (mN u12) (fun e13 => oU (wN u12 10 (Int32.toNatClampNeg 48)) (fun u14 => oK u14 a0 6 7 (oU (wR u14 a0 (va_up (mR u14 a0) 5 (some e13))) (fun u15 => some ((), u15))))))))))))))))))))))))))
set_option maxRecDepth 100000 in
set_option maxHeartbeats 4000000 in
theorem tX6_init {u : Mm} {a0 : Nat} {r : Unit} {u' : Mm} (h : fX6_init u a0 = some (r, u')) : Ev 1 MX6_init 5 874 [.ref a0] u (none, u') := by
  refine Ev.of (by decide +kernel) (Nat.le_of_ble_eq_true rfl) (show Eg MX6_init 1 5 874 (none, u') 0 [(0, .ref a0)] [] u from ?_)
  unfold fX6_init at h
  refine E_aload_n dX6_init_0 rfl rfl ?_
  refine E_objInit dX6_init_1 ln_X6_3 oi_2 oi_3 (Nat.le_of_ble_eq_true rfl) (Nat.le_of_ble_eq_true rfl) ?_
  refine E_aload_n dX6_init_4 rfl rfl ?_
  refine E_sipush (v := 401) dX6_init_5 (by decide) ?_
  refine E_newI h dX6_init_8 aw_int (by decide) (kc' := 4) (ks' := 473) rfl rfl (fun h => ?_)
  refine E_oP h (fun e1 h => ?_)
  refine E_oU h (fun u2 h => ?_)
  refine E_putR h dX6_init_10 cf6 lk_X6_9 (by decide) (Or.inr ⟨rfl, rfl, rfl, lkm_X6_9⟩) (Or.inr ⟨_, rfl⟩) (fun h => ?_)
  refine E_oU h (fun u3 h => ?_)
  refine E_aload_n dX6_init_13 rfl rfl ?_
  refine E_sipush (v := 401) dX6_init_14 (by decide) ?_
  refine E_newI h dX6_init_17 aw_int (by decide) (kc' := 3) (ks' := 72) rfl rfl (fun h => ?_)
  refine E_oP h (fun e4 h => ?_)
  refine E_oU h (fun u5 h => ?_)
  refine E_putR h dX6_init_19 cf6 lk_X6_15 (by decide) (Or.inr ⟨rfl, rfl, rfl, lkm_X6_15⟩) (Or.inr ⟨_, rfl⟩) (fun h => ?_)
  refine E_oU h (fun u6 h => ?_)
  refine E_aload_n dX6_init_22 rfl rfl ?_
  refine E_bipush (v := 12) dX6_init_23 (by decide) ?_
  refine E_newI h dX6_init_25 aw_int (by decide) (kc' := 2) (ks' := 60) rfl rfl (fun h => ?_)
  refine E_oP h (fun e7 h => ?_)
  refine E_oU h (fun u8 h => ?_)
  refine E_putR h dX6_init_27 cf6 lk_X6_18 (by decide) (Or.inr ⟨rfl, rfl, rfl, lkm_X6_18⟩) (Or.inr ⟨_, rfl⟩) (fun h => ?_)
  refine E_oU h (fun u9 h => ?_)
  refine E_aload_n dX6_init_30 rfl rfl ?_
  refine E_bipush (v := 12) dX6_init_31 (by decide) ?_
  refine E_newI h dX6_init_33 aw_int (by decide) (kc' := 1) (ks' := 48) rfl rfl (fun h => ?_)
  refine E_oP h (fun e10 h => ?_)
  refine E_oU h (fun u11 h => ?_)
  refine E_putR h dX6_init_35 cf6 lk_X6_21 (by decide) (Or.inr ⟨rfl, rfl, rfl, lkm_X6_21⟩) (Or.inr ⟨_, rfl⟩) (fun h => ?_)
  refine E_oU h (fun u12 h => ?_)
  refine E_aload_n dX6_init_38 rfl rfl ?_
  refine E_bipush (v := 48) dX6_init_39 (by decide) ?_
  refine E_newI h dX6_init_41 aw_int (by decide) (kc' := 0) (ks' := 0) rfl rfl (fun h => ?_)
  refine E_oP h (fun e13 h => ?_)
  refine E_oU h (fun u14 h => ?_)
  refine E_putR h dX6_init_43 cf6 lk_X6_24 (by decide) (Or.inr ⟨rfl, rfl, rfl, lkm_X6_24⟩) (Or.inr ⟨_, rfl⟩) (fun h => ?_)
  refine E_oU h (fun u15 h => ?_)
  exact E_vret h dX6_init_46 rfl
def fX4_init (u : Mm) (a0 : Nat) : Option (Unit × Mm) := oN 401 401 (oP (mN u) (fun e1 => oU (wN u 10 (Int32.toNatClampNeg 401)) (fun u2 => oK u2 a0 4 8 (oU (wR u2 a0 (va_up (mR u2 a0) 0 (some e1))) (fun u3 => oN 401 401 (oP (mN u3) (fun e4 => oU (wN u3 10 (Int32.toNatClampNeg 401)) (fun u5 => oK u5 a0 4 8 (oU (wR u5 a0 (va_up (mR u5 a0) 1 (some e4))) (fun u6 => oN 401 401 (oP (mN u6) (fun e7 => oU (wN u6 10 (Int32.toNatClampNeg 401)) (fun u8 => oK u8 a0 4 8 (oU (wR u8 a0 (va_up (mR u8 a0) 2 (some e7))) (fun u9 => oP (mN u9) (fun e10 => oU (wN u9 6 7) (fun u11 => oB (fX6_init u11 e10) (fun _ u12 => oK u12 a0 4 8 (oU (wR u12 a0 (va_up (mR u12 a0) 7 (some e10))) (fun u13 => some ((), u13)))))))))))))))))))))
set_option maxRecDepth 100000 in
set_option maxHeartbeats 4000000 in
theorem tX4_init {u : Mm} {a0 : Nat} {r : Unit} {u' : Mm} (h : fX4_init u a0 = some (r, u')) : Ev 2 MX4_init 9 2084 [.ref a0] u (none, u') := by
  refine Ev.of (by decide +kernel) (Nat.le_of_ble_eq_true rfl) (show Eg MX4_init 2 9 2084 (none, u') 0 [(0, .ref a0)] [] u from ?_)
  unfold fX4_init at h
  refine E_aload_n dX4_init_0 rfl rfl ?_
  refine E_objInit dX4_init_1 ln_X4_3 oi_2 oi_3 (Nat.le_of_ble_eq_true rfl) (Nat.le_of_ble_eq_true rfl) ?_
  refine E_aload_n dX4_init_4 rfl rfl ?_
  refine E_sipush (v := 401) dX4_init_5 (by decide) ?_
  refine E_newI h dX4_init_8 aw_int (by decide) (kc' := 8) (ks' := 1683) rfl rfl (fun h => ?_)
  refine E_oP h (fun e1 h => ?_)
  refine E_oU h (fun u2 h => ?_)
  refine E_putR h dX4_init_10 cf4 lk_X4_9 (by decide) (Or.inr ⟨rfl, rfl, rfl, lkm_X4_9⟩) (Or.inr ⟨_, rfl⟩) (fun h => ?_)
  refine E_oU h (fun u3 h => ?_)
  refine E_aload_n dX4_init_13 rfl rfl ?_
  refine E_sipush (v := 401) dX4_init_14 (by decide) ?_
  refine E_newI h dX4_init_17 aw_int (by decide) (kc' := 7) (ks' := 1282) rfl rfl (fun h => ?_)
  refine E_oP h (fun e4 h => ?_)
  refine E_oU h (fun u5 h => ?_)
  refine E_putR h dX4_init_19 cf4 lk_X4_15 (by decide) (Or.inr ⟨rfl, rfl, rfl, lkm_X4_15⟩) (Or.inr ⟨_, rfl⟩) (fun h => ?_)
  refine E_oU h (fun u6 h => ?_)
  refine E_aload_n dX4_init_22 rfl rfl ?_
  refine E_sipush (v := 401) dX4_init_23 (by decide) ?_
  refine E_newI h dX4_init_26 aw_int (by decide) (kc' := 6) (ks' := 881) rfl rfl (fun h => ?_)
  refine E_oP h (fun e7 h => ?_)
  refine E_oU h (fun u8 h => ?_)
  refine E_putR h dX4_init_28 cf4 lk_X4_18 (by decide) (Or.inr ⟨rfl, rfl, rfl, lkm_X4_18⟩) (Or.inr ⟨_, rfl⟩) (fun h => ?_)
  refine E_oU h (fun u9 h => ?_)
  refine E_aload_n dX4_init_31 rfl rfl ?_
  refine E_new dX4_init_32 cf6 cl_X4_21 in_X6 ini_X6 nf_X6 (kc' := 5) (ks' := 874) rfl rfl ?_
  refine E_oP h (fun e10 h => ?_)
  refine E_oU h (fun u11 h => ?_)
  refine E_dup dX4_init_35 rfl ?_
  refine F_Iv h (fun m e => tX6_init e) rfl dX4_init_36 hm_X6_init rfl hi_X6_init ln_X4_23 rfl rfl (Nat.le_of_ble_eq_true rfl) (Nat.le_of_ble_eq_true rfl) (kc' := 0) (ks' := 0) rfl rfl (fun u12 h => ?_)
  refine E_putR h dX4_init_39 cf4 lk_X4_24 (by decide) (Or.inr ⟨rfl, rfl, rfl, lkm_X4_24⟩) (Or.inl ⟨_, rfl⟩) (fun h => ?_)
  refine E_oU h (fun u13 h => ?_)
  exact E_vret h dX4_init_42 rfl
def fX6_clear (u : Mm) (a0 : Nat) : Option (Unit × Mm) := oK u a0 6 7 (oU (wI u a0 (upd (mI u a0) 2 0)) (fun u1 => oK u1 a0 6 7 (oU (wI u1 a0 (upd (mI u1 a0) 6 0)) (fun u2 => some ((), u2)))))
set_option maxRecDepth 100000 in
set_option maxHeartbeats 4000000 in
theorem tX6_clear {u : Mm} {a0 : Nat} {r : Unit} {u' : Mm} (h : fX6_clear u a0 = some (r, u')) : Ev 0 MX6_clear 0 0 [.ref a0] u (none, u') := by
  refine Ev.of (by decide +kernel) (Nat.le_of_ble_eq_true rfl) (show Eg MX6_clear 0 0 0 (none, u') 0 [(0, .ref a0)] [] u from ?_)
  unfold fX6_clear at h
  refine E_aload_n dX6_clear_0 rfl rfl ?_
  refine E_iconst (v := 0) dX6_clear_1 (by decide) ?_
  refine E_putI h dX6_clear_2 cf6 lk_X6_27 (by decide) (Or.inl rfl) rfl (fun h => ?_)
  refine E_oU h (fun u1 h => ?_)
  refine E_aload_n dX6_clear_5 rfl rfl ?_
  refine E_iconst (v := 0) dX6_clear_6 (by decide) ?_
  refine E_putI h dX6_clear_7 cf6 lk_X6_37 (by decide) (Or.inl rfl) rfl (fun h => ?_)
  refine E_oU h (fun u2 h => ?_)
  exact E_vret h dX6_clear_10 rfl
def bX4_sortOf_31 (u : Mm) (s0 : Int32) : Option (Int32 × Mm) := some (s0, u)
set_option maxRecDepth 100000 in
set_option maxHeartbeats 4000000 in
theorem pX4_sortOf_31 {r : Int32} {u' : Mm} (u : Mm) (s0 : Int32) (h : bX4_sortOf_31 u s0 = some (r, u')) : Eg MX4_sortOf 0 0 0 (some (.int r), u') 31 [] [.int s0] u := by
  unfold bX4_sortOf_31 at h
  exact E_iret h dX4_sortOf_31 rfl
def bX4_sortOf_14 (u : Mm) (x0 : Int32) : Option (Int32 × Mm) := (if (x0 : Int32) < 48 then bX4_sortOf_31 u 0 else (if (57 : Int32) < x0 then bX4_sortOf_31 u 0 else bX4_sortOf_31 u 2))
set_option maxRecDepth 100000 in
set_option maxHeartbeats 4000000 in
theorem pX4_sortOf_14 {r : Int32} {u' : Mm} (u : Mm) (x0 : Int32) (h : bX4_sortOf_14 u x0 = some (r, u')) : Eg MX4_sortOf 0 0 0 (some (.int r), u') 14 [(0, .int x0)] [] u := by
  unfold bX4_sortOf_14 at h
  refine E_iload_n dX4_sortOf_14 rfl rfl ?_
  refine E_bipush (v := 48) dX4_sortOf_15 (by decide) ?_
  refine E_ic_lt (tgt := 30) h dX4_sortOf_17 (by decide) (fun h => ?_) (fun h => ?_)
  · refine E_iconst (v := 0) dX4_sortOf_30 (by decide) ?_
    refine Eg.pick [] rfl ?_
    exact pX4_sortOf_31 _ _ h
  · refine E_iload_n dX4_sortOf_20 rfl rfl ?_
    refine E_bipush (v := 57) dX4_sortOf_21 (by decide) ?_
    refine E_ic_gt (tgt := 30) h dX4_sortOf_23 (by decide) (fun h => ?_) (fun h => ?_)
    · refine E_iconst (v := 0) dX4_sortOf_30 (by decide) ?_
      refine Eg.pick [] rfl ?_
      exact pX4_sortOf_31 _ _ h
    · refine E_iconst (v := 2) dX4_sortOf_26 (by decide) ?_
      refine E_goto (tgt := 31) dX4_sortOf_27 (by decide) ?_
      refine Eg.pick [] rfl ?_
      exact pX4_sortOf_31 _ _ h
def fX4_sortOf (u : Mm) (x0 : Int32) : Option (Int32 × Mm) := (if (x0 : Int32) < 97 then bX4_sortOf_14 u x0 else (if (122 : Int32) < x0 then bX4_sortOf_14 u x0 else some (1, u)))
set_option maxRecDepth 100000 in
set_option maxHeartbeats 4000000 in
theorem tX4_sortOf {u : Mm} {x0 : Int32} {r : Int32} {u' : Mm} (h : fX4_sortOf u x0 = some (r, u')) : Ev 0 MX4_sortOf 0 0 [.int x0] u (some (.int r), u') := by
  refine Ev.of (by decide +kernel) (Nat.le_of_ble_eq_true rfl) (show Eg MX4_sortOf 0 0 0 (some (.int r), u') 0 [(0, .int x0)] [] u from ?_)
  unfold fX4_sortOf at h
  refine E_iload_n dX4_sortOf_0 rfl rfl ?_
  refine E_bipush (v := 97) dX4_sortOf_1 (by decide) ?_
  refine E_ic_lt (tgt := 14) h dX4_sortOf_3 (by decide) (fun h => ?_) (fun h => ?_)
  · refine Eg.pick [0] rfl ?_
    exact pX4_sortOf_14 _ _ h
  · refine E_iload_n dX4_sortOf_6 rfl rfl ?_
    refine E_bipush (v := 122) dX4_sortOf_7 (by decide) ?_
    refine E_ic_gt (tgt := 14) h dX4_sortOf_9 (by decide) (fun h => ?_) (fun h => ?_)
    · refine Eg.pick [0] rfl ?_
      exact pX4_sortOf_14 _ _ h
    · refine E_iconst (v := 1) dX4_sortOf_12 (by decide) ?_
      exact E_iret h dX4_sortOf_13 rfl
def fX4_addToken (u : Mm) (a0 : Nat) (x1 : Int32) (x2 : Int32) (x3 : Int32) : Option (Unit × Mm) := oK u a0 4 8 (oI (mI u a0 3) (fun v1 => oK u a0 4 8 (oNn (mR u a0 0) (fun e2 => oL u e2 ((if (Int32.ofNat (mK u e2).2 : Int32) ≤ v1 then some ((), u) else oK u a0 4 8 (oNn (mR u a0 0) (fun e3 => oK u a0 4 8 (oI (mI u a0 3) (fun v4 => oA u e3 10 v4 (oU (wI u e3 (upd (mI u e3) (Int32.toNatClampNeg v4) x1)) (fun u5 => oK u5 a0 4 8 (oNn (mR u5 a0 1) (fun e6 => oK u5 a0 4 8 (oI (mI u5 a0 3) (fun v7 => oA u5 e6 10 v7 (oU (wI u5 e6 (upd (mI u5 e6) (Int32.toNatClampNeg v7) x2)) (fun u8 => oK u8 a0 4 8 (oNn (mR u8 a0 2) (fun e9 => oK u8 a0 4 8 (oI (mI u8 a0 3) (fun v10 => oA u8 e9 10 v10 (oU (wI u8 e9 (upd (mI u8 e9) (Int32.toNatClampNeg v10) x3)) (fun u11 => oK u11 a0 4 8 (oI (mI u11 a0 3) (fun v12 => oK u11 a0 4 8 (oU (wI u11 a0 (upd (mI u11 a0) 3 (v12 + 1))) (fun u13 => some ((), u13)))))))))))))))))))))))))))))
set_option maxRecDepth 100000 in
set_option maxHeartbeats 4000000 in
theorem tX4_addToken {u : Mm} {a0 : Nat} {x1 : Int32} {x2 : Int32} {x3 : Int32} {r : Unit} {u' : Mm} (h : fX4_addToken u a0 x1 x2 x3 = some (r, u')) : Ev 0 MX4_addToken 0 0 [.ref a0, .int x1, .int x2, .int x3] u (none, u') := by
  refine Ev.of (by decide +kernel) (Nat.le_of_ble_eq_true rfl) (show Eg MX4_addToken 0 0 0 (none, u') 0 [(0, .ref a0), (1, .int x1), (2, .int x2), (3, .int x3)] [] u from ?_)
  unfold fX4_addToken at h
  refine E_aload_n dX4_addToken_0 rfl rfl ?_
  refine E_getI h dX4_addToken_1 cf4 lk_X4_32 (by decide) (fun _ _ _ => rfl) (fun h => ?_)
  refine E_oI h (fun v1 h => ?_)
  refine E_aload_n dX4_addToken_4 rfl rfl ?_
  refine E_getA h dX4_addToken_5 cf4 lk_X4_9 (by decide) (fun _ _ _ => rfl) (fun e2 h => ?_)
  refine E_alen h dX4_addToken_8 (fun h => ?_)
  refine E_ic_ge (tgt := 52) h dX4_addToken_9 (by decide) (fun h => ?_) (fun h => ?_)
  · exact E_vret h dX4_addToken_52 rfl
  · refine E_aload_n dX4_addToken_12 rfl rfl ?_
    refine E_getA h dX4_addToken_13 cf4 lk_X4_9 (by decide) (fun _ _ _ => rfl) (fun e3 h => ?_)
    refine E_aload_n dX4_addToken_16 rfl rfl ?_
    refine E_getI h dX4_addToken_17 cf4 lk_X4_32 (by decide) (fun _ _ _ => rfl) (fun h => ?_)
    refine E_oI h (fun v4 h => ?_)
    refine E_iload_n dX4_addToken_20 rfl rfl ?_
    refine E_iast h dX4_addToken_21 (fun h => ?_)
    refine E_oU h (fun u5 h => ?_)
    refine E_aload_n dX4_addToken_22 rfl rfl ?_
    refine E_getA h dX4_addToken_23 cf4 lk_X4_15 (by decide) (fun _ _ _ => rfl) (fun e6 h => ?_)
    refine E_aload_n dX4_addToken_26 rfl rfl ?_
    refine E_getI h dX4_addToken_27 cf4 lk_X4_32 (by decide) (fun _ _ _ => rfl) (fun h => ?_)
    refine E_oI h (fun v7 h => ?_)
    refine E_iload_n dX4_addToken_30 rfl rfl ?_
    refine E_iast h dX4_addToken_31 (fun h => ?_)
    refine E_oU h (fun u8 h => ?_)
    refine E_aload_n dX4_addToken_32 rfl rfl ?_
    refine E_getA h dX4_addToken_33 cf4 lk_X4_18 (by decide) (fun _ _ _ => rfl) (fun e9 h => ?_)
    refine E_aload_n dX4_addToken_36 rfl rfl ?_
    refine E_getI h dX4_addToken_37 cf4 lk_X4_32 (by decide) (fun _ _ _ => rfl) (fun h => ?_)
    refine E_oI h (fun v10 h => ?_)
    refine E_iload_n dX4_addToken_40 rfl rfl ?_
    refine E_iast h dX4_addToken_41 (fun h => ?_)
    refine E_oU h (fun u11 h => ?_)
    refine E_aload_n dX4_addToken_42 rfl rfl ?_
    refine E_dup dX4_addToken_43 rfl ?_
    refine E_getI h dX4_addToken_44 cf4 lk_X4_32 (by decide) (fun _ _ _ => rfl) (fun h => ?_)
    refine E_oI h (fun v12 h => ?_)
    refine E_iconst (v := 1) dX4_addToken_47 (by decide) ?_
    refine E_iadd dX4_addToken_48 ?_
    refine E_putI h dX4_addToken_49 cf4 lk_X4_32 (by decide) (Or.inl rfl) rfl (fun h => ?_)
    refine E_oU h (fun u13 h => ?_)
    exact E_vret h dX4_addToken_52 rfl
def bX4_numberAt_5 (k5 : Mm → Nat → Int32 → Int32 → Int32 → Option (Int32 × Mm)) (u : Mm) (a0 : Nat) (x2 : Int32) (x3 : Int32) (x4 : Int32) : Option (Int32 × Mm) := (if (x2 : Int32) ≤ x4 then some (x3, u) else oA u a0 10 x4 (oI (mI u a0 (Int32.toNatClampNeg x4)) (fun v1 => oB (fJ9_min_7cf53 u (((x3 * 10) + v1) - 48) 1001) (fun v2 u3 => k5 u3 a0 x2 v2 (x4 + 1)))))
set_option maxRecDepth 100000 in
set_option maxHeartbeats 4000000 in
theorem pX4_numberAt_5 {r : Int32} {u' : Mm} {k5 : Mm → Nat → Int32 → Int32 → Int32 → Option (Int32 × Mm)} (hk5 : ∀ (u : Mm) (a0 : Nat) (x2 : Int32) (x3 : Int32) (x4 : Int32), k5 u a0 x2 x3 x4 = some (r, u') → Eg MX4_numberAt 1 0 0 (some (.int r), u') 5 [(0, .ref a0), (2, .int x2), (3, .int x3), (4, .int x4)] [] u) (u : Mm) (a0 : Nat) (x2 : Int32) (x3 : Int32) (x4 : Int32) (h : bX4_numberAt_5 k5 u a0 x2 x3 x4 = some (r, u')) : Eg MX4_numberAt 1 0 0 (some (.int r), u') 5 [(0, .ref a0), (2, .int x2), (3, .int x3), (4, .int x4)] [] u := by
  unfold bX4_numberAt_5 at h
  refine E_iload dX4_numberAt_5 rfl ?_
  refine E_iload_n dX4_numberAt_7 rfl rfl ?_
  refine E_ic_ge (tgt := 36) h dX4_numberAt_8 (by decide) (fun h => ?_) (fun h => ?_)
  · refine E_iload_n dX4_numberAt_36 rfl rfl ?_
    exact E_iret h dX4_numberAt_37 rfl
  · refine E_iload_n dX4_numberAt_11 rfl rfl ?_
    refine E_bipush (v := 10) dX4_numberAt_12 (by decide) ?_
    refine E_imul dX4_numberAt_14 ?_
    refine E_aload_n dX4_numberAt_15 rfl rfl ?_
    refine E_iload dX4_numberAt_16 rfl ?_
    refine E_iald h dX4_numberAt_18 (fun h => ?_)
    refine E_oI h (fun v1 h => ?_)
    refine E_iadd dX4_numberAt_19 ?_
    refine E_bipush (v := 48) dX4_numberAt_20 (by decide) ?_
    refine E_isub dX4_numberAt_22 ?_
    refine E_sipush (v := 1001) dX4_numberAt_23 (by decide) ?_
    refine F_Si h (fun a m e => tJ9_min_7cf53 e) dX4_numberAt_26 hm_J9_min_7cf53 hs_J9_min_7cf53 ln_X4_84 rfl rfl (Nat.le_of_ble_eq_true rfl) (Nat.le_of_ble_eq_true rfl) (kc' := 0) (ks' := 0) rfl rfl (fun v2 u3 h => ?_)
    refine E_istore_n (l' := [(3, .int v2), (0, .ref a0), (2, .int x2), (4, .int x4)]) dX4_numberAt_29 rfl (Nat.le_of_ble_eq_true rfl) rfl ?_
    refine E_iinc (j := 3) (v := x4 + 1) (l' := [(4, .int (x4 + 1)), (3, .int v2), (0, .ref a0), (2, .int x2)]) dX4_numberAt_30 rfl (addI (by decide)) (Nat.le_of_ble_eq_true rfl) rfl ?_
    refine E_goto (tgt := 5) dX4_numberAt_33 (by decide) ?_
    refine Eg.pick [2, 3, 1, 0] rfl ?_
    exact hk5 _ _ _ _ _ h
def rX4_numberAt_5 : Nat → Mm → Nat → Int32 → Int32 → Int32 → Option (Int32 × Mm)
  | 0, _, _, _, _, _ => none
  | n + 1, u, a0, x2, x3, x4 => bX4_numberAt_5 (rX4_numberAt_5 n) u a0 x2 x3 x4
theorem prX4_numberAt_5 {r : Int32} {u' : Mm} : ∀ (n : Nat) (u : Mm) (a0 : Nat) (x2 : Int32) (x3 : Int32) (x4 : Int32), rX4_numberAt_5 n u a0 x2 x3 x4 = some (r, u') → Eg MX4_numberAt 1 0 0 (some (.int r), u') 5 [(0, .ref a0), (2, .int x2), (3, .int x3), (4, .int x4)] [] u
  | 0, _, _, _, _, _, h => by cases h
  | n + 1, u, a0, x2, x3, x4, h => pX4_numberAt_5 (prX4_numberAt_5 n) u a0 x2 x3 x4 h
def fX4_numberAt (u : Mm) (a0 : Nat) (x1 : Int32) (x2 : Int32) : Option (Int32 × Mm) := rX4_numberAt_5 hwF u a0 x2 0 x1
set_option maxRecDepth 100000 in
set_option maxHeartbeats 4000000 in
theorem tX4_numberAt {u : Mm} {a0 : Nat} {x1 : Int32} {x2 : Int32} {r : Int32} {u' : Mm} (h : fX4_numberAt u a0 x1 x2 = some (r, u')) : Ev 1 MX4_numberAt 0 0 [.ref a0, .int x1, .int x2] u (some (.int r), u') := by
  refine Ev.of (by decide +kernel) (Nat.le_of_ble_eq_true rfl) (show Eg MX4_numberAt 1 0 0 (some (.int r), u') 0 [(0, .ref a0), (1, .int x1), (2, .int x2)] [] u from ?_)
  unfold fX4_numberAt at h
  refine E_iconst (v := 0) dX4_numberAt_0 (by decide) ?_
  refine E_istore_n (l' := [(3, .int 0), (0, .ref a0), (1, .int x1), (2, .int x2)]) dX4_numberAt_1 rfl (Nat.le_of_ble_eq_true rfl) rfl ?_
  refine E_iload_n dX4_numberAt_2 rfl rfl ?_
  refine E_istore (l' := [(4, .int x1), (3, .int 0), (0, .ref a0), (1, .int x1), (2, .int x2)]) dX4_numberAt_3 (Nat.le_of_ble_eq_true rfl) rfl ?_
  refine Eg.pick [2, 4, 1, 0] rfl ?_
  exact prX4_numberAt_5 _ _ _ _ _ _ h
