/-! ===== methods as functions, with their contracts (printed by program) ===== -/
def bX6_beginClause_31 (k31 : Mm → Nat → Int32 → Option (Unit × Mm)) (u : Mm) (a0 : Nat) (x2 : Int32) : Option (Unit × Mm) := (if (4 : Int32) ≤ x2 then oK u a0 6 7 (oI (mI u a0 6) (fun v8 => oK u a0 6 7 (oU (wI u a0 (upd (mI u a0) 6 (v8 + 1))) (fun u9 => some ((), u9))))) else oK u a0 6 7 (oNn (mR u a0 5) (fun e10 => oK u a0 6 7 (oI (mI u a0 6) (fun v11 => oA u e10 10 ((v11 * 4) + x2) (oU (wI u e10 (upd (mI u e10) (Int32.toNatClampNeg ((v11 * 4) + x2)) ((-1)))) (fun u12 => k31 u12 a0 (x2 + 1))))))))
set_option maxRecDepth 100000 in
set_option maxHeartbeats 4000000 in
theorem pX6_beginClause_31 {r : Unit} {u' : Mm} {k31 : Mm → Nat → Int32 → Option (Unit × Mm)} (hk31 : ∀ (u : Mm) (a0 : Nat) (x2 : Int32), k31 u a0 x2 = some (r, u') → Eg MX6_beginClause 0 0 0 (none, u') 31 [(0, .ref a0), (2, .int x2)] [] u) (u : Mm) (a0 : Nat) (x2 : Int32) (h : bX6_beginClause_31 k31 u a0 x2 = some (r, u')) : Eg MX6_beginClause 0 0 0 (none, u') 31 [(0, .ref a0), (2, .int x2)] [] u := by
  unfold bX6_beginClause_31 at h
  refine E_iload_n dX6_beginClause_31 rfl rfl ?_
  refine E_iconst (v := 4) dX6_beginClause_32 (by decide) ?_
  refine E_ic_ge (tgt := 56) h dX6_beginClause_33 (by decide) (fun h => ?_) (fun h => ?_)
  · refine E_aload_n dX6_beginClause_56 rfl rfl ?_
    refine E_dup dX6_beginClause_57 rfl ?_
    refine E_getI h dX6_beginClause_58 cf6 lk_X6_37 (by decide) (fun _ _ _ => rfl) (fun h => ?_)
    refine E_oI h (fun v8 h => ?_)
    refine E_iconst (v := 1) dX6_beginClause_61 (by decide) ?_
    refine E_iadd dX6_beginClause_62 ?_
    refine E_putI h dX6_beginClause_63 cf6 lk_X6_37 (by decide) (Or.inl rfl) rfl (fun h => ?_)
    refine E_oU h (fun u9 h => ?_)
    exact E_vret h dX6_beginClause_66 rfl
  · refine E_aload_n dX6_beginClause_36 rfl rfl ?_
    refine E_getA h dX6_beginClause_37 cf6 lk_X6_24 (by decide) (fun _ _ _ => rfl) (fun e10 h => ?_)
    refine E_aload_n dX6_beginClause_40 rfl rfl ?_
    refine E_getI h dX6_beginClause_41 cf6 lk_X6_37 (by decide) (fun _ _ _ => rfl) (fun h => ?_)
    refine E_oI h (fun v11 h => ?_)
    refine E_iconst (v := 4) dX6_beginClause_44 (by decide) ?_
    refine E_imul dX6_beginClause_45 ?_
    refine E_iload_n dX6_beginClause_46 rfl rfl ?_
    refine E_iadd dX6_beginClause_47 ?_
    refine E_iconst (v := (-1)) dX6_beginClause_48 (by decide) ?_
    refine E_iast h dX6_beginClause_49 (fun h => ?_)
    refine E_oU h (fun u12 h => ?_)
    refine E_iinc (j := 1) (v := x2 + 1) (l' := [(2, .int (x2 + 1)), (0, .ref a0)]) dX6_beginClause_50 rfl (addI (by decide)) (Nat.le_of_ble_eq_true rfl) rfl ?_
    refine E_goto (tgt := 31) dX6_beginClause_53 (by decide) ?_
    refine Eg.pick [1, 0] rfl ?_
    exact hk31 _ _ _ h
def rX6_beginClause_31 : Nat → Mm → Nat → Int32 → Option (Unit × Mm)
  | 0, _, _, _ => none
  | n + 1, u, a0, x2 => bX6_beginClause_31 (rX6_beginClause_31 n) u a0 x2
theorem prX6_beginClause_31 {r : Unit} {u' : Mm} : ∀ (n : Nat) (u : Mm) (a0 : Nat) (x2 : Int32), rX6_beginClause_31 n u a0 x2 = some (r, u') → Eg MX6_beginClause 0 0 0 (none, u') 31 [(0, .ref a0), (2, .int x2)] [] u
  | 0, _, _, _, h => by cases h
  | n + 1, u, a0, x2, h => pX6_beginClause_31 (prX6_beginClause_31 n) u a0 x2 h
def fX6_beginClause (u : Mm) (a0 : Nat) (x1 : Int32) : Option (Unit × Mm) := oK u a0 6 7 (oI (mI u a0 6) (fun v1 => (if (12 : Int32) ≤ v1 then some ((), u) else oK u a0 6 7 (oNn (mR u a0 3) (fun e2 => oK u a0 6 7 (oI (mI u a0 6) (fun v3 => oA u e2 10 v3 (oU (wI u e2 (upd (mI u e2) (Int32.toNatClampNeg v3) x1)) (fun u4 => oK u4 a0 6 7 (oNn (mR u4 a0 4) (fun e5 => oK u4 a0 6 7 (oI (mI u4 a0 6) (fun v6 => oA u4 e5 10 v6 (oU (wI u4 e5 (upd (mI u4 e5) (Int32.toNatClampNeg v6) 1)) (fun u7 => rX6_beginClause_31 hwF u7 a0 0)))))))))))))))
set_option maxRecDepth 100000 in
set_option maxHeartbeats 4000000 in
theorem tX6_beginClause {u : Mm} {a0 : Nat} {x1 : Int32} {r : Unit} {u' : Mm} (h : fX6_beginClause u a0 x1 = some (r, u')) : Ev 0 MX6_beginClause 0 0 [.ref a0, .int x1] u (none, u') := by
  refine Ev.of (by decide +kernel) (Nat.le_of_ble_eq_true rfl) (show Eg MX6_beginClause 0 0 0 (none, u') 0 [(0, .ref a0), (1, .int x1)] [] u from ?_)
  unfold fX6_beginClause at h
  refine E_aload_n dX6_beginClause_0 rfl rfl ?_
  refine E_getI h dX6_beginClause_1 cf6 lk_X6_37 (by decide) (fun _ _ _ => rfl) (fun h => ?_)
  refine E_oI h (fun v1 h => ?_)
  refine E_bipush (v := 12) dX6_beginClause_4 (by decide) ?_
  refine E_ic_ge (tgt := 66) h dX6_beginClause_6 (by decide) (fun h => ?_) (fun h => ?_)
  · exact E_vret h dX6_beginClause_66 rfl
  · refine E_aload_n dX6_beginClause_9 rfl rfl ?_
    refine E_getA h dX6_beginClause_10 cf6 lk_X6_18 (by decide) (fun _ _ _ => rfl) (fun e2 h => ?_)
    refine E_aload_n dX6_beginClause_13 rfl rfl ?_
    refine E_getI h dX6_beginClause_14 cf6 lk_X6_37 (by decide) (fun _ _ _ => rfl) (fun h => ?_)
    refine E_oI h (fun v3 h => ?_)
    refine E_iload_n dX6_beginClause_17 rfl rfl ?_
    refine E_iast h dX6_beginClause_18 (fun h => ?_)
    refine E_oU h (fun u4 h => ?_)
    refine E_aload_n dX6_beginClause_19 rfl rfl ?_
    refine E_getA h dX6_beginClause_20 cf6 lk_X6_21 (by decide) (fun _ _ _ => rfl) (fun e5 h => ?_)
    refine E_aload_n dX6_beginClause_23 rfl rfl ?_
    refine E_getI h dX6_beginClause_24 cf6 lk_X6_37 (by decide) (fun _ _ _ => rfl) (fun h => ?_)
    refine E_oI h (fun v6 h => ?_)
    refine E_iconst (v := 1) dX6_beginClause_27 (by decide) ?_
    refine E_iast h dX6_beginClause_28 (fun h => ?_)
    refine E_oU h (fun u7 h => ?_)
    refine E_iconst (v := 0) dX6_beginClause_29 (by decide) ?_
    refine E_istore_n (l' := [(2, .int 0), (0, .ref a0), (1, .int x1)]) dX6_beginClause_30 rfl (Nat.le_of_ble_eq_true rfl) rfl ?_
    refine Eg.pick [1, 0] rfl ?_
    exact prX6_beginClause_31 _ _ _ _ h
def fX4_skip (u : Mm) (a0 : Nat) (x1 : Int32) : Option (Int32 × Mm) := oK u a0 4 8 (oNn (mR u a0 0) (fun e1 => oK u a0 4 8 (oI (mI u a0 4) (fun v2 => oA u e1 10 v2 (oI (mI u e1 (Int32.toNatClampNeg v2)) (fun v3 => (if (v3 : Int32) = x1 then (if (x1 : Int32) = 286 then oZ 0 (some (0, u)) else oK u a0 4 8 (oI (mI u a0 4) (fun v4 => oK u a0 4 8 (oU (wI u a0 (upd (mI u a0) 4 (v4 + 1))) (fun u5 => oZ 1 (some (1, u5))))))) else oZ 0 (some (0, u)))))))))
set_option maxRecDepth 100000 in
set_option maxHeartbeats 4000000 in
theorem tX4_skip {u : Mm} {a0 : Nat} {x1 : Int32} {r : Int32} {u' : Mm} (h : fX4_skip u a0 x1 = some (r, u')) : Ev 0 MX4_skip 0 0 [.ref a0, .int x1] u (some (.int r), u') := by
  refine Ev.of (by decide +kernel) (Nat.le_of_ble_eq_true rfl) (show Eg MX4_skip 0 0 0 (some (.int r), u') 0 [(0, .ref a0), (1, .int x1)] [] u from ?_)
  unfold fX4_skip at h
  refine E_aload_n dX4_skip_0 rfl rfl ?_
  refine E_getA h dX4_skip_1 cf4 lk_X4_9 (by decide) (fun _ _ _ => rfl) (fun e1 h => ?_)
  refine E_aload_n dX4_skip_4 rfl rfl ?_
  refine E_getI h dX4_skip_5 cf4 lk_X4_36 (by decide) (fun _ _ _ => rfl) (fun h => ?_)
  refine E_oI h (fun v2 h => ?_)
  refine E_iald h dX4_skip_8 (fun h => ?_)
  refine E_oI h (fun v3 h => ?_)
  refine E_iload_n dX4_skip_9 rfl rfl ?_
  refine E_ic_ne (tgt := 20) h dX4_skip_10 (by decide) (fun h => ?_) (fun h => ?_)
  · refine E_iconst (v := 0) dX4_skip_20 (by decide) ?_
    exact E_zret h dX4_skip_21 rfl
  · refine E_iload_n dX4_skip_13 rfl rfl ?_
    refine E_sipush (v := 286) dX4_skip_14 (by decide) ?_
    refine E_ic_ne (tgt := 22) h dX4_skip_17 (by decide) (fun h => ?_) (fun h => ?_)
    · refine E_aload_n dX4_skip_22 rfl rfl ?_
      refine E_dup dX4_skip_23 rfl ?_
      refine E_getI h dX4_skip_24 cf4 lk_X4_36 (by decide) (fun _ _ _ => rfl) (fun h => ?_)
      refine E_oI h (fun v4 h => ?_)
      refine E_iconst (v := 1) dX4_skip_27 (by decide) ?_
      refine E_iadd dX4_skip_28 ?_
      refine E_putI h dX4_skip_29 cf4 lk_X4_36 (by decide) (Or.inl rfl) rfl (fun h => ?_)
      refine E_oU h (fun u5 h => ?_)
      refine E_iconst (v := 1) dX4_skip_32 (by decide) ?_
      exact E_zret h dX4_skip_33 rfl
    · refine E_iconst (v := 0) dX4_skip_20 (by decide) ?_
      exact E_zret h dX4_skip_21 rfl
def fX6_put (u : Mm) (a0 : Nat) (x1 : Int32) (x2 : Int32) : Option (Unit × Mm) := oK u a0 6 7 (oI (mI u a0 2) (fun v1 => oK u a0 6 7 (oNn (mR u a0 0) (fun e2 => oL u e2 ((if (Int32.ofNat (mK u e2).2 : Int32) ≤ v1 then some ((), u) else oK u a0 6 7 (oNn (mR u a0 0) (fun e3 => oK u a0 6 7 (oI (mI u a0 2) (fun v4 => oA u e3 10 v4 (oU (wI u e3 (upd (mI u e3) (Int32.toNatClampNeg v4) x1)) (fun u5 => oK u5 a0 6 7 (oNn (mR u5 a0 1) (fun e6 => oK u5 a0 6 7 (oI (mI u5 a0 2) (fun v7 => oA u5 e6 10 v7 (oU (wI u5 e6 (upd (mI u5 e6) (Int32.toNatClampNeg v7) x2)) (fun u8 => oK u8 a0 6 7 (oI (mI u8 a0 2) (fun v9 => oK u8 a0 6 7 (oU (wI u8 a0 (upd (mI u8 a0) 2 (v9 + 1))) (fun u10 => some ((), u10)))))))))))))))))))))))
set_option maxRecDepth 100000 in
set_option maxHeartbeats 4000000 in
theorem tX6_put {u : Mm} {a0 : Nat} {x1 : Int32} {x2 : Int32} {r : Unit} {u' : Mm} (h : fX6_put u a0 x1 x2 = some (r, u')) : Ev 0 MX6_put 0 0 [.ref a0, .int x1, .int x2] u (none, u') := by
  refine Ev.of (by decide +kernel) (Nat.le_of_ble_eq_true rfl) (show Eg MX6_put 0 0 0 (none, u') 0 [(0, .ref a0), (1, .int x1), (2, .int x2)] [] u from ?_)
  unfold fX6_put at h
  refine E_aload_n dX6_put_0 rfl rfl ?_
  refine E_getI h dX6_put_1 cf6 lk_X6_27 (by decide) (fun _ _ _ => rfl) (fun h => ?_)
  refine E_oI h (fun v1 h => ?_)
  refine E_aload_n dX6_put_4 rfl rfl ?_
  refine E_getA h dX6_put_5 cf6 lk_X6_9 (by decide) (fun _ _ _ => rfl) (fun e2 h => ?_)
  refine E_alen h dX6_put_8 (fun h => ?_)
  refine E_ic_ge (tgt := 42) h dX6_put_9 (by decide) (fun h => ?_) (fun h => ?_)
  · exact E_vret h dX6_put_42 rfl
  · refine E_aload_n dX6_put_12 rfl rfl ?_
    refine E_getA h dX6_put_13 cf6 lk_X6_9 (by decide) (fun _ _ _ => rfl) (fun e3 h => ?_)
    refine E_aload_n dX6_put_16 rfl rfl ?_
    refine E_getI h dX6_put_17 cf6 lk_X6_27 (by decide) (fun _ _ _ => rfl) (fun h => ?_)
    refine E_oI h (fun v4 h => ?_)
    refine E_iload_n dX6_put_20 rfl rfl ?_
    refine E_iast h dX6_put_21 (fun h => ?_)
    refine E_oU h (fun u5 h => ?_)
    refine E_aload_n dX6_put_22 rfl rfl ?_
    refine E_getA h dX6_put_23 cf6 lk_X6_15 (by decide) (fun _ _ _ => rfl) (fun e6 h => ?_)
    refine E_aload_n dX6_put_26 rfl rfl ?_
    refine E_getI h dX6_put_27 cf6 lk_X6_27 (by decide) (fun _ _ _ => rfl) (fun h => ?_)
    refine E_oI h (fun v7 h => ?_)
    refine E_iload_n dX6_put_30 rfl rfl ?_
    refine E_iast h dX6_put_31 (fun h => ?_)
    refine E_oU h (fun u8 h => ?_)
    refine E_aload_n dX6_put_32 rfl rfl ?_
    refine E_dup dX6_put_33 rfl ?_
    refine E_getI h dX6_put_34 cf6 lk_X6_27 (by decide) (fun _ _ _ => rfl) (fun h => ?_)
    refine E_oI h (fun v9 h => ?_)
    refine E_iconst (v := 1) dX6_put_37 (by decide) ?_
    refine E_iadd dX6_put_38 ?_
    refine E_putI h dX6_put_39 cf6 lk_X6_27 (by decide) (Or.inl rfl) rfl (fun h => ?_)
    refine E_oU h (fun u10 h => ?_)
    exact E_vret h dX6_put_42 rfl
def fX6_beginPlace (u : Mm) (a0 : Nat) (x1 : Int32) : Option (Unit × Mm) := oR u a0 6 (oB (fX6_put u a0 288 0) (fun _ u1 => oK u1 a0 6 7 (oI (mI u1 a0 6) (fun v2 => (if (v2 : Int32) ≤ 0 then some ((), u1) else oK u1 a0 6 7 (oNn (mR u1 a0 5) (fun e3 => oK u1 a0 6 7 (oI (mI u1 a0 6) (fun v4 => oK u1 a0 6 7 (oI (mI u1 a0 2) (fun v5 => oA u1 e3 10 (((v4 - 1) * 4) + x1) (oU (wI u1 e3 (upd (mI u1 e3) (Int32.toNatClampNeg (((v4 - 1) * 4) + x1)) v5)) (fun u6 => some ((), u6))))))))))))))
set_option maxRecDepth 100000 in
set_option maxHeartbeats 4000000 in
theorem tX6_beginPlace {u : Mm} {a0 : Nat} {x1 : Int32} {r : Unit} {u' : Mm} (h : fX6_beginPlace u a0 x1 = some (r, u')) : Ev 1 MX6_beginPlace 0 0 [.ref a0, .int x1] u (none, u') := by
  refine Ev.of (by decide +kernel) (Nat.le_of_ble_eq_true rfl) (show Eg MX6_beginPlace 1 0 0 (none, u') 0 [(0, .ref a0), (1, .int x1)] [] u from ?_)
  unfold fX6_beginPlace at h
  refine E_aload_n dX6_beginPlace_0 rfl rfl ?_
  refine E_sipush (v := 288) dX6_beginPlace_1 (by decide) ?_
  refine E_iconst (v := 0) dX6_beginPlace_4 (by decide) ?_
  refine F_Vv h (fun m e => tX6_put e) dX6_beginPlace_5 hm_X6_put hv_X6_put ln_X6_40 rfl rfl (Nat.le_of_ble_eq_true rfl) (Nat.le_of_ble_eq_true rfl) (kc' := 0) (ks' := 0) rfl rfl (fun u1 h => ?_)
  refine E_aload_n dX6_beginPlace_8 rfl rfl ?_
  refine E_getI h dX6_beginPlace_9 cf6 lk_X6_37 (by decide) (fun _ _ _ => rfl) (fun h => ?_)
  refine E_oI h (fun v2 h => ?_)
  refine E_if_le (tgt := 34) h dX6_beginPlace_12 (by decide) (fun h => ?_) (fun h => ?_)
  · exact E_vret h dX6_beginPlace_34 rfl
  · refine E_aload_n dX6_beginPlace_15 rfl rfl ?_
    refine E_getA h dX6_beginPlace_16 cf6 lk_X6_24 (by decide) (fun _ _ _ => rfl) (fun e3 h => ?_)
    refine E_aload_n dX6_beginPlace_19 rfl rfl ?_
    refine E_getI h dX6_beginPlace_20 cf6 lk_X6_37 (by decide) (fun _ _ _ => rfl) (fun h => ?_)
    refine E_oI h (fun v4 h => ?_)
    refine E_iconst (v := 1) dX6_beginPlace_23 (by decide) ?_
    refine E_isub dX6_beginPlace_24 ?_
    refine E_iconst (v := 4) dX6_beginPlace_25 (by decide) ?_
    refine E_imul dX6_beginPlace_26 ?_
    refine E_iload_n dX6_beginPlace_27 rfl rfl ?_
    refine E_iadd dX6_beginPlace_28 ?_
    refine E_aload_n dX6_beginPlace_29 rfl rfl ?_
    refine E_getI h dX6_beginPlace_30 cf6 lk_X6_27 (by decide) (fun _ _ _ => rfl) (fun h => ?_)
    refine E_oI h (fun v5 h => ?_)
    refine E_iast h dX6_beginPlace_33 (fun h => ?_)
    refine E_oU h (fun u6 h => ?_)
    exact E_vret h dX6_beginPlace_34 rfl
def fX4_readLawWord (u : Mm) (a0 : Nat) : Option (Int32 × Mm) := oK u a0 4 8 (oNn (mR u a0 0) (fun e1 => oK u a0 4 8 (oI (mI u a0 4) (fun v2 => oA u e1 10 v2 (oI (mI u e1 (Int32.toNatClampNeg v2)) (fun v3 => (if (v3 : Int32) < 272 then some ((-1), u) else (if (v3 : Int32) ≤ 281 then oK u a0 4 8 (oI (mI u a0 4) (fun v4 => oK u a0 4 8 (oU (wI u a0 (upd (mI u a0) 4 (v4 + 1))) (fun u5 => some (v3 - 272, u5))))) else some ((-1), u)))))))))
set_option maxRecDepth 100000 in
set_option maxHeartbeats 4000000 in
theorem tX4_readLawWord {u : Mm} {a0 : Nat} {r : Int32} {u' : Mm} (h : fX4_readLawWord u a0 = some (r, u')) : Ev 0 MX4_readLawWord 0 0 [.ref a0] u (some (.int r), u') := by
  refine Ev.of (by decide +kernel) (Nat.le_of_ble_eq_true rfl) (show Eg MX4_readLawWord 0 0 0 (some (.int r), u') 0 [(0, .ref a0)] [] u from ?_)
  unfold fX4_readLawWord at h
  refine E_aload_n dX4_readLawWord_0 rfl rfl ?_
  refine E_getA h dX4_readLawWord_1 cf4 lk_X4_9 (by decide) (fun _ _ _ => rfl) (fun e1 h => ?_)
  refine E_aload_n dX4_readLawWord_4 rfl rfl ?_
  refine E_getI h dX4_readLawWord_5 cf4 lk_X4_36 (by decide) (fun _ _ _ => rfl) (fun h => ?_)
  refine E_oI h (fun v2 h => ?_)
  refine E_iald h dX4_readLawWord_8 (fun h => ?_)
  refine E_oI h (fun v3 h => ?_)
  refine E_istore_n (l' := [(1, .int v3), (0, .ref a0)]) dX4_readLawWord_9 rfl (Nat.le_of_ble_eq_true rfl) rfl ?_
  refine E_iload_n dX4_readLawWord_10 rfl rfl ?_
  refine E_sipush (v := 272) dX4_readLawWord_11 (by decide) ?_
  refine E_ic_lt (tgt := 24) h dX4_readLawWord_14 (by decide) (fun h => ?_) (fun h => ?_)
  · refine E_iconst (v := (-1)) dX4_readLawWord_24 (by decide) ?_
    exact E_iret h dX4_readLawWord_25 rfl
  · refine E_iload_n dX4_readLawWord_17 rfl rfl ?_
    refine E_sipush (v := 281) dX4_readLawWord_18 (by decide) ?_
    refine E_ic_le (tgt := 26) h dX4_readLawWord_21 (by decide) (fun h => ?_) (fun h => ?_)
    · refine E_aload_n dX4_readLawWord_26 rfl rfl ?_
      refine E_dup dX4_readLawWord_27 rfl ?_
      refine E_getI h dX4_readLawWord_28 cf4 lk_X4_36 (by decide) (fun _ _ _ => rfl) (fun h => ?_)
      refine E_oI h (fun v4 h => ?_)
      refine E_iconst (v := 1) dX4_readLawWord_31 (by decide) ?_
      refine E_iadd dX4_readLawWord_32 ?_
      refine E_putI h dX4_readLawWord_33 cf4 lk_X4_36 (by decide) (Or.inl rfl) rfl (fun h => ?_)
      refine E_oU h (fun u5 h => ?_)
      refine E_iload_n dX4_readLawWord_36 rfl rfl ?_
      refine E_sipush (v := 272) dX4_readLawWord_37 (by decide) ?_
      refine E_isub dX4_readLawWord_40 ?_
      exact E_iret h dX4_readLawWord_41 rfl
    · refine E_iconst (v := (-1)) dX4_readLawWord_24 (by decide) ?_
      exact E_iret h dX4_readLawWord_25 rfl
def bX4_readOrderWord_64 (u : Mm) (s0 : Int32) : Option (Int32 × Mm) := some (s0, u)
set_option maxRecDepth 100000 in
set_option maxHeartbeats 4000000 in
theorem pX4_readOrderWord_64 {r : Int32} {u' : Mm} (u : Mm) (s0 : Int32) (h : bX4_readOrderWord_64 u s0 = some (r, u')) : Eg MX4_readOrderWord 0 0 0 (some (.int r), u') 64 [] [.int s0] u := by
  unfold bX4_readOrderWord_64 at h
  exact E_iret h dX4_readOrderWord_64 rfl
def bX4_readOrderWord_31 (u : Mm) (a0 : Nat) (x1 : Int32) : Option (Int32 × Mm) := oK u a0 4 8 (oI (mI u a0 4) (fun v4 => oK u a0 4 8 (oU (wI u a0 (upd (mI u a0) 4 (v4 + 1))) (fun u5 => (if (x1 : Int32) = 280 then bX4_readOrderWord_64 u5 0 else (if (x1 : Int32) = 282 then bX4_readOrderWord_64 u5 1 else bX4_readOrderWord_64 u5 2))))))
set_option maxRecDepth 100000 in
set_option maxHeartbeats 4000000 in
theorem pX4_readOrderWord_31 {r : Int32} {u' : Mm} (u : Mm) (a0 : Nat) (x1 : Int32) (h : bX4_readOrderWord_31 u a0 x1 = some (r, u')) : Eg MX4_readOrderWord 0 0 0 (some (.int r), u') 31 [(0, .ref a0), (1, .int x1)] [] u := by
  unfold bX4_readOrderWord_31 at h
  refine E_aload_n dX4_readOrderWord_31 rfl rfl ?_
  refine E_dup dX4_readOrderWord_32 rfl ?_
  refine E_getI h dX4_readOrderWord_33 cf4 lk_X4_36 (by decide) (fun _ _ _ => rfl) (fun h => ?_)
  refine E_oI h (fun v4 h => ?_)
  refine E_iconst (v := 1) dX4_readOrderWord_36 (by decide) ?_
  refine E_iadd dX4_readOrderWord_37 ?_
  refine E_putI h dX4_readOrderWord_38 cf4 lk_X4_36 (by decide) (Or.inl rfl) rfl (fun h => ?_)
  refine E_oU h (fun u5 h => ?_)
  refine E_iload_n dX4_readOrderWord_41 rfl rfl ?_
  refine E_sipush (v := 280) dX4_readOrderWord_42 (by decide) ?_
  refine E_ic_ne (tgt := 52) h dX4_readOrderWord_45 (by decide) (fun h => ?_) (fun h => ?_)
  · refine E_iload_n dX4_readOrderWord_52 rfl rfl ?_
    refine E_sipush (v := 282) dX4_readOrderWord_53 (by decide) ?_
    refine E_ic_ne (tgt := 63) h dX4_readOrderWord_56 (by decide) (fun h => ?_) (fun h => ?_)
    · refine E_iconst (v := 2) dX4_readOrderWord_63 (by decide) ?_
      refine Eg.pick [] rfl ?_
      exact pX4_readOrderWord_64 _ _ h
    · refine E_iconst (v := 1) dX4_readOrderWord_59 (by decide) ?_
      refine E_goto (tgt := 64) dX4_readOrderWord_60 (by decide) ?_
      refine Eg.pick [] rfl ?_
      exact pX4_readOrderWord_64 _ _ h
  · refine E_iconst (v := 0) dX4_readOrderWord_48 (by decide) ?_
    refine E_goto (tgt := 64) dX4_readOrderWord_49 (by decide) ?_
    refine Eg.pick [] rfl ?_
    exact pX4_readOrderWord_64 _ _ h
def bX4_readOrderWord_180 (u : Mm) (s0 : Int32) (s1 : Int32) : Option (Int32 × Mm) := some (s1 + s0, u)
set_option maxRecDepth 100000 in
set_option maxHeartbeats 4000000 in
theorem pX4_readOrderWord_180 {r : Int32} {u' : Mm} (u : Mm) (s0 : Int32) (s1 : Int32) (h : bX4_readOrderWord_180 u s0 s1 = some (r, u')) : Eg MX4_readOrderWord 0 0 0 (some (.int r), u') 180 [] [.int s0, .int s1] u := by
  unfold bX4_readOrderWord_180 at h
  refine E_iadd dX4_readOrderWord_180 ?_
  exact E_iret h dX4_readOrderWord_181 rfl
def bX4_readOrderWord_121 (u : Mm) (a0 : Nat) (x1 : Int32) (x2 : Int32) (s0 : Int32) : Option (Int32 × Mm) := oK u a0 4 8 (oNn (mR u a0 0) (fun e11 => oK u a0 4 8 (oI (mI u a0 4) (fun v12 => oA u e11 10 v12 (oI (mI u e11 (Int32.toNatClampNeg v12)) (fun v13 => (if (v13 : Int32) = 285 then (if (x2 : Int32) ≤ s0 then oK u a0 4 8 (oI (mI u a0 4) (fun v14 => oK u a0 4 8 (oU (wI u a0 (upd (mI u a0) 4 (v14 + 1))) (fun u15 => (if (x1 : Int32) = 274 then bX4_readOrderWord_180 u15 3 x2 else (if (x1 : Int32) = 277 then bX4_readOrderWord_180 u15 11 x2 else bX4_readOrderWord_180 u15 13 x2)))))) else some ((-1), u)) else some ((-1), u))))))))
set_option maxRecDepth 100000 in
set_option maxHeartbeats 4000000 in
theorem pX4_readOrderWord_121 {r : Int32} {u' : Mm} (u : Mm) (a0 : Nat) (x1 : Int32) (x2 : Int32) (s0 : Int32) (h : bX4_readOrderWord_121 u a0 x1 x2 s0 = some (r, u')) : Eg MX4_readOrderWord 0 0 0 (some (.int r), u') 121 [(0, .ref a0), (1, .int x1), (2, .int x2)] [.int s0] u := by
  unfold bX4_readOrderWord_121 at h
  refine E_istore_n (l' := [(3, .int s0), (0, .ref a0), (1, .int x1), (2, .int x2)]) dX4_readOrderWord_121 rfl (Nat.le_of_ble_eq_true rfl) rfl ?_
  refine E_aload_n dX4_readOrderWord_122 rfl rfl ?_
  refine E_getA h dX4_readOrderWord_123 cf4 lk_X4_9 (by decide) (fun _ _ _ => rfl) (fun e11 h => ?_)
  refine E_aload_n dX4_readOrderWord_126 rfl rfl ?_
  refine E_getI h dX4_readOrderWord_127 cf4 lk_X4_36 (by decide) (fun _ _ _ => rfl) (fun h => ?_)
  refine E_oI h (fun v12 h => ?_)
  refine E_iald h dX4_readOrderWord_130 (fun h => ?_)
  refine E_oI h (fun v13 h => ?_)
  refine E_sipush (v := 285) dX4_readOrderWord_131 (by decide) ?_
  refine E_ic_ne (tgt := 142) h dX4_readOrderWord_134 (by decide) (fun h => ?_) (fun h => ?_)
  · refine E_iconst (v := (-1)) dX4_readOrderWord_142 (by decide) ?_
    exact E_iret h dX4_readOrderWord_143 rfl
  · refine E_iload_n dX4_readOrderWord_137 rfl rfl ?_
    refine E_iload_n dX4_readOrderWord_138 rfl rfl ?_
    refine E_ic_le (tgt := 144) h dX4_readOrderWord_139 (by decide) (fun h => ?_) (fun h => ?_)
    · refine E_aload_n dX4_readOrderWord_144 rfl rfl ?_
      refine E_dup dX4_readOrderWord_145 rfl ?_
      refine E_getI h dX4_readOrderWord_146 cf4 lk_X4_36 (by decide) (fun _ _ _ => rfl) (fun h => ?_)
      refine E_oI h (fun v14 h => ?_)
      refine E_iconst (v := 1) dX4_readOrderWord_149 (by decide) ?_
      refine E_iadd dX4_readOrderWord_150 ?_
      refine E_putI h dX4_readOrderWord_151 cf4 lk_X4_36 (by decide) (Or.inl rfl) rfl (fun h => ?_)
      refine E_oU h (fun u15 h => ?_)
      refine E_iload_n dX4_readOrderWord_154 rfl rfl ?_
      refine E_iload_n dX4_readOrderWord_155 rfl rfl ?_
      refine E_sipush (v := 274) dX4_readOrderWord_156 (by decide) ?_
      refine E_ic_ne (tgt := 166) h dX4_readOrderWord_159 (by decide) (fun h => ?_) (fun h => ?_)
      · refine E_iload_n dX4_readOrderWord_166 rfl rfl ?_
        refine E_sipush (v := 277) dX4_readOrderWord_167 (by decide) ?_
        refine E_ic_ne (tgt := 178) h dX4_readOrderWord_170 (by decide) (fun h => ?_) (fun h => ?_)
        · refine E_bipush (v := 13) dX4_readOrderWord_178 (by decide) ?_
          refine Eg.pick [] rfl ?_
          exact pX4_readOrderWord_180 _ _ _ h
        · refine E_bipush (v := 11) dX4_readOrderWord_173 (by decide) ?_
          refine E_goto (tgt := 180) dX4_readOrderWord_175 (by decide) ?_
          refine Eg.pick [] rfl ?_
          exact pX4_readOrderWord_180 _ _ _ h
      · refine E_iconst (v := 3) dX4_readOrderWord_162 (by decide) ?_
        refine E_goto (tgt := 180) dX4_readOrderWord_163 (by decide) ?_
        refine Eg.pick [] rfl ?_
        exact pX4_readOrderWord_180 _ _ _ h
    · refine E_iconst (v := (-1)) dX4_readOrderWord_142 (by decide) ?_
      exact E_iret h dX4_readOrderWord_143 rfl
def bX4_readOrderWord_88 (u : Mm) (a0 : Nat) (x1 : Int32) : Option (Int32 × Mm) := oK u a0 4 8 (oI (mI u a0 4) (fun v6 => oK u a0 4 8 (oU (wI u a0 (upd (mI u a0) 4 (v6 + 1))) (fun u7 => oK u7 a0 4 8 (oNn (mR u7 a0 1) (fun e8 => oK u7 a0 4 8 (oI (mI u7 a0 4) (fun v9 => oA u7 e8 10 v9 (oI (mI u7 e8 (Int32.toNatClampNeg v9)) (fun v10 => (if (x1 : Int32) = 274 then bX4_readOrderWord_121 u7 a0 x1 v10 7 else bX4_readOrderWord_121 u7 a0 x1 v10 1)))))))))))
set_option maxRecDepth 100000 in
set_option maxHeartbeats 4000000 in
theorem pX4_readOrderWord_88 {r : Int32} {u' : Mm} (u : Mm) (a0 : Nat) (x1 : Int32) (h : bX4_readOrderWord_88 u a0 x1 = some (r, u')) : Eg MX4_readOrderWord 0 0 0 (some (.int r), u') 88 [(0, .ref a0), (1, .int x1)] [] u := by
  unfold bX4_readOrderWord_88 at h
  refine E_aload_n dX4_readOrderWord_88 rfl rfl ?_
  refine E_dup dX4_readOrderWord_89 rfl ?_
  refine E_getI h dX4_readOrderWord_90 cf4 lk_X4_36 (by decide) (fun _ _ _ => rfl) (fun h => ?_)
  refine E_oI h (fun v6 h => ?_)
  refine E_iconst (v := 1) dX4_readOrderWord_93 (by decide) ?_
  refine E_iadd dX4_readOrderWord_94 ?_
  refine E_putI h dX4_readOrderWord_95 cf4 lk_X4_36 (by decide) (Or.inl rfl) rfl (fun h => ?_)
  refine E_oU h (fun u7 h => ?_)
  refine E_aload_n dX4_readOrderWord_98 rfl rfl ?_
  refine E_getA h dX4_readOrderWord_99 cf4 lk_X4_15 (by decide) (fun _ _ _ => rfl) (fun e8 h => ?_)
  refine E_aload_n dX4_readOrderWord_102 rfl rfl ?_
  refine E_getI h dX4_readOrderWord_103 cf4 lk_X4_36 (by decide) (fun _ _ _ => rfl) (fun h => ?_)
  refine E_oI h (fun v9 h => ?_)
  refine E_iald h dX4_readOrderWord_106 (fun h => ?_)
  refine E_oI h (fun v10 h => ?_)
  refine E_istore_n (l' := [(2, .int v10), (0, .ref a0), (1, .int x1)]) dX4_readOrderWord_107 rfl (Nat.le_of_ble_eq_true rfl) rfl ?_
  refine E_iload_n dX4_readOrderWord_108 rfl rfl ?_
  refine E_sipush (v := 274) dX4_readOrderWord_109 (by decide) ?_
  refine E_ic_ne (tgt := 120) h dX4_readOrderWord_112 (by decide) (fun h => ?_) (fun h => ?_)
  · refine E_iconst (v := 1) dX4_readOrderWord_120 (by decide) ?_
    refine Eg.pick [1, 2, 0] rfl ?_
    exact pX4_readOrderWord_121 _ _ _ _ _ h
  · refine E_bipush (v := 7) dX4_readOrderWord_115 (by decide) ?_
    refine E_goto (tgt := 121) dX4_readOrderWord_117 (by decide) ?_
    refine Eg.pick [1, 2, 0] rfl ?_
    exact pX4_readOrderWord_121 _ _ _ _ _ h
def fX4_readOrderWord (u : Mm) (a0 : Nat) : Option (Int32 × Mm) := oK u a0 4 8 (oNn (mR u a0 0) (fun e1 => oK u a0 4 8 (oI (mI u a0 4) (fun v2 => oA u e1 10 v2 (oI (mI u e1 (Int32.toNatClampNeg v2)) (fun v3 => (if (v3 : Int32) = 280 then bX4_readOrderWord_31 u a0 v3 else (if (v3 : Int32) = 282 then bX4_readOrderWord_31 u a0 v3 else (if (v3 : Int32) = 283 then bX4_readOrderWord_31 u a0 v3 else (if (v3 : Int32) = 274 then bX4_readOrderWord_88 u a0 v3 else (if (v3 : Int32) = 277 then bX4_readOrderWord_88 u a0 v3 else (if (v3 : Int32) = 278 then bX4_readOrderWord_88 u a0 v3 else some ((-1), u)))))))))))))
set_option maxRecDepth 100000 in
set_option maxHeartbeats 4000000 in
theorem tX4_readOrderWord {u : Mm} {a0 : Nat} {r : Int32} {u' : Mm} (h : fX4_readOrderWord u a0 = some (r, u')) : Ev 0 MX4_readOrderWord 0 0 [.ref a0] u (some (.int r), u') := by
  refine Ev.of (by decide +kernel) (Nat.le_of_ble_eq_true rfl) (show Eg MX4_readOrderWord 0 0 0 (some (.int r), u') 0 [(0, .ref a0)] [] u from ?_)
  unfold fX4_readOrderWord at h
  refine E_aload_n dX4_readOrderWord_0 rfl rfl ?_
  refine E_getA h dX4_readOrderWord_1 cf4 lk_X4_9 (by decide) (fun _ _ _ => rfl) (fun e1 h => ?_)
  refine E_aload_n dX4_readOrderWord_4 rfl rfl ?_
  refine E_getI h dX4_readOrderWord_5 cf4 lk_X4_36 (by decide) (fun _ _ _ => rfl) (fun h => ?_)
  refine E_oI h (fun v2 h => ?_)
  refine E_iald h dX4_readOrderWord_8 (fun h => ?_)
  refine E_oI h (fun v3 h => ?_)
  refine E_istore_n (l' := [(1, .int v3), (0, .ref a0)]) dX4_readOrderWord_9 rfl (Nat.le_of_ble_eq_true rfl) rfl ?_
  refine E_iload_n dX4_readOrderWord_10 rfl rfl ?_
  refine E_sipush (v := 280) dX4_readOrderWord_11 (by decide) ?_
  refine E_ic_eq (tgt := 31) h dX4_readOrderWord_14 (by decide) (fun h => ?_) (fun h => ?_)
  · refine Eg.pick [1, 0] rfl ?_
    exact pX4_readOrderWord_31 _ _ _ h
  · refine E_iload_n dX4_readOrderWord_17 rfl rfl ?_
    refine E_sipush (v := 282) dX4_readOrderWord_18 (by decide) ?_
    refine E_ic_eq (tgt := 31) h dX4_readOrderWord_21 (by decide) (fun h => ?_) (fun h => ?_)
    · refine Eg.pick [1, 0] rfl ?_
      exact pX4_readOrderWord_31 _ _ _ h
    · refine E_iload_n dX4_readOrderWord_24 rfl rfl ?_
      refine E_sipush (v := 283) dX4_readOrderWord_25 (by decide) ?_
      refine E_ic_ne (tgt := 65) h dX4_readOrderWord_28 (by decide) (fun h => ?_) (fun h => ?_)
      · refine E_iload_n dX4_readOrderWord_65 rfl rfl ?_
        refine E_sipush (v := 274) dX4_readOrderWord_66 (by decide) ?_
        refine E_ic_eq (tgt := 88) h dX4_readOrderWord_69 (by decide) (fun h => ?_) (fun h => ?_)
        · refine Eg.pick [1, 0] rfl ?_
          exact pX4_readOrderWord_88 _ _ _ h
        · refine E_iload_n dX4_readOrderWord_72 rfl rfl ?_
          refine E_sipush (v := 277) dX4_readOrderWord_73 (by decide) ?_
          refine E_ic_eq (tgt := 88) h dX4_readOrderWord_76 (by decide) (fun h => ?_) (fun h => ?_)
          · refine Eg.pick [1, 0] rfl ?_
            exact pX4_readOrderWord_88 _ _ _ h
          · refine E_iload_n dX4_readOrderWord_79 rfl rfl ?_
            refine E_sipush (v := 278) dX4_readOrderWord_80 (by decide) ?_
            refine E_ic_eq (tgt := 88) h dX4_readOrderWord_83 (by decide) (fun h => ?_) (fun h => ?_)
            · refine Eg.pick [1, 0] rfl ?_
              exact pX4_readOrderWord_88 _ _ _ h
            · refine E_iconst (v := (-1)) dX4_readOrderWord_86 (by decide) ?_
              exact E_iret h dX4_readOrderWord_87 rfl
      · refine Eg.pick [1, 0] rfl ?_
        exact pX4_readOrderWord_31 _ _ _ h
def bX4_readTest_41 (rT rS : Mm → Nat → Int32 → Int32 → Option (Int32 × Mm)) (rP rA : Mm → Nat → Int32 → Option (Int32 × Mm)) (k41 : Mm → Nat → Int32 → Int32 → Int32 → Int32 → Option (Int32 × Mm)) (u : Mm) (a0 : Nat) (x1 : Int32) (x2 : Int32) (x3 : Int32) (x4 : Int32) : Option (Int32 × Mm) := (if (400 : Int32) ≤ x4 then oZ 1 (some (1, u)) else oR u a0 4 (oB (fX4_skip u a0 x3) (fun v3 u4 => (if (v3 : Int32) = 0 then oZ 1 (some (1, u4)) else oR u4 a0 4 (oB (rT u4 a0 (x1 + 1) x2) (fun v5 u6 => (if (v5 : Int32) = 0 then oZ 0 (some (0, u6)) else oK u6 a0 4 8 (oNn (mR u6 a0 7) (fun e7 => oR u6 e7 6 (oB (fX6_put u6 e7 x3 0) (fun _ u8 => k41 u8 a0 x1 x2 x3 (x4 + 1))))))))))))
set_option maxRecDepth 100000 in
set_option maxHeartbeats 4000000 in
theorem pX4_readTest_41 {dd : Nat} (hdd : 0 ≤ dd) {rT : Mm → Nat → Int32 → Int32 → Option (Int32 × Mm)} (hT : ∀ (u : Mm) (a0 : Nat) (x1 x2 : Int32) (r : Int32) (u' : Mm), rT u a0 x1 x2 = some (r, u') → Ev dd MX4_readTest 0 0 [.ref a0, .int x1, .int x2] u (some (.int r), u')) {rS : Mm → Nat → Int32 → Int32 → Option (Int32 × Mm)} (hS : ∀ (u : Mm) (a0 : Nat) (x1 x2 : Int32) (r : Int32) (u' : Mm), rS u a0 x1 x2 = some (r, u') → Ev dd MX4_readSum 0 0 [.ref a0, .int x1, .int x2] u (some (.int r), u')) {rP : Mm → Nat → Int32 → Option (Int32 × Mm)} (hP : ∀ (u : Mm) (a0 : Nat) (x1 : Int32) (r : Int32) (u' : Mm), rP u a0 x1 = some (r, u') → Ev dd MX4_readPlain 0 0 [.ref a0, .int x1] u (some (.int r), u')) {rA : Mm → Nat → Int32 → Option (Int32 × Mm)} (hA : ∀ (u : Mm) (a0 : Nat) (x1 : Int32) (r : Int32) (u' : Mm), rA u a0 x1 = some (r, u') → Ev dd MX4_readPart 0 0 [.ref a0, .int x1] u (some (.int r), u')) {r : Int32} {u' : Mm} {k41 : Mm → Nat → Int32 → Int32 → Int32 → Int32 → Option (Int32 × Mm)} (hk41 : ∀ (u : Mm) (a0 : Nat) (x1 : Int32) (x2 : Int32) (x3 : Int32) (x4 : Int32), k41 u a0 x1 x2 x3 x4 = some (r, u') → Eg MX4_readTest (dd + 1) 0 0 (some (.int r), u') 41 [(0, .ref a0), (1, .int x1), (2, .int x2), (3, .int x3), (4, .int x4)] [] u) (u : Mm) (a0 : Nat) (x1 : Int32) (x2 : Int32) (x3 : Int32) (x4 : Int32) (h : bX4_readTest_41 rT rS rP rA k41 u a0 x1 x2 x3 x4 = some (r, u')) : Eg MX4_readTest (dd + 1) 0 0 (some (.int r), u') 41 [(0, .ref a0), (1, .int x1), (2, .int x2), (3, .int x3), (4, .int x4)] [] u := by
  unfold bX4_readTest_41 at h
  refine E_iload dX4_readTest_41 rfl ?_
  refine E_sipush (v := 400) dX4_readTest_43 (by decide) ?_
  refine E_ic_ge (tgt := 85) h dX4_readTest_46 (by decide) (fun h => ?_) (fun h => ?_)
  · refine E_iconst (v := 1) dX4_readTest_85 (by decide) ?_
    exact E_zret h dX4_readTest_86 rfl
  · refine E_aload_n dX4_readTest_49 rfl rfl ?_
    refine E_iload_n dX4_readTest_50 rfl rfl ?_
    refine F_Vi h (fun a m e => tX4_skip e) dX4_readTest_51 hm_X4_skip hv_X4_skip ln_X4_53 rfl rfl (Nat.le_of_ble_eq_true rfl) (by omega) (kc' := 0) (ks' := 0) rfl rfl (fun v3 u4 h => ?_)
    refine E_if_eq (tgt := 85) h dX4_readTest_54 (by decide) (fun h => ?_) (fun h => ?_)
    · refine E_iconst (v := 1) dX4_readTest_85 (by decide) ?_
      exact E_zret h dX4_readTest_86 rfl
    · refine E_aload_n dX4_readTest_57 rfl rfl ?_
      refine E_iload_n dX4_readTest_58 rfl rfl ?_
      refine E_iconst (v := 1) dX4_readTest_59 (by decide) ?_
      refine E_iadd dX4_readTest_60 ?_
      refine E_iload_n dX4_readTest_61 rfl rfl ?_
      refine F_Vi h (fun a m e => hT _ _ _ _ a m e) dX4_readTest_62 hm_X4_readTest hv_X4_readTest ln_X4_103 rfl rfl (Nat.le_of_ble_eq_true rfl) (Nat.le_refl _) (kc' := 0) (ks' := 0) rfl rfl (fun v5 u6 h => ?_)
      refine E_if_ne (tgt := 70) h dX4_readTest_65 (by decide) (fun h => ?_) (fun h => ?_)
      · refine E_aload_n dX4_readTest_70 rfl rfl ?_
        refine E_getA h dX4_readTest_71 cf4 lk_X4_24 (by decide) (fun _ _ _ => rfl) (fun e7 h => ?_)
        refine E_iload_n dX4_readTest_74 rfl rfl ?_
        refine E_iconst (v := 0) dX4_readTest_75 (by decide) ?_
        refine F_Vv h (fun m e => tX6_put e) dX4_readTest_76 hm_X6_put hv_X6_put ln_X4_126 rfl rfl (Nat.le_of_ble_eq_true rfl) (by omega) (kc' := 0) (ks' := 0) rfl rfl (fun u8 h => ?_)
        refine E_iinc (j := 4) (v := x4 + 1) (l' := [(4, .int (x4 + 1)), (0, .ref a0), (1, .int x1), (2, .int x2), (3, .int x3)]) dX4_readTest_79 rfl (addI (by decide)) (Nat.le_of_ble_eq_true rfl) rfl ?_
        refine E_goto (tgt := 41) dX4_readTest_82 (by decide) ?_
        refine Eg.pick [1, 2, 3, 4, 0] rfl ?_
        exact hk41 _ _ _ _ _ _ h
      · refine E_iconst (v := 0) dX4_readTest_68 (by decide) ?_
        exact E_zret h dX4_readTest_69 rfl
def rX4_readTest_41 (rT rS : Mm → Nat → Int32 → Int32 → Option (Int32 × Mm)) (rP rA : Mm → Nat → Int32 → Option (Int32 × Mm)) : Nat → Mm → Nat → Int32 → Int32 → Int32 → Int32 → Option (Int32 × Mm)
  | 0, _, _, _, _, _, _ => none
  | n + 1, u, a0, x1, x2, x3, x4 => bX4_readTest_41 rT rS rP rA (rX4_readTest_41 rT rS rP rA n) u a0 x1 x2 x3 x4
theorem prX4_readTest_41 {dd : Nat} (hdd : 0 ≤ dd) {rT : Mm → Nat → Int32 → Int32 → Option (Int32 × Mm)} (hT : ∀ (u : Mm) (a0 : Nat) (x1 x2 : Int32) (r : Int32) (u' : Mm), rT u a0 x1 x2 = some (r, u') → Ev dd MX4_readTest 0 0 [.ref a0, .int x1, .int x2] u (some (.int r), u')) {rS : Mm → Nat → Int32 → Int32 → Option (Int32 × Mm)} (hS : ∀ (u : Mm) (a0 : Nat) (x1 x2 : Int32) (r : Int32) (u' : Mm), rS u a0 x1 x2 = some (r, u') → Ev dd MX4_readSum 0 0 [.ref a0, .int x1, .int x2] u (some (.int r), u')) {rP : Mm → Nat → Int32 → Option (Int32 × Mm)} (hP : ∀ (u : Mm) (a0 : Nat) (x1 : Int32) (r : Int32) (u' : Mm), rP u a0 x1 = some (r, u') → Ev dd MX4_readPlain 0 0 [.ref a0, .int x1] u (some (.int r), u')) {rA : Mm → Nat → Int32 → Option (Int32 × Mm)} (hA : ∀ (u : Mm) (a0 : Nat) (x1 : Int32) (r : Int32) (u' : Mm), rA u a0 x1 = some (r, u') → Ev dd MX4_readPart 0 0 [.ref a0, .int x1] u (some (.int r), u')) {r : Int32} {u' : Mm} : ∀ (n : Nat) (u : Mm) (a0 : Nat) (x1 : Int32) (x2 : Int32) (x3 : Int32) (x4 : Int32), rX4_readTest_41 rT rS rP rA n u a0 x1 x2 x3 x4 = some (r, u') → Eg MX4_readTest (dd + 1) 0 0 (some (.int r), u') 41 [(0, .ref a0), (1, .int x1), (2, .int x2), (3, .int x3), (4, .int x4)] [] u
  | 0, _, _, _, _, _, _, h => by cases h
  | n + 1, u, a0, x1, x2, x3, x4, h => pX4_readTest_41 hdd hT hS hP hA (prX4_readTest_41 hdd hT hS hP hA n) u a0 x1 x2 x3 x4 h
def bX4_readTest_37 (rT rS : Mm → Nat → Int32 → Int32 → Option (Int32 × Mm)) (rP rA : Mm → Nat → Int32 → Option (Int32 × Mm)) (u : Mm) (a0 : Nat) (x1 : Int32) (x2 : Int32) (s0 : Int32) : Option (Int32 × Mm) := rX4_readTest_41 rT rS rP rA hwF u a0 x1 x2 s0 0
set_option maxRecDepth 100000 in
set_option maxHeartbeats 4000000 in
theorem pX4_readTest_37 {dd : Nat} (hdd : 0 ≤ dd) {rT : Mm → Nat → Int32 → Int32 → Option (Int32 × Mm)} (hT : ∀ (u : Mm) (a0 : Nat) (x1 x2 : Int32) (r : Int32) (u' : Mm), rT u a0 x1 x2 = some (r, u') → Ev dd MX4_readTest 0 0 [.ref a0, .int x1, .int x2] u (some (.int r), u')) {rS : Mm → Nat → Int32 → Int32 → Option (Int32 × Mm)} (hS : ∀ (u : Mm) (a0 : Nat) (x1 x2 : Int32) (r : Int32) (u' : Mm), rS u a0 x1 x2 = some (r, u') → Ev dd MX4_readSum 0 0 [.ref a0, .int x1, .int x2] u (some (.int r), u')) {rP : Mm → Nat → Int32 → Option (Int32 × Mm)} (hP : ∀ (u : Mm) (a0 : Nat) (x1 : Int32) (r : Int32) (u' : Mm), rP u a0 x1 = some (r, u') → Ev dd MX4_readPlain 0 0 [.ref a0, .int x1] u (some (.int r), u')) {rA : Mm → Nat → Int32 → Option (Int32 × Mm)} (hA : ∀ (u : Mm) (a0 : Nat) (x1 : Int32) (r : Int32) (u' : Mm), rA u a0 x1 = some (r, u') → Ev dd MX4_readPart 0 0 [.ref a0, .int x1] u (some (.int r), u')) {r : Int32} {u' : Mm} (u : Mm) (a0 : Nat) (x1 : Int32) (x2 : Int32) (s0 : Int32) (h : bX4_readTest_37 rT rS rP rA u a0 x1 x2 s0 = some (r, u')) : Eg MX4_readTest (dd + 1) 0 0 (some (.int r), u') 37 [(0, .ref a0), (1, .int x1), (2, .int x2)] [.int s0] u := by
  unfold bX4_readTest_37 at h
  refine E_istore_n (l' := [(3, .int s0), (0, .ref a0), (1, .int x1), (2, .int x2)]) dX4_readTest_37 rfl (Nat.le_of_ble_eq_true rfl) rfl ?_
  refine E_iconst (v := 0) dX4_readTest_38 (by decide) ?_
  refine E_istore (l' := [(4, .int 0), (3, .int s0), (0, .ref a0), (1, .int x1), (2, .int x2)]) dX4_readTest_39 (Nat.le_of_ble_eq_true rfl) rfl ?_
  refine Eg.pick [2, 3, 4, 1, 0] rfl ?_
  exact prX4_readTest_41 hdd hT hS hP hA _ _ _ _ _ _ _ h
def fgX4_readTest (rT rS : Mm → Nat → Int32 → Int32 → Option (Int32 × Mm)) (rP rA : Mm → Nat → Int32 → Option (Int32 × Mm)) (u : Mm) (a0 : Nat) (x1 : Int32) (x2 : Int32) : Option (Int32 × Mm) := (if (x1 : Int32) < 2 then oR u a0 4 (oB (rT u a0 (x1 + 1) x2) (fun v1 u2 => (if (v1 : Int32) = 0 then oZ 0 (some (0, u2)) else (if (x1 : Int32) = 0 then bX4_readTest_37 rT rS rP rA u2 a0 x1 x2 269 else bX4_readTest_37 rT rS rP rA u2 a0 x1 x2 270)))) else oR u a0 4 (oB (rP u a0 x2) (fun v9 u10 => oZ v9 (some (v9, u10)))))
set_option maxRecDepth 100000 in
set_option maxHeartbeats 4000000 in
theorem tgX4_readTest {dd : Nat} (hdd : 0 ≤ dd) {rT : Mm → Nat → Int32 → Int32 → Option (Int32 × Mm)} (hT : ∀ (u : Mm) (a0 : Nat) (x1 x2 : Int32) (r : Int32) (u' : Mm), rT u a0 x1 x2 = some (r, u') → Ev dd MX4_readTest 0 0 [.ref a0, .int x1, .int x2] u (some (.int r), u')) {rS : Mm → Nat → Int32 → Int32 → Option (Int32 × Mm)} (hS : ∀ (u : Mm) (a0 : Nat) (x1 x2 : Int32) (r : Int32) (u' : Mm), rS u a0 x1 x2 = some (r, u') → Ev dd MX4_readSum 0 0 [.ref a0, .int x1, .int x2] u (some (.int r), u')) {rP : Mm → Nat → Int32 → Option (Int32 × Mm)} (hP : ∀ (u : Mm) (a0 : Nat) (x1 : Int32) (r : Int32) (u' : Mm), rP u a0 x1 = some (r, u') → Ev dd MX4_readPlain 0 0 [.ref a0, .int x1] u (some (.int r), u')) {rA : Mm → Nat → Int32 → Option (Int32 × Mm)} (hA : ∀ (u : Mm) (a0 : Nat) (x1 : Int32) (r : Int32) (u' : Mm), rA u a0 x1 = some (r, u') → Ev dd MX4_readPart 0 0 [.ref a0, .int x1] u (some (.int r), u')) {u : Mm} {a0 : Nat} {x1 : Int32} {x2 : Int32} {r : Int32} {u' : Mm} (h : fgX4_readTest rT rS rP rA u a0 x1 x2 = some (r, u')) : Ev (dd + 1) MX4_readTest 0 0 [.ref a0, .int x1, .int x2] u (some (.int r), u') := by
  refine Ev.of (by decide +kernel) (Nat.le_of_ble_eq_true rfl) (show Eg MX4_readTest (dd + 1) 0 0 (some (.int r), u') 0 [(0, .ref a0), (1, .int x1), (2, .int x2)] [] u from ?_)
  unfold fgX4_readTest at h
  refine E_iload_n dX4_readTest_0 rfl rfl ?_
  refine E_iconst (v := 2) dX4_readTest_1 (by decide) ?_
  refine E_ic_lt (tgt := 11) h dX4_readTest_2 (by decide) (fun h => ?_) (fun h => ?_)
  · refine E_aload_n dX4_readTest_11 rfl rfl ?_
    refine E_iload_n dX4_readTest_12 rfl rfl ?_
    refine E_iconst (v := 1) dX4_readTest_13 (by decide) ?_
    refine E_iadd dX4_readTest_14 ?_
    refine E_iload_n dX4_readTest_15 rfl rfl ?_
    refine F_Vi h (fun a m e => hT _ _ _ _ a m e) dX4_readTest_16 hm_X4_readTest hv_X4_readTest ln_X4_103 rfl rfl (Nat.le_of_ble_eq_true rfl) (Nat.le_refl _) (kc' := 0) (ks' := 0) rfl rfl (fun v1 u2 h => ?_)
    refine E_if_ne (tgt := 24) h dX4_readTest_19 (by decide) (fun h => ?_) (fun h => ?_)
    · refine E_iload_n dX4_readTest_24 rfl rfl ?_
      refine E_if_ne (tgt := 34) h dX4_readTest_25 (by decide) (fun h => ?_) (fun h => ?_)
      · refine E_sipush (v := 270) dX4_readTest_34 (by decide) ?_
        refine Eg.pick [0, 1, 2] rfl ?_
        exact pX4_readTest_37 hdd hT hS hP hA _ _ _ _ _ h
      · refine E_sipush (v := 269) dX4_readTest_28 (by decide) ?_
        refine E_goto (tgt := 37) dX4_readTest_31 (by decide) ?_
        refine Eg.pick [0, 1, 2] rfl ?_
        exact pX4_readTest_37 hdd hT hS hP hA _ _ _ _ _ h
    · refine E_iconst (v := 0) dX4_readTest_22 (by decide) ?_
      exact E_zret h dX4_readTest_23 rfl
  · refine E_aload_n dX4_readTest_5 rfl rfl ?_
    refine E_iload_n dX4_readTest_6 rfl rfl ?_
    refine F_Vi h (fun a m e => hP _ _ _ a m e) dX4_readTest_7 hm_X4_readPlain hv_X4_readPlain ln_X4_123 rfl rfl (Nat.le_of_ble_eq_true rfl) (Nat.le_refl _) (kc' := 0) (ks' := 0) rfl rfl (fun v9 u10 h => ?_)
    exact E_zret h dX4_readTest_10 rfl
def bX4_readPlain_149 (rT rS : Mm → Nat → Int32 → Int32 → Option (Int32 × Mm)) (rP rA : Mm → Nat → Int32 → Option (Int32 × Mm)) (u : Mm) (a0 : Nat) (x2 : Int32) : Option (Int32 × Mm) := (if (2 : Int32) ≠ 0 then (if (x2 - x2 / 2 * 2 : Int32) = 1 then oK u a0 4 8 (oNn (mR u a0 7) (fun e15 => oR u e15 6 (oB (fX6_put u e15 271 0) (fun _ u16 => oZ 1 (some (1, u16)))))) else oZ 1 (some (1, u))) else none)
set_option maxRecDepth 100000 in
set_option maxHeartbeats 4000000 in
theorem pX4_readPlain_149 {dd : Nat} (hdd : 0 ≤ dd) {rT : Mm → Nat → Int32 → Int32 → Option (Int32 × Mm)} (hT : ∀ (u : Mm) (a0 : Nat) (x1 x2 : Int32) (r : Int32) (u' : Mm), rT u a0 x1 x2 = some (r, u') → Ev dd MX4_readTest 0 0 [.ref a0, .int x1, .int x2] u (some (.int r), u')) {rS : Mm → Nat → Int32 → Int32 → Option (Int32 × Mm)} (hS : ∀ (u : Mm) (a0 : Nat) (x1 x2 : Int32) (r : Int32) (u' : Mm), rS u a0 x1 x2 = some (r, u') → Ev dd MX4_readSum 0 0 [.ref a0, .int x1, .int x2] u (some (.int r), u')) {rP : Mm → Nat → Int32 → Option (Int32 × Mm)} (hP : ∀ (u : Mm) (a0 : Nat) (x1 : Int32) (r : Int32) (u' : Mm), rP u a0 x1 = some (r, u') → Ev dd MX4_readPlain 0 0 [.ref a0, .int x1] u (some (.int r), u')) {rA : Mm → Nat → Int32 → Option (Int32 × Mm)} (hA : ∀ (u : Mm) (a0 : Nat) (x1 : Int32) (r : Int32) (u' : Mm), rA u a0 x1 = some (r, u') → Ev dd MX4_readPart 0 0 [.ref a0, .int x1] u (some (.int r), u')) {r : Int32} {u' : Mm} (u : Mm) (a0 : Nat) (x2 : Int32) (h : bX4_readPlain_149 rT rS rP rA u a0 x2 = some (r, u')) : Eg MX4_readPlain (dd + 1) 0 0 (some (.int r), u') 149 [(0, .ref a0), (2, .int x2)] [] u := by
  unfold bX4_readPlain_149 at h
  refine E_iload_n dX4_readPlain_149 rfl rfl ?_
  refine E_iconst (v := 2) dX4_readPlain_150 (by decide) ?_
  refine E_irem h dX4_readPlain_151 (fun h => ?_)
  refine E_iconst (v := 1) dX4_readPlain_152 (by decide) ?_
  refine E_ic_ne (tgt := 167) h dX4_readPlain_153 (by decide) (fun h => ?_) (fun h => ?_)
  · refine E_iconst (v := 1) dX4_readPlain_167 (by decide) ?_
    exact E_zret h dX4_readPlain_168 rfl
  · refine E_aload_n dX4_readPlain_156 rfl rfl ?_
    refine E_getA h dX4_readPlain_157 cf4 lk_X4_24 (by decide) (fun _ _ _ => rfl) (fun e15 h => ?_)
    refine E_sipush (v := 271) dX4_readPlain_160 (by decide) ?_
    refine E_iconst (v := 0) dX4_readPlain_163 (by decide) ?_
    refine F_Vv h (fun m e => tX6_put e) dX4_readPlain_164 hm_X6_put hv_X6_put ln_X4_126 rfl rfl (Nat.le_of_ble_eq_true rfl) (by omega) (kc' := 0) (ks' := 0) rfl rfl (fun u16 h => ?_)
    refine E_iconst (v := 1) dX4_readPlain_167 (by decide) ?_
    exact E_zret h dX4_readPlain_168 rfl
def bX4_readPlain_129 (rT rS : Mm → Nat → Int32 → Int32 → Option (Int32 × Mm)) (rP rA : Mm → Nat → Int32 → Option (Int32 × Mm)) (u : Mm) (a0 : Nat) (x1 : Int32) (x2 : Int32) (x3 : Int32) : Option (Int32 × Mm) := oR u a0 4 (oB (rS u a0 0 x1) (fun v11 u12 => (if (v11 : Int32) = 0 then oZ 0 (some (0, u12)) else oK u12 a0 4 8 (oNn (mR u12 a0 7) (fun e13 => oR u12 e13 6 (oB (fX6_put u12 e13 x3 0) (fun _ u14 => bX4_readPlain_149 rT rS rP rA u14 a0 x2)))))))
set_option maxRecDepth 100000 in
set_option maxHeartbeats 4000000 in
theorem pX4_readPlain_129 {dd : Nat} (hdd : 0 ≤ dd) {rT : Mm → Nat → Int32 → Int32 → Option (Int32 × Mm)} (hT : ∀ (u : Mm) (a0 : Nat) (x1 x2 : Int32) (r : Int32) (u' : Mm), rT u a0 x1 x2 = some (r, u') → Ev dd MX4_readTest 0 0 [.ref a0, .int x1, .int x2] u (some (.int r), u')) {rS : Mm → Nat → Int32 → Int32 → Option (Int32 × Mm)} (hS : ∀ (u : Mm) (a0 : Nat) (x1 x2 : Int32) (r : Int32) (u' : Mm), rS u a0 x1 x2 = some (r, u') → Ev dd MX4_readSum 0 0 [.ref a0, .int x1, .int x2] u (some (.int r), u')) {rP : Mm → Nat → Int32 → Option (Int32 × Mm)} (hP : ∀ (u : Mm) (a0 : Nat) (x1 : Int32) (r : Int32) (u' : Mm), rP u a0 x1 = some (r, u') → Ev dd MX4_readPlain 0 0 [.ref a0, .int x1] u (some (.int r), u')) {rA : Mm → Nat → Int32 → Option (Int32 × Mm)} (hA : ∀ (u : Mm) (a0 : Nat) (x1 : Int32) (r : Int32) (u' : Mm), rA u a0 x1 = some (r, u') → Ev dd MX4_readPart 0 0 [.ref a0, .int x1] u (some (.int r), u')) {r : Int32} {u' : Mm} (u : Mm) (a0 : Nat) (x1 : Int32) (x2 : Int32) (x3 : Int32) (h : bX4_readPlain_129 rT rS rP rA u a0 x1 x2 x3 = some (r, u')) : Eg MX4_readPlain (dd + 1) 0 0 (some (.int r), u') 129 [(0, .ref a0), (1, .int x1), (2, .int x2), (3, .int x3)] [] u := by
  unfold bX4_readPlain_129 at h
  refine E_aload_n dX4_readPlain_129 rfl rfl ?_
  refine E_iconst (v := 0) dX4_readPlain_130 (by decide) ?_
  refine E_iload_n dX4_readPlain_131 rfl rfl ?_
  refine F_Vi h (fun a m e => hS _ _ _ _ a m e) dX4_readPlain_132 hm_X4_readSum hv_X4_readSum ln_X4_120 rfl rfl (Nat.le_of_ble_eq_true rfl) (Nat.le_refl _) (kc' := 0) (ks' := 0) rfl rfl (fun v11 u12 h => ?_)
  refine E_if_ne (tgt := 140) h dX4_readPlain_135 (by decide) (fun h => ?_) (fun h => ?_)
  · refine E_aload_n dX4_readPlain_140 rfl rfl ?_
    refine E_getA h dX4_readPlain_141 cf4 lk_X4_24 (by decide) (fun _ _ _ => rfl) (fun e13 h => ?_)
    refine E_iload_n dX4_readPlain_144 rfl rfl ?_
    refine E_iconst (v := 0) dX4_readPlain_145 (by decide) ?_
    refine F_Vv h (fun m e => tX6_put e) dX4_readPlain_146 hm_X6_put hv_X6_put ln_X4_126 rfl rfl (Nat.le_of_ble_eq_true rfl) (by omega) (kc' := 0) (ks' := 0) rfl rfl (fun u14 h => ?_)
    refine Eg.pick [0, 2] rfl ?_
    exact pX4_readPlain_149 hdd hT hS hP hA _ _ _ h
  · refine E_iconst (v := 0) dX4_readPlain_138 (by decide) ?_
    exact E_zret h dX4_readPlain_139 rfl
def bX4_readPlain_30 (rT rS : Mm → Nat → Int32 → Int32 → Option (Int32 × Mm)) (rP rA : Mm → Nat → Int32 → Option (Int32 × Mm)) (u : Mm) (a0 : Nat) (x1 : Int32) (x2 : Int32) : Option (Int32 × Mm) := oK u a0 4 8 (oNn (mR u a0 0) (fun e1 => oK u a0 4 8 (oI (mI u a0 4) (fun v2 => oA u e1 10 v2 (oI (mI u e1 (Int32.toNatClampNeg v2)) (fun v3 => (if (v3 : Int32) = 40 then (if (8 : Int32) ≤ x1 then oZ 0 (some (0, u)) else oR u a0 4 (oB (fX4_skip u a0 40) (fun v21 u22 => (if (v21 : Int32) = 0 then oZ 0 (some (0, u22)) else oR u22 a0 4 (oB (rT u22 a0 0 (x1 + 1)) (fun v23 u24 => (if (v23 : Int32) = 0 then oZ 0 (some (0, u24)) else oR u24 a0 4 (oB (fX4_skip u24 a0 41) (fun v25 u26 => (if (v25 : Int32) = 0 then oZ 0 (some (0, u26)) else bX4_readPlain_149 rT rS rP rA u26 a0 x2)))))))))) else oR u a0 4 (oB (rS u a0 0 x1) (fun v4 u5 => (if (v4 : Int32) = 0 then oZ 0 (some (0, u5)) else oK u5 a0 4 8 (oNn (mR u5 a0 0) (fun e6 => oK u5 a0 4 8 (oI (mI u5 a0 4) (fun v7 => oA u5 e6 10 v7 (oI (mI u5 e6 (Int32.toNatClampNeg v7)) (fun v8 => oR u5 a0 4 (oB (fX4_skip u5 a0 60) (fun v9 u10 => (if (v9 : Int32) = 0 then oR u10 a0 4 (oB (fX4_skip u10 a0 62) (fun v17 u18 => (if (v17 : Int32) = 0 then oR u18 a0 4 (oB (fX4_skip u18 a0 61) (fun v19 u20 => (if (v19 : Int32) = 0 then oZ 0 (some (0, u20)) else bX4_readPlain_129 rT rS rP rA u20 a0 x1 x2 v8))) else bX4_readPlain_129 rT rS rP rA u18 a0 x1 x2 v8))) else bX4_readPlain_129 rT rS rP rA u10 a0 x1 x2 v8)))))))))))))))))))
set_option maxRecDepth 100000 in
set_option maxHeartbeats 4000000 in
theorem pX4_readPlain_30 {dd : Nat} (hdd : 0 ≤ dd) {rT : Mm → Nat → Int32 → Int32 → Option (Int32 × Mm)} (hT : ∀ (u : Mm) (a0 : Nat) (x1 x2 : Int32) (r : Int32) (u' : Mm), rT u a0 x1 x2 = some (r, u') → Ev dd MX4_readTest 0 0 [.ref a0, .int x1, .int x2] u (some (.int r), u')) {rS : Mm → Nat → Int32 → Int32 → Option (Int32 × Mm)} (hS : ∀ (u : Mm) (a0 : Nat) (x1 x2 : Int32) (r : Int32) (u' : Mm), rS u a0 x1 x2 = some (r, u') → Ev dd MX4_readSum 0 0 [.ref a0, .int x1, .int x2] u (some (.int r), u')) {rP : Mm → Nat → Int32 → Option (Int32 × Mm)} (hP : ∀ (u : Mm) (a0 : Nat) (x1 : Int32) (r : Int32) (u' : Mm), rP u a0 x1 = some (r, u') → Ev dd MX4_readPlain 0 0 [.ref a0, .int x1] u (some (.int r), u')) {rA : Mm → Nat → Int32 → Option (Int32 × Mm)} (hA : ∀ (u : Mm) (a0 : Nat) (x1 : Int32) (r : Int32) (u' : Mm), rA u a0 x1 = some (r, u') → Ev dd MX4_readPart 0 0 [.ref a0, .int x1] u (some (.int r), u')) {r : Int32} {u' : Mm} (u : Mm) (a0 : Nat) (x1 : Int32) (x2 : Int32) (h : bX4_readPlain_30 rT rS rP rA u a0 x1 x2 = some (r, u')) : Eg MX4_readPlain (dd + 1) 0 0 (some (.int r), u') 30 [(0, .ref a0), (1, .int x1), (2, .int x2)] [] u := by
  unfold bX4_readPlain_30 at h
  refine E_aload_n dX4_readPlain_30 rfl rfl ?_
  refine E_getA h dX4_readPlain_31 cf4 lk_X4_9 (by decide) (fun _ _ _ => rfl) (fun e1 h => ?_)
  refine E_aload_n dX4_readPlain_34 rfl rfl ?_
  refine E_getI h dX4_readPlain_35 cf4 lk_X4_36 (by decide) (fun _ _ _ => rfl) (fun h => ?_)
  refine E_oI h (fun v2 h => ?_)
  refine E_iald h dX4_readPlain_38 (fun h => ?_)
  refine E_oI h (fun v3 h => ?_)
  refine E_bipush (v := 40) dX4_readPlain_39 (by decide) ?_
  refine E_ic_ne (tgt := 81) h dX4_readPlain_41 (by decide) (fun h => ?_) (fun h => ?_)
  · refine E_aload_n dX4_readPlain_81 rfl rfl ?_
    refine E_iconst (v := 0) dX4_readPlain_82 (by decide) ?_
    refine E_iload_n dX4_readPlain_83 rfl rfl ?_
    refine F_Vi h (fun a m e => hS _ _ _ _ a m e) dX4_readPlain_84 hm_X4_readSum hv_X4_readSum ln_X4_120 rfl rfl (Nat.le_of_ble_eq_true rfl) (Nat.le_refl _) (kc' := 0) (ks' := 0) rfl rfl (fun v4 u5 h => ?_)
    refine E_if_ne (tgt := 92) h dX4_readPlain_87 (by decide) (fun h => ?_) (fun h => ?_)
    · refine E_aload_n dX4_readPlain_92 rfl rfl ?_
      refine E_getA h dX4_readPlain_93 cf4 lk_X4_9 (by decide) (fun _ _ _ => rfl) (fun e6 h => ?_)
      refine E_aload_n dX4_readPlain_96 rfl rfl ?_
      refine E_getI h dX4_readPlain_97 cf4 lk_X4_36 (by decide) (fun _ _ _ => rfl) (fun h => ?_)
      refine E_oI h (fun v7 h => ?_)
      refine E_iald h dX4_readPlain_100 (fun h => ?_)
      refine E_oI h (fun v8 h => ?_)
      refine E_istore_n (l' := [(3, .int v8), (0, .ref a0), (1, .int x1), (2, .int x2)]) dX4_readPlain_101 rfl (Nat.le_of_ble_eq_true rfl) rfl ?_
      refine E_aload_n dX4_readPlain_102 rfl rfl ?_
      refine E_bipush (v := 60) dX4_readPlain_103 (by decide) ?_
      refine F_Vi h (fun a m e => tX4_skip e) dX4_readPlain_105 hm_X4_skip hv_X4_skip ln_X4_53 rfl rfl (Nat.le_of_ble_eq_true rfl) (by omega) (kc' := 0) (ks' := 0) rfl rfl (fun v9 u10 h => ?_)
      refine E_if_ne (tgt := 129) h dX4_readPlain_108 (by decide) (fun h => ?_) (fun h => ?_)
      · refine Eg.pick [1, 2, 3, 0] rfl ?_
        exact pX4_readPlain_129 hdd hT hS hP hA _ _ _ _ _ h
      · refine E_aload_n dX4_readPlain_111 rfl rfl ?_
        refine E_bipush (v := 62) dX4_readPlain_112 (by decide) ?_
        refine F_Vi h (fun a m e => tX4_skip e) dX4_readPlain_114 hm_X4_skip hv_X4_skip ln_X4_53 rfl rfl (Nat.le_of_ble_eq_true rfl) (by omega) (kc' := 0) (ks' := 0) rfl rfl (fun v17 u18 h => ?_)
        refine E_if_ne (tgt := 129) h dX4_readPlain_117 (by decide) (fun h => ?_) (fun h => ?_)
        · refine Eg.pick [1, 2, 3, 0] rfl ?_
          exact pX4_readPlain_129 hdd hT hS hP hA _ _ _ _ _ h
        · refine E_aload_n dX4_readPlain_120 rfl rfl ?_
          refine E_bipush (v := 61) dX4_readPlain_121 (by decide) ?_
          refine F_Vi h (fun a m e => tX4_skip e) dX4_readPlain_123 hm_X4_skip hv_X4_skip ln_X4_53 rfl rfl (Nat.le_of_ble_eq_true rfl) (by omega) (kc' := 0) (ks' := 0) rfl rfl (fun v19 u20 h => ?_)
          refine E_if_eq (tgt := 138) h dX4_readPlain_126 (by decide) (fun h => ?_) (fun h => ?_)
          · refine E_iconst (v := 0) dX4_readPlain_138 (by decide) ?_
            exact E_zret h dX4_readPlain_139 rfl
          · refine Eg.pick [1, 2, 3, 0] rfl ?_
            exact pX4_readPlain_129 hdd hT hS hP hA _ _ _ _ _ h
    · refine E_iconst (v := 0) dX4_readPlain_90 (by decide) ?_
      exact E_zret h dX4_readPlain_91 rfl
  · refine E_iload_n dX4_readPlain_44 rfl rfl ?_
    refine E_bipush (v := 8) dX4_readPlain_45 (by decide) ?_
    refine E_ic_ge (tgt := 79) h dX4_readPlain_47 (by decide) (fun h => ?_) (fun h => ?_)
    · refine E_iconst (v := 0) dX4_readPlain_79 (by decide) ?_
      exact E_zret h dX4_readPlain_80 rfl
    · refine E_aload_n dX4_readPlain_50 rfl rfl ?_
      refine E_bipush (v := 40) dX4_readPlain_51 (by decide) ?_
      refine F_Vi h (fun a m e => tX4_skip e) dX4_readPlain_53 hm_X4_skip hv_X4_skip ln_X4_53 rfl rfl (Nat.le_of_ble_eq_true rfl) (by omega) (kc' := 0) (ks' := 0) rfl rfl (fun v21 u22 h => ?_)
      refine E_if_eq (tgt := 79) h dX4_readPlain_56 (by decide) (fun h => ?_) (fun h => ?_)
      · refine E_iconst (v := 0) dX4_readPlain_79 (by decide) ?_
        exact E_zret h dX4_readPlain_80 rfl
      · refine E_aload_n dX4_readPlain_59 rfl rfl ?_
        refine E_iconst (v := 0) dX4_readPlain_60 (by decide) ?_
        refine E_iload_n dX4_readPlain_61 rfl rfl ?_
        refine E_iconst (v := 1) dX4_readPlain_62 (by decide) ?_
        refine E_iadd dX4_readPlain_63 ?_
        refine F_Vi h (fun a m e => hT _ _ _ _ a m e) dX4_readPlain_64 hm_X4_readTest hv_X4_readTest ln_X4_103 rfl rfl (Nat.le_of_ble_eq_true rfl) (Nat.le_refl _) (kc' := 0) (ks' := 0) rfl rfl (fun v23 u24 h => ?_)
        refine E_if_eq (tgt := 79) h dX4_readPlain_67 (by decide) (fun h => ?_) (fun h => ?_)
        · refine E_iconst (v := 0) dX4_readPlain_79 (by decide) ?_
          exact E_zret h dX4_readPlain_80 rfl
        · refine E_aload_n dX4_readPlain_70 rfl rfl ?_
          refine E_bipush (v := 41) dX4_readPlain_71 (by decide) ?_
          refine F_Vi h (fun a m e => tX4_skip e) dX4_readPlain_73 hm_X4_skip hv_X4_skip ln_X4_53 rfl rfl (Nat.le_of_ble_eq_true rfl) (by omega) (kc' := 0) (ks' := 0) rfl rfl (fun v25 u26 h => ?_)
          refine E_if_ne (tgt := 149) h dX4_readPlain_76 (by decide) (fun h => ?_) (fun h => ?_)
          · refine Eg.pick [0, 2] rfl ?_
            exact pX4_readPlain_149 hdd hT hS hP hA _ _ _ h
          · refine E_iconst (v := 0) dX4_readPlain_79 (by decide) ?_
            exact E_zret h dX4_readPlain_80 rfl
def bX4_readPlain_4 (rT rS : Mm → Nat → Int32 → Int32 → Option (Int32 × Mm)) (rP rA : Mm → Nat → Int32 → Option (Int32 × Mm)) (k4 : Mm → Nat → Int32 → Int32 → Int32 → Option (Int32 × Mm)) (u : Mm) (a0 : Nat) (x1 : Int32) (x2 : Int32) (x3 : Int32) : Option (Int32 × Mm) := (if (400 : Int32) ≤ x3 then bX4_readPlain_30 rT rS rP rA u a0 x1 x2 else oR u a0 4 (oB (fX4_skip u a0 271) (fun v27 u28 => (if (v27 : Int32) = 0 then bX4_readPlain_30 rT rS rP rA u28 a0 x1 x2 else k4 u28 a0 x1 (x2 + 1) (x3 + 1)))))
set_option maxRecDepth 100000 in
set_option maxHeartbeats 4000000 in
theorem pX4_readPlain_4 {dd : Nat} (hdd : 0 ≤ dd) {rT : Mm → Nat → Int32 → Int32 → Option (Int32 × Mm)} (hT : ∀ (u : Mm) (a0 : Nat) (x1 x2 : Int32) (r : Int32) (u' : Mm), rT u a0 x1 x2 = some (r, u') → Ev dd MX4_readTest 0 0 [.ref a0, .int x1, .int x2] u (some (.int r), u')) {rS : Mm → Nat → Int32 → Int32 → Option (Int32 × Mm)} (hS : ∀ (u : Mm) (a0 : Nat) (x1 x2 : Int32) (r : Int32) (u' : Mm), rS u a0 x1 x2 = some (r, u') → Ev dd MX4_readSum 0 0 [.ref a0, .int x1, .int x2] u (some (.int r), u')) {rP : Mm → Nat → Int32 → Option (Int32 × Mm)} (hP : ∀ (u : Mm) (a0 : Nat) (x1 : Int32) (r : Int32) (u' : Mm), rP u a0 x1 = some (r, u') → Ev dd MX4_readPlain 0 0 [.ref a0, .int x1] u (some (.int r), u')) {rA : Mm → Nat → Int32 → Option (Int32 × Mm)} (hA : ∀ (u : Mm) (a0 : Nat) (x1 : Int32) (r : Int32) (u' : Mm), rA u a0 x1 = some (r, u') → Ev dd MX4_readPart 0 0 [.ref a0, .int x1] u (some (.int r), u')) {r : Int32} {u' : Mm} {k4 : Mm → Nat → Int32 → Int32 → Int32 → Option (Int32 × Mm)} (hk4 : ∀ (u : Mm) (a0 : Nat) (x1 : Int32) (x2 : Int32) (x3 : Int32), k4 u a0 x1 x2 x3 = some (r, u') → Eg MX4_readPlain (dd + 1) 0 0 (some (.int r), u') 4 [(0, .ref a0), (1, .int x1), (2, .int x2), (3, .int x3)] [] u) (u : Mm) (a0 : Nat) (x1 : Int32) (x2 : Int32) (x3 : Int32) (h : bX4_readPlain_4 rT rS rP rA k4 u a0 x1 x2 x3 = some (r, u')) : Eg MX4_readPlain (dd + 1) 0 0 (some (.int r), u') 4 [(0, .ref a0), (1, .int x1), (2, .int x2), (3, .int x3)] [] u := by
  unfold bX4_readPlain_4 at h
  refine E_iload_n dX4_readPlain_4 rfl rfl ?_
  refine E_sipush (v := 400) dX4_readPlain_5 (by decide) ?_
  refine E_ic_ge (tgt := 30) h dX4_readPlain_8 (by decide) (fun h => ?_) (fun h => ?_)
  · refine Eg.pick [0, 1, 2] rfl ?_
    exact pX4_readPlain_30 hdd hT hS hP hA _ _ _ _ h
  · refine E_aload_n dX4_readPlain_11 rfl rfl ?_
    refine E_sipush (v := 271) dX4_readPlain_12 (by decide) ?_
    refine F_Vi h (fun a m e => tX4_skip e) dX4_readPlain_15 hm_X4_skip hv_X4_skip ln_X4_53 rfl rfl (Nat.le_of_ble_eq_true rfl) (by omega) (kc' := 0) (ks' := 0) rfl rfl (fun v27 u28 h => ?_)
    refine E_if_eq (tgt := 30) h dX4_readPlain_18 (by decide) (fun h => ?_) (fun h => ?_)
    · refine Eg.pick [0, 1, 2] rfl ?_
      exact pX4_readPlain_30 hdd hT hS hP hA _ _ _ _ h
    · refine E_iinc (j := 2) (v := x2 + 1) (l' := [(2, .int (x2 + 1)), (0, .ref a0), (1, .int x1), (3, .int x3)]) dX4_readPlain_21 rfl (addI (by decide)) (Nat.le_of_ble_eq_true rfl) rfl ?_
      refine E_iinc (j := 3) (v := x3 + 1) (l' := [(3, .int (x3 + 1)), (2, .int (x2 + 1)), (0, .ref a0), (1, .int x1)]) dX4_readPlain_24 rfl (addI (by decide)) (Nat.le_of_ble_eq_true rfl) rfl ?_
      refine E_goto (tgt := 4) dX4_readPlain_27 (by decide) ?_
      refine Eg.pick [2, 3, 1, 0] rfl ?_
      exact hk4 _ _ _ _ _ h
def rX4_readPlain_4 (rT rS : Mm → Nat → Int32 → Int32 → Option (Int32 × Mm)) (rP rA : Mm → Nat → Int32 → Option (Int32 × Mm)) : Nat → Mm → Nat → Int32 → Int32 → Int32 → Option (Int32 × Mm)
  | 0, _, _, _, _, _ => none
  | n + 1, u, a0, x1, x2, x3 => bX4_readPlain_4 rT rS rP rA (rX4_readPlain_4 rT rS rP rA n) u a0 x1 x2 x3
theorem prX4_readPlain_4 {dd : Nat} (hdd : 0 ≤ dd) {rT : Mm → Nat → Int32 → Int32 → Option (Int32 × Mm)} (hT : ∀ (u : Mm) (a0 : Nat) (x1 x2 : Int32) (r : Int32) (u' : Mm), rT u a0 x1 x2 = some (r, u') → Ev dd MX4_readTest 0 0 [.ref a0, .int x1, .int x2] u (some (.int r), u')) {rS : Mm → Nat → Int32 → Int32 → Option (Int32 × Mm)} (hS : ∀ (u : Mm) (a0 : Nat) (x1 x2 : Int32) (r : Int32) (u' : Mm), rS u a0 x1 x2 = some (r, u') → Ev dd MX4_readSum 0 0 [.ref a0, .int x1, .int x2] u (some (.int r), u')) {rP : Mm → Nat → Int32 → Option (Int32 × Mm)} (hP : ∀ (u : Mm) (a0 : Nat) (x1 : Int32) (r : Int32) (u' : Mm), rP u a0 x1 = some (r, u') → Ev dd MX4_readPlain 0 0 [.ref a0, .int x1] u (some (.int r), u')) {rA : Mm → Nat → Int32 → Option (Int32 × Mm)} (hA : ∀ (u : Mm) (a0 : Nat) (x1 : Int32) (r : Int32) (u' : Mm), rA u a0 x1 = some (r, u') → Ev dd MX4_readPart 0 0 [.ref a0, .int x1] u (some (.int r), u')) {r : Int32} {u' : Mm} : ∀ (n : Nat) (u : Mm) (a0 : Nat) (x1 : Int32) (x2 : Int32) (x3 : Int32), rX4_readPlain_4 rT rS rP rA n u a0 x1 x2 x3 = some (r, u') → Eg MX4_readPlain (dd + 1) 0 0 (some (.int r), u') 4 [(0, .ref a0), (1, .int x1), (2, .int x2), (3, .int x3)] [] u
  | 0, _, _, _, _, _, h => by cases h
  | n + 1, u, a0, x1, x2, x3, h => pX4_readPlain_4 hdd hT hS hP hA (prX4_readPlain_4 hdd hT hS hP hA n) u a0 x1 x2 x3 h
def fgX4_readPlain (rT rS : Mm → Nat → Int32 → Int32 → Option (Int32 × Mm)) (rP rA : Mm → Nat → Int32 → Option (Int32 × Mm)) (u : Mm) (a0 : Nat) (x1 : Int32) : Option (Int32 × Mm) := rX4_readPlain_4 rT rS rP rA hwF u a0 x1 0 0
set_option maxRecDepth 100000 in
set_option maxHeartbeats 4000000 in
theorem tgX4_readPlain {dd : Nat} (hdd : 0 ≤ dd) {rT : Mm → Nat → Int32 → Int32 → Option (Int32 × Mm)} (hT : ∀ (u : Mm) (a0 : Nat) (x1 x2 : Int32) (r : Int32) (u' : Mm), rT u a0 x1 x2 = some (r, u') → Ev dd MX4_readTest 0 0 [.ref a0, .int x1, .int x2] u (some (.int r), u')) {rS : Mm → Nat → Int32 → Int32 → Option (Int32 × Mm)} (hS : ∀ (u : Mm) (a0 : Nat) (x1 x2 : Int32) (r : Int32) (u' : Mm), rS u a0 x1 x2 = some (r, u') → Ev dd MX4_readSum 0 0 [.ref a0, .int x1, .int x2] u (some (.int r), u')) {rP : Mm → Nat → Int32 → Option (Int32 × Mm)} (hP : ∀ (u : Mm) (a0 : Nat) (x1 : Int32) (r : Int32) (u' : Mm), rP u a0 x1 = some (r, u') → Ev dd MX4_readPlain 0 0 [.ref a0, .int x1] u (some (.int r), u')) {rA : Mm → Nat → Int32 → Option (Int32 × Mm)} (hA : ∀ (u : Mm) (a0 : Nat) (x1 : Int32) (r : Int32) (u' : Mm), rA u a0 x1 = some (r, u') → Ev dd MX4_readPart 0 0 [.ref a0, .int x1] u (some (.int r), u')) {u : Mm} {a0 : Nat} {x1 : Int32} {r : Int32} {u' : Mm} (h : fgX4_readPlain rT rS rP rA u a0 x1 = some (r, u')) : Ev (dd + 1) MX4_readPlain 0 0 [.ref a0, .int x1] u (some (.int r), u') := by
  refine Ev.of (by decide +kernel) (Nat.le_of_ble_eq_true rfl) (show Eg MX4_readPlain (dd + 1) 0 0 (some (.int r), u') 0 [(0, .ref a0), (1, .int x1)] [] u from ?_)
  unfold fgX4_readPlain at h
  refine E_iconst (v := 0) dX4_readPlain_0 (by decide) ?_
  refine E_istore_n (l' := [(2, .int 0), (0, .ref a0), (1, .int x1)]) dX4_readPlain_1 rfl (Nat.le_of_ble_eq_true rfl) rfl ?_
  refine E_iconst (v := 0) dX4_readPlain_2 (by decide) ?_
  refine E_istore_n (l' := [(3, .int 0), (2, .int 0), (0, .ref a0), (1, .int x1)]) dX4_readPlain_3 rfl (Nat.le_of_ble_eq_true rfl) rfl ?_
  refine Eg.pick [2, 3, 1, 0] rfl ?_
  exact prX4_readPlain_4 hdd hT hS hP hA _ _ _ _ _ _ h
