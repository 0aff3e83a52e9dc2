/-! ===== methods as functions, with their contracts (printed by program) ===== -/
def fX1_supplyOf (u : Mm) (a0 : Nat) (x1 : Int32) : Option (Int32 × Mm) := oK u a0 1 1 (oNn (mR u a0 0) (fun e1 => oA u e1 10 ((24 : Int32) + x1) (oI (mI u e1 (Int32.toNatClampNeg ((24 : Int32) + x1))) (fun v2 => some (v2, u)))))
set_option maxRecDepth 100000 in
set_option maxHeartbeats 4000000 in
theorem tX1_supplyOf {u : Mm} {a0 : Nat} {x1 : Int32} {r : Int32} {u' : Mm} (h : fX1_supplyOf u a0 x1 = some (r, u')) : Ev 0 MX1_supplyOf 0 0 [.ref a0, .int x1] u (some (.int r), u') := by
  refine Ev.of (by decide +kernel) (Nat.le_of_ble_eq_true rfl) (show Eg MX1_supplyOf 0 0 0 (some (.int r), u') 0 [(0, .ref a0), (1, .int x1)] [] u from ?_)
  unfold fX1_supplyOf at h
  refine E_aload_n dX1_supplyOf_0 rfl rfl ?_
  refine E_getA h dX1_supplyOf_1 cf1 lk_X1_9 (by decide) (fun _ _ _ => rfl) (fun e1 h => ?_)
  refine E_bipush (v := 24) dX1_supplyOf_4 (by decide) ?_
  refine E_iload_n dX1_supplyOf_6 rfl rfl ?_
  refine E_iadd dX1_supplyOf_7 ?_
  refine E_iald h dX1_supplyOf_8 (fun h => ?_)
  refine E_oI h (fun v2 h => ?_)
  exact E_iret h dX1_supplyOf_9 rfl
def bJ9_min_7cf53_10 (u : Mm) (s0 : Int32) : Option (Int32 × Mm) := some (s0, u)
set_option maxRecDepth 100000 in
set_option maxHeartbeats 4000000 in
theorem pJ9_min_7cf53_10 {r : Int32} {u' : Mm} (u : Mm) (s0 : Int32) (h : bJ9_min_7cf53_10 u s0 = some (r, u')) : Eg MJ9_min_7cf53 0 0 0 (some (.int r), u') 10 [] [.int s0] u := by
  unfold bJ9_min_7cf53_10 at h
  exact E_iret h dJ9_min_7cf53_10 rfl
def fJ9_min_7cf53 (u : Mm) (x0 : Int32) (x1 : Int32) : Option (Int32 × Mm) := (if (x1 : Int32) < x0 then bJ9_min_7cf53_10 u x1 else bJ9_min_7cf53_10 u x0)
set_option maxRecDepth 100000 in
set_option maxHeartbeats 4000000 in
theorem tJ9_min_7cf53 {u : Mm} {x0 : Int32} {x1 : Int32} {r : Int32} {u' : Mm} (h : fJ9_min_7cf53 u x0 x1 = some (r, u')) : Ev 0 MJ9_min_7cf53 0 0 [.int x0, .int x1] u (some (.int r), u') := by
  refine Ev.ofF (by decide +kernel) (Nat.le_of_ble_eq_true rfl) (show Eg MJ9_min_7cf53 0 0 0 (some (.int r), u') 0 [(0, .int x0), (1, .int x1)] [] u from ?_)
  unfold fJ9_min_7cf53 at h
  refine E_iload_n dJ9_min_7cf53_0 rfl rfl ?_
  refine E_iload_n dJ9_min_7cf53_1 rfl rfl ?_
  refine E_ic_gt (tgt := 9) h dJ9_min_7cf53_2 (by decide) (fun h => ?_) (fun h => ?_)
  · refine E_iload_n dJ9_min_7cf53_9 rfl rfl ?_
    refine Eg.pick [] rfl ?_
    exact pJ9_min_7cf53_10 _ _ h
  · refine E_iload_n dJ9_min_7cf53_5 rfl rfl ?_
    refine E_goto (tgt := 10) dJ9_min_7cf53_6 (by decide) ?_
    refine Eg.pick [] rfl ?_
    exact pJ9_min_7cf53_10 _ _ h
def fX1_setSupply (u : Mm) (a0 : Nat) (x1 : Int32) (x2 : Int32) : Option (Unit × Mm) := oK u a0 1 1 (oNn (mR u a0 0) (fun e1 => oB (fJ9_min_7cf53 u x2 999) (fun v2 u3 => oA u3 e1 10 ((24 : Int32) + x1) (oU (wI u3 e1 (upd (mI u3 e1) (Int32.toNatClampNeg ((24 : Int32) + x1)) v2)) (fun u4 => some ((), u4))))))
set_option maxRecDepth 100000 in
set_option maxHeartbeats 4000000 in
theorem tX1_setSupply {u : Mm} {a0 : Nat} {x1 : Int32} {x2 : Int32} {r : Unit} {u' : Mm} (h : fX1_setSupply u a0 x1 x2 = some (r, u')) : Ev 1 MX1_setSupply 0 0 [.ref a0, .int x1, .int x2] u (none, u') := by
  refine Ev.of (by decide +kernel) (Nat.le_of_ble_eq_true rfl) (show Eg MX1_setSupply 1 0 0 (none, u') 0 [(0, .ref a0), (1, .int x1), (2, .int x2)] [] u from ?_)
  unfold fX1_setSupply at h
  refine E_aload_n dX1_setSupply_0 rfl rfl ?_
  refine E_getA h dX1_setSupply_1 cf1 lk_X1_9 (by decide) (fun _ _ _ => rfl) (fun e1 h => ?_)
  refine E_bipush (v := 24) dX1_setSupply_4 (by decide) ?_
  refine E_iload_n dX1_setSupply_6 rfl rfl ?_
  refine E_iadd dX1_setSupply_7 ?_
  refine E_iload_n dX1_setSupply_8 rfl rfl ?_
  refine E_sipush (v := 999) dX1_setSupply_9 (by decide) ?_
  refine F_Si h (fun a m e => tJ9_min_7cf53 e) dX1_setSupply_12 hm_J9_min_7cf53 hs_J9_min_7cf53 ln_X1_29 rfl rfl (Nat.le_of_ble_eq_true rfl) (Nat.le_of_ble_eq_true rfl) (kc' := 0) (ks' := 0) rfl rfl (fun v2 u3 h => ?_)
  refine E_iast h dX1_setSupply_15 (fun h => ?_)
  refine E_oU h (fun u4 h => ?_)
  exact E_vret h dX1_setSupply_16 rfl
def fX1_temperOf (u : Mm) (a0 : Nat) (x1 : Int32) : Option (Int32 × Mm) := oK u a0 1 1 (oNn (mR u a0 0) (fun e1 => oA u e1 10 ((26 : Int32) + x1) (oI (mI u e1 (Int32.toNatClampNeg ((26 : Int32) + x1))) (fun v2 => some (v2, u)))))
set_option maxRecDepth 100000 in
set_option maxHeartbeats 4000000 in
theorem tX1_temperOf {u : Mm} {a0 : Nat} {x1 : Int32} {r : Int32} {u' : Mm} (h : fX1_temperOf u a0 x1 = some (r, u')) : Ev 0 MX1_temperOf 0 0 [.ref a0, .int x1] u (some (.int r), u') := by
  refine Ev.of (by decide +kernel) (Nat.le_of_ble_eq_true rfl) (show Eg MX1_temperOf 0 0 0 (some (.int r), u') 0 [(0, .ref a0), (1, .int x1)] [] u from ?_)
  unfold fX1_temperOf at h
  refine E_aload_n dX1_temperOf_0 rfl rfl ?_
  refine E_getA h dX1_temperOf_1 cf1 lk_X1_9 (by decide) (fun _ _ _ => rfl) (fun e1 h => ?_)
  refine E_bipush (v := 26) dX1_temperOf_4 (by decide) ?_
  refine E_iload_n dX1_temperOf_6 rfl rfl ?_
  refine E_iadd dX1_temperOf_7 ?_
  refine E_iald h dX1_temperOf_8 (fun h => ?_)
  refine E_oI h (fun v2 h => ?_)
  exact E_iret h dX1_temperOf_9 rfl
def bJ9_max_7cf53_10 (u : Mm) (s0 : Int32) : Option (Int32 × Mm) := some (s0, u)
set_option maxRecDepth 100000 in
set_option maxHeartbeats 4000000 in
theorem pJ9_max_7cf53_10 {r : Int32} {u' : Mm} (u : Mm) (s0 : Int32) (h : bJ9_max_7cf53_10 u s0 = some (r, u')) : Eg MJ9_max_7cf53 0 0 0 (some (.int r), u') 10 [] [.int s0] u := by
  unfold bJ9_max_7cf53_10 at h
  exact E_iret h dJ9_max_7cf53_10 rfl
def fJ9_max_7cf53 (u : Mm) (x0 : Int32) (x1 : Int32) : Option (Int32 × Mm) := (if (x0 : Int32) < x1 then bJ9_max_7cf53_10 u x1 else bJ9_max_7cf53_10 u x0)
set_option maxRecDepth 100000 in
set_option maxHeartbeats 4000000 in
theorem tJ9_max_7cf53 {u : Mm} {x0 : Int32} {x1 : Int32} {r : Int32} {u' : Mm} (h : fJ9_max_7cf53 u x0 x1 = some (r, u')) : Ev 0 MJ9_max_7cf53 0 0 [.int x0, .int x1] u (some (.int r), u') := by
  refine Ev.ofF (by decide +kernel) (Nat.le_of_ble_eq_true rfl) (show Eg MJ9_max_7cf53 0 0 0 (some (.int r), u') 0 [(0, .int x0), (1, .int x1)] [] u from ?_)
  unfold fJ9_max_7cf53 at h
  refine E_iload_n dJ9_max_7cf53_0 rfl rfl ?_
  refine E_iload_n dJ9_max_7cf53_1 rfl rfl ?_
  refine E_ic_lt (tgt := 9) h dJ9_max_7cf53_2 (by decide) (fun h => ?_) (fun h => ?_)
  · refine E_iload_n dJ9_max_7cf53_9 rfl rfl ?_
    refine Eg.pick [] rfl ?_
    exact pJ9_max_7cf53_10 _ _ h
  · refine E_iload_n dJ9_max_7cf53_5 rfl rfl ?_
    refine E_goto (tgt := 10) dJ9_max_7cf53_6 (by decide) ?_
    refine Eg.pick [] rfl ?_
    exact pJ9_max_7cf53_10 _ _ h
def fX1_setTemper (u : Mm) (a0 : Nat) (x1 : Int32) (x2 : Int32) : Option (Unit × Mm) := oK u a0 1 1 (oNn (mR u a0 0) (fun e1 => oB (fJ9_min_7cf53 u x2 99) (fun v2 u3 => oB (fJ9_max_7cf53 u3 0 v2) (fun v4 u5 => oA u5 e1 10 ((26 : Int32) + x1) (oU (wI u5 e1 (upd (mI u5 e1) (Int32.toNatClampNeg ((26 : Int32) + x1)) v4)) (fun u6 => some ((), u6)))))))
set_option maxRecDepth 100000 in
set_option maxHeartbeats 4000000 in
theorem tX1_setTemper {u : Mm} {a0 : Nat} {x1 : Int32} {x2 : Int32} {r : Unit} {u' : Mm} (h : fX1_setTemper u a0 x1 x2 = some (r, u')) : Ev 1 MX1_setTemper 0 0 [.ref a0, .int x1, .int x2] u (none, u') := by
  refine Ev.of (by decide +kernel) (Nat.le_of_ble_eq_true rfl) (show Eg MX1_setTemper 1 0 0 (none, u') 0 [(0, .ref a0), (1, .int x1), (2, .int x2)] [] u from ?_)
  unfold fX1_setTemper at h
  refine E_aload_n dX1_setTemper_0 rfl rfl ?_
  refine E_getA h dX1_setTemper_1 cf1 lk_X1_9 (by decide) (fun _ _ _ => rfl) (fun e1 h => ?_)
  refine E_bipush (v := 26) dX1_setTemper_4 (by decide) ?_
  refine E_iload_n dX1_setTemper_6 rfl rfl ?_
  refine E_iadd dX1_setTemper_7 ?_
  refine E_iconst (v := 0) dX1_setTemper_8 (by decide) ?_
  refine E_iload_n dX1_setTemper_9 rfl rfl ?_
  refine E_bipush (v := 99) dX1_setTemper_10 (by decide) ?_
  refine F_Si h (fun a m e => tJ9_min_7cf53 e) dX1_setTemper_12 hm_J9_min_7cf53 hs_J9_min_7cf53 ln_X1_29 rfl rfl (Nat.le_of_ble_eq_true rfl) (Nat.le_of_ble_eq_true rfl) (kc' := 0) (ks' := 0) rfl rfl (fun v2 u3 h => ?_)
  refine F_Si h (fun a m e => tJ9_max_7cf53 e) dX1_setTemper_15 hm_J9_max_7cf53 hs_J9_max_7cf53 ln_X1_34 rfl rfl (Nat.le_of_ble_eq_true rfl) (Nat.le_of_ble_eq_true rfl) (kc' := 0) (ks' := 0) rfl rfl (fun v4 u5 h => ?_)
  refine E_iast h dX1_setTemper_18 (fun h => ?_)
  refine E_oU h (fun u6 h => ?_)
  exact E_vret h dX1_setTemper_19 rfl
def fX2_init (u : Mm) (a0 : Nat) (a1 : Nat) (a2 : Nat) : Option (Unit × Mm) := oN 8 8 (oP (mN u) (fun e1 => oU (wN u 10 (Int32.toNatClampNeg 8)) (fun u2 => oK u2 a0 2 3 (oU (wR u2 a0 (va_up (mR u2 a0) 2 (some e1))) (fun u3 => oK u3 a0 2 3 (oU (wR u3 a0 (va_up (mR u3 a0) 0 (some a1))) (fun u4 => oK u4 a0 2 3 (oU (wR u4 a0 (va_up (mR u4 a0) 1 (some a2))) (fun u5 => some ((), u5))))))))))
set_option maxRecDepth 100000 in
set_option maxHeartbeats 4000000 in
theorem tX2_init {u : Mm} {a0 : Nat} {a1 : Nat} {a2 : Nat} {r : Unit} {u' : Mm} (h : fX2_init u a0 a1 a2 = some (r, u')) : Ev 1 MX2_init 1 8 [.ref a0, .ref a1, .ref a2] u (none, u') := by
  refine Ev.of (by decide +kernel) (Nat.le_of_ble_eq_true rfl) (show Eg MX2_init 1 1 8 (none, u') 0 [(0, .ref a0), (1, .ref a1), (2, .ref a2)] [] u from ?_)
  unfold fX2_init at h
  refine E_aload_n dX2_init_0 rfl rfl ?_
  refine E_objInit dX2_init_1 ln_X2_3 oi_2 oi_3 (Nat.le_of_ble_eq_true rfl) (Nat.le_of_ble_eq_true rfl) ?_
  refine E_aload_n dX2_init_4 rfl rfl ?_
  refine E_bipush (v := 8) dX2_init_5 (by decide) ?_
  refine E_newI h dX2_init_7 aw_int (by decide) (kc' := 0) (ks' := 0) rfl rfl (fun h => ?_)
  refine E_oP h (fun e1 h => ?_)
  refine E_oU h (fun u2 h => ?_)
  refine E_putR h dX2_init_9 cf2 lk_X2_9 (by decide) (Or.inr ⟨rfl, rfl, rfl, lkm_X2_9⟩) (Or.inr ⟨_, rfl⟩) (fun h => ?_)
  refine E_oU h (fun u3 h => ?_)
  refine E_aload_n dX2_init_12 rfl rfl ?_
  refine E_aload_n dX2_init_13 rfl rfl ?_
  refine E_putR h dX2_init_14 cf2 lk_X2_15 (by decide) (Or.inr ⟨rfl, rfl, rfl, lkm_X2_15⟩) (Or.inl ⟨_, rfl⟩) (fun h => ?_)
  refine E_oU h (fun u4 h => ?_)
  refine E_aload_n dX2_init_17 rfl rfl ?_
  refine E_aload_n dX2_init_18 rfl rfl ?_
  refine E_putR h dX2_init_19 cf2 lk_X2_19 (by decide) (Or.inr ⟨rfl, rfl, rfl, lkm_X2_19⟩) (Or.inl ⟨_, rfl⟩) (fun h => ?_)
  refine E_oU h (fun u5 h => ?_)
  exact E_vret h dX2_init_22 rfl
def fJ6_bitCount_0f7a4 (u : Mm) (x0 : Int32) : Option (Int32 × Mm) := oI (x0 - (((Int32.toUInt32 x0 >>> (Int32.toUInt32 1 &&& Int32.toUInt32 31)).toInt32) &&& 1431655765)) (fun v1 => oI ((v1 &&& 858993459) + (((Int32.toUInt32 v1 >>> (Int32.toUInt32 2 &&& Int32.toUInt32 31)).toInt32) &&& 858993459)) (fun v2 => oI ((v2 + ((Int32.toUInt32 v2 >>> (Int32.toUInt32 4 &&& Int32.toUInt32 31)).toInt32)) &&& 252645135) (fun v3 => oI (v3 + ((Int32.toUInt32 v3 >>> (Int32.toUInt32 8 &&& Int32.toUInt32 31)).toInt32)) (fun v4 => oI (v4 + ((Int32.toUInt32 v4 >>> (Int32.toUInt32 16 &&& Int32.toUInt32 31)).toInt32)) (fun v5 => some (v5 &&& 63, u))))))
set_option maxRecDepth 100000 in
set_option maxHeartbeats 4000000 in
theorem tJ6_bitCount_0f7a4 {u : Mm} {x0 : Int32} {r : Int32} {u' : Mm} (h : fJ6_bitCount_0f7a4 u x0 = some (r, u')) : Ev 0 MJ6_bitCount_0f7a4 0 0 [.int x0] u (some (.int r), u') := by
  refine Ev.ofF (by decide +kernel) (Nat.le_of_ble_eq_true rfl) (show Eg MJ6_bitCount_0f7a4 0 0 0 (some (.int r), u') 0 [(0, .int x0)] [] u from ?_)
  unfold fJ6_bitCount_0f7a4 at h
  refine E_iload_n dJ6_bitCount_0f7a4_0 rfl rfl ?_
  refine E_iload_n dJ6_bitCount_0f7a4_1 rfl rfl ?_
  refine E_iconst (v := 1) dJ6_bitCount_0f7a4_2 (by decide) ?_
  refine E_iushr dJ6_bitCount_0f7a4_3 ?_
  refine E_ldcw dJ6_bitCount_0f7a4_4 rfl cn_J6_265 ?_
  refine E_iand dJ6_bitCount_0f7a4_7 ?_
  refine E_isub dJ6_bitCount_0f7a4_8 ?_
  refine E_oI h (fun v1 h => ?_)
  refine E_istore_n (l' := [(0, .int v1)]) dJ6_bitCount_0f7a4_9 rfl (Nat.le_of_ble_eq_true rfl) rfl ?_
  refine E_iload_n dJ6_bitCount_0f7a4_10 rfl rfl ?_
  refine E_ldcw dJ6_bitCount_0f7a4_11 rfl cn_J6_266 ?_
  refine E_iand dJ6_bitCount_0f7a4_14 ?_
  refine E_iload_n dJ6_bitCount_0f7a4_15 rfl rfl ?_
  refine E_iconst (v := 2) dJ6_bitCount_0f7a4_16 (by decide) ?_
  refine E_iushr dJ6_bitCount_0f7a4_17 ?_
  refine E_ldcw dJ6_bitCount_0f7a4_18 rfl cn_J6_266 ?_
  refine E_iand dJ6_bitCount_0f7a4_21 ?_
  refine E_iadd dJ6_bitCount_0f7a4_22 ?_
  refine E_oI h (fun v2 h => ?_)
  refine E_istore_n (l' := [(0, .int v2)]) dJ6_bitCount_0f7a4_23 rfl (Nat.le_of_ble_eq_true rfl) rfl ?_
  refine E_iload_n dJ6_bitCount_0f7a4_24 rfl rfl ?_
  refine E_iload_n dJ6_bitCount_0f7a4_25 rfl rfl ?_
  refine E_iconst (v := 4) dJ6_bitCount_0f7a4_26 (by decide) ?_
  refine E_iushr dJ6_bitCount_0f7a4_27 ?_
  refine E_iadd dJ6_bitCount_0f7a4_28 ?_
  refine E_ldcw dJ6_bitCount_0f7a4_29 rfl cn_J6_267 ?_
  refine E_iand dJ6_bitCount_0f7a4_32 ?_
  refine E_oI h (fun v3 h => ?_)
  refine E_istore_n (l' := [(0, .int v3)]) dJ6_bitCount_0f7a4_33 rfl (Nat.le_of_ble_eq_true rfl) rfl ?_
  refine E_iload_n dJ6_bitCount_0f7a4_34 rfl rfl ?_
  refine E_iload_n dJ6_bitCount_0f7a4_35 rfl rfl ?_
  refine E_bipush (v := 8) dJ6_bitCount_0f7a4_36 (by decide) ?_
  refine E_iushr dJ6_bitCount_0f7a4_38 ?_
  refine E_iadd dJ6_bitCount_0f7a4_39 ?_
  refine E_oI h (fun v4 h => ?_)
  refine E_istore_n (l' := [(0, .int v4)]) dJ6_bitCount_0f7a4_40 rfl (Nat.le_of_ble_eq_true rfl) rfl ?_
  refine E_iload_n dJ6_bitCount_0f7a4_41 rfl rfl ?_
  refine E_iload_n dJ6_bitCount_0f7a4_42 rfl rfl ?_
  refine E_bipush (v := 16) dJ6_bitCount_0f7a4_43 (by decide) ?_
  refine E_iushr dJ6_bitCount_0f7a4_45 ?_
  refine E_iadd dJ6_bitCount_0f7a4_46 ?_
  refine E_oI h (fun v5 h => ?_)
  refine E_istore_n (l' := [(0, .int v5)]) dJ6_bitCount_0f7a4_47 rfl (Nat.le_of_ble_eq_true rfl) rfl ?_
  refine E_iload_n dJ6_bitCount_0f7a4_48 rfl rfl ?_
  refine E_bipush (v := 63) dJ6_bitCount_0f7a4_49 (by decide) ?_
  refine E_iand dJ6_bitCount_0f7a4_51 ?_
  exact E_iret h dJ6_bitCount_0f7a4_52 rfl
def bX2_isFewer_21 (u : Mm) (s0 : Int32) : Option (Int32 × Mm) := oZ s0 (some (s0, u))
set_option maxRecDepth 100000 in
set_option maxHeartbeats 4000000 in
theorem pX2_isFewer_21 {r : Int32} {u' : Mm} (u : Mm) (s0 : Int32) (h : bX2_isFewer_21 u s0 = some (r, u')) : Eg MX2_isFewer 1 0 0 (some (.int r), u') 21 [] [.int s0] u := by
  unfold bX2_isFewer_21 at h
  exact E_zret h dX2_isFewer_21 rfl
def bX2_isFewer_16 (u : Mm) : Option (Int32 × Mm) := bX2_isFewer_21 u 1
set_option maxRecDepth 100000 in
set_option maxHeartbeats 4000000 in
theorem pX2_isFewer_16 {r : Int32} {u' : Mm} (u : Mm) (h : bX2_isFewer_16 u = some (r, u')) : Eg MX2_isFewer 1 0 0 (some (.int r), u') 16 [] [] u := by
  unfold bX2_isFewer_16 at h
  refine E_iconst (v := 1) dX2_isFewer_16 (by decide) ?_
  refine E_goto (tgt := 21) dX2_isFewer_17 (by decide) ?_
  refine Eg.pick [] rfl ?_
  exact pX2_isFewer_21 _ _ h
def fX2_isFewer (u : Mm) (x0 : Int32) (x1 : Int32) : Option (Int32 × Mm) := (if (x1 : Int32) = ((-1)) then bX2_isFewer_16 u else oB (fJ6_bitCount_0f7a4 u x0) (fun v1 u2 => oB (fJ6_bitCount_0f7a4 u2 x1) (fun v3 u4 => (if (v3 : Int32) ≤ v1 then bX2_isFewer_21 u4 0 else bX2_isFewer_16 u4))))
set_option maxRecDepth 100000 in
set_option maxHeartbeats 4000000 in
theorem tX2_isFewer {u : Mm} {x0 : Int32} {x1 : Int32} {r : Int32} {u' : Mm} (h : fX2_isFewer u x0 x1 = some (r, u')) : Ev 1 MX2_isFewer 0 0 [.int x0, .int x1] u (some (.int r), u') := by
  refine Ev.of (by decide +kernel) (Nat.le_of_ble_eq_true rfl) (show Eg MX2_isFewer 1 0 0 (some (.int r), u') 0 [(0, .int x0), (1, .int x1)] [] u from ?_)
  unfold fX2_isFewer at h
  refine E_iload_n dX2_isFewer_0 rfl rfl ?_
  refine E_iconst (v := (-1)) dX2_isFewer_1 (by decide) ?_
  refine E_ic_eq (tgt := 16) h dX2_isFewer_2 (by decide) (fun h => ?_) (fun h => ?_)
  · refine Eg.pick [] rfl ?_
    exact pX2_isFewer_16 _  h
  · refine E_iload_n dX2_isFewer_5 rfl rfl ?_
    refine F_Si h (fun a m e => tJ6_bitCount_0f7a4 e) dX2_isFewer_6 hm_J6_bitCount_0f7a4 hs_J6_bitCount_0f7a4 ln_X2_23 rfl rfl (Nat.le_of_ble_eq_true rfl) (Nat.le_of_ble_eq_true rfl) (kc' := 0) (ks' := 0) rfl rfl (fun v1 u2 h => ?_)
    refine E_iload_n dX2_isFewer_9 rfl rfl ?_
    refine F_Si h (fun a m e => tJ6_bitCount_0f7a4 e) dX2_isFewer_10 hm_J6_bitCount_0f7a4 hs_J6_bitCount_0f7a4 ln_X2_23 rfl rfl (Nat.le_of_ble_eq_true rfl) (Nat.le_of_ble_eq_true rfl) (kc' := 0) (ks' := 0) rfl rfl (fun v3 u4 h => ?_)
    refine E_ic_ge (tgt := 20) h dX2_isFewer_13 (by decide) (fun h => ?_) (fun h => ?_)
    · refine E_iconst (v := 0) dX2_isFewer_20 (by decide) ?_
      refine Eg.pick [] rfl ?_
      exact pX2_isFewer_21 _ _ h
    · refine Eg.pick [] rfl ?_
      exact pX2_isFewer_16 _  h
def fX8_pair (u : Mm) (x0 : Int32) (x1 : Int32) : Option (Int32 × Mm) := some ((x0 * 2) + x1, u)
set_option maxRecDepth 100000 in
set_option maxHeartbeats 4000000 in
theorem tX8_pair {u : Mm} {x0 : Int32} {x1 : Int32} {r : Int32} {u' : Mm} (h : fX8_pair u x0 x1 = some (r, u')) : Ev 0 MX8_pair 0 0 [.int x0, .int x1] u (some (.int r), u') := by
  refine Ev.of (by decide +kernel) (Nat.le_of_ble_eq_true rfl) (show Eg MX8_pair 0 0 0 (some (.int r), u') 0 [(0, .int x0), (1, .int x1)] [] u from ?_)
  unfold fX8_pair at h
  refine E_iload_n dX8_pair_0 rfl rfl ?_
  refine E_iconst (v := 2) dX8_pair_1 (by decide) ?_
  refine E_imul dX8_pair_2 ?_
  refine E_iload_n dX8_pair_3 rfl rfl ?_
  refine E_iadd dX8_pair_4 ?_
  exact E_iret h dX8_pair_5 rfl
def bX2_worthOf_39 (k5 : Mm → Nat → Int32 → Int32 → Int32 → Int32 → Option (Int32 × Mm)) (u : Mm) (a0 : Nat) (x1 : Int32) (x2 : Int32) (x3 : Int32) (x4 : Int32) : Option (Int32 × Mm) := k5 u a0 x1 x2 x3 (x4 + 1)
set_option maxRecDepth 100000 in
set_option maxHeartbeats 4000000 in
theorem pX2_worthOf_39 {r : Int32} {u' : Mm} {k5 : Mm → Nat → Int32 → Int32 → Int32 → Int32 → Option (Int32 × Mm)} (hk5 : ∀ (u : Mm) (a0 : Nat) (x1 : Int32) (x2 : Int32) (x3 : Int32) (x4 : Int32), k5 u a0 x1 x2 x3 x4 = some (r, u') → Eg MX2_worthOf 1 0 0 (some (.int r), u') 5 [(0, .ref a0), (1, .int x1), (2, .int x2), (3, .int x3), (4, .int x4)] [] u) (u : Mm) (a0 : Nat) (x1 : Int32) (x2 : Int32) (x3 : Int32) (x4 : Int32) (h : bX2_worthOf_39 k5 u a0 x1 x2 x3 x4 = some (r, u')) : Eg MX2_worthOf 1 0 0 (some (.int r), u') 39 [(0, .ref a0), (1, .int x1), (2, .int x2), (3, .int x3), (4, .int x4)] [] u := by
  unfold bX2_worthOf_39 at h
  refine E_iinc (j := 4) (v := x4 + 1) (l' := [(4, .int (x4 + 1)), (0, .ref a0), (1, .int x1), (2, .int x2), (3, .int x3)]) dX2_worthOf_39 rfl (addI (by decide)) (Nat.le_of_ble_eq_true rfl) rfl ?_
  refine E_goto (tgt := 5) dX2_worthOf_42 (by decide) ?_
  refine Eg.pick [1, 2, 3, 4, 0] rfl ?_
  exact hk5 _ _ _ _ _ _ h
def bX2_worthOf_5 (k5 : Mm → Nat → Int32 → Int32 → Int32 → Int32 → Option (Int32 × Mm)) (u : Mm) (a0 : Nat) (x1 : Int32) (x2 : Int32) (x3 : Int32) (x4 : Int32) : Option (Int32 × Mm) := (if (8 : Int32) ≤ x4 then some (x3, u) else (if ((x1 >>> (x4 &&& 31)) &&& 1 : Int32) = 1 then oK u a0 2 3 (oNn (mR u a0 0) (fun e1 => oK u e1 0 16 (oNn (mR u e1 3) (fun e2 => oB (fX8_pair u x4 x2) (fun v3 u4 => oA u4 e2 10 v3 (oI (mI u4 e2 (Int32.toNatClampNeg v3)) (fun v5 => oI (x3 + v5) (fun v6 => bX2_worthOf_39 k5 u4 a0 x1 x2 v6 x4)))))))) else bX2_worthOf_39 k5 u a0 x1 x2 x3 x4))
set_option maxRecDepth 100000 in
set_option maxHeartbeats 4000000 in
theorem pX2_worthOf_5 {r : Int32} {u' : Mm} {k5 : Mm → Nat → Int32 → Int32 → Int32 → Int32 → Option (Int32 × Mm)} (hk5 : ∀ (u : Mm) (a0 : Nat) (x1 : Int32) (x2 : Int32) (x3 : Int32) (x4 : Int32), k5 u a0 x1 x2 x3 x4 = some (r, u') → Eg MX2_worthOf 1 0 0 (some (.int r), u') 5 [(0, .ref a0), (1, .int x1), (2, .int x2), (3, .int x3), (4, .int x4)] [] u) (u : Mm) (a0 : Nat) (x1 : Int32) (x2 : Int32) (x3 : Int32) (x4 : Int32) (h : bX2_worthOf_5 k5 u a0 x1 x2 x3 x4 = some (r, u')) : Eg MX2_worthOf 1 0 0 (some (.int r), u') 5 [(0, .ref a0), (1, .int x1), (2, .int x2), (3, .int x3), (4, .int x4)] [] u := by
  unfold bX2_worthOf_5 at h
  refine E_iload dX2_worthOf_5 rfl ?_
  refine E_bipush (v := 8) dX2_worthOf_7 (by decide) ?_
  refine E_ic_ge (tgt := 45) h dX2_worthOf_9 (by decide) (fun h => ?_) (fun h => ?_)
  · refine E_iload_n dX2_worthOf_45 rfl rfl ?_
    exact E_iret h dX2_worthOf_46 rfl
  · refine E_iload_n dX2_worthOf_12 rfl rfl ?_
    refine E_iload dX2_worthOf_13 rfl ?_
    refine E_ishr dX2_worthOf_15 ?_
    refine E_iconst (v := 1) dX2_worthOf_16 (by decide) ?_
    refine E_iand dX2_worthOf_17 ?_
    refine E_iconst (v := 1) dX2_worthOf_18 (by decide) ?_
    refine E_ic_ne (tgt := 39) h dX2_worthOf_19 (by decide) (fun h => ?_) (fun h => ?_)
    · refine Eg.pick [0, 1, 2, 3, 4] rfl ?_
      exact pX2_worthOf_39 hk5 _ _ _ _ _ _ h
    · refine E_iload_n dX2_worthOf_22 rfl rfl ?_
      refine E_aload_n dX2_worthOf_23 rfl rfl ?_
      refine E_getA h dX2_worthOf_24 cf2 lk_X2_15 (by decide) (fun _ _ _ => rfl) (fun e1 h => ?_)
      refine E_getA h dX2_worthOf_27 cf0 lk_X2_43 (by decide) (fun _ _ _ => rfl) (fun e2 h => ?_)
      refine E_iload dX2_worthOf_30 rfl ?_
      refine E_iload_n dX2_worthOf_32 rfl rfl ?_
      refine F_Si h (fun a m e => tX8_pair e) dX2_worthOf_33 hm_X8_pair hs_X8_pair ln_X2_46 rfl rfl (Nat.le_of_ble_eq_true rfl) (Nat.le_of_ble_eq_true rfl) (kc' := 0) (ks' := 0) rfl rfl (fun v3 u4 h => ?_)
      refine E_iald h dX2_worthOf_36 (fun h => ?_)
      refine E_oI h (fun v5 h => ?_)
      refine E_iadd dX2_worthOf_37 ?_
      refine E_oI h (fun v6 h => ?_)
      refine E_istore_n (l' := [(3, .int v6), (0, .ref a0), (1, .int x1), (2, .int x2), (4, .int x4)]) dX2_worthOf_38 rfl (Nat.le_of_ble_eq_true rfl) rfl ?_
      refine Eg.pick [1, 2, 3, 0, 4] rfl ?_
      exact pX2_worthOf_39 hk5 _ _ _ _ _ _ h
def rX2_worthOf_5 : Nat → Mm → Nat → Int32 → Int32 → Int32 → Int32 → Option (Int32 × Mm)
  | 0, _, _, _, _, _, _ => none
  | n + 1, u, a0, x1, x2, x3, x4 => bX2_worthOf_5 (rX2_worthOf_5 n) u a0 x1 x2 x3 x4
theorem prX2_worthOf_5 {r : Int32} {u' : Mm} : ∀ (n : Nat) (u : Mm) (a0 : Nat) (x1 : Int32) (x2 : Int32) (x3 : Int32) (x4 : Int32), rX2_worthOf_5 n u a0 x1 x2 x3 x4 = some (r, u') → Eg MX2_worthOf 1 0 0 (some (.int r), u') 5 [(0, .ref a0), (1, .int x1), (2, .int x2), (3, .int x3), (4, .int x4)] [] u
  | 0, _, _, _, _, _, _, h => by cases h
  | n + 1, u, a0, x1, x2, x3, x4, h => pX2_worthOf_5 (prX2_worthOf_5 n) u a0 x1 x2 x3 x4 h
def fX2_worthOf (u : Mm) (a0 : Nat) (x1 : Int32) (x2 : Int32) : Option (Int32 × Mm) := rX2_worthOf_5 hwF u a0 x1 x2 0 0
set_option maxRecDepth 100000 in
set_option maxHeartbeats 4000000 in
theorem tX2_worthOf {u : Mm} {a0 : Nat} {x1 : Int32} {x2 : Int32} {r : Int32} {u' : Mm} (h : fX2_worthOf u a0 x1 x2 = some (r, u')) : Ev 1 MX2_worthOf 0 0 [.ref a0, .int x1, .int x2] u (some (.int r), u') := by
  refine Ev.of (by decide +kernel) (Nat.le_of_ble_eq_true rfl) (show Eg MX2_worthOf 1 0 0 (some (.int r), u') 0 [(0, .ref a0), (1, .int x1), (2, .int x2)] [] u from ?_)
  unfold fX2_worthOf at h
  refine E_iconst (v := 0) dX2_worthOf_0 (by decide) ?_
  refine E_istore_n (l' := [(3, .int 0), (0, .ref a0), (1, .int x1), (2, .int x2)]) dX2_worthOf_1 rfl (Nat.le_of_ble_eq_true rfl) rfl ?_
  refine E_iconst (v := 0) dX2_worthOf_2 (by decide) ?_
  refine E_istore (l' := [(4, .int 0), (3, .int 0), (0, .ref a0), (1, .int x1), (2, .int x2)]) dX2_worthOf_3 (Nat.le_of_ble_eq_true rfl) rfl ?_
  refine Eg.pick [2, 3, 4, 1, 0] rfl ?_
  exact prX2_worthOf_5 _ _ _ _ _ _ _ h
def bX2_treatyWords_53 (k4 : Mm → Nat → Int32 → Int32 → Option (Int32 × Mm)) (u : Mm) (a0 : Nat) (x1 : Int32) (x2 : Int32) : Option (Int32 × Mm) := k4 u a0 x1 (x2 + 1)
set_option maxRecDepth 100000 in
set_option maxHeartbeats 4000000 in
theorem pX2_treatyWords_53 {r : Int32} {u' : Mm} {k4 : Mm → Nat → Int32 → Int32 → Option (Int32 × Mm)} (hk4 : ∀ (u : Mm) (a0 : Nat) (x1 : Int32) (x2 : Int32), k4 u a0 x1 x2 = some (r, u') → Eg MX2_treatyWords 2 0 0 (some (.int r), u') 4 [(0, .ref a0), (1, .int x1), (2, .int x2)] [] u) (u : Mm) (a0 : Nat) (x1 : Int32) (x2 : Int32) (h : bX2_treatyWords_53 k4 u a0 x1 x2 = some (r, u')) : Eg MX2_treatyWords 2 0 0 (some (.int r), u') 53 [(0, .ref a0), (1, .int x1), (2, .int x2)] [] u := by
  unfold bX2_treatyWords_53 at h
  refine E_iinc (j := 2) (v := x2 + 1) (l' := [(2, .int (x2 + 1)), (0, .ref a0), (1, .int x1)]) dX2_treatyWords_53 rfl (addI (by decide)) (Nat.le_of_ble_eq_true rfl) rfl ?_
  refine E_goto (tgt := 4) dX2_treatyWords_56 (by decide) ?_
  refine Eg.pick [1, 2, 0] rfl ?_
  exact hk4 _ _ _ _ h
def bX2_treatyWords_4 (k4 : Mm → Nat → Int32 → Int32 → Option (Int32 × Mm)) (u : Mm) (a0 : Nat) (x1 : Int32) (x2 : Int32) : Option (Int32 × Mm) := (if (256 : Int32) ≤ x2 then some (x1, u) else oB (fX2_isFewer u x2 x1) (fun v1 u2 => (if (v1 : Int32) = 0 then bX2_treatyWords_53 k4 u2 a0 x1 x2 else oR u2 a0 2 (oB (fX2_worthOf u2 a0 x2 0) (fun v3 u4 => oK u4 a0 2 3 (oNn (mR u4 a0 0) (fun e5 => oK u4 e5 0 16 (oI (mI u4 e5 11) (fun v6 => (if (v3 : Int32) < v6 then bX2_treatyWords_53 k4 u4 a0 x1 x2 else oR u4 a0 2 (oB (fX2_worthOf u4 a0 x2 1) (fun v7 u8 => oK u8 a0 2 3 (oNn (mR u8 a0 0) (fun e9 => oK u8 e9 0 16 (oI (mI u8 e9 11) (fun v10 => (if (v7 : Int32) < v10 then bX2_treatyWords_53 k4 u8 a0 x1 x2 else bX2_treatyWords_53 k4 u8 a0 x2 x2)))))))))))))))))
set_option maxRecDepth 100000 in
set_option maxHeartbeats 4000000 in
theorem pX2_treatyWords_4 {r : Int32} {u' : Mm} {k4 : Mm → Nat → Int32 → Int32 → Option (Int32 × Mm)} (hk4 : ∀ (u : Mm) (a0 : Nat) (x1 : Int32) (x2 : Int32), k4 u a0 x1 x2 = some (r, u') → Eg MX2_treatyWords 2 0 0 (some (.int r), u') 4 [(0, .ref a0), (1, .int x1), (2, .int x2)] [] u) (u : Mm) (a0 : Nat) (x1 : Int32) (x2 : Int32) (h : bX2_treatyWords_4 k4 u a0 x1 x2 = some (r, u')) : Eg MX2_treatyWords 2 0 0 (some (.int r), u') 4 [(0, .ref a0), (1, .int x1), (2, .int x2)] [] u := by
  unfold bX2_treatyWords_4 at h
  refine E_iload_n dX2_treatyWords_4 rfl rfl ?_
  refine E_sipush (v := 256) dX2_treatyWords_5 (by decide) ?_
  refine E_ic_ge (tgt := 59) h dX2_treatyWords_8 (by decide) (fun h => ?_) (fun h => ?_)
  · refine E_iload_n dX2_treatyWords_59 rfl rfl ?_
    exact E_iret h dX2_treatyWords_60 rfl
  · refine E_iload_n dX2_treatyWords_11 rfl rfl ?_
    refine E_iload_n dX2_treatyWords_12 rfl rfl ?_
    refine F_Si h (fun a m e => tX2_isFewer e) dX2_treatyWords_13 hm_X2_isFewer hs_X2_isFewer ln_X2_29 rfl rfl (Nat.le_of_ble_eq_true rfl) (Nat.le_of_ble_eq_true rfl) (kc' := 0) (ks' := 0) rfl rfl (fun v1 u2 h => ?_)
    refine E_if_eq (tgt := 53) h dX2_treatyWords_16 (by decide) (fun h => ?_) (fun h => ?_)
    · refine Eg.pick [0, 1, 2] rfl ?_
      exact pX2_treatyWords_53 hk4 _ _ _ _ h
    · refine E_aload_n dX2_treatyWords_19 rfl rfl ?_
      refine E_iload_n dX2_treatyWords_20 rfl rfl ?_
      refine E_iconst (v := 0) dX2_treatyWords_21 (by decide) ?_
      refine F_Vi h (fun a m e => tX2_worthOf e) dX2_treatyWords_22 hm_X2_worthOf hv_X2_worthOf ln_X2_33 rfl rfl (Nat.le_of_ble_eq_true rfl) (Nat.le_of_ble_eq_true rfl) (kc' := 0) (ks' := 0) rfl rfl (fun v3 u4 h => ?_)
      refine E_aload_n dX2_treatyWords_25 rfl rfl ?_
      refine E_getA h dX2_treatyWords_26 cf2 lk_X2_15 (by decide) (fun _ _ _ => rfl) (fun e5 h => ?_)
      refine E_getI h dX2_treatyWords_29 cf0 lk_X2_37 (by decide) (fun _ _ _ => rfl) (fun h => ?_)
      refine E_oI h (fun v6 h => ?_)
      refine E_ic_lt (tgt := 53) h dX2_treatyWords_32 (by decide) (fun h => ?_) (fun h => ?_)
      · refine Eg.pick [0, 1, 2] rfl ?_
        exact pX2_treatyWords_53 hk4 _ _ _ _ h
      · refine E_aload_n dX2_treatyWords_35 rfl rfl ?_
        refine E_iload_n dX2_treatyWords_36 rfl rfl ?_
        refine E_iconst (v := 1) dX2_treatyWords_37 (by decide) ?_
        refine F_Vi h (fun a m e => tX2_worthOf e) dX2_treatyWords_38 hm_X2_worthOf hv_X2_worthOf ln_X2_33 rfl rfl (Nat.le_of_ble_eq_true rfl) (Nat.le_of_ble_eq_true rfl) (kc' := 0) (ks' := 0) rfl rfl (fun v7 u8 h => ?_)
        refine E_aload_n dX2_treatyWords_41 rfl rfl ?_
        refine E_getA h dX2_treatyWords_42 cf2 lk_X2_15 (by decide) (fun _ _ _ => rfl) (fun e9 h => ?_)
        refine E_getI h dX2_treatyWords_45 cf0 lk_X2_37 (by decide) (fun _ _ _ => rfl) (fun h => ?_)
        refine E_oI h (fun v10 h => ?_)
        refine E_ic_lt (tgt := 53) h dX2_treatyWords_48 (by decide) (fun h => ?_) (fun h => ?_)
        · refine Eg.pick [0, 1, 2] rfl ?_
          exact pX2_treatyWords_53 hk4 _ _ _ _ h
        · refine E_iload_n dX2_treatyWords_51 rfl rfl ?_
          refine E_istore_n (l' := [(1, .int x2), (0, .ref a0), (2, .int x2)]) dX2_treatyWords_52 rfl (Nat.le_of_ble_eq_true rfl) rfl ?_
          refine Eg.pick [1, 0, 2] rfl ?_
          exact pX2_treatyWords_53 hk4 _ _ _ _ h
def rX2_treatyWords_4 : Nat → Mm → Nat → Int32 → Int32 → Option (Int32 × Mm)
  | 0, _, _, _, _ => none
  | n + 1, u, a0, x1, x2 => bX2_treatyWords_4 (rX2_treatyWords_4 n) u a0 x1 x2
theorem prX2_treatyWords_4 {r : Int32} {u' : Mm} : ∀ (n : Nat) (u : Mm) (a0 : Nat) (x1 : Int32) (x2 : Int32), rX2_treatyWords_4 n u a0 x1 x2 = some (r, u') → Eg MX2_treatyWords 2 0 0 (some (.int r), u') 4 [(0, .ref a0), (1, .int x1), (2, .int x2)] [] u
  | 0, _, _, _, _, h => by cases h
  | n + 1, u, a0, x1, x2, h => pX2_treatyWords_4 (prX2_treatyWords_4 n) u a0 x1 x2 h
def fX2_treatyWords (u : Mm) (a0 : Nat) : Option (Int32 × Mm) := rX2_treatyWords_4 hwF u a0 ((-1)) 0
set_option maxRecDepth 100000 in
set_option maxHeartbeats 4000000 in
theorem tX2_treatyWords {u : Mm} {a0 : Nat} {r : Int32} {u' : Mm} (h : fX2_treatyWords u a0 = some (r, u')) : Ev 2 MX2_treatyWords 0 0 [.ref a0] u (some (.int r), u') := by
  refine Ev.of (by decide +kernel) (Nat.le_of_ble_eq_true rfl) (show Eg MX2_treatyWords 2 0 0 (some (.int r), u') 0 [(0, .ref a0)] [] u from ?_)
  unfold fX2_treatyWords at h
  refine E_iconst (v := (-1)) dX2_treatyWords_0 (by decide) ?_
  refine E_istore_n (l' := [(1, .int ((-1))), (0, .ref a0)]) dX2_treatyWords_1 rfl (Nat.le_of_ble_eq_true rfl) rfl ?_
  refine E_iconst (v := 0) dX2_treatyWords_2 (by decide) ?_
  refine E_istore_n (l' := [(2, .int 0), (1, .int ((-1))), (0, .ref a0)]) dX2_treatyWords_3 rfl (Nat.le_of_ble_eq_true rfl) rfl ?_
  refine Eg.pick [2, 1, 0] rfl ?_
  exact prX2_treatyWords_4 _ _ _ _ _ h
def bX2_partAt_30 (u : Mm) (s0 : Int32) : Option (Int32 × Mm) := some (s0, u)
set_option maxRecDepth 100000 in
set_option maxHeartbeats 4000000 in
theorem pX2_partAt_30 {r : Int32} {u' : Mm} (u : Mm) (s0 : Int32) (h : bX2_partAt_30 u s0 = some (r, u')) : Eg MX2_partAt 1 0 0 (some (.int r), u') 30 [] [.int s0] u := by
  unfold bX2_partAt_30 at h
  exact E_iret h dX2_partAt_30 rfl
def fX2_partAt (u : Mm) (a0 : Nat) (x1 : Int32) (x2 : Int32) (x3 : Int32) : Option (Int32 × Mm) := oK u a0 2 3 (oNn (mR u a0 0) (fun e1 => oK u e1 0 16 (oNn (mR u e1 4) (fun e2 => oB (fX8_pair u x1 x2) (fun v3 u4 => oA u4 e2 10 v3 (oI (mI u4 e2 (Int32.toNatClampNeg v3)) (fun v5 => (if (x3 : Int32) = 1 then bX2_partAt_30 u4 v5 else bX2_partAt_30 u4 ((10 : Int32) - v5)))))))))
set_option maxRecDepth 100000 in
set_option maxHeartbeats 4000000 in
theorem tX2_partAt {u : Mm} {a0 : Nat} {x1 : Int32} {x2 : Int32} {x3 : Int32} {r : Int32} {u' : Mm} (h : fX2_partAt u a0 x1 x2 x3 = some (r, u')) : Ev 1 MX2_partAt 0 0 [.ref a0, .int x1, .int x2, .int x3] u (some (.int r), u') := by
  refine Ev.of (by decide +kernel) (Nat.le_of_ble_eq_true rfl) (show Eg MX2_partAt 1 0 0 (some (.int r), u') 0 [(0, .ref a0), (1, .int x1), (2, .int x2), (3, .int x3)] [] u from ?_)
  unfold fX2_partAt at h
  refine E_aload_n dX2_partAt_0 rfl rfl ?_
  refine E_getA h dX2_partAt_1 cf2 lk_X2_15 (by decide) (fun _ _ _ => rfl) (fun e1 h => ?_)
  refine E_getA h dX2_partAt_4 cf0 lk_X2_73 (by decide) (fun _ _ _ => rfl) (fun e2 h => ?_)
  refine E_iload_n dX2_partAt_7 rfl rfl ?_
  refine E_iload_n dX2_partAt_8 rfl rfl ?_
  refine F_Si h (fun a m e => tX8_pair e) dX2_partAt_9 hm_X8_pair hs_X8_pair ln_X2_46 rfl rfl (Nat.le_of_ble_eq_true rfl) (Nat.le_of_ble_eq_true rfl) (kc' := 0) (ks' := 0) rfl rfl (fun v3 u4 h => ?_)
  refine E_iald h dX2_partAt_12 (fun h => ?_)
  refine E_oI h (fun v5 h => ?_)
  refine E_istore (l' := [(4, .int v5), (0, .ref a0), (1, .int x1), (2, .int x2), (3, .int x3)]) dX2_partAt_13 (Nat.le_of_ble_eq_true rfl) rfl ?_
  refine E_iload_n dX2_partAt_15 rfl rfl ?_
  refine E_iconst (v := 1) dX2_partAt_16 (by decide) ?_
  refine E_ic_ne (tgt := 25) h dX2_partAt_17 (by decide) (fun h => ?_) (fun h => ?_)
  · refine E_bipush (v := 10) dX2_partAt_25 (by decide) ?_
    refine E_iload dX2_partAt_27 rfl ?_
    refine E_isub dX2_partAt_29 ?_
    refine Eg.pick [] rfl ?_
    exact pX2_partAt_30 _ _ h
  · refine E_iload dX2_partAt_20 rfl ?_
    refine E_goto (tgt := 30) dX2_partAt_22 (by decide) ?_
    refine Eg.pick [] rfl ?_
    exact pX2_partAt_30 _ _ h
def bX2_partsOf_5 (k5 : Mm → Nat → Int32 → Int64 → Int32 → Option (Int64 × Mm)) (u : Mm) (a0 : Nat) (x1 : Int32) (y2 : Int64) (x4 : Int32) : Option (Int64 × Mm) := oK u a0 2 3 (oNn (mR u a0 0) (fun e1 => oK u e1 0 16 (oI (mI u e1 7) (fun v2 => (if (v2 : Int32) ≤ x4 then some (y2, u) else (if (8 : Int32) ≤ x4 then some (y2, u) else oK u a0 2 3 (oNn (mR u a0 0) (fun e3 => oK u e3 0 16 (oNn (mR u e3 5) (fun e4 => oA u e4 10 x4 (oI (mI u e4 (Int32.toNatClampNeg x4)) (fun v5 => oK u a0 2 3 (oNn (mR u a0 0) (fun e6 => oK u e6 0 16 (oNn (mR u e6 6) (fun e7 => oA u e7 10 x4 (oI (mI u e7 (Int32.toNatClampNeg x4)) (fun v8 => oR u a0 2 (oB (fX2_partAt u a0 v5 x1 v8) (fun v9 u10 => oJ (y2 * (Int32.toInt64 v9)) (fun w11 => k5 u10 a0 x1 w11 (x4 + 1))))))))))))))))))))))
set_option maxRecDepth 100000 in
set_option maxHeartbeats 4000000 in
theorem pX2_partsOf_5 {r : Int64} {u' : Mm} {k5 : Mm → Nat → Int32 → Int64 → Int32 → Option (Int64 × Mm)} (hk5 : ∀ (u : Mm) (a0 : Nat) (x1 : Int32) (y2 : Int64) (x4 : Int32), k5 u a0 x1 y2 x4 = some (r, u') → Eg MX2_partsOf 2 0 0 (some (.long r), u') 5 [(0, .ref a0), (1, .int x1), (2, .long y2), (4, .int x4)] [] u) (u : Mm) (a0 : Nat) (x1 : Int32) (y2 : Int64) (x4 : Int32) (h : bX2_partsOf_5 k5 u a0 x1 y2 x4 = some (r, u')) : Eg MX2_partsOf 2 0 0 (some (.long r), u') 5 [(0, .ref a0), (1, .int x1), (2, .long y2), (4, .int x4)] [] u := by
  unfold bX2_partsOf_5 at h
  refine E_iload dX2_partsOf_5 rfl ?_
  refine E_aload_n dX2_partsOf_7 rfl rfl ?_
  refine E_getA h dX2_partsOf_8 cf2 lk_X2_15 (by decide) (fun _ _ _ => rfl) (fun e1 h => ?_)
  refine E_getI h dX2_partsOf_11 cf0 lk_X2_64 (by decide) (fun _ _ _ => rfl) (fun h => ?_)
  refine E_oI h (fun v2 h => ?_)
  refine E_ic_ge (tgt := 59) h dX2_partsOf_14 (by decide) (fun h => ?_) (fun h => ?_)
  · refine E_lload_n dX2_partsOf_59 rfl rfl ?_
    exact E_lret h dX2_partsOf_60 rfl
  · refine E_iload dX2_partsOf_17 rfl ?_
    refine E_bipush (v := 8) dX2_partsOf_19 (by decide) ?_
    refine E_ic_ge (tgt := 59) h dX2_partsOf_21 (by decide) (fun h => ?_) (fun h => ?_)
    · refine E_lload_n dX2_partsOf_59 rfl rfl ?_
      exact E_lret h dX2_partsOf_60 rfl
    · refine E_lload_n dX2_partsOf_24 rfl rfl ?_
      refine E_aload_n dX2_partsOf_25 rfl rfl ?_
      refine E_aload_n dX2_partsOf_26 rfl rfl ?_
      refine E_getA h dX2_partsOf_27 cf2 lk_X2_15 (by decide) (fun _ _ _ => rfl) (fun e3 h => ?_)
      refine E_getA h dX2_partsOf_30 cf0 lk_X2_67 (by decide) (fun _ _ _ => rfl) (fun e4 h => ?_)
      refine E_iload dX2_partsOf_33 rfl ?_
      refine E_iald h dX2_partsOf_35 (fun h => ?_)
      refine E_oI h (fun v5 h => ?_)
      refine E_iload_n dX2_partsOf_36 rfl rfl ?_
      refine E_aload_n dX2_partsOf_37 rfl rfl ?_
      refine E_getA h dX2_partsOf_38 cf2 lk_X2_15 (by decide) (fun _ _ _ => rfl) (fun e6 h => ?_)
      refine E_getA h dX2_partsOf_41 cf0 lk_X2_70 (by decide) (fun _ _ _ => rfl) (fun e7 h => ?_)
      refine E_iload dX2_partsOf_44 rfl ?_
      refine E_iald h dX2_partsOf_46 (fun h => ?_)
      refine E_oI h (fun v8 h => ?_)
      refine F_Vi h (fun a m e => tX2_partAt e) dX2_partsOf_47 hm_X2_partAt hv_X2_partAt ln_X2_57 rfl rfl (Nat.le_of_ble_eq_true rfl) (Nat.le_of_ble_eq_true rfl) (kc' := 0) (ks' := 0) rfl rfl (fun v9 u10 h => ?_)
      refine E_i2l dX2_partsOf_50 ?_
      refine E_lmul dX2_partsOf_51 ?_
      refine E_oJ h (fun w11 h => ?_)
      refine E_lstore_n (l' := [(2, .long w11), (0, .ref a0), (1, .int x1), (4, .int x4)]) dX2_partsOf_52 rfl (Nat.le_of_ble_eq_true rfl) rfl ?_
      refine E_iinc (j := 3) (v := x4 + 1) (l' := [(4, .int (x4 + 1)), (2, .long w11), (0, .ref a0), (1, .int x1)]) dX2_partsOf_53 rfl (addI (by decide)) (Nat.le_of_ble_eq_true rfl) rfl ?_
      refine E_goto (tgt := 5) dX2_partsOf_56 (by decide) ?_
      refine Eg.pick [2, 3, 1, 0] rfl ?_
      exact hk5 _ _ _ _ _ h
def rX2_partsOf_5 : Nat → Mm → Nat → Int32 → Int64 → Int32 → Option (Int64 × Mm)
  | 0, _, _, _, _, _ => none
  | n + 1, u, a0, x1, y2, x4 => bX2_partsOf_5 (rX2_partsOf_5 n) u a0 x1 y2 x4
theorem prX2_partsOf_5 {r : Int64} {u' : Mm} : ∀ (n : Nat) (u : Mm) (a0 : Nat) (x1 : Int32) (y2 : Int64) (x4 : Int32), rX2_partsOf_5 n u a0 x1 y2 x4 = some (r, u') → Eg MX2_partsOf 2 0 0 (some (.long r), u') 5 [(0, .ref a0), (1, .int x1), (2, .long y2), (4, .int x4)] [] u
  | 0, _, _, _, _, _, h => by cases h
  | n + 1, u, a0, x1, y2, x4, h => pX2_partsOf_5 (prX2_partsOf_5 n) u a0 x1 y2 x4 h
def fX2_partsOf (u : Mm) (a0 : Nat) (x1 : Int32) : Option (Int64 × Mm) := rX2_partsOf_5 hwF u a0 x1 1 0
set_option maxRecDepth 100000 in
set_option maxHeartbeats 4000000 in
theorem tX2_partsOf {u : Mm} {a0 : Nat} {x1 : Int32} {r : Int64} {u' : Mm} (h : fX2_partsOf u a0 x1 = some (r, u')) : Ev 2 MX2_partsOf 0 0 [.ref a0, .int x1] u (some (.long r), u') := by
  refine Ev.of (by decide +kernel) (Nat.le_of_ble_eq_true rfl) (show Eg MX2_partsOf 2 0 0 (some (.long r), u') 0 [(0, .ref a0), (1, .int x1)] [] u from ?_)
  unfold fX2_partsOf at h
  refine E_lconst (v := 1) dX2_partsOf_0 (by decide) ?_
  refine E_lstore_n (l' := [(2, .long 1), (0, .ref a0), (1, .int x1)]) dX2_partsOf_1 rfl (Nat.le_of_ble_eq_true rfl) rfl ?_
  refine E_iconst (v := 0) dX2_partsOf_2 (by decide) ?_
  refine E_istore (l' := [(4, .int 0), (2, .long 1), (0, .ref a0), (1, .int x1)]) dX2_partsOf_3 (Nat.le_of_ble_eq_true rfl) rfl ?_
  refine Eg.pick [2, 3, 1, 0] rfl ?_
  exact prX2_partsOf_5 _ _ _ _ _ _ h
def fX8_isWord (u : Mm) (x0 : Int32) : Option (Int32 × Mm) := oB (fX8_within u x0 0 7) (fun v1 u2 => oZ v1 (some (v1, u2)))
set_option maxRecDepth 100000 in
set_option maxHeartbeats 4000000 in
theorem tX8_isWord {u : Mm} {x0 : Int32} {r : Int32} {u' : Mm} (h : fX8_isWord u x0 = some (r, u')) : Ev 1 MX8_isWord 0 0 [.int x0] u (some (.int r), u') := by
  refine Ev.of (by decide +kernel) (Nat.le_of_ble_eq_true rfl) (show Eg MX8_isWord 1 0 0 (some (.int r), u') 0 [(0, .int x0)] [] u from ?_)
  unfold fX8_isWord at h
  refine E_iload_n dX8_isWord_0 rfl rfl ?_
  refine E_iconst (v := 0) dX8_isWord_1 (by decide) ?_
  refine E_bipush (v := 7) dX8_isWord_2 (by decide) ?_
  refine F_Si h (fun a m e => tX8_within e) dX8_isWord_4 hm_X8_within hs_X8_within ln_X8_92 rfl rfl (Nat.le_of_ble_eq_true rfl) (Nat.le_of_ble_eq_true rfl) (kc' := 0) (ks' := 0) rfl rfl (fun v1 u2 h => ?_)
  exact E_zret h dX8_isWord_7 rfl
def bX2_probablyWith_71 (u : Mm) (s0 : Int32) : Option (Int32 × Mm) := some (s0, u)
set_option maxRecDepth 100000 in
set_option maxHeartbeats 4000000 in
theorem pX2_probablyWith_71 {r : Int32} {u' : Mm} (u : Mm) (s0 : Int32) (h : bX2_probablyWith_71 u s0 = some (r, u')) : Eg MX2_probablyWith 3 0 0 (some (.int r), u') 71 [] [.int s0] u := by
  unfold bX2_probablyWith_71 at h
  exact E_iret h dX2_probablyWith_71 rfl
def bX2_probablyWith_44 (u : Mm) (y3 : Int64) (y5 : Int64) : Option (Int32 × Mm) := oJ (y3 + y5) (fun w7 => (if 0 < (lg_cmp w7 0 : Int32) then (if (w7 : Int64) ≠ 0 then bX2_probablyWith_71 u (Int64.toInt32 ((y3 * 1000000) / w7)) else none) else bX2_probablyWith_71 u 500000))
set_option maxRecDepth 100000 in
set_option maxHeartbeats 4000000 in
theorem pX2_probablyWith_44 {r : Int32} {u' : Mm} (u : Mm) (y3 : Int64) (y5 : Int64) (h : bX2_probablyWith_44 u y3 y5 = some (r, u')) : Eg MX2_probablyWith 3 0 0 (some (.int r), u') 44 [(3, .long y3), (5, .long y5)] [] u := by
  unfold bX2_probablyWith_44 at h
  refine E_lload_n dX2_probablyWith_44 rfl rfl ?_
  refine E_lload dX2_probablyWith_45 rfl ?_
  refine E_ladd dX2_probablyWith_47 ?_
  refine E_oJ h (fun w7 h => ?_)
  refine E_lstore (l' := [(7, .long w7), (3, .long y3), (5, .long y5)]) dX2_probablyWith_48 (Nat.le_of_ble_eq_true rfl) rfl ?_
  refine E_lload dX2_probablyWith_50 rfl ?_
  refine E_lconst (v := 0) dX2_probablyWith_52 (by decide) ?_
  refine E_lcmp dX2_probablyWith_53 ?_
  refine E_if_gt (tgt := 62) h dX2_probablyWith_54 (by decide) (fun h => ?_) (fun h => ?_)
  · refine E_lload_n dX2_probablyWith_62 rfl rfl ?_
    refine E_ldc2 dX2_probablyWith_63 rfl cn_X2_62 ?_
    refine E_lmul dX2_probablyWith_66 ?_
    refine E_lload dX2_probablyWith_67 rfl ?_
    refine E_ldiv h dX2_probablyWith_69 (fun h => ?_)
    refine E_l2i dX2_probablyWith_70 ?_
    refine Eg.pick [] rfl ?_
    exact pX2_probablyWith_71 _ _ h
  · refine E_ldc dX2_probablyWith_57 rfl cn_X2_61 ?_
    refine E_goto (tgt := 71) dX2_probablyWith_59 (by decide) ?_
    refine Eg.pick [] rfl ?_
    exact pX2_probablyWith_71 _ _ h
def fX2_probablyWith (u : Mm) (a0 : Nat) (x1 : Int32) (x2 : Int32) : Option (Int32 × Mm) := oR u a0 2 (oB (fX2_partsOf u a0 0) (fun w1 u2 => oR u2 a0 2 (oB (fX2_partsOf u2 a0 1) (fun w3 u4 => oB (fX8_isWord u4 x1) (fun v5 u6 => (if (v5 : Int32) = 0 then bX2_probablyWith_44 u6 w1 w3 else oR u6 a0 2 (oB (fX2_partAt u6 a0 x1 0 x2) (fun v8 u9 => oJ (w1 * (Int32.toInt64 v8)) (fun w10 => oR u9 a0 2 (oB (fX2_partAt u9 a0 x1 1 x2) (fun v11 u12 => oJ (w3 * (Int32.toInt64 v11)) (fun w13 => bX2_probablyWith_44 u12 w10 w13))))))))))))
set_option maxRecDepth 100000 in
set_option maxHeartbeats 4000000 in
theorem tX2_probablyWith {u : Mm} {a0 : Nat} {x1 : Int32} {x2 : Int32} {r : Int32} {u' : Mm} (h : fX2_probablyWith u a0 x1 x2 = some (r, u')) : Ev 3 MX2_probablyWith 0 0 [.ref a0, .int x1, .int x2] u (some (.int r), u') := by
  refine Ev.of (by decide +kernel) (Nat.le_of_ble_eq_true rfl) (show Eg MX2_probablyWith 3 0 0 (some (.int r), u') 0 [(0, .ref a0), (1, .int x1), (2, .int x2)] [] u from ?_)
  unfold fX2_probablyWith at h
  refine E_aload_n dX2_probablyWith_0 rfl rfl ?_
  refine E_iconst (v := 0) dX2_probablyWith_1 (by decide) ?_
  refine F_Vl h (fun a m e => tX2_partsOf e) dX2_probablyWith_2 hm_X2_partsOf hv_X2_partsOf ln_X2_49 rfl rfl (Nat.le_of_ble_eq_true rfl) (Nat.le_of_ble_eq_true rfl) (kc' := 0) (ks' := 0) rfl rfl (fun w1 u2 h => ?_)
  refine E_lstore_n (l' := [(3, .long w1), (0, .ref a0), (1, .int x1), (2, .int x2)]) dX2_probablyWith_5 rfl (Nat.le_of_ble_eq_true rfl) rfl ?_
  refine E_aload_n dX2_probablyWith_6 rfl rfl ?_
  refine E_iconst (v := 1) dX2_probablyWith_7 (by decide) ?_
  refine F_Vl h (fun a m e => tX2_partsOf e) dX2_probablyWith_8 hm_X2_partsOf hv_X2_partsOf ln_X2_49 rfl rfl (Nat.le_of_ble_eq_true rfl) (Nat.le_of_ble_eq_true rfl) (kc' := 0) (ks' := 0) rfl rfl (fun w3 u4 h => ?_)
  refine E_lstore (l' := [(5, .long w3), (3, .long w1), (0, .ref a0), (1, .int x1), (2, .int x2)]) dX2_probablyWith_11 (Nat.le_of_ble_eq_true rfl) rfl ?_
  refine E_iload_n dX2_probablyWith_13 rfl rfl ?_
  refine F_Si h (fun a m e => tX8_isWord e) dX2_probablyWith_14 hm_X8_isWord hs_X8_isWord ln_X2_53 rfl rfl (Nat.le_of_ble_eq_true rfl) (Nat.le_of_ble_eq_true rfl) (kc' := 0) (ks' := 0) rfl rfl (fun v5 u6 h => ?_)
  refine E_if_eq (tgt := 44) h dX2_probablyWith_17 (by decide) (fun h => ?_) (fun h => ?_)
  · refine Eg.pick [1, 0] rfl ?_
    exact pX2_probablyWith_44 _ _ _ h
  · refine E_lload_n dX2_probablyWith_20 rfl rfl ?_
    refine E_aload_n dX2_probablyWith_21 rfl rfl ?_
    refine E_iload_n dX2_probablyWith_22 rfl rfl ?_
    refine E_iconst (v := 0) dX2_probablyWith_23 (by decide) ?_
    refine E_iload_n dX2_probablyWith_24 rfl rfl ?_
    refine F_Vi h (fun a m e => tX2_partAt e) dX2_probablyWith_25 hm_X2_partAt hv_X2_partAt ln_X2_57 rfl rfl (Nat.le_of_ble_eq_true rfl) (Nat.le_of_ble_eq_true rfl) (kc' := 0) (ks' := 0) rfl rfl (fun v8 u9 h => ?_)
    refine E_i2l dX2_probablyWith_28 ?_
    refine E_lmul dX2_probablyWith_29 ?_
    refine E_oJ h (fun w10 h => ?_)
    refine E_lstore_n (l' := [(3, .long w10), (5, .long w3), (0, .ref a0), (1, .int x1), (2, .int x2)]) dX2_probablyWith_30 rfl (Nat.le_of_ble_eq_true rfl) rfl ?_
    refine E_lload dX2_probablyWith_31 rfl ?_
    refine E_aload_n dX2_probablyWith_33 rfl rfl ?_
    refine E_iload_n dX2_probablyWith_34 rfl rfl ?_
    refine E_iconst (v := 1) dX2_probablyWith_35 (by decide) ?_
    refine E_iload_n dX2_probablyWith_36 rfl rfl ?_
    refine F_Vi h (fun a m e => tX2_partAt e) dX2_probablyWith_37 hm_X2_partAt hv_X2_partAt ln_X2_57 rfl rfl (Nat.le_of_ble_eq_true rfl) (Nat.le_of_ble_eq_true rfl) (kc' := 0) (ks' := 0) rfl rfl (fun v11 u12 h => ?_)
    refine E_i2l dX2_probablyWith_40 ?_
    refine E_lmul dX2_probablyWith_41 ?_
    refine E_oJ h (fun w13 h => ?_)
    refine E_lstore (l' := [(5, .long w13), (3, .long w10), (0, .ref a0), (1, .int x1), (2, .int x2)]) dX2_probablyWith_42 (Nat.le_of_ble_eq_true rfl) rfl ?_
    refine Eg.pick [1, 0] rfl ?_
    exact pX2_probablyWith_44 _ _ _ h
def bJ9_abs_0f7a4_10 (u : Mm) (s0 : Int32) : Option (Int32 × Mm) := some (s0, u)
set_option maxRecDepth 100000 in
set_option maxHeartbeats 4000000 in
theorem pJ9_abs_0f7a4_10 {r : Int32} {u' : Mm} (u : Mm) (s0 : Int32) (h : bJ9_abs_0f7a4_10 u s0 = some (r, u')) : Eg MJ9_abs_0f7a4 0 0 0 (some (.int r), u') 10 [] [.int s0] u := by
  unfold bJ9_abs_0f7a4_10 at h
  exact E_iret h dJ9_abs_0f7a4_10 rfl
def fJ9_abs_0f7a4 (u : Mm) (x0 : Int32) : Option (Int32 × Mm) := (if 0 ≤ (x0 : Int32) then bJ9_abs_0f7a4_10 u x0 else bJ9_abs_0f7a4_10 u (-x0))
set_option maxRecDepth 100000 in
set_option maxHeartbeats 4000000 in
theorem tJ9_abs_0f7a4 {u : Mm} {x0 : Int32} {r : Int32} {u' : Mm} (h : fJ9_abs_0f7a4 u x0 = some (r, u')) : Ev 0 MJ9_abs_0f7a4 0 0 [.int x0] u (some (.int r), u') := by
  refine Ev.ofF (by decide +kernel) (Nat.le_of_ble_eq_true rfl) (show Eg MJ9_abs_0f7a4 0 0 0 (some (.int r), u') 0 [(0, .int x0)] [] u from ?_)
  unfold fJ9_abs_0f7a4 at h
  refine E_iload_n dJ9_abs_0f7a4_0 rfl rfl ?_
  refine E_if_ge (tgt := 9) h dJ9_abs_0f7a4_1 (by decide) (fun h => ?_) (fun h => ?_)
  · refine E_iload_n dJ9_abs_0f7a4_9 rfl rfl ?_
    refine Eg.pick [] rfl ?_
    exact pJ9_abs_0f7a4_10 _ _ h
  · refine E_iload_n dJ9_abs_0f7a4_4 rfl rfl ?_
    refine E_ineg dJ9_abs_0f7a4_5 ?_
    refine E_goto (tgt := 10) dJ9_abs_0f7a4_6 (by decide) ?_
    refine Eg.pick [] rfl ?_
    exact pJ9_abs_0f7a4_10 _ _ h
def fX2_differenceAt (u : Mm) (a0 : Nat) (x1 : Int32) : Option (Int32 × Mm) := oR u a0 2 (oB (fX2_probablyWith u a0 x1 1) (fun v1 u2 => oR u2 a0 2 (oB (fX2_probablyWith u2 a0 x1 0) (fun v3 u4 => oB (fJ9_abs_0f7a4 u4 (v1 - v3)) (fun v5 u6 => some (v5, u6))))))
set_option maxRecDepth 100000 in
set_option maxHeartbeats 4000000 in
theorem tX2_differenceAt {u : Mm} {a0 : Nat} {x1 : Int32} {r : Int32} {u' : Mm} (h : fX2_differenceAt u a0 x1 = some (r, u')) : Ev 4 MX2_differenceAt 0 0 [.ref a0, .int x1] u (some (.int r), u') := by
  refine Ev.of (by decide +kernel) (Nat.le_of_ble_eq_true rfl) (show Eg MX2_differenceAt 4 0 0 (some (.int r), u') 0 [(0, .ref a0), (1, .int x1)] [] u from ?_)
  unfold fX2_differenceAt at h
  refine E_aload_n dX2_differenceAt_0 rfl rfl ?_
  refine E_iload_n dX2_differenceAt_1 rfl rfl ?_
  refine E_iconst (v := 1) dX2_differenceAt_2 (by decide) ?_
  refine F_Vi h (fun a m e => tX2_probablyWith e) dX2_differenceAt_3 hm_X2_probablyWith hv_X2_probablyWith ln_X2_79 rfl rfl (Nat.le_of_ble_eq_true rfl) (Nat.le_of_ble_eq_true rfl) (kc' := 0) (ks' := 0) rfl rfl (fun v1 u2 h => ?_)
  refine E_aload_n dX2_differenceAt_6 rfl rfl ?_
  refine E_iload_n dX2_differenceAt_7 rfl rfl ?_
  refine E_iconst (v := 0) dX2_differenceAt_8 (by decide) ?_
  refine F_Vi h (fun a m e => tX2_probablyWith e) dX2_differenceAt_9 hm_X2_probablyWith hv_X2_probablyWith ln_X2_79 rfl rfl (Nat.le_of_ble_eq_true rfl) (Nat.le_of_ble_eq_true rfl) (kc' := 0) (ks' := 0) rfl rfl (fun v3 u4 h => ?_)
  refine E_isub dX2_differenceAt_12 ?_
  refine F_Si h (fun a m e => tJ9_abs_0f7a4 e) dX2_differenceAt_13 hm_J9_abs_0f7a4 hs_J9_abs_0f7a4 ln_X2_82 rfl rfl (Nat.le_of_ble_eq_true rfl) (Nat.le_of_ble_eq_true rfl) (kc' := 0) (ks' := 0) rfl rfl (fun v5 u6 h => ?_)
  exact E_iret h dX2_differenceAt_16 rfl
def bX2_wordToAsk_25 (k4 : Mm → Nat → Int32 → Int32 → Option (Int32 × Mm)) (u : Mm) (a0 : Nat) (x1 : Int32) (x2 : Int32) : Option (Int32 × Mm) := k4 u a0 x1 (x2 + 1)
set_option maxRecDepth 100000 in
set_option maxHeartbeats 4000000 in
theorem pX2_wordToAsk_25 {r : Int32} {u' : Mm} {k4 : Mm → Nat → Int32 → Int32 → Option (Int32 × Mm)} (hk4 : ∀ (u : Mm) (a0 : Nat) (x1 : Int32) (x2 : Int32), k4 u a0 x1 x2 = some (r, u') → Eg MX2_wordToAsk 5 0 0 (some (.int r), u') 4 [(0, .ref a0), (1, .int x1), (2, .int x2)] [] u) (u : Mm) (a0 : Nat) (x1 : Int32) (x2 : Int32) (h : bX2_wordToAsk_25 k4 u a0 x1 x2 = some (r, u')) : Eg MX2_wordToAsk 5 0 0 (some (.int r), u') 25 [(0, .ref a0), (1, .int x1), (2, .int x2)] [] u := by
  unfold bX2_wordToAsk_25 at h
  refine E_iinc (j := 2) (v := x2 + 1) (l' := [(2, .int (x2 + 1)), (0, .ref a0), (1, .int x1)]) dX2_wordToAsk_25 rfl (addI (by decide)) (Nat.le_of_ble_eq_true rfl) rfl ?_
  refine E_goto (tgt := 4) dX2_wordToAsk_28 (by decide) ?_
  refine Eg.pick [1, 2, 0] rfl ?_
  exact hk4 _ _ _ _ h
def bX2_wordToAsk_4 (k4 : Mm → Nat → Int32 → Int32 → Option (Int32 × Mm)) (u : Mm) (a0 : Nat) (x1 : Int32) (x2 : Int32) : Option (Int32 × Mm) := (if (8 : Int32) ≤ x2 then some (x1, u) else oR u a0 2 (oB (fX2_differenceAt u a0 x2) (fun v1 u2 => oR u2 a0 2 (oB (fX2_differenceAt u2 a0 x1) (fun v3 u4 => (if (v1 : Int32) ≤ v3 then bX2_wordToAsk_25 k4 u4 a0 x1 x2 else bX2_wordToAsk_25 k4 u4 a0 x2 x2))))))
set_option maxRecDepth 100000 in
set_option maxHeartbeats 4000000 in
theorem pX2_wordToAsk_4 {r : Int32} {u' : Mm} {k4 : Mm → Nat → Int32 → Int32 → Option (Int32 × Mm)} (hk4 : ∀ (u : Mm) (a0 : Nat) (x1 : Int32) (x2 : Int32), k4 u a0 x1 x2 = some (r, u') → Eg MX2_wordToAsk 5 0 0 (some (.int r), u') 4 [(0, .ref a0), (1, .int x1), (2, .int x2)] [] u) (u : Mm) (a0 : Nat) (x1 : Int32) (x2 : Int32) (h : bX2_wordToAsk_4 k4 u a0 x1 x2 = some (r, u')) : Eg MX2_wordToAsk 5 0 0 (some (.int r), u') 4 [(0, .ref a0), (1, .int x1), (2, .int x2)] [] u := by
  unfold bX2_wordToAsk_4 at h
  refine E_iload_n dX2_wordToAsk_4 rfl rfl ?_
  refine E_bipush (v := 8) dX2_wordToAsk_5 (by decide) ?_
  refine E_ic_ge (tgt := 31) h dX2_wordToAsk_7 (by decide) (fun h => ?_) (fun h => ?_)
  · refine E_iload_n dX2_wordToAsk_31 rfl rfl ?_
    exact E_iret h dX2_wordToAsk_32 rfl
  · refine E_aload_n dX2_wordToAsk_10 rfl rfl ?_
    refine E_iload_n dX2_wordToAsk_11 rfl rfl ?_
    refine F_Vi h (fun a m e => tX2_differenceAt e) dX2_wordToAsk_12 hm_X2_differenceAt hv_X2_differenceAt ln_X2_76 rfl rfl (Nat.le_of_ble_eq_true rfl) (Nat.le_of_ble_eq_true rfl) (kc' := 0) (ks' := 0) rfl rfl (fun v1 u2 h => ?_)
    refine E_aload_n dX2_wordToAsk_15 rfl rfl ?_
    refine E_iload_n dX2_wordToAsk_16 rfl rfl ?_
    refine F_Vi h (fun a m e => tX2_differenceAt e) dX2_wordToAsk_17 hm_X2_differenceAt hv_X2_differenceAt ln_X2_76 rfl rfl (Nat.le_of_ble_eq_true rfl) (Nat.le_of_ble_eq_true rfl) (kc' := 0) (ks' := 0) rfl rfl (fun v3 u4 h => ?_)
    refine E_ic_le (tgt := 25) h dX2_wordToAsk_20 (by decide) (fun h => ?_) (fun h => ?_)
    · refine Eg.pick [0, 1, 2] rfl ?_
      exact pX2_wordToAsk_25 hk4 _ _ _ _ h
    · refine E_iload_n dX2_wordToAsk_23 rfl rfl ?_
      refine E_istore_n (l' := [(1, .int x2), (0, .ref a0), (2, .int x2)]) dX2_wordToAsk_24 rfl (Nat.le_of_ble_eq_true rfl) rfl ?_
      refine Eg.pick [1, 0, 2] rfl ?_
      exact pX2_wordToAsk_25 hk4 _ _ _ _ h
def rX2_wordToAsk_4 : Nat → Mm → Nat → Int32 → Int32 → Option (Int32 × Mm)
  | 0, _, _, _, _ => none
  | n + 1, u, a0, x1, x2 => bX2_wordToAsk_4 (rX2_wordToAsk_4 n) u a0 x1 x2
theorem prX2_wordToAsk_4 {r : Int32} {u' : Mm} : ∀ (n : Nat) (u : Mm) (a0 : Nat) (x1 : Int32) (x2 : Int32), rX2_wordToAsk_4 n u a0 x1 x2 = some (r, u') → Eg MX2_wordToAsk 5 0 0 (some (.int r), u') 4 [(0, .ref a0), (1, .int x1), (2, .int x2)] [] u
  | 0, _, _, _, _, h => by cases h
  | n + 1, u, a0, x1, x2, h => pX2_wordToAsk_4 (prX2_wordToAsk_4 n) u a0 x1 x2 h
def fX2_wordToAsk (u : Mm) (a0 : Nat) : Option (Int32 × Mm) := rX2_wordToAsk_4 hwF u a0 0 1
set_option maxRecDepth 100000 in
set_option maxHeartbeats 4000000 in
theorem tX2_wordToAsk {u : Mm} {a0 : Nat} {r : Int32} {u' : Mm} (h : fX2_wordToAsk u a0 = some (r, u')) : Ev 5 MX2_wordToAsk 0 0 [.ref a0] u (some (.int r), u') := by
  refine Ev.of (by decide +kernel) (Nat.le_of_ble_eq_true rfl) (show Eg MX2_wordToAsk 5 0 0 (some (.int r), u') 0 [(0, .ref a0)] [] u from ?_)
  unfold fX2_wordToAsk at h
  refine E_iconst (v := 0) dX2_wordToAsk_0 (by decide) ?_
  refine E_istore_n (l' := [(1, .int 0), (0, .ref a0)]) dX2_wordToAsk_1 rfl (Nat.le_of_ble_eq_true rfl) rfl ?_
  refine E_iconst (v := 1) dX2_wordToAsk_2 (by decide) ?_
  refine E_istore_n (l' := [(2, .int 1), (1, .int 0), (0, .ref a0)]) dX2_wordToAsk_3 rfl (Nat.le_of_ble_eq_true rfl) rfl ?_
  refine Eg.pick [2, 1, 0] rfl ?_
  exact prX2_wordToAsk_4 _ _ _ _ _ h
def fX8_isSign (u : Mm) (x0 : Int32) : Option (Int32 × Mm) := oB (fX8_within u x0 0 7) (fun v1 u2 => oZ v1 (some (v1, u2)))
set_option maxRecDepth 100000 in
set_option maxHeartbeats 4000000 in
theorem tX8_isSign {u : Mm} {x0 : Int32} {r : Int32} {u' : Mm} (h : fX8_isSign u x0 = some (r, u')) : Ev 1 MX8_isSign 0 0 [.int x0] u (some (.int r), u') := by
  refine Ev.of (by decide +kernel) (Nat.le_of_ble_eq_true rfl) (show Eg MX8_isSign 1 0 0 (some (.int r), u') 0 [(0, .int x0)] [] u from ?_)
  unfold fX8_isSign at h
  refine E_iload_n dX8_isSign_0 rfl rfl ?_
  refine E_iconst (v := 0) dX8_isSign_1 (by decide) ?_
  refine E_bipush (v := 7) dX8_isSign_2 (by decide) ?_
  refine F_Si h (fun a m e => tX8_within e) dX8_isSign_4 hm_X8_within hs_X8_within ln_X8_92 rfl rfl (Nat.le_of_ble_eq_true rfl) (Nat.le_of_ble_eq_true rfl) (kc' := 0) (ks' := 0) rfl rfl (fun v1 u2 h => ?_)
  exact E_zret h dX8_isSign_7 rfl
def bX2_chainFrom_103 (u : Mm) (x4 : Int32) : Option (Int32 × Mm) := oB (fJ6_bitCount_0f7a4 u x4) (fun v1 u2 => some (v1, u2))
set_option maxRecDepth 100000 in
set_option maxHeartbeats 4000000 in
theorem pX2_chainFrom_103 {r : Int32} {u' : Mm} (u : Mm) (x4 : Int32) (h : bX2_chainFrom_103 u x4 = some (r, u')) : Eg MX2_chainFrom 2 0 0 (some (.int r), u') 103 [(4, .int x4)] [] u := by
  unfold bX2_chainFrom_103 at h
  refine E_iload dX2_chainFrom_103 rfl ?_
  refine F_Si h (fun a m e => tJ6_bitCount_0f7a4 e) dX2_chainFrom_105 hm_J6_bitCount_0f7a4 hs_J6_bitCount_0f7a4 ln_X2_23 rfl rfl (Nat.le_of_ble_eq_true rfl) (Nat.le_of_ble_eq_true rfl) (kc' := 0) (ks' := 0) rfl rfl (fun v1 u2 h => ?_)
  exact E_iret h dX2_chainFrom_108 rfl
def bX2_chainFrom_89 (k12 : Mm → Nat → Int32 → Int32 → Int32 → Int32 → Int32 → Option (Int32 × Mm)) (u : Mm) (a0 : Nat) (x3 : Int32) (x4 : Int32) (x6 : Int32) (x7 : Int32) (s0 : Int32) : Option (Int32 × Mm) := oI ((1 : Int32) - x6) (fun v14 => k12 u a0 x3 x4 s0 v14 (x7 + 1))
set_option maxRecDepth 100000 in
set_option maxHeartbeats 4000000 in
theorem pX2_chainFrom_89 {r : Int32} {u' : Mm} {k12 : Mm → Nat → Int32 → Int32 → Int32 → Int32 → Int32 → Option (Int32 × Mm)} (hk12 : ∀ (u : Mm) (a0 : Nat) (x3 : Int32) (x4 : Int32) (x5 : Int32) (x6 : Int32) (x7 : Int32), k12 u a0 x3 x4 x5 x6 x7 = some (r, u') → Eg MX2_chainFrom 2 0 0 (some (.int r), u') 12 [(0, .ref a0), (3, .int x3), (4, .int x4), (5, .int x5), (6, .int x6), (7, .int x7)] [] u) (u : Mm) (a0 : Nat) (x3 : Int32) (x4 : Int32) (x6 : Int32) (x7 : Int32) (s0 : Int32) (h : bX2_chainFrom_89 k12 u a0 x3 x4 x6 x7 s0 = some (r, u')) : Eg MX2_chainFrom 2 0 0 (some (.int r), u') 89 [(0, .ref a0), (3, .int x3), (4, .int x4), (6, .int x6), (7, .int x7)] [.int s0] u := by
  unfold bX2_chainFrom_89 at h
  refine E_istore (l' := [(5, .int s0), (0, .ref a0), (3, .int x3), (4, .int x4), (6, .int x6), (7, .int x7)]) dX2_chainFrom_89 (Nat.le_of_ble_eq_true rfl) rfl ?_
  refine E_iconst (v := 1) dX2_chainFrom_91 (by decide) ?_
  refine E_iload dX2_chainFrom_92 rfl ?_
  refine E_isub dX2_chainFrom_94 ?_
  refine E_oI h (fun v14 h => ?_)
  refine E_istore (l' := [(6, .int v14), (5, .int s0), (0, .ref a0), (3, .int x3), (4, .int x4), (7, .int x7)]) dX2_chainFrom_95 (Nat.le_of_ble_eq_true rfl) rfl ?_
  refine E_iinc (j := 5) (v := x7 + 1) (l' := [(7, .int (x7 + 1)), (6, .int v14), (5, .int s0), (0, .ref a0), (3, .int x3), (4, .int x4)]) dX2_chainFrom_97 rfl (addI (by decide)) (Nat.le_of_ble_eq_true rfl) rfl ?_
  refine E_goto (tgt := 12) dX2_chainFrom_100 (by decide) ?_
  refine Eg.pick [3, 4, 5, 2, 1, 0] rfl ?_
  exact hk12 _ _ _ _ _ _ _ h
def bX2_chainFrom_12 (k12 : Mm → Nat → Int32 → Int32 → Int32 → Int32 → Int32 → Option (Int32 × Mm)) (u : Mm) (a0 : Nat) (x3 : Int32) (x4 : Int32) (x5 : Int32) (x6 : Int32) (x7 : Int32) : Option (Int32 × Mm) := (if (16 : Int32) < x7 then bX2_chainFrom_103 u x4 else oB (fX8_isSign u x5) (fun v3 u4 => (if (v3 : Int32) = 0 then bX2_chainFrom_103 u4 x4 else oB (fX8_pair u4 x5 x6) (fun v5 u6 => oI ((1 : Int32) <<< (v5 &&& 31)) (fun v7 => (if (x4 &&& v7 : Int32) = 0 then oI (x4 ||| v7) (fun v8 => (if ((x3 >>> (x5 &&& 31)) &&& 1 : Int32) = 1 then bX2_chainFrom_89 k12 u6 a0 x3 v8 x6 x7 ((-1)) else oK u6 a0 2 3 (oNn (mR u6 a0 0) (fun e9 => oK u6 e9 0 16 (oNn (mR u6 e9 2) (fun e10 => oB (fX8_pair u6 x5 x6) (fun v11 u12 => oA u12 e10 10 v11 (oI (mI u12 e10 (Int32.toNatClampNeg v11)) (fun v13 => bX2_chainFrom_89 k12 u12 a0 x3 v8 x6 x7 v13))))))))) else oB (fJ6_bitCount_0f7a4 u6 x4) (fun v15 u16 => some (-v15, u16))))))))
set_option maxRecDepth 100000 in
set_option maxHeartbeats 4000000 in
theorem pX2_chainFrom_12 {r : Int32} {u' : Mm} {k12 : Mm → Nat → Int32 → Int32 → Int32 → Int32 → Int32 → Option (Int32 × Mm)} (hk12 : ∀ (u : Mm) (a0 : Nat) (x3 : Int32) (x4 : Int32) (x5 : Int32) (x6 : Int32) (x7 : Int32), k12 u a0 x3 x4 x5 x6 x7 = some (r, u') → Eg MX2_chainFrom 2 0 0 (some (.int r), u') 12 [(0, .ref a0), (3, .int x3), (4, .int x4), (5, .int x5), (6, .int x6), (7, .int x7)] [] u) (u : Mm) (a0 : Nat) (x3 : Int32) (x4 : Int32) (x5 : Int32) (x6 : Int32) (x7 : Int32) (h : bX2_chainFrom_12 k12 u a0 x3 x4 x5 x6 x7 = some (r, u')) : Eg MX2_chainFrom 2 0 0 (some (.int r), u') 12 [(0, .ref a0), (3, .int x3), (4, .int x4), (5, .int x5), (6, .int x6), (7, .int x7)] [] u := by
  unfold bX2_chainFrom_12 at h
  refine E_iload dX2_chainFrom_12 rfl ?_
  refine E_bipush (v := 16) dX2_chainFrom_14 (by decide) ?_
  refine E_ic_gt (tgt := 103) h dX2_chainFrom_16 (by decide) (fun h => ?_) (fun h => ?_)
  · refine Eg.pick [2] rfl ?_
    exact pX2_chainFrom_103 _ _ h
  · refine E_iload dX2_chainFrom_19 rfl ?_
    refine F_Si h (fun a m e => tX8_isSign e) dX2_chainFrom_21 hm_X8_isSign hs_X8_isSign ln_X2_87 rfl rfl (Nat.le_of_ble_eq_true rfl) (Nat.le_of_ble_eq_true rfl) (kc' := 0) (ks' := 0) rfl rfl (fun v3 u4 h => ?_)
    refine E_if_eq (tgt := 103) h dX2_chainFrom_24 (by decide) (fun h => ?_) (fun h => ?_)
    · refine Eg.pick [2] rfl ?_
      exact pX2_chainFrom_103 _ _ h
    · refine E_iconst (v := 1) dX2_chainFrom_27 (by decide) ?_
      refine E_iload dX2_chainFrom_28 rfl ?_
      refine E_iload dX2_chainFrom_30 rfl ?_
      refine F_Si h (fun a m e => tX8_pair e) dX2_chainFrom_32 hm_X8_pair hs_X8_pair ln_X2_46 rfl rfl (Nat.le_of_ble_eq_true rfl) (Nat.le_of_ble_eq_true rfl) (kc' := 0) (ks' := 0) rfl rfl (fun v5 u6 h => ?_)
      refine E_ishl dX2_chainFrom_35 ?_
      refine E_oI h (fun v7 h => ?_)
      refine E_istore (l' := [(8, .int v7), (0, .ref a0), (3, .int x3), (4, .int x4), (5, .int x5), (6, .int x6), (7, .int x7)]) dX2_chainFrom_36 (Nat.le_of_ble_eq_true rfl) rfl ?_
      refine E_iload dX2_chainFrom_38 rfl ?_
      refine E_iload dX2_chainFrom_40 rfl ?_
      refine E_iand dX2_chainFrom_42 ?_
      refine E_if_eq (tgt := 53) h dX2_chainFrom_43 (by decide) (fun h => ?_) (fun h => ?_)
      · refine E_iload dX2_chainFrom_53 rfl ?_
        refine E_iload dX2_chainFrom_55 rfl ?_
        refine E_ior dX2_chainFrom_57 ?_
        refine E_oI h (fun v8 h => ?_)
        refine E_istore (l' := [(4, .int v8), (8, .int v7), (0, .ref a0), (3, .int x3), (5, .int x5), (6, .int x6), (7, .int x7)]) dX2_chainFrom_58 (Nat.le_of_ble_eq_true rfl) rfl ?_
        refine E_iload_n dX2_chainFrom_60 rfl rfl ?_
        refine E_iload dX2_chainFrom_61 rfl ?_
        refine E_ishr dX2_chainFrom_63 ?_
        refine E_iconst (v := 1) dX2_chainFrom_64 (by decide) ?_
        refine E_iand dX2_chainFrom_65 ?_
        refine E_iconst (v := 1) dX2_chainFrom_66 (by decide) ?_
        refine E_ic_ne (tgt := 74) h dX2_chainFrom_67 (by decide) (fun h => ?_) (fun h => ?_)
        · refine E_aload_n dX2_chainFrom_74 rfl rfl ?_
          refine E_getA h dX2_chainFrom_75 cf2 lk_X2_15 (by decide) (fun _ _ _ => rfl) (fun e9 h => ?_)
          refine E_getA h dX2_chainFrom_78 cf0 lk_X2_90 (by decide) (fun _ _ _ => rfl) (fun e10 h => ?_)
          refine E_iload dX2_chainFrom_81 rfl ?_
          refine E_iload dX2_chainFrom_83 rfl ?_
          refine F_Si h (fun a m e => tX8_pair e) dX2_chainFrom_85 hm_X8_pair hs_X8_pair ln_X2_46 rfl rfl (Nat.le_of_ble_eq_true rfl) (Nat.le_of_ble_eq_true rfl) (kc' := 0) (ks' := 0) rfl rfl (fun v11 u12 h => ?_)
          refine E_iald h dX2_chainFrom_88 (fun h => ?_)
          refine E_oI h (fun v13 h => ?_)
          refine Eg.pick [2, 3, 0, 5, 6] rfl ?_
          exact pX2_chainFrom_89 hk12 _ _ _ _ _ _ _ h
        · refine E_iconst (v := (-1)) dX2_chainFrom_70 (by decide) ?_
          refine E_goto (tgt := 89) dX2_chainFrom_71 (by decide) ?_
          refine Eg.pick [2, 3, 0, 5, 6] rfl ?_
          exact pX2_chainFrom_89 hk12 _ _ _ _ _ _ _ h
      · refine E_iload dX2_chainFrom_46 rfl ?_
        refine F_Si h (fun a m e => tJ6_bitCount_0f7a4 e) dX2_chainFrom_48 hm_J6_bitCount_0f7a4 hs_J6_bitCount_0f7a4 ln_X2_23 rfl rfl (Nat.le_of_ble_eq_true rfl) (Nat.le_of_ble_eq_true rfl) (kc' := 0) (ks' := 0) rfl rfl (fun v15 u16 h => ?_)
        refine E_ineg dX2_chainFrom_51 ?_
        exact E_iret h dX2_chainFrom_52 rfl
def rX2_chainFrom_12 : Nat → Mm → Nat → Int32 → Int32 → Int32 → Int32 → Int32 → Option (Int32 × Mm)
  | 0, _, _, _, _, _, _, _ => none
  | n + 1, u, a0, x3, x4, x5, x6, x7 => bX2_chainFrom_12 (rX2_chainFrom_12 n) u a0 x3 x4 x5 x6 x7
theorem prX2_chainFrom_12 {r : Int32} {u' : Mm} : ∀ (n : Nat) (u : Mm) (a0 : Nat) (x3 : Int32) (x4 : Int32) (x5 : Int32) (x6 : Int32) (x7 : Int32), rX2_chainFrom_12 n u a0 x3 x4 x5 x6 x7 = some (r, u') → Eg MX2_chainFrom 2 0 0 (some (.int r), u') 12 [(0, .ref a0), (3, .int x3), (4, .int x4), (5, .int x5), (6, .int x6), (7, .int x7)] [] u
  | 0, _, _, _, _, _, _, _, h => by cases h
  | n + 1, u, a0, x3, x4, x5, x6, x7, h => pX2_chainFrom_12 (prX2_chainFrom_12 n) u a0 x3 x4 x5 x6 x7 h
def fX2_chainFrom (u : Mm) (a0 : Nat) (x1 : Int32) (x2 : Int32) (x3 : Int32) : Option (Int32 × Mm) := rX2_chainFrom_12 hwF u a0 x3 0 x1 x2 0
set_option maxRecDepth 100000 in
set_option maxHeartbeats 4000000 in
theorem tX2_chainFrom {u : Mm} {a0 : Nat} {x1 : Int32} {x2 : Int32} {x3 : Int32} {r : Int32} {u' : Mm} (h : fX2_chainFrom u a0 x1 x2 x3 = some (r, u')) : Ev 2 MX2_chainFrom 0 0 [.ref a0, .int x1, .int x2, .int x3] u (some (.int r), u') := by
  refine Ev.of (by decide +kernel) (Nat.le_of_ble_eq_true rfl) (show Eg MX2_chainFrom 2 0 0 (some (.int r), u') 0 [(0, .ref a0), (1, .int x1), (2, .int x2), (3, .int x3)] [] u from ?_)
  unfold fX2_chainFrom at h
  refine E_iconst (v := 0) dX2_chainFrom_0 (by decide) ?_
  refine E_istore (l' := [(4, .int 0), (0, .ref a0), (1, .int x1), (2, .int x2), (3, .int x3)]) dX2_chainFrom_1 (Nat.le_of_ble_eq_true rfl) rfl ?_
  refine E_iload_n dX2_chainFrom_3 rfl rfl ?_
  refine E_istore (l' := [(5, .int x1), (4, .int 0), (0, .ref a0), (1, .int x1), (2, .int x2), (3, .int x3)]) dX2_chainFrom_4 (Nat.le_of_ble_eq_true rfl) rfl ?_
  refine E_iload_n dX2_chainFrom_6 rfl rfl ?_
  refine E_istore (l' := [(6, .int x2), (5, .int x1), (4, .int 0), (0, .ref a0), (1, .int x1), (2, .int x2), (3, .int x3)]) dX2_chainFrom_7 (Nat.le_of_ble_eq_true rfl) rfl ?_
  refine E_iconst (v := 0) dX2_chainFrom_9 (by decide) ?_
  refine E_istore (l' := [(7, .int 0), (6, .int x2), (5, .int x1), (4, .int 0), (0, .ref a0), (1, .int x1), (2, .int x2), (3, .int x3)]) dX2_chainFrom_10 (Nat.le_of_ble_eq_true rfl) rfl ?_
  refine Eg.pick [4, 7, 3, 2, 1, 0] rfl ?_
  exact prX2_chainFrom_12 _ _ _ _ _ _ _ _ h
