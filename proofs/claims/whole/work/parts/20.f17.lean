/-! ===== methods as functions, with their contracts (printed by program) ===== -/
def bX9_inner_33 (k4 : Mm → Nat → Int32 → Int32 → Option (Int32 × Mm)) (u : Mm) (a0 : Nat) (x2 : Int32) (s0 : Int32) : Option (Int32 × Mm) := k4 u a0 s0 (x2 + 1)
set_option maxRecDepth 100000 in
set_option maxHeartbeats 4000000 in
theorem pX9_inner_33 {r : Int32} {u' : Mm} {k4 : Mm → Nat → Int32 → Int32 → Option (Int32 × Mm)} (hk4 : ∀ (u : Mm) (a0 : Nat) (x1 : Int32) (x2 : Int32), k4 u a0 x1 x2 = some (r, u') → Eg MX9_inner 0 0 0 (some (.int r), u') 4 [(0, .ref a0), (1, .int x1), (2, .int x2)] [] u) (u : Mm) (a0 : Nat) (x2 : Int32) (s0 : Int32) (h : bX9_inner_33 k4 u a0 x2 s0 = some (r, u')) : Eg MX9_inner 0 0 0 (some (.int r), u') 33 [(0, .ref a0), (2, .int x2)] [.int s0] u := by
  unfold bX9_inner_33 at h
  refine E_istore_n (l' := [(1, .int s0), (0, .ref a0), (2, .int x2)]) dX9_inner_33 rfl (Nat.le_of_ble_eq_true rfl) rfl ?_
  refine E_iinc (j := 2) (v := x2 + 1) (l' := [(2, .int (x2 + 1)), (1, .int s0), (0, .ref a0)]) dX9_inner_34 rfl (addI (by decide)) (Nat.le_of_ble_eq_true rfl) rfl ?_
  refine E_goto (tgt := 4) dX9_inner_37 (by decide) ?_
  refine Eg.pick [2, 1, 0] rfl ?_
  exact hk4 _ _ _ _ h
def bX9_inner_4 (k4 : Mm → Nat → Int32 → Int32 → Option (Int32 × Mm)) (u : Mm) (a0 : Nat) (x1 : Int32) (x2 : Int32) : Option (Int32 × Mm) := oK u a0 9 54 (oI (mI u a0 29) (fun v1 => (if (v1 : Int32) ≤ x2 then some (x1, u) else oK u a0 9 54 (oNn (mR u a0 27) (fun e2 => oA u e2 10 x2 (oI (mI u e2 (Int32.toNatClampNeg x2)) (fun v3 => (if (v3 : Int32) < 31 then bX9_inner_33 k4 u a0 x2 x1 else oK u a0 9 54 (oNn (mR u a0 27) (fun e4 => oA u e4 10 x2 (oI (mI u e4 (Int32.toNatClampNeg x2)) (fun v5 => bX9_inner_33 k4 u a0 x2 v5))))))))))))
set_option maxRecDepth 100000 in
set_option maxHeartbeats 4000000 in
theorem pX9_inner_4 {r : Int32} {u' : Mm} {k4 : Mm → Nat → Int32 → Int32 → Option (Int32 × Mm)} (hk4 : ∀ (u : Mm) (a0 : Nat) (x1 : Int32) (x2 : Int32), k4 u a0 x1 x2 = some (r, u') → Eg MX9_inner 0 0 0 (some (.int r), u') 4 [(0, .ref a0), (1, .int x1), (2, .int x2)] [] u) (u : Mm) (a0 : Nat) (x1 : Int32) (x2 : Int32) (h : bX9_inner_4 k4 u a0 x1 x2 = some (r, u')) : Eg MX9_inner 0 0 0 (some (.int r), u') 4 [(0, .ref a0), (1, .int x1), (2, .int x2)] [] u := by
  unfold bX9_inner_4 at h
  refine E_iload_n dX9_inner_4 rfl rfl ?_
  refine E_aload_n dX9_inner_5 rfl rfl ?_
  refine E_getI h dX9_inner_6 cf9 lk_X9_261 (by decide) (fun _ _ _ => rfl) (fun h => ?_)
  refine E_oI h (fun v1 h => ?_)
  refine E_ic_ge (tgt := 40) h dX9_inner_9 (by decide) (fun h => ?_) (fun h => ?_)
  · refine E_iload_n dX9_inner_40 rfl rfl ?_
    exact E_iret h dX9_inner_41 rfl
  · refine E_aload_n dX9_inner_12 rfl rfl ?_
    refine E_getA h dX9_inner_13 cf9 lk_X9_51 (by decide) (fun _ _ _ => rfl) (fun e2 h => ?_)
    refine E_iload_n dX9_inner_16 rfl rfl ?_
    refine E_iald h dX9_inner_17 (fun h => ?_)
    refine E_oI h (fun v3 h => ?_)
    refine E_bipush (v := 31) dX9_inner_18 (by decide) ?_
    refine E_ic_lt (tgt := 32) h dX9_inner_20 (by decide) (fun h => ?_) (fun h => ?_)
    · refine E_iload_n dX9_inner_32 rfl rfl ?_
      refine Eg.pick [0, 2] rfl ?_
      exact pX9_inner_33 hk4 _ _ _ _ h
    · refine E_aload_n dX9_inner_23 rfl rfl ?_
      refine E_getA h dX9_inner_24 cf9 lk_X9_51 (by decide) (fun _ _ _ => rfl) (fun e4 h => ?_)
      refine E_iload_n dX9_inner_27 rfl rfl ?_
      refine E_iald h dX9_inner_28 (fun h => ?_)
      refine E_oI h (fun v5 h => ?_)
      refine E_goto (tgt := 33) dX9_inner_29 (by decide) ?_
      refine Eg.pick [0, 2] rfl ?_
      exact pX9_inner_33 hk4 _ _ _ _ h
def rX9_inner_4 : Nat → Mm → Nat → Int32 → Int32 → Option (Int32 × Mm)
  | 0, _, _, _, _ => none
  | n + 1, u, a0, x1, x2 => bX9_inner_4 (rX9_inner_4 n) u a0 x1 x2
theorem prX9_inner_4 {r : Int32} {u' : Mm} : ∀ (n : Nat) (u : Mm) (a0 : Nat) (x1 : Int32) (x2 : Int32), rX9_inner_4 n u a0 x1 x2 = some (r, u') → Eg MX9_inner 0 0 0 (some (.int r), u') 4 [(0, .ref a0), (1, .int x1), (2, .int x2)] [] u
  | 0, _, _, _, _, h => by cases h
  | n + 1, u, a0, x1, x2, h => pX9_inner_4 (prX9_inner_4 n) u a0 x1 x2 h
def fX9_inner (u : Mm) (a0 : Nat) : Option (Int32 × Mm) := rX9_inner_4 hwF u a0 ((-1)) 0
set_option maxRecDepth 100000 in
set_option maxHeartbeats 4000000 in
theorem tX9_inner {u : Mm} {a0 : Nat} {r : Int32} {u' : Mm} (h : fX9_inner u a0 = some (r, u')) : Ev 0 MX9_inner 0 0 [.ref a0] u (some (.int r), u') := by
  refine Ev.of (by decide +kernel) (Nat.le_of_ble_eq_true rfl) (show Eg MX9_inner 0 0 0 (some (.int r), u') 0 [(0, .ref a0)] [] u from ?_)
  unfold fX9_inner at h
  refine E_iconst (v := (-1)) dX9_inner_0 (by decide) ?_
  refine E_istore_n (l' := [(1, .int ((-1))), (0, .ref a0)]) dX9_inner_1 rfl (Nat.le_of_ble_eq_true rfl) rfl ?_
  refine E_iconst (v := 0) dX9_inner_2 (by decide) ?_
  refine E_istore_n (l' := [(2, .int 0), (1, .int ((-1))), (0, .ref a0)]) dX9_inner_3 rfl (Nat.le_of_ble_eq_true rfl) rfl ?_
  refine Eg.pick [2, 1, 0] rfl ?_
  exact prX9_inner_4 _ _ _ _ _ h
def bX9_isCompared_64 (u : Mm) (s0 : Int32) : Option (Int32 × Mm) := oZ s0 (some (s0, u))
set_option maxRecDepth 100000 in
set_option maxHeartbeats 4000000 in
theorem pX9_isCompared_64 {r : Int32} {u' : Mm} (u : Mm) (s0 : Int32) (h : bX9_isCompared_64 u s0 = some (r, u')) : Eg MX9_isCompared 1 0 0 (some (.int r), u') 64 [] [.int s0] u := by
  unfold bX9_isCompared_64 at h
  exact E_zret h dX9_isCompared_64 rfl
def bX9_isCompared_36 (u : Mm) (a0 : Nat) (x1 : Int32) : Option (Int32 × Mm) := (if (x1 : Int32) < 0 then bX9_isCompared_64 u 0 else oK u a0 9 54 (oNn (mR u a0 27) (fun e3 => oA u e3 10 x1 (oI (mI u e3 (Int32.toNatClampNeg x1)) (fun v4 => oB (fX9_in u (Int32.toInt64 v4) 25 27) (fun v5 u6 => (if (v5 : Int32) = 0 then bX9_isCompared_64 u6 0 else bX9_isCompared_64 u6 1)))))))
set_option maxRecDepth 100000 in
set_option maxHeartbeats 4000000 in
theorem pX9_isCompared_36 {r : Int32} {u' : Mm} (u : Mm) (a0 : Nat) (x1 : Int32) (h : bX9_isCompared_36 u a0 x1 = some (r, u')) : Eg MX9_isCompared 1 0 0 (some (.int r), u') 36 [(0, .ref a0), (1, .int x1)] [] u := by
  unfold bX9_isCompared_36 at h
  refine E_iload_n dX9_isCompared_36 rfl rfl ?_
  refine E_if_lt (tgt := 63) h dX9_isCompared_37 (by decide) (fun h => ?_) (fun h => ?_)
  · refine E_iconst (v := 0) dX9_isCompared_63 (by decide) ?_
    refine Eg.pick [] rfl ?_
    exact pX9_isCompared_64 _ _ h
  · refine E_aload_n dX9_isCompared_40 rfl rfl ?_
    refine E_getA h dX9_isCompared_41 cf9 lk_X9_51 (by decide) (fun _ _ _ => rfl) (fun e3 h => ?_)
    refine E_iload_n dX9_isCompared_44 rfl rfl ?_
    refine E_iald h dX9_isCompared_45 (fun h => ?_)
    refine E_oI h (fun v4 h => ?_)
    refine E_i2l dX9_isCompared_46 ?_
    refine E_ldc2 dX9_isCompared_47 rfl cn_X9_273 ?_
    refine E_ldc2 dX9_isCompared_50 rfl cn_X9_275 ?_
    refine F_Si h (fun a m e => tX9_in e) dX9_isCompared_53 hm_X9_in hs_X9_in ln_X9_154 rfl rfl (Nat.le_of_ble_eq_true rfl) (Nat.le_of_ble_eq_true rfl) (kc' := 0) (ks' := 0) rfl rfl (fun v5 u6 h => ?_)
    refine E_if_eq (tgt := 63) h dX9_isCompared_56 (by decide) (fun h => ?_) (fun h => ?_)
    · refine E_iconst (v := 0) dX9_isCompared_63 (by decide) ?_
      refine Eg.pick [] rfl ?_
      exact pX9_isCompared_64 _ _ h
    · refine E_iconst (v := 1) dX9_isCompared_59 (by decide) ?_
      refine E_goto (tgt := 64) dX9_isCompared_60 (by decide) ?_
      refine Eg.pick [] rfl ?_
      exact pX9_isCompared_64 _ _ h
def bX9_isCompared_7 (k7 : Mm → Nat → Int32 → Option (Int32 × Mm)) (u : Mm) (a0 : Nat) (x1 : Int32) : Option (Int32 × Mm) := (if (x1 : Int32) < 0 then bX9_isCompared_36 u a0 x1 else oK u a0 9 54 (oNn (mR u a0 27) (fun e7 => oA u e7 10 x1 (oI (mI u e7 (Int32.toNatClampNeg x1)) (fun v8 => oB (fX9_in u (Int32.toInt64 v8) 20 24) (fun v9 u10 => (if (v9 : Int32) = 0 then bX9_isCompared_36 u10 a0 x1 else k7 u10 a0 (x1 + (-1)))))))))
set_option maxRecDepth 100000 in
set_option maxHeartbeats 4000000 in
theorem pX9_isCompared_7 {r : Int32} {u' : Mm} {k7 : Mm → Nat → Int32 → Option (Int32 × Mm)} (hk7 : ∀ (u : Mm) (a0 : Nat) (x1 : Int32), k7 u a0 x1 = some (r, u') → Eg MX9_isCompared 1 0 0 (some (.int r), u') 7 [(0, .ref a0), (1, .int x1)] [] u) (u : Mm) (a0 : Nat) (x1 : Int32) (h : bX9_isCompared_7 k7 u a0 x1 = some (r, u')) : Eg MX9_isCompared 1 0 0 (some (.int r), u') 7 [(0, .ref a0), (1, .int x1)] [] u := by
  unfold bX9_isCompared_7 at h
  refine E_iload_n dX9_isCompared_7 rfl rfl ?_
  refine E_if_lt (tgt := 36) h dX9_isCompared_8 (by decide) (fun h => ?_) (fun h => ?_)
  · refine Eg.pick [0, 1] rfl ?_
    exact pX9_isCompared_36 _ _ _ h
  · refine E_aload_n dX9_isCompared_11 rfl rfl ?_
    refine E_getA h dX9_isCompared_12 cf9 lk_X9_51 (by decide) (fun _ _ _ => rfl) (fun e7 h => ?_)
    refine E_iload_n dX9_isCompared_15 rfl rfl ?_
    refine E_iald h dX9_isCompared_16 (fun h => ?_)
    refine E_oI h (fun v8 h => ?_)
    refine E_i2l dX9_isCompared_17 ?_
    refine E_ldc2 dX9_isCompared_18 rfl cn_X9_194 ?_
    refine E_ldc2 dX9_isCompared_21 rfl cn_X9_271 ?_
    refine F_Si h (fun a m e => tX9_in e) dX9_isCompared_24 hm_X9_in hs_X9_in ln_X9_154 rfl rfl (Nat.le_of_ble_eq_true rfl) (Nat.le_of_ble_eq_true rfl) (kc' := 0) (ks' := 0) rfl rfl (fun v9 u10 h => ?_)
    refine E_if_eq (tgt := 36) h dX9_isCompared_27 (by decide) (fun h => ?_) (fun h => ?_)
    · refine Eg.pick [0, 1] rfl ?_
      exact pX9_isCompared_36 _ _ _ h
    · refine E_iinc (j := 1) (v := x1 + (-1)) (l' := [(1, .int (x1 + (-1))), (0, .ref a0)]) dX9_isCompared_30 rfl (addI (by decide)) (Nat.le_of_ble_eq_true rfl) rfl ?_
      refine E_goto (tgt := 7) dX9_isCompared_33 (by decide) ?_
      refine Eg.pick [1, 0] rfl ?_
      exact hk7 _ _ _ h
def rX9_isCompared_7 : Nat → Mm → Nat → Int32 → Option (Int32 × Mm)
  | 0, _, _, _ => none
  | n + 1, u, a0, x1 => bX9_isCompared_7 (rX9_isCompared_7 n) u a0 x1
theorem prX9_isCompared_7 {r : Int32} {u' : Mm} : ∀ (n : Nat) (u : Mm) (a0 : Nat) (x1 : Int32), rX9_isCompared_7 n u a0 x1 = some (r, u') → Eg MX9_isCompared 1 0 0 (some (.int r), u') 7 [(0, .ref a0), (1, .int x1)] [] u
  | 0, _, _, _, h => by cases h
  | n + 1, u, a0, x1, h => pX9_isCompared_7 (prX9_isCompared_7 n) u a0 x1 h
def fX9_isCompared (u : Mm) (a0 : Nat) : Option (Int32 × Mm) := oK u a0 9 54 (oI (mI u a0 29) (fun v1 => oI (v1 - 1) (fun v2 => rX9_isCompared_7 hwF u a0 v2)))
set_option maxRecDepth 100000 in
set_option maxHeartbeats 4000000 in
theorem tX9_isCompared {u : Mm} {a0 : Nat} {r : Int32} {u' : Mm} (h : fX9_isCompared u a0 = some (r, u')) : Ev 1 MX9_isCompared 0 0 [.ref a0] u (some (.int r), u') := by
  refine Ev.of (by decide +kernel) (Nat.le_of_ble_eq_true rfl) (show Eg MX9_isCompared 1 0 0 (some (.int r), u') 0 [(0, .ref a0)] [] u from ?_)
  unfold fX9_isCompared at h
  refine E_aload_n dX9_isCompared_0 rfl rfl ?_
  refine E_getI h dX9_isCompared_1 cf9 lk_X9_261 (by decide) (fun _ _ _ => rfl) (fun h => ?_)
  refine E_oI h (fun v1 h => ?_)
  refine E_iconst (v := 1) dX9_isCompared_4 (by decide) ?_
  refine E_isub dX9_isCompared_5 ?_
  refine E_oI h (fun v2 h => ?_)
  refine E_istore_n (l' := [(1, .int v2), (0, .ref a0)]) dX9_isCompared_6 rfl (Nat.le_of_ble_eq_true rfl) rfl ?_
  refine Eg.pick [1, 0] rfl ?_
  exact prX9_isCompared_7 _ _ _ _ h
def bX9_partAt_30 (k4 : Mm → Nat → Int32 → Int32 → Option (Int32 × Mm)) (u : Mm) (a0 : Nat) (x2 : Int32) (s0 : Int32) : Option (Int32 × Mm) := k4 u a0 s0 (x2 + 1)
set_option maxRecDepth 100000 in
set_option maxHeartbeats 4000000 in
theorem pX9_partAt_30 {r : Int32} {u' : Mm} {k4 : Mm → Nat → Int32 → Int32 → Option (Int32 × Mm)} (hk4 : ∀ (u : Mm) (a0 : Nat) (x1 : Int32) (x2 : Int32), k4 u a0 x1 x2 = some (r, u') → Eg MX9_partAt 1 0 0 (some (.int r), u') 4 [(0, .ref a0), (1, .int x1), (2, .int x2)] [] u) (u : Mm) (a0 : Nat) (x2 : Int32) (s0 : Int32) (h : bX9_partAt_30 k4 u a0 x2 s0 = some (r, u')) : Eg MX9_partAt 1 0 0 (some (.int r), u') 30 [(0, .ref a0), (2, .int x2)] [.int s0] u := by
  unfold bX9_partAt_30 at h
  refine E_istore_n (l' := [(1, .int s0), (0, .ref a0), (2, .int x2)]) dX9_partAt_30 rfl (Nat.le_of_ble_eq_true rfl) rfl ?_
  refine E_iinc (j := 2) (v := x2 + 1) (l' := [(2, .int (x2 + 1)), (1, .int s0), (0, .ref a0)]) dX9_partAt_31 rfl (addI (by decide)) (Nat.le_of_ble_eq_true rfl) rfl ?_
  refine E_goto (tgt := 4) dX9_partAt_34 (by decide) ?_
  refine Eg.pick [2, 1, 0] rfl ?_
  exact hk4 _ _ _ _ h
def bX9_partAt_4 (k4 : Mm → Nat → Int32 → Int32 → Option (Int32 × Mm)) (u : Mm) (a0 : Nat) (x1 : Int32) (x2 : Int32) : Option (Int32 × Mm) := (if (10 : Int32) ≤ x2 then some (x1, u) else oK u a0 9 54 (oNn (mR u a0 31) (fun e1 => oA u e1 11 x2 (oJ (mL u e1 (Int32.toNatClampNeg x2)) (fun w2 => oR u a0 9 (oB (fX9_isWord u a0 w2) (fun v3 u4 => (if (v3 : Int32) = 0 then bX9_partAt_30 k4 u4 a0 x2 x1 else bX9_partAt_30 k4 u4 a0 x2 (x2 + 1)))))))))
set_option maxRecDepth 100000 in
set_option maxHeartbeats 4000000 in
theorem pX9_partAt_4 {r : Int32} {u' : Mm} {k4 : Mm → Nat → Int32 → Int32 → Option (Int32 × Mm)} (hk4 : ∀ (u : Mm) (a0 : Nat) (x1 : Int32) (x2 : Int32), k4 u a0 x1 x2 = some (r, u') → Eg MX9_partAt 1 0 0 (some (.int r), u') 4 [(0, .ref a0), (1, .int x1), (2, .int x2)] [] u) (u : Mm) (a0 : Nat) (x1 : Int32) (x2 : Int32) (h : bX9_partAt_4 k4 u a0 x1 x2 = some (r, u')) : Eg MX9_partAt 1 0 0 (some (.int r), u') 4 [(0, .ref a0), (1, .int x1), (2, .int x2)] [] u := by
  unfold bX9_partAt_4 at h
  refine E_iload_n dX9_partAt_4 rfl rfl ?_
  refine E_bipush (v := 10) dX9_partAt_5 (by decide) ?_
  refine E_ic_ge (tgt := 37) h dX9_partAt_7 (by decide) (fun h => ?_) (fun h => ?_)
  · refine E_iload_n dX9_partAt_37 rfl rfl ?_
    exact E_iret h dX9_partAt_38 rfl
  · refine E_aload_n dX9_partAt_10 rfl rfl ?_
    refine E_aload_n dX9_partAt_11 rfl rfl ?_
    refine E_getA h dX9_partAt_12 cf9 lk_X9_77 (by decide) (fun _ _ _ => rfl) (fun e1 h => ?_)
    refine E_iload_n dX9_partAt_15 rfl rfl ?_
    refine E_lald h dX9_partAt_16 (fun h => ?_)
    refine E_oJ h (fun w2 h => ?_)
    refine F_Vi h (fun a m e => tX9_isWord e) dX9_partAt_17 hm_X9_isWord hv_X9_isWord ln_X9_277 rfl rfl (Nat.le_of_ble_eq_true rfl) (Nat.le_of_ble_eq_true rfl) (kc' := 0) (ks' := 0) rfl rfl (fun v3 u4 h => ?_)
    refine E_if_eq (tgt := 29) h dX9_partAt_20 (by decide) (fun h => ?_) (fun h => ?_)
    · refine E_iload_n dX9_partAt_29 rfl rfl ?_
      refine Eg.pick [0, 2] rfl ?_
      exact pX9_partAt_30 hk4 _ _ _ _ h
    · refine E_iload_n dX9_partAt_23 rfl rfl ?_
      refine E_iconst (v := 1) dX9_partAt_24 (by decide) ?_
      refine E_iadd dX9_partAt_25 ?_
      refine E_goto (tgt := 30) dX9_partAt_26 (by decide) ?_
      refine Eg.pick [0, 2] rfl ?_
      exact pX9_partAt_30 hk4 _ _ _ _ h
def rX9_partAt_4 : Nat → Mm → Nat → Int32 → Int32 → Option (Int32 × Mm)
  | 0, _, _, _, _ => none
  | n + 1, u, a0, x1, x2 => bX9_partAt_4 (rX9_partAt_4 n) u a0 x1 x2
theorem prX9_partAt_4 {r : Int32} {u' : Mm} : ∀ (n : Nat) (u : Mm) (a0 : Nat) (x1 : Int32) (x2 : Int32), rX9_partAt_4 n u a0 x1 x2 = some (r, u') → Eg MX9_partAt 1 0 0 (some (.int r), u') 4 [(0, .ref a0), (1, .int x1), (2, .int x2)] [] u
  | 0, _, _, _, _, h => by cases h
  | n + 1, u, a0, x1, x2, h => pX9_partAt_4 (prX9_partAt_4 n) u a0 x1 x2 h
def fX9_partAt (u : Mm) (a0 : Nat) : Option (Int32 × Mm) := rX9_partAt_4 hwF u a0 ((-1)) 0
set_option maxRecDepth 100000 in
set_option maxHeartbeats 4000000 in
theorem tX9_partAt {u : Mm} {a0 : Nat} {r : Int32} {u' : Mm} (h : fX9_partAt u a0 = some (r, u')) : Ev 1 MX9_partAt 0 0 [.ref a0] u (some (.int r), u') := by
  refine Ev.of (by decide +kernel) (Nat.le_of_ble_eq_true rfl) (show Eg MX9_partAt 1 0 0 (some (.int r), u') 0 [(0, .ref a0)] [] u from ?_)
  unfold fX9_partAt at h
  refine E_iconst (v := (-1)) dX9_partAt_0 (by decide) ?_
  refine E_istore_n (l' := [(1, .int ((-1))), (0, .ref a0)]) dX9_partAt_1 rfl (Nat.le_of_ble_eq_true rfl) rfl ?_
  refine E_iconst (v := 0) dX9_partAt_2 (by decide) ?_
  refine E_istore_n (l' := [(2, .int 0), (1, .int ((-1))), (0, .ref a0)]) dX9_partAt_3 rfl (Nat.le_of_ble_eq_true rfl) rfl ?_
  refine Eg.pick [2, 1, 0] rfl ?_
  exact prX9_partAt_4 _ _ _ _ _ h
def bX9_orderPartAt_30 (k4 : Mm → Nat → Int32 → Int32 → Option (Int32 × Mm)) (u : Mm) (a0 : Nat) (x2 : Int32) (s0 : Int32) : Option (Int32 × Mm) := k4 u a0 s0 (x2 + 1)
set_option maxRecDepth 100000 in
set_option maxHeartbeats 4000000 in
theorem pX9_orderPartAt_30 {r : Int32} {u' : Mm} {k4 : Mm → Nat → Int32 → Int32 → Option (Int32 × Mm)} (hk4 : ∀ (u : Mm) (a0 : Nat) (x1 : Int32) (x2 : Int32), k4 u a0 x1 x2 = some (r, u') → Eg MX9_orderPartAt 1 0 0 (some (.int r), u') 4 [(0, .ref a0), (1, .int x1), (2, .int x2)] [] u) (u : Mm) (a0 : Nat) (x2 : Int32) (s0 : Int32) (h : bX9_orderPartAt_30 k4 u a0 x2 s0 = some (r, u')) : Eg MX9_orderPartAt 1 0 0 (some (.int r), u') 30 [(0, .ref a0), (2, .int x2)] [.int s0] u := by
  unfold bX9_orderPartAt_30 at h
  refine E_istore_n (l' := [(1, .int s0), (0, .ref a0), (2, .int x2)]) dX9_orderPartAt_30 rfl (Nat.le_of_ble_eq_true rfl) rfl ?_
  refine E_iinc (j := 2) (v := x2 + 1) (l' := [(2, .int (x2 + 1)), (1, .int s0), (0, .ref a0)]) dX9_orderPartAt_31 rfl (addI (by decide)) (Nat.le_of_ble_eq_true rfl) rfl ?_
  refine E_goto (tgt := 4) dX9_orderPartAt_34 (by decide) ?_
  refine Eg.pick [2, 1, 0] rfl ?_
  exact hk4 _ _ _ _ h
def bX9_orderPartAt_4 (k4 : Mm → Nat → Int32 → Int32 → Option (Int32 × Mm)) (u : Mm) (a0 : Nat) (x1 : Int32) (x2 : Int32) : Option (Int32 × Mm) := (if (6 : Int32) ≤ x2 then some (x1, u) else oK u a0 9 54 (oNn (mR u a0 32) (fun e1 => oA u e1 11 x2 (oJ (mL u e1 (Int32.toNatClampNeg x2)) (fun w2 => oR u a0 9 (oB (fX9_isWord u a0 w2) (fun v3 u4 => (if (v3 : Int32) = 0 then bX9_orderPartAt_30 k4 u4 a0 x2 x1 else bX9_orderPartAt_30 k4 u4 a0 x2 (x2 + 1)))))))))
set_option maxRecDepth 100000 in
set_option maxHeartbeats 4000000 in
theorem pX9_orderPartAt_4 {r : Int32} {u' : Mm} {k4 : Mm → Nat → Int32 → Int32 → Option (Int32 × Mm)} (hk4 : ∀ (u : Mm) (a0 : Nat) (x1 : Int32) (x2 : Int32), k4 u a0 x1 x2 = some (r, u') → Eg MX9_orderPartAt 1 0 0 (some (.int r), u') 4 [(0, .ref a0), (1, .int x1), (2, .int x2)] [] u) (u : Mm) (a0 : Nat) (x1 : Int32) (x2 : Int32) (h : bX9_orderPartAt_4 k4 u a0 x1 x2 = some (r, u')) : Eg MX9_orderPartAt 1 0 0 (some (.int r), u') 4 [(0, .ref a0), (1, .int x1), (2, .int x2)] [] u := by
  unfold bX9_orderPartAt_4 at h
  refine E_iload_n dX9_orderPartAt_4 rfl rfl ?_
  refine E_bipush (v := 6) dX9_orderPartAt_5 (by decide) ?_
  refine E_ic_ge (tgt := 37) h dX9_orderPartAt_7 (by decide) (fun h => ?_) (fun h => ?_)
  · refine E_iload_n dX9_orderPartAt_37 rfl rfl ?_
    exact E_iret h dX9_orderPartAt_38 rfl
  · refine E_aload_n dX9_orderPartAt_10 rfl rfl ?_
    refine E_aload_n dX9_orderPartAt_11 rfl rfl ?_
    refine E_getA h dX9_orderPartAt_12 cf9 lk_X9_85 (by decide) (fun _ _ _ => rfl) (fun e1 h => ?_)
    refine E_iload_n dX9_orderPartAt_15 rfl rfl ?_
    refine E_lald h dX9_orderPartAt_16 (fun h => ?_)
    refine E_oJ h (fun w2 h => ?_)
    refine F_Vi h (fun a m e => tX9_isWord e) dX9_orderPartAt_17 hm_X9_isWord hv_X9_isWord ln_X9_277 rfl rfl (Nat.le_of_ble_eq_true rfl) (Nat.le_of_ble_eq_true rfl) (kc' := 0) (ks' := 0) rfl rfl (fun v3 u4 h => ?_)
    refine E_if_eq (tgt := 29) h dX9_orderPartAt_20 (by decide) (fun h => ?_) (fun h => ?_)
    · refine E_iload_n dX9_orderPartAt_29 rfl rfl ?_
      refine Eg.pick [0, 2] rfl ?_
      exact pX9_orderPartAt_30 hk4 _ _ _ _ h
    · refine E_iload_n dX9_orderPartAt_23 rfl rfl ?_
      refine E_iconst (v := 1) dX9_orderPartAt_24 (by decide) ?_
      refine E_iadd dX9_orderPartAt_25 ?_
      refine E_goto (tgt := 30) dX9_orderPartAt_26 (by decide) ?_
      refine Eg.pick [0, 2] rfl ?_
      exact pX9_orderPartAt_30 hk4 _ _ _ _ h
def rX9_orderPartAt_4 : Nat → Mm → Nat → Int32 → Int32 → Option (Int32 × Mm)
  | 0, _, _, _, _ => none
  | n + 1, u, a0, x1, x2 => bX9_orderPartAt_4 (rX9_orderPartAt_4 n) u a0 x1 x2
theorem prX9_orderPartAt_4 {r : Int32} {u' : Mm} : ∀ (n : Nat) (u : Mm) (a0 : Nat) (x1 : Int32) (x2 : Int32), rX9_orderPartAt_4 n u a0 x1 x2 = some (r, u') → Eg MX9_orderPartAt 1 0 0 (some (.int r), u') 4 [(0, .ref a0), (1, .int x1), (2, .int x2)] [] u
  | 0, _, _, _, _, h => by cases h
  | n + 1, u, a0, x1, x2, h => pX9_orderPartAt_4 (prX9_orderPartAt_4 n) u a0 x1 x2 h
def fX9_orderPartAt (u : Mm) (a0 : Nat) : Option (Int32 × Mm) := rX9_orderPartAt_4 hwF u a0 ((-1)) 0
set_option maxRecDepth 100000 in
set_option maxHeartbeats 4000000 in
theorem tX9_orderPartAt {u : Mm} {a0 : Nat} {r : Int32} {u' : Mm} (h : fX9_orderPartAt u a0 = some (r, u')) : Ev 1 MX9_orderPartAt 0 0 [.ref a0] u (some (.int r), u') := by
  refine Ev.of (by decide +kernel) (Nat.le_of_ble_eq_true rfl) (show Eg MX9_orderPartAt 1 0 0 (some (.int r), u') 0 [(0, .ref a0)] [] u from ?_)
  unfold fX9_orderPartAt at h
  refine E_iconst (v := (-1)) dX9_orderPartAt_0 (by decide) ?_
  refine E_istore_n (l' := [(1, .int ((-1))), (0, .ref a0)]) dX9_orderPartAt_1 rfl (Nat.le_of_ble_eq_true rfl) rfl ?_
  refine E_iconst (v := 0) dX9_orderPartAt_2 (by decide) ?_
  refine E_istore_n (l' := [(2, .int 0), (1, .int ((-1))), (0, .ref a0)]) dX9_orderPartAt_3 rfl (Nat.le_of_ble_eq_true rfl) rfl ?_
  refine Eg.pick [2, 1, 0] rfl ?_
  exact prX9_orderPartAt_4 _ _ _ _ _ h
def bX9_openBracket_15 (u : Mm) (a0 : Nat) (x1 : Int32) (s0 : Int32) (s1 : Nat) : Option (Unit × Mm) := oR u s1 9 (oB (fX9_must u s1 s0) (fun _ u2 => oK u2 a0 9 54 (oI (mI u2 a0 19) (fun v3 => (if (v3 : Int32) = 0 then oK u2 a0 9 54 (oI (mI u2 a0 30) (fun v4 => oK u2 a0 9 54 (oU (wI u2 a0 (upd (mI u2 a0) 30 (v4 + 1))) (fun u5 => oR u5 a0 9 (oB (fX9_push u5 a0 x1 0) (fun _ u6 => some ((), u6))))))) else some ((), u2))))))
set_option maxRecDepth 100000 in
set_option maxHeartbeats 4000000 in
theorem pX9_openBracket_15 {r : Unit} {u' : Mm} (u : Mm) (a0 : Nat) (x1 : Int32) (s0 : Int32) (s1 : Nat) (h : bX9_openBracket_15 u a0 x1 s0 s1 = some (r, u')) : Eg MX9_openBracket 3 0 0 (none, u') 15 [(0, .ref a0), (1, .int x1)] [.int s0, .ref s1] u := by
  unfold bX9_openBracket_15 at h
  refine F_Vv h (fun m e => tX9_must e) dX9_openBracket_15 hm_X9_must hv_X9_must ln_X9_254 rfl rfl (Nat.le_of_ble_eq_true rfl) (Nat.le_of_ble_eq_true rfl) (kc' := 0) (ks' := 0) rfl rfl (fun u2 h => ?_)
  refine E_aload_n dX9_openBracket_18 rfl rfl ?_
  refine E_getI h dX9_openBracket_19 cf9 lk_X9_223 (by decide) (fun _ _ _ => rfl) (fun h => ?_)
  refine E_oI h (fun v3 h => ?_)
  refine E_if_ne (tgt := 41) h dX9_openBracket_22 (by decide) (fun h => ?_) (fun h => ?_)
  · exact E_vret h dX9_openBracket_41 rfl
  · refine E_aload_n dX9_openBracket_25 rfl rfl ?_
    refine E_dup dX9_openBracket_26 rfl ?_
    refine E_getI h dX9_openBracket_27 cf9 lk_X9_281 (by decide) (fun _ _ _ => rfl) (fun h => ?_)
    refine E_oI h (fun v4 h => ?_)
    refine E_iconst (v := 1) dX9_openBracket_30 (by decide) ?_
    refine E_iadd dX9_openBracket_31 ?_
    refine E_putI h dX9_openBracket_32 cf9 lk_X9_281 (by decide) (Or.inl rfl) rfl (fun h => ?_)
    refine E_oU h (fun u5 h => ?_)
    refine E_aload_n dX9_openBracket_35 rfl rfl ?_
    refine E_iload_n dX9_openBracket_36 rfl rfl ?_
    refine E_iconst (v := 0) dX9_openBracket_37 (by decide) ?_
    refine F_Vv h (fun m e => tX9_push e) dX9_openBracket_38 hm_X9_push hv_X9_push ln_X9_284 rfl rfl (Nat.le_of_ble_eq_true rfl) (Nat.le_of_ble_eq_true rfl) (kc' := 0) (ks' := 0) rfl rfl (fun u6 h => ?_)
    exact E_vret h dX9_openBracket_41 rfl
def fX9_openBracket (u : Mm) (a0 : Nat) (x1 : Int32) : Option (Unit × Mm) := oK u a0 9 54 (oI (mI u a0 30) (fun v1 => (if (8 : Int32) ≤ v1 then bX9_openBracket_15 u a0 x1 0 a0 else bX9_openBracket_15 u a0 x1 1 a0)))
set_option maxRecDepth 100000 in
set_option maxHeartbeats 4000000 in
theorem tX9_openBracket {u : Mm} {a0 : Nat} {x1 : Int32} {r : Unit} {u' : Mm} (h : fX9_openBracket u a0 x1 = some (r, u')) : Ev 3 MX9_openBracket 0 0 [.ref a0, .int x1] u (none, u') := by
  refine Ev.of (by decide +kernel) (Nat.le_of_ble_eq_true rfl) (show Eg MX9_openBracket 3 0 0 (none, u') 0 [(0, .ref a0), (1, .int x1)] [] u from ?_)
  unfold fX9_openBracket at h
  refine E_aload_n dX9_openBracket_0 rfl rfl ?_
  refine E_aload_n dX9_openBracket_1 rfl rfl ?_
  refine E_getI h dX9_openBracket_2 cf9 lk_X9_281 (by decide) (fun _ _ _ => rfl) (fun h => ?_)
  refine E_oI h (fun v1 h => ?_)
  refine E_bipush (v := 8) dX9_openBracket_5 (by decide) ?_
  refine E_ic_ge (tgt := 14) h dX9_openBracket_7 (by decide) (fun h => ?_) (fun h => ?_)
  · refine E_iconst (v := 0) dX9_openBracket_14 (by decide) ?_
    refine Eg.pick [0, 1] rfl ?_
    exact pX9_openBracket_15 _ _ _ _ _ h
  · refine E_iconst (v := 1) dX9_openBracket_10 (by decide) ?_
    refine E_goto (tgt := 15) dX9_openBracket_11 (by decide) ?_
    refine Eg.pick [0, 1] rfl ?_
    exact pX9_openBracket_15 _ _ _ _ _ h
def bX9_leaf_19 (u : Mm) (a0 : Nat) (x2 : Int32) (x3 : Int32) (s0 : Int32) (s1 : Nat) : Option (Unit × Mm) := oR u s1 9 (oB (fX9_must u s1 s0) (fun _ u1 => oK u1 a0 9 54 (oI (mI u1 a0 19) (fun v2 => (if (v2 : Int32) = 0 then oR u1 a0 9 (oB (fX9_emit u1 a0 x2 x3) (fun _ u3 => oK u3 a0 9 54 (oI (mI u3 a0 26) (fun v4 => oK u3 a0 9 54 (oU (wI u3 a0 (upd (mI u3 a0) 26 (v4 + 1))) (fun u5 => some ((), u5))))))) else some ((), u1))))))
set_option maxRecDepth 100000 in
set_option maxHeartbeats 4000000 in
theorem pX9_leaf_19 {r : Unit} {u' : Mm} (u : Mm) (a0 : Nat) (x2 : Int32) (x3 : Int32) (s0 : Int32) (s1 : Nat) (h : bX9_leaf_19 u a0 x2 x3 s0 s1 = some (r, u')) : Eg MX9_leaf 3 0 0 (none, u') 19 [(0, .ref a0), (2, .int x2), (3, .int x3)] [.int s0, .ref s1] u := by
  unfold bX9_leaf_19 at h
  refine F_Vv h (fun m e => tX9_must e) dX9_leaf_19 hm_X9_must hv_X9_must ln_X9_254 rfl rfl (Nat.le_of_ble_eq_true rfl) (Nat.le_of_ble_eq_true rfl) (kc' := 0) (ks' := 0) rfl rfl (fun u1 h => ?_)
  refine E_aload_n dX9_leaf_22 rfl rfl ?_
  refine E_getI h dX9_leaf_23 cf9 lk_X9_223 (by decide) (fun _ _ _ => rfl) (fun h => ?_)
  refine E_oI h (fun v2 h => ?_)
  refine E_if_ne (tgt := 45) h dX9_leaf_26 (by decide) (fun h => ?_) (fun h => ?_)
  · exact E_vret h dX9_leaf_45 rfl
  · refine E_aload_n dX9_leaf_29 rfl rfl ?_
    refine E_iload_n dX9_leaf_30 rfl rfl ?_
    refine E_iload_n dX9_leaf_31 rfl rfl ?_
    refine F_Vv h (fun m e => tX9_emit e) dX9_leaf_32 hm_X9_emit hv_X9_emit ln_X9_267 rfl rfl (Nat.le_of_ble_eq_true rfl) (Nat.le_of_ble_eq_true rfl) (kc' := 0) (ks' := 0) rfl rfl (fun u3 h => ?_)
    refine E_aload_n dX9_leaf_35 rfl rfl ?_
    refine E_dup dX9_leaf_36 rfl ?_
    refine E_getI h dX9_leaf_37 cf9 lk_X9_287 (by decide) (fun _ _ _ => rfl) (fun h => ?_)
    refine E_oI h (fun v4 h => ?_)
    refine E_iconst (v := 1) dX9_leaf_40 (by decide) ?_
    refine E_iadd dX9_leaf_41 ?_
    refine E_putI h dX9_leaf_42 cf9 lk_X9_287 (by decide) (Or.inl rfl) rfl (fun h => ?_)
    refine E_oU h (fun u5 h => ?_)
    exact E_vret h dX9_leaf_45 rfl
def bX9_leaf_18 (u : Mm) (a0 : Nat) (x2 : Int32) (x3 : Int32) (s0 : Nat) : Option (Unit × Mm) := bX9_leaf_19 u a0 x2 x3 0 s0
set_option maxRecDepth 100000 in
set_option maxHeartbeats 4000000 in
theorem pX9_leaf_18 {r : Unit} {u' : Mm} (u : Mm) (a0 : Nat) (x2 : Int32) (x3 : Int32) (s0 : Nat) (h : bX9_leaf_18 u a0 x2 x3 s0 = some (r, u')) : Eg MX9_leaf 3 0 0 (none, u') 18 [(0, .ref a0), (2, .int x2), (3, .int x3)] [.ref s0] u := by
  unfold bX9_leaf_18 at h
  refine E_iconst (v := 0) dX9_leaf_18 (by decide) ?_
  refine Eg.pick [0, 1, 2] rfl ?_
  exact pX9_leaf_19 _ _ _ _ _ _ h
def fX9_leaf (u : Mm) (a0 : Nat) (x1 : Int32) (x2 : Int32) (x3 : Int32) : Option (Unit × Mm) := (if (x1 : Int32) = 0 then bX9_leaf_18 u a0 x2 x3 a0 else oK u a0 9 54 (oI (mI u a0 26) (fun v6 => (if (50 : Int32) ≤ v6 then bX9_leaf_18 u a0 x2 x3 a0 else bX9_leaf_19 u a0 x2 x3 1 a0))))
set_option maxRecDepth 100000 in
set_option maxHeartbeats 4000000 in
theorem tX9_leaf {u : Mm} {a0 : Nat} {x1 : Int32} {x2 : Int32} {x3 : Int32} {r : Unit} {u' : Mm} (h : fX9_leaf u a0 x1 x2 x3 = some (r, u')) : Ev 3 MX9_leaf 0 0 [.ref a0, .int x1, .int x2, .int x3] u (none, u') := by
  refine Ev.of (by decide +kernel) (Nat.le_of_ble_eq_true rfl) (show Eg MX9_leaf 3 0 0 (none, u') 0 [(0, .ref a0), (1, .int x1), (2, .int x2), (3, .int x3)] [] u from ?_)
  unfold fX9_leaf at h
  refine E_aload_n dX9_leaf_0 rfl rfl ?_
  refine E_iload_n dX9_leaf_1 rfl rfl ?_
  refine E_if_eq (tgt := 18) h dX9_leaf_2 (by decide) (fun h => ?_) (fun h => ?_)
  · refine Eg.pick [0, 2, 3] rfl ?_
    exact pX9_leaf_18 _ _ _ _ _ h
  · refine E_aload_n dX9_leaf_5 rfl rfl ?_
    refine E_getI h dX9_leaf_6 cf9 lk_X9_287 (by decide) (fun _ _ _ => rfl) (fun h => ?_)
    refine E_oI h (fun v6 h => ?_)
    refine E_bipush (v := 50) dX9_leaf_9 (by decide) ?_
    refine E_ic_ge (tgt := 18) h dX9_leaf_11 (by decide) (fun h => ?_) (fun h => ?_)
    · refine Eg.pick [0, 2, 3] rfl ?_
      exact pX9_leaf_18 _ _ _ _ _ h
    · refine E_iconst (v := 1) dX9_leaf_14 (by decide) ?_
      refine E_goto (tgt := 19) dX9_leaf_15 (by decide) ?_
      refine Eg.pick [0, 2, 3] rfl ?_
      exact pX9_leaf_19 _ _ _ _ _ _ h
def bX9_readPart_147 (u : Mm) (s0 : Int64) (s1 : Int64) (s2 : Nat) (s3 : Int32) (s4 : Nat) : Option (Int32 × Mm) := oR u s2 9 (oB (fX9_number u s2 s1 s0) (fun v13 u14 => oA u14 s4 10 s3 (oU (wI u14 s4 (upd (mI u14 s4) (Int32.toNatClampNeg s3) v13)) (fun u15 => some (3, u15)))))
set_option maxRecDepth 100000 in
set_option maxHeartbeats 4000000 in
theorem pX9_readPart_147 {r : Int32} {u' : Mm} (u : Mm) (s0 : Int64) (s1 : Int64) (s2 : Nat) (s3 : Int32) (s4 : Nat) (h : bX9_readPart_147 u s0 s1 s2 s3 s4 = some (r, u')) : Eg MX9_readPart 4 0 0 (some (.int r), u') 147 [] [.long s0, .long s1, .ref s2, .int s3, .ref s4] u := by
  unfold bX9_readPart_147 at h
  refine F_Vi h (fun a m e => tX9_number e) dX9_readPart_147 hm_X9_number hv_X9_number ln_X9_312 rfl rfl (Nat.le_of_ble_eq_true rfl) (Nat.le_of_ble_eq_true rfl) (kc' := 0) (ks' := 0) rfl rfl (fun v13 u14 h => ?_)
  refine E_iast h dX9_readPart_150 (fun h => ?_)
  refine E_oU h (fun u15 h => ?_)
  refine E_iconst (v := 3) dX9_readPart_151 (by decide) ?_
  exact E_iret h dX9_readPart_152 rfl
def bX9_readPart_99 (u : Mm) (a0 : Nat) (x1 : Int32) (s0 : Int32) (s1 : Int32) (s2 : Int32) (s3 : Nat) : Option (Int32 × Mm) := oR u s3 9 (oB (fX9_leaf u s3 s2 s1 s0) (fun _ u7 => oK u7 a0 9 54 (oI (mI u7 a0 20) (fun v8 => (if (v8 : Int32) = 0 then some (3, u7) else (if (x1 : Int32) < 4 then some (3, u7) else oK u7 a0 9 54 (oI (mI u7 a0 19) (fun v9 => (if (v9 : Int32) = 0 then oK u7 a0 9 54 (oI (mI u7 a0 23) (fun v10 => oI (v10 - 1) (fun v11 => oK u7 a0 9 54 (oNn (mR u7 a0 25) (fun e12 => (if (x1 : Int32) = 4 then bX9_readPart_147 u7 7 0 a0 v11 e12 else bX9_readPart_147 u7 1 0 a0 v11 e12)))))) else some (3, u7))))))))))
set_option maxRecDepth 100000 in
set_option maxHeartbeats 4000000 in
theorem pX9_readPart_99 {r : Int32} {u' : Mm} (u : Mm) (a0 : Nat) (x1 : Int32) (s0 : Int32) (s1 : Int32) (s2 : Int32) (s3 : Nat) (h : bX9_readPart_99 u a0 x1 s0 s1 s2 s3 = some (r, u')) : Eg MX9_readPart 4 0 0 (some (.int r), u') 99 [(0, .ref a0), (1, .int x1)] [.int s0, .int s1, .int s2, .ref s3] u := by
  unfold bX9_readPart_99 at h
  refine F_Vv h (fun m e => tX9_leaf e) dX9_readPart_99 hm_X9_leaf hv_X9_leaf ln_X9_308 rfl rfl (Nat.le_of_ble_eq_true rfl) (Nat.le_of_ble_eq_true rfl) (kc' := 0) (ks' := 0) rfl rfl (fun u7 h => ?_)
  refine E_aload_n dX9_readPart_102 rfl rfl ?_
  refine E_getI h dX9_readPart_103 cf9 lk_X9_296 (by decide) (fun _ _ _ => rfl) (fun h => ?_)
  refine E_oI h (fun v8 h => ?_)
  refine E_if_eq (tgt := 151) h dX9_readPart_106 (by decide) (fun h => ?_) (fun h => ?_)
  · refine E_iconst (v := 3) dX9_readPart_151 (by decide) ?_
    exact E_iret h dX9_readPart_152 rfl
  · refine E_iload_n dX9_readPart_109 rfl rfl ?_
    refine E_iconst (v := 4) dX9_readPart_110 (by decide) ?_
    refine E_ic_lt (tgt := 151) h dX9_readPart_111 (by decide) (fun h => ?_) (fun h => ?_)
    · refine E_iconst (v := 3) dX9_readPart_151 (by decide) ?_
      exact E_iret h dX9_readPart_152 rfl
    · refine E_aload_n dX9_readPart_114 rfl rfl ?_
      refine E_getI h dX9_readPart_115 cf9 lk_X9_223 (by decide) (fun _ _ _ => rfl) (fun h => ?_)
      refine E_oI h (fun v9 h => ?_)
      refine E_if_ne (tgt := 151) h dX9_readPart_118 (by decide) (fun h => ?_) (fun h => ?_)
      · refine E_iconst (v := 3) dX9_readPart_151 (by decide) ?_
        exact E_iret h dX9_readPart_152 rfl
      · refine E_aload_n dX9_readPart_121 rfl rfl ?_
        refine E_getI h dX9_readPart_122 cf9 lk_X9_258 (by decide) (fun _ _ _ => rfl) (fun h => ?_)
        refine E_oI h (fun v10 h => ?_)
        refine E_iconst (v := 1) dX9_readPart_125 (by decide) ?_
        refine E_isub dX9_readPart_126 ?_
        refine E_oI h (fun v11 h => ?_)
        refine E_istore_n (l' := [(3, .int v11), (0, .ref a0), (1, .int x1)]) dX9_readPart_127 rfl (Nat.le_of_ble_eq_true rfl) rfl ?_
        refine E_aload_n dX9_readPart_128 rfl rfl ?_
        refine E_getA h dX9_readPart_129 cf9 lk_X9_48 (by decide) (fun _ _ _ => rfl) (fun e12 h => ?_)
        refine E_iload_n dX9_readPart_132 rfl rfl ?_
        refine E_aload_n dX9_readPart_133 rfl rfl ?_
        refine E_lconst (v := 0) dX9_readPart_134 (by decide) ?_
        refine E_iload_n dX9_readPart_135 rfl rfl ?_
        refine E_iconst (v := 4) dX9_readPart_136 (by decide) ?_
        refine E_ic_ne (tgt := 146) h dX9_readPart_137 (by decide) (fun h => ?_) (fun h => ?_)
        · refine E_lconst (v := 1) dX9_readPart_146 (by decide) ?_
          refine Eg.pick [] rfl ?_
          exact pX9_readPart_147 _ _ _ _ _ _ h
        · refine E_ldc2 dX9_readPart_140 rfl cn_X9_161 ?_
          refine E_goto (tgt := 147) dX9_readPart_143 (by decide) ?_
          refine Eg.pick [] rfl ?_
          exact pX9_readPart_147 _ _ _ _ _ _ h
def bX9_readPart_86 (u : Mm) (a0 : Nat) (x1 : Int32) (x2 : Int32) (s0 : Int32) (s1 : Int32) (s2 : Nat) : Option (Int32 × Mm) := (if (x2 : Int32) = 0 then bX9_readPart_99 u a0 x1 0 s0 s1 s2 else oK u a0 9 54 (oJ (mL u a0 17) (fun w16 => bX9_readPart_99 u a0 x1 (Int64.toInt32 w16) s0 s1 s2)))
set_option maxRecDepth 100000 in
set_option maxHeartbeats 4000000 in
theorem pX9_readPart_86 {r : Int32} {u' : Mm} (u : Mm) (a0 : Nat) (x1 : Int32) (x2 : Int32) (s0 : Int32) (s1 : Int32) (s2 : Nat) (h : bX9_readPart_86 u a0 x1 x2 s0 s1 s2 = some (r, u')) : Eg MX9_readPart 4 0 0 (some (.int r), u') 86 [(0, .ref a0), (1, .int x1), (2, .int x2)] [.int s0, .int s1, .ref s2] u := by
  unfold bX9_readPart_86 at h
  refine E_iload_n dX9_readPart_86 rfl rfl ?_
  refine E_if_eq (tgt := 98) h dX9_readPart_87 (by decide) (fun h => ?_) (fun h => ?_)
  · refine E_iconst (v := 0) dX9_readPart_98 (by decide) ?_
    refine Eg.pick [0, 1] rfl ?_
    exact pX9_readPart_99 _ _ _ _ _ _ _ h
  · refine E_aload_n dX9_readPart_90 rfl rfl ?_
    refine E_getL h dX9_readPart_91 cf9 lk_X9_233 (by decide) (fun _ _ _ => rfl) (fun h => ?_)
    refine E_oJ h (fun w16 h => ?_)
    refine E_l2i dX9_readPart_94 ?_
    refine E_goto (tgt := 99) dX9_readPart_95 (by decide) ?_
    refine Eg.pick [0, 1] rfl ?_
    exact pX9_readPart_99 _ _ _ _ _ _ _ h
def bX9_readPart_76 (u : Mm) (a0 : Nat) (x1 : Int32) (x2 : Int32) (s0 : Int32) (s1 : Nat) : Option (Int32 × Mm) := (if (x1 : Int32) = ((-1)) then bX9_readPart_86 u a0 x1 x2 0 s0 s1 else bX9_readPart_86 u a0 x1 x2 x1 s0 s1)
set_option maxRecDepth 100000 in
set_option maxHeartbeats 4000000 in
theorem pX9_readPart_76 {r : Int32} {u' : Mm} (u : Mm) (a0 : Nat) (x1 : Int32) (x2 : Int32) (s0 : Int32) (s1 : Nat) (h : bX9_readPart_76 u a0 x1 x2 s0 s1 = some (r, u')) : Eg MX9_readPart 4 0 0 (some (.int r), u') 76 [(0, .ref a0), (1, .int x1), (2, .int x2)] [.int s0, .ref s1] u := by
  unfold bX9_readPart_76 at h
  refine E_iload_n dX9_readPart_76 rfl rfl ?_
  refine E_iconst (v := (-1)) dX9_readPart_77 (by decide) ?_
  refine E_ic_ne (tgt := 85) h dX9_readPart_78 (by decide) (fun h => ?_) (fun h => ?_)
  · refine E_iload_n dX9_readPart_85 rfl rfl ?_
    refine Eg.pick [0, 1, 2] rfl ?_
    exact pX9_readPart_86 _ _ _ _ _ _ _ h
  · refine E_iconst (v := 0) dX9_readPart_81 (by decide) ?_
    refine E_goto (tgt := 86) dX9_readPart_82 (by decide) ?_
    refine Eg.pick [0, 1, 2] rfl ?_
    exact pX9_readPart_86 _ _ _ _ _ _ _ h
def bX9_readPart_71 (u : Mm) (a0 : Nat) (x1 : Int32) (x2 : Int32) (s0 : Nat) : Option (Int32 × Mm) := bX9_readPart_76 u a0 x1 x2 1 s0
set_option maxRecDepth 100000 in
set_option maxHeartbeats 4000000 in
theorem pX9_readPart_71 {r : Int32} {u' : Mm} (u : Mm) (a0 : Nat) (x1 : Int32) (x2 : Int32) (s0 : Nat) (h : bX9_readPart_71 u a0 x1 x2 s0 = some (r, u')) : Eg MX9_readPart 4 0 0 (some (.int r), u') 71 [(0, .ref a0), (1, .int x1), (2, .int x2)] [.ref s0] u := by
  unfold bX9_readPart_71 at h
  refine E_iconst (v := 1) dX9_readPart_71 (by decide) ?_
  refine E_goto (tgt := 76) dX9_readPart_72 (by decide) ?_
  refine Eg.pick [0, 1, 2] rfl ?_
  exact pX9_readPart_76 _ _ _ _ _ _ h
def bX9_readPart_60 (u : Mm) (a0 : Nat) (x1 : Int32) (s0 : Int32) : Option (Int32 × Mm) := (if (x1 : Int32) = ((-1)) then (if (s0 : Int32) = 0 then bX9_readPart_76 u a0 x1 s0 0 a0 else bX9_readPart_71 u a0 x1 s0 a0) else bX9_readPart_71 u a0 x1 s0 a0)
set_option maxRecDepth 100000 in
set_option maxHeartbeats 4000000 in
theorem pX9_readPart_60 {r : Int32} {u' : Mm} (u : Mm) (a0 : Nat) (x1 : Int32) (s0 : Int32) (h : bX9_readPart_60 u a0 x1 s0 = some (r, u')) : Eg MX9_readPart 4 0 0 (some (.int r), u') 60 [(0, .ref a0), (1, .int x1)] [.int s0] u := by
  unfold bX9_readPart_60 at h
  refine E_istore_n (l' := [(2, .int s0), (0, .ref a0), (1, .int x1)]) dX9_readPart_60 rfl (Nat.le_of_ble_eq_true rfl) rfl ?_
  refine E_aload_n dX9_readPart_61 rfl rfl ?_
  refine E_iload_n dX9_readPart_62 rfl rfl ?_
  refine E_iconst (v := (-1)) dX9_readPart_63 (by decide) ?_
  refine E_ic_ne (tgt := 71) h dX9_readPart_64 (by decide) (fun h => ?_) (fun h => ?_)
  · refine Eg.pick [1, 2, 0] rfl ?_
    exact pX9_readPart_71 _ _ _ _ _ h
  · refine E_iload_n dX9_readPart_67 rfl rfl ?_
    refine E_if_eq (tgt := 75) h dX9_readPart_68 (by decide) (fun h => ?_) (fun h => ?_)
    · refine E_iconst (v := 0) dX9_readPart_75 (by decide) ?_
      refine Eg.pick [1, 2, 0] rfl ?_
      exact pX9_readPart_76 _ _ _ _ _ _ h
    · refine Eg.pick [1, 2, 0] rfl ?_
      exact pX9_readPart_71 _ _ _ _ _ h
def bX9_readPart_59 (u : Mm) (a0 : Nat) (x1 : Int32) : Option (Int32 × Mm) := bX9_readPart_60 u a0 x1 0
set_option maxRecDepth 100000 in
set_option maxHeartbeats 4000000 in
theorem pX9_readPart_59 {r : Int32} {u' : Mm} (u : Mm) (a0 : Nat) (x1 : Int32) (h : bX9_readPart_59 u a0 x1 = some (r, u')) : Eg MX9_readPart 4 0 0 (some (.int r), u') 59 [(0, .ref a0), (1, .int x1)] [] u := by
  unfold bX9_readPart_59 at h
  refine E_iconst (v := 0) dX9_readPart_59 (by decide) ?_
  refine Eg.pick [0, 1] rfl ?_
  exact pX9_readPart_60 _ _ _ _ h
def bX9_readPart_35 (u : Mm) (a0 : Nat) (s0 : Int32) : Option (Int32 × Mm) := oK u a0 9 54 (oI (mI u a0 16) (fun v6 => (if (v6 : Int32) = 2 then oK u a0 9 54 (oJ (mL u a0 17) (fun w17 => (if 0 < (lg_cmp w17 1000 : Int32) then bX9_readPart_59 u a0 s0 else bX9_readPart_60 u a0 s0 1))) else bX9_readPart_59 u a0 s0)))
set_option maxRecDepth 100000 in
set_option maxHeartbeats 4000000 in
theorem pX9_readPart_35 {r : Int32} {u' : Mm} (u : Mm) (a0 : Nat) (s0 : Int32) (h : bX9_readPart_35 u a0 s0 = some (r, u')) : Eg MX9_readPart 4 0 0 (some (.int r), u') 35 [(0, .ref a0)] [.int s0] u := by
  unfold bX9_readPart_35 at h
  refine E_istore_n (l' := [(1, .int s0), (0, .ref a0)]) dX9_readPart_35 rfl (Nat.le_of_ble_eq_true rfl) rfl ?_
  refine E_aload_n dX9_readPart_36 rfl rfl ?_
  refine E_getI h dX9_readPart_37 cf9 lk_X9_243 (by decide) (fun _ _ _ => rfl) (fun h => ?_)
  refine E_oI h (fun v6 h => ?_)
  refine E_iconst (v := 2) dX9_readPart_40 (by decide) ?_
  refine E_ic_ne (tgt := 59) h dX9_readPart_41 (by decide) (fun h => ?_) (fun h => ?_)
  · refine Eg.pick [1, 0] rfl ?_
    exact pX9_readPart_59 _ _ _ h
  · refine E_aload_n dX9_readPart_44 rfl rfl ?_
    refine E_getL h dX9_readPart_45 cf9 lk_X9_233 (by decide) (fun _ _ _ => rfl) (fun h => ?_)
    refine E_oJ h (fun w17 h => ?_)
    refine E_ldc2 dX9_readPart_48 rfl cn_X9_306 ?_
    refine E_lcmp dX9_readPart_51 ?_
    refine E_if_gt (tgt := 59) h dX9_readPart_52 (by decide) (fun h => ?_) (fun h => ?_)
    · refine Eg.pick [1, 0] rfl ?_
      exact pX9_readPart_59 _ _ _ h
    · refine E_iconst (v := 1) dX9_readPart_55 (by decide) ?_
      refine E_goto (tgt := 60) dX9_readPart_56 (by decide) ?_
      refine Eg.pick [1, 0] rfl ?_
      exact pX9_readPart_60 _ _ _ _ h
def fX9_readPart (u : Mm) (a0 : Nat) : Option (Int32 × Mm) := oR u a0 9 (oB (fX9_isSign u a0 91) (fun v1 u2 => (if (v1 : Int32) = 0 then oK u2 a0 9 54 (oI (mI u2 a0 20) (fun v3 => (if (v3 : Int32) = 0 then oR u2 a0 9 (oB (fX9_partAt u2 a0) (fun v4 u5 => bX9_readPart_35 u5 a0 v4)) else oR u2 a0 9 (oB (fX9_orderPartAt u2 a0) (fun v18 u19 => bX9_readPart_35 u19 a0 v18))))) else oR u2 a0 9 (oB (fX9_openBracket u2 a0 32) (fun _ u20 => some (1, u20))))))
set_option maxRecDepth 100000 in
set_option maxHeartbeats 4000000 in
theorem tX9_readPart {u : Mm} {a0 : Nat} {r : Int32} {u' : Mm} (h : fX9_readPart u a0 = some (r, u')) : Ev 4 MX9_readPart 0 0 [.ref a0] u (some (.int r), u') := by
  refine Ev.of (by decide +kernel) (Nat.le_of_ble_eq_true rfl) (show Eg MX9_readPart 4 0 0 (some (.int r), u') 0 [(0, .ref a0)] [] u from ?_)
  unfold fX9_readPart at h
  refine E_aload_n dX9_readPart_0 rfl rfl ?_
  refine E_bipush (v := 91) dX9_readPart_1 (by decide) ?_
  refine F_Vi h (fun a m e => tX9_isSign e) dX9_readPart_3 hm_X9_isSign hv_X9_isSign ln_X9_290 rfl rfl (Nat.le_of_ble_eq_true rfl) (Nat.le_of_ble_eq_true rfl) (kc' := 0) (ks' := 0) rfl rfl (fun v1 u2 h => ?_)
  refine E_if_eq (tgt := 17) h dX9_readPart_6 (by decide) (fun h => ?_) (fun h => ?_)
  · refine E_aload_n dX9_readPart_17 rfl rfl ?_
    refine E_getI h dX9_readPart_18 cf9 lk_X9_296 (by decide) (fun _ _ _ => rfl) (fun h => ?_)
    refine E_oI h (fun v3 h => ?_)
    refine E_if_eq (tgt := 31) h dX9_readPart_21 (by decide) (fun h => ?_) (fun h => ?_)
    · refine E_aload_n dX9_readPart_31 rfl rfl ?_
      refine F_Vi h (fun a m e => tX9_partAt e) dX9_readPart_32 hm_X9_partAt hv_X9_partAt ln_X9_303 rfl rfl (Nat.le_of_ble_eq_true rfl) (Nat.le_of_ble_eq_true rfl) (kc' := 0) (ks' := 0) rfl rfl (fun v4 u5 h => ?_)
      refine Eg.pick [0] rfl ?_
      exact pX9_readPart_35 _ _ _ h
    · refine E_aload_n dX9_readPart_24 rfl rfl ?_
      refine F_Vi h (fun a m e => tX9_orderPartAt e) dX9_readPart_25 hm_X9_orderPartAt hv_X9_orderPartAt ln_X9_299 rfl rfl (Nat.le_of_ble_eq_true rfl) (Nat.le_of_ble_eq_true rfl) (kc' := 0) (ks' := 0) rfl rfl (fun v18 u19 h => ?_)
      refine E_goto (tgt := 35) dX9_readPart_28 (by decide) ?_
      refine Eg.pick [0] rfl ?_
      exact pX9_readPart_35 _ _ _ h
  · refine E_aload_n dX9_readPart_9 rfl rfl ?_
    refine E_bipush (v := 32) dX9_readPart_10 (by decide) ?_
    refine F_Vv h (fun m e => tX9_openBracket e) dX9_readPart_12 hm_X9_openBracket hv_X9_openBracket ln_X9_293 rfl rfl (Nat.le_of_ble_eq_true rfl) (Nat.le_of_ble_eq_true rfl) (kc' := 0) (ks' := 0) rfl rfl (fun u20 h => ?_)
    refine E_iconst (v := 1) dX9_readPart_15 (by decide) ?_
    exact E_iret h dX9_readPart_16 rfl
def fX9_readPlain (u : Mm) (a0 : Nat) : Option (Int32 × Mm) := oR u a0 9 (oB (fX9_isWord u a0 14836) (fun v1 u2 => (if (v1 : Int32) = 0 then oR u2 a0 9 (oB (fX9_isSign u2 a0 40) (fun v3 u4 => (if (v3 : Int32) = 0 then oR u4 a0 9 (oB (fX9_readPart u4 a0) (fun v5 u6 => some (v5, u6))) else oR u4 a0 9 (oB (fX9_openBracket u4 a0 31) (fun _ u7 => some (0, u7)))))) else oR u2 a0 9 (oB (fX9_push u2 a0 28 0) (fun _ u8 => oR u8 a0 9 (oB (fX9_next u8 a0) (fun _ u9 => some (0, u9))))))))
set_option maxRecDepth 100000 in
set_option maxHeartbeats 4000000 in
theorem tX9_readPlain {u : Mm} {a0 : Nat} {r : Int32} {u' : Mm} (h : fX9_readPlain u a0 = some (r, u')) : Ev 5 MX9_readPlain 0 0 [.ref a0] u (some (.int r), u') := by
  refine Ev.of (by decide +kernel) (Nat.le_of_ble_eq_true rfl) (show Eg MX9_readPlain 5 0 0 (some (.int r), u') 0 [(0, .ref a0)] [] u from ?_)
  unfold fX9_readPlain at h
  refine E_aload_n dX9_readPlain_0 rfl rfl ?_
  refine E_ldc2 dX9_readPlain_1 rfl cn_X9_316 ?_
  refine F_Vi h (fun a m e => tX9_isWord e) dX9_readPlain_4 hm_X9_isWord hv_X9_isWord ln_X9_277 rfl rfl (Nat.le_of_ble_eq_true rfl) (Nat.le_of_ble_eq_true rfl) (kc' := 0) (ks' := 0) rfl rfl (fun v1 u2 h => ?_)
  refine E_if_eq (tgt := 23) h dX9_readPlain_7 (by decide) (fun h => ?_) (fun h => ?_)
  · refine E_aload_n dX9_readPlain_23 rfl rfl ?_
    refine E_bipush (v := 40) dX9_readPlain_24 (by decide) ?_
    refine F_Vi h (fun a m e => tX9_isSign e) dX9_readPlain_26 hm_X9_isSign hv_X9_isSign ln_X9_290 rfl rfl (Nat.le_of_ble_eq_true rfl) (Nat.le_of_ble_eq_true rfl) (kc' := 0) (ks' := 0) rfl rfl (fun v3 u4 h => ?_)
    refine E_if_eq (tgt := 40) h dX9_readPlain_29 (by decide) (fun h => ?_) (fun h => ?_)
    · refine E_aload_n dX9_readPlain_40 rfl rfl ?_
      refine F_Vi h (fun a m e => tX9_readPart e) dX9_readPlain_41 hm_X9_readPart hv_X9_readPart ln_X9_318 rfl rfl (Nat.le_of_ble_eq_true rfl) (Nat.le_of_ble_eq_true rfl) (kc' := 0) (ks' := 0) rfl rfl (fun v5 u6 h => ?_)
      exact E_iret h dX9_readPlain_44 rfl
    · refine E_aload_n dX9_readPlain_32 rfl rfl ?_
      refine E_bipush (v := 31) dX9_readPlain_33 (by decide) ?_
      refine F_Vv h (fun m e => tX9_openBracket e) dX9_readPlain_35 hm_X9_openBracket hv_X9_openBracket ln_X9_293 rfl rfl (Nat.le_of_ble_eq_true rfl) (Nat.le_of_ble_eq_true rfl) (kc' := 0) (ks' := 0) rfl rfl (fun u7 h => ?_)
      refine E_iconst (v := 0) dX9_readPlain_38 (by decide) ?_
      exact E_iret h dX9_readPlain_39 rfl
  · refine E_aload_n dX9_readPlain_10 rfl rfl ?_
    refine E_bipush (v := 28) dX9_readPlain_11 (by decide) ?_
    refine E_iconst (v := 0) dX9_readPlain_13 (by decide) ?_
    refine F_Vv h (fun m e => tX9_push e) dX9_readPlain_14 hm_X9_push hv_X9_push ln_X9_284 rfl rfl (Nat.le_of_ble_eq_true rfl) (Nat.le_of_ble_eq_true rfl) (kc' := 0) (ks' := 0) rfl rfl (fun u8 h => ?_)
    refine E_aload_n dX9_readPlain_17 rfl rfl ?_
    refine F_Vv h (fun m e => tX9_next e) dX9_readPlain_18 hm_X9_next hv_X9_next ln_X9_227 rfl rfl (Nat.le_of_ble_eq_true rfl) (Nat.le_of_ble_eq_true rfl) (kc' := 0) (ks' := 0) rfl rfl (fun u9 h => ?_)
    refine E_iconst (v := 0) dX9_readPlain_21 (by decide) ?_
    exact E_iret h dX9_readPlain_22 rfl
def bX9_behindSum_224 (u : Mm) (a0 : Nat) (x2 : Int32) (s0 : Int32) (s1 : Nat) : Option (Int32 × Mm) := oR u s1 9 (oB (fX9_must u s1 s0) (fun _ u19 => oK u19 a0 9 54 (oI (mI u19 a0 19) (fun v20 => (if (v20 : Int32) = 0 then oR u19 a0 9 (oB (fX9_settle u19 a0 5) (fun _ u21 => oR u21 a0 9 (oB (fX9_push u21 a0 x2 0) (fun _ u22 => some (1, u22))))) else some (1, u19))))))
set_option maxRecDepth 100000 in
set_option maxHeartbeats 4000000 in
theorem pX9_behindSum_224 {r : Int32} {u' : Mm} (u : Mm) (a0 : Nat) (x2 : Int32) (s0 : Int32) (s1 : Nat) (h : bX9_behindSum_224 u a0 x2 s0 s1 = some (r, u')) : Eg MX9_behindSum 3 0 0 (some (.int r), u') 224 [(0, .ref a0), (2, .int x2)] [.int s0, .ref s1] u := by
  unfold bX9_behindSum_224 at h
  refine F_Vv h (fun m e => tX9_must e) dX9_behindSum_224 hm_X9_must hv_X9_must ln_X9_254 rfl rfl (Nat.le_of_ble_eq_true rfl) (Nat.le_of_ble_eq_true rfl) (kc' := 0) (ks' := 0) rfl rfl (fun u19 h => ?_)
  refine E_aload_n dX9_behindSum_227 rfl rfl ?_
  refine E_getI h dX9_behindSum_228 cf9 lk_X9_223 (by decide) (fun _ _ _ => rfl) (fun h => ?_)
  refine E_oI h (fun v20 h => ?_)
  refine E_if_ne (tgt := 245) h dX9_behindSum_231 (by decide) (fun h => ?_) (fun h => ?_)
  · refine E_iconst (v := 1) dX9_behindSum_245 (by decide) ?_
    exact E_iret h dX9_behindSum_246 rfl
  · refine E_aload_n dX9_behindSum_234 rfl rfl ?_
    refine E_iconst (v := 5) dX9_behindSum_235 (by decide) ?_
    refine F_Vv h (fun m e => tX9_settle e) dX9_behindSum_236 hm_X9_settle hv_X9_settle ln_X9_321 rfl rfl (Nat.le_of_ble_eq_true rfl) (Nat.le_of_ble_eq_true rfl) (kc' := 0) (ks' := 0) rfl rfl (fun u21 h => ?_)
    refine E_aload_n dX9_behindSum_239 rfl rfl ?_
    refine E_iload_n dX9_behindSum_240 rfl rfl ?_
    refine E_iconst (v := 0) dX9_behindSum_241 (by decide) ?_
    refine F_Vv h (fun m e => tX9_push e) dX9_behindSum_242 hm_X9_push hv_X9_push ln_X9_284 rfl rfl (Nat.le_of_ble_eq_true rfl) (Nat.le_of_ble_eq_true rfl) (kc' := 0) (ks' := 0) rfl rfl (fun u22 h => ?_)
    refine E_iconst (v := 1) dX9_behindSum_245 (by decide) ?_
    exact E_iret h dX9_behindSum_246 rfl
def bX9_behindSum_219 (u : Mm) (a0 : Nat) (x2 : Int32) (s0 : Nat) : Option (Int32 × Mm) := bX9_behindSum_224 u a0 x2 1 s0
set_option maxRecDepth 100000 in
set_option maxHeartbeats 4000000 in
theorem pX9_behindSum_219 {r : Int32} {u' : Mm} (u : Mm) (a0 : Nat) (x2 : Int32) (s0 : Nat) (h : bX9_behindSum_219 u a0 x2 s0 = some (r, u')) : Eg MX9_behindSum 3 0 0 (some (.int r), u') 219 [(0, .ref a0), (2, .int x2)] [.ref s0] u := by
  unfold bX9_behindSum_219 at h
  refine E_iconst (v := 1) dX9_behindSum_219 (by decide) ?_
  refine E_goto (tgt := 224) dX9_behindSum_220 (by decide) ?_
  refine Eg.pick [0, 1] rfl ?_
  exact pX9_behindSum_224 _ _ _ _ _ h
def bX9_behindSum_202 (u : Mm) (a0 : Nat) (s0 : Int32) : Option (Int32 × Mm) := (if (s0 : Int32) = 27 then oR u a0 9 (oB (fX9_isSign u a0 61) (fun v23 u24 => (if (v23 : Int32) = 0 then bX9_behindSum_224 u24 a0 s0 0 a0 else bX9_behindSum_219 u24 a0 s0 a0))) else bX9_behindSum_219 u a0 s0 a0)
set_option maxRecDepth 100000 in
set_option maxHeartbeats 4000000 in
theorem pX9_behindSum_202 {r : Int32} {u' : Mm} (u : Mm) (a0 : Nat) (s0 : Int32) (h : bX9_behindSum_202 u a0 s0 = some (r, u')) : Eg MX9_behindSum 3 0 0 (some (.int r), u') 202 [(0, .ref a0)] [.int s0] u := by
  unfold bX9_behindSum_202 at h
  refine E_istore_n (l' := [(2, .int s0), (0, .ref a0)]) dX9_behindSum_202 rfl (Nat.le_of_ble_eq_true rfl) rfl ?_
  refine E_aload_n dX9_behindSum_203 rfl rfl ?_
  refine E_iload_n dX9_behindSum_204 rfl rfl ?_
  refine E_bipush (v := 27) dX9_behindSum_205 (by decide) ?_
  refine E_ic_ne (tgt := 219) h dX9_behindSum_207 (by decide) (fun h => ?_) (fun h => ?_)
  · refine Eg.pick [1, 0] rfl ?_
    exact pX9_behindSum_219 _ _ _ _ h
  · refine E_aload_n dX9_behindSum_210 rfl rfl ?_
    refine E_bipush (v := 61) dX9_behindSum_211 (by decide) ?_
    refine F_Vi h (fun a m e => tX9_isSign e) dX9_behindSum_213 hm_X9_isSign hv_X9_isSign ln_X9_290 rfl rfl (Nat.le_of_ble_eq_true rfl) (Nat.le_of_ble_eq_true rfl) (kc' := 0) (ks' := 0) rfl rfl (fun v23 u24 h => ?_)
    refine E_if_eq (tgt := 223) h dX9_behindSum_216 (by decide) (fun h => ?_) (fun h => ?_)
    · refine E_iconst (v := 0) dX9_behindSum_223 (by decide) ?_
      refine Eg.pick [1, 0] rfl ?_
      exact pX9_behindSum_224 _ _ _ _ _ h
    · refine Eg.pick [1, 0] rfl ?_
      exact pX9_behindSum_219 _ _ _ _ h
def bX9_behindSum_163 (u : Mm) (a0 : Nat) : Option (Int32 × Mm) := oR u a0 9 (oB (fX9_isCompared u a0) (fun v13 u14 => (if (v13 : Int32) = 0 then oR u14 a0 9 (oB (fX9_isSign u14 a0 60) (fun v15 u16 => (if (v15 : Int32) = 0 then oR u16 a0 9 (oB (fX9_isSign u16 a0 62) (fun v17 u18 => (if (v17 : Int32) = 0 then bX9_behindSum_202 u18 a0 27 else bX9_behindSum_202 u18 a0 26))) else bX9_behindSum_202 u16 a0 25))) else some (2, u14))))
set_option maxRecDepth 100000 in
set_option maxHeartbeats 4000000 in
theorem pX9_behindSum_163 {r : Int32} {u' : Mm} (u : Mm) (a0 : Nat) (h : bX9_behindSum_163 u a0 = some (r, u')) : Eg MX9_behindSum 3 0 0 (some (.int r), u') 163 [(0, .ref a0)] [] u := by
  unfold bX9_behindSum_163 at h
  refine E_aload_n dX9_behindSum_163 rfl rfl ?_
  refine F_Vi h (fun a m e => tX9_isCompared e) dX9_behindSum_164 hm_X9_isCompared hv_X9_isCompared ln_X9_327 rfl rfl (Nat.le_of_ble_eq_true rfl) (Nat.le_of_ble_eq_true rfl) (kc' := 0) (ks' := 0) rfl rfl (fun v13 u14 h => ?_)
  refine E_if_eq (tgt := 172) h dX9_behindSum_167 (by decide) (fun h => ?_) (fun h => ?_)
  · refine E_aload_n dX9_behindSum_172 rfl rfl ?_
    refine E_bipush (v := 60) dX9_behindSum_173 (by decide) ?_
    refine F_Vi h (fun a m e => tX9_isSign e) dX9_behindSum_175 hm_X9_isSign hv_X9_isSign ln_X9_290 rfl rfl (Nat.le_of_ble_eq_true rfl) (Nat.le_of_ble_eq_true rfl) (kc' := 0) (ks' := 0) rfl rfl (fun v15 u16 h => ?_)
    refine E_if_eq (tgt := 186) h dX9_behindSum_178 (by decide) (fun h => ?_) (fun h => ?_)
    · refine E_aload_n dX9_behindSum_186 rfl rfl ?_
      refine E_bipush (v := 62) dX9_behindSum_187 (by decide) ?_
      refine F_Vi h (fun a m e => tX9_isSign e) dX9_behindSum_189 hm_X9_isSign hv_X9_isSign ln_X9_290 rfl rfl (Nat.le_of_ble_eq_true rfl) (Nat.le_of_ble_eq_true rfl) (kc' := 0) (ks' := 0) rfl rfl (fun v17 u18 h => ?_)
      refine E_if_eq (tgt := 200) h dX9_behindSum_192 (by decide) (fun h => ?_) (fun h => ?_)
      · refine E_bipush (v := 27) dX9_behindSum_200 (by decide) ?_
        refine Eg.pick [0] rfl ?_
        exact pX9_behindSum_202 _ _ _ h
      · refine E_bipush (v := 26) dX9_behindSum_195 (by decide) ?_
        refine E_goto (tgt := 202) dX9_behindSum_197 (by decide) ?_
        refine Eg.pick [0] rfl ?_
        exact pX9_behindSum_202 _ _ _ h
    · refine E_bipush (v := 25) dX9_behindSum_181 (by decide) ?_
      refine E_goto (tgt := 202) dX9_behindSum_183 (by decide) ?_
      refine Eg.pick [0] rfl ?_
      exact pX9_behindSum_202 _ _ _ h
  · refine E_iconst (v := 2) dX9_behindSum_170 (by decide) ?_
    exact E_iret h dX9_behindSum_171 rfl
def bX9_behindSum_71 (u : Mm) (a0 : Nat) (x1 : Int32) (s0 : Int32) : Option (Int32 × Mm) := (if (s0 : Int32) = ((-1)) then oR u a0 9 (oB (fX9_inner u a0) (fun v11 u12 => (if (v11 : Int32) = 32 then oR u12 a0 9 (oB (fX9_isSign u12 a0 93) (fun v25 u26 => oR u26 a0 9 (oB (fX9_must u26 a0 v25) (fun _ u27 => oK u27 a0 9 54 (oI (mI u27 a0 19) (fun v28 => (if (v28 : Int32) = 0 then oR u27 a0 9 (oB (fX9_settle u27 a0 5) (fun _ u29 => oK u29 a0 9 54 (oI (mI u29 a0 29) (fun v30 => oK u29 a0 9 54 (oU (wI u29 a0 (upd (mI u29 a0) 29 (v30 - 1))) (fun u31 => oK u31 a0 9 54 (oI (mI u31 a0 30) (fun v32 => oK u31 a0 9 54 (oU (wI u31 a0 (upd (mI u31 a0) 30 (v32 - 1))) (fun u33 => some (3, u33))))))))))) else some (3, u27)))))))) else (if (v11 : Int32) = ((-1)) then (if (x1 : Int32) = 0 then some (4, u12) else bX9_behindSum_163 u12 a0) else bX9_behindSum_163 u12 a0)))) else oB (fX9_binds u s0) (fun v34 u35 => oR u35 a0 9 (oB (fX9_settle u35 a0 v34) (fun _ u36 => oR u36 a0 9 (oB (fX9_push u36 a0 s0 0) (fun _ u37 => oR u37 a0 9 (oB (fX9_next u37 a0) (fun _ u38 => some (1, u38)))))))))
set_option maxRecDepth 100000 in
set_option maxHeartbeats 4000000 in
theorem pX9_behindSum_71 {r : Int32} {u' : Mm} (u : Mm) (a0 : Nat) (x1 : Int32) (s0 : Int32) (h : bX9_behindSum_71 u a0 x1 s0 = some (r, u')) : Eg MX9_behindSum 3 0 0 (some (.int r), u') 71 [(0, .ref a0), (1, .int x1)] [.int s0] u := by
  unfold bX9_behindSum_71 at h
  refine E_istore_n (l' := [(2, .int s0), (0, .ref a0), (1, .int x1)]) dX9_behindSum_71 rfl (Nat.le_of_ble_eq_true rfl) rfl ?_
  refine E_iload_n dX9_behindSum_72 rfl rfl ?_
  refine E_iconst (v := (-1)) dX9_behindSum_73 (by decide) ?_
  refine E_ic_eq (tgt := 97) h dX9_behindSum_74 (by decide) (fun h => ?_) (fun h => ?_)
  · refine E_aload_n dX9_behindSum_97 rfl rfl ?_
    refine F_Vi h (fun a m e => tX9_inner e) dX9_behindSum_98 hm_X9_inner hv_X9_inner ln_X9_324 rfl rfl (Nat.le_of_ble_eq_true rfl) (Nat.le_of_ble_eq_true rfl) (kc' := 0) (ks' := 0) rfl rfl (fun v11 u12 h => ?_)
    refine E_istore_n (l' := [(3, .int v11), (2, .int s0), (0, .ref a0), (1, .int x1)]) dX9_behindSum_101 rfl (Nat.le_of_ble_eq_true rfl) rfl ?_
    refine E_iload_n dX9_behindSum_102 rfl rfl ?_
    refine E_bipush (v := 32) dX9_behindSum_103 (by decide) ?_
    refine E_ic_ne (tgt := 152) h dX9_behindSum_105 (by decide) (fun h => ?_) (fun h => ?_)
    · refine E_iload_n dX9_behindSum_152 rfl rfl ?_
      refine E_iconst (v := (-1)) dX9_behindSum_153 (by decide) ?_
      refine E_ic_ne (tgt := 163) h dX9_behindSum_154 (by decide) (fun h => ?_) (fun h => ?_)
      · refine Eg.pick [2] rfl ?_
        exact pX9_behindSum_163 _ _ h
      · refine E_iload_n dX9_behindSum_157 rfl rfl ?_
        refine E_if_ne (tgt := 163) h dX9_behindSum_158 (by decide) (fun h => ?_) (fun h => ?_)
        · refine Eg.pick [2] rfl ?_
          exact pX9_behindSum_163 _ _ h
        · refine E_iconst (v := 4) dX9_behindSum_161 (by decide) ?_
          exact E_iret h dX9_behindSum_162 rfl
    · refine E_aload_n dX9_behindSum_108 rfl rfl ?_
      refine E_aload_n dX9_behindSum_109 rfl rfl ?_
      refine E_bipush (v := 93) dX9_behindSum_110 (by decide) ?_
      refine F_Vi h (fun a m e => tX9_isSign e) dX9_behindSum_112 hm_X9_isSign hv_X9_isSign ln_X9_290 rfl rfl (Nat.le_of_ble_eq_true rfl) (Nat.le_of_ble_eq_true rfl) (kc' := 0) (ks' := 0) rfl rfl (fun v25 u26 h => ?_)
      refine F_Vv h (fun m e => tX9_must e) dX9_behindSum_115 hm_X9_must hv_X9_must ln_X9_254 rfl rfl (Nat.le_of_ble_eq_true rfl) (Nat.le_of_ble_eq_true rfl) (kc' := 0) (ks' := 0) rfl rfl (fun u27 h => ?_)
      refine E_aload_n dX9_behindSum_118 rfl rfl ?_
      refine E_getI h dX9_behindSum_119 cf9 lk_X9_223 (by decide) (fun _ _ _ => rfl) (fun h => ?_)
      refine E_oI h (fun v28 h => ?_)
      refine E_if_ne (tgt := 150) h dX9_behindSum_122 (by decide) (fun h => ?_) (fun h => ?_)
      · refine E_iconst (v := 3) dX9_behindSum_150 (by decide) ?_
        exact E_iret h dX9_behindSum_151 rfl
      · refine E_aload_n dX9_behindSum_125 rfl rfl ?_
        refine E_iconst (v := 5) dX9_behindSum_126 (by decide) ?_
        refine F_Vv h (fun m e => tX9_settle e) dX9_behindSum_127 hm_X9_settle hv_X9_settle ln_X9_321 rfl rfl (Nat.le_of_ble_eq_true rfl) (Nat.le_of_ble_eq_true rfl) (kc' := 0) (ks' := 0) rfl rfl (fun u29 h => ?_)
        refine E_aload_n dX9_behindSum_130 rfl rfl ?_
        refine E_dup dX9_behindSum_131 rfl ?_
        refine E_getI h dX9_behindSum_132 cf9 lk_X9_261 (by decide) (fun _ _ _ => rfl) (fun h => ?_)
        refine E_oI h (fun v30 h => ?_)
        refine E_iconst (v := 1) dX9_behindSum_135 (by decide) ?_
        refine E_isub dX9_behindSum_136 ?_
        refine E_putI h dX9_behindSum_137 cf9 lk_X9_261 (by decide) (Or.inl rfl) rfl (fun h => ?_)
        refine E_oU h (fun u31 h => ?_)
        refine E_aload_n dX9_behindSum_140 rfl rfl ?_
        refine E_dup dX9_behindSum_141 rfl ?_
        refine E_getI h dX9_behindSum_142 cf9 lk_X9_281 (by decide) (fun _ _ _ => rfl) (fun h => ?_)
        refine E_oI h (fun v32 h => ?_)
        refine E_iconst (v := 1) dX9_behindSum_145 (by decide) ?_
        refine E_isub dX9_behindSum_146 ?_
        refine E_putI h dX9_behindSum_147 cf9 lk_X9_281 (by decide) (Or.inl rfl) rfl (fun h => ?_)
        refine E_oU h (fun u33 h => ?_)
        refine E_iconst (v := 3) dX9_behindSum_150 (by decide) ?_
        exact E_iret h dX9_behindSum_151 rfl
  · refine E_aload_n dX9_behindSum_77 rfl rfl ?_
    refine E_iload_n dX9_behindSum_78 rfl rfl ?_
    refine F_Si h (fun a m e => tX9_binds e) dX9_behindSum_79 hm_X9_binds hs_X9_binds ln_X9_264 rfl rfl (Nat.le_of_ble_eq_true rfl) (Nat.le_of_ble_eq_true rfl) (kc' := 0) (ks' := 0) rfl rfl (fun v34 u35 h => ?_)
    refine F_Vv h (fun m e => tX9_settle e) dX9_behindSum_82 hm_X9_settle hv_X9_settle ln_X9_321 rfl rfl (Nat.le_of_ble_eq_true rfl) (Nat.le_of_ble_eq_true rfl) (kc' := 0) (ks' := 0) rfl rfl (fun u36 h => ?_)
    refine E_aload_n dX9_behindSum_85 rfl rfl ?_
    refine E_iload_n dX9_behindSum_86 rfl rfl ?_
    refine E_iconst (v := 0) dX9_behindSum_87 (by decide) ?_
    refine F_Vv h (fun m e => tX9_push e) dX9_behindSum_88 hm_X9_push hv_X9_push ln_X9_284 rfl rfl (Nat.le_of_ble_eq_true rfl) (Nat.le_of_ble_eq_true rfl) (kc' := 0) (ks' := 0) rfl rfl (fun u37 h => ?_)
    refine E_aload_n dX9_behindSum_91 rfl rfl ?_
    refine F_Vv h (fun m e => tX9_next e) dX9_behindSum_92 hm_X9_next hv_X9_next ln_X9_227 rfl rfl (Nat.le_of_ble_eq_true rfl) (Nat.le_of_ble_eq_true rfl) (kc' := 0) (ks' := 0) rfl rfl (fun u38 h => ?_)
    refine E_iconst (v := 1) dX9_behindSum_95 (by decide) ?_
    exact E_iret h dX9_behindSum_96 rfl
def fX9_behindSum (u : Mm) (a0 : Nat) (x1 : Int32) : Option (Int32 × Mm) := oR u a0 9 (oB (fX9_isSign u a0 43) (fun v1 u2 => (if (v1 : Int32) = 0 then oR u2 a0 9 (oB (fX9_isSign u2 a0 45) (fun v3 u4 => (if (v3 : Int32) = 0 then oR u4 a0 9 (oB (fX9_isSign u4 a0 42) (fun v5 u6 => (if (v5 : Int32) = 0 then oR u6 a0 9 (oB (fX9_isSign u6 a0 47) (fun v7 u8 => (if (v7 : Int32) = 0 then oR u8 a0 9 (oB (fX9_isSign u8 a0 37) (fun v9 u10 => (if (v9 : Int32) = 0 then bX9_behindSum_71 u10 a0 x1 ((-1)) else bX9_behindSum_71 u10 a0 x1 24))) else bX9_behindSum_71 u8 a0 x1 23))) else bX9_behindSum_71 u6 a0 x1 22))) else bX9_behindSum_71 u4 a0 x1 21))) else bX9_behindSum_71 u2 a0 x1 20)))
set_option maxRecDepth 100000 in
set_option maxHeartbeats 4000000 in
theorem tX9_behindSum {u : Mm} {a0 : Nat} {x1 : Int32} {r : Int32} {u' : Mm} (h : fX9_behindSum u a0 x1 = some (r, u')) : Ev 3 MX9_behindSum 0 0 [.ref a0, .int x1] u (some (.int r), u') := by
  refine Ev.of (by decide +kernel) (Nat.le_of_ble_eq_true rfl) (show Eg MX9_behindSum 3 0 0 (some (.int r), u') 0 [(0, .ref a0), (1, .int x1)] [] u from ?_)
  unfold fX9_behindSum at h
  refine E_aload_n dX9_behindSum_0 rfl rfl ?_
  refine E_bipush (v := 43) dX9_behindSum_1 (by decide) ?_
  refine F_Vi h (fun a m e => tX9_isSign e) dX9_behindSum_3 hm_X9_isSign hv_X9_isSign ln_X9_290 rfl rfl (Nat.le_of_ble_eq_true rfl) (Nat.le_of_ble_eq_true rfl) (kc' := 0) (ks' := 0) rfl rfl (fun v1 u2 h => ?_)
  refine E_if_eq (tgt := 14) h dX9_behindSum_6 (by decide) (fun h => ?_) (fun h => ?_)
  · refine E_aload_n dX9_behindSum_14 rfl rfl ?_
    refine E_bipush (v := 45) dX9_behindSum_15 (by decide) ?_
    refine F_Vi h (fun a m e => tX9_isSign e) dX9_behindSum_17 hm_X9_isSign hv_X9_isSign ln_X9_290 rfl rfl (Nat.le_of_ble_eq_true rfl) (Nat.le_of_ble_eq_true rfl) (kc' := 0) (ks' := 0) rfl rfl (fun v3 u4 h => ?_)
    refine E_if_eq (tgt := 28) h dX9_behindSum_20 (by decide) (fun h => ?_) (fun h => ?_)
    · refine E_aload_n dX9_behindSum_28 rfl rfl ?_
      refine E_bipush (v := 42) dX9_behindSum_29 (by decide) ?_
      refine F_Vi h (fun a m e => tX9_isSign e) dX9_behindSum_31 hm_X9_isSign hv_X9_isSign ln_X9_290 rfl rfl (Nat.le_of_ble_eq_true rfl) (Nat.le_of_ble_eq_true rfl) (kc' := 0) (ks' := 0) rfl rfl (fun v5 u6 h => ?_)
      refine E_if_eq (tgt := 42) h dX9_behindSum_34 (by decide) (fun h => ?_) (fun h => ?_)
      · refine E_aload_n dX9_behindSum_42 rfl rfl ?_
        refine E_bipush (v := 47) dX9_behindSum_43 (by decide) ?_
        refine F_Vi h (fun a m e => tX9_isSign e) dX9_behindSum_45 hm_X9_isSign hv_X9_isSign ln_X9_290 rfl rfl (Nat.le_of_ble_eq_true rfl) (Nat.le_of_ble_eq_true rfl) (kc' := 0) (ks' := 0) rfl rfl (fun v7 u8 h => ?_)
        refine E_if_eq (tgt := 56) h dX9_behindSum_48 (by decide) (fun h => ?_) (fun h => ?_)
        · refine E_aload_n dX9_behindSum_56 rfl rfl ?_
          refine E_bipush (v := 37) dX9_behindSum_57 (by decide) ?_
          refine F_Vi h (fun a m e => tX9_isSign e) dX9_behindSum_59 hm_X9_isSign hv_X9_isSign ln_X9_290 rfl rfl (Nat.le_of_ble_eq_true rfl) (Nat.le_of_ble_eq_true rfl) (kc' := 0) (ks' := 0) rfl rfl (fun v9 u10 h => ?_)
          refine E_if_eq (tgt := 70) h dX9_behindSum_62 (by decide) (fun h => ?_) (fun h => ?_)
          · refine E_iconst (v := (-1)) dX9_behindSum_70 (by decide) ?_
            refine Eg.pick [0, 1] rfl ?_
            exact pX9_behindSum_71 _ _ _ _ h
          · refine E_bipush (v := 24) dX9_behindSum_65 (by decide) ?_
            refine E_goto (tgt := 71) dX9_behindSum_67 (by decide) ?_
            refine Eg.pick [0, 1] rfl ?_
            exact pX9_behindSum_71 _ _ _ _ h
        · refine E_bipush (v := 23) dX9_behindSum_51 (by decide) ?_
          refine E_goto (tgt := 71) dX9_behindSum_53 (by decide) ?_
          refine Eg.pick [0, 1] rfl ?_
          exact pX9_behindSum_71 _ _ _ _ h
      · refine E_bipush (v := 22) dX9_behindSum_37 (by decide) ?_
        refine E_goto (tgt := 71) dX9_behindSum_39 (by decide) ?_
        refine Eg.pick [0, 1] rfl ?_
        exact pX9_behindSum_71 _ _ _ _ h
    · refine E_bipush (v := 21) dX9_behindSum_23 (by decide) ?_
      refine E_goto (tgt := 71) dX9_behindSum_25 (by decide) ?_
      refine Eg.pick [0, 1] rfl ?_
      exact pX9_behindSum_71 _ _ _ _ h
  · refine E_bipush (v := 20) dX9_behindSum_9 (by decide) ?_
    refine E_goto (tgt := 71) dX9_behindSum_11 (by decide) ?_
    refine Eg.pick [0, 1] rfl ?_
    exact pX9_behindSum_71 _ _ _ _ h
