/-! ===== methods as functions, with their contracts (printed by program) ===== -/
def fX9_strokes (u : Mm) (a0 : Nat) : Option (Int32 × Mm) := oK u a0 9 54 (oU (wI u a0 (upd (mI u a0) 0 0)) (fun u1 => oK u1 a0 9 54 (oI (mI u1 a0 11) (fun v2 => some (v2, u1)))))
set_option maxRecDepth 100000 in
set_option maxHeartbeats 4000000 in
theorem tX9_strokes {u : Mm} {a0 : Nat} {r : Int32} {u' : Mm} (h : fX9_strokes u a0 = some (r, u')) : Ev 0 MX9_strokes 0 0 [.ref a0] u (some (.int r), u') := by
  refine Ev.of (by decide +kernel) (Nat.le_of_ble_eq_true rfl) (show Eg MX9_strokes 0 0 0 (some (.int r), u') 0 [(0, .ref a0)] [] u from ?_)
  unfold fX9_strokes at h
  refine E_aload_n dX9_strokes_0 rfl rfl ?_
  refine E_iconst (v := 0) dX9_strokes_1 (by decide) ?_
  refine E_putI h dX9_strokes_2 cf9 lk_X9_134 (by decide) (Or.inl rfl) rfl (fun h => ?_)
  refine E_oU h (fun u1 h => ?_)
  refine E_aload_n dX9_strokes_5 rfl rfl ?_
  refine E_getI h dX9_strokes_6 cf9 lk_X9_214 (by decide) (fun _ _ _ => rfl) (fun h => ?_)
  refine E_oI h (fun v2 h => ?_)
  exact E_iret h dX9_strokes_9 rfl
def bX9_four_3 (k3 : Mm → Nat → Int32 → Int32 → Option (Unit × Mm)) (u : Mm) (a0 : Nat) (x1 : Int32) (x2 : Int32) : Option (Unit × Mm) := (if (x2 : Int32) < 0 then some ((), u) else oK u a0 9 54 (oNn (mR u a0 12) (fun e1 => oK u a0 9 54 (oI (mI u a0 13) (fun v2 => oA u e1 10 v2 (oU (wI u e1 (upd (mI u e1) (Int32.toNatClampNeg v2) ((x1 >>> (x2 &&& 31)) &&& 255))) (fun u3 => oK u3 a0 9 54 (oI (mI u3 a0 13) (fun v4 => oK u3 a0 9 54 (oU (wI u3 a0 (upd (mI u3 a0) 13 (v4 + 1))) (fun u5 => k3 u5 a0 x1 (x2 + (-8)))))))))))))
set_option maxRecDepth 100000 in
set_option maxHeartbeats 4000000 in
theorem pX9_four_3 {r : Unit} {u' : Mm} {k3 : Mm → Nat → Int32 → Int32 → Option (Unit × Mm)} (hk3 : ∀ (u : Mm) (a0 : Nat) (x1 : Int32) (x2 : Int32), k3 u a0 x1 x2 = some (r, u') → Eg MX9_four 0 0 0 (none, u') 3 [(0, .ref a0), (1, .int x1), (2, .int x2)] [] u) (u : Mm) (a0 : Nat) (x1 : Int32) (x2 : Int32) (h : bX9_four_3 k3 u a0 x1 x2 = some (r, u')) : Eg MX9_four 0 0 0 (none, u') 3 [(0, .ref a0), (1, .int x1), (2, .int x2)] [] u := by
  unfold bX9_four_3 at h
  refine E_iload_n dX9_four_3 rfl rfl ?_
  refine E_if_lt (tgt := 39) h dX9_four_4 (by decide) (fun h => ?_) (fun h => ?_)
  · exact E_vret h dX9_four_39 rfl
  · refine E_aload_n dX9_four_7 rfl rfl ?_
    refine E_getA h dX9_four_8 cf9 lk_X9_35 (by decide) (fun _ _ _ => rfl) (fun e1 h => ?_)
    refine E_aload_n dX9_four_11 rfl rfl ?_
    refine E_getI h dX9_four_12 cf9 lk_X9_211 (by decide) (fun _ _ _ => rfl) (fun h => ?_)
    refine E_oI h (fun v2 h => ?_)
    refine E_iload_n dX9_four_15 rfl rfl ?_
    refine E_iload_n dX9_four_16 rfl rfl ?_
    refine E_ishr dX9_four_17 ?_
    refine E_sipush (v := 255) dX9_four_18 (by decide) ?_
    refine E_iand dX9_four_21 ?_
    refine E_iast h dX9_four_22 (fun h => ?_)
    refine E_oU h (fun u3 h => ?_)
    refine E_aload_n dX9_four_23 rfl rfl ?_
    refine E_dup dX9_four_24 rfl ?_
    refine E_getI h dX9_four_25 cf9 lk_X9_211 (by decide) (fun _ _ _ => rfl) (fun h => ?_)
    refine E_oI h (fun v4 h => ?_)
    refine E_iconst (v := 1) dX9_four_28 (by decide) ?_
    refine E_iadd dX9_four_29 ?_
    refine E_putI h dX9_four_30 cf9 lk_X9_211 (by decide) (Or.inl rfl) rfl (fun h => ?_)
    refine E_oU h (fun u5 h => ?_)
    refine E_iinc (j := 2) (v := x2 + (-8)) (l' := [(2, .int (x2 + (-8))), (0, .ref a0), (1, .int x1)]) dX9_four_33 rfl (addI (by decide)) (Nat.le_of_ble_eq_true rfl) rfl ?_
    refine E_goto (tgt := 3) dX9_four_36 (by decide) ?_
    refine Eg.pick [1, 2, 0] rfl ?_
    exact hk3 _ _ _ _ h
def rX9_four_3 : Nat → Mm → Nat → Int32 → Int32 → Option (Unit × Mm)
  | 0, _, _, _, _ => none
  | n + 1, u, a0, x1, x2 => bX9_four_3 (rX9_four_3 n) u a0 x1 x2
theorem prX9_four_3 {r : Unit} {u' : Mm} : ∀ (n : Nat) (u : Mm) (a0 : Nat) (x1 : Int32) (x2 : Int32), rX9_four_3 n u a0 x1 x2 = some (r, u') → Eg MX9_four 0 0 0 (none, u') 3 [(0, .ref a0), (1, .int x1), (2, .int x2)] [] u
  | 0, _, _, _, _, h => by cases h
  | n + 1, u, a0, x1, x2, h => pX9_four_3 (prX9_four_3 n) u a0 x1 x2 h
def fX9_four (u : Mm) (a0 : Nat) (x1 : Int32) : Option (Unit × Mm) := rX9_four_3 hwF u a0 x1 24
set_option maxRecDepth 100000 in
set_option maxHeartbeats 4000000 in
theorem tX9_four {u : Mm} {a0 : Nat} {x1 : Int32} {r : Unit} {u' : Mm} (h : fX9_four u a0 x1 = some (r, u')) : Ev 0 MX9_four 0 0 [.ref a0, .int x1] u (none, u') := by
  refine Ev.of (by decide +kernel) (Nat.le_of_ble_eq_true rfl) (show Eg MX9_four 0 0 0 (none, u') 0 [(0, .ref a0), (1, .int x1)] [] u from ?_)
  unfold fX9_four at h
  refine E_bipush (v := 24) dX9_four_0 (by decide) ?_
  refine E_istore_n (l' := [(2, .int 24), (0, .ref a0), (1, .int x1)]) dX9_four_2 rfl (Nat.le_of_ble_eq_true rfl) rfl ?_
  refine Eg.pick [1, 2, 0] rfl ?_
  exact prX9_four_3 _ _ _ _ _ h
def fX9_feed (u : Mm) (a0 : Nat) (x1 : Int32) (x2 : Int32) (x3 : Int32) (x4 : Int32) (x5 : Int32) : Option (Int32 × Mm) := oK u a0 9 54 (oU (wI u a0 (upd (mI u a0) 0 0)) (fun u1 => oK u1 a0 9 54 (oI (mI u1 a0 13) (fun v2 => (if (v2 + 20 : Int32) ≤ 400 then oR u1 a0 9 (oB (fX9_four u1 a0 x1) (fun _ u3 => oR u3 a0 9 (oB (fX9_four u3 a0 x2) (fun _ u4 => oR u4 a0 9 (oB (fX9_four u4 a0 x3) (fun _ u5 => oR u5 a0 9 (oB (fX9_four u5 a0 x4) (fun _ u6 => oR u6 a0 9 (oB (fX9_four u6 a0 x5) (fun _ u7 => oK u7 a0 9 54 (oI (mI u7 a0 13) (fun v8 => some (v8, u7))))))))))))) else some ((-1), u1))))))
set_option maxRecDepth 100000 in
set_option maxHeartbeats 4000000 in
theorem tX9_feed {u : Mm} {a0 : Nat} {x1 : Int32} {x2 : Int32} {x3 : Int32} {x4 : Int32} {x5 : Int32} {r : Int32} {u' : Mm} (h : fX9_feed u a0 x1 x2 x3 x4 x5 = some (r, u')) : Ev 1 MX9_feed 0 0 [.ref a0, .int x1, .int x2, .int x3, .int x4, .int x5] u (some (.int r), u') := by
  refine Ev.of (by decide +kernel) (Nat.le_of_ble_eq_true rfl) (show Eg MX9_feed 1 0 0 (some (.int r), u') 0 [(0, .ref a0), (1, .int x1), (2, .int x2), (3, .int x3), (4, .int x4), (5, .int x5)] [] u from ?_)
  unfold fX9_feed at h
  refine E_aload_n dX9_feed_0 rfl rfl ?_
  refine E_iconst (v := 0) dX9_feed_1 (by decide) ?_
  refine E_putI h dX9_feed_2 cf9 lk_X9_134 (by decide) (Or.inl rfl) rfl (fun h => ?_)
  refine E_oU h (fun u1 h => ?_)
  refine E_aload_n dX9_feed_5 rfl rfl ?_
  refine E_getI h dX9_feed_6 cf9 lk_X9_211 (by decide) (fun _ _ _ => rfl) (fun h => ?_)
  refine E_oI h (fun v2 h => ?_)
  refine E_bipush (v := 20) dX9_feed_9 (by decide) ?_
  refine E_iadd dX9_feed_11 ?_
  refine E_sipush (v := 400) dX9_feed_12 (by decide) ?_
  refine E_ic_le (tgt := 20) h dX9_feed_15 (by decide) (fun h => ?_) (fun h => ?_)
  · refine E_aload_n dX9_feed_20 rfl rfl ?_
    refine E_iload_n dX9_feed_21 rfl rfl ?_
    refine F_Vv h (fun m e => tX9_four e) dX9_feed_22 hm_X9_four hv_X9_four ln_X9_217 rfl rfl (Nat.le_of_ble_eq_true rfl) (Nat.le_of_ble_eq_true rfl) (kc' := 0) (ks' := 0) rfl rfl (fun u3 h => ?_)
    refine E_aload_n dX9_feed_25 rfl rfl ?_
    refine E_iload_n dX9_feed_26 rfl rfl ?_
    refine F_Vv h (fun m e => tX9_four e) dX9_feed_27 hm_X9_four hv_X9_four ln_X9_217 rfl rfl (Nat.le_of_ble_eq_true rfl) (Nat.le_of_ble_eq_true rfl) (kc' := 0) (ks' := 0) rfl rfl (fun u4 h => ?_)
    refine E_aload_n dX9_feed_30 rfl rfl ?_
    refine E_iload_n dX9_feed_31 rfl rfl ?_
    refine F_Vv h (fun m e => tX9_four e) dX9_feed_32 hm_X9_four hv_X9_four ln_X9_217 rfl rfl (Nat.le_of_ble_eq_true rfl) (Nat.le_of_ble_eq_true rfl) (kc' := 0) (ks' := 0) rfl rfl (fun u5 h => ?_)
    refine E_aload_n dX9_feed_35 rfl rfl ?_
    refine E_iload dX9_feed_36 rfl ?_
    refine F_Vv h (fun m e => tX9_four e) dX9_feed_38 hm_X9_four hv_X9_four ln_X9_217 rfl rfl (Nat.le_of_ble_eq_true rfl) (Nat.le_of_ble_eq_true rfl) (kc' := 0) (ks' := 0) rfl rfl (fun u6 h => ?_)
    refine E_aload_n dX9_feed_41 rfl rfl ?_
    refine E_iload dX9_feed_42 rfl ?_
    refine F_Vv h (fun m e => tX9_four e) dX9_feed_44 hm_X9_four hv_X9_four ln_X9_217 rfl rfl (Nat.le_of_ble_eq_true rfl) (Nat.le_of_ble_eq_true rfl) (kc' := 0) (ks' := 0) rfl rfl (fun u7 h => ?_)
    refine E_aload_n dX9_feed_47 rfl rfl ?_
    refine E_getI h dX9_feed_48 cf9 lk_X9_211 (by decide) (fun _ _ _ => rfl) (fun h => ?_)
    refine E_oI h (fun v8 h => ?_)
    exact E_iret h dX9_feed_51 rfl
  · refine E_iconst (v := (-1)) dX9_feed_18 (by decide) ?_
    exact E_iret h dX9_feed_19 rfl
def fX9_end (u : Mm) (a0 : Nat) (x1 : Int32) : Option (Int32 × Mm) := oK u a0 9 54 (oU (wI u a0 (upd (mI u a0) 0 0)) (fun u1 => (if (x1 : Int32) < 0 then some ((-1), u1) else oK u1 a0 9 54 (oI (mI u1 a0 13) (fun v2 => (if (x1 : Int32) ≤ v2 then oK u1 a0 9 54 (oU (wI u1 a0 (upd (mI u1 a0) 13 x1)) (fun u3 => some (x1, u3))) else some ((-1), u1)))))))
set_option maxRecDepth 100000 in
set_option maxHeartbeats 4000000 in
theorem tX9_end {u : Mm} {a0 : Nat} {x1 : Int32} {r : Int32} {u' : Mm} (h : fX9_end u a0 x1 = some (r, u')) : Ev 0 MX9_end 0 0 [.ref a0, .int x1] u (some (.int r), u') := by
  refine Ev.of (by decide +kernel) (Nat.le_of_ble_eq_true rfl) (show Eg MX9_end 0 0 0 (some (.int r), u') 0 [(0, .ref a0), (1, .int x1)] [] u from ?_)
  unfold fX9_end at h
  refine E_aload_n dX9_end_0 rfl rfl ?_
  refine E_iconst (v := 0) dX9_end_1 (by decide) ?_
  refine E_putI h dX9_end_2 cf9 lk_X9_134 (by decide) (Or.inl rfl) rfl (fun h => ?_)
  refine E_oU h (fun u1 h => ?_)
  refine E_iload_n dX9_end_5 rfl rfl ?_
  refine E_if_lt (tgt := 17) h dX9_end_6 (by decide) (fun h => ?_) (fun h => ?_)
  · refine E_iconst (v := (-1)) dX9_end_17 (by decide) ?_
    exact E_iret h dX9_end_18 rfl
  · refine E_iload_n dX9_end_9 rfl rfl ?_
    refine E_aload_n dX9_end_10 rfl rfl ?_
    refine E_getI h dX9_end_11 cf9 lk_X9_211 (by decide) (fun _ _ _ => rfl) (fun h => ?_)
    refine E_oI h (fun v2 h => ?_)
    refine E_ic_le (tgt := 19) h dX9_end_14 (by decide) (fun h => ?_) (fun h => ?_)
    · refine E_aload_n dX9_end_19 rfl rfl ?_
      refine E_iload_n dX9_end_20 rfl rfl ?_
      refine E_putI h dX9_end_21 cf9 lk_X9_211 (by decide) (Or.inl rfl) rfl (fun h => ?_)
      refine E_oU h (fun u3 h => ?_)
      refine E_iload_n dX9_end_24 rfl rfl ?_
      exact E_iret h dX9_end_25 rfl
    · refine E_iconst (v := (-1)) dX9_end_17 (by decide) ?_
      exact E_iret h dX9_end_18 rfl
def bX9_isSmall_17 (u : Mm) (s0 : Int32) : Option (Int32 × Mm) := oZ s0 (some (s0, u))
set_option maxRecDepth 100000 in
set_option maxHeartbeats 4000000 in
theorem pX9_isSmall_17 {r : Int32} {u' : Mm} (u : Mm) (s0 : Int32) (h : bX9_isSmall_17 u s0 = some (r, u')) : Eg MX9_isSmall 0 0 0 (some (.int r), u') 17 [] [.int s0] u := by
  unfold bX9_isSmall_17 at h
  exact E_zret h dX9_isSmall_17 rfl
def fX9_isSmall (u : Mm) (x0 : Int32) : Option (Int32 × Mm) := (if (x0 : Int32) < 97 then bX9_isSmall_17 u 0 else (if (122 : Int32) < x0 then bX9_isSmall_17 u 0 else bX9_isSmall_17 u 1))
set_option maxRecDepth 100000 in
set_option maxHeartbeats 4000000 in
theorem tX9_isSmall {u : Mm} {x0 : Int32} {r : Int32} {u' : Mm} (h : fX9_isSmall u x0 = some (r, u')) : Ev 0 MX9_isSmall 0 0 [.int x0] u (some (.int r), u') := by
  refine Ev.of (by decide +kernel) (Nat.le_of_ble_eq_true rfl) (show Eg MX9_isSmall 0 0 0 (some (.int r), u') 0 [(0, .int x0)] [] u from ?_)
  unfold fX9_isSmall at h
  refine E_iload_n dX9_isSmall_0 rfl rfl ?_
  refine E_bipush (v := 97) dX9_isSmall_1 (by decide) ?_
  refine E_ic_lt (tgt := 16) h dX9_isSmall_3 (by decide) (fun h => ?_) (fun h => ?_)
  · refine E_iconst (v := 0) dX9_isSmall_16 (by decide) ?_
    refine Eg.pick [] rfl ?_
    exact pX9_isSmall_17 _ _ h
  · refine E_iload_n dX9_isSmall_6 rfl rfl ?_
    refine E_bipush (v := 122) dX9_isSmall_7 (by decide) ?_
    refine E_ic_gt (tgt := 16) h dX9_isSmall_9 (by decide) (fun h => ?_) (fun h => ?_)
    · refine E_iconst (v := 0) dX9_isSmall_16 (by decide) ?_
      refine Eg.pick [] rfl ?_
      exact pX9_isSmall_17 _ _ h
    · refine E_iconst (v := 1) dX9_isSmall_12 (by decide) ?_
      refine E_goto (tgt := 17) dX9_isSmall_13 (by decide) ?_
      refine Eg.pick [] rfl ?_
      exact pX9_isSmall_17 _ _ h
def bX9_isDigit_17 (u : Mm) (s0 : Int32) : Option (Int32 × Mm) := oZ s0 (some (s0, u))
set_option maxRecDepth 100000 in
set_option maxHeartbeats 4000000 in
theorem pX9_isDigit_17 {r : Int32} {u' : Mm} (u : Mm) (s0 : Int32) (h : bX9_isDigit_17 u s0 = some (r, u')) : Eg MX9_isDigit 0 0 0 (some (.int r), u') 17 [] [.int s0] u := by
  unfold bX9_isDigit_17 at h
  exact E_zret h dX9_isDigit_17 rfl
def fX9_isDigit (u : Mm) (x0 : Int32) : Option (Int32 × Mm) := (if (x0 : Int32) < 48 then bX9_isDigit_17 u 0 else (if (57 : Int32) < x0 then bX9_isDigit_17 u 0 else bX9_isDigit_17 u 1))
set_option maxRecDepth 100000 in
set_option maxHeartbeats 4000000 in
theorem tX9_isDigit {u : Mm} {x0 : Int32} {r : Int32} {u' : Mm} (h : fX9_isDigit u x0 = some (r, u')) : Ev 0 MX9_isDigit 0 0 [.int x0] u (some (.int r), u') := by
  refine Ev.of (by decide +kernel) (Nat.le_of_ble_eq_true rfl) (show Eg MX9_isDigit 0 0 0 (some (.int r), u') 0 [(0, .int x0)] [] u from ?_)
  unfold fX9_isDigit at h
  refine E_iload_n dX9_isDigit_0 rfl rfl ?_
  refine E_bipush (v := 48) dX9_isDigit_1 (by decide) ?_
  refine E_ic_lt (tgt := 16) h dX9_isDigit_3 (by decide) (fun h => ?_) (fun h => ?_)
  · refine E_iconst (v := 0) dX9_isDigit_16 (by decide) ?_
    refine Eg.pick [] rfl ?_
    exact pX9_isDigit_17 _ _ h
  · refine E_iload_n dX9_isDigit_6 rfl rfl ?_
    refine E_bipush (v := 57) dX9_isDigit_7 (by decide) ?_
    refine E_ic_gt (tgt := 16) h dX9_isDigit_9 (by decide) (fun h => ?_) (fun h => ?_)
    · refine E_iconst (v := 0) dX9_isDigit_16 (by decide) ?_
      refine Eg.pick [] rfl ?_
      exact pX9_isDigit_17 _ _ h
    · refine E_iconst (v := 1) dX9_isDigit_12 (by decide) ?_
      refine E_goto (tgt := 17) dX9_isDigit_13 (by decide) ?_
      refine Eg.pick [] rfl ?_
      exact pX9_isDigit_17 _ _ h
def bX9_next_319 (k243 : Mm → Nat → Option (Unit × Mm)) (u : Mm) (a0 : Nat) (s0 : Int64) (s1 : Nat) : Option (Unit × Mm) := oK u s1 9 54 (oU (wL u s1 (vp_updL (mL u s1) 17 s0)) (fun u36 => oK u36 a0 9 54 (oI (mI u36 a0 15) (fun v37 => oK u36 a0 9 54 (oU (wI u36 a0 (upd (mI u36 a0) 15 (v37 + 1))) (fun u38 => k243 u38 a0))))))
set_option maxRecDepth 100000 in
set_option maxHeartbeats 4000000 in
theorem pX9_next_319 {r : Unit} {u' : Mm} {k243 : Mm → Nat → Option (Unit × Mm)} (hk243 : ∀ (u : Mm) (a0 : Nat), k243 u a0 = some (r, u') → Eg MX9_next 1 0 0 (none, u') 243 [(0, .ref a0)] [] u) (u : Mm) (a0 : Nat) (s0 : Int64) (s1 : Nat) (h : bX9_next_319 k243 u a0 s0 s1 = some (r, u')) : Eg MX9_next 1 0 0 (none, u') 319 [(0, .ref a0)] [.long s0, .ref s1] u := by
  unfold bX9_next_319 at h
  refine E_putL h dX9_next_319 cf9 lk_X9_233 (by decide) (Or.inl rfl) rfl (fun h => ?_)
  refine E_oU h (fun u36 h => ?_)
  refine E_aload_n dX9_next_322 rfl rfl ?_
  refine E_dup dX9_next_323 rfl ?_
  refine E_getI h dX9_next_324 cf9 lk_X9_220 (by decide) (fun _ _ _ => rfl) (fun h => ?_)
  refine E_oI h (fun v37 h => ?_)
  refine E_iconst (v := 1) dX9_next_327 (by decide) ?_
  refine E_iadd dX9_next_328 ?_
  refine E_putI h dX9_next_329 cf9 lk_X9_220 (by decide) (Or.inl rfl) rfl (fun h => ?_)
  refine E_oU h (fun u38 h => ?_)
  refine E_goto (tgt := 243) dX9_next_332 (by decide) ?_
  refine Eg.pick [0] rfl ?_
  exact hk243 _ _ h
def bX9_next_243 (k243 : Mm → Nat → Option (Unit × Mm)) (u : Mm) (a0 : Nat) : Option (Unit × Mm) := oK u a0 9 54 (oI (mI u a0 16) (fun v23 => (if (v23 : Int32) = 2 then oK u a0 9 54 (oI (mI u a0 15) (fun v24 => oK u a0 9 54 (oI (mI u a0 13) (fun v25 => (if (v25 : Int32) ≤ v24 then some ((), u) else oK u a0 9 54 (oNn (mR u a0 12) (fun e26 => oK u a0 9 54 (oI (mI u a0 15) (fun v27 => oA u e26 10 v27 (oI (mI u e26 (Int32.toNatClampNeg v27)) (fun v28 => oB (fX9_isDigit u v28) (fun v29 u30 => (if (v29 : Int32) = 0 then some ((), u30) else oK u30 a0 9 54 (oJ (mL u30 a0 17) (fun w31 => (if (lg_cmp w31 1000000 : Int32) ≤ 0 then oK u30 a0 9 54 (oJ (mL u30 a0 17) (fun w32 => oK u30 a0 9 54 (oNn (mR u30 a0 12) (fun e33 => oK u30 a0 9 54 (oI (mI u30 a0 15) (fun v34 => oA u30 e33 10 v34 (oI (mI u30 e33 (Int32.toNatClampNeg v34)) (fun v35 => bX9_next_319 k243 u30 a0 (((w32 * 10) + (Int32.toInt64 v35)) - 48) a0)))))))) else oK u30 a0 9 54 (oJ (mL u30 a0 17) (fun w39 => bX9_next_319 k243 u30 a0 w39 a0)))))))))))))))))) else some ((), u))))
set_option maxRecDepth 100000 in
set_option maxHeartbeats 4000000 in
theorem pX9_next_243 {r : Unit} {u' : Mm} {k243 : Mm → Nat → Option (Unit × Mm)} (hk243 : ∀ (u : Mm) (a0 : Nat), k243 u a0 = some (r, u') → Eg MX9_next 1 0 0 (none, u') 243 [(0, .ref a0)] [] u) (u : Mm) (a0 : Nat) (h : bX9_next_243 k243 u a0 = some (r, u')) : Eg MX9_next 1 0 0 (none, u') 243 [(0, .ref a0)] [] u := by
  unfold bX9_next_243 at h
  refine E_aload_n dX9_next_243 rfl rfl ?_
  refine E_getI h dX9_next_244 cf9 lk_X9_243 (by decide) (fun _ _ _ => rfl) (fun h => ?_)
  refine E_oI h (fun v23 h => ?_)
  refine E_iconst (v := 2) dX9_next_247 (by decide) ?_
  refine E_ic_ne (tgt := 335) h dX9_next_248 (by decide) (fun h => ?_) (fun h => ?_)
  · exact E_vret h dX9_next_335 rfl
  · refine E_aload_n dX9_next_251 rfl rfl ?_
    refine E_getI h dX9_next_252 cf9 lk_X9_220 (by decide) (fun _ _ _ => rfl) (fun h => ?_)
    refine E_oI h (fun v24 h => ?_)
    refine E_aload_n dX9_next_255 rfl rfl ?_
    refine E_getI h dX9_next_256 cf9 lk_X9_211 (by decide) (fun _ _ _ => rfl) (fun h => ?_)
    refine E_oI h (fun v25 h => ?_)
    refine E_ic_ge (tgt := 335) h dX9_next_259 (by decide) (fun h => ?_) (fun h => ?_)
    · exact E_vret h dX9_next_335 rfl
    · refine E_aload_n dX9_next_262 rfl rfl ?_
      refine E_getA h dX9_next_263 cf9 lk_X9_35 (by decide) (fun _ _ _ => rfl) (fun e26 h => ?_)
      refine E_aload_n dX9_next_266 rfl rfl ?_
      refine E_getI h dX9_next_267 cf9 lk_X9_220 (by decide) (fun _ _ _ => rfl) (fun h => ?_)
      refine E_oI h (fun v27 h => ?_)
      refine E_iald h dX9_next_270 (fun h => ?_)
      refine E_oI h (fun v28 h => ?_)
      refine F_Si h (fun a m e => tX9_isDigit e) dX9_next_271 hm_X9_isDigit hs_X9_isDigit ln_X9_240 rfl rfl (Nat.le_of_ble_eq_true rfl) (Nat.le_of_ble_eq_true rfl) (kc' := 0) (ks' := 0) rfl rfl (fun v29 u30 h => ?_)
      refine E_if_eq (tgt := 335) h dX9_next_274 (by decide) (fun h => ?_) (fun h => ?_)
      · exact E_vret h dX9_next_335 rfl
      · refine E_aload_n dX9_next_277 rfl rfl ?_
        refine E_aload_n dX9_next_278 rfl rfl ?_
        refine E_getL h dX9_next_279 cf9 lk_X9_233 (by decide) (fun _ _ _ => rfl) (fun h => ?_)
        refine E_oJ h (fun w31 h => ?_)
        refine E_ldc2 dX9_next_282 rfl cn_X9_250 ?_
        refine E_lcmp dX9_next_285 ?_
        refine E_if_le (tgt := 296) h dX9_next_286 (by decide) (fun h => ?_) (fun h => ?_)
        · refine E_aload_n dX9_next_296 rfl rfl ?_
          refine E_getL h dX9_next_297 cf9 lk_X9_233 (by decide) (fun _ _ _ => rfl) (fun h => ?_)
          refine E_oJ h (fun w32 h => ?_)
          refine E_ldc2 dX9_next_300 rfl cn_X9_205 ?_
          refine E_lmul dX9_next_303 ?_
          refine E_aload_n dX9_next_304 rfl rfl ?_
          refine E_getA h dX9_next_305 cf9 lk_X9_35 (by decide) (fun _ _ _ => rfl) (fun e33 h => ?_)
          refine E_aload_n dX9_next_308 rfl rfl ?_
          refine E_getI h dX9_next_309 cf9 lk_X9_220 (by decide) (fun _ _ _ => rfl) (fun h => ?_)
          refine E_oI h (fun v34 h => ?_)
          refine E_iald h dX9_next_312 (fun h => ?_)
          refine E_oI h (fun v35 h => ?_)
          refine E_i2l dX9_next_313 ?_
          refine E_ladd dX9_next_314 ?_
          refine E_ldc2 dX9_next_315 rfl cn_X9_252 ?_
          refine E_lsub dX9_next_318 ?_
          refine Eg.pick [0] rfl ?_
          exact pX9_next_319 hk243 _ _ _ _ h
        · refine E_aload_n dX9_next_289 rfl rfl ?_
          refine E_getL h dX9_next_290 cf9 lk_X9_233 (by decide) (fun _ _ _ => rfl) (fun h => ?_)
          refine E_oJ h (fun w39 h => ?_)
          refine E_goto (tgt := 319) dX9_next_293 (by decide) ?_
          refine Eg.pick [0] rfl ?_
          exact pX9_next_319 hk243 _ _ _ _ h
def rX9_next_243 : Nat → Mm → Nat → Option (Unit × Mm)
  | 0, _, _ => none
  | n + 1, u, a0 => bX9_next_243 (rX9_next_243 n) u a0
theorem prX9_next_243 {r : Unit} {u' : Mm} : ∀ (n : Nat) (u : Mm) (a0 : Nat), rX9_next_243 n u a0 = some (r, u') → Eg MX9_next 1 0 0 (none, u') 243 [(0, .ref a0)] [] u
  | 0, _, _, h => by cases h
  | n + 1, u, a0, h => pX9_next_243 (prX9_next_243 n) u a0 h
def bX9_next_227 (k149 : Mm → Nat → Option (Unit × Mm)) (u : Mm) (a0 : Nat) (s0 : Int64) (s1 : Nat) : Option (Unit × Mm) := oK u s1 9 54 (oU (wL u s1 (vp_updL (mL u s1) 17 s0)) (fun u49 => oK u49 a0 9 54 (oI (mI u49 a0 15) (fun v50 => oK u49 a0 9 54 (oU (wI u49 a0 (upd (mI u49 a0) 15 (v50 + 1))) (fun u51 => k149 u51 a0))))))
set_option maxRecDepth 100000 in
set_option maxHeartbeats 4000000 in
theorem pX9_next_227 {r : Unit} {u' : Mm} {k149 : Mm → Nat → Option (Unit × Mm)} (hk149 : ∀ (u : Mm) (a0 : Nat), k149 u a0 = some (r, u') → Eg MX9_next 1 0 0 (none, u') 149 [(0, .ref a0)] [] u) (u : Mm) (a0 : Nat) (s0 : Int64) (s1 : Nat) (h : bX9_next_227 k149 u a0 s0 s1 = some (r, u')) : Eg MX9_next 1 0 0 (none, u') 227 [(0, .ref a0)] [.long s0, .ref s1] u := by
  unfold bX9_next_227 at h
  refine E_putL h dX9_next_227 cf9 lk_X9_233 (by decide) (Or.inl rfl) rfl (fun h => ?_)
  refine E_oU h (fun u49 h => ?_)
  refine E_aload_n dX9_next_230 rfl rfl ?_
  refine E_dup dX9_next_231 rfl ?_
  refine E_getI h dX9_next_232 cf9 lk_X9_220 (by decide) (fun _ _ _ => rfl) (fun h => ?_)
  refine E_oI h (fun v50 h => ?_)
  refine E_iconst (v := 1) dX9_next_235 (by decide) ?_
  refine E_iadd dX9_next_236 ?_
  refine E_putI h dX9_next_237 cf9 lk_X9_220 (by decide) (Or.inl rfl) rfl (fun h => ?_)
  refine E_oU h (fun u51 h => ?_)
  refine E_goto (tgt := 149) dX9_next_240 (by decide) ?_
  refine Eg.pick [0] rfl ?_
  exact hk149 _ _ h
def bX9_next_149 (k149 : Mm → Nat → Option (Unit × Mm)) (u : Mm) (a0 : Nat) : Option (Unit × Mm) := oK u a0 9 54 (oI (mI u a0 16) (fun v22 => (if (v22 : Int32) = 1 then oK u a0 9 54 (oI (mI u a0 15) (fun v40 => oK u a0 9 54 (oI (mI u a0 13) (fun v41 => (if (v41 : Int32) ≤ v40 then rX9_next_243 hwF u a0 else oK u a0 9 54 (oNn (mR u a0 12) (fun e42 => oK u a0 9 54 (oI (mI u a0 15) (fun v43 => oA u e42 10 v43 (oI (mI u e42 (Int32.toNatClampNeg v43)) (fun v44 => oB (fX9_isSmall u v44) (fun v45 u46 => (if (v45 : Int32) = 0 then rX9_next_243 hwF u46 a0 else oK u46 a0 9 54 (oI (mI u46 a0 15) (fun v47 => oK u46 a0 9 54 (oI (mI u46 a0 14) (fun v48 => (if (10 : Int32) ≤ (v47 - v48) then bX9_next_227 k149 u46 a0 ((-1)) a0 else oK u46 a0 9 54 (oJ (mL u46 a0 17) (fun w52 => oK u46 a0 9 54 (oNn (mR u46 a0 12) (fun e53 => oK u46 a0 9 54 (oI (mI u46 a0 15) (fun v54 => oA u46 e53 10 v54 (oI (mI u46 e53 (Int32.toNatClampNeg v54)) (fun v55 => bX9_next_227 k149 u46 a0 (((w52 * 32) + (Int32.toInt64 v55)) - 96) a0)))))))))))))))))))))))))) else rX9_next_243 hwF u a0)))
set_option maxRecDepth 100000 in
set_option maxHeartbeats 4000000 in
theorem pX9_next_149 {r : Unit} {u' : Mm} {k149 : Mm → Nat → Option (Unit × Mm)} (hk149 : ∀ (u : Mm) (a0 : Nat), k149 u a0 = some (r, u') → Eg MX9_next 1 0 0 (none, u') 149 [(0, .ref a0)] [] u) (u : Mm) (a0 : Nat) (h : bX9_next_149 k149 u a0 = some (r, u')) : Eg MX9_next 1 0 0 (none, u') 149 [(0, .ref a0)] [] u := by
  unfold bX9_next_149 at h
  refine E_aload_n dX9_next_149 rfl rfl ?_
  refine E_getI h dX9_next_150 cf9 lk_X9_243 (by decide) (fun _ _ _ => rfl) (fun h => ?_)
  refine E_oI h (fun v22 h => ?_)
  refine E_iconst (v := 1) dX9_next_153 (by decide) ?_
  refine E_ic_ne (tgt := 243) h dX9_next_154 (by decide) (fun h => ?_) (fun h => ?_)
  · refine Eg.pick [0] rfl ?_
    exact prX9_next_243 _ _ _ h
  · refine E_aload_n dX9_next_157 rfl rfl ?_
    refine E_getI h dX9_next_158 cf9 lk_X9_220 (by decide) (fun _ _ _ => rfl) (fun h => ?_)
    refine E_oI h (fun v40 h => ?_)
    refine E_aload_n dX9_next_161 rfl rfl ?_
    refine E_getI h dX9_next_162 cf9 lk_X9_211 (by decide) (fun _ _ _ => rfl) (fun h => ?_)
    refine E_oI h (fun v41 h => ?_)
    refine E_ic_ge (tgt := 243) h dX9_next_165 (by decide) (fun h => ?_) (fun h => ?_)
    · refine Eg.pick [0] rfl ?_
      exact prX9_next_243 _ _ _ h
    · refine E_aload_n dX9_next_168 rfl rfl ?_
      refine E_getA h dX9_next_169 cf9 lk_X9_35 (by decide) (fun _ _ _ => rfl) (fun e42 h => ?_)
      refine E_aload_n dX9_next_172 rfl rfl ?_
      refine E_getI h dX9_next_173 cf9 lk_X9_220 (by decide) (fun _ _ _ => rfl) (fun h => ?_)
      refine E_oI h (fun v43 h => ?_)
      refine E_iald h dX9_next_176 (fun h => ?_)
      refine E_oI h (fun v44 h => ?_)
      refine F_Si h (fun a m e => tX9_isSmall e) dX9_next_177 hm_X9_isSmall hs_X9_isSmall ln_X9_237 rfl rfl (Nat.le_of_ble_eq_true rfl) (Nat.le_of_ble_eq_true rfl) (kc' := 0) (ks' := 0) rfl rfl (fun v45 u46 h => ?_)
      refine E_if_eq (tgt := 243) h dX9_next_180 (by decide) (fun h => ?_) (fun h => ?_)
      · refine Eg.pick [0] rfl ?_
        exact prX9_next_243 _ _ _ h
      · refine E_aload_n dX9_next_183 rfl rfl ?_
        refine E_aload_n dX9_next_184 rfl rfl ?_
        refine E_getI h dX9_next_185 cf9 lk_X9_220 (by decide) (fun _ _ _ => rfl) (fun h => ?_)
        refine E_oI h (fun v47 h => ?_)
        refine E_aload_n dX9_next_188 rfl rfl ?_
        refine E_getI h dX9_next_189 cf9 lk_X9_230 (by decide) (fun _ _ _ => rfl) (fun h => ?_)
        refine E_oI h (fun v48 h => ?_)
        refine E_isub dX9_next_192 ?_
        refine E_bipush (v := 10) dX9_next_193 (by decide) ?_
        refine E_ic_ge (tgt := 224) h dX9_next_195 (by decide) (fun h => ?_) (fun h => ?_)
        · refine E_ldc2 dX9_next_224 rfl cn_X9_196 ?_
          refine Eg.pick [0] rfl ?_
          exact pX9_next_227 hk149 _ _ _ _ h
        · refine E_aload_n dX9_next_198 rfl rfl ?_
          refine E_getL h dX9_next_199 cf9 lk_X9_233 (by decide) (fun _ _ _ => rfl) (fun h => ?_)
          refine E_oJ h (fun w52 h => ?_)
          refine E_ldc2 dX9_next_202 rfl cn_X9_246 ?_
          refine E_lmul dX9_next_205 ?_
          refine E_aload_n dX9_next_206 rfl rfl ?_
          refine E_getA h dX9_next_207 cf9 lk_X9_35 (by decide) (fun _ _ _ => rfl) (fun e53 h => ?_)
          refine E_aload_n dX9_next_210 rfl rfl ?_
          refine E_getI h dX9_next_211 cf9 lk_X9_220 (by decide) (fun _ _ _ => rfl) (fun h => ?_)
          refine E_oI h (fun v54 h => ?_)
          refine E_iald h dX9_next_214 (fun h => ?_)
          refine E_oI h (fun v55 h => ?_)
          refine E_i2l dX9_next_215 ?_
          refine E_ladd dX9_next_216 ?_
          refine E_ldc2 dX9_next_217 rfl cn_X9_248 ?_
          refine E_lsub dX9_next_220 ?_
          refine E_goto (tgt := 227) dX9_next_221 (by decide) ?_
          refine Eg.pick [0] rfl ?_
          exact pX9_next_227 hk149 _ _ _ _ h
def rX9_next_149 : Nat → Mm → Nat → Option (Unit × Mm)
  | 0, _, _ => none
  | n + 1, u, a0 => bX9_next_149 (rX9_next_149 n) u a0
theorem prX9_next_149 {r : Unit} {u' : Mm} : ∀ (n : Nat) (u : Mm) (a0 : Nat), rX9_next_149 n u a0 = some (r, u') → Eg MX9_next 1 0 0 (none, u') 149 [(0, .ref a0)] [] u
  | 0, _, _, h => by cases h
  | n + 1, u, a0, h => pX9_next_149 (prX9_next_149 n) u a0 h
def bX9_next_114 (u : Mm) (a0 : Nat) (s0 : Int32) (s1 : Nat) : Option (Unit × Mm) := oK u s1 9 54 (oU (wI u s1 (upd (mI u s1) 16 s0)) (fun u20 => oK u20 a0 9 54 (oI (mI u20 a0 16) (fun v21 => (if (v21 : Int32) = 3 then oK u20 a0 9 54 (oNn (mR u20 a0 12) (fun e56 => oK u20 a0 9 54 (oI (mI u20 a0 14) (fun v57 => oA u20 e56 10 v57 (oI (mI u20 e56 (Int32.toNatClampNeg v57)) (fun v58 => oK u20 a0 9 54 (oU (wL u20 a0 (vp_updL (mL u20 a0) 17 (Int32.toInt64 v58))) (fun u59 => oK u59 a0 9 54 (oI (mI u59 a0 15) (fun v60 => oK u59 a0 9 54 (oU (wI u59 a0 (upd (mI u59 a0) 15 (v60 + 1))) (fun u61 => rX9_next_149 hwF u61 a0)))))))))))) else rX9_next_149 hwF u20 a0)))))
set_option maxRecDepth 100000 in
set_option maxHeartbeats 4000000 in
theorem pX9_next_114 {r : Unit} {u' : Mm} (u : Mm) (a0 : Nat) (s0 : Int32) (s1 : Nat) (h : bX9_next_114 u a0 s0 s1 = some (r, u')) : Eg MX9_next 1 0 0 (none, u') 114 [(0, .ref a0)] [.int s0, .ref s1] u := by
  unfold bX9_next_114 at h
  refine E_putI h dX9_next_114 cf9 lk_X9_243 (by decide) (Or.inl rfl) rfl (fun h => ?_)
  refine E_oU h (fun u20 h => ?_)
  refine E_aload_n dX9_next_117 rfl rfl ?_
  refine E_getI h dX9_next_118 cf9 lk_X9_243 (by decide) (fun _ _ _ => rfl) (fun h => ?_)
  refine E_oI h (fun v21 h => ?_)
  refine E_iconst (v := 3) dX9_next_121 (by decide) ?_
  refine E_ic_ne (tgt := 149) h dX9_next_122 (by decide) (fun h => ?_) (fun h => ?_)
  · refine Eg.pick [0] rfl ?_
    exact prX9_next_149 _ _ _ h
  · refine E_aload_n dX9_next_125 rfl rfl ?_
    refine E_aload_n dX9_next_126 rfl rfl ?_
    refine E_getA h dX9_next_127 cf9 lk_X9_35 (by decide) (fun _ _ _ => rfl) (fun e56 h => ?_)
    refine E_aload_n dX9_next_130 rfl rfl ?_
    refine E_getI h dX9_next_131 cf9 lk_X9_230 (by decide) (fun _ _ _ => rfl) (fun h => ?_)
    refine E_oI h (fun v57 h => ?_)
    refine E_iald h dX9_next_134 (fun h => ?_)
    refine E_oI h (fun v58 h => ?_)
    refine E_i2l dX9_next_135 ?_
    refine E_putL h dX9_next_136 cf9 lk_X9_233 (by decide) (Or.inl rfl) rfl (fun h => ?_)
    refine E_oU h (fun u59 h => ?_)
    refine E_aload_n dX9_next_139 rfl rfl ?_
    refine E_dup dX9_next_140 rfl ?_
    refine E_getI h dX9_next_141 cf9 lk_X9_220 (by decide) (fun _ _ _ => rfl) (fun h => ?_)
    refine E_oI h (fun v60 h => ?_)
    refine E_iconst (v := 1) dX9_next_144 (by decide) ?_
    refine E_iadd dX9_next_145 ?_
    refine E_putI h dX9_next_146 cf9 lk_X9_220 (by decide) (Or.inl rfl) rfl (fun h => ?_)
    refine E_oU h (fun u61 h => ?_)
    refine Eg.pick [0] rfl ?_
    exact prX9_next_149 _ _ _ h
def bX9_next_46 (u : Mm) (a0 : Nat) : Option (Unit × Mm) := oK u a0 9 54 (oI (mI u a0 14) (fun v5 => oK u a0 9 54 (oU (wI u a0 (upd (mI u a0) 15 v5)) (fun u6 => oK u6 a0 9 54 (oU (wL u6 a0 (vp_updL (mL u6 a0) 17 0)) (fun u7 => oK u7 a0 9 54 (oI (mI u7 a0 14) (fun v8 => oK u7 a0 9 54 (oI (mI u7 a0 13) (fun v9 => (if (v8 : Int32) = v9 then bX9_next_114 u7 a0 0 a0 else oK u7 a0 9 54 (oNn (mR u7 a0 12) (fun e10 => oK u7 a0 9 54 (oI (mI u7 a0 14) (fun v11 => oA u7 e10 10 v11 (oI (mI u7 e10 (Int32.toNatClampNeg v11)) (fun v12 => oB (fX9_isSmall u7 v12) (fun v13 u14 => (if (v13 : Int32) = 0 then oK u14 a0 9 54 (oNn (mR u14 a0 12) (fun e15 => oK u14 a0 9 54 (oI (mI u14 a0 14) (fun v16 => oA u14 e15 10 v16 (oI (mI u14 e15 (Int32.toNatClampNeg v16)) (fun v17 => oB (fX9_isDigit u14 v17) (fun v18 u19 => (if (v18 : Int32) = 0 then bX9_next_114 u19 a0 3 a0 else bX9_next_114 u19 a0 2 a0)))))))) else bX9_next_114 u14 a0 1 a0)))))))))))))))))))
set_option maxRecDepth 100000 in
set_option maxHeartbeats 4000000 in
theorem pX9_next_46 {r : Unit} {u' : Mm} (u : Mm) (a0 : Nat) (h : bX9_next_46 u a0 = some (r, u')) : Eg MX9_next 1 0 0 (none, u') 46 [(0, .ref a0)] [] u := by
  unfold bX9_next_46 at h
  refine E_aload_n dX9_next_46 rfl rfl ?_
  refine E_aload_n dX9_next_47 rfl rfl ?_
  refine E_getI h dX9_next_48 cf9 lk_X9_230 (by decide) (fun _ _ _ => rfl) (fun h => ?_)
  refine E_oI h (fun v5 h => ?_)
  refine E_putI h dX9_next_51 cf9 lk_X9_220 (by decide) (Or.inl rfl) rfl (fun h => ?_)
  refine E_oU h (fun u6 h => ?_)
  refine E_aload_n dX9_next_54 rfl rfl ?_
  refine E_lconst (v := 0) dX9_next_55 (by decide) ?_
  refine E_putL h dX9_next_56 cf9 lk_X9_233 (by decide) (Or.inl rfl) rfl (fun h => ?_)
  refine E_oU h (fun u7 h => ?_)
  refine E_aload_n dX9_next_59 rfl rfl ?_
  refine E_aload_n dX9_next_60 rfl rfl ?_
  refine E_getI h dX9_next_61 cf9 lk_X9_230 (by decide) (fun _ _ _ => rfl) (fun h => ?_)
  refine E_oI h (fun v8 h => ?_)
  refine E_aload_n dX9_next_64 rfl rfl ?_
  refine E_getI h dX9_next_65 cf9 lk_X9_211 (by decide) (fun _ _ _ => rfl) (fun h => ?_)
  refine E_oI h (fun v9 h => ?_)
  refine E_ic_ne (tgt := 75) h dX9_next_68 (by decide) (fun h => ?_) (fun h => ?_)
  · refine E_aload_n dX9_next_75 rfl rfl ?_
    refine E_getA h dX9_next_76 cf9 lk_X9_35 (by decide) (fun _ _ _ => rfl) (fun e10 h => ?_)
    refine E_aload_n dX9_next_79 rfl rfl ?_
    refine E_getI h dX9_next_80 cf9 lk_X9_230 (by decide) (fun _ _ _ => rfl) (fun h => ?_)
    refine E_oI h (fun v11 h => ?_)
    refine E_iald h dX9_next_83 (fun h => ?_)
    refine E_oI h (fun v12 h => ?_)
    refine F_Si h (fun a m e => tX9_isSmall e) dX9_next_84 hm_X9_isSmall hs_X9_isSmall ln_X9_237 rfl rfl (Nat.le_of_ble_eq_true rfl) (Nat.le_of_ble_eq_true rfl) (kc' := 0) (ks' := 0) rfl rfl (fun v13 u14 h => ?_)
    refine E_if_eq (tgt := 94) h dX9_next_87 (by decide) (fun h => ?_) (fun h => ?_)
    · refine E_aload_n dX9_next_94 rfl rfl ?_
      refine E_getA h dX9_next_95 cf9 lk_X9_35 (by decide) (fun _ _ _ => rfl) (fun e15 h => ?_)
      refine E_aload_n dX9_next_98 rfl rfl ?_
      refine E_getI h dX9_next_99 cf9 lk_X9_230 (by decide) (fun _ _ _ => rfl) (fun h => ?_)
      refine E_oI h (fun v16 h => ?_)
      refine E_iald h dX9_next_102 (fun h => ?_)
      refine E_oI h (fun v17 h => ?_)
      refine F_Si h (fun a m e => tX9_isDigit e) dX9_next_103 hm_X9_isDigit hs_X9_isDigit ln_X9_240 rfl rfl (Nat.le_of_ble_eq_true rfl) (Nat.le_of_ble_eq_true rfl) (kc' := 0) (ks' := 0) rfl rfl (fun v18 u19 h => ?_)
      refine E_if_eq (tgt := 113) h dX9_next_106 (by decide) (fun h => ?_) (fun h => ?_)
      · refine E_iconst (v := 3) dX9_next_113 (by decide) ?_
        refine Eg.pick [0] rfl ?_
        exact pX9_next_114 _ _ _ _ h
      · refine E_iconst (v := 2) dX9_next_109 (by decide) ?_
        refine E_goto (tgt := 114) dX9_next_110 (by decide) ?_
        refine Eg.pick [0] rfl ?_
        exact pX9_next_114 _ _ _ _ h
    · refine E_iconst (v := 1) dX9_next_90 (by decide) ?_
      refine E_goto (tgt := 114) dX9_next_91 (by decide) ?_
      refine Eg.pick [0] rfl ?_
      exact pX9_next_114 _ _ _ _ h
  · refine E_iconst (v := 0) dX9_next_71 (by decide) ?_
    refine E_goto (tgt := 114) dX9_next_72 (by decide) ?_
    refine Eg.pick [0] rfl ?_
    exact pX9_next_114 _ _ _ _ h
def bX9_next_8 (k8 : Mm → Nat → Option (Unit × Mm)) (u : Mm) (a0 : Nat) : Option (Unit × Mm) := oK u a0 9 54 (oI (mI u a0 14) (fun v3 => oK u a0 9 54 (oI (mI u a0 13) (fun v4 => (if (v4 : Int32) ≤ v3 then bX9_next_46 u a0 else oK u a0 9 54 (oNn (mR u a0 12) (fun e62 => oK u a0 9 54 (oI (mI u a0 14) (fun v63 => oA u e62 10 v63 (oI (mI u e62 (Int32.toNatClampNeg v63)) (fun v64 => (if (v64 : Int32) = 32 then oK u a0 9 54 (oI (mI u a0 14) (fun v65 => oK u a0 9 54 (oU (wI u a0 (upd (mI u a0) 14 (v65 + 1))) (fun u66 => k8 u66 a0)))) else bX9_next_46 u a0))))))))))))
set_option maxRecDepth 100000 in
set_option maxHeartbeats 4000000 in
theorem pX9_next_8 {r : Unit} {u' : Mm} {k8 : Mm → Nat → Option (Unit × Mm)} (hk8 : ∀ (u : Mm) (a0 : Nat), k8 u a0 = some (r, u') → Eg MX9_next 1 0 0 (none, u') 8 [(0, .ref a0)] [] u) (u : Mm) (a0 : Nat) (h : bX9_next_8 k8 u a0 = some (r, u')) : Eg MX9_next 1 0 0 (none, u') 8 [(0, .ref a0)] [] u := by
  unfold bX9_next_8 at h
  refine E_aload_n dX9_next_8 rfl rfl ?_
  refine E_getI h dX9_next_9 cf9 lk_X9_230 (by decide) (fun _ _ _ => rfl) (fun h => ?_)
  refine E_oI h (fun v3 h => ?_)
  refine E_aload_n dX9_next_12 rfl rfl ?_
  refine E_getI h dX9_next_13 cf9 lk_X9_211 (by decide) (fun _ _ _ => rfl) (fun h => ?_)
  refine E_oI h (fun v4 h => ?_)
  refine E_ic_ge (tgt := 46) h dX9_next_16 (by decide) (fun h => ?_) (fun h => ?_)
  · refine Eg.pick [0] rfl ?_
    exact pX9_next_46 _ _ h
  · refine E_aload_n dX9_next_19 rfl rfl ?_
    refine E_getA h dX9_next_20 cf9 lk_X9_35 (by decide) (fun _ _ _ => rfl) (fun e62 h => ?_)
    refine E_aload_n dX9_next_23 rfl rfl ?_
    refine E_getI h dX9_next_24 cf9 lk_X9_230 (by decide) (fun _ _ _ => rfl) (fun h => ?_)
    refine E_oI h (fun v63 h => ?_)
    refine E_iald h dX9_next_27 (fun h => ?_)
    refine E_oI h (fun v64 h => ?_)
    refine E_bipush (v := 32) dX9_next_28 (by decide) ?_
    refine E_ic_ne (tgt := 46) h dX9_next_30 (by decide) (fun h => ?_) (fun h => ?_)
    · refine Eg.pick [0] rfl ?_
      exact pX9_next_46 _ _ h
    · refine E_aload_n dX9_next_33 rfl rfl ?_
      refine E_dup dX9_next_34 rfl ?_
      refine E_getI h dX9_next_35 cf9 lk_X9_230 (by decide) (fun _ _ _ => rfl) (fun h => ?_)
      refine E_oI h (fun v65 h => ?_)
      refine E_iconst (v := 1) dX9_next_38 (by decide) ?_
      refine E_iadd dX9_next_39 ?_
      refine E_putI h dX9_next_40 cf9 lk_X9_230 (by decide) (Or.inl rfl) rfl (fun h => ?_)
      refine E_oU h (fun u66 h => ?_)
      refine E_goto (tgt := 8) dX9_next_43 (by decide) ?_
      refine Eg.pick [0] rfl ?_
      exact hk8 _ _ h
def rX9_next_8 : Nat → Mm → Nat → Option (Unit × Mm)
  | 0, _, _ => none
  | n + 1, u, a0 => bX9_next_8 (rX9_next_8 n) u a0
theorem prX9_next_8 {r : Unit} {u' : Mm} : ∀ (n : Nat) (u : Mm) (a0 : Nat), rX9_next_8 n u a0 = some (r, u') → Eg MX9_next 1 0 0 (none, u') 8 [(0, .ref a0)] [] u
  | 0, _, _, h => by cases h
  | n + 1, u, a0, h => pX9_next_8 (prX9_next_8 n) u a0 h
def fX9_next (u : Mm) (a0 : Nat) : Option (Unit × Mm) := oK u a0 9 54 (oI (mI u a0 15) (fun v1 => oK u a0 9 54 (oU (wI u a0 (upd (mI u a0) 14 v1)) (fun u2 => rX9_next_8 hwF u2 a0))))
set_option maxRecDepth 100000 in
set_option maxHeartbeats 4000000 in
theorem tX9_next {u : Mm} {a0 : Nat} {r : Unit} {u' : Mm} (h : fX9_next u a0 = some (r, u')) : Ev 1 MX9_next 0 0 [.ref a0] u (none, u') := by
  refine Ev.of (by decide +kernel) (Nat.le_of_ble_eq_true rfl) (show Eg MX9_next 1 0 0 (none, u') 0 [(0, .ref a0)] [] u from ?_)
  unfold fX9_next at h
  refine E_aload_n dX9_next_0 rfl rfl ?_
  refine E_aload_n dX9_next_1 rfl rfl ?_
  refine E_getI h dX9_next_2 cf9 lk_X9_220 (by decide) (fun _ _ _ => rfl) (fun h => ?_)
  refine E_oI h (fun v1 h => ?_)
  refine E_putI h dX9_next_5 cf9 lk_X9_230 (by decide) (Or.inl rfl) rfl (fun h => ?_)
  refine E_oU h (fun u2 h => ?_)
  refine Eg.pick [0] rfl ?_
  exact prX9_next_8 _ _ _ h
def fX9_begin (u : Mm) (a0 : Nat) : Option (Unit × Mm) := oK u a0 9 54 (oU (wI u a0 (upd (mI u a0) 15 0)) (fun u1 => oK u1 a0 9 54 (oZ 0 (oU (wI u1 a0 (upd (mI u1 a0) 19 0)) (fun u2 => oK u2 a0 9 54 (oU (wI u2 a0 (upd (mI u2 a0) 18 ((-1)))) (fun u3 => oR u3 a0 9 (oB (fX9_next u3 a0) (fun _ u4 => some ((), u4))))))))))
set_option maxRecDepth 100000 in
set_option maxHeartbeats 4000000 in
theorem tX9_begin {u : Mm} {a0 : Nat} {r : Unit} {u' : Mm} (h : fX9_begin u a0 = some (r, u')) : Ev 2 MX9_begin 0 0 [.ref a0] u (none, u') := by
  refine Ev.of (by decide +kernel) (Nat.le_of_ble_eq_true rfl) (show Eg MX9_begin 2 0 0 (none, u') 0 [(0, .ref a0)] [] u from ?_)
  unfold fX9_begin at h
  refine E_aload_n dX9_begin_0 rfl rfl ?_
  refine E_iconst (v := 0) dX9_begin_1 (by decide) ?_
  refine E_putI h dX9_begin_2 cf9 lk_X9_220 (by decide) (Or.inl rfl) rfl (fun h => ?_)
  refine E_oU h (fun u1 h => ?_)
  refine E_aload_n dX9_begin_5 rfl rfl ?_
  refine E_iconst (v := 0) dX9_begin_6 (by decide) ?_
  refine E_putZ h dX9_begin_7 cf9 lk_X9_223 (by decide) (Or.inl rfl) rfl (fun h => ?_)
  refine E_oU h (fun u2 h => ?_)
  refine E_aload_n dX9_begin_10 rfl rfl ?_
  refine E_iconst (v := (-1)) dX9_begin_11 (by decide) ?_
  refine E_putI h dX9_begin_12 cf9 lk_X9_38 (by decide) (Or.inl rfl) rfl (fun h => ?_)
  refine E_oU h (fun u3 h => ?_)
  refine E_aload_n dX9_begin_15 rfl rfl ?_
  refine F_Vv h (fun m e => tX9_next e) dX9_begin_16 hm_X9_next hv_X9_next ln_X9_227 rfl rfl (Nat.le_of_ble_eq_true rfl) (Nat.le_of_ble_eq_true rfl) (kc' := 0) (ks' := 0) rfl rfl (fun u4 h => ?_)
  exact E_vret h dX9_begin_19 rfl
def bX9_isWord_22 (u : Mm) (s0 : Int32) : Option (Int32 × Mm) := oZ s0 (some (s0, u))
set_option maxRecDepth 100000 in
set_option maxHeartbeats 4000000 in
theorem pX9_isWord_22 {r : Int32} {u' : Mm} (u : Mm) (s0 : Int32) (h : bX9_isWord_22 u s0 = some (r, u')) : Eg MX9_isWord 0 0 0 (some (.int r), u') 22 [] [.int s0] u := by
  unfold bX9_isWord_22 at h
  exact E_zret h dX9_isWord_22 rfl
def fX9_isWord (u : Mm) (a0 : Nat) (y1 : Int64) : Option (Int32 × Mm) := oK u a0 9 54 (oI (mI u a0 16) (fun v1 => (if (v1 : Int32) = 1 then oK u a0 9 54 (oJ (mL u a0 17) (fun w2 => (if (lg_cmp w2 y1 : Int32) = 0 then bX9_isWord_22 u 1 else bX9_isWord_22 u 0))) else bX9_isWord_22 u 0)))
set_option maxRecDepth 100000 in
set_option maxHeartbeats 4000000 in
theorem tX9_isWord {u : Mm} {a0 : Nat} {y1 : Int64} {r : Int32} {u' : Mm} (h : fX9_isWord u a0 y1 = some (r, u')) : Ev 0 MX9_isWord 0 0 [.ref a0, .long y1] u (some (.int r), u') := by
  refine Ev.of (by decide +kernel) (Nat.le_of_ble_eq_true rfl) (show Eg MX9_isWord 0 0 0 (some (.int r), u') 0 [(0, .ref a0), (1, .long y1)] [] u from ?_)
  unfold fX9_isWord at h
  refine E_aload_n dX9_isWord_0 rfl rfl ?_
  refine E_getI h dX9_isWord_1 cf9 lk_X9_243 (by decide) (fun _ _ _ => rfl) (fun h => ?_)
  refine E_oI h (fun v1 h => ?_)
  refine E_iconst (v := 1) dX9_isWord_4 (by decide) ?_
  refine E_ic_ne (tgt := 21) h dX9_isWord_5 (by decide) (fun h => ?_) (fun h => ?_)
  · refine E_iconst (v := 0) dX9_isWord_21 (by decide) ?_
    refine Eg.pick [] rfl ?_
    exact pX9_isWord_22 _ _ h
  · refine E_aload_n dX9_isWord_8 rfl rfl ?_
    refine E_getL h dX9_isWord_9 cf9 lk_X9_233 (by decide) (fun _ _ _ => rfl) (fun h => ?_)
    refine E_oJ h (fun w2 h => ?_)
    refine E_lload_n dX9_isWord_12 rfl rfl ?_
    refine E_lcmp dX9_isWord_13 ?_
    refine E_if_ne (tgt := 21) h dX9_isWord_14 (by decide) (fun h => ?_) (fun h => ?_)
    · refine E_iconst (v := 0) dX9_isWord_21 (by decide) ?_
      refine Eg.pick [] rfl ?_
      exact pX9_isWord_22 _ _ h
    · refine E_iconst (v := 1) dX9_isWord_17 (by decide) ?_
      refine E_goto (tgt := 22) dX9_isWord_18 (by decide) ?_
      refine Eg.pick [] rfl ?_
      exact pX9_isWord_22 _ _ h
def bX9_isSign_23 (u : Mm) (s0 : Int32) : Option (Int32 × Mm) := oZ s0 (some (s0, u))
set_option maxRecDepth 100000 in
set_option maxHeartbeats 4000000 in
theorem pX9_isSign_23 {r : Int32} {u' : Mm} (u : Mm) (s0 : Int32) (h : bX9_isSign_23 u s0 = some (r, u')) : Eg MX9_isSign 0 0 0 (some (.int r), u') 23 [] [.int s0] u := by
  unfold bX9_isSign_23 at h
  exact E_zret h dX9_isSign_23 rfl
def fX9_isSign (u : Mm) (a0 : Nat) (x1 : Int32) : Option (Int32 × Mm) := oK u a0 9 54 (oI (mI u a0 16) (fun v1 => (if (v1 : Int32) = 3 then oK u a0 9 54 (oJ (mL u a0 17) (fun w2 => (if (lg_cmp w2 (Int32.toInt64 x1) : Int32) = 0 then bX9_isSign_23 u 1 else bX9_isSign_23 u 0))) else bX9_isSign_23 u 0)))
set_option maxRecDepth 100000 in
set_option maxHeartbeats 4000000 in
theorem tX9_isSign {u : Mm} {a0 : Nat} {x1 : Int32} {r : Int32} {u' : Mm} (h : fX9_isSign u a0 x1 = some (r, u')) : Ev 0 MX9_isSign 0 0 [.ref a0, .int x1] u (some (.int r), u') := by
  refine Ev.of (by decide +kernel) (Nat.le_of_ble_eq_true rfl) (show Eg MX9_isSign 0 0 0 (some (.int r), u') 0 [(0, .ref a0), (1, .int x1)] [] u from ?_)
  unfold fX9_isSign at h
  refine E_aload_n dX9_isSign_0 rfl rfl ?_
  refine E_getI h dX9_isSign_1 cf9 lk_X9_243 (by decide) (fun _ _ _ => rfl) (fun h => ?_)
  refine E_oI h (fun v1 h => ?_)
  refine E_iconst (v := 3) dX9_isSign_4 (by decide) ?_
  refine E_ic_ne (tgt := 22) h dX9_isSign_5 (by decide) (fun h => ?_) (fun h => ?_)
  · refine E_iconst (v := 0) dX9_isSign_22 (by decide) ?_
    refine Eg.pick [] rfl ?_
    exact pX9_isSign_23 _ _ h
  · refine E_aload_n dX9_isSign_8 rfl rfl ?_
    refine E_getL h dX9_isSign_9 cf9 lk_X9_233 (by decide) (fun _ _ _ => rfl) (fun h => ?_)
    refine E_oJ h (fun w2 h => ?_)
    refine E_iload_n dX9_isSign_12 rfl rfl ?_
    refine E_i2l dX9_isSign_13 ?_
    refine E_lcmp dX9_isSign_14 ?_
    refine E_if_ne (tgt := 22) h dX9_isSign_15 (by decide) (fun h => ?_) (fun h => ?_)
    · refine E_iconst (v := 0) dX9_isSign_22 (by decide) ?_
      refine Eg.pick [] rfl ?_
      exact pX9_isSign_23 _ _ h
    · refine E_iconst (v := 1) dX9_isSign_18 (by decide) ?_
      refine E_goto (tgt := 23) dX9_isSign_19 (by decide) ?_
      refine Eg.pick [] rfl ?_
      exact pX9_isSign_23 _ _ h
def bX9_must_24 (u : Mm) (a0 : Nat) : Option (Unit × Mm) := oK u a0 9 54 (oI (mI u a0 19) (fun v2 => (if (v2 : Int32) = 0 then oR u a0 9 (oB (fX9_next u a0) (fun _ u3 => some ((), u3))) else some ((), u))))
set_option maxRecDepth 100000 in
set_option maxHeartbeats 4000000 in
theorem pX9_must_24 {r : Unit} {u' : Mm} (u : Mm) (a0 : Nat) (h : bX9_must_24 u a0 = some (r, u')) : Eg MX9_must 2 0 0 (none, u') 24 [(0, .ref a0)] [] u := by
  unfold bX9_must_24 at h
  refine E_aload_n dX9_must_24 rfl rfl ?_
  refine E_getI h dX9_must_25 cf9 lk_X9_223 (by decide) (fun _ _ _ => rfl) (fun h => ?_)
  refine E_oI h (fun v2 h => ?_)
  refine E_if_ne (tgt := 35) h dX9_must_28 (by decide) (fun h => ?_) (fun h => ?_)
  · exact E_vret h dX9_must_35 rfl
  · refine E_aload_n dX9_must_31 rfl rfl ?_
    refine F_Vv h (fun m e => tX9_next e) dX9_must_32 hm_X9_next hv_X9_next ln_X9_227 rfl rfl (Nat.le_of_ble_eq_true rfl) (Nat.le_of_ble_eq_true rfl) (kc' := 0) (ks' := 0) rfl rfl (fun u3 h => ?_)
    exact E_vret h dX9_must_35 rfl
def fX9_must (u : Mm) (a0 : Nat) (x1 : Int32) : Option (Unit × Mm) := oK u a0 9 54 (oI (mI u a0 19) (fun v1 => (if (v1 : Int32) = 0 then (if (x1 : Int32) = 0 then oK u a0 9 54 (oZ 1 (oU (wI u a0 (upd (mI u a0) 19 1)) (fun u4 => oK u4 a0 9 54 (oI (mI u4 a0 14) (fun v5 => oK u4 a0 9 54 (oU (wI u4 a0 (upd (mI u4 a0) 18 v5)) (fun u6 => bX9_must_24 u6 a0))))))) else bX9_must_24 u a0) else bX9_must_24 u a0)))
set_option maxRecDepth 100000 in
set_option maxHeartbeats 4000000 in
theorem tX9_must {u : Mm} {a0 : Nat} {x1 : Int32} {r : Unit} {u' : Mm} (h : fX9_must u a0 x1 = some (r, u')) : Ev 2 MX9_must 0 0 [.ref a0, .int x1] u (none, u') := by
  refine Ev.of (by decide +kernel) (Nat.le_of_ble_eq_true rfl) (show Eg MX9_must 2 0 0 (none, u') 0 [(0, .ref a0), (1, .int x1)] [] u from ?_)
  unfold fX9_must at h
  refine E_aload_n dX9_must_0 rfl rfl ?_
  refine E_getI h dX9_must_1 cf9 lk_X9_223 (by decide) (fun _ _ _ => rfl) (fun h => ?_)
  refine E_oI h (fun v1 h => ?_)
  refine E_if_ne (tgt := 24) h dX9_must_4 (by decide) (fun h => ?_) (fun h => ?_)
  · refine Eg.pick [0] rfl ?_
    exact pX9_must_24 _ _ h
  · refine E_iload_n dX9_must_7 rfl rfl ?_
    refine E_if_ne (tgt := 24) h dX9_must_8 (by decide) (fun h => ?_) (fun h => ?_)
    · refine Eg.pick [0] rfl ?_
      exact pX9_must_24 _ _ h
    · refine E_aload_n dX9_must_11 rfl rfl ?_
      refine E_iconst (v := 1) dX9_must_12 (by decide) ?_
      refine E_putZ h dX9_must_13 cf9 lk_X9_223 (by decide) (Or.inl rfl) rfl (fun h => ?_)
      refine E_oU h (fun u4 h => ?_)
      refine E_aload_n dX9_must_16 rfl rfl ?_
      refine E_aload_n dX9_must_17 rfl rfl ?_
      refine E_getI h dX9_must_18 cf9 lk_X9_230 (by decide) (fun _ _ _ => rfl) (fun h => ?_)
      refine E_oI h (fun v5 h => ?_)
      refine E_putI h dX9_must_21 cf9 lk_X9_38 (by decide) (Or.inl rfl) rfl (fun h => ?_)
      refine E_oU h (fun u6 h => ?_)
      refine Eg.pick [0] rfl ?_
      exact pX9_must_24 _ _ h
def bX9_number_33 (u : Mm) (x5 : Int32) (s0 : Int32) (s1 : Nat) : Option (Int32 × Mm) := oR u s1 9 (oB (fX9_must u s1 s0) (fun _ u4 => some (x5, u4)))
set_option maxRecDepth 100000 in
set_option maxHeartbeats 4000000 in
theorem pX9_number_33 {r : Int32} {u' : Mm} (u : Mm) (x5 : Int32) (s0 : Int32) (s1 : Nat) (h : bX9_number_33 u x5 s0 s1 = some (r, u')) : Eg MX9_number 3 0 0 (some (.int r), u') 33 [(5, .int x5)] [.int s0, .ref s1] u := by
  unfold bX9_number_33 at h
  refine F_Vv h (fun m e => tX9_must e) dX9_number_33 hm_X9_must hv_X9_must ln_X9_254 rfl rfl (Nat.le_of_ble_eq_true rfl) (Nat.le_of_ble_eq_true rfl) (kc' := 0) (ks' := 0) rfl rfl (fun u4 h => ?_)
  refine E_iload dX9_number_36 rfl ?_
  exact E_iret h dX9_number_38 rfl
def bX9_number_32 (u : Mm) (x5 : Int32) (s0 : Nat) : Option (Int32 × Mm) := bX9_number_33 u x5 0 s0
set_option maxRecDepth 100000 in
set_option maxHeartbeats 4000000 in
theorem pX9_number_32 {r : Int32} {u' : Mm} (u : Mm) (x5 : Int32) (s0 : Nat) (h : bX9_number_32 u x5 s0 = some (r, u')) : Eg MX9_number 3 0 0 (some (.int r), u') 32 [(5, .int x5)] [.ref s0] u := by
  unfold bX9_number_32 at h
  refine E_iconst (v := 0) dX9_number_32 (by decide) ?_
  refine Eg.pick [0] rfl ?_
  exact pX9_number_33 _ _ _ _ h
def fX9_number (u : Mm) (a0 : Nat) (y1 : Int64) (y3 : Int64) : Option (Int32 × Mm) := oK u a0 9 54 (oJ (mL u a0 17) (fun w1 => oI (Int64.toInt32 w1) (fun v2 => oK u a0 9 54 (oI (mI u a0 16) (fun v3 => (if (v3 : Int32) = 2 then oK u a0 9 54 (oJ (mL u a0 17) (fun w5 => oB (fX9_in u w5 y1 y3) (fun v6 u7 => (if (v6 : Int32) = 0 then bX9_number_32 u7 v2 a0 else bX9_number_33 u7 v2 1 a0)))) else bX9_number_32 u v2 a0))))))
set_option maxRecDepth 100000 in
set_option maxHeartbeats 4000000 in
theorem tX9_number {u : Mm} {a0 : Nat} {y1 : Int64} {y3 : Int64} {r : Int32} {u' : Mm} (h : fX9_number u a0 y1 y3 = some (r, u')) : Ev 3 MX9_number 0 0 [.ref a0, .long y1, .long y3] u (some (.int r), u') := by
  refine Ev.of (by decide +kernel) (Nat.le_of_ble_eq_true rfl) (show Eg MX9_number 3 0 0 (some (.int r), u') 0 [(0, .ref a0), (1, .long y1), (3, .long y3)] [] u from ?_)
  unfold fX9_number at h
  refine E_aload_n dX9_number_0 rfl rfl ?_
  refine E_getL h dX9_number_1 cf9 lk_X9_233 (by decide) (fun _ _ _ => rfl) (fun h => ?_)
  refine E_oJ h (fun w1 h => ?_)
  refine E_l2i dX9_number_4 ?_
  refine E_oI h (fun v2 h => ?_)
  refine E_istore (l' := [(5, .int v2), (0, .ref a0), (1, .long y1), (3, .long y3)]) dX9_number_5 (Nat.le_of_ble_eq_true rfl) rfl ?_
  refine E_aload_n dX9_number_7 rfl rfl ?_
  refine E_aload_n dX9_number_8 rfl rfl ?_
  refine E_getI h dX9_number_9 cf9 lk_X9_243 (by decide) (fun _ _ _ => rfl) (fun h => ?_)
  refine E_oI h (fun v3 h => ?_)
  refine E_iconst (v := 2) dX9_number_12 (by decide) ?_
  refine E_ic_ne (tgt := 32) h dX9_number_13 (by decide) (fun h => ?_) (fun h => ?_)
  · refine Eg.pick [0] rfl ?_
    exact pX9_number_32 _ _ _ h
  · refine E_aload_n dX9_number_16 rfl rfl ?_
    refine E_getL h dX9_number_17 cf9 lk_X9_233 (by decide) (fun _ _ _ => rfl) (fun h => ?_)
    refine E_oJ h (fun w5 h => ?_)
    refine E_lload_n dX9_number_20 rfl rfl ?_
    refine E_lload_n dX9_number_21 rfl rfl ?_
    refine F_Si h (fun a m e => tX9_in e) dX9_number_22 hm_X9_in hs_X9_in ln_X9_154 rfl rfl (Nat.le_of_ble_eq_true rfl) (Nat.le_of_ble_eq_true rfl) (kc' := 0) (ks' := 0) rfl rfl (fun v6 u7 h => ?_)
    refine E_if_eq (tgt := 32) h dX9_number_25 (by decide) (fun h => ?_) (fun h => ?_)
    · refine Eg.pick [0] rfl ?_
      exact pX9_number_32 _ _ _ h
    · refine E_iconst (v := 1) dX9_number_28 (by decide) ?_
      refine E_goto (tgt := 33) dX9_number_29 (by decide) ?_
      refine Eg.pick [0] rfl ?_
      exact pX9_number_33 _ _ _ _ h
def fX9_fault (u : Mm) (a0 : Nat) : Option (Int32 × Mm) := oK u a0 9 54 (oU (wI u a0 (upd (mI u a0) 0 0)) (fun u1 => oK u1 a0 9 54 (oI (mI u1 a0 18) (fun v2 => some (v2, u1)))))
set_option maxRecDepth 100000 in
set_option maxHeartbeats 4000000 in
theorem tX9_fault {u : Mm} {a0 : Nat} {r : Int32} {u' : Mm} (h : fX9_fault u a0 = some (r, u')) : Ev 0 MX9_fault 0 0 [.ref a0] u (some (.int r), u') := by
  refine Ev.of (by decide +kernel) (Nat.le_of_ble_eq_true rfl) (show Eg MX9_fault 0 0 0 (some (.int r), u') 0 [(0, .ref a0)] [] u from ?_)
  unfold fX9_fault at h
  refine E_aload_n dX9_fault_0 rfl rfl ?_
  refine E_iconst (v := 0) dX9_fault_1 (by decide) ?_
  refine E_putI h dX9_fault_2 cf9 lk_X9_134 (by decide) (Or.inl rfl) rfl (fun h => ?_)
  refine E_oU h (fun u1 h => ?_)
  refine E_aload_n dX9_fault_5 rfl rfl ?_
  refine E_getI h dX9_fault_6 cf9 lk_X9_38 (by decide) (fun _ _ _ => rfl) (fun h => ?_)
  refine E_oI h (fun v2 h => ?_)
  exact E_iret h dX9_fault_9 rfl
def fX9_emit (u : Mm) (a0 : Nat) (x1 : Int32) (x2 : Int32) : Option (Unit × Mm) := oK u a0 9 54 (oNn (mR u a0 24) (fun e1 => oK u a0 9 54 (oI (mI u a0 23) (fun v2 => oA u e1 10 v2 (oU (wI u e1 (upd (mI u e1) (Int32.toNatClampNeg v2) x1)) (fun u3 => oK u3 a0 9 54 (oNn (mR u3 a0 25) (fun e4 => oK u3 a0 9 54 (oI (mI u3 a0 23) (fun v5 => oA u3 e4 10 v5 (oU (wI u3 e4 (upd (mI u3 e4) (Int32.toNatClampNeg v5) x2)) (fun u6 => oK u6 a0 9 54 (oI (mI u6 a0 23) (fun v7 => oK u6 a0 9 54 (oU (wI u6 a0 (upd (mI u6 a0) 23 (v7 + 1))) (fun u8 => some ((), u8)))))))))))))))))
set_option maxRecDepth 100000 in
set_option maxHeartbeats 4000000 in
theorem tX9_emit {u : Mm} {a0 : Nat} {x1 : Int32} {x2 : Int32} {r : Unit} {u' : Mm} (h : fX9_emit u a0 x1 x2 = some (r, u')) : Ev 0 MX9_emit 0 0 [.ref a0, .int x1, .int x2] u (none, u') := by
  refine Ev.of (by decide +kernel) (Nat.le_of_ble_eq_true rfl) (show Eg MX9_emit 0 0 0 (none, u') 0 [(0, .ref a0), (1, .int x1), (2, .int x2)] [] u from ?_)
  unfold fX9_emit at h
  refine E_aload_n dX9_emit_0 rfl rfl ?_
  refine E_getA h dX9_emit_1 cf9 lk_X9_45 (by decide) (fun _ _ _ => rfl) (fun e1 h => ?_)
  refine E_aload_n dX9_emit_4 rfl rfl ?_
  refine E_getI h dX9_emit_5 cf9 lk_X9_258 (by decide) (fun _ _ _ => rfl) (fun h => ?_)
  refine E_oI h (fun v2 h => ?_)
  refine E_iload_n dX9_emit_8 rfl rfl ?_
  refine E_iast h dX9_emit_9 (fun h => ?_)
  refine E_oU h (fun u3 h => ?_)
  refine E_aload_n dX9_emit_10 rfl rfl ?_
  refine E_getA h dX9_emit_11 cf9 lk_X9_48 (by decide) (fun _ _ _ => rfl) (fun e4 h => ?_)
  refine E_aload_n dX9_emit_14 rfl rfl ?_
  refine E_getI h dX9_emit_15 cf9 lk_X9_258 (by decide) (fun _ _ _ => rfl) (fun h => ?_)
  refine E_oI h (fun v5 h => ?_)
  refine E_iload_n dX9_emit_18 rfl rfl ?_
  refine E_iast h dX9_emit_19 (fun h => ?_)
  refine E_oU h (fun u6 h => ?_)
  refine E_aload_n dX9_emit_20 rfl rfl ?_
  refine E_dup dX9_emit_21 rfl ?_
  refine E_getI h dX9_emit_22 cf9 lk_X9_258 (by decide) (fun _ _ _ => rfl) (fun h => ?_)
  refine E_oI h (fun v7 h => ?_)
  refine E_iconst (v := 1) dX9_emit_25 (by decide) ?_
  refine E_iadd dX9_emit_26 ?_
  refine E_putI h dX9_emit_27 cf9 lk_X9_258 (by decide) (Or.inl rfl) rfl (fun h => ?_)
  refine E_oU h (fun u8 h => ?_)
  exact E_vret h dX9_emit_30 rfl
def fX9_push (u : Mm) (a0 : Nat) (x1 : Int32) (x2 : Int32) : Option (Unit × Mm) := oK u a0 9 54 (oNn (mR u a0 27) (fun e1 => oK u a0 9 54 (oI (mI u a0 29) (fun v2 => oA u e1 10 v2 (oU (wI u e1 (upd (mI u e1) (Int32.toNatClampNeg v2) x1)) (fun u3 => oK u3 a0 9 54 (oNn (mR u3 a0 28) (fun e4 => oK u3 a0 9 54 (oI (mI u3 a0 29) (fun v5 => oA u3 e4 10 v5 (oU (wI u3 e4 (upd (mI u3 e4) (Int32.toNatClampNeg v5) x2)) (fun u6 => oK u6 a0 9 54 (oI (mI u6 a0 29) (fun v7 => oK u6 a0 9 54 (oU (wI u6 a0 (upd (mI u6 a0) 29 (v7 + 1))) (fun u8 => some ((), u8)))))))))))))))))
set_option maxRecDepth 100000 in
set_option maxHeartbeats 4000000 in
theorem tX9_push {u : Mm} {a0 : Nat} {x1 : Int32} {x2 : Int32} {r : Unit} {u' : Mm} (h : fX9_push u a0 x1 x2 = some (r, u')) : Ev 0 MX9_push 0 0 [.ref a0, .int x1, .int x2] u (none, u') := by
  refine Ev.of (by decide +kernel) (Nat.le_of_ble_eq_true rfl) (show Eg MX9_push 0 0 0 (none, u') 0 [(0, .ref a0), (1, .int x1), (2, .int x2)] [] u from ?_)
  unfold fX9_push at h
  refine E_aload_n dX9_push_0 rfl rfl ?_
  refine E_getA h dX9_push_1 cf9 lk_X9_51 (by decide) (fun _ _ _ => rfl) (fun e1 h => ?_)
  refine E_aload_n dX9_push_4 rfl rfl ?_
  refine E_getI h dX9_push_5 cf9 lk_X9_261 (by decide) (fun _ _ _ => rfl) (fun h => ?_)
  refine E_oI h (fun v2 h => ?_)
  refine E_iload_n dX9_push_8 rfl rfl ?_
  refine E_iast h dX9_push_9 (fun h => ?_)
  refine E_oU h (fun u3 h => ?_)
  refine E_aload_n dX9_push_10 rfl rfl ?_
  refine E_getA h dX9_push_11 cf9 lk_X9_54 (by decide) (fun _ _ _ => rfl) (fun e4 h => ?_)
  refine E_aload_n dX9_push_14 rfl rfl ?_
  refine E_getI h dX9_push_15 cf9 lk_X9_261 (by decide) (fun _ _ _ => rfl) (fun h => ?_)
  refine E_oI h (fun v5 h => ?_)
  refine E_iload_n dX9_push_18 rfl rfl ?_
  refine E_iast h dX9_push_19 (fun h => ?_)
  refine E_oU h (fun u6 h => ?_)
  refine E_aload_n dX9_push_20 rfl rfl ?_
  refine E_dup dX9_push_21 rfl ?_
  refine E_getI h dX9_push_22 cf9 lk_X9_261 (by decide) (fun _ _ _ => rfl) (fun h => ?_)
  refine E_oI h (fun v7 h => ?_)
  refine E_iconst (v := 1) dX9_push_25 (by decide) ?_
  refine E_iadd dX9_push_26 ?_
  refine E_putI h dX9_push_27 cf9 lk_X9_261 (by decide) (Or.inl rfl) rfl (fun h => ?_)
  refine E_oU h (fun u8 h => ?_)
  exact E_vret h dX9_push_30 rfl
def bX9_binds_62 (u : Mm) (s0 : Int32) : Option (Int32 × Mm) := some (s0, u)
set_option maxRecDepth 100000 in
set_option maxHeartbeats 4000000 in
theorem pX9_binds_62 {r : Int32} {u' : Mm} (u : Mm) (s0 : Int32) (h : bX9_binds_62 u s0 = some (r, u')) : Eg MX9_binds 0 0 0 (some (.int r), u') 62 [] [.int s0] u := by
  unfold bX9_binds_62 at h
  exact E_iret h dX9_binds_62 rfl
def fX9_binds (u : Mm) (x0 : Int32) : Option (Int32 × Mm) := (if (x0 : Int32) < 31 then (if (x0 : Int32) = 30 then bX9_binds_62 u 1 else (if (x0 : Int32) = 29 then bX9_binds_62 u 2 else (if (x0 : Int32) = 28 then bX9_binds_62 u 3 else (if (x0 : Int32) < 25 then (if (x0 : Int32) < 22 then bX9_binds_62 u 5 else bX9_binds_62 u 6) else bX9_binds_62 u 4)))) else bX9_binds_62 u 0)
set_option maxRecDepth 100000 in
set_option maxHeartbeats 4000000 in
theorem tX9_binds {u : Mm} {x0 : Int32} {r : Int32} {u' : Mm} (h : fX9_binds u x0 = some (r, u')) : Ev 0 MX9_binds 0 0 [.int x0] u (some (.int r), u') := by
  refine Ev.of (by decide +kernel) (Nat.le_of_ble_eq_true rfl) (show Eg MX9_binds 0 0 0 (some (.int r), u') 0 [(0, .int x0)] [] u from ?_)
  unfold fX9_binds at h
  refine E_iload_n dX9_binds_0 rfl rfl ?_
  refine E_bipush (v := 31) dX9_binds_1 (by decide) ?_
  refine E_ic_lt (tgt := 10) h dX9_binds_3 (by decide) (fun h => ?_) (fun h => ?_)
  · refine E_iload_n dX9_binds_10 rfl rfl ?_
    refine E_bipush (v := 30) dX9_binds_11 (by decide) ?_
    refine E_ic_ne (tgt := 20) h dX9_binds_13 (by decide) (fun h => ?_) (fun h => ?_)
    · refine E_iload_n dX9_binds_20 rfl rfl ?_
      refine E_bipush (v := 29) dX9_binds_21 (by decide) ?_
      refine E_ic_ne (tgt := 30) h dX9_binds_23 (by decide) (fun h => ?_) (fun h => ?_)
      · refine E_iload_n dX9_binds_30 rfl rfl ?_
        refine E_bipush (v := 28) dX9_binds_31 (by decide) ?_
        refine E_ic_ne (tgt := 40) h dX9_binds_33 (by decide) (fun h => ?_) (fun h => ?_)
        · refine E_iload_n dX9_binds_40 rfl rfl ?_
          refine E_bipush (v := 25) dX9_binds_41 (by decide) ?_
          refine E_ic_lt (tgt := 50) h dX9_binds_43 (by decide) (fun h => ?_) (fun h => ?_)
          · refine E_iload_n dX9_binds_50 rfl rfl ?_
            refine E_bipush (v := 22) dX9_binds_51 (by decide) ?_
            refine E_ic_lt (tgt := 61) h dX9_binds_53 (by decide) (fun h => ?_) (fun h => ?_)
            · refine E_iconst (v := 5) dX9_binds_61 (by decide) ?_
              refine Eg.pick [] rfl ?_
              exact pX9_binds_62 _ _ h
            · refine E_bipush (v := 6) dX9_binds_56 (by decide) ?_
              refine E_goto (tgt := 62) dX9_binds_58 (by decide) ?_
              refine Eg.pick [] rfl ?_
              exact pX9_binds_62 _ _ h
          · refine E_iconst (v := 4) dX9_binds_46 (by decide) ?_
            refine E_goto (tgt := 62) dX9_binds_47 (by decide) ?_
            refine Eg.pick [] rfl ?_
            exact pX9_binds_62 _ _ h
        · refine E_iconst (v := 3) dX9_binds_36 (by decide) ?_
          refine E_goto (tgt := 62) dX9_binds_37 (by decide) ?_
          refine Eg.pick [] rfl ?_
          exact pX9_binds_62 _ _ h
      · refine E_iconst (v := 2) dX9_binds_26 (by decide) ?_
        refine E_goto (tgt := 62) dX9_binds_27 (by decide) ?_
        refine Eg.pick [] rfl ?_
        exact pX9_binds_62 _ _ h
    · refine E_iconst (v := 1) dX9_binds_16 (by decide) ?_
      refine E_goto (tgt := 62) dX9_binds_17 (by decide) ?_
      refine Eg.pick [] rfl ?_
      exact pX9_binds_62 _ _ h
  · refine E_iconst (v := 0) dX9_binds_6 (by decide) ?_
    refine E_goto (tgt := 62) dX9_binds_7 (by decide) ?_
    refine Eg.pick [] rfl ?_
    exact pX9_binds_62 _ _ h
def bX9_settle_63 (k0 : Mm → Nat → Int32 → Option (Unit × Mm)) (u : Mm) (a0 : Nat) (x1 : Int32) : Option (Unit × Mm) := oK u a0 9 54 (oNn (mR u a0 25) (fun e12 => oK u a0 9 54 (oNn (mR u a0 28) (fun e13 => oK u a0 9 54 (oI (mI u a0 29) (fun v14 => oA u e13 10 v14 (oI (mI u e13 (Int32.toNatClampNeg v14)) (fun v15 => oK u a0 9 54 (oI (mI u a0 23) (fun v16 => oA u e12 10 v15 (oU (wI u e12 (upd (mI u e12) (Int32.toNatClampNeg v15) v16)) (fun u17 => k0 u17 a0 x1))))))))))))
set_option maxRecDepth 100000 in
set_option maxHeartbeats 4000000 in
theorem pX9_settle_63 {r : Unit} {u' : Mm} {k0 : Mm → Nat → Int32 → Option (Unit × Mm)} (hk0 : ∀ (u : Mm) (a0 : Nat) (x1 : Int32), k0 u a0 x1 = some (r, u') → Eg MX9_settle 1 0 0 (none, u') 0 [(0, .ref a0), (1, .int x1)] [] u) (u : Mm) (a0 : Nat) (x1 : Int32) (h : bX9_settle_63 k0 u a0 x1 = some (r, u')) : Eg MX9_settle 1 0 0 (none, u') 63 [(0, .ref a0), (1, .int x1)] [] u := by
  unfold bX9_settle_63 at h
  refine E_aload_n dX9_settle_63 rfl rfl ?_
  refine E_getA h dX9_settle_64 cf9 lk_X9_48 (by decide) (fun _ _ _ => rfl) (fun e12 h => ?_)
  refine E_aload_n dX9_settle_67 rfl rfl ?_
  refine E_getA h dX9_settle_68 cf9 lk_X9_54 (by decide) (fun _ _ _ => rfl) (fun e13 h => ?_)
  refine E_aload_n dX9_settle_71 rfl rfl ?_
  refine E_getI h dX9_settle_72 cf9 lk_X9_261 (by decide) (fun _ _ _ => rfl) (fun h => ?_)
  refine E_oI h (fun v14 h => ?_)
  refine E_iald h dX9_settle_75 (fun h => ?_)
  refine E_oI h (fun v15 h => ?_)
  refine E_aload_n dX9_settle_76 rfl rfl ?_
  refine E_getI h dX9_settle_77 cf9 lk_X9_258 (by decide) (fun _ _ _ => rfl) (fun h => ?_)
  refine E_oI h (fun v16 h => ?_)
  refine E_iast h dX9_settle_80 (fun h => ?_)
  refine E_oU h (fun u17 h => ?_)
  refine E_goto (tgt := 0) dX9_settle_81 (by decide) ?_
  refine Eg.pick [0, 1] rfl ?_
  exact hk0 _ _ _ h
def bX9_settle_0 (k0 : Mm → Nat → Int32 → Option (Unit × Mm)) (u : Mm) (a0 : Nat) (x1 : Int32) : Option (Unit × Mm) := oK u a0 9 54 (oI (mI u a0 29) (fun v1 => (if (v1 : Int32) ≤ 0 then some ((), u) else oK u a0 9 54 (oNn (mR u a0 27) (fun e2 => oK u a0 9 54 (oI (mI u a0 29) (fun v3 => oA u e2 10 (v3 - 1) (oI (mI u e2 (Int32.toNatClampNeg (v3 - 1))) (fun v4 => oB (fX9_binds u v4) (fun v5 u6 => (if (v5 : Int32) < x1 then some ((), u6) else oK u6 a0 9 54 (oI (mI u6 a0 29) (fun v7 => oK u6 a0 9 54 (oU (wI u6 a0 (upd (mI u6 a0) 29 (v7 - 1))) (fun u8 => oK u8 a0 9 54 (oNn (mR u8 a0 27) (fun e9 => oK u8 a0 9 54 (oI (mI u8 a0 29) (fun v10 => oA u8 e9 10 v10 (oI (mI u8 e9 (Int32.toNatClampNeg v10)) (fun v11 => (if (v11 : Int32) = 29 then bX9_settle_63 k0 u8 a0 x1 else oK u8 a0 9 54 (oNn (mR u8 a0 27) (fun e18 => oK u8 a0 9 54 (oI (mI u8 a0 29) (fun v19 => oA u8 e18 10 v19 (oI (mI u8 e18 (Int32.toNatClampNeg v19)) (fun v20 => (if (v20 : Int32) = 30 then bX9_settle_63 k0 u8 a0 x1 else oK u8 a0 9 54 (oNn (mR u8 a0 27) (fun e21 => oK u8 a0 9 54 (oI (mI u8 a0 29) (fun v22 => oA u8 e21 10 v22 (oI (mI u8 e21 (Int32.toNatClampNeg v22)) (fun v23 => oR u8 a0 9 (oB (fX9_emit u8 a0 v23 0) (fun _ u24 => k0 u24 a0 x1)))))))))))))))))))))))))))))))))))))
set_option maxRecDepth 100000 in
set_option maxHeartbeats 4000000 in
theorem pX9_settle_0 {r : Unit} {u' : Mm} {k0 : Mm → Nat → Int32 → Option (Unit × Mm)} (hk0 : ∀ (u : Mm) (a0 : Nat) (x1 : Int32), k0 u a0 x1 = some (r, u') → Eg MX9_settle 1 0 0 (none, u') 0 [(0, .ref a0), (1, .int x1)] [] u) (u : Mm) (a0 : Nat) (x1 : Int32) (h : bX9_settle_0 k0 u a0 x1 = some (r, u')) : Eg MX9_settle 1 0 0 (none, u') 0 [(0, .ref a0), (1, .int x1)] [] u := by
  unfold bX9_settle_0 at h
  refine E_aload_n dX9_settle_0 rfl rfl ?_
  refine E_getI h dX9_settle_1 cf9 lk_X9_261 (by decide) (fun _ _ _ => rfl) (fun h => ?_)
  refine E_oI h (fun v1 h => ?_)
  refine E_if_le (tgt := 101) h dX9_settle_4 (by decide) (fun h => ?_) (fun h => ?_)
  · exact E_vret h dX9_settle_101 rfl
  · refine E_aload_n dX9_settle_7 rfl rfl ?_
    refine E_getA h dX9_settle_8 cf9 lk_X9_51 (by decide) (fun _ _ _ => rfl) (fun e2 h => ?_)
    refine E_aload_n dX9_settle_11 rfl rfl ?_
    refine E_getI h dX9_settle_12 cf9 lk_X9_261 (by decide) (fun _ _ _ => rfl) (fun h => ?_)
    refine E_oI h (fun v3 h => ?_)
    refine E_iconst (v := 1) dX9_settle_15 (by decide) ?_
    refine E_isub dX9_settle_16 ?_
    refine E_iald h dX9_settle_17 (fun h => ?_)
    refine E_oI h (fun v4 h => ?_)
    refine F_Si h (fun a m e => tX9_binds e) dX9_settle_18 hm_X9_binds hs_X9_binds ln_X9_264 rfl rfl (Nat.le_of_ble_eq_true rfl) (Nat.le_of_ble_eq_true rfl) (kc' := 0) (ks' := 0) rfl rfl (fun v5 u6 h => ?_)
    refine E_iload_n dX9_settle_21 rfl rfl ?_
    refine E_ic_lt (tgt := 101) h dX9_settle_22 (by decide) (fun h => ?_) (fun h => ?_)
    · exact E_vret h dX9_settle_101 rfl
    · refine E_aload_n dX9_settle_25 rfl rfl ?_
      refine E_dup dX9_settle_26 rfl ?_
      refine E_getI h dX9_settle_27 cf9 lk_X9_261 (by decide) (fun _ _ _ => rfl) (fun h => ?_)
      refine E_oI h (fun v7 h => ?_)
      refine E_iconst (v := 1) dX9_settle_30 (by decide) ?_
      refine E_isub dX9_settle_31 ?_
      refine E_putI h dX9_settle_32 cf9 lk_X9_261 (by decide) (Or.inl rfl) rfl (fun h => ?_)
      refine E_oU h (fun u8 h => ?_)
      refine E_aload_n dX9_settle_35 rfl rfl ?_
      refine E_getA h dX9_settle_36 cf9 lk_X9_51 (by decide) (fun _ _ _ => rfl) (fun e9 h => ?_)
      refine E_aload_n dX9_settle_39 rfl rfl ?_
      refine E_getI h dX9_settle_40 cf9 lk_X9_261 (by decide) (fun _ _ _ => rfl) (fun h => ?_)
      refine E_oI h (fun v10 h => ?_)
      refine E_iald h dX9_settle_43 (fun h => ?_)
      refine E_oI h (fun v11 h => ?_)
      refine E_bipush (v := 29) dX9_settle_44 (by decide) ?_
      refine E_ic_eq (tgt := 63) h dX9_settle_46 (by decide) (fun h => ?_) (fun h => ?_)
      · refine Eg.pick [0, 1] rfl ?_
        exact pX9_settle_63 hk0 _ _ _ h
      · refine E_aload_n dX9_settle_49 rfl rfl ?_
        refine E_getA h dX9_settle_50 cf9 lk_X9_51 (by decide) (fun _ _ _ => rfl) (fun e18 h => ?_)
        refine E_aload_n dX9_settle_53 rfl rfl ?_
        refine E_getI h dX9_settle_54 cf9 lk_X9_261 (by decide) (fun _ _ _ => rfl) (fun h => ?_)
        refine E_oI h (fun v19 h => ?_)
        refine E_iald h dX9_settle_57 (fun h => ?_)
        refine E_oI h (fun v20 h => ?_)
        refine E_bipush (v := 30) dX9_settle_58 (by decide) ?_
        refine E_ic_ne (tgt := 84) h dX9_settle_60 (by decide) (fun h => ?_) (fun h => ?_)
        · refine E_aload_n dX9_settle_84 rfl rfl ?_
          refine E_aload_n dX9_settle_85 rfl rfl ?_
          refine E_getA h dX9_settle_86 cf9 lk_X9_51 (by decide) (fun _ _ _ => rfl) (fun e21 h => ?_)
          refine E_aload_n dX9_settle_89 rfl rfl ?_
          refine E_getI h dX9_settle_90 cf9 lk_X9_261 (by decide) (fun _ _ _ => rfl) (fun h => ?_)
          refine E_oI h (fun v22 h => ?_)
          refine E_iald h dX9_settle_93 (fun h => ?_)
          refine E_oI h (fun v23 h => ?_)
          refine E_iconst (v := 0) dX9_settle_94 (by decide) ?_
          refine F_Vv h (fun m e => tX9_emit e) dX9_settle_95 hm_X9_emit hv_X9_emit ln_X9_267 rfl rfl (Nat.le_of_ble_eq_true rfl) (Nat.le_of_ble_eq_true rfl) (kc' := 0) (ks' := 0) rfl rfl (fun u24 h => ?_)
          refine E_goto (tgt := 0) dX9_settle_98 (by decide) ?_
          refine Eg.pick [0, 1] rfl ?_
          exact hk0 _ _ _ h
        · refine Eg.pick [0, 1] rfl ?_
          exact pX9_settle_63 hk0 _ _ _ h
def rX9_settle_0 : Nat → Mm → Nat → Int32 → Option (Unit × Mm)
  | 0, _, _, _ => none
  | n + 1, u, a0, x1 => bX9_settle_0 (rX9_settle_0 n) u a0 x1
theorem prX9_settle_0 {r : Unit} {u' : Mm} : ∀ (n : Nat) (u : Mm) (a0 : Nat) (x1 : Int32), rX9_settle_0 n u a0 x1 = some (r, u') → Eg MX9_settle 1 0 0 (none, u') 0 [(0, .ref a0), (1, .int x1)] [] u
  | 0, _, _, _, h => by cases h
  | n + 1, u, a0, x1, h => pX9_settle_0 (prX9_settle_0 n) u a0 x1 h
def fX9_settle (u : Mm) (a0 : Nat) (x1 : Int32) : Option (Unit × Mm) := rX9_settle_0 hwF u a0 x1
set_option maxRecDepth 100000 in
set_option maxHeartbeats 4000000 in
theorem tX9_settle {u : Mm} {a0 : Nat} {x1 : Int32} {r : Unit} {u' : Mm} (h : fX9_settle u a0 x1 = some (r, u')) : Ev 1 MX9_settle 0 0 [.ref a0, .int x1] u (none, u') := by
  refine Ev.of (by decide +kernel) (Nat.le_of_ble_eq_true rfl) (show Eg MX9_settle 1 0 0 (none, u') 0 [(0, .ref a0), (1, .int x1)] [] u from ?_)
  unfold fX9_settle at h
  refine Eg.pick [0, 1] rfl ?_
  exact prX9_settle_0 _ _ _ _ h
