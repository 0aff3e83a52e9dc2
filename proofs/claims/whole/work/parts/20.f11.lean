/-! ===== methods as functions, with their contracts (printed by program) ===== -/
def fX8_fault (u : Mm) (a0 : Nat) : Option (Int32 × Mm) := oK u a0 8 19 (oI (mI u a0 13) (fun v1 => some (v1, u)))
set_option maxRecDepth 100000 in
set_option maxHeartbeats 4000000 in
theorem tX8_fault {u : Mm} {a0 : Nat} {r : Int32} {u' : Mm} (h : fX8_fault u a0 = some (r, u')) : Ev 0 MX8_fault 0 0 [.ref a0] u (some (.int r), u') := by
  refine Ev.of (by decide +kernel) (Nat.le_of_ble_eq_true rfl) (show Eg MX8_fault 0 0 0 (some (.int r), u') 0 [(0, .ref a0)] [] u from ?_)
  unfold fX8_fault at h
  refine E_aload_n dX8_fault_0 rfl rfl ?_
  refine E_getI h dX8_fault_1 cf8 lk_X8_72 (by decide) (fun _ _ _ => rfl) (fun h => ?_)
  refine E_oI h (fun v1 h => ?_)
  exact E_iret h dX8_fault_4 rfl
def fX8_stopped (u : Mm) (a0 : Nat) : Option (Int32 × Mm) := oK u a0 8 19 (oI (mI u a0 15) (fun v1 => some (v1, u)))
set_option maxRecDepth 100000 in
set_option maxHeartbeats 4000000 in
theorem tX8_stopped {u : Mm} {a0 : Nat} {r : Int32} {u' : Mm} (h : fX8_stopped u a0 = some (r, u')) : Ev 0 MX8_stopped 0 0 [.ref a0] u (some (.int r), u') := by
  refine Ev.of (by decide +kernel) (Nat.le_of_ble_eq_true rfl) (show Eg MX8_stopped 0 0 0 (some (.int r), u') 0 [(0, .ref a0)] [] u from ?_)
  unfold fX8_stopped at h
  refine E_aload_n dX8_stopped_0 rfl rfl ?_
  refine E_getI h dX8_stopped_1 cf8 lk_X8_76 (by decide) (fun _ _ _ => rfl) (fun h => ?_)
  refine E_oI h (fun v1 h => ?_)
  exact E_iret h dX8_stopped_4 rfl
def bX8_force_23 (u : Mm) (a0 : Nat) (x1 : Int32) : Option (Int32 × Mm) := oK u a0 8 19 (oNn (mR u a0 0) (fun e1 => oK u e1 0 16 (oI (mI u e1 15) (fun v2 => oK u a0 8 19 (oNn (mR u a0 0) (fun e3 => oK u e3 0 16 (oU (wI u e3 (upd (mI u e3) 15 x1)) (fun u4 => oR u4 a0 8 (oB (fX8_accept u4 a0 v2) (fun v5 u6 => some (v5, u6)))))))))))
set_option maxRecDepth 100000 in
set_option maxHeartbeats 4000000 in
theorem pX8_force_23 {r : Int32} {u' : Mm} (u : Mm) (a0 : Nat) (x1 : Int32) (h : bX8_force_23 u a0 x1 = some (r, u')) : Eg MX8_force 2 0 0 (some (.int r), u') 23 [(0, .ref a0), (1, .int x1)] [] u := by
  unfold bX8_force_23 at h
  refine E_aload_n dX8_force_23 rfl rfl ?_
  refine E_getA h dX8_force_24 cf8 lk_X8_10 (by decide) (fun _ _ _ => rfl) (fun e1 h => ?_)
  refine E_getI h dX8_force_27 cf0 lk_X8_228 (by decide) (fun _ _ _ => rfl) (fun h => ?_)
  refine E_oI h (fun v2 h => ?_)
  refine E_istore_n (l' := [(2, .int v2), (0, .ref a0), (1, .int x1)]) dX8_force_30 rfl (Nat.le_of_ble_eq_true rfl) rfl ?_
  refine E_aload_n dX8_force_31 rfl rfl ?_
  refine E_getA h dX8_force_32 cf8 lk_X8_10 (by decide) (fun _ _ _ => rfl) (fun e3 h => ?_)
  refine E_iload_n dX8_force_35 rfl rfl ?_
  refine E_putI h dX8_force_36 cf0 lk_X8_228 (by decide) (Or.inl rfl) rfl (fun h => ?_)
  refine E_oU h (fun u4 h => ?_)
  refine E_aload_n dX8_force_39 rfl rfl ?_
  refine E_iload_n dX8_force_40 rfl rfl ?_
  refine F_Vi h (fun a m e => tX8_accept e) dX8_force_41 hm_X8_accept hv_X8_accept ln_X8_114 rfl rfl (Nat.le_of_ble_eq_true rfl) (Nat.le_of_ble_eq_true rfl) (kc' := 0) (ks' := 0) rfl rfl (fun v5 u6 h => ?_)
  exact E_iret h dX8_force_44 rfl
def fX8_force (u : Mm) (a0 : Nat) (x1 : Int32) : Option (Int32 × Mm) := (if (x1 : Int32) = ((-1)) then bX8_force_23 u a0 x1 else oK u a0 8 19 (oNn (mR u a0 0) (fun e7 => oR u e7 0 (oB (fX0_hasLaw u e7 x1) (fun v8 u9 => (if (v8 : Int32) = 0 then oR u9 a0 8 (oB (fX8_refuse u9 a0 ((-2))) (fun v10 u11 => some (v10, u11))) else bX8_force_23 u9 a0 x1))))))
set_option maxRecDepth 100000 in
set_option maxHeartbeats 4000000 in
theorem tX8_force {u : Mm} {a0 : Nat} {x1 : Int32} {r : Int32} {u' : Mm} (h : fX8_force u a0 x1 = some (r, u')) : Ev 2 MX8_force 0 0 [.ref a0, .int x1] u (some (.int r), u') := by
  refine Ev.of (by decide +kernel) (Nat.le_of_ble_eq_true rfl) (show Eg MX8_force 2 0 0 (some (.int r), u') 0 [(0, .ref a0), (1, .int x1)] [] u from ?_)
  unfold fX8_force at h
  refine E_iload_n dX8_force_0 rfl rfl ?_
  refine E_iconst (v := (-1)) dX8_force_1 (by decide) ?_
  refine E_ic_eq (tgt := 23) h dX8_force_2 (by decide) (fun h => ?_) (fun h => ?_)
  · refine Eg.pick [0, 1] rfl ?_
    exact pX8_force_23 _ _ _ h
  · refine E_aload_n dX8_force_5 rfl rfl ?_
    refine E_getA h dX8_force_6 cf8 lk_X8_10 (by decide) (fun _ _ _ => rfl) (fun e7 h => ?_)
    refine E_iload_n dX8_force_9 rfl rfl ?_
    refine F_Vi h (fun a m e => tX0_hasLaw e) dX8_force_10 hm_X0_hasLaw hv_X0_hasLaw ln_X8_225 rfl rfl (Nat.le_of_ble_eq_true rfl) (Nat.le_of_ble_eq_true rfl) (kc' := 0) (ks' := 0) rfl rfl (fun v8 u9 h => ?_)
    refine E_if_ne (tgt := 23) h dX8_force_13 (by decide) (fun h => ?_) (fun h => ?_)
    · refine Eg.pick [0, 1] rfl ?_
      exact pX8_force_23 _ _ _ h
    · refine E_aload_n dX8_force_16 rfl rfl ?_
      refine E_bipush (v := (-2)) dX8_force_17 (by decide) ?_
      refine F_Vi h (fun a m e => tX8_refuse e) dX8_force_19 hm_X8_refuse hv_X8_refuse ln_X8_96 rfl rfl (Nat.le_of_ble_eq_true rfl) (Nat.le_of_ble_eq_true rfl) (kc' := 0) (ks' := 0) rfl rfl (fun v10 u11 h => ?_)
      exact E_iret h dX8_force_22 rfl
def bX8_answer_17 (u : Mm) (s0 : Int32) : Option (Int32 × Mm) := some (s0, u)
set_option maxRecDepth 100000 in
set_option maxHeartbeats 4000000 in
theorem pX8_answer_17 {r : Int32} {u' : Mm} (u : Mm) (s0 : Int32) (h : bX8_answer_17 u s0 = some (r, u')) : Eg MX8_answer 2 0 0 (some (.int r), u') 17 [] [.int s0] u := by
  unfold bX8_answer_17 at h
  exact E_iret h dX8_answer_17 rfl
def fX8_answer (u : Mm) (a0 : Nat) (x1 : Int32) : Option (Int32 × Mm) := (if 0 ≤ (x1 : Int32) then oR u a0 8 (oB (fX8_accept u a0 x1) (fun v1 u2 => bX8_answer_17 u2 v1)) else oR u a0 8 (oB (fX8_refuse u a0 x1) (fun v3 u4 => bX8_answer_17 u4 v3)))
set_option maxRecDepth 100000 in
set_option maxHeartbeats 4000000 in
theorem tX8_answer {u : Mm} {a0 : Nat} {x1 : Int32} {r : Int32} {u' : Mm} (h : fX8_answer u a0 x1 = some (r, u')) : Ev 2 MX8_answer 0 0 [.ref a0, .int x1] u (some (.int r), u') := by
  refine Ev.of (by decide +kernel) (Nat.le_of_ble_eq_true rfl) (show Eg MX8_answer 2 0 0 (some (.int r), u') 0 [(0, .ref a0), (1, .int x1)] [] u from ?_)
  unfold fX8_answer at h
  refine E_iload_n dX8_answer_0 rfl rfl ?_
  refine E_if_ge (tgt := 12) h dX8_answer_1 (by decide) (fun h => ?_) (fun h => ?_)
  · refine E_aload_n dX8_answer_12 rfl rfl ?_
    refine E_iload_n dX8_answer_13 rfl rfl ?_
    refine F_Vi h (fun a m e => tX8_accept e) dX8_answer_14 hm_X8_accept hv_X8_accept ln_X8_114 rfl rfl (Nat.le_of_ble_eq_true rfl) (Nat.le_of_ble_eq_true rfl) (kc' := 0) (ks' := 0) rfl rfl (fun v1 u2 h => ?_)
    refine Eg.pick [] rfl ?_
    exact pX8_answer_17 _ _ h
  · refine E_aload_n dX8_answer_4 rfl rfl ?_
    refine E_iload_n dX8_answer_5 rfl rfl ?_
    refine F_Vi h (fun a m e => tX8_refuse e) dX8_answer_6 hm_X8_refuse hv_X8_refuse ln_X8_96 rfl rfl (Nat.le_of_ble_eq_true rfl) (Nat.le_of_ble_eq_true rfl) (kc' := 0) (ks' := 0) rfl rfl (fun v3 u4 h => ?_)
    refine E_goto (tgt := 17) dX8_answer_9 (by decide) ?_
    refine Eg.pick [] rfl ?_
    exact pX8_answer_17 _ _ h
def fX8_attack (u : Mm) (a0 : Nat) (x1 : Int32) (x2 : Int32) : Option (Int32 × Mm) := oR u a0 8 (oB (fX8_act u a0 260 x1 x2 0) (fun v1 u2 => oR u2 a0 8 (oB (fX8_answer u2 a0 v1) (fun v3 u4 => some (v3, u4)))))
set_option maxRecDepth 100000 in
set_option maxHeartbeats 4000000 in
theorem tX8_attack {u : Mm} {a0 : Nat} {x1 : Int32} {x2 : Int32} {r : Int32} {u' : Mm} (h : fX8_attack u a0 x1 x2 = some (r, u')) : Ev 6 MX8_attack 0 0 [.ref a0, .int x1, .int x2] u (some (.int r), u') := by
  refine Ev.of (by decide +kernel) (Nat.le_of_ble_eq_true rfl) (show Eg MX8_attack 6 0 0 (some (.int r), u') 0 [(0, .ref a0), (1, .int x1), (2, .int x2)] [] u from ?_)
  unfold fX8_attack at h
  refine E_aload_n dX8_attack_0 rfl rfl ?_
  refine E_aload_n dX8_attack_1 rfl rfl ?_
  refine E_sipush (v := 260) dX8_attack_2 (by decide) ?_
  refine E_iload_n dX8_attack_5 rfl rfl ?_
  refine E_iload_n dX8_attack_6 rfl rfl ?_
  refine E_iconst (v := 0) dX8_attack_7 (by decide) ?_
  refine F_Vi h (fun a m e => tX8_act e) dX8_attack_8 hm_X8_act hv_X8_act ln_X8_231 rfl rfl (Nat.le_of_ble_eq_true rfl) (Nat.le_of_ble_eq_true rfl) (kc' := 0) (ks' := 0) rfl rfl (fun v1 u2 h => ?_)
  refine F_Vi h (fun a m e => tX8_answer e) dX8_attack_11 hm_X8_answer hv_X8_answer ln_X8_235 rfl rfl (Nat.le_of_ble_eq_true rfl) (Nat.le_of_ble_eq_true rfl) (kc' := 0) (ks' := 0) rfl rfl (fun v3 u4 h => ?_)
  exact E_iret h dX8_attack_14 rfl
def fX8_shift (u : Mm) (a0 : Nat) (x1 : Int32) (x2 : Int32) (x3 : Int32) : Option (Int32 × Mm) := oR u a0 8 (oB (fX8_act u a0 261 x1 x2 x3) (fun v1 u2 => oR u2 a0 8 (oB (fX8_answer u2 a0 v1) (fun v3 u4 => some (v3, u4)))))
set_option maxRecDepth 100000 in
set_option maxHeartbeats 4000000 in
theorem tX8_shift {u : Mm} {a0 : Nat} {x1 : Int32} {x2 : Int32} {x3 : Int32} {r : Int32} {u' : Mm} (h : fX8_shift u a0 x1 x2 x3 = some (r, u')) : Ev 6 MX8_shift 0 0 [.ref a0, .int x1, .int x2, .int x3] u (some (.int r), u') := by
  refine Ev.of (by decide +kernel) (Nat.le_of_ble_eq_true rfl) (show Eg MX8_shift 6 0 0 (some (.int r), u') 0 [(0, .ref a0), (1, .int x1), (2, .int x2), (3, .int x3)] [] u from ?_)
  unfold fX8_shift at h
  refine E_aload_n dX8_shift_0 rfl rfl ?_
  refine E_aload_n dX8_shift_1 rfl rfl ?_
  refine E_sipush (v := 261) dX8_shift_2 (by decide) ?_
  refine E_iload_n dX8_shift_5 rfl rfl ?_
  refine E_iload_n dX8_shift_6 rfl rfl ?_
  refine E_iload_n dX8_shift_7 rfl rfl ?_
  refine F_Vi h (fun a m e => tX8_act e) dX8_shift_8 hm_X8_act hv_X8_act ln_X8_231 rfl rfl (Nat.le_of_ble_eq_true rfl) (Nat.le_of_ble_eq_true rfl) (kc' := 0) (ks' := 0) rfl rfl (fun v1 u2 h => ?_)
  refine F_Vi h (fun a m e => tX8_answer e) dX8_shift_11 hm_X8_answer hv_X8_answer ln_X8_235 rfl rfl (Nat.le_of_ble_eq_true rfl) (Nat.le_of_ble_eq_true rfl) (kc' := 0) (ks' := 0) rfl rfl (fun v3 u4 h => ?_)
  exact E_iret h dX8_shift_14 rfl
def fX8_show (u : Mm) (a0 : Nat) (x1 : Int32) (x2 : Int32) : Option (Int32 × Mm) := oR u a0 8 (oB (fX8_act u a0 262 x1 x2 0) (fun v1 u2 => oR u2 a0 8 (oB (fX8_answer u2 a0 v1) (fun v3 u4 => some (v3, u4)))))
set_option maxRecDepth 100000 in
set_option maxHeartbeats 4000000 in
theorem tX8_show {u : Mm} {a0 : Nat} {x1 : Int32} {x2 : Int32} {r : Int32} {u' : Mm} (h : fX8_show u a0 x1 x2 = some (r, u')) : Ev 6 MX8_show 0 0 [.ref a0, .int x1, .int x2] u (some (.int r), u') := by
  refine Ev.of (by decide +kernel) (Nat.le_of_ble_eq_true rfl) (show Eg MX8_show 6 0 0 (some (.int r), u') 0 [(0, .ref a0), (1, .int x1), (2, .int x2)] [] u from ?_)
  unfold fX8_show at h
  refine E_aload_n dX8_show_0 rfl rfl ?_
  refine E_aload_n dX8_show_1 rfl rfl ?_
  refine E_sipush (v := 262) dX8_show_2 (by decide) ?_
  refine E_iload_n dX8_show_5 rfl rfl ?_
  refine E_iload_n dX8_show_6 rfl rfl ?_
  refine E_iconst (v := 0) dX8_show_7 (by decide) ?_
  refine F_Vi h (fun a m e => tX8_act e) dX8_show_8 hm_X8_act hv_X8_act ln_X8_231 rfl rfl (Nat.le_of_ble_eq_true rfl) (Nat.le_of_ble_eq_true rfl) (kc' := 0) (ks' := 0) rfl rfl (fun v1 u2 h => ?_)
  refine F_Vi h (fun a m e => tX8_answer e) dX8_show_11 hm_X8_answer hv_X8_answer ln_X8_235 rfl rfl (Nat.le_of_ble_eq_true rfl) (Nat.le_of_ble_eq_true rfl) (kc' := 0) (ks' := 0) rfl rfl (fun v3 u4 h => ?_)
  exact E_iret h dX8_show_14 rfl
def fX8_pass (u : Mm) (a0 : Nat) : Option (Int32 × Mm) := oR u a0 8 (oB (fX8_act u a0 263 0 0 0) (fun v1 u2 => oR u2 a0 8 (oB (fX8_answer u2 a0 v1) (fun v3 u4 => some (v3, u4)))))
set_option maxRecDepth 100000 in
set_option maxHeartbeats 4000000 in
theorem tX8_pass {u : Mm} {a0 : Nat} {r : Int32} {u' : Mm} (h : fX8_pass u a0 = some (r, u')) : Ev 6 MX8_pass 0 0 [.ref a0] u (some (.int r), u') := by
  refine Ev.of (by decide +kernel) (Nat.le_of_ble_eq_true rfl) (show Eg MX8_pass 6 0 0 (some (.int r), u') 0 [(0, .ref a0)] [] u from ?_)
  unfold fX8_pass at h
  refine E_aload_n dX8_pass_0 rfl rfl ?_
  refine E_aload_n dX8_pass_1 rfl rfl ?_
  refine E_sipush (v := 263) dX8_pass_2 (by decide) ?_
  refine E_iconst (v := 0) dX8_pass_5 (by decide) ?_
  refine E_iconst (v := 0) dX8_pass_6 (by decide) ?_
  refine E_iconst (v := 0) dX8_pass_7 (by decide) ?_
  refine F_Vi h (fun a m e => tX8_act e) dX8_pass_8 hm_X8_act hv_X8_act ln_X8_231 rfl rfl (Nat.le_of_ble_eq_true rfl) (Nat.le_of_ble_eq_true rfl) (kc' := 0) (ks' := 0) rfl rfl (fun v1 u2 h => ?_)
  refine F_Vi h (fun a m e => tX8_answer e) dX8_pass_11 hm_X8_answer hv_X8_answer ln_X8_235 rfl rfl (Nat.le_of_ble_eq_true rfl) (Nat.le_of_ble_eq_true rfl) (kc' := 0) (ks' := 0) rfl rfl (fun v3 u4 h => ?_)
  exact E_iret h dX8_pass_14 rfl
def fX8_undo (u : Mm) (a0 : Nat) : Option (Int32 × Mm) := oK u a0 8 19 (oNn (mR u a0 5) (fun e1 => oK u e1 3 4 (oI (mI u e1 3) (fun v2 => (if (v2 : Int32) = 0 then oR u a0 8 (oB (fX8_refuse u a0 ((-3))) (fun v10 u11 => some (v10, u11))) else oK u a0 8 19 (oNn (mR u a0 5) (fun e3 => oK u a0 8 19 (oNn (mR u a0 0) (fun e4 => oK u e4 0 16 (oNn (mR u e4 0) (fun e5 => oR u e3 3 (oB (fX3_takeLatest u e3 e5) (fun v6 u7 => oR u7 a0 8 (oB (fX8_accept u7 a0 (v6 - 260)) (fun v8 u9 => some (v8, u9))))))))))))))))
set_option maxRecDepth 100000 in
set_option maxHeartbeats 4000000 in
theorem tX8_undo {u : Mm} {a0 : Nat} {r : Int32} {u' : Mm} (h : fX8_undo u a0 = some (r, u')) : Ev 2 MX8_undo 0 0 [.ref a0] u (some (.int r), u') := by
  refine Ev.of (by decide +kernel) (Nat.le_of_ble_eq_true rfl) (show Eg MX8_undo 2 0 0 (some (.int r), u') 0 [(0, .ref a0)] [] u from ?_)
  unfold fX8_undo at h
  refine E_aload_n dX8_undo_0 rfl rfl ?_
  refine E_getA h dX8_undo_1 cf8 lk_X8_48 (by decide) (fun _ _ _ => rfl) (fun e1 h => ?_)
  refine E_getI h dX8_undo_4 cf3 lk_X8_238 (by decide) (fun _ _ _ => rfl) (fun h => ?_)
  refine E_oI h (fun v2 h => ?_)
  refine E_if_ne (tgt := 17) h dX8_undo_7 (by decide) (fun h => ?_) (fun h => ?_)
  · refine E_aload_n dX8_undo_17 rfl rfl ?_
    refine E_aload_n dX8_undo_18 rfl rfl ?_
    refine E_getA h dX8_undo_19 cf8 lk_X8_48 (by decide) (fun _ _ _ => rfl) (fun e3 h => ?_)
    refine E_aload_n dX8_undo_22 rfl rfl ?_
    refine E_getA h dX8_undo_23 cf8 lk_X8_10 (by decide) (fun _ _ _ => rfl) (fun e4 h => ?_)
    refine E_getA h dX8_undo_26 cf0 lk_X8_100 (by decide) (fun _ _ _ => rfl) (fun e5 h => ?_)
    refine F_Vi h (fun a m e => tX3_takeLatest e) dX8_undo_29 hm_X3_takeLatest hv_X3_takeLatest ln_X8_241 rfl rfl (Nat.le_of_ble_eq_true rfl) (Nat.le_of_ble_eq_true rfl) (kc' := 0) (ks' := 0) rfl rfl (fun v6 u7 h => ?_)
    refine E_sipush (v := 260) dX8_undo_32 (by decide) ?_
    refine E_isub dX8_undo_35 ?_
    refine F_Vi h (fun a m e => tX8_accept e) dX8_undo_36 hm_X8_accept hv_X8_accept ln_X8_114 rfl rfl (Nat.le_of_ble_eq_true rfl) (Nat.le_of_ble_eq_true rfl) (kc' := 0) (ks' := 0) rfl rfl (fun v8 u9 h => ?_)
    exact E_iret h dX8_undo_39 rfl
  · refine E_aload_n dX8_undo_10 rfl rfl ?_
    refine E_bipush (v := (-3)) dX8_undo_11 (by decide) ?_
    refine F_Vi h (fun a m e => tX8_refuse e) dX8_undo_13 hm_X8_refuse hv_X8_refuse ln_X8_96 rfl rfl (Nat.le_of_ble_eq_true rfl) (Nat.le_of_ble_eq_true rfl) (kc' := 0) (ks' := 0) rfl rfl (fun v10 u11 h => ?_)
    exact E_iret h dX8_undo_16 rfl
def bX8_countOrSet_17 (u : Mm) (s0 : Int32) : Option (Int32 × Mm) := some (s0, u)
set_option maxRecDepth 100000 in
set_option maxHeartbeats 4000000 in
theorem pX8_countOrSet_17 {r : Int32} {u' : Mm} (u : Mm) (s0 : Int32) (h : bX8_countOrSet_17 u s0 = some (r, u')) : Eg MX8_countOrSet 1 0 0 (some (.int r), u') 17 [] [.int s0] u := by
  unfold bX8_countOrSet_17 at h
  exact E_iret h dX8_countOrSet_17 rfl
def bX8_countOrSet_9 (u : Mm) (x0 : Int32) : Option (Int32 × Mm) := bX8_countOrSet_17 u x0
set_option maxRecDepth 100000 in
set_option maxHeartbeats 4000000 in
theorem pX8_countOrSet_9 {r : Int32} {u' : Mm} (u : Mm) (x0 : Int32) (h : bX8_countOrSet_9 u x0 = some (r, u')) : Eg MX8_countOrSet 1 0 0 (some (.int r), u') 9 [(0, .int x0)] [] u := by
  unfold bX8_countOrSet_9 at h
  refine E_iload_n dX8_countOrSet_9 rfl rfl ?_
  refine E_goto (tgt := 17) dX8_countOrSet_10 (by decide) ?_
  refine Eg.pick [] rfl ?_
  exact pX8_countOrSet_17 _ _ h
def fX8_countOrSet (u : Mm) (x0 : Int32) (x1 : Int32) : Option (Int32 × Mm) := (if (x1 : Int32) = 0 then (if (x0 : Int32) = ((-1)) then bX8_countOrSet_9 u x0 else oB (fJ6_bitCount_0f7a4 u x0) (fun v1 u2 => bX8_countOrSet_17 u2 v1)) else bX8_countOrSet_9 u x0)
set_option maxRecDepth 100000 in
set_option maxHeartbeats 4000000 in
theorem tX8_countOrSet {u : Mm} {x0 : Int32} {x1 : Int32} {r : Int32} {u' : Mm} (h : fX8_countOrSet u x0 x1 = some (r, u')) : Ev 1 MX8_countOrSet 0 0 [.int x0, .int x1] u (some (.int r), u') := by
  refine Ev.of (by decide +kernel) (Nat.le_of_ble_eq_true rfl) (show Eg MX8_countOrSet 1 0 0 (some (.int r), u') 0 [(0, .int x0), (1, .int x1)] [] u from ?_)
  unfold fX8_countOrSet at h
  refine E_iload_n dX8_countOrSet_0 rfl rfl ?_
  refine E_if_ne (tgt := 9) h dX8_countOrSet_1 (by decide) (fun h => ?_) (fun h => ?_)
  · refine Eg.pick [0] rfl ?_
    exact pX8_countOrSet_9 _ _ h
  · refine E_iload_n dX8_countOrSet_4 rfl rfl ?_
    refine E_iconst (v := (-1)) dX8_countOrSet_5 (by decide) ?_
    refine E_ic_ne (tgt := 13) h dX8_countOrSet_6 (by decide) (fun h => ?_) (fun h => ?_)
    · refine E_iload_n dX8_countOrSet_13 rfl rfl ?_
      refine F_Si h (fun a m e => tJ6_bitCount_0f7a4 e) dX8_countOrSet_14 hm_J6_bitCount_0f7a4 hs_J6_bitCount_0f7a4 ln_X8_338 rfl rfl (Nat.le_of_ble_eq_true rfl) (Nat.le_of_ble_eq_true rfl) (kc' := 0) (ks' := 0) rfl rfl (fun v1 u2 h => ?_)
      refine Eg.pick [] rfl ?_
      exact pX8_countOrSet_17 _ _ h
    · refine Eg.pick [0] rfl ?_
      exact pX8_countOrSet_9 _ _ h
def fX8_treaty (u : Mm) (a0 : Nat) (x1 : Int32) : Option (Int32 × Mm) := oB (fX8_within u x1 0 1) (fun v1 u2 => (if (v1 : Int32) = 0 then some ((-1), u2) else oK u2 a0 8 19 (oNn (mR u2 a0 2) (fun e3 => oR u2 e3 2 (oB (fX2_treatyWords u2 e3) (fun v4 u5 => oB (fX8_countOrSet u5 v4 x1) (fun v6 u7 => some (v6, u7))))))))
set_option maxRecDepth 100000 in
set_option maxHeartbeats 4000000 in
theorem tX8_treaty {u : Mm} {a0 : Nat} {x1 : Int32} {r : Int32} {u' : Mm} (h : fX8_treaty u a0 x1 = some (r, u')) : Ev 3 MX8_treaty 0 0 [.ref a0, .int x1] u (some (.int r), u') := by
  refine Ev.of (by decide +kernel) (Nat.le_of_ble_eq_true rfl) (show Eg MX8_treaty 3 0 0 (some (.int r), u') 0 [(0, .ref a0), (1, .int x1)] [] u from ?_)
  unfold fX8_treaty at h
  refine E_iload_n dX8_treaty_0 rfl rfl ?_
  refine E_iconst (v := 0) dX8_treaty_1 (by decide) ?_
  refine E_iconst (v := 1) dX8_treaty_2 (by decide) ?_
  refine F_Si h (fun a m e => tX8_within e) dX8_treaty_3 hm_X8_within hs_X8_within ln_X8_92 rfl rfl (Nat.le_of_ble_eq_true rfl) (Nat.le_of_ble_eq_true rfl) (kc' := 0) (ks' := 0) rfl rfl (fun v1 u2 h => ?_)
  refine E_if_ne (tgt := 11) h dX8_treaty_6 (by decide) (fun h => ?_) (fun h => ?_)
  · refine E_aload_n dX8_treaty_11 rfl rfl ?_
    refine E_getA h dX8_treaty_12 cf8 lk_X8_30 (by decide) (fun _ _ _ => rfl) (fun e3 h => ?_)
    refine F_Vi h (fun a m e => tX2_treatyWords e) dX8_treaty_15 hm_X2_treatyWords hv_X2_treatyWords ln_X8_245 rfl rfl (Nat.le_of_ble_eq_true rfl) (Nat.le_of_ble_eq_true rfl) (kc' := 0) (ks' := 0) rfl rfl (fun v4 u5 h => ?_)
    refine E_iload_n dX8_treaty_18 rfl rfl ?_
    refine F_Si h (fun a m e => tX8_countOrSet e) dX8_treaty_19 hm_X8_countOrSet hs_X8_countOrSet ln_X8_249 rfl rfl (Nat.le_of_ble_eq_true rfl) (Nat.le_of_ble_eq_true rfl) (kc' := 0) (ks' := 0) rfl rfl (fun v6 u7 h => ?_)
    exact E_iret h dX8_treaty_22 rfl
  · refine E_iconst (v := (-1)) dX8_treaty_9 (by decide) ?_
    exact E_iret h dX8_treaty_10 rfl
def bX8_hear_16 (u : Mm) (a0 : Nat) : Option (Int32 × Mm) := oR u a0 8 (oB (fX8_refuse u a0 ((-1))) (fun v3 u4 => some (v3, u4)))
set_option maxRecDepth 100000 in
set_option maxHeartbeats 4000000 in
theorem pX8_hear_16 {r : Int32} {u' : Mm} (u : Mm) (a0 : Nat) (h : bX8_hear_16 u a0 = some (r, u')) : Eg MX8_hear 2 0 0 (some (.int r), u') 16 [(0, .ref a0)] [] u := by
  unfold bX8_hear_16 at h
  refine E_aload_n dX8_hear_16 rfl rfl ?_
  refine E_iconst (v := (-1)) dX8_hear_17 (by decide) ?_
  refine F_Vi h (fun a m e => tX8_refuse e) dX8_hear_18 hm_X8_refuse hv_X8_refuse ln_X8_96 rfl rfl (Nat.le_of_ble_eq_true rfl) (Nat.le_of_ble_eq_true rfl) (kc' := 0) (ks' := 0) rfl rfl (fun v3 u4 h => ?_)
  exact E_iret h dX8_hear_21 rfl
def fX8_hear (u : Mm) (a0 : Nat) (x1 : Int32) (x2 : Int32) : Option (Int32 × Mm) := oB (fX8_isWord u x1) (fun v1 u2 => (if (v1 : Int32) = 0 then bX8_hear_16 u2 a0 else oB (fX8_within u2 x2 0 1) (fun v5 u6 => (if (v5 : Int32) = 0 then bX8_hear_16 u6 a0 else oK u6 a0 8 19 (oNn (mR u6 a0 0) (fun e7 => oK u6 e7 0 16 (oI (mI u6 e7 7) (fun v8 => (if (v8 : Int32) < 8 then oK u6 a0 8 19 (oNn (mR u6 a0 0) (fun e9 => oK u6 e9 0 16 (oNn (mR u6 e9 5) (fun e10 => oA u6 e10 10 v8 (oU (wI u6 e10 (upd (mI u6 e10) (Int32.toNatClampNeg v8) x1)) (fun u11 => oK u11 a0 8 19 (oNn (mR u11 a0 0) (fun e12 => oK u11 e12 0 16 (oNn (mR u11 e12 6) (fun e13 => oA u11 e13 10 v8 (oU (wI u11 e13 (upd (mI u11 e13) (Int32.toNatClampNeg v8) x2)) (fun u14 => oK u14 a0 8 19 (oNn (mR u14 a0 0) (fun e15 => oK u14 e15 0 16 (oU (wI u14 e15 (upd (mI u14 e15) 7 (v8 + 1))) (fun u16 => oR u16 a0 8 (oB (fX8_accept u16 a0 (v8 + 1)) (fun v17 u18 => some (v17, u18))))))))))))))))))) else oR u6 a0 8 (oB (fX8_refuse u6 a0 ((-5))) (fun v19 u20 => some (v19, u20))))))))))))
set_option maxRecDepth 100000 in
set_option maxHeartbeats 4000000 in
theorem tX8_hear {u : Mm} {a0 : Nat} {x1 : Int32} {x2 : Int32} {r : Int32} {u' : Mm} (h : fX8_hear u a0 x1 x2 = some (r, u')) : Ev 2 MX8_hear 0 0 [.ref a0, .int x1, .int x2] u (some (.int r), u') := by
  refine Ev.of (by decide +kernel) (Nat.le_of_ble_eq_true rfl) (show Eg MX8_hear 2 0 0 (some (.int r), u') 0 [(0, .ref a0), (1, .int x1), (2, .int x2)] [] u from ?_)
  unfold fX8_hear at h
  refine E_iload_n dX8_hear_0 rfl rfl ?_
  refine F_Si h (fun a m e => tX8_isWord e) dX8_hear_1 hm_X8_isWord hs_X8_isWord ln_X8_161 rfl rfl (Nat.le_of_ble_eq_true rfl) (Nat.le_of_ble_eq_true rfl) (kc' := 0) (ks' := 0) rfl rfl (fun v1 u2 h => ?_)
  refine E_if_eq (tgt := 16) h dX8_hear_4 (by decide) (fun h => ?_) (fun h => ?_)
  · refine Eg.pick [0] rfl ?_
    exact pX8_hear_16 _ _ h
  · refine E_iload_n dX8_hear_7 rfl rfl ?_
    refine E_iconst (v := 0) dX8_hear_8 (by decide) ?_
    refine E_iconst (v := 1) dX8_hear_9 (by decide) ?_
    refine F_Si h (fun a m e => tX8_within e) dX8_hear_10 hm_X8_within hs_X8_within ln_X8_92 rfl rfl (Nat.le_of_ble_eq_true rfl) (Nat.le_of_ble_eq_true rfl) (kc' := 0) (ks' := 0) rfl rfl (fun v5 u6 h => ?_)
    refine E_if_ne (tgt := 22) h dX8_hear_13 (by decide) (fun h => ?_) (fun h => ?_)
    · refine E_aload_n dX8_hear_22 rfl rfl ?_
      refine E_getA h dX8_hear_23 cf8 lk_X8_10 (by decide) (fun _ _ _ => rfl) (fun e7 h => ?_)
      refine E_getI h dX8_hear_26 cf0 lk_X8_252 (by decide) (fun _ _ _ => rfl) (fun h => ?_)
      refine E_oI h (fun v8 h => ?_)
      refine E_istore_n (l' := [(3, .int v8), (0, .ref a0), (1, .int x1), (2, .int x2)]) dX8_hear_29 rfl (Nat.le_of_ble_eq_true rfl) rfl ?_
      refine E_iload_n dX8_hear_30 rfl rfl ?_
      refine E_bipush (v := 8) dX8_hear_31 (by decide) ?_
      refine E_ic_lt (tgt := 43) h dX8_hear_33 (by decide) (fun h => ?_) (fun h => ?_)
      · refine E_aload_n dX8_hear_43 rfl rfl ?_
        refine E_getA h dX8_hear_44 cf8 lk_X8_10 (by decide) (fun _ _ _ => rfl) (fun e9 h => ?_)
        refine E_getA h dX8_hear_47 cf0 lk_X8_255 (by decide) (fun _ _ _ => rfl) (fun e10 h => ?_)
        refine E_iload_n dX8_hear_50 rfl rfl ?_
        refine E_iload_n dX8_hear_51 rfl rfl ?_
        refine E_iast h dX8_hear_52 (fun h => ?_)
        refine E_oU h (fun u11 h => ?_)
        refine E_aload_n dX8_hear_53 rfl rfl ?_
        refine E_getA h dX8_hear_54 cf8 lk_X8_10 (by decide) (fun _ _ _ => rfl) (fun e12 h => ?_)
        refine E_getA h dX8_hear_57 cf0 lk_X8_258 (by decide) (fun _ _ _ => rfl) (fun e13 h => ?_)
        refine E_iload_n dX8_hear_60 rfl rfl ?_
        refine E_iload_n dX8_hear_61 rfl rfl ?_
        refine E_iast h dX8_hear_62 (fun h => ?_)
        refine E_oU h (fun u14 h => ?_)
        refine E_aload_n dX8_hear_63 rfl rfl ?_
        refine E_getA h dX8_hear_64 cf8 lk_X8_10 (by decide) (fun _ _ _ => rfl) (fun e15 h => ?_)
        refine E_iload_n dX8_hear_67 rfl rfl ?_
        refine E_iconst (v := 1) dX8_hear_68 (by decide) ?_
        refine E_iadd dX8_hear_69 ?_
        refine E_putI h dX8_hear_70 cf0 lk_X8_252 (by decide) (Or.inl rfl) rfl (fun h => ?_)
        refine E_oU h (fun u16 h => ?_)
        refine E_aload_n dX8_hear_73 rfl rfl ?_
        refine E_iload_n dX8_hear_74 rfl rfl ?_
        refine E_iconst (v := 1) dX8_hear_75 (by decide) ?_
        refine E_iadd dX8_hear_76 ?_
        refine F_Vi h (fun a m e => tX8_accept e) dX8_hear_77 hm_X8_accept hv_X8_accept ln_X8_114 rfl rfl (Nat.le_of_ble_eq_true rfl) (Nat.le_of_ble_eq_true rfl) (kc' := 0) (ks' := 0) rfl rfl (fun v17 u18 h => ?_)
        exact E_iret h dX8_hear_80 rfl
      · refine E_aload_n dX8_hear_36 rfl rfl ?_
        refine E_bipush (v := (-5)) dX8_hear_37 (by decide) ?_
        refine F_Vi h (fun a m e => tX8_refuse e) dX8_hear_39 hm_X8_refuse hv_X8_refuse ln_X8_96 rfl rfl (Nat.le_of_ble_eq_true rfl) (Nat.le_of_ble_eq_true rfl) (kc' := 0) (ks' := 0) rfl rfl (fun v19 u20 h => ?_)
        exact E_iret h dX8_hear_42 rfl
    · refine Eg.pick [0] rfl ?_
      exact pX8_hear_16 _ _ h
def bX8_tell_18 (u : Mm) (a0 : Nat) : Option (Int32 × Mm) := oR u a0 8 (oB (fX8_refuse u a0 ((-1))) (fun v3 u4 => some (v3, u4)))
set_option maxRecDepth 100000 in
set_option maxHeartbeats 4000000 in
theorem pX8_tell_18 {r : Int32} {u' : Mm} (u : Mm) (a0 : Nat) (h : bX8_tell_18 u a0 = some (r, u')) : Eg MX8_tell 2 0 0 (some (.int r), u') 18 [(0, .ref a0)] [] u := by
  unfold bX8_tell_18 at h
  refine E_aload_n dX8_tell_18 rfl rfl ?_
  refine E_iconst (v := (-1)) dX8_tell_19 (by decide) ?_
  refine F_Vi h (fun a m e => tX8_refuse e) dX8_tell_20 hm_X8_refuse hv_X8_refuse ln_X8_96 rfl rfl (Nat.le_of_ble_eq_true rfl) (Nat.le_of_ble_eq_true rfl) (kc' := 0) (ks' := 0) rfl rfl (fun v3 u4 h => ?_)
  exact E_iret h dX8_tell_23 rfl
def fX8_tell (u : Mm) (a0 : Nat) (x1 : Int32) (x2 : Int32) : Option (Int32 × Mm) := oB (fX8_isSide u x1) (fun v1 u2 => (if (v1 : Int32) = 0 then bX8_tell_18 u2 a0 else oB (fX8_within u2 x2 ((-20)) 20) (fun v5 u6 => (if (v5 : Int32) = 0 then bX8_tell_18 u6 a0 else oK u6 a0 8 19 (oNn (mR u6 a0 0) (fun e7 => oK u6 e7 0 16 (oI (mI u6 e7 10) (fun v8 => (if (v8 : Int32) < 6 then oK u6 a0 8 19 (oNn (mR u6 a0 0) (fun e9 => oK u6 e9 0 16 (oNn (mR u6 e9 8) (fun e10 => oA u6 e10 10 v8 (oU (wI u6 e10 (upd (mI u6 e10) (Int32.toNatClampNeg v8) x1)) (fun u11 => oK u11 a0 8 19 (oNn (mR u11 a0 0) (fun e12 => oK u11 e12 0 16 (oNn (mR u11 e12 9) (fun e13 => oA u11 e13 10 v8 (oU (wI u11 e13 (upd (mI u11 e13) (Int32.toNatClampNeg v8) x2)) (fun u14 => oK u14 a0 8 19 (oNn (mR u14 a0 0) (fun e15 => oK u14 e15 0 16 (oU (wI u14 e15 (upd (mI u14 e15) 10 (v8 + 1))) (fun u16 => oR u16 a0 8 (oB (fX8_accept u16 a0 (v8 + 1)) (fun v17 u18 => some (v17, u18))))))))))))))))))) else oR u6 a0 8 (oB (fX8_refuse u6 a0 ((-5))) (fun v19 u20 => some (v19, u20))))))))))))
set_option maxRecDepth 100000 in
set_option maxHeartbeats 4000000 in
theorem tX8_tell {u : Mm} {a0 : Nat} {x1 : Int32} {x2 : Int32} {r : Int32} {u' : Mm} (h : fX8_tell u a0 x1 x2 = some (r, u')) : Ev 2 MX8_tell 0 0 [.ref a0, .int x1, .int x2] u (some (.int r), u') := by
  refine Ev.of (by decide +kernel) (Nat.le_of_ble_eq_true rfl) (show Eg MX8_tell 2 0 0 (some (.int r), u') 0 [(0, .ref a0), (1, .int x1), (2, .int x2)] [] u from ?_)
  unfold fX8_tell at h
  refine E_iload_n dX8_tell_0 rfl rfl ?_
  refine F_Si h (fun a m e => tX8_isSide e) dX8_tell_1 hm_X8_isSide hs_X8_isSide ln_X8_85 rfl rfl (Nat.le_of_ble_eq_true rfl) (Nat.le_of_ble_eq_true rfl) (kc' := 0) (ks' := 0) rfl rfl (fun v1 u2 h => ?_)
  refine E_if_eq (tgt := 18) h dX8_tell_4 (by decide) (fun h => ?_) (fun h => ?_)
  · refine Eg.pick [0] rfl ?_
    exact pX8_tell_18 _ _ h
  · refine E_iload_n dX8_tell_7 rfl rfl ?_
    refine E_bipush (v := (-20)) dX8_tell_8 (by decide) ?_
    refine E_bipush (v := 20) dX8_tell_10 (by decide) ?_
    refine F_Si h (fun a m e => tX8_within e) dX8_tell_12 hm_X8_within hs_X8_within ln_X8_92 rfl rfl (Nat.le_of_ble_eq_true rfl) (Nat.le_of_ble_eq_true rfl) (kc' := 0) (ks' := 0) rfl rfl (fun v5 u6 h => ?_)
    refine E_if_ne (tgt := 24) h dX8_tell_15 (by decide) (fun h => ?_) (fun h => ?_)
    · refine E_aload_n dX8_tell_24 rfl rfl ?_
      refine E_getA h dX8_tell_25 cf8 lk_X8_10 (by decide) (fun _ _ _ => rfl) (fun e7 h => ?_)
      refine E_getI h dX8_tell_28 cf0 lk_X8_261 (by decide) (fun _ _ _ => rfl) (fun h => ?_)
      refine E_oI h (fun v8 h => ?_)
      refine E_istore_n (l' := [(3, .int v8), (0, .ref a0), (1, .int x1), (2, .int x2)]) dX8_tell_31 rfl (Nat.le_of_ble_eq_true rfl) rfl ?_
      refine E_iload_n dX8_tell_32 rfl rfl ?_
      refine E_bipush (v := 6) dX8_tell_33 (by decide) ?_
      refine E_ic_lt (tgt := 45) h dX8_tell_35 (by decide) (fun h => ?_) (fun h => ?_)
      · refine E_aload_n dX8_tell_45 rfl rfl ?_
        refine E_getA h dX8_tell_46 cf8 lk_X8_10 (by decide) (fun _ _ _ => rfl) (fun e9 h => ?_)
        refine E_getA h dX8_tell_49 cf0 lk_X8_264 (by decide) (fun _ _ _ => rfl) (fun e10 h => ?_)
        refine E_iload_n dX8_tell_52 rfl rfl ?_
        refine E_iload_n dX8_tell_53 rfl rfl ?_
        refine E_iast h dX8_tell_54 (fun h => ?_)
        refine E_oU h (fun u11 h => ?_)
        refine E_aload_n dX8_tell_55 rfl rfl ?_
        refine E_getA h dX8_tell_56 cf8 lk_X8_10 (by decide) (fun _ _ _ => rfl) (fun e12 h => ?_)
        refine E_getA h dX8_tell_59 cf0 lk_X8_267 (by decide) (fun _ _ _ => rfl) (fun e13 h => ?_)
        refine E_iload_n dX8_tell_62 rfl rfl ?_
        refine E_iload_n dX8_tell_63 rfl rfl ?_
        refine E_iast h dX8_tell_64 (fun h => ?_)
        refine E_oU h (fun u14 h => ?_)
        refine E_aload_n dX8_tell_65 rfl rfl ?_
        refine E_getA h dX8_tell_66 cf8 lk_X8_10 (by decide) (fun _ _ _ => rfl) (fun e15 h => ?_)
        refine E_iload_n dX8_tell_69 rfl rfl ?_
        refine E_iconst (v := 1) dX8_tell_70 (by decide) ?_
        refine E_iadd dX8_tell_71 ?_
        refine E_putI h dX8_tell_72 cf0 lk_X8_261 (by decide) (Or.inl rfl) rfl (fun h => ?_)
        refine E_oU h (fun u16 h => ?_)
        refine E_aload_n dX8_tell_75 rfl rfl ?_
        refine E_iload_n dX8_tell_76 rfl rfl ?_
        refine E_iconst (v := 1) dX8_tell_77 (by decide) ?_
        refine E_iadd dX8_tell_78 ?_
        refine F_Vi h (fun a m e => tX8_accept e) dX8_tell_79 hm_X8_accept hv_X8_accept ln_X8_114 rfl rfl (Nat.le_of_ble_eq_true rfl) (Nat.le_of_ble_eq_true rfl) (kc' := 0) (ks' := 0) rfl rfl (fun v17 u18 h => ?_)
        exact E_iret h dX8_tell_82 rfl
      · refine E_aload_n dX8_tell_38 rfl rfl ?_
        refine E_bipush (v := (-5)) dX8_tell_39 (by decide) ?_
        refine F_Vi h (fun a m e => tX8_refuse e) dX8_tell_41 hm_X8_refuse hv_X8_refuse ln_X8_96 rfl rfl (Nat.le_of_ble_eq_true rfl) (Nat.le_of_ble_eq_true rfl) (kc' := 0) (ks' := 0) rfl rfl (fun v19 u20 h => ?_)
        exact E_iret h dX8_tell_44 rfl
    · refine Eg.pick [0] rfl ?_
      exact pX8_tell_18 _ _ h
def fX8_forget (u : Mm) (a0 : Nat) : Option (Int32 × Mm) := oK u a0 8 19 (oNn (mR u a0 0) (fun e1 => oK u e1 0 16 (oI (mI u e1 7) (fun v2 => oK u a0 8 19 (oNn (mR u a0 0) (fun e3 => oK u e3 0 16 (oI (mI u e3 10) (fun v4 => oI (v2 + v4) (fun v5 => oK u a0 8 19 (oNn (mR u a0 0) (fun e6 => oK u e6 0 16 (oU (wI u e6 (upd (mI u e6) 7 0)) (fun u7 => oK u7 a0 8 19 (oNn (mR u7 a0 0) (fun e8 => oK u7 e8 0 16 (oU (wI u7 e8 (upd (mI u7 e8) 10 0)) (fun u9 => some (v5, u9))))))))))))))))))
set_option maxRecDepth 100000 in
set_option maxHeartbeats 4000000 in
theorem tX8_forget {u : Mm} {a0 : Nat} {r : Int32} {u' : Mm} (h : fX8_forget u a0 = some (r, u')) : Ev 0 MX8_forget 0 0 [.ref a0] u (some (.int r), u') := by
  refine Ev.of (by decide +kernel) (Nat.le_of_ble_eq_true rfl) (show Eg MX8_forget 0 0 0 (some (.int r), u') 0 [(0, .ref a0)] [] u from ?_)
  unfold fX8_forget at h
  refine E_aload_n dX8_forget_0 rfl rfl ?_
  refine E_getA h dX8_forget_1 cf8 lk_X8_10 (by decide) (fun _ _ _ => rfl) (fun e1 h => ?_)
  refine E_getI h dX8_forget_4 cf0 lk_X8_252 (by decide) (fun _ _ _ => rfl) (fun h => ?_)
  refine E_oI h (fun v2 h => ?_)
  refine E_aload_n dX8_forget_7 rfl rfl ?_
  refine E_getA h dX8_forget_8 cf8 lk_X8_10 (by decide) (fun _ _ _ => rfl) (fun e3 h => ?_)
  refine E_getI h dX8_forget_11 cf0 lk_X8_261 (by decide) (fun _ _ _ => rfl) (fun h => ?_)
  refine E_oI h (fun v4 h => ?_)
  refine E_iadd dX8_forget_14 ?_
  refine E_oI h (fun v5 h => ?_)
  refine E_istore_n (l' := [(1, .int v5), (0, .ref a0)]) dX8_forget_15 rfl (Nat.le_of_ble_eq_true rfl) rfl ?_
  refine E_aload_n dX8_forget_16 rfl rfl ?_
  refine E_getA h dX8_forget_17 cf8 lk_X8_10 (by decide) (fun _ _ _ => rfl) (fun e6 h => ?_)
  refine E_iconst (v := 0) dX8_forget_20 (by decide) ?_
  refine E_putI h dX8_forget_21 cf0 lk_X8_252 (by decide) (Or.inl rfl) rfl (fun h => ?_)
  refine E_oU h (fun u7 h => ?_)
  refine E_aload_n dX8_forget_24 rfl rfl ?_
  refine E_getA h dX8_forget_25 cf8 lk_X8_10 (by decide) (fun _ _ _ => rfl) (fun e8 h => ?_)
  refine E_iconst (v := 0) dX8_forget_28 (by decide) ?_
  refine E_putI h dX8_forget_29 cf0 lk_X8_261 (by decide) (Or.inl rfl) rfl (fun h => ?_)
  refine E_oU h (fun u9 h => ?_)
  refine E_iload_n dX8_forget_32 rfl rfl ?_
  exact E_iret h dX8_forget_33 rfl
def fX8_probably (u : Mm) (a0 : Nat) : Option (Int32 × Mm) := oK u a0 8 19 (oNn (mR u a0 2) (fun e1 => oR u e1 2 (oB (fX2_probablyWith u e1 ((-1)) 0) (fun v2 u3 => some (v2, u3)))))
set_option maxRecDepth 100000 in
set_option maxHeartbeats 4000000 in
theorem tX8_probably {u : Mm} {a0 : Nat} {r : Int32} {u' : Mm} (h : fX8_probably u a0 = some (r, u')) : Ev 4 MX8_probably 0 0 [.ref a0] u (some (.int r), u') := by
  refine Ev.of (by decide +kernel) (Nat.le_of_ble_eq_true rfl) (show Eg MX8_probably 4 0 0 (some (.int r), u') 0 [(0, .ref a0)] [] u from ?_)
  unfold fX8_probably at h
  refine E_aload_n dX8_probably_0 rfl rfl ?_
  refine E_getA h dX8_probably_1 cf8 lk_X8_30 (by decide) (fun _ _ _ => rfl) (fun e1 h => ?_)
  refine E_iconst (v := (-1)) dX8_probably_4 (by decide) ?_
  refine E_iconst (v := 0) dX8_probably_5 (by decide) ?_
  refine F_Vi h (fun a m e => tX2_probablyWith e) dX8_probably_6 hm_X2_probablyWith hv_X2_probablyWith ln_X8_270 rfl rfl (Nat.le_of_ble_eq_true rfl) (Nat.le_of_ble_eq_true rfl) (kc' := 0) (ks' := 0) rfl rfl (fun v2 u3 h => ?_)
  exact E_iret h dX8_probably_9 rfl
def bX8_ask_35 (u : Mm) (s0 : Int32) : Option (Int32 × Mm) := some (s0, u)
set_option maxRecDepth 100000 in
set_option maxHeartbeats 4000000 in
theorem pX8_ask_35 {r : Int32} {u' : Mm} (u : Mm) (s0 : Int32) (h : bX8_ask_35 u s0 = some (r, u')) : Eg MX8_ask 6 0 0 (some (.int r), u') 35 [] [.int s0] u := by
  unfold bX8_ask_35 at h
  exact E_iret h dX8_ask_35 rfl
def fX8_ask (u : Mm) (a0 : Nat) (x1 : Int32) : Option (Int32 × Mm) := oB (fX8_within u x1 0 1) (fun v1 u2 => (if (v1 : Int32) = 0 then some ((-1), u2) else oK u2 a0 8 19 (oNn (mR u2 a0 2) (fun e3 => oR u2 e3 2 (oB (fX2_wordToAsk u2 e3) (fun v4 u5 => (if (x1 : Int32) = 0 then bX8_ask_35 u5 v4 else oK u5 a0 8 19 (oNn (mR u5 a0 2) (fun e6 => oR u5 e6 2 (oB (fX2_differenceAt u5 e6 v4) (fun v7 u8 => bX8_ask_35 u8 v7)))))))))))
set_option maxRecDepth 100000 in
set_option maxHeartbeats 4000000 in
theorem tX8_ask {u : Mm} {a0 : Nat} {x1 : Int32} {r : Int32} {u' : Mm} (h : fX8_ask u a0 x1 = some (r, u')) : Ev 6 MX8_ask 0 0 [.ref a0, .int x1] u (some (.int r), u') := by
  refine Ev.of (by decide +kernel) (Nat.le_of_ble_eq_true rfl) (show Eg MX8_ask 6 0 0 (some (.int r), u') 0 [(0, .ref a0), (1, .int x1)] [] u from ?_)
  unfold fX8_ask at h
  refine E_iload_n dX8_ask_0 rfl rfl ?_
  refine E_iconst (v := 0) dX8_ask_1 (by decide) ?_
  refine E_iconst (v := 1) dX8_ask_2 (by decide) ?_
  refine F_Si h (fun a m e => tX8_within e) dX8_ask_3 hm_X8_within hs_X8_within ln_X8_92 rfl rfl (Nat.le_of_ble_eq_true rfl) (Nat.le_of_ble_eq_true rfl) (kc' := 0) (ks' := 0) rfl rfl (fun v1 u2 h => ?_)
  refine E_if_ne (tgt := 11) h dX8_ask_6 (by decide) (fun h => ?_) (fun h => ?_)
  · refine E_aload_n dX8_ask_11 rfl rfl ?_
    refine E_getA h dX8_ask_12 cf8 lk_X8_30 (by decide) (fun _ _ _ => rfl) (fun e3 h => ?_)
    refine F_Vi h (fun a m e => tX2_wordToAsk e) dX8_ask_15 hm_X2_wordToAsk hv_X2_wordToAsk ln_X8_273 rfl rfl (Nat.le_of_ble_eq_true rfl) (Nat.le_of_ble_eq_true rfl) (kc' := 0) (ks' := 0) rfl rfl (fun v4 u5 h => ?_)
    refine E_istore_n (l' := [(2, .int v4), (0, .ref a0), (1, .int x1)]) dX8_ask_18 rfl (Nat.le_of_ble_eq_true rfl) rfl ?_
    refine E_iload_n dX8_ask_19 rfl rfl ?_
    refine E_if_ne (tgt := 27) h dX8_ask_20 (by decide) (fun h => ?_) (fun h => ?_)
    · refine E_aload_n dX8_ask_27 rfl rfl ?_
      refine E_getA h dX8_ask_28 cf8 lk_X8_30 (by decide) (fun _ _ _ => rfl) (fun e6 h => ?_)
      refine E_iload_n dX8_ask_31 rfl rfl ?_
      refine F_Vi h (fun a m e => tX2_differenceAt e) dX8_ask_32 hm_X2_differenceAt hv_X2_differenceAt ln_X8_276 rfl rfl (Nat.le_of_ble_eq_true rfl) (Nat.le_of_ble_eq_true rfl) (kc' := 0) (ks' := 0) rfl rfl (fun v7 u8 h => ?_)
      refine Eg.pick [] rfl ?_
      exact pX8_ask_35 _ _ h
    · refine E_iload_n dX8_ask_23 rfl rfl ?_
      refine E_goto (tgt := 35) dX8_ask_24 (by decide) ?_
      refine Eg.pick [] rfl ?_
      exact pX8_ask_35 _ _ h
  · refine E_iconst (v := (-1)) dX8_ask_9 (by decide) ?_
    exact E_iret h dX8_ask_10 rfl
def bX8_chain_57 (u : Mm) (s0 : Int32) : Option (Int32 × Mm) := some (s0, u)
set_option maxRecDepth 100000 in
set_option maxHeartbeats 4000000 in
theorem pX8_chain_57 {r : Int32} {u' : Mm} (u : Mm) (s0 : Int32) (h : bX8_chain_57 u s0 = some (r, u')) : Eg MX8_chain 3 0 0 (some (.int r), u') 57 [] [.int s0] u := by
  unfold bX8_chain_57 at h
  exact E_iret h dX8_chain_57 rfl
def fX8_chain (u : Mm) (a0 : Nat) (x1 : Int32) (x2 : Int32) (x3 : Int32) : Option (Int32 × Mm) := oB (fX8_isSign u x1) (fun v1 u2 => (if (v1 : Int32) = 0 then some ((-1), u2) else oB (fX8_isSide u2 x2) (fun v3 u4 => (if (v3 : Int32) = 0 then some ((-1), u4) else oB (fX8_within u4 x3 0 1) (fun v5 u6 => (if (v5 : Int32) = 0 then some ((-1), u6) else oK u6 a0 8 19 (oNn (mR u6 a0 2) (fun e7 => oR u6 e7 2 (oB (fX2_chainFrom u6 e7 x1 x2 0) (fun v8 u9 => (if (x3 : Int32) = 0 then oB (fJ9_abs_0f7a4 u9 v8) (fun v10 u11 => some (v10, u11)) else (if 0 ≤ (v8 : Int32) then bX8_chain_57 u9 0 else bX8_chain_57 u9 1))))))))))))
set_option maxRecDepth 100000 in
set_option maxHeartbeats 4000000 in
theorem tX8_chain {u : Mm} {a0 : Nat} {x1 : Int32} {x2 : Int32} {x3 : Int32} {r : Int32} {u' : Mm} (h : fX8_chain u a0 x1 x2 x3 = some (r, u')) : Ev 3 MX8_chain 0 0 [.ref a0, .int x1, .int x2, .int x3] u (some (.int r), u') := by
  refine Ev.of (by decide +kernel) (Nat.le_of_ble_eq_true rfl) (show Eg MX8_chain 3 0 0 (some (.int r), u') 0 [(0, .ref a0), (1, .int x1), (2, .int x2), (3, .int x3)] [] u from ?_)
  unfold fX8_chain at h
  refine E_iload_n dX8_chain_0 rfl rfl ?_
  refine F_Si h (fun a m e => tX8_isSign e) dX8_chain_1 hm_X8_isSign hs_X8_isSign ln_X8_145 rfl rfl (Nat.le_of_ble_eq_true rfl) (Nat.le_of_ble_eq_true rfl) (kc' := 0) (ks' := 0) rfl rfl (fun v1 u2 h => ?_)
  refine E_if_eq (tgt := 23) h dX8_chain_4 (by decide) (fun h => ?_) (fun h => ?_)
  · refine E_iconst (v := (-1)) dX8_chain_23 (by decide) ?_
    exact E_iret h dX8_chain_24 rfl
  · refine E_iload_n dX8_chain_7 rfl rfl ?_
    refine F_Si h (fun a m e => tX8_isSide e) dX8_chain_8 hm_X8_isSide hs_X8_isSide ln_X8_85 rfl rfl (Nat.le_of_ble_eq_true rfl) (Nat.le_of_ble_eq_true rfl) (kc' := 0) (ks' := 0) rfl rfl (fun v3 u4 h => ?_)
    refine E_if_eq (tgt := 23) h dX8_chain_11 (by decide) (fun h => ?_) (fun h => ?_)
    · refine E_iconst (v := (-1)) dX8_chain_23 (by decide) ?_
      exact E_iret h dX8_chain_24 rfl
    · refine E_iload_n dX8_chain_14 rfl rfl ?_
      refine E_iconst (v := 0) dX8_chain_15 (by decide) ?_
      refine E_iconst (v := 1) dX8_chain_16 (by decide) ?_
      refine F_Si h (fun a m e => tX8_within e) dX8_chain_17 hm_X8_within hs_X8_within ln_X8_92 rfl rfl (Nat.le_of_ble_eq_true rfl) (Nat.le_of_ble_eq_true rfl) (kc' := 0) (ks' := 0) rfl rfl (fun v5 u6 h => ?_)
      refine E_if_ne (tgt := 25) h dX8_chain_20 (by decide) (fun h => ?_) (fun h => ?_)
      · refine E_aload_n dX8_chain_25 rfl rfl ?_
        refine E_getA h dX8_chain_26 cf8 lk_X8_30 (by decide) (fun _ _ _ => rfl) (fun e7 h => ?_)
        refine E_iload_n dX8_chain_29 rfl rfl ?_
        refine E_iload_n dX8_chain_30 rfl rfl ?_
        refine E_iconst (v := 0) dX8_chain_31 (by decide) ?_
        refine F_Vi h (fun a m e => tX2_chainFrom e) dX8_chain_32 hm_X2_chainFrom hv_X2_chainFrom ln_X8_279 rfl rfl (Nat.le_of_ble_eq_true rfl) (Nat.le_of_ble_eq_true rfl) (kc' := 0) (ks' := 0) rfl rfl (fun v8 u9 h => ?_)
        refine E_istore (l' := [(4, .int v8), (0, .ref a0), (1, .int x1), (2, .int x2), (3, .int x3)]) dX8_chain_35 (Nat.le_of_ble_eq_true rfl) rfl ?_
        refine E_iload_n dX8_chain_37 rfl rfl ?_
        refine E_if_ne (tgt := 47) h dX8_chain_38 (by decide) (fun h => ?_) (fun h => ?_)
        · refine E_iload dX8_chain_47 rfl ?_
          refine E_if_ge (tgt := 56) h dX8_chain_49 (by decide) (fun h => ?_) (fun h => ?_)
          · refine E_iconst (v := 0) dX8_chain_56 (by decide) ?_
            refine Eg.pick [] rfl ?_
            exact pX8_chain_57 _ _ h
          · refine E_iconst (v := 1) dX8_chain_52 (by decide) ?_
            refine E_goto (tgt := 57) dX8_chain_53 (by decide) ?_
            refine Eg.pick [] rfl ?_
            exact pX8_chain_57 _ _ h
        · refine E_iload dX8_chain_41 rfl ?_
          refine F_Si h (fun a m e => tJ9_abs_0f7a4 e) dX8_chain_43 hm_J9_abs_0f7a4 hs_J9_abs_0f7a4 ln_X8_283 rfl rfl (Nat.le_of_ble_eq_true rfl) (Nat.le_of_ble_eq_true rfl) (kc' := 0) (ks' := 0) rfl rfl (fun v10 u11 h => ?_)
          exact E_iret h dX8_chain_46 rfl
      · refine E_iconst (v := (-1)) dX8_chain_23 (by decide) ?_
        exact E_iret h dX8_chain_24 rfl
def fX8_stilled (u : Mm) (a0 : Nat) (x1 : Int32) : Option (Int32 × Mm) := oB (fX8_within u x1 0 1) (fun v1 u2 => (if (v1 : Int32) = 0 then some ((-1), u2) else oK u2 a0 8 19 (oNn (mR u2 a0 2) (fun e3 => oR u2 e3 2 (oB (fX2_signsToStill u2 e3) (fun v4 u5 => oB (fX8_countOrSet u5 v4 x1) (fun v6 u7 => some (v6, u7))))))))
set_option maxRecDepth 100000 in
set_option maxHeartbeats 4000000 in
theorem tX8_stilled {u : Mm} {a0 : Nat} {x1 : Int32} {r : Int32} {u' : Mm} (h : fX8_stilled u a0 x1 = some (r, u')) : Ev 5 MX8_stilled 0 0 [.ref a0, .int x1] u (some (.int r), u') := by
  refine Ev.of (by decide +kernel) (Nat.le_of_ble_eq_true rfl) (show Eg MX8_stilled 5 0 0 (some (.int r), u') 0 [(0, .ref a0), (1, .int x1)] [] u from ?_)
  unfold fX8_stilled at h
  refine E_iload_n dX8_stilled_0 rfl rfl ?_
  refine E_iconst (v := 0) dX8_stilled_1 (by decide) ?_
  refine E_iconst (v := 1) dX8_stilled_2 (by decide) ?_
  refine F_Si h (fun a m e => tX8_within e) dX8_stilled_3 hm_X8_within hs_X8_within ln_X8_92 rfl rfl (Nat.le_of_ble_eq_true rfl) (Nat.le_of_ble_eq_true rfl) (kc' := 0) (ks' := 0) rfl rfl (fun v1 u2 h => ?_)
  refine E_if_ne (tgt := 11) h dX8_stilled_6 (by decide) (fun h => ?_) (fun h => ?_)
  · refine E_aload_n dX8_stilled_11 rfl rfl ?_
    refine E_getA h dX8_stilled_12 cf8 lk_X8_30 (by decide) (fun _ _ _ => rfl) (fun e3 h => ?_)
    refine F_Vi h (fun a m e => tX2_signsToStill e) dX8_stilled_15 hm_X2_signsToStill hv_X2_signsToStill ln_X8_288 rfl rfl (Nat.le_of_ble_eq_true rfl) (Nat.le_of_ble_eq_true rfl) (kc' := 0) (ks' := 0) rfl rfl (fun v4 u5 h => ?_)
    refine E_iload_n dX8_stilled_18 rfl rfl ?_
    refine F_Si h (fun a m e => tX8_countOrSet e) dX8_stilled_19 hm_X8_countOrSet hs_X8_countOrSet ln_X8_249 rfl rfl (Nat.le_of_ble_eq_true rfl) (Nat.le_of_ble_eq_true rfl) (kc' := 0) (ks' := 0) rfl rfl (fun v6 u7 h => ?_)
    exact E_iret h dX8_stilled_22 rfl
  · refine E_iconst (v := (-1)) dX8_stilled_9 (by decide) ?_
    exact E_iret h dX8_stilled_10 rfl
def bX8_pushed_48 (u : Mm) (s0 : Int32) : Option (Int32 × Mm) := some (s0, u)
set_option maxRecDepth 100000 in
set_option maxHeartbeats 4000000 in
theorem pX8_pushed_48 {r : Int32} {u' : Mm} (u : Mm) (s0 : Int32) (h : bX8_pushed_48 u s0 = some (r, u')) : Eg MX8_pushed 5 0 0 (some (.int r), u') 48 [] [.int s0] u := by
  unfold bX8_pushed_48 at h
  exact E_iret h dX8_pushed_48 rfl
def fX8_pushed (u : Mm) (a0 : Nat) (x1 : Int32) (x2 : Int32) : Option (Int32 × Mm) := oB (fX8_isSide u x1) (fun v1 u2 => (if (v1 : Int32) = 0 then some ((-1), u2) else oB (fX8_within u2 x2 0 2) (fun v3 u4 => (if (v3 : Int32) = 0 then some ((-1), u4) else oK u4 a0 8 19 (oNn (mR u4 a0 2) (fun e5 => oR u4 e5 2 (oB (fX2_columnsToPush u4 e5 x1) (fun v6 u7 => (if (x2 : Int32) = 1 then oK u7 a0 8 19 (oNn (mR u7 a0 2) (fun e10 => oR u7 e10 2 (oB (fX2_costOfSet u7 e10 v6) (fun v11 u12 => bX8_pushed_48 u12 v11)))) else oB (fX8_countOrSet u7 v6 x2) (fun v8 u9 => bX8_pushed_48 u9 v8))))))))))
set_option maxRecDepth 100000 in
set_option maxHeartbeats 4000000 in
theorem tX8_pushed {u : Mm} {a0 : Nat} {x1 : Int32} {x2 : Int32} {r : Int32} {u' : Mm} (h : fX8_pushed u a0 x1 x2 = some (r, u')) : Ev 5 MX8_pushed 0 0 [.ref a0, .int x1, .int x2] u (some (.int r), u') := by
  refine Ev.of (by decide +kernel) (Nat.le_of_ble_eq_true rfl) (show Eg MX8_pushed 5 0 0 (some (.int r), u') 0 [(0, .ref a0), (1, .int x1), (2, .int x2)] [] u from ?_)
  unfold fX8_pushed at h
  refine E_iload_n dX8_pushed_0 rfl rfl ?_
  refine F_Si h (fun a m e => tX8_isSide e) dX8_pushed_1 hm_X8_isSide hs_X8_isSide ln_X8_85 rfl rfl (Nat.le_of_ble_eq_true rfl) (Nat.le_of_ble_eq_true rfl) (kc' := 0) (ks' := 0) rfl rfl (fun v1 u2 h => ?_)
  refine E_if_eq (tgt := 16) h dX8_pushed_4 (by decide) (fun h => ?_) (fun h => ?_)
  · refine E_iconst (v := (-1)) dX8_pushed_16 (by decide) ?_
    exact E_iret h dX8_pushed_17 rfl
  · refine E_iload_n dX8_pushed_7 rfl rfl ?_
    refine E_iconst (v := 0) dX8_pushed_8 (by decide) ?_
    refine E_iconst (v := 2) dX8_pushed_9 (by decide) ?_
    refine F_Si h (fun a m e => tX8_within e) dX8_pushed_10 hm_X8_within hs_X8_within ln_X8_92 rfl rfl (Nat.le_of_ble_eq_true rfl) (Nat.le_of_ble_eq_true rfl) (kc' := 0) (ks' := 0) rfl rfl (fun v3 u4 h => ?_)
    refine E_if_ne (tgt := 18) h dX8_pushed_13 (by decide) (fun h => ?_) (fun h => ?_)
    · refine E_aload_n dX8_pushed_18 rfl rfl ?_
      refine E_getA h dX8_pushed_19 cf8 lk_X8_30 (by decide) (fun _ _ _ => rfl) (fun e5 h => ?_)
      refine E_iload_n dX8_pushed_22 rfl rfl ?_
      refine F_Vi h (fun a m e => tX2_columnsToPush e) dX8_pushed_23 hm_X2_columnsToPush hv_X2_columnsToPush ln_X8_291 rfl rfl (Nat.le_of_ble_eq_true rfl) (Nat.le_of_ble_eq_true rfl) (kc' := 0) (ks' := 0) rfl rfl (fun v6 u7 h => ?_)
      refine E_istore_n (l' := [(3, .int v6), (0, .ref a0), (1, .int x1), (2, .int x2)]) dX8_pushed_26 rfl (Nat.le_of_ble_eq_true rfl) rfl ?_
      refine E_iload_n dX8_pushed_27 rfl rfl ?_
      refine E_iconst (v := 1) dX8_pushed_28 (by decide) ?_
      refine E_ic_ne (tgt := 43) h dX8_pushed_29 (by decide) (fun h => ?_) (fun h => ?_)
      · refine E_iload_n dX8_pushed_43 rfl rfl ?_
        refine E_iload_n dX8_pushed_44 rfl rfl ?_
        refine F_Si h (fun a m e => tX8_countOrSet e) dX8_pushed_45 hm_X8_countOrSet hs_X8_countOrSet ln_X8_249 rfl rfl (Nat.le_of_ble_eq_true rfl) (Nat.le_of_ble_eq_true rfl) (kc' := 0) (ks' := 0) rfl rfl (fun v8 u9 h => ?_)
        refine Eg.pick [] rfl ?_
        exact pX8_pushed_48 _ _ h
      · refine E_aload_n dX8_pushed_32 rfl rfl ?_
        refine E_getA h dX8_pushed_33 cf8 lk_X8_30 (by decide) (fun _ _ _ => rfl) (fun e10 h => ?_)
        refine E_iload_n dX8_pushed_36 rfl rfl ?_
        refine F_Vi h (fun a m e => tX2_costOfSet e) dX8_pushed_37 hm_X2_costOfSet hv_X2_costOfSet ln_X8_294 rfl rfl (Nat.le_of_ble_eq_true rfl) (Nat.le_of_ble_eq_true rfl) (kc' := 0) (ks' := 0) rfl rfl (fun v11 u12 h => ?_)
        refine E_goto (tgt := 48) dX8_pushed_40 (by decide) ?_
        refine Eg.pick [] rfl ?_
        exact pX8_pushed_48 _ _ h
    · refine E_iconst (v := (-1)) dX8_pushed_16 (by decide) ?_
      exact E_iret h dX8_pushed_17 rfl
def bX8_level_19 (u : Mm) (s0 : Int32) : Option (Int32 × Mm) := some (s0, u)
set_option maxRecDepth 100000 in
set_option maxHeartbeats 4000000 in
theorem pX8_level_19 {r : Int32} {u' : Mm} (u : Mm) (s0 : Int32) (h : bX8_level_19 u s0 = some (r, u')) : Eg MX8_level 3 0 0 (some (.int r), u') 19 [] [.int s0] u := by
  unfold bX8_level_19 at h
  exact E_iret h dX8_level_19 rfl
def fX8_level (u : Mm) (a0 : Nat) (x1 : Int32) : Option (Int32 × Mm) := oB (fX8_isSide u x1) (fun v1 u2 => (if (v1 : Int32) = 0 then bX8_level_19 u2 ((-1)) else oK u2 a0 8 19 (oNn (mR u2 a0 2) (fun e3 => oR u2 e3 2 (oB (fX2_menToLevel u2 e3 x1) (fun v4 u5 => bX8_level_19 u5 v4))))))
set_option maxRecDepth 100000 in
set_option maxHeartbeats 4000000 in
theorem tX8_level {u : Mm} {a0 : Nat} {x1 : Int32} {r : Int32} {u' : Mm} (h : fX8_level u a0 x1 = some (r, u')) : Ev 3 MX8_level 0 0 [.ref a0, .int x1] u (some (.int r), u') := by
  refine Ev.of (by decide +kernel) (Nat.le_of_ble_eq_true rfl) (show Eg MX8_level 3 0 0 (some (.int r), u') 0 [(0, .ref a0), (1, .int x1)] [] u from ?_)
  unfold fX8_level at h
  refine E_iload_n dX8_level_0 rfl rfl ?_
  refine F_Si h (fun a m e => tX8_isSide e) dX8_level_1 hm_X8_isSide hs_X8_isSide ln_X8_85 rfl rfl (Nat.le_of_ble_eq_true rfl) (Nat.le_of_ble_eq_true rfl) (kc' := 0) (ks' := 0) rfl rfl (fun v1 u2 h => ?_)
  refine E_if_eq (tgt := 18) h dX8_level_4 (by decide) (fun h => ?_) (fun h => ?_)
  · refine E_iconst (v := (-1)) dX8_level_18 (by decide) ?_
    refine Eg.pick [] rfl ?_
    exact pX8_level_19 _ _ h
  · refine E_aload_n dX8_level_7 rfl rfl ?_
    refine E_getA h dX8_level_8 cf8 lk_X8_30 (by decide) (fun _ _ _ => rfl) (fun e3 h => ?_)
    refine E_iload_n dX8_level_11 rfl rfl ?_
    refine F_Vi h (fun a m e => tX2_menToLevel e) dX8_level_12 hm_X2_menToLevel hv_X2_menToLevel ln_X8_297 rfl rfl (Nat.le_of_ble_eq_true rfl) (Nat.le_of_ble_eq_true rfl) (kc' := 0) (ks' := 0) rfl rfl (fun v4 u5 h => ?_)
    refine E_goto (tgt := 19) dX8_level_15 (by decide) ?_
    refine Eg.pick [] rfl ?_
    exact pX8_level_19 _ _ h
def fX8_posts (u : Mm) (a0 : Nat) (x1 : Int32) (x2 : Int32) : Option (Int32 × Mm) := oB (fX8_within u x1 0 7) (fun v1 u2 => (if (v1 : Int32) = 0 then some ((-1), u2) else oB (fX8_within u2 x2 0 1) (fun v3 u4 => (if (v3 : Int32) = 0 then some ((-1), u4) else oK u4 a0 8 19 (oNn (mR u4 a0 2) (fun e5 => oR u4 e5 2 (oB (fX2_columnsForPosts u4 e5 x1) (fun v6 u7 => oB (fX8_countOrSet u7 v6 x2) (fun v8 u9 => some (v8, u9))))))))))
set_option maxRecDepth 100000 in
set_option maxHeartbeats 4000000 in
theorem tX8_posts {u : Mm} {a0 : Nat} {x1 : Int32} {x2 : Int32} {r : Int32} {u' : Mm} (h : fX8_posts u a0 x1 x2 = some (r, u')) : Ev 3 MX8_posts 0 0 [.ref a0, .int x1, .int x2] u (some (.int r), u') := by
  refine Ev.of (by decide +kernel) (Nat.le_of_ble_eq_true rfl) (show Eg MX8_posts 3 0 0 (some (.int r), u') 0 [(0, .ref a0), (1, .int x1), (2, .int x2)] [] u from ?_)
  unfold fX8_posts at h
  refine E_iload_n dX8_posts_0 rfl rfl ?_
  refine E_iconst (v := 0) dX8_posts_1 (by decide) ?_
  refine E_bipush (v := 7) dX8_posts_2 (by decide) ?_
  refine F_Si h (fun a m e => tX8_within e) dX8_posts_4 hm_X8_within hs_X8_within ln_X8_92 rfl rfl (Nat.le_of_ble_eq_true rfl) (Nat.le_of_ble_eq_true rfl) (kc' := 0) (ks' := 0) rfl rfl (fun v1 u2 h => ?_)
  refine E_if_eq (tgt := 19) h dX8_posts_7 (by decide) (fun h => ?_) (fun h => ?_)
  · refine E_iconst (v := (-1)) dX8_posts_19 (by decide) ?_
    exact E_iret h dX8_posts_20 rfl
  · refine E_iload_n dX8_posts_10 rfl rfl ?_
    refine E_iconst (v := 0) dX8_posts_11 (by decide) ?_
    refine E_iconst (v := 1) dX8_posts_12 (by decide) ?_
    refine F_Si h (fun a m e => tX8_within e) dX8_posts_13 hm_X8_within hs_X8_within ln_X8_92 rfl rfl (Nat.le_of_ble_eq_true rfl) (Nat.le_of_ble_eq_true rfl) (kc' := 0) (ks' := 0) rfl rfl (fun v3 u4 h => ?_)
    refine E_if_ne (tgt := 21) h dX8_posts_16 (by decide) (fun h => ?_) (fun h => ?_)
    · refine E_aload_n dX8_posts_21 rfl rfl ?_
      refine E_getA h dX8_posts_22 cf8 lk_X8_30 (by decide) (fun _ _ _ => rfl) (fun e5 h => ?_)
      refine E_iload_n dX8_posts_25 rfl rfl ?_
      refine F_Vi h (fun a m e => tX2_columnsForPosts e) dX8_posts_26 hm_X2_columnsForPosts hv_X2_columnsForPosts ln_X8_300 rfl rfl (Nat.le_of_ble_eq_true rfl) (Nat.le_of_ble_eq_true rfl) (kc' := 0) (ks' := 0) rfl rfl (fun v6 u7 h => ?_)
      refine E_iload_n dX8_posts_29 rfl rfl ?_
      refine F_Si h (fun a m e => tX8_countOrSet e) dX8_posts_30 hm_X8_countOrSet hs_X8_countOrSet ln_X8_249 rfl rfl (Nat.le_of_ble_eq_true rfl) (Nat.le_of_ble_eq_true rfl) (kc' := 0) (ks' := 0) rfl rfl (fun v8 u9 h => ?_)
      exact E_iret h dX8_posts_33 rfl
    · refine E_iconst (v := (-1)) dX8_posts_19 (by decide) ?_
      exact E_iret h dX8_posts_20 rfl
def bX8_way_108 (u : Mm) (s0 : Int32) : Option (Int32 × Mm) := some (s0, u)
set_option maxRecDepth 100000 in
set_option maxHeartbeats 4000000 in
theorem pX8_way_108 {r : Int32} {u' : Mm} (u : Mm) (s0 : Int32) (h : bX8_way_108 u s0 = some (r, u')) : Eg MX8_way 2 0 0 (some (.int r), u') 108 [] [.int s0] u := by
  unfold bX8_way_108 at h
  exact E_iret h dX8_way_108 rfl
def bX8_way_119 (u : Mm) (s0 : Int32) : Option (Int32 × Mm) := some (s0, u)
set_option maxRecDepth 100000 in
set_option maxHeartbeats 4000000 in
theorem pX8_way_119 {r : Int32} {u' : Mm} (u : Mm) (s0 : Int32) (h : bX8_way_119 u s0 = some (r, u')) : Eg MX8_way 2 0 0 (some (.int r), u') 119 [] [.int s0] u := by
  unfold bX8_way_119 at h
  exact E_iret h dX8_way_119 rfl
def bX8_way_134 (u : Mm) (s0 : Int32) : Option (Int32 × Mm) := oB (fJ9_floorMod_7cf53 u s0 8) (fun v13 u14 => some (v13, u14))
set_option maxRecDepth 100000 in
set_option maxHeartbeats 4000000 in
theorem pX8_way_134 {r : Int32} {u' : Mm} (u : Mm) (s0 : Int32) (h : bX8_way_134 u s0 = some (r, u')) : Eg MX8_way 2 0 0 (some (.int r), u') 134 [] [.int s0] u := by
  unfold bX8_way_134 at h
  refine E_bipush (v := 8) dX8_way_134 (by decide) ?_
  refine F_Si h (fun a m e => tJ9_floorMod_7cf53 e) dX8_way_136 hm_J9_floorMod_7cf53 hs_J9_floorMod_7cf53 ln_X8_306 rfl rfl (Nat.le_of_ble_eq_true rfl) (Nat.le_of_ble_eq_true rfl) (kc' := 0) (ks' := 0) rfl rfl (fun v13 u14 h => ?_)
  exact E_iret h dX8_way_139 rfl
def bX8_way_66 (u : Mm) (x2 : Int32) (x3 : Int32) (x4 : Int32) (x5 : Int32) (x6 : Int32) (s0 : Int32) : Option (Int32 × Mm) := (if (x4 : Int32) = 0 then (if (s0 : Int32) = 0 then bX8_way_108 u x6 else bX8_way_108 u x5) else (if (x4 : Int32) = 1 then (if (s0 : Int32) = 0 then bX8_way_119 u 0 else bX8_way_119 u 1) else (if (x4 : Int32) = 2 then (if (s0 : Int32) = 0 then bX8_way_134 u (x2 - x3) else bX8_way_134 u (x3 - x2)) else some ((-1), u))))
set_option maxRecDepth 100000 in
set_option maxHeartbeats 4000000 in
theorem pX8_way_66 {r : Int32} {u' : Mm} (u : Mm) (x2 : Int32) (x3 : Int32) (x4 : Int32) (x5 : Int32) (x6 : Int32) (s0 : Int32) (h : bX8_way_66 u x2 x3 x4 x5 x6 s0 = some (r, u')) : Eg MX8_way 2 0 0 (some (.int r), u') 66 [(2, .int x2), (3, .int x3), (4, .int x4), (5, .int x5), (6, .int x6)] [.int s0] u := by
  unfold bX8_way_66 at h
  refine E_istore (l' := [(7, .int s0), (2, .int x2), (3, .int x3), (4, .int x4), (5, .int x5), (6, .int x6)]) dX8_way_66 (Nat.le_of_ble_eq_true rfl) rfl ?_
  refine E_iload dX8_way_68 rfl ?_
  refine ite_cases h (fun c70_0 h => ?_) (fun c70_0 h => ?_)
  · refine E_tabIn (off := 26) (tgt := 96) dX8_way_70 c70_0 (by decide +kernel) (by decide +kernel) (by decide +kernel) (by decide) ?_
    refine E_iload dX8_way_96 rfl ?_
    refine E_if_eq (tgt := 106) h dX8_way_98 (by decide) (fun h => ?_) (fun h => ?_)
    · refine E_iload dX8_way_106 rfl ?_
      refine Eg.pick [] rfl ?_
      exact pX8_way_108 _ _ h
    · refine E_iload dX8_way_101 rfl ?_
      refine E_goto (tgt := 108) dX8_way_103 (by decide) ?_
      refine Eg.pick [] rfl ?_
      exact pX8_way_108 _ _ h
  · refine ite_cases h (fun c70_1 h => ?_) (fun c70_1 h => ?_)
    · refine E_tabIn (off := 39) (tgt := 109) dX8_way_70 c70_1 (by decide +kernel) (by decide +kernel) (by decide +kernel) (by decide) ?_
      refine E_iload dX8_way_109 rfl ?_
      refine E_if_eq (tgt := 118) h dX8_way_111 (by decide) (fun h => ?_) (fun h => ?_)
      · refine E_iconst (v := 0) dX8_way_118 (by decide) ?_
        refine Eg.pick [] rfl ?_
        exact pX8_way_119 _ _ h
      · refine E_iconst (v := 1) dX8_way_114 (by decide) ?_
        refine E_goto (tgt := 119) dX8_way_115 (by decide) ?_
        refine Eg.pick [] rfl ?_
        exact pX8_way_119 _ _ h
    · refine ite_cases h (fun c70_2 h => ?_) (fun c70_2 h => ?_)
      · refine E_tabIn (off := 50) (tgt := 120) dX8_way_70 c70_2 (by decide +kernel) (by decide +kernel) (by decide +kernel) (by decide) ?_
        refine E_iload dX8_way_120 rfl ?_
        refine E_if_eq (tgt := 131) h dX8_way_122 (by decide) (fun h => ?_) (fun h => ?_)
        · refine E_iload_n dX8_way_131 rfl rfl ?_
          refine E_iload_n dX8_way_132 rfl rfl ?_
          refine E_isub dX8_way_133 ?_
          refine Eg.pick [] rfl ?_
          exact pX8_way_134 _ _ h
        · refine E_iload_n dX8_way_125 rfl rfl ?_
          refine E_iload_n dX8_way_126 rfl rfl ?_
          refine E_isub dX8_way_127 ?_
          refine E_goto (tgt := 134) dX8_way_128 (by decide) ?_
          refine Eg.pick [] rfl ?_
          exact pX8_way_134 _ _ h
      · refine E_tabD (tgt := 140) [0, 1, 2] dX8_way_70 (by intro k hk; simp only [List.mem_cons, List.not_mem_nil, or_false] at hk; rcases hk with rfl | rfl | rfl <;> first | exact ne_lit (by decide +kernel) c70_0 | exact ne_lit (by decide +kernel) c70_1 | exact ne_lit (by decide +kernel) c70_2) (by decide +kernel) (by decide) ?_
        refine E_iconst (v := (-1)) dX8_way_140 (by decide) ?_
        exact E_iret h dX8_way_141 rfl
def fX8_way (u : Mm) (a0 : Nat) (x1 : Int32) (x2 : Int32) (x3 : Int32) (x4 : Int32) : Option (Int32 × Mm) := oB (fX8_isSide u x1) (fun v1 u2 => (if (v1 : Int32) = 0 then some ((-1), u2) else oB (fX8_isColumn u2 x2) (fun v3 u4 => (if (v3 : Int32) = 0 then some ((-1), u4) else oB (fX8_isColumn u4 x3) (fun v5 u6 => (if (v5 : Int32) = 0 then some ((-1), u6) else (if (x2 : Int32) = x3 then some ((-1), u6) else oK u6 a0 8 19 (oNn (mR u6 a0 2) (fun e7 => oR u6 e7 2 (oB (fX2_foesOnWay u6 e7 x1 x2 x3 1) (fun v8 u9 => oK u9 a0 8 19 (oNn (mR u9 a0 2) (fun e10 => oR u9 e10 2 (oB (fX2_foesOnWay u9 e10 x1 x2 x3 ((-1))) (fun v11 u12 => (if (v11 : Int32) < v8 then bX8_way_66 u12 x2 x3 x4 v8 v11 0 else bX8_way_66 u12 x2 x3 x4 v8 v11 1))))))))))))))))
set_option maxRecDepth 100000 in
set_option maxHeartbeats 4000000 in
theorem tX8_way {u : Mm} {a0 : Nat} {x1 : Int32} {x2 : Int32} {x3 : Int32} {x4 : Int32} {r : Int32} {u' : Mm} (h : fX8_way u a0 x1 x2 x3 x4 = some (r, u')) : Ev 2 MX8_way 0 0 [.ref a0, .int x1, .int x2, .int x3, .int x4] u (some (.int r), u') := by
  refine Ev.of (by decide +kernel) (Nat.le_of_ble_eq_true rfl) (show Eg MX8_way 2 0 0 (some (.int r), u') 0 [(0, .ref a0), (1, .int x1), (2, .int x2), (3, .int x3), (4, .int x4)] [] u from ?_)
  unfold fX8_way at h
  refine E_iload_n dX8_way_0 rfl rfl ?_
  refine F_Si h (fun a m e => tX8_isSide e) dX8_way_1 hm_X8_isSide hs_X8_isSide ln_X8_85 rfl rfl (Nat.le_of_ble_eq_true rfl) (Nat.le_of_ble_eq_true rfl) (kc' := 0) (ks' := 0) rfl rfl (fun v1 u2 h => ?_)
  refine E_if_eq (tgt := 26) h dX8_way_4 (by decide) (fun h => ?_) (fun h => ?_)
  · refine E_iconst (v := (-1)) dX8_way_26 (by decide) ?_
    exact E_iret h dX8_way_27 rfl
  · refine E_iload_n dX8_way_7 rfl rfl ?_
    refine F_Si h (fun a m e => tX8_isColumn e) dX8_way_8 hm_X8_isColumn hs_X8_isColumn ln_X8_89 rfl rfl (Nat.le_of_ble_eq_true rfl) (Nat.le_of_ble_eq_true rfl) (kc' := 0) (ks' := 0) rfl rfl (fun v3 u4 h => ?_)
    refine E_if_eq (tgt := 26) h dX8_way_11 (by decide) (fun h => ?_) (fun h => ?_)
    · refine E_iconst (v := (-1)) dX8_way_26 (by decide) ?_
      exact E_iret h dX8_way_27 rfl
    · refine E_iload_n dX8_way_14 rfl rfl ?_
      refine F_Si h (fun a m e => tX8_isColumn e) dX8_way_15 hm_X8_isColumn hs_X8_isColumn ln_X8_89 rfl rfl (Nat.le_of_ble_eq_true rfl) (Nat.le_of_ble_eq_true rfl) (kc' := 0) (ks' := 0) rfl rfl (fun v5 u6 h => ?_)
      refine E_if_eq (tgt := 26) h dX8_way_18 (by decide) (fun h => ?_) (fun h => ?_)
      · refine E_iconst (v := (-1)) dX8_way_26 (by decide) ?_
        exact E_iret h dX8_way_27 rfl
      · refine E_iload_n dX8_way_21 rfl rfl ?_
        refine E_iload_n dX8_way_22 rfl rfl ?_
        refine E_ic_ne (tgt := 28) h dX8_way_23 (by decide) (fun h => ?_) (fun h => ?_)
        · refine E_aload_n dX8_way_28 rfl rfl ?_
          refine E_getA h dX8_way_29 cf8 lk_X8_30 (by decide) (fun _ _ _ => rfl) (fun e7 h => ?_)
          refine E_iload_n dX8_way_32 rfl rfl ?_
          refine E_iload_n dX8_way_33 rfl rfl ?_
          refine E_iload_n dX8_way_34 rfl rfl ?_
          refine E_iconst (v := 1) dX8_way_35 (by decide) ?_
          refine F_Vi h (fun a m e => tX2_foesOnWay e) dX8_way_36 hm_X2_foesOnWay hv_X2_foesOnWay ln_X8_303 rfl rfl (Nat.le_of_ble_eq_true rfl) (Nat.le_of_ble_eq_true rfl) (kc' := 0) (ks' := 0) rfl rfl (fun v8 u9 h => ?_)
          refine E_istore (l' := [(5, .int v8), (0, .ref a0), (1, .int x1), (2, .int x2), (3, .int x3), (4, .int x4)]) dX8_way_39 (Nat.le_of_ble_eq_true rfl) rfl ?_
          refine E_aload_n dX8_way_41 rfl rfl ?_
          refine E_getA h dX8_way_42 cf8 lk_X8_30 (by decide) (fun _ _ _ => rfl) (fun e10 h => ?_)
          refine E_iload_n dX8_way_45 rfl rfl ?_
          refine E_iload_n dX8_way_46 rfl rfl ?_
          refine E_iload_n dX8_way_47 rfl rfl ?_
          refine E_iconst (v := (-1)) dX8_way_48 (by decide) ?_
          refine F_Vi h (fun a m e => tX2_foesOnWay e) dX8_way_49 hm_X2_foesOnWay hv_X2_foesOnWay ln_X8_303 rfl rfl (Nat.le_of_ble_eq_true rfl) (Nat.le_of_ble_eq_true rfl) (kc' := 0) (ks' := 0) rfl rfl (fun v11 u12 h => ?_)
          refine E_istore (l' := [(6, .int v11), (5, .int v8), (0, .ref a0), (1, .int x1), (2, .int x2), (3, .int x3), (4, .int x4)]) dX8_way_52 (Nat.le_of_ble_eq_true rfl) rfl ?_
          refine E_iload dX8_way_54 rfl ?_
          refine E_iload dX8_way_56 rfl ?_
          refine E_ic_gt (tgt := 65) h dX8_way_58 (by decide) (fun h => ?_) (fun h => ?_)
          · refine E_iconst (v := 0) dX8_way_65 (by decide) ?_
            refine Eg.pick [4, 5, 6, 1, 0] rfl ?_
            exact pX8_way_66 _ _ _ _ _ _ _ h
          · refine E_iconst (v := 1) dX8_way_61 (by decide) ?_
            refine E_goto (tgt := 66) dX8_way_62 (by decide) ?_
            refine Eg.pick [4, 5, 6, 1, 0] rfl ?_
            exact pX8_way_66 _ _ _ _ _ _ _ h
        · refine E_iconst (v := (-1)) dX8_way_26 (by decide) ?_
          exact E_iret h dX8_way_27 rfl
