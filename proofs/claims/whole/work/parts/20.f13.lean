/-! ===== methods as functions, with their contracts (printed by program) ===== -/
def bX9_in_18 (u : Mm) (s0 : Int32) : Option (Int32 × Mm) := oZ s0 (some (s0, u))
set_option maxRecDepth 100000 in
set_option maxHeartbeats 4000000 in
theorem pX9_in_18 {r : Int32} {u' : Mm} (u : Mm) (s0 : Int32) (h : bX9_in_18 u s0 = some (r, u')) : Eg MX9_in 0 0 0 (some (.int r), u') 18 [] [.int s0] u := by
  unfold bX9_in_18 at h
  exact E_zret h dX9_in_18 rfl
def fX9_in (u : Mm) (y0 : Int64) (y2 : Int64) (y4 : Int64) : Option (Int32 × Mm) := (if (lg_cmp y0 y2 : Int32) < 0 then bX9_in_18 u 0 else (if 0 < (lg_cmp y0 y4 : Int32) then bX9_in_18 u 0 else bX9_in_18 u 1))
set_option maxRecDepth 100000 in
set_option maxHeartbeats 4000000 in
theorem tX9_in {u : Mm} {y0 : Int64} {y2 : Int64} {y4 : Int64} {r : Int32} {u' : Mm} (h : fX9_in u y0 y2 y4 = some (r, u')) : Ev 0 MX9_in 0 0 [.long y0, .long y2, .long y4] u (some (.int r), u') := by
  refine Ev.of (by decide +kernel) (Nat.le_of_ble_eq_true rfl) (show Eg MX9_in 0 0 0 (some (.int r), u') 0 [(0, .long y0), (2, .long y2), (4, .long y4)] [] u from ?_)
  unfold fX9_in at h
  refine E_lload_n dX9_in_0 rfl rfl ?_
  refine E_lload_n dX9_in_1 rfl rfl ?_
  refine E_lcmp dX9_in_2 ?_
  refine E_if_lt (tgt := 17) h dX9_in_3 (by decide) (fun h => ?_) (fun h => ?_)
  · refine E_iconst (v := 0) dX9_in_17 (by decide) ?_
    refine Eg.pick [] rfl ?_
    exact pX9_in_18 _ _ h
  · refine E_lload_n dX9_in_6 rfl rfl ?_
    refine E_lload dX9_in_7 rfl ?_
    refine E_lcmp dX9_in_9 ?_
    refine E_if_gt (tgt := 17) h dX9_in_10 (by decide) (fun h => ?_) (fun h => ?_)
    · refine E_iconst (v := 0) dX9_in_17 (by decide) ?_
      refine Eg.pick [] rfl ?_
      exact pX9_in_18 _ _ h
    · refine E_iconst (v := 1) dX9_in_13 (by decide) ?_
      refine E_goto (tgt := 18) dX9_in_14 (by decide) ?_
      refine Eg.pick [] rfl ?_
      exact pX9_in_18 _ _ h
def bX9_is_14 (u : Mm) (s0 : Int32) : Option (Int32 × Mm) := oZ s0 (some (s0, u))
set_option maxRecDepth 100000 in
set_option maxHeartbeats 4000000 in
theorem pX9_is_14 {r : Int32} {u' : Mm} (u : Mm) (s0 : Int32) (h : bX9_is_14 u s0 = some (r, u')) : Eg MX9_is 0 0 0 (some (.int r), u') 14 [] [.int s0] u := by
  unfold bX9_is_14 at h
  exact E_zret h dX9_is_14 rfl
def fX9_is (u : Mm) (x0 : Int32) (x1 : Int32) : Option (Int32 × Mm) := (if ((x0 >>> (x1 &&& 31)) &&& 1 : Int32) = 1 then bX9_is_14 u 1 else bX9_is_14 u 0)
set_option maxRecDepth 100000 in
set_option maxHeartbeats 4000000 in
theorem tX9_is {u : Mm} {x0 : Int32} {x1 : Int32} {r : Int32} {u' : Mm} (h : fX9_is u x0 x1 = some (r, u')) : Ev 0 MX9_is 0 0 [.int x0, .int x1] u (some (.int r), u') := by
  refine Ev.of (by decide +kernel) (Nat.le_of_ble_eq_true rfl) (show Eg MX9_is 0 0 0 (some (.int r), u') 0 [(0, .int x0), (1, .int x1)] [] u from ?_)
  unfold fX9_is at h
  refine E_iload_n dX9_is_0 rfl rfl ?_
  refine E_iload_n dX9_is_1 rfl rfl ?_
  refine E_ishr dX9_is_2 ?_
  refine E_iconst (v := 1) dX9_is_3 (by decide) ?_
  refine E_iand dX9_is_4 ?_
  refine E_iconst (v := 1) dX9_is_5 (by decide) ?_
  refine E_ic_ne (tgt := 13) h dX9_is_6 (by decide) (fun h => ?_) (fun h => ?_)
  · refine E_iconst (v := 0) dX9_is_13 (by decide) ?_
    refine Eg.pick [] rfl ?_
    exact pX9_is_14 _ _ h
  · refine E_iconst (v := 1) dX9_is_9 (by decide) ?_
    refine E_goto (tgt := 14) dX9_is_10 (by decide) ?_
    refine Eg.pick [] rfl ?_
    exact pX9_is_14 _ _ h
def bX9_ones_4 (k4 : Mm → Int32 → Int32 → Int32 → Option (Int32 × Mm)) (u : Mm) (x0 : Int32) (x1 : Int32) (x2 : Int32) : Option (Int32 × Mm) := (if (8 : Int32) ≤ x2 then some (x1, u) else oI (x1 + ((x0 >>> (x2 &&& 31)) &&& 1)) (fun v1 => k4 u x0 v1 (x2 + 1)))
set_option maxRecDepth 100000 in
set_option maxHeartbeats 4000000 in
theorem pX9_ones_4 {r : Int32} {u' : Mm} {k4 : Mm → Int32 → Int32 → Int32 → Option (Int32 × Mm)} (hk4 : ∀ (u : Mm) (x0 : Int32) (x1 : Int32) (x2 : Int32), k4 u x0 x1 x2 = some (r, u') → Eg MX9_ones 0 0 0 (some (.int r), u') 4 [(0, .int x0), (1, .int x1), (2, .int x2)] [] u) (u : Mm) (x0 : Int32) (x1 : Int32) (x2 : Int32) (h : bX9_ones_4 k4 u x0 x1 x2 = some (r, u')) : Eg MX9_ones 0 0 0 (some (.int r), u') 4 [(0, .int x0), (1, .int x1), (2, .int x2)] [] u := by
  unfold bX9_ones_4 at h
  refine E_iload_n dX9_ones_4 rfl rfl ?_
  refine E_bipush (v := 8) dX9_ones_5 (by decide) ?_
  refine E_ic_ge (tgt := 24) h dX9_ones_7 (by decide) (fun h => ?_) (fun h => ?_)
  · refine E_iload_n dX9_ones_24 rfl rfl ?_
    exact E_iret h dX9_ones_25 rfl
  · refine E_iload_n dX9_ones_10 rfl rfl ?_
    refine E_iload_n dX9_ones_11 rfl rfl ?_
    refine E_iload_n dX9_ones_12 rfl rfl ?_
    refine E_ishr dX9_ones_13 ?_
    refine E_iconst (v := 1) dX9_ones_14 (by decide) ?_
    refine E_iand dX9_ones_15 ?_
    refine E_iadd dX9_ones_16 ?_
    refine E_oI h (fun v1 h => ?_)
    refine E_istore_n (l' := [(1, .int v1), (0, .int x0), (2, .int x2)]) dX9_ones_17 rfl (Nat.le_of_ble_eq_true rfl) rfl ?_
    refine E_iinc (j := 2) (v := x2 + 1) (l' := [(2, .int (x2 + 1)), (1, .int v1), (0, .int x0)]) dX9_ones_18 rfl (addI (by decide)) (Nat.le_of_ble_eq_true rfl) rfl ?_
    refine E_goto (tgt := 4) dX9_ones_21 (by decide) ?_
    refine Eg.pick [2, 1, 0] rfl ?_
    exact hk4 _ _ _ _ h
def rX9_ones_4 : Nat → Mm → Int32 → Int32 → Int32 → Option (Int32 × Mm)
  | 0, _, _, _, _ => none
  | n + 1, u, x0, x1, x2 => bX9_ones_4 (rX9_ones_4 n) u x0 x1 x2
theorem prX9_ones_4 {r : Int32} {u' : Mm} : ∀ (n : Nat) (u : Mm) (x0 : Int32) (x1 : Int32) (x2 : Int32), rX9_ones_4 n u x0 x1 x2 = some (r, u') → Eg MX9_ones 0 0 0 (some (.int r), u') 4 [(0, .int x0), (1, .int x1), (2, .int x2)] [] u
  | 0, _, _, _, _, h => by cases h
  | n + 1, u, x0, x1, x2, h => pX9_ones_4 (prX9_ones_4 n) u x0 x1 x2 h
def fX9_ones (u : Mm) (x0 : Int32) : Option (Int32 × Mm) := rX9_ones_4 hwF u x0 0 0
set_option maxRecDepth 100000 in
set_option maxHeartbeats 4000000 in
theorem tX9_ones {u : Mm} {x0 : Int32} {r : Int32} {u' : Mm} (h : fX9_ones u x0 = some (r, u')) : Ev 0 MX9_ones 0 0 [.int x0] u (some (.int r), u') := by
  refine Ev.of (by decide +kernel) (Nat.le_of_ble_eq_true rfl) (show Eg MX9_ones 0 0 0 (some (.int r), u') 0 [(0, .int x0)] [] u from ?_)
  unfold fX9_ones at h
  refine E_iconst (v := 0) dX9_ones_0 (by decide) ?_
  refine E_istore_n (l' := [(1, .int 0), (0, .int x0)]) dX9_ones_1 rfl (Nat.le_of_ble_eq_true rfl) rfl ?_
  refine E_iconst (v := 0) dX9_ones_2 (by decide) ?_
  refine E_istore_n (l' := [(2, .int 0), (1, .int 0), (0, .int x0)]) dX9_ones_3 rfl (Nat.le_of_ble_eq_true rfl) rfl ?_
  refine Eg.pick [2, 1, 0] rfl ?_
  exact prX9_ones_4 _ _ _ _ _ h
def bX9_sizeOf_10 (u : Mm) (s0 : Int32) : Option (Int32 × Mm) := some (s0, u)
set_option maxRecDepth 100000 in
set_option maxHeartbeats 4000000 in
theorem pX9_sizeOf_10 {r : Int32} {u' : Mm} (u : Mm) (s0 : Int32) (h : bX9_sizeOf_10 u s0 = some (r, u')) : Eg MX9_sizeOf 0 0 0 (some (.int r), u') 10 [] [.int s0] u := by
  unfold bX9_sizeOf_10 at h
  exact E_iret h dX9_sizeOf_10 rfl
def fX9_sizeOf (u : Mm) (x0 : Int32) : Option (Int32 × Mm) := (if 0 ≤ (x0 : Int32) then bX9_sizeOf_10 u x0 else bX9_sizeOf_10 u (-x0))
set_option maxRecDepth 100000 in
set_option maxHeartbeats 4000000 in
theorem tX9_sizeOf {u : Mm} {x0 : Int32} {r : Int32} {u' : Mm} (h : fX9_sizeOf u x0 = some (r, u')) : Ev 0 MX9_sizeOf 0 0 [.int x0] u (some (.int r), u') := by
  refine Ev.of (by decide +kernel) (Nat.le_of_ble_eq_true rfl) (show Eg MX9_sizeOf 0 0 0 (some (.int r), u') 0 [(0, .int x0)] [] u from ?_)
  unfold fX9_sizeOf at h
  refine E_iload_n dX9_sizeOf_0 rfl rfl ?_
  refine E_if_ge (tgt := 9) h dX9_sizeOf_1 (by decide) (fun h => ?_) (fun h => ?_)
  · refine E_iload_n dX9_sizeOf_9 rfl rfl ?_
    refine Eg.pick [] rfl ?_
    exact pX9_sizeOf_10 _ _ h
  · refine E_iload_n dX9_sizeOf_4 rfl rfl ?_
    refine E_ineg dX9_sizeOf_5 ?_
    refine E_goto (tgt := 10) dX9_sizeOf_6 (by decide) ?_
    refine Eg.pick [] rfl ?_
    exact pX9_sizeOf_10 _ _ h
def bX9_within_24 (u : Mm) (s0 : Int32) : Option (Int32 × Mm) := some (s0, u)
set_option maxRecDepth 100000 in
set_option maxHeartbeats 4000000 in
theorem pX9_within_24 {r : Int32} {u' : Mm} (u : Mm) (s0 : Int32) (h : bX9_within_24 u s0 = some (r, u')) : Eg MX9_within 0 0 0 (some (.int r), u') 24 [] [.int s0] u := by
  unfold bX9_within_24 at h
  exact E_iret h dX9_within_24 rfl
def fX9_within (u : Mm) (y0 : Int64) (x2 : Int32) (x3 : Int32) : Option (Int32 × Mm) := (if 0 ≤ (lg_cmp y0 (Int32.toInt64 x2) : Int32) then (if (lg_cmp y0 (Int32.toInt64 x3) : Int32) ≤ 0 then bX9_within_24 u (Int64.toInt32 y0) else bX9_within_24 u x3) else bX9_within_24 u x2)
set_option maxRecDepth 100000 in
set_option maxHeartbeats 4000000 in
theorem tX9_within {u : Mm} {y0 : Int64} {x2 : Int32} {x3 : Int32} {r : Int32} {u' : Mm} (h : fX9_within u y0 x2 x3 = some (r, u')) : Ev 0 MX9_within 0 0 [.long y0, .int x2, .int x3] u (some (.int r), u') := by
  refine Ev.of (by decide +kernel) (Nat.le_of_ble_eq_true rfl) (show Eg MX9_within 0 0 0 (some (.int r), u') 0 [(0, .long y0), (2, .int x2), (3, .int x3)] [] u from ?_)
  unfold fX9_within at h
  refine E_lload_n dX9_within_0 rfl rfl ?_
  refine E_iload_n dX9_within_1 rfl rfl ?_
  refine E_i2l dX9_within_2 ?_
  refine E_lcmp dX9_within_3 ?_
  refine E_if_ge (tgt := 11) h dX9_within_4 (by decide) (fun h => ?_) (fun h => ?_)
  · refine E_lload_n dX9_within_11 rfl rfl ?_
    refine E_iload_n dX9_within_12 rfl rfl ?_
    refine E_i2l dX9_within_13 ?_
    refine E_lcmp dX9_within_14 ?_
    refine E_if_le (tgt := 22) h dX9_within_15 (by decide) (fun h => ?_) (fun h => ?_)
    · refine E_lload_n dX9_within_22 rfl rfl ?_
      refine E_l2i dX9_within_23 ?_
      refine Eg.pick [] rfl ?_
      exact pX9_within_24 _ _ h
    · refine E_iload_n dX9_within_18 rfl rfl ?_
      refine E_goto (tgt := 24) dX9_within_19 (by decide) ?_
      refine Eg.pick [] rfl ?_
      exact pX9_within_24 _ _ h
  · refine E_iload_n dX9_within_7 rfl rfl ?_
    refine E_goto (tgt := 24) dX9_within_8 (by decide) ?_
    refine Eg.pick [] rfl ?_
    exact pX9_within_24 _ _ h
def bX9_answer_10 (u : Mm) (a0 : Nat) (x1 : Int32) (s0 : Int32) (s1 : Nat) : Option (Int32 × Mm) := oK u s1 9 54 (oU (wI u s1 (upd (mI u s1) 1 s0)) (fun u1 => (if 0 ≤ (x1 : Int32) then some (x1, u1) else oK u1 a0 9 54 (oNn (mR u1 a0 2) (fun e2 => oI (-x1) (fun v3 => oA u1 e2 10 v3 (oI (mI u1 e2 (Int32.toNatClampNeg v3)) (fun v4 => oA u1 e2 10 v3 (oU (wI u1 e2 (upd (mI u1 e2) (Int32.toNatClampNeg v3) (v4 + 1))) (fun u5 => some (x1, u5)))))))))))
set_option maxRecDepth 100000 in
set_option maxHeartbeats 4000000 in
theorem pX9_answer_10 {r : Int32} {u' : Mm} (u : Mm) (a0 : Nat) (x1 : Int32) (s0 : Int32) (s1 : Nat) (h : bX9_answer_10 u a0 x1 s0 s1 = some (r, u')) : Eg MX9_answer 0 0 0 (some (.int r), u') 10 [(0, .ref a0), (1, .int x1)] [.int s0, .ref s1] u := by
  unfold bX9_answer_10 at h
  refine E_putI h dX9_answer_10 cf9 lk_X9_137 (by decide) (Or.inl rfl) rfl (fun h => ?_)
  refine E_oU h (fun u1 h => ?_)
  refine E_iload_n dX9_answer_13 rfl rfl ?_
  refine E_if_ge (tgt := 28) h dX9_answer_14 (by decide) (fun h => ?_) (fun h => ?_)
  · refine E_iload_n dX9_answer_28 rfl rfl ?_
    exact E_iret h dX9_answer_29 rfl
  · refine E_aload_n dX9_answer_17 rfl rfl ?_
    refine E_getA h dX9_answer_18 cf9 lk_X9_7 (by decide) (fun _ _ _ => rfl) (fun e2 h => ?_)
    refine E_iload_n dX9_answer_21 rfl rfl ?_
    refine E_ineg dX9_answer_22 ?_
    refine E_oI h (fun v3 h => ?_)
    refine E_dup2 dX9_answer_23 rfl rfl ?_
    refine E_iald h dX9_answer_24 (fun h => ?_)
    refine E_oI h (fun v4 h => ?_)
    refine E_iconst (v := 1) dX9_answer_25 (by decide) ?_
    refine E_iadd dX9_answer_26 ?_
    refine E_iast h dX9_answer_27 (fun h => ?_)
    refine E_oU h (fun u5 h => ?_)
    refine E_iload_n dX9_answer_28 rfl rfl ?_
    exact E_iret h dX9_answer_29 rfl
def fX9_answer (u : Mm) (a0 : Nat) (x1 : Int32) : Option (Int32 × Mm) := (if 0 ≤ (x1 : Int32) then bX9_answer_10 u a0 x1 0 a0 else bX9_answer_10 u a0 x1 x1 a0)
set_option maxRecDepth 100000 in
set_option maxHeartbeats 4000000 in
theorem tX9_answer {u : Mm} {a0 : Nat} {x1 : Int32} {r : Int32} {u' : Mm} (h : fX9_answer u a0 x1 = some (r, u')) : Ev 0 MX9_answer 0 0 [.ref a0, .int x1] u (some (.int r), u') := by
  refine Ev.of (by decide +kernel) (Nat.le_of_ble_eq_true rfl) (show Eg MX9_answer 0 0 0 (some (.int r), u') 0 [(0, .ref a0), (1, .int x1)] [] u from ?_)
  unfold fX9_answer at h
  refine E_aload_n dX9_answer_0 rfl rfl ?_
  refine E_iload_n dX9_answer_1 rfl rfl ?_
  refine E_if_ge (tgt := 9) h dX9_answer_2 (by decide) (fun h => ?_) (fun h => ?_)
  · refine E_iconst (v := 0) dX9_answer_9 (by decide) ?_
    refine Eg.pick [0, 1] rfl ?_
    exact pX9_answer_10 _ _ _ _ _ h
  · refine E_iload_n dX9_answer_5 rfl rfl ?_
    refine E_goto (tgt := 10) dX9_answer_6 (by decide) ?_
    refine Eg.pick [0, 1] rfl ?_
    exact pX9_answer_10 _ _ _ _ _ h
def fX9_change (u : Mm) (a0 : Nat) (x1 : Int32) (x2 : Int32) : Option (Int32 × Mm) := oK u a0 9 54 (oNn (mR u a0 3) (fun e1 => oA u e1 10 x1 (oI (mI u e1 (Int32.toNatClampNeg x1)) (fun v2 => oK u a0 9 54 (oNn (mR u a0 3) (fun e3 => oA u e3 10 x1 (oU (wI u e3 (upd (mI u e3) (Int32.toNatClampNeg x1) x2)) (fun u4 => oK u4 a0 9 54 (oU (wI u4 a0 (upd (mI u4 a0) 1 0)) (fun u5 => some (v2, u5)))))))))))
set_option maxRecDepth 100000 in
set_option maxHeartbeats 4000000 in
theorem tX9_change {u : Mm} {a0 : Nat} {x1 : Int32} {x2 : Int32} {r : Int32} {u' : Mm} (h : fX9_change u a0 x1 x2 = some (r, u')) : Ev 0 MX9_change 0 0 [.ref a0, .int x1, .int x2] u (some (.int r), u') := by
  refine Ev.of (by decide +kernel) (Nat.le_of_ble_eq_true rfl) (show Eg MX9_change 0 0 0 (some (.int r), u') 0 [(0, .ref a0), (1, .int x1), (2, .int x2)] [] u from ?_)
  unfold fX9_change at h
  refine E_aload_n dX9_change_0 rfl rfl ?_
  refine E_getA h dX9_change_1 cf9 lk_X9_13 (by decide) (fun _ _ _ => rfl) (fun e1 h => ?_)
  refine E_iload_n dX9_change_4 rfl rfl ?_
  refine E_iald h dX9_change_5 (fun h => ?_)
  refine E_oI h (fun v2 h => ?_)
  refine E_istore_n (l' := [(3, .int v2), (0, .ref a0), (1, .int x1), (2, .int x2)]) dX9_change_6 rfl (Nat.le_of_ble_eq_true rfl) rfl ?_
  refine E_aload_n dX9_change_7 rfl rfl ?_
  refine E_getA h dX9_change_8 cf9 lk_X9_13 (by decide) (fun _ _ _ => rfl) (fun e3 h => ?_)
  refine E_iload_n dX9_change_11 rfl rfl ?_
  refine E_iload_n dX9_change_12 rfl rfl ?_
  refine E_iast h dX9_change_13 (fun h => ?_)
  refine E_oU h (fun u4 h => ?_)
  refine E_aload_n dX9_change_14 rfl rfl ?_
  refine E_iconst (v := 0) dX9_change_15 (by decide) ?_
  refine E_putI h dX9_change_16 cf9 lk_X9_137 (by decide) (Or.inl rfl) rfl (fun h => ?_)
  refine E_oU h (fun u5 h => ?_)
  refine E_iload_n dX9_change_19 rfl rfl ?_
  exact E_iret h dX9_change_20 rfl
def bX9_settled_13 (u : Mm) (a0 : Nat) (x1 : Int32) (s0 : Int32) (s1 : Nat) : Option (Int32 × Mm) := oK u s1 9 54 (oU (wI u s1 (upd (mI u s1) 8 s0)) (fun u1 => oR u1 a0 9 (oB (fX9_answer u1 a0 x1) (fun v2 u3 => some (v2, u3)))))
set_option maxRecDepth 100000 in
set_option maxHeartbeats 4000000 in
theorem pX9_settled_13 {r : Int32} {u' : Mm} (u : Mm) (a0 : Nat) (x1 : Int32) (s0 : Int32) (s1 : Nat) (h : bX9_settled_13 u a0 x1 s0 s1 = some (r, u')) : Eg MX9_settled 1 0 0 (some (.int r), u') 13 [(0, .ref a0), (1, .int x1)] [.int s0, .ref s1] u := by
  unfold bX9_settled_13 at h
  refine E_putI h dX9_settled_13 cf9 lk_X9_140 (by decide) (Or.inl rfl) rfl (fun h => ?_)
  refine E_oU h (fun u1 h => ?_)
  refine E_aload_n dX9_settled_16 rfl rfl ?_
  refine E_iload_n dX9_settled_17 rfl rfl ?_
  refine F_Vi h (fun a m e => tX9_answer e) dX9_settled_18 hm_X9_answer hv_X9_answer ln_X9_143 rfl rfl (Nat.le_of_ble_eq_true rfl) (Nat.le_of_ble_eq_true rfl) (kc' := 0) (ks' := 0) rfl rfl (fun v2 u3 h => ?_)
  exact E_iret h dX9_settled_21 rfl
def fX9_settled (u : Mm) (a0 : Nat) (x1 : Int32) : Option (Int32 × Mm) := (if 0 ≤ (x1 : Int32) then bX9_settled_13 u a0 x1 0 a0 else oK u a0 9 54 (oI (mI u a0 8) (fun v4 => bX9_settled_13 u a0 x1 v4 a0)))
set_option maxRecDepth 100000 in
set_option maxHeartbeats 4000000 in
theorem tX9_settled {u : Mm} {a0 : Nat} {x1 : Int32} {r : Int32} {u' : Mm} (h : fX9_settled u a0 x1 = some (r, u')) : Ev 1 MX9_settled 0 0 [.ref a0, .int x1] u (some (.int r), u') := by
  refine Ev.of (by decide +kernel) (Nat.le_of_ble_eq_true rfl) (show Eg MX9_settled 1 0 0 (some (.int r), u') 0 [(0, .ref a0), (1, .int x1)] [] u from ?_)
  unfold fX9_settled at h
  refine E_aload_n dX9_settled_0 rfl rfl ?_
  refine E_iload_n dX9_settled_1 rfl rfl ?_
  refine E_if_ge (tgt := 12) h dX9_settled_2 (by decide) (fun h => ?_) (fun h => ?_)
  · refine E_iconst (v := 0) dX9_settled_12 (by decide) ?_
    refine Eg.pick [0, 1] rfl ?_
    exact pX9_settled_13 _ _ _ _ _ h
  · refine E_aload_n dX9_settled_5 rfl rfl ?_
    refine E_getI h dX9_settled_6 cf9 lk_X9_140 (by decide) (fun _ _ _ => rfl) (fun h => ?_)
    refine E_oI h (fun v4 h => ?_)
    refine E_goto (tgt := 13) dX9_settled_9 (by decide) ?_
    refine Eg.pick [0, 1] rfl ?_
    exact pX9_settled_13 _ _ _ _ _ h
def bX9_keepAll_2 (k2 : Mm → Nat → Int32 → Int32 → Option (Unit × Mm)) (u : Mm) (a0 : Nat) (x1 : Int32) (x2 : Int32) : Option (Unit × Mm) := (if (31 : Int32) ≤ x2 then some ((), u) else oK u a0 9 54 (oNn (mR u a0 6) (fun e1 => oK u a0 9 54 (oNn (mR u a0 3) (fun e2 => oA u e2 10 ((4 : Int32) + x2) (oI (mI u e2 (Int32.toNatClampNeg ((4 : Int32) + x2))) (fun v3 => oA u e1 10 (((31 : Int32) * x1) + x2) (oU (wI u e1 (upd (mI u e1) (Int32.toNatClampNeg (((31 : Int32) * x1) + x2)) v3)) (fun u4 => k2 u4 a0 x1 (x2 + 1))))))))))
set_option maxRecDepth 100000 in
set_option maxHeartbeats 4000000 in
theorem pX9_keepAll_2 {r : Unit} {u' : Mm} {k2 : Mm → Nat → Int32 → Int32 → Option (Unit × Mm)} (hk2 : ∀ (u : Mm) (a0 : Nat) (x1 : Int32) (x2 : Int32), k2 u a0 x1 x2 = some (r, u') → Eg MX9_keepAll 0 0 0 (none, u') 2 [(0, .ref a0), (1, .int x1), (2, .int x2)] [] u) (u : Mm) (a0 : Nat) (x1 : Int32) (x2 : Int32) (h : bX9_keepAll_2 k2 u a0 x1 x2 = some (r, u')) : Eg MX9_keepAll 0 0 0 (none, u') 2 [(0, .ref a0), (1, .int x1), (2, .int x2)] [] u := by
  unfold bX9_keepAll_2 at h
  refine E_iload_n dX9_keepAll_2 rfl rfl ?_
  refine E_bipush (v := 31) dX9_keepAll_3 (by decide) ?_
  refine E_ic_ge (tgt := 33) h dX9_keepAll_5 (by decide) (fun h => ?_) (fun h => ?_)
  · exact E_vret h dX9_keepAll_33 rfl
  · refine E_aload_n dX9_keepAll_8 rfl rfl ?_
    refine E_getA h dX9_keepAll_9 cf9 lk_X9_23 (by decide) (fun _ _ _ => rfl) (fun e1 h => ?_)
    refine E_bipush (v := 31) dX9_keepAll_12 (by decide) ?_
    refine E_iload_n dX9_keepAll_14 rfl rfl ?_
    refine E_imul dX9_keepAll_15 ?_
    refine E_iload_n dX9_keepAll_16 rfl rfl ?_
    refine E_iadd dX9_keepAll_17 ?_
    refine E_aload_n dX9_keepAll_18 rfl rfl ?_
    refine E_getA h dX9_keepAll_19 cf9 lk_X9_13 (by decide) (fun _ _ _ => rfl) (fun e2 h => ?_)
    refine E_iconst (v := 4) dX9_keepAll_22 (by decide) ?_
    refine E_iload_n dX9_keepAll_23 rfl rfl ?_
    refine E_iadd dX9_keepAll_24 ?_
    refine E_iald h dX9_keepAll_25 (fun h => ?_)
    refine E_oI h (fun v3 h => ?_)
    refine E_iast h dX9_keepAll_26 (fun h => ?_)
    refine E_oU h (fun u4 h => ?_)
    refine E_iinc (j := 2) (v := x2 + 1) (l' := [(2, .int (x2 + 1)), (0, .ref a0), (1, .int x1)]) dX9_keepAll_27 rfl (addI (by decide)) (Nat.le_of_ble_eq_true rfl) rfl ?_
    refine E_goto (tgt := 2) dX9_keepAll_30 (by decide) ?_
    refine Eg.pick [1, 2, 0] rfl ?_
    exact hk2 _ _ _ _ h
def rX9_keepAll_2 : Nat → Mm → Nat → Int32 → Int32 → Option (Unit × Mm)
  | 0, _, _, _, _ => none
  | n + 1, u, a0, x1, x2 => bX9_keepAll_2 (rX9_keepAll_2 n) u a0 x1 x2
theorem prX9_keepAll_2 {r : Unit} {u' : Mm} : ∀ (n : Nat) (u : Mm) (a0 : Nat) (x1 : Int32) (x2 : Int32), rX9_keepAll_2 n u a0 x1 x2 = some (r, u') → Eg MX9_keepAll 0 0 0 (none, u') 2 [(0, .ref a0), (1, .int x1), (2, .int x2)] [] u
  | 0, _, _, _, _, h => by cases h
  | n + 1, u, a0, x1, x2, h => pX9_keepAll_2 (prX9_keepAll_2 n) u a0 x1 x2 h
def fX9_keepAll (u : Mm) (a0 : Nat) (x1 : Int32) : Option (Unit × Mm) := rX9_keepAll_2 hwF u a0 x1 0
set_option maxRecDepth 100000 in
set_option maxHeartbeats 4000000 in
theorem tX9_keepAll {u : Mm} {a0 : Nat} {x1 : Int32} {r : Unit} {u' : Mm} (h : fX9_keepAll u a0 x1 = some (r, u')) : Ev 0 MX9_keepAll 0 0 [.ref a0, .int x1] u (none, u') := by
  refine Ev.of (by decide +kernel) (Nat.le_of_ble_eq_true rfl) (show Eg MX9_keepAll 0 0 0 (none, u') 0 [(0, .ref a0), (1, .int x1)] [] u from ?_)
  unfold fX9_keepAll at h
  refine E_iconst (v := 0) dX9_keepAll_0 (by decide) ?_
  refine E_istore_n (l' := [(2, .int 0), (0, .ref a0), (1, .int x1)]) dX9_keepAll_1 rfl (Nat.le_of_ble_eq_true rfl) rfl ?_
  refine Eg.pick [1, 2, 0] rfl ?_
  exact prX9_keepAll_2 _ _ _ _ _ h
def bX9_putBack_2 (k2 : Mm → Nat → Int32 → Int32 → Option (Unit × Mm)) (u : Mm) (a0 : Nat) (x1 : Int32) (x2 : Int32) : Option (Unit × Mm) := (if (31 : Int32) ≤ x2 then some ((), u) else oK u a0 9 54 (oNn (mR u a0 3) (fun e1 => oK u a0 9 54 (oNn (mR u a0 6) (fun e2 => oA u e2 10 (((31 : Int32) * x1) + x2) (oI (mI u e2 (Int32.toNatClampNeg (((31 : Int32) * x1) + x2))) (fun v3 => oA u e1 10 ((4 : Int32) + x2) (oU (wI u e1 (upd (mI u e1) (Int32.toNatClampNeg ((4 : Int32) + x2)) v3)) (fun u4 => k2 u4 a0 x1 (x2 + 1))))))))))
set_option maxRecDepth 100000 in
set_option maxHeartbeats 4000000 in
theorem pX9_putBack_2 {r : Unit} {u' : Mm} {k2 : Mm → Nat → Int32 → Int32 → Option (Unit × Mm)} (hk2 : ∀ (u : Mm) (a0 : Nat) (x1 : Int32) (x2 : Int32), k2 u a0 x1 x2 = some (r, u') → Eg MX9_putBack 0 0 0 (none, u') 2 [(0, .ref a0), (1, .int x1), (2, .int x2)] [] u) (u : Mm) (a0 : Nat) (x1 : Int32) (x2 : Int32) (h : bX9_putBack_2 k2 u a0 x1 x2 = some (r, u')) : Eg MX9_putBack 0 0 0 (none, u') 2 [(0, .ref a0), (1, .int x1), (2, .int x2)] [] u := by
  unfold bX9_putBack_2 at h
  refine E_iload_n dX9_putBack_2 rfl rfl ?_
  refine E_bipush (v := 31) dX9_putBack_3 (by decide) ?_
  refine E_ic_ge (tgt := 33) h dX9_putBack_5 (by decide) (fun h => ?_) (fun h => ?_)
  · exact E_vret h dX9_putBack_33 rfl
  · refine E_aload_n dX9_putBack_8 rfl rfl ?_
    refine E_getA h dX9_putBack_9 cf9 lk_X9_13 (by decide) (fun _ _ _ => rfl) (fun e1 h => ?_)
    refine E_iconst (v := 4) dX9_putBack_12 (by decide) ?_
    refine E_iload_n dX9_putBack_13 rfl rfl ?_
    refine E_iadd dX9_putBack_14 ?_
    refine E_aload_n dX9_putBack_15 rfl rfl ?_
    refine E_getA h dX9_putBack_16 cf9 lk_X9_23 (by decide) (fun _ _ _ => rfl) (fun e2 h => ?_)
    refine E_bipush (v := 31) dX9_putBack_19 (by decide) ?_
    refine E_iload_n dX9_putBack_21 rfl rfl ?_
    refine E_imul dX9_putBack_22 ?_
    refine E_iload_n dX9_putBack_23 rfl rfl ?_
    refine E_iadd dX9_putBack_24 ?_
    refine E_iald h dX9_putBack_25 (fun h => ?_)
    refine E_oI h (fun v3 h => ?_)
    refine E_iast h dX9_putBack_26 (fun h => ?_)
    refine E_oU h (fun u4 h => ?_)
    refine E_iinc (j := 2) (v := x2 + 1) (l' := [(2, .int (x2 + 1)), (0, .ref a0), (1, .int x1)]) dX9_putBack_27 rfl (addI (by decide)) (Nat.le_of_ble_eq_true rfl) rfl ?_
    refine E_goto (tgt := 2) dX9_putBack_30 (by decide) ?_
    refine Eg.pick [1, 2, 0] rfl ?_
    exact hk2 _ _ _ _ h
def rX9_putBack_2 : Nat → Mm → Nat → Int32 → Int32 → Option (Unit × Mm)
  | 0, _, _, _, _ => none
  | n + 1, u, a0, x1, x2 => bX9_putBack_2 (rX9_putBack_2 n) u a0 x1 x2
theorem prX9_putBack_2 {r : Unit} {u' : Mm} : ∀ (n : Nat) (u : Mm) (a0 : Nat) (x1 : Int32) (x2 : Int32), rX9_putBack_2 n u a0 x1 x2 = some (r, u') → Eg MX9_putBack 0 0 0 (none, u') 2 [(0, .ref a0), (1, .int x1), (2, .int x2)] [] u
  | 0, _, _, _, _, h => by cases h
  | n + 1, u, a0, x1, x2, h => pX9_putBack_2 (prX9_putBack_2 n) u a0 x1 x2 h
def fX9_putBack (u : Mm) (a0 : Nat) (x1 : Int32) : Option (Unit × Mm) := rX9_putBack_2 hwF u a0 x1 0
set_option maxRecDepth 100000 in
set_option maxHeartbeats 4000000 in
theorem tX9_putBack {u : Mm} {a0 : Nat} {x1 : Int32} {r : Unit} {u' : Mm} (h : fX9_putBack u a0 x1 = some (r, u')) : Ev 0 MX9_putBack 0 0 [.ref a0, .int x1] u (none, u') := by
  refine Ev.of (by decide +kernel) (Nat.le_of_ble_eq_true rfl) (show Eg MX9_putBack 0 0 0 (none, u') 0 [(0, .ref a0), (1, .int x1)] [] u from ?_)
  unfold fX9_putBack at h
  refine E_iconst (v := 0) dX9_putBack_0 (by decide) ?_
  refine E_istore_n (l' := [(2, .int 0), (0, .ref a0), (1, .int x1)]) dX9_putBack_1 rfl (Nat.le_of_ble_eq_true rfl) rfl ?_
  refine Eg.pick [1, 2, 0] rfl ?_
  exact prX9_putBack_2 _ _ _ _ _ h
def bX9_remember_77 (u : Mm) (a0 : Nat) (x1 : Int32) : Option (Unit × Mm) := oK u a0 9 54 (oI (mI u a0 8) (fun v2 => oR u a0 9 (oB (fX9_keepAll u a0 v2) (fun _ u3 => oK u3 a0 9 54 (oNn (mR u3 a0 7) (fun e4 => oK u3 a0 9 54 (oI (mI u3 a0 8) (fun v5 => oA u3 e4 10 v5 (oU (wI u3 e4 (upd (mI u3 e4) (Int32.toNatClampNeg v5) x1)) (fun u6 => oK u6 a0 9 54 (oI (mI u6 a0 8) (fun v7 => oK u6 a0 9 54 (oU (wI u6 a0 (upd (mI u6 a0) 8 (v7 + 1))) (fun u8 => some ((), u8)))))))))))))))
set_option maxRecDepth 100000 in
set_option maxHeartbeats 4000000 in
theorem pX9_remember_77 {r : Unit} {u' : Mm} (u : Mm) (a0 : Nat) (x1 : Int32) (h : bX9_remember_77 u a0 x1 = some (r, u')) : Eg MX9_remember 1 0 0 (none, u') 77 [(0, .ref a0), (1, .int x1)] [] u := by
  unfold bX9_remember_77 at h
  refine E_aload_n dX9_remember_77 rfl rfl ?_
  refine E_aload_n dX9_remember_78 rfl rfl ?_
  refine E_getI h dX9_remember_79 cf9 lk_X9_140 (by decide) (fun _ _ _ => rfl) (fun h => ?_)
  refine E_oI h (fun v2 h => ?_)
  refine F_Vv h (fun m e => tX9_keepAll e) dX9_remember_82 hm_X9_keepAll hv_X9_keepAll ln_X9_147 rfl rfl (Nat.le_of_ble_eq_true rfl) (Nat.le_of_ble_eq_true rfl) (kc' := 0) (ks' := 0) rfl rfl (fun u3 h => ?_)
  refine E_aload_n dX9_remember_85 rfl rfl ?_
  refine E_getA h dX9_remember_86 cf9 lk_X9_26 (by decide) (fun _ _ _ => rfl) (fun e4 h => ?_)
  refine E_aload_n dX9_remember_89 rfl rfl ?_
  refine E_getI h dX9_remember_90 cf9 lk_X9_140 (by decide) (fun _ _ _ => rfl) (fun h => ?_)
  refine E_oI h (fun v5 h => ?_)
  refine E_iload_n dX9_remember_93 rfl rfl ?_
  refine E_iast h dX9_remember_94 (fun h => ?_)
  refine E_oU h (fun u6 h => ?_)
  refine E_aload_n dX9_remember_95 rfl rfl ?_
  refine E_dup dX9_remember_96 rfl ?_
  refine E_getI h dX9_remember_97 cf9 lk_X9_140 (by decide) (fun _ _ _ => rfl) (fun h => ?_)
  refine E_oI h (fun v7 h => ?_)
  refine E_iconst (v := 1) dX9_remember_100 (by decide) ?_
  refine E_iadd dX9_remember_101 ?_
  refine E_putI h dX9_remember_102 cf9 lk_X9_140 (by decide) (Or.inl rfl) rfl (fun h => ?_)
  refine E_oU h (fun u8 h => ?_)
  exact E_vret h dX9_remember_105 rfl
def bX9_remember_41 (k41 : Mm → Nat → Int32 → Int32 → Option (Unit × Mm)) (u : Mm) (a0 : Nat) (x1 : Int32) (x2 : Int32) : Option (Unit × Mm) := (if (15 : Int32) ≤ x2 then oK u a0 9 54 (oI (mI u a0 8) (fun v9 => oK u a0 9 54 (oU (wI u a0 (upd (mI u a0) 8 (v9 - 1))) (fun u10 => bX9_remember_77 u10 a0 x1)))) else oK u a0 9 54 (oNn (mR u a0 7) (fun e11 => oK u a0 9 54 (oNn (mR u a0 7) (fun e12 => oA u e12 10 (x2 + 1) (oI (mI u e12 (Int32.toNatClampNeg (x2 + 1))) (fun v13 => oA u e11 10 x2 (oU (wI u e11 (upd (mI u e11) (Int32.toNatClampNeg x2) v13)) (fun u14 => k41 u14 a0 x1 (x2 + 1))))))))))
set_option maxRecDepth 100000 in
set_option maxHeartbeats 4000000 in
theorem pX9_remember_41 {r : Unit} {u' : Mm} {k41 : Mm → Nat → Int32 → Int32 → Option (Unit × Mm)} (hk41 : ∀ (u : Mm) (a0 : Nat) (x1 : Int32) (x2 : Int32), k41 u a0 x1 x2 = some (r, u') → Eg MX9_remember 1 0 0 (none, u') 41 [(0, .ref a0), (1, .int x1), (2, .int x2)] [] u) (u : Mm) (a0 : Nat) (x1 : Int32) (x2 : Int32) (h : bX9_remember_41 k41 u a0 x1 x2 = some (r, u')) : Eg MX9_remember 1 0 0 (none, u') 41 [(0, .ref a0), (1, .int x1), (2, .int x2)] [] u := by
  unfold bX9_remember_41 at h
  refine E_iload_n dX9_remember_41 rfl rfl ?_
  refine E_bipush (v := 15) dX9_remember_42 (by decide) ?_
  refine E_ic_ge (tgt := 67) h dX9_remember_44 (by decide) (fun h => ?_) (fun h => ?_)
  · refine E_aload_n dX9_remember_67 rfl rfl ?_
    refine E_dup dX9_remember_68 rfl ?_
    refine E_getI h dX9_remember_69 cf9 lk_X9_140 (by decide) (fun _ _ _ => rfl) (fun h => ?_)
    refine E_oI h (fun v9 h => ?_)
    refine E_iconst (v := 1) dX9_remember_72 (by decide) ?_
    refine E_isub dX9_remember_73 ?_
    refine E_putI h dX9_remember_74 cf9 lk_X9_140 (by decide) (Or.inl rfl) rfl (fun h => ?_)
    refine E_oU h (fun u10 h => ?_)
    refine Eg.pick [0, 1] rfl ?_
    exact pX9_remember_77 _ _ _ h
  · refine E_aload_n dX9_remember_47 rfl rfl ?_
    refine E_getA h dX9_remember_48 cf9 lk_X9_26 (by decide) (fun _ _ _ => rfl) (fun e11 h => ?_)
    refine E_iload_n dX9_remember_51 rfl rfl ?_
    refine E_aload_n dX9_remember_52 rfl rfl ?_
    refine E_getA h dX9_remember_53 cf9 lk_X9_26 (by decide) (fun _ _ _ => rfl) (fun e12 h => ?_)
    refine E_iload_n dX9_remember_56 rfl rfl ?_
    refine E_iconst (v := 1) dX9_remember_57 (by decide) ?_
    refine E_iadd dX9_remember_58 ?_
    refine E_iald h dX9_remember_59 (fun h => ?_)
    refine E_oI h (fun v13 h => ?_)
    refine E_iast h dX9_remember_60 (fun h => ?_)
    refine E_oU h (fun u14 h => ?_)
    refine E_iinc (j := 2) (v := x2 + 1) (l' := [(2, .int (x2 + 1)), (0, .ref a0), (1, .int x1)]) dX9_remember_61 rfl (addI (by decide)) (Nat.le_of_ble_eq_true rfl) rfl ?_
    refine E_goto (tgt := 41) dX9_remember_64 (by decide) ?_
    refine Eg.pick [1, 2, 0] rfl ?_
    exact hk41 _ _ _ _ h
def rX9_remember_41 : Nat → Mm → Nat → Int32 → Int32 → Option (Unit × Mm)
  | 0, _, _, _, _ => none
  | n + 1, u, a0, x1, x2 => bX9_remember_41 (rX9_remember_41 n) u a0 x1 x2
theorem prX9_remember_41 {r : Unit} {u' : Mm} : ∀ (n : Nat) (u : Mm) (a0 : Nat) (x1 : Int32) (x2 : Int32), rX9_remember_41 n u a0 x1 x2 = some (r, u') → Eg MX9_remember 1 0 0 (none, u') 41 [(0, .ref a0), (1, .int x1), (2, .int x2)] [] u
  | 0, _, _, _, _, h => by cases h
  | n + 1, u, a0, x1, x2, h => pX9_remember_41 (prX9_remember_41 n) u a0 x1 x2 h
def bX9_remember_11 (k11 : Mm → Nat → Int32 → Int32 → Option (Unit × Mm)) (u : Mm) (a0 : Nat) (x1 : Int32) (x2 : Int32) : Option (Unit × Mm) := (if (465 : Int32) ≤ x2 then rX9_remember_41 hwF u a0 x1 0 else oK u a0 9 54 (oNn (mR u a0 6) (fun e15 => oK u a0 9 54 (oNn (mR u a0 6) (fun e16 => oA u e16 10 (x2 + 31) (oI (mI u e16 (Int32.toNatClampNeg (x2 + 31))) (fun v17 => oA u e15 10 x2 (oU (wI u e15 (upd (mI u e15) (Int32.toNatClampNeg x2) v17)) (fun u18 => k11 u18 a0 x1 (x2 + 1))))))))))
set_option maxRecDepth 100000 in
set_option maxHeartbeats 4000000 in
theorem pX9_remember_11 {r : Unit} {u' : Mm} {k11 : Mm → Nat → Int32 → Int32 → Option (Unit × Mm)} (hk11 : ∀ (u : Mm) (a0 : Nat) (x1 : Int32) (x2 : Int32), k11 u a0 x1 x2 = some (r, u') → Eg MX9_remember 1 0 0 (none, u') 11 [(0, .ref a0), (1, .int x1), (2, .int x2)] [] u) (u : Mm) (a0 : Nat) (x1 : Int32) (x2 : Int32) (h : bX9_remember_11 k11 u a0 x1 x2 = some (r, u')) : Eg MX9_remember 1 0 0 (none, u') 11 [(0, .ref a0), (1, .int x1), (2, .int x2)] [] u := by
  unfold bX9_remember_11 at h
  refine E_iload_n dX9_remember_11 rfl rfl ?_
  refine E_sipush (v := 465) dX9_remember_12 (by decide) ?_
  refine E_ic_ge (tgt := 39) h dX9_remember_15 (by decide) (fun h => ?_) (fun h => ?_)
  · refine E_iconst (v := 0) dX9_remember_39 (by decide) ?_
    refine E_istore_n (l' := [(2, .int 0), (0, .ref a0), (1, .int x1)]) dX9_remember_40 rfl (Nat.le_of_ble_eq_true rfl) rfl ?_
    refine Eg.pick [1, 2, 0] rfl ?_
    exact prX9_remember_41 _ _ _ _ _ h
  · refine E_aload_n dX9_remember_18 rfl rfl ?_
    refine E_getA h dX9_remember_19 cf9 lk_X9_23 (by decide) (fun _ _ _ => rfl) (fun e15 h => ?_)
    refine E_iload_n dX9_remember_22 rfl rfl ?_
    refine E_aload_n dX9_remember_23 rfl rfl ?_
    refine E_getA h dX9_remember_24 cf9 lk_X9_23 (by decide) (fun _ _ _ => rfl) (fun e16 h => ?_)
    refine E_iload_n dX9_remember_27 rfl rfl ?_
    refine E_bipush (v := 31) dX9_remember_28 (by decide) ?_
    refine E_iadd dX9_remember_30 ?_
    refine E_iald h dX9_remember_31 (fun h => ?_)
    refine E_oI h (fun v17 h => ?_)
    refine E_iast h dX9_remember_32 (fun h => ?_)
    refine E_oU h (fun u18 h => ?_)
    refine E_iinc (j := 2) (v := x2 + 1) (l' := [(2, .int (x2 + 1)), (0, .ref a0), (1, .int x1)]) dX9_remember_33 rfl (addI (by decide)) (Nat.le_of_ble_eq_true rfl) rfl ?_
    refine E_goto (tgt := 11) dX9_remember_36 (by decide) ?_
    refine Eg.pick [1, 2, 0] rfl ?_
    exact hk11 _ _ _ _ h
def rX9_remember_11 : Nat → Mm → Nat → Int32 → Int32 → Option (Unit × Mm)
  | 0, _, _, _, _ => none
  | n + 1, u, a0, x1, x2 => bX9_remember_11 (rX9_remember_11 n) u a0 x1 x2
theorem prX9_remember_11 {r : Unit} {u' : Mm} : ∀ (n : Nat) (u : Mm) (a0 : Nat) (x1 : Int32) (x2 : Int32), rX9_remember_11 n u a0 x1 x2 = some (r, u') → Eg MX9_remember 1 0 0 (none, u') 11 [(0, .ref a0), (1, .int x1), (2, .int x2)] [] u
  | 0, _, _, _, _, h => by cases h
  | n + 1, u, a0, x1, x2, h => pX9_remember_11 (prX9_remember_11 n) u a0 x1 x2 h
def fX9_remember (u : Mm) (a0 : Nat) (x1 : Int32) : Option (Unit × Mm) := oK u a0 9 54 (oI (mI u a0 8) (fun v1 => (if (v1 : Int32) = 16 then rX9_remember_11 hwF u a0 x1 0 else bX9_remember_77 u a0 x1)))
set_option maxRecDepth 100000 in
set_option maxHeartbeats 4000000 in
theorem tX9_remember {u : Mm} {a0 : Nat} {x1 : Int32} {r : Unit} {u' : Mm} (h : fX9_remember u a0 x1 = some (r, u')) : Ev 1 MX9_remember 0 0 [.ref a0, .int x1] u (none, u') := by
  refine Ev.of (by decide +kernel) (Nat.le_of_ble_eq_true rfl) (show Eg MX9_remember 1 0 0 (none, u') 0 [(0, .ref a0), (1, .int x1)] [] u from ?_)
  unfold fX9_remember at h
  refine E_aload_n dX9_remember_0 rfl rfl ?_
  refine E_getI h dX9_remember_1 cf9 lk_X9_140 (by decide) (fun _ _ _ => rfl) (fun h => ?_)
  refine E_oI h (fun v1 h => ?_)
  refine E_bipush (v := 16) dX9_remember_4 (by decide) ?_
  refine E_ic_ne (tgt := 77) h dX9_remember_6 (by decide) (fun h => ?_) (fun h => ?_)
  · refine Eg.pick [0, 1] rfl ?_
    exact pX9_remember_77 _ _ _ h
  · refine E_iconst (v := 0) dX9_remember_9 (by decide) ?_
    refine E_istore_n (l' := [(2, .int 0), (0, .ref a0), (1, .int x1)]) dX9_remember_10 rfl (Nat.le_of_ble_eq_true rfl) rfl ?_
    refine Eg.pick [1, 2, 0] rfl ?_
    exact prX9_remember_11 _ _ _ _ _ h
def fX9_undo (u : Mm) (a0 : Nat) : Option (Int32 × Mm) := oK u a0 9 54 (oU (wI u a0 (upd (mI u a0) 0 0)) (fun u1 => oK u1 a0 9 54 (oI (mI u1 a0 8) (fun v2 => (if (v2 : Int32) = 0 then oR u1 a0 9 (oB (fX9_answer u1 a0 ((-3))) (fun v12 u13 => some (v12, u13))) else oK u1 a0 9 54 (oI (mI u1 a0 8) (fun v3 => oK u1 a0 9 54 (oU (wI u1 a0 (upd (mI u1 a0) 8 (v3 - 1))) (fun u4 => oK u4 a0 9 54 (oI (mI u4 a0 8) (fun v5 => oR u4 a0 9 (oB (fX9_putBack u4 a0 v5) (fun _ u6 => oK u6 a0 9 54 (oNn (mR u6 a0 7) (fun e7 => oK u6 a0 9 54 (oI (mI u6 a0 8) (fun v8 => oA u6 e7 10 v8 (oI (mI u6 e7 (Int32.toNatClampNeg v8)) (fun v9 => oR u6 a0 9 (oB (fX9_answer u6 a0 v9) (fun v10 u11 => some (v10, u11))))))))))))))))))))))
set_option maxRecDepth 100000 in
set_option maxHeartbeats 4000000 in
theorem tX9_undo {u : Mm} {a0 : Nat} {r : Int32} {u' : Mm} (h : fX9_undo u a0 = some (r, u')) : Ev 1 MX9_undo 0 0 [.ref a0] u (some (.int r), u') := by
  refine Ev.of (by decide +kernel) (Nat.le_of_ble_eq_true rfl) (show Eg MX9_undo 1 0 0 (some (.int r), u') 0 [(0, .ref a0)] [] u from ?_)
  unfold fX9_undo at h
  refine E_aload_n dX9_undo_0 rfl rfl ?_
  refine E_iconst (v := 0) dX9_undo_1 (by decide) ?_
  refine E_putI h dX9_undo_2 cf9 lk_X9_134 (by decide) (Or.inl rfl) rfl (fun h => ?_)
  refine E_oU h (fun u1 h => ?_)
  refine E_aload_n dX9_undo_5 rfl rfl ?_
  refine E_getI h dX9_undo_6 cf9 lk_X9_140 (by decide) (fun _ _ _ => rfl) (fun h => ?_)
  refine E_oI h (fun v2 h => ?_)
  refine E_if_ne (tgt := 19) h dX9_undo_9 (by decide) (fun h => ?_) (fun h => ?_)
  · refine E_aload_n dX9_undo_19 rfl rfl ?_
    refine E_dup dX9_undo_20 rfl ?_
    refine E_getI h dX9_undo_21 cf9 lk_X9_140 (by decide) (fun _ _ _ => rfl) (fun h => ?_)
    refine E_oI h (fun v3 h => ?_)
    refine E_iconst (v := 1) dX9_undo_24 (by decide) ?_
    refine E_isub dX9_undo_25 ?_
    refine E_putI h dX9_undo_26 cf9 lk_X9_140 (by decide) (Or.inl rfl) rfl (fun h => ?_)
    refine E_oU h (fun u4 h => ?_)
    refine E_aload_n dX9_undo_29 rfl rfl ?_
    refine E_aload_n dX9_undo_30 rfl rfl ?_
    refine E_getI h dX9_undo_31 cf9 lk_X9_140 (by decide) (fun _ _ _ => rfl) (fun h => ?_)
    refine E_oI h (fun v5 h => ?_)
    refine F_Vv h (fun m e => tX9_putBack e) dX9_undo_34 hm_X9_putBack hv_X9_putBack ln_X9_151 rfl rfl (Nat.le_of_ble_eq_true rfl) (Nat.le_of_ble_eq_true rfl) (kc' := 0) (ks' := 0) rfl rfl (fun u6 h => ?_)
    refine E_aload_n dX9_undo_37 rfl rfl ?_
    refine E_aload_n dX9_undo_38 rfl rfl ?_
    refine E_getA h dX9_undo_39 cf9 lk_X9_26 (by decide) (fun _ _ _ => rfl) (fun e7 h => ?_)
    refine E_aload_n dX9_undo_42 rfl rfl ?_
    refine E_getI h dX9_undo_43 cf9 lk_X9_140 (by decide) (fun _ _ _ => rfl) (fun h => ?_)
    refine E_oI h (fun v8 h => ?_)
    refine E_iald h dX9_undo_46 (fun h => ?_)
    refine E_oI h (fun v9 h => ?_)
    refine F_Vi h (fun a m e => tX9_answer e) dX9_undo_47 hm_X9_answer hv_X9_answer ln_X9_143 rfl rfl (Nat.le_of_ble_eq_true rfl) (Nat.le_of_ble_eq_true rfl) (kc' := 0) (ks' := 0) rfl rfl (fun v10 u11 h => ?_)
    exact E_iret h dX9_undo_50 rfl
  · refine E_aload_n dX9_undo_12 rfl rfl ?_
    refine E_bipush (v := (-3)) dX9_undo_13 (by decide) ?_
    refine F_Vi h (fun a m e => tX9_answer e) dX9_undo_15 hm_X9_answer hv_X9_answer ln_X9_143 rfl rfl (Nat.le_of_ble_eq_true rfl) (Nat.le_of_ble_eq_true rfl) (kc' := 0) (ks' := 0) rfl rfl (fun v12 u13 h => ?_)
    exact E_iret h dX9_undo_18 rfl
def bX9_image_23 (k23 : Mm → Nat → Int32 → Int32 → Option (Int32 × Mm)) (u : Mm) (a0 : Nat) (x1 : Int32) (x2 : Int32) : Option (Int32 × Mm) := (if (5530 : Int32) ≤ x2 then oK u a0 9 54 (oNn (mR u a0 5) (fun e4 => oA u e4 12 x1 (oZ 1 (oU (wI u e4 (upd (mI u e4) (Int32.toNatClampNeg x1) 1)) (fun u5 => oR u5 a0 9 (oB (fX9_answer u5 a0 0) (fun v6 u7 => some (v6, u7)))))))) else oK u a0 9 54 (oNn (mR u a0 4) (fun e8 => oK u a0 9 54 (oNn (mR u a0 3) (fun e9 => oA u e9 10 x2 (oI (mI u e9 (Int32.toNatClampNeg x2)) (fun v10 => oA u e8 10 (((5530 : Int32) * x1) + x2) (oU (wI u e8 (upd (mI u e8) (Int32.toNatClampNeg (((5530 : Int32) * x1) + x2)) v10)) (fun u11 => k23 u11 a0 x1 (x2 + 1))))))))))
set_option maxRecDepth 100000 in
set_option maxHeartbeats 4000000 in
theorem pX9_image_23 {r : Int32} {u' : Mm} {k23 : Mm → Nat → Int32 → Int32 → Option (Int32 × Mm)} (hk23 : ∀ (u : Mm) (a0 : Nat) (x1 : Int32) (x2 : Int32), k23 u a0 x1 x2 = some (r, u') → Eg MX9_image 1 0 0 (some (.int r), u') 23 [(0, .ref a0), (1, .int x1), (2, .int x2)] [] u) (u : Mm) (a0 : Nat) (x1 : Int32) (x2 : Int32) (h : bX9_image_23 k23 u a0 x1 x2 = some (r, u')) : Eg MX9_image 1 0 0 (some (.int r), u') 23 [(0, .ref a0), (1, .int x1), (2, .int x2)] [] u := by
  unfold bX9_image_23 at h
  refine E_iload_n dX9_image_23 rfl rfl ?_
  refine E_sipush (v := 5530) dX9_image_24 (by decide) ?_
  refine E_ic_ge (tgt := 54) h dX9_image_27 (by decide) (fun h => ?_) (fun h => ?_)
  · refine E_aload_n dX9_image_54 rfl rfl ?_
    refine E_getA h dX9_image_55 cf9 lk_X9_19 (by decide) (fun _ _ _ => rfl) (fun e4 h => ?_)
    refine E_iload_n dX9_image_58 rfl rfl ?_
    refine E_iconst (v := 1) dX9_image_59 (by decide) ?_
    refine E_zast h dX9_image_60 (fun h => ?_)
    refine E_oU h (fun u5 h => ?_)
    refine E_aload_n dX9_image_61 rfl rfl ?_
    refine E_iconst (v := 0) dX9_image_62 (by decide) ?_
    refine F_Vi h (fun a m e => tX9_answer e) dX9_image_63 hm_X9_answer hv_X9_answer ln_X9_143 rfl rfl (Nat.le_of_ble_eq_true rfl) (Nat.le_of_ble_eq_true rfl) (kc' := 0) (ks' := 0) rfl rfl (fun v6 u7 h => ?_)
    exact E_iret h dX9_image_66 rfl
  · refine E_aload_n dX9_image_30 rfl rfl ?_
    refine E_getA h dX9_image_31 cf9 lk_X9_16 (by decide) (fun _ _ _ => rfl) (fun e8 h => ?_)
    refine E_sipush (v := 5530) dX9_image_34 (by decide) ?_
    refine E_iload_n dX9_image_37 rfl rfl ?_
    refine E_imul dX9_image_38 ?_
    refine E_iload_n dX9_image_39 rfl rfl ?_
    refine E_iadd dX9_image_40 ?_
    refine E_aload_n dX9_image_41 rfl rfl ?_
    refine E_getA h dX9_image_42 cf9 lk_X9_13 (by decide) (fun _ _ _ => rfl) (fun e9 h => ?_)
    refine E_iload_n dX9_image_45 rfl rfl ?_
    refine E_iald h dX9_image_46 (fun h => ?_)
    refine E_oI h (fun v10 h => ?_)
    refine E_iast h dX9_image_47 (fun h => ?_)
    refine E_oU h (fun u11 h => ?_)
    refine E_iinc (j := 2) (v := x2 + 1) (l' := [(2, .int (x2 + 1)), (0, .ref a0), (1, .int x1)]) dX9_image_48 rfl (addI (by decide)) (Nat.le_of_ble_eq_true rfl) rfl ?_
    refine E_goto (tgt := 23) dX9_image_51 (by decide) ?_
    refine Eg.pick [1, 2, 0] rfl ?_
    exact hk23 _ _ _ _ h
def rX9_image_23 : Nat → Mm → Nat → Int32 → Int32 → Option (Int32 × Mm)
  | 0, _, _, _, _ => none
  | n + 1, u, a0, x1, x2 => bX9_image_23 (rX9_image_23 n) u a0 x1 x2
theorem prX9_image_23 {r : Int32} {u' : Mm} : ∀ (n : Nat) (u : Mm) (a0 : Nat) (x1 : Int32) (x2 : Int32), rX9_image_23 n u a0 x1 x2 = some (r, u') → Eg MX9_image 1 0 0 (some (.int r), u') 23 [(0, .ref a0), (1, .int x1), (2, .int x2)] [] u
  | 0, _, _, _, _, h => by cases h
  | n + 1, u, a0, x1, x2, h => pX9_image_23 (prX9_image_23 n) u a0 x1 x2 h
def fX9_image (u : Mm) (a0 : Nat) (x1 : Int32) : Option (Int32 × Mm) := oK u a0 9 54 (oU (wI u a0 (upd (mI u a0) 0 0)) (fun u1 => oB (fX9_in u1 (Int32.toInt64 x1) 0 1) (fun v2 u3 => (if (v2 : Int32) = 0 then oR u3 a0 9 (oB (fX9_answer u3 a0 ((-1))) (fun v12 u13 => some (v12, u13))) else rX9_image_23 hwF u3 a0 x1 0))))
set_option maxRecDepth 100000 in
set_option maxHeartbeats 4000000 in
theorem tX9_image {u : Mm} {a0 : Nat} {x1 : Int32} {r : Int32} {u' : Mm} (h : fX9_image u a0 x1 = some (r, u')) : Ev 1 MX9_image 0 0 [.ref a0, .int x1] u (some (.int r), u') := by
  refine Ev.of (by decide +kernel) (Nat.le_of_ble_eq_true rfl) (show Eg MX9_image 1 0 0 (some (.int r), u') 0 [(0, .ref a0), (1, .int x1)] [] u from ?_)
  unfold fX9_image at h
  refine E_aload_n dX9_image_0 rfl rfl ?_
  refine E_iconst (v := 0) dX9_image_1 (by decide) ?_
  refine E_putI h dX9_image_2 cf9 lk_X9_134 (by decide) (Or.inl rfl) rfl (fun h => ?_)
  refine E_oU h (fun u1 h => ?_)
  refine E_iload_n dX9_image_5 rfl rfl ?_
  refine E_i2l dX9_image_6 ?_
  refine E_lconst (v := 0) dX9_image_7 (by decide) ?_
  refine E_lconst (v := 1) dX9_image_8 (by decide) ?_
  refine F_Si h (fun a m e => tX9_in e) dX9_image_9 hm_X9_in hs_X9_in ln_X9_154 rfl rfl (Nat.le_of_ble_eq_true rfl) (Nat.le_of_ble_eq_true rfl) (kc' := 0) (ks' := 0) rfl rfl (fun v2 u3 h => ?_)
  refine E_if_ne (tgt := 21) h dX9_image_12 (by decide) (fun h => ?_) (fun h => ?_)
  · refine E_iconst (v := 0) dX9_image_21 (by decide) ?_
    refine E_istore_n (l' := [(2, .int 0), (0, .ref a0), (1, .int x1)]) dX9_image_22 rfl (Nat.le_of_ble_eq_true rfl) rfl ?_
    refine Eg.pick [1, 2, 0] rfl ?_
    exact prX9_image_23 _ _ _ _ _ h
  · refine E_aload_n dX9_image_15 rfl rfl ?_
    refine E_iconst (v := (-1)) dX9_image_16 (by decide) ?_
    refine F_Vi h (fun a m e => tX9_answer e) dX9_image_17 hm_X9_answer hv_X9_answer ln_X9_143 rfl rfl (Nat.le_of_ble_eq_true rfl) (Nat.le_of_ble_eq_true rfl) (kc' := 0) (ks' := 0) rfl rfl (fun v12 u13 h => ?_)
    exact E_iret h dX9_image_20 rfl
def bX9_back_39 (k39 : Mm → Nat → Int32 → Int32 → Option (Int32 × Mm)) (u : Mm) (a0 : Nat) (x1 : Int32) (x2 : Int32) : Option (Int32 × Mm) := (if (5530 : Int32) ≤ x2 then oR u a0 9 (oB (fX9_settled u a0 0) (fun v6 u7 => some (v6, u7))) else oK u a0 9 54 (oNn (mR u a0 3) (fun e8 => oK u a0 9 54 (oNn (mR u a0 4) (fun e9 => oA u e9 10 (((5530 : Int32) * x1) + x2) (oI (mI u e9 (Int32.toNatClampNeg (((5530 : Int32) * x1) + x2))) (fun v10 => oA u e8 10 x2 (oU (wI u e8 (upd (mI u e8) (Int32.toNatClampNeg x2) v10)) (fun u11 => k39 u11 a0 x1 (x2 + 1))))))))))
set_option maxRecDepth 100000 in
set_option maxHeartbeats 4000000 in
theorem pX9_back_39 {r : Int32} {u' : Mm} {k39 : Mm → Nat → Int32 → Int32 → Option (Int32 × Mm)} (hk39 : ∀ (u : Mm) (a0 : Nat) (x1 : Int32) (x2 : Int32), k39 u a0 x1 x2 = some (r, u') → Eg MX9_back 2 0 0 (some (.int r), u') 39 [(0, .ref a0), (1, .int x1), (2, .int x2)] [] u) (u : Mm) (a0 : Nat) (x1 : Int32) (x2 : Int32) (h : bX9_back_39 k39 u a0 x1 x2 = some (r, u')) : Eg MX9_back 2 0 0 (some (.int r), u') 39 [(0, .ref a0), (1, .int x1), (2, .int x2)] [] u := by
  unfold bX9_back_39 at h
  refine E_iload_n dX9_back_39 rfl rfl ?_
  refine E_sipush (v := 5530) dX9_back_40 (by decide) ?_
  refine E_ic_ge (tgt := 70) h dX9_back_43 (by decide) (fun h => ?_) (fun h => ?_)
  · refine E_aload_n dX9_back_70 rfl rfl ?_
    refine E_iconst (v := 0) dX9_back_71 (by decide) ?_
    refine F_Vi h (fun a m e => tX9_settled e) dX9_back_72 hm_X9_settled hv_X9_settled ln_X9_158 rfl rfl (Nat.le_of_ble_eq_true rfl) (Nat.le_of_ble_eq_true rfl) (kc' := 0) (ks' := 0) rfl rfl (fun v6 u7 h => ?_)
    exact E_iret h dX9_back_75 rfl
  · refine E_aload_n dX9_back_46 rfl rfl ?_
    refine E_getA h dX9_back_47 cf9 lk_X9_13 (by decide) (fun _ _ _ => rfl) (fun e8 h => ?_)
    refine E_iload_n dX9_back_50 rfl rfl ?_
    refine E_aload_n dX9_back_51 rfl rfl ?_
    refine E_getA h dX9_back_52 cf9 lk_X9_16 (by decide) (fun _ _ _ => rfl) (fun e9 h => ?_)
    refine E_sipush (v := 5530) dX9_back_55 (by decide) ?_
    refine E_iload_n dX9_back_58 rfl rfl ?_
    refine E_imul dX9_back_59 ?_
    refine E_iload_n dX9_back_60 rfl rfl ?_
    refine E_iadd dX9_back_61 ?_
    refine E_iald h dX9_back_62 (fun h => ?_)
    refine E_oI h (fun v10 h => ?_)
    refine E_iast h dX9_back_63 (fun h => ?_)
    refine E_oU h (fun u11 h => ?_)
    refine E_iinc (j := 2) (v := x2 + 1) (l' := [(2, .int (x2 + 1)), (0, .ref a0), (1, .int x1)]) dX9_back_64 rfl (addI (by decide)) (Nat.le_of_ble_eq_true rfl) rfl ?_
    refine E_goto (tgt := 39) dX9_back_67 (by decide) ?_
    refine Eg.pick [1, 2, 0] rfl ?_
    exact hk39 _ _ _ _ h
def rX9_back_39 : Nat → Mm → Nat → Int32 → Int32 → Option (Int32 × Mm)
  | 0, _, _, _, _ => none
  | n + 1, u, a0, x1, x2 => bX9_back_39 (rX9_back_39 n) u a0 x1 x2
theorem prX9_back_39 {r : Int32} {u' : Mm} : ∀ (n : Nat) (u : Mm) (a0 : Nat) (x1 : Int32) (x2 : Int32), rX9_back_39 n u a0 x1 x2 = some (r, u') → Eg MX9_back 2 0 0 (some (.int r), u') 39 [(0, .ref a0), (1, .int x1), (2, .int x2)] [] u
  | 0, _, _, _, _, h => by cases h
  | n + 1, u, a0, x1, x2, h => pX9_back_39 (prX9_back_39 n) u a0 x1 x2 h
def fX9_back (u : Mm) (a0 : Nat) (x1 : Int32) : Option (Int32 × Mm) := oK u a0 9 54 (oU (wI u a0 (upd (mI u a0) 0 0)) (fun u1 => oB (fX9_in u1 (Int32.toInt64 x1) 0 1) (fun v2 u3 => (if (v2 : Int32) = 0 then oR u3 a0 9 (oB (fX9_answer u3 a0 ((-1))) (fun v14 u15 => some (v14, u15))) else oK u3 a0 9 54 (oNn (mR u3 a0 5) (fun e4 => oA u3 e4 12 x1 (oI (mI u3 e4 (Int32.toNatClampNeg x1)) (fun v5 => (if (v5 : Int32) = 0 then oR u3 a0 9 (oB (fX9_answer u3 a0 ((-2))) (fun v12 u13 => some (v12, u13))) else rX9_back_39 hwF u3 a0 x1 0)))))))))
set_option maxRecDepth 100000 in
set_option maxHeartbeats 4000000 in
theorem tX9_back {u : Mm} {a0 : Nat} {x1 : Int32} {r : Int32} {u' : Mm} (h : fX9_back u a0 x1 = some (r, u')) : Ev 2 MX9_back 0 0 [.ref a0, .int x1] u (some (.int r), u') := by
  refine Ev.of (by decide +kernel) (Nat.le_of_ble_eq_true rfl) (show Eg MX9_back 2 0 0 (some (.int r), u') 0 [(0, .ref a0), (1, .int x1)] [] u from ?_)
  unfold fX9_back at h
  refine E_aload_n dX9_back_0 rfl rfl ?_
  refine E_iconst (v := 0) dX9_back_1 (by decide) ?_
  refine E_putI h dX9_back_2 cf9 lk_X9_134 (by decide) (Or.inl rfl) rfl (fun h => ?_)
  refine E_oU h (fun u1 h => ?_)
  refine E_iload_n dX9_back_5 rfl rfl ?_
  refine E_i2l dX9_back_6 ?_
  refine E_lconst (v := 0) dX9_back_7 (by decide) ?_
  refine E_lconst (v := 1) dX9_back_8 (by decide) ?_
  refine F_Si h (fun a m e => tX9_in e) dX9_back_9 hm_X9_in hs_X9_in ln_X9_154 rfl rfl (Nat.le_of_ble_eq_true rfl) (Nat.le_of_ble_eq_true rfl) (kc' := 0) (ks' := 0) rfl rfl (fun v2 u3 h => ?_)
  refine E_if_ne (tgt := 21) h dX9_back_12 (by decide) (fun h => ?_) (fun h => ?_)
  · refine E_aload_n dX9_back_21 rfl rfl ?_
    refine E_getA h dX9_back_22 cf9 lk_X9_19 (by decide) (fun _ _ _ => rfl) (fun e4 h => ?_)
    refine E_iload_n dX9_back_25 rfl rfl ?_
    refine E_zald h dX9_back_26 (fun h => ?_)
    refine E_oI h (fun v5 h => ?_)
    refine E_if_ne (tgt := 37) h dX9_back_27 (by decide) (fun h => ?_) (fun h => ?_)
    · refine E_iconst (v := 0) dX9_back_37 (by decide) ?_
      refine E_istore_n (l' := [(2, .int 0), (0, .ref a0), (1, .int x1)]) dX9_back_38 rfl (Nat.le_of_ble_eq_true rfl) rfl ?_
      refine Eg.pick [1, 2, 0] rfl ?_
      exact prX9_back_39 _ _ _ _ _ h
    · refine E_aload_n dX9_back_30 rfl rfl ?_
      refine E_bipush (v := (-2)) dX9_back_31 (by decide) ?_
      refine F_Vi h (fun a m e => tX9_answer e) dX9_back_33 hm_X9_answer hv_X9_answer ln_X9_143 rfl rfl (Nat.le_of_ble_eq_true rfl) (Nat.le_of_ble_eq_true rfl) (kc' := 0) (ks' := 0) rfl rfl (fun v12 u13 h => ?_)
      exact E_iret h dX9_back_36 rfl
  · refine E_aload_n dX9_back_15 rfl rfl ?_
    refine E_iconst (v := (-1)) dX9_back_16 (by decide) ?_
    refine F_Vi h (fun a m e => tX9_answer e) dX9_back_17 hm_X9_answer hv_X9_answer ln_X9_143 rfl rfl (Nat.le_of_ble_eq_true rfl) (Nat.le_of_ble_eq_true rfl) (kc' := 0) (ks' := 0) rfl rfl (fun v14 u15 h => ?_)
    exact E_iret h dX9_back_20 rfl
def fX9_isSide (u : Mm) (x0 : Int32) : Option (Int32 × Mm) := oB (fX9_in u (Int32.toInt64 x0) 0 1) (fun v1 u2 => oZ v1 (some (v1, u2)))
set_option maxRecDepth 100000 in
set_option maxHeartbeats 4000000 in
theorem tX9_isSide {u : Mm} {x0 : Int32} {r : Int32} {u' : Mm} (h : fX9_isSide u x0 = some (r, u')) : Ev 1 MX9_isSide 0 0 [.int x0] u (some (.int r), u') := by
  refine Ev.of (by decide +kernel) (Nat.le_of_ble_eq_true rfl) (show Eg MX9_isSide 1 0 0 (some (.int r), u') 0 [(0, .int x0)] [] u from ?_)
  unfold fX9_isSide at h
  refine E_iload_n dX9_isSide_0 rfl rfl ?_
  refine E_i2l dX9_isSide_1 ?_
  refine E_lconst (v := 0) dX9_isSide_2 (by decide) ?_
  refine E_lconst (v := 1) dX9_isSide_3 (by decide) ?_
  refine F_Si h (fun a m e => tX9_in e) dX9_isSide_4 hm_X9_in hs_X9_in ln_X9_154 rfl rfl (Nat.le_of_ble_eq_true rfl) (Nat.le_of_ble_eq_true rfl) (kc' := 0) (ks' := 0) rfl rfl (fun v1 u2 h => ?_)
  exact E_zret h dX9_isSide_7 rfl
def fX9_isEight (u : Mm) (x0 : Int32) : Option (Int32 × Mm) := oB (fX9_in u (Int32.toInt64 x0) 0 7) (fun v1 u2 => oZ v1 (some (v1, u2)))
set_option maxRecDepth 100000 in
set_option maxHeartbeats 4000000 in
theorem tX9_isEight {u : Mm} {x0 : Int32} {r : Int32} {u' : Mm} (h : fX9_isEight u x0 = some (r, u')) : Ev 1 MX9_isEight 0 0 [.int x0] u (some (.int r), u') := by
  refine Ev.of (by decide +kernel) (Nat.le_of_ble_eq_true rfl) (show Eg MX9_isEight 1 0 0 (some (.int r), u') 0 [(0, .int x0)] [] u from ?_)
  unfold fX9_isEight at h
  refine E_iload_n dX9_isEight_0 rfl rfl ?_
  refine E_i2l dX9_isEight_1 ?_
  refine E_lconst (v := 0) dX9_isEight_2 (by decide) ?_
  refine E_ldc2 dX9_isEight_3 rfl cn_X9_161 ?_
  refine F_Si h (fun a m e => tX9_in e) dX9_isEight_6 hm_X9_in hs_X9_in ln_X9_154 rfl rfl (Nat.le_of_ble_eq_true rfl) (Nat.le_of_ble_eq_true rfl) (kc' := 0) (ks' := 0) rfl rfl (fun v1 u2 h => ?_)
  exact E_zret h dX9_isEight_9 rfl
def fX9_menOf (u : Mm) (a0 : Nat) (x1 : Int32) (x2 : Int32) : Option (Int32 × Mm) := oK u a0 9 54 (oNn (mR u a0 3) (fun e1 => oA u e1 10 (((15 : Int32) + ((8 : Int32) * x1)) + x2) (oI (mI u e1 (Int32.toNatClampNeg (((15 : Int32) + ((8 : Int32) * x1)) + x2))) (fun v2 => some (v2, u)))))
set_option maxRecDepth 100000 in
set_option maxHeartbeats 4000000 in
theorem tX9_menOf {u : Mm} {a0 : Nat} {x1 : Int32} {x2 : Int32} {r : Int32} {u' : Mm} (h : fX9_menOf u a0 x1 x2 = some (r, u')) : Ev 0 MX9_menOf 0 0 [.ref a0, .int x1, .int x2] u (some (.int r), u') := by
  refine Ev.of (by decide +kernel) (Nat.le_of_ble_eq_true rfl) (show Eg MX9_menOf 0 0 0 (some (.int r), u') 0 [(0, .ref a0), (1, .int x1), (2, .int x2)] [] u from ?_)
  unfold fX9_menOf at h
  refine E_aload_n dX9_menOf_0 rfl rfl ?_
  refine E_getA h dX9_menOf_1 cf9 lk_X9_13 (by decide) (fun _ _ _ => rfl) (fun e1 h => ?_)
  refine E_bipush (v := 15) dX9_menOf_4 (by decide) ?_
  refine E_bipush (v := 8) dX9_menOf_6 (by decide) ?_
  refine E_iload_n dX9_menOf_8 rfl rfl ?_
  refine E_imul dX9_menOf_9 ?_
  refine E_iadd dX9_menOf_10 ?_
  refine E_iload_n dX9_menOf_11 rfl rfl ?_
  refine E_iadd dX9_menOf_12 ?_
  refine E_iald h dX9_menOf_13 (fun h => ?_)
  refine E_oI h (fun v2 h => ?_)
  exact E_iret h dX9_menOf_14 rfl
def bX9_allMen_4 (k4 : Mm → Nat → Int32 → Int32 → Int32 → Option (Int32 × Mm)) (u : Mm) (a0 : Nat) (x1 : Int32) (x2 : Int32) (x3 : Int32) : Option (Int32 × Mm) := (if (8 : Int32) ≤ x3 then some (x2, u) else oR u a0 9 (oB (fX9_menOf u a0 x1 x3) (fun v1 u2 => oI (x2 + v1) (fun v3 => k4 u2 a0 x1 v3 (x3 + 1)))))
set_option maxRecDepth 100000 in
set_option maxHeartbeats 4000000 in
theorem pX9_allMen_4 {r : Int32} {u' : Mm} {k4 : Mm → Nat → Int32 → Int32 → Int32 → Option (Int32 × Mm)} (hk4 : ∀ (u : Mm) (a0 : Nat) (x1 : Int32) (x2 : Int32) (x3 : Int32), k4 u a0 x1 x2 x3 = some (r, u') → Eg MX9_allMen 1 0 0 (some (.int r), u') 4 [(0, .ref a0), (1, .int x1), (2, .int x2), (3, .int x3)] [] u) (u : Mm) (a0 : Nat) (x1 : Int32) (x2 : Int32) (x3 : Int32) (h : bX9_allMen_4 k4 u a0 x1 x2 x3 = some (r, u')) : Eg MX9_allMen 1 0 0 (some (.int r), u') 4 [(0, .ref a0), (1, .int x1), (2, .int x2), (3, .int x3)] [] u := by
  unfold bX9_allMen_4 at h
  refine E_iload_n dX9_allMen_4 rfl rfl ?_
  refine E_bipush (v := 8) dX9_allMen_5 (by decide) ?_
  refine E_ic_ge (tgt := 25) h dX9_allMen_7 (by decide) (fun h => ?_) (fun h => ?_)
  · refine E_iload_n dX9_allMen_25 rfl rfl ?_
    exact E_iret h dX9_allMen_26 rfl
  · refine E_iload_n dX9_allMen_10 rfl rfl ?_
    refine E_aload_n dX9_allMen_11 rfl rfl ?_
    refine E_iload_n dX9_allMen_12 rfl rfl ?_
    refine E_iload_n dX9_allMen_13 rfl rfl ?_
    refine F_Vi h (fun a m e => tX9_menOf e) dX9_allMen_14 hm_X9_menOf hv_X9_menOf ln_X9_163 rfl rfl (Nat.le_of_ble_eq_true rfl) (Nat.le_of_ble_eq_true rfl) (kc' := 0) (ks' := 0) rfl rfl (fun v1 u2 h => ?_)
    refine E_iadd dX9_allMen_17 ?_
    refine E_oI h (fun v3 h => ?_)
    refine E_istore_n (l' := [(2, .int v3), (0, .ref a0), (1, .int x1), (3, .int x3)]) dX9_allMen_18 rfl (Nat.le_of_ble_eq_true rfl) rfl ?_
    refine E_iinc (j := 3) (v := x3 + 1) (l' := [(3, .int (x3 + 1)), (2, .int v3), (0, .ref a0), (1, .int x1)]) dX9_allMen_19 rfl (addI (by decide)) (Nat.le_of_ble_eq_true rfl) rfl ?_
    refine E_goto (tgt := 4) dX9_allMen_22 (by decide) ?_
    refine Eg.pick [2, 3, 1, 0] rfl ?_
    exact hk4 _ _ _ _ _ h
def rX9_allMen_4 : Nat → Mm → Nat → Int32 → Int32 → Int32 → Option (Int32 × Mm)
  | 0, _, _, _, _, _ => none
  | n + 1, u, a0, x1, x2, x3 => bX9_allMen_4 (rX9_allMen_4 n) u a0 x1 x2 x3
theorem prX9_allMen_4 {r : Int32} {u' : Mm} : ∀ (n : Nat) (u : Mm) (a0 : Nat) (x1 : Int32) (x2 : Int32) (x3 : Int32), rX9_allMen_4 n u a0 x1 x2 x3 = some (r, u') → Eg MX9_allMen 1 0 0 (some (.int r), u') 4 [(0, .ref a0), (1, .int x1), (2, .int x2), (3, .int x3)] [] u
  | 0, _, _, _, _, _, h => by cases h
  | n + 1, u, a0, x1, x2, x3, h => pX9_allMen_4 (prX9_allMen_4 n) u a0 x1 x2 x3 h
def fX9_allMen (u : Mm) (a0 : Nat) (x1 : Int32) : Option (Int32 × Mm) := rX9_allMen_4 hwF u a0 x1 0 0
set_option maxRecDepth 100000 in
set_option maxHeartbeats 4000000 in
theorem tX9_allMen {u : Mm} {a0 : Nat} {x1 : Int32} {r : Int32} {u' : Mm} (h : fX9_allMen u a0 x1 = some (r, u')) : Ev 1 MX9_allMen 0 0 [.ref a0, .int x1] u (some (.int r), u') := by
  refine Ev.of (by decide +kernel) (Nat.le_of_ble_eq_true rfl) (show Eg MX9_allMen 1 0 0 (some (.int r), u') 0 [(0, .ref a0), (1, .int x1)] [] u from ?_)
  unfold fX9_allMen at h
  refine E_iconst (v := 0) dX9_allMen_0 (by decide) ?_
  refine E_istore_n (l' := [(2, .int 0), (0, .ref a0), (1, .int x1)]) dX9_allMen_1 rfl (Nat.le_of_ble_eq_true rfl) rfl ?_
  refine E_iconst (v := 0) dX9_allMen_2 (by decide) ?_
  refine E_istore_n (l' := [(3, .int 0), (2, .int 0), (0, .ref a0), (1, .int x1)]) dX9_allMen_3 rfl (Nat.le_of_ble_eq_true rfl) rfl ?_
  refine Eg.pick [2, 3, 1, 0] rfl ?_
  exact prX9_allMen_4 _ _ _ _ _ _ h
def bX9_men_31 (u : Mm) (a0 : Nat) : Option (Int32 × Mm) := oR u a0 9 (oB (fX9_answer u a0 ((-1))) (fun v4 u5 => some (v4, u5)))
set_option maxRecDepth 100000 in
set_option maxHeartbeats 4000000 in
theorem pX9_men_31 {r : Int32} {u' : Mm} (u : Mm) (a0 : Nat) (h : bX9_men_31 u a0 = some (r, u')) : Eg MX9_men 2 0 0 (some (.int r), u') 31 [(0, .ref a0)] [] u := by
  unfold bX9_men_31 at h
  refine E_aload_n dX9_men_31 rfl rfl ?_
  refine E_iconst (v := (-1)) dX9_men_32 (by decide) ?_
  refine F_Vi h (fun a m e => tX9_answer e) dX9_men_33 hm_X9_answer hv_X9_answer ln_X9_143 rfl rfl (Nat.le_of_ble_eq_true rfl) (Nat.le_of_ble_eq_true rfl) (kc' := 0) (ks' := 0) rfl rfl (fun v4 u5 h => ?_)
  exact E_iret h dX9_men_36 rfl
def fX9_men (u : Mm) (a0 : Nat) (x1 : Int32) (x2 : Int32) (x3 : Int32) : Option (Int32 × Mm) := oK u a0 9 54 (oU (wI u a0 (upd (mI u a0) 0 0)) (fun u1 => oB (fX9_isSide u1 x1) (fun v2 u3 => (if (v2 : Int32) = 0 then bX9_men_31 u3 a0 else oB (fX9_isEight u3 x2) (fun v6 u7 => (if (v6 : Int32) = 0 then bX9_men_31 u7 a0 else oB (fX9_in u7 (Int32.toInt64 x3) 0 99) (fun v8 u9 => (if (v8 : Int32) = 0 then bX9_men_31 u9 a0 else oK u9 a0 9 54 (oU (wI u9 a0 (upd (mI u9 a0) 8 0)) (fun u10 => oR u10 a0 9 (oB (fX9_change u10 a0 (((15 : Int32) + ((8 : Int32) * x1)) + x2) x3) (fun v11 u12 => some (v11, u12)))))))))))))
set_option maxRecDepth 100000 in
set_option maxHeartbeats 4000000 in
theorem tX9_men {u : Mm} {a0 : Nat} {x1 : Int32} {x2 : Int32} {x3 : Int32} {r : Int32} {u' : Mm} (h : fX9_men u a0 x1 x2 x3 = some (r, u')) : Ev 2 MX9_men 0 0 [.ref a0, .int x1, .int x2, .int x3] u (some (.int r), u') := by
  refine Ev.of (by decide +kernel) (Nat.le_of_ble_eq_true rfl) (show Eg MX9_men 2 0 0 (some (.int r), u') 0 [(0, .ref a0), (1, .int x1), (2, .int x2), (3, .int x3)] [] u from ?_)
  unfold fX9_men at h
  refine E_aload_n dX9_men_0 rfl rfl ?_
  refine E_iconst (v := 0) dX9_men_1 (by decide) ?_
  refine E_putI h dX9_men_2 cf9 lk_X9_134 (by decide) (Or.inl rfl) rfl (fun h => ?_)
  refine E_oU h (fun u1 h => ?_)
  refine E_iload_n dX9_men_5 rfl rfl ?_
  refine F_Si h (fun a m e => tX9_isSide e) dX9_men_6 hm_X9_isSide hs_X9_isSide ln_X9_167 rfl rfl (Nat.le_of_ble_eq_true rfl) (Nat.le_of_ble_eq_true rfl) (kc' := 0) (ks' := 0) rfl rfl (fun v2 u3 h => ?_)
  refine E_if_eq (tgt := 31) h dX9_men_9 (by decide) (fun h => ?_) (fun h => ?_)
  · refine Eg.pick [0] rfl ?_
    exact pX9_men_31 _ _ h
  · refine E_iload_n dX9_men_12 rfl rfl ?_
    refine F_Si h (fun a m e => tX9_isEight e) dX9_men_13 hm_X9_isEight hs_X9_isEight ln_X9_171 rfl rfl (Nat.le_of_ble_eq_true rfl) (Nat.le_of_ble_eq_true rfl) (kc' := 0) (ks' := 0) rfl rfl (fun v6 u7 h => ?_)
    refine E_if_eq (tgt := 31) h dX9_men_16 (by decide) (fun h => ?_) (fun h => ?_)
    · refine Eg.pick [0] rfl ?_
      exact pX9_men_31 _ _ h
    · refine E_iload_n dX9_men_19 rfl rfl ?_
      refine E_i2l dX9_men_20 ?_
      refine E_lconst (v := 0) dX9_men_21 (by decide) ?_
      refine E_ldc2 dX9_men_22 rfl cn_X9_174 ?_
      refine F_Si h (fun a m e => tX9_in e) dX9_men_25 hm_X9_in hs_X9_in ln_X9_154 rfl rfl (Nat.le_of_ble_eq_true rfl) (Nat.le_of_ble_eq_true rfl) (kc' := 0) (ks' := 0) rfl rfl (fun v8 u9 h => ?_)
      refine E_if_ne (tgt := 37) h dX9_men_28 (by decide) (fun h => ?_) (fun h => ?_)
      · refine E_aload_n dX9_men_37 rfl rfl ?_
        refine E_iconst (v := 0) dX9_men_38 (by decide) ?_
        refine E_putI h dX9_men_39 cf9 lk_X9_140 (by decide) (Or.inl rfl) rfl (fun h => ?_)
        refine E_oU h (fun u10 h => ?_)
        refine E_aload_n dX9_men_42 rfl rfl ?_
        refine E_bipush (v := 15) dX9_men_43 (by decide) ?_
        refine E_bipush (v := 8) dX9_men_45 (by decide) ?_
        refine E_iload_n dX9_men_47 rfl rfl ?_
        refine E_imul dX9_men_48 ?_
        refine E_iadd dX9_men_49 ?_
        refine E_iload_n dX9_men_50 rfl rfl ?_
        refine E_iadd dX9_men_51 ?_
        refine E_iload_n dX9_men_52 rfl rfl ?_
        refine F_Vi h (fun a m e => tX9_change e) dX9_men_53 hm_X9_change hv_X9_change ln_X9_176 rfl rfl (Nat.le_of_ble_eq_true rfl) (Nat.le_of_ble_eq_true rfl) (kc' := 0) (ks' := 0) rfl rfl (fun v11 u12 h => ?_)
        exact E_iret h dX9_men_56 rfl
      · refine Eg.pick [0] rfl ?_
        exact pX9_men_31 _ _ h
